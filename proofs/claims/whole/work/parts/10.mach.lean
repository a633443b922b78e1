/-! A LITTLE MACHINE over pictures of the heap: what the code does, without tables and frames; 'xs_' rows: it tells the truth of the JVM. -/
/-- a cell: (kind, contents). kind 0: nothing is known; 1: int[], 2: long[], 3: byte[], 4: boolean[]; 16 + c: an object of number c of 'vwCl' -/
abbrev xmE : Type := Nat × List Value
/-- a heap: its cells by address, the next address, slots in use -/
abbrev xmH : Type := (Nat → xmE) × Nat × Nat
abbrev xmL : Type := List (Nat × Value)
/-- pc, locals, operands, heap -/
abbrev xmC : Type := Nat × xmL × List Value × xmH
/-- an instruction, its length, and what its numbers stand for -/
abbrev xmI : Type := ClassFile.Instr × Nat × List Nat
/-- numbers of kinds, slots of fields, kinds of arrays, the first address that is ours; where texts and their bytes lie; where the script lies, and what it holds; a reference or null of another's -/
abbrev xmV : Type := (Nat → ClassId) × (Nat → Nat → Nat) × (Nat → ClassId) × Nat × (Nat → Nat) × (Nat → Nat) × Nat × List Int32 × Option Nat
/-- where a constant of another's lies: texts, their bytes, the script -/
def xmSt (V : xmV) (k : Nat) : Nat := if k < 1000 then V.2.2.2.2.1 k else if k < 2000 then V.2.2.2.2.2.1 (k - 1000) else V.2.2.2.2.2.2.1
/-- a value of the little machine, as the JVM has it: addresses are counted from the first one that is ours; .retAddr stands for a constant of another's -/
def xmRo (V : xmV) : Value → Value
  | .ref k => .ref (V.2.2.2.1 + k)
  | .retAddr k => .ref (xmSt V k)
  | .float _ => va_rf V.2.2.2.2.2.2.2.2
  | v => v
theorem xmRo_cat (V : xmV) (v : Value) : (xmRo V v).category = v.category := by
  cases v <;> first | rfl | (show (va_rf V.2.2.2.2.2.2.2.2).category = 1; cases V.2.2.2.2.2.2.2.2 <;> rfl)
def xmLm (V : xmV) (lv : xmL) : xmL := lv.map (fun q => (q.1, xmRo V q.2))
def xmTy : Nat → FieldType
  | 1 => .int
  | 2 => .long
  | 3 => .byte
  | _ => .boolean
def xmGet : xmL → Nat → Option Value
  | [], _ => none
  | q :: lv, i => if q.1 = i then some q.2 else xmGet lv i
def xmPut1 (lv : xmL) (i : Nat) (v : Value) : xmL := (i, v) :: lv.filter (fun q => !(q.1 == i) && !(q.1 + 1 == i && q.2.category == 2))
def xmPut2 (lv : xmL) (i : Nat) (v : Value) : xmL := (i, v) :: lv.filter (fun q => !(q.1 == i) && (!(q.1 == i + 1) && !(q.1 + 1 == i && q.2.category == 2)))
def xmUp {α : Type} (f : Nat → α) (a : Nat) (x : α) : Nat → α := fun j => if j = a then x else f j
theorem xmUp_self {α : Type} (f : Nat → α) (a : Nat) (x : α) : xmUp f a x a = x := if_pos rfl
theorem xmUp_ne {α : Type} (f : Nat → α) {a j : Nat} (x : α) (h : j ≠ a) : xmUp f a x j = f j := if_neg h
def xmCmp : ClassFile.Cond → Int32 → Int32 → Bool
  | .eq, x, y => decide (x = y)
  | .ne, x, y => decide (¬ x = y)
  | .lt, x, y => decide (x < y)
  | .ge, x, y => decide (y ≤ x)
  | .gt, x, y => decide (y < x)
  | .le, x, y => decide (x ≤ y)
def xmPush (n : Nat) (v : Value) (c : xmC) : Option xmC := some (c.1 + n, c.2.1, v :: c.2.2.1, c.2.2.2)
def xmLdI (n i : Nat) (c : xmC) : Option xmC := match xmGet c.2.1 i with
  | some (.int x) => some (c.1 + n, c.2.1, .int x :: c.2.2.1, c.2.2.2)
  | _ => none
def xmLdL (n i : Nat) (c : xmC) : Option xmC := match xmGet c.2.1 i with
  | some (.long x) => some (c.1 + n, c.2.1, .long x :: c.2.2.1, c.2.2.2)
  | _ => none
def xmLdA (n i : Nat) (c : xmC) : Option xmC := match xmGet c.2.1 i with
  | some (.ref x) => some (c.1 + n, c.2.1, .ref x :: c.2.2.1, c.2.2.2)
  | some (.retAddr x) => some (c.1 + n, c.2.1, .retAddr x :: c.2.2.1, c.2.2.2)
  | _ => none
def xmStI (n i : Nat) (c : xmC) : Option xmC := match c.2.2.1 with
  | .int x :: r => some (c.1 + n, xmPut1 c.2.1 i (.int x), r, c.2.2.2)
  | _ => none
def xmStL (n i : Nat) (c : xmC) : Option xmC := match c.2.2.1 with
  | .long x :: r => some (c.1 + n, xmPut2 c.2.1 i (.long x), r, c.2.2.2)
  | _ => none
def xmStA (n i : Nat) (c : xmC) : Option xmC := match c.2.2.1 with
  | .ref x :: r => some (c.1 + n, xmPut1 c.2.1 i (.ref x), r, c.2.2.2)
  | .retAddr x :: r => some (c.1 + n, xmPut1 c.2.1 i (.retAddr x), r, c.2.2.2)
  | _ => none
def xmInc (i : Nat) (n : Int) (c : xmC) : Option xmC := match xmGet c.2.1 i with
  | some (.int x) => some (c.1 + 3, xmPut1 c.2.1 i (.int (x + Int32.ofInt n)), c.2.2.1, c.2.2.2)
  | _ => none
def xmII (f : Int32 → Int32 → Int32) (c : xmC) : Option xmC := match c.2.2.1 with
  | .int y :: .int x :: r => some (c.1 + 1, c.2.1, .int (f x y) :: r, c.2.2.2)
  | _ => none
def xmDv (f : Int32 → Int32 → Int32) (c : xmC) : Option xmC := match c.2.2.1 with
  | .int y :: .int x :: r => if y = 0 then none else some (c.1 + 1, c.2.1, .int (f x y) :: r, c.2.2.2)
  | _ => none
def xmLL (f : Int64 → Int64 → Int64) (c : xmC) : Option xmC := match c.2.2.1 with
  | .long y :: .long x :: r => some (c.1 + 1, c.2.1, .long (f x y) :: r, c.2.2.2)
  | _ => none
def xmLI (f : Int64 → Int32 → Int64) (c : xmC) : Option xmC := match c.2.2.1 with
  | .int y :: .long x :: r => some (c.1 + 1, c.2.1, .long (f x y) :: r, c.2.2.2)
  | _ => none
def xmCmpL (c : xmC) : Option xmC := match c.2.2.1 with
  | .long y :: .long x :: r => some (c.1 + 1, c.2.1, .int (lg_cmp x y) :: r, c.2.2.2)
  | _ => none
def xmUI (f : Int32 → Value) (c : xmC) : Option xmC := match c.2.2.1 with
  | .int x :: r => some (c.1 + 1, c.2.1, f x :: r, c.2.2.2)
  | _ => none
def xmUL (f : Int64 → Value) (c : xmC) : Option xmC := match c.2.2.1 with
  | .long x :: r => some (c.1 + 1, c.2.1, f x :: r, c.2.2.2)
  | _ => none
def xmDup (c : xmC) : Option xmC := match c.2.2.1 with
  | .int x :: r => some (c.1 + 1, c.2.1, .int x :: .int x :: r, c.2.2.2)
  | .ref x :: r => some (c.1 + 1, c.2.1, .ref x :: .ref x :: r, c.2.2.2)
  | _ => none
def xmPop (c : xmC) : Option xmC := match c.2.2.1 with
  | .int _ :: r => some (c.1 + 1, c.2.1, r, c.2.2.2)
  | .ref _ :: r => some (c.1 + 1, c.2.1, r, c.2.2.2)
  | _ => none
def xmIf (cd : ClassFile.Cond) (t : Nat) (c : xmC) : Option xmC := match c.2.2.1 with
  | .int x :: r => some (bif xmCmp cd x 0 then t else c.1 + 3, c.2.1, r, c.2.2.2)
  | _ => none
def xmIf2 (cd : ClassFile.Cond) (t : Nat) (c : xmC) : Option xmC := match c.2.2.1 with
  | .int y :: .int x :: r => some (bif xmCmp cd x y then t else c.1 + 3, c.2.1, r, c.2.2.2)
  | _ => none
def xmDup2 (c : xmC) : Option xmC := match c.2.2.1 with
  | .int x :: .ref y :: r => some (c.1 + 1, c.2.1, .int x :: .ref y :: .int x :: .ref y :: r, c.2.2.2)
  | _ => none
def xmSw (d lo hi : Int) (os : Array Int) (c : xmC) : Option xmC := match c.2.2.1 with
  | .int x :: r => some (if x.toInt < lo ∨ hi < x.toInt then ((c.1 : Int) + d).toNat else ((c.1 : Int) + os.getD (x.toInt - lo).toNat 0).toNat, c.2.1, r, c.2.2.2)
  | _ => none
def xmLk (d : Int) (ps : Array (Int × Int)) (c : xmC) : Option xmC := match c.2.2.1 with
  | .int x :: r => some (((c.1 : Int) + Op.lookupswitch.offset ps.toList d x.toInt).toNat, c.2.1, r, c.2.2.2)
  | _ => none
/-- what an instruction does that goes neither into a method nor out of one, and leaves the heap -/
def xmPure (str : Nat → Nat) (i : xmI) (c : xmC) : Option xmC := match i.1 with
  | .iconst n => xmPush 1 (.int (Int32.ofInt n)) c
  | .bipush n => xmPush 2 (.int (Int8.ofInt n).toInt32) c
  | .sipush n => xmPush 3 (.int (Int16.ofInt n).toInt32) c
  | .lconst n => xmPush 1 (.long (Int64.ofNat (n : Nat))) c
  | .iload k => xmLdI 2 k c
  | .iload_n k => xmLdI 1 k c
  | .lload k => xmLdL 2 k c
  | .lload_n k => xmLdL 1 k c
  | .aload k => xmLdA 2 k c
  | .aload_n k => xmLdA 1 k c
  | .istore k => xmStI 2 k c
  | .istore_n k => xmStI 1 k c
  | .lstore k => xmStL 2 k c
  | .lstore_n k => xmStL 1 k c
  | .astore k => xmStA 2 k c
  | .astore_n k => xmStA 1 k c
  | .iinc k n => xmInc k n c
  | .iadd => xmII (fun x y => x + y) c
  | .isub => xmII (fun x y => x - y) c
  | .imul => xmII (fun x y => x * y) c
  | .iand => xmII (fun x y => x &&& y) c
  | .ior => xmII (fun x y => x ||| y) c
  | .ixor => xmII (fun x y => x ^^^ y) c
  | .ishl => xmII (fun x y => x <<< (y &&& 31)) c
  | .ishr => xmII (fun x y => x >>> (y &&& 31)) c
  | .idiv => xmDv (fun x y => x / y) c
  | .irem => xmDv (fun x y => x - x / y * y) c
  | .ineg => xmUI (fun x => .int (-x)) c
  | .i2l => xmUI (fun x => .long x.toInt64) c
  | .i2c => xmUI (fun x => .int (x.toUInt32 % 65536).toInt32) c
  | .l2i => xmUL (fun x => .int x.toInt32) c
  | .lneg => xmUL (fun x => .long (-x)) c
  | .ladd => xmLL (fun x y => x + y) c
  | .lsub => xmLL (fun x y => x - y) c
  | .lmul => xmLL (fun x y => x * y) c
  | .land => xmLL (fun x y => x &&& y) c
  | .lor => xmLL (fun x y => x ||| y) c
  | .lushr => xmLI (fun x y => (x.toUInt64 >>> (y.toInt64.toUInt64 &&& Int64.toUInt64 63)).toInt64) c
  | .lshl => xmLI (fun x y => x <<< (y.toInt64 &&& 63)) c
  | .lcmp => xmCmpL c
  | .dup => xmDup c
  | .pop => xmPop c
  | .dup2 => xmDup2 c
  | .i2b => xmUI (fun x => .int x.toInt8.toInt32) c
  | .lshr => xmLI (fun x y => x >>> (y.toInt64 &&& 63)) c
  | .tableswitch d lo hi os => xmSw d lo hi os c
  | .lookupswitch d ps => xmLk d ps c
  | .ldc _ => xmPush 2 (bif Nat.beq (i.2.2.getD 3 0) 1 then .retAddr (i.2.2.headD 0) else .int (nI (i.2.2.headD 0))) c
  | .ldc2_w _ => xmPush 3 (.long (lN (i.2.2.headD 0))) c
  | .goto _ => some (i.2.2.headD 0, c.2.1, c.2.2.1, c.2.2.2)
  | .ifCond cd _ => xmIf cd (i.2.2.headD 0) c
  | .if_icmp cd _ => xmIf2 cd (i.2.2.headD 0) c
  | _ => none

theorem xmGet_place {lv : xmL} {i : Nat} {v : Value} (hg : xmGet lv i = some v) : ∃ k : Nat, lv[k]? = some (i, v) := by
  induction lv with
  | nil => cases hg
  | cons q lv ih =>
    obtain ⟨a, b⟩ := q
    unfold xmGet at hg
    by_cases e : a = i
    · rw [if_pos e] at hg
      cases hg
      subst e
      exact ⟨0, rfl⟩
    · rw [if_neg e] at hg
      obtain ⟨k, hk⟩ := ih hg
      exact ⟨k + 1, hk⟩
theorem xmGet_placeM {V : xmV} {lv : xmL} {i : Nat} {v : Value} (hg : xmGet lv i = some v) : ∃ k : Nat, (xmLm V lv)[k]? = some (i, xmRo V v) := by
  obtain ⟨k, hk⟩ := xmGet_place hg
  exact ⟨k, by rw [xmLm, List.getElem?_map, hk]; rfl⟩
theorem xmGet_has {V : xmV} {ls : Array Slot} {nL : Nat} {lv : xmL} {i : Nat} {v : Value} (h : lv_has ls nL (xmLm V lv)) (hg : xmGet lv i = some v) : ls[i]? = some (.val (xmRo V v)) := by
  obtain ⟨k, hk⟩ := xmGet_placeM (V := V) hg
  exact lv_at h k hk
theorem xmPut1_m (V : xmV) (lv : xmL) (i : Nat) (v : Value) : (i, xmRo V v) :: (xmLm V lv).filter (fun q => !(q.1 == i) && !(q.1 + 1 == i && q.2.category == 2)) = xmLm V (xmPut1 lv i v) := by
  unfold xmPut1 xmLm
  rw [List.map_cons, List.filter_map]
  congr 2
  refine List.filter_congr (fun q _ => ?_)
  simp [Function.comp, xmRo_cat]
theorem xmPut2_m (V : xmV) (lv : xmL) (i : Nat) (v : Value) : (i, xmRo V v) :: (xmLm V lv).filter (fun q => !(q.1 == i) && (!(q.1 == i + 1) && !(q.1 + 1 == i && q.2.category == 2))) = xmLm V (xmPut2 lv i v) := by
  unfold xmPut2 xmLm
  rw [List.map_cons, List.filter_map]
  congr 2
  refine List.filter_congr (fun q _ => ?_)
  simp [Function.comp, xmRo_cat]
/-- what a cell of the picture says of the heap -/
def xmAt (V : xmV) (a : Nat) (z : xmE) (H : Heap) : Prop :=
  if z.1 < 16 then H[V.2.2.2.1 + a]? = some (arrV (V.2.2.1 z.1) z.2.length (fun j => xmRo V (z.2.getD j .null)))
  else ∃ r : vw_C, vwCl[z.1 - 16]? = some r ∧ r.2.2 = z.2.length ∧ t_OB (V.2.2.2.1 + a) (V.1 (z.1 - 16)) r.2.2 (V.2.1 (z.1 - 16)) H (vp_V (z.2.map (xmRo V)))
def xmCon (V : xmV) (G : xmH) (H : Heap) : Prop := H.size = V.2.2.2.1 + G.2.1 ∧ ∀ a, (G.1 a).1 ≠ 0 → xmAt V a (G.1 a) H
theorem xmAt.kept {V : xmV} {a : Nat} {z : xmE} {H H1 : Heap} (h : xmAt V a z H) (hq : H1[V.2.2.2.1 + a]? = H[V.2.2.2.1 + a]?) : xmAt V a z H1 := by
  unfold xmAt at h ⊢
  by_cases h16 : z.1 < 16
  · rw [if_pos h16] at h ⊢
    exact hq.trans h
  · rw [if_neg h16] at h ⊢
    obtain ⟨r, h1, h2, h3⟩ := h
    exact ⟨r, h1, h2, h3.kept hq⟩
theorem xmAt.lt {V : xmV} {a : Nat} {z : xmE} {H : Heap} (h : xmAt V a z H) : V.2.2.2.1 + a < H.size := by
  unfold xmAt at h
  by_cases h16 : z.1 < 16
  · rw [if_pos h16] at h
    exact (Array.getElem?_eq_some_iff.mp h).1
  · rw [if_neg h16] at h
    obtain ⟨r, h1, h2, cell, h3, -⟩ := h
    exact (Array.getElem?_eq_some_iff.mp h3).1
theorem xmCon.up {V : xmV} {G : xmH} {H H1 : Heap} {a : Nat} {z : xmE} (hC : xmCon V G H) (hsz : H1.size = H.size) (ho : ∀ q : Nat, q ≠ V.2.2.2.1 + a → H1[q]? = H[q]?) (hat : xmAt V a z H1) : xmCon V (xmUp G.1 a z, G.2) H1 := by
  refine ⟨hsz.trans hC.1, fun q hq => ?_⟩
  by_cases e : q = a
  · subst e
    show xmAt V q (xmUp G.1 q z q) H1
    rw [xmUp_self]
    exact hat
  · have h1 : (xmUp G.1 a z, G.2).1 q = G.1 q := xmUp_ne _ _ e
    rw [h1] at hq ⊢
    exact (hC.2 q hq).kept (ho _ (by omega))
theorem xmCon.push {V : xmV} {G : xmH} {H H1 : Heap} {z : xmE} {u : Nat} (hC : xmCon V G H) (hsz : H1.size = H.size + 1) (ho : ∀ q : Nat, q < H.size → H1[q]? = H[q]?) (hat : xmAt V G.2.1 z H1) : xmCon V (xmUp G.1 G.2.1 z, G.2.1 + 1, u) H1 := by
  refine ⟨by rw [hsz, hC.1]; rfl, fun q hq => ?_⟩
  by_cases e : q = G.2.1
  · subst e
    show xmAt V G.2.1 (xmUp G.1 G.2.1 z G.2.1) H1
    rw [xmUp_self]
    exact hat
  · have h1 : (xmUp G.1 G.2.1 z, G.2.1 + 1, u).1 q = G.1 q := xmUp_ne _ _ e
    rw [h1] at hq ⊢
    exact (hC.2 q hq).kept (ho _ (hC.2 q hq).lt)
/-- from this point of the little machine the JVM comes to an end with Q -/
def xmGoal (p : Program) (l : Launch) (e : Env) (R : Room) (s : State) (m : MethodId) (args : Array Value) (below : List Frame) (meth : Method) (c : Code) (Q : State → Prop) (V : xmV) (nL : Nat) (G0 : xmH) (x : xmC) : Prop :=
  ∀ (H : Heap) (locs : List Loc) (ls : Array Slot), lv_has ls nL (xmLm V x.2.1) → xmCon V x.2.2.2 H → va_S (fun q => V.2.2.2.1 ≤ q) s.heap H locs →
    W p l e R s m args below meth c H locs (x.2.2.2.2.1 - G0.2.1) (x.2.2.2.2.2 - G0.2.2) Q (F0 m x.1 ls (x.2.2.1.map (xmRo V)))
def xmSwi : ClassFile.Instr → Bool
  | .tableswitch _ _ _ _ => true
  | .lookupswitch _ _ => true
  | _ => false
def xmLen : ClassFile.Instr → Nat
  | .bipush _ => 2
  | .sipush _ => 3
  | .iload _ => 2
  | .lload _ => 2
  | .aload _ => 2
  | .istore _ => 2
  | .lstore _ => 2
  | .astore _ => 2
  | .iinc _ _ => 3
  | .goto _ => 3
  | .ifCond _ _ => 3
  | .if_icmp _ _ => 3
  | .ldc _ => 2
  | .ldc2_w _ => 3
  | _ => 1
/-- what must be true of an instruction's numbers, beside its decoding -/
def xmNum (nL pc : Nat) (i : xmI) : Bool := match i.1 with
  | .istore k => decide (k < nL)
  | .istore_n k => decide ((k : Nat) < nL)
  | .astore k => decide (k < nL)
  | .astore_n k => decide ((k : Nat) < nL)
  | .lstore k => decide (k + 1 < nL)
  | .lstore_n k => decide ((k : Nat) + 1 < nL)
  | .iinc k _ => decide (k < nL)
  | .goto o => decide ((pc : Int) + o = ((i.2.2.headD 0 : Nat) : Int))
  | .ifCond _ o => decide ((pc : Int) + o = ((i.2.2.headD 0 : Nat) : Int))
  | .if_icmp _ o => decide ((pc : Int) + o = ((i.2.2.headD 0 : Nat) : Int))
  | .tableswitch d lo hi os => decide (0 ≤ (pc : Int) + d) && (decide (hi - lo < os.size) && os.all (fun o => decide (0 ≤ (pc : Int) + o)))
  | .lookupswitch d ps => decide (0 ≤ (pc : Int) + d) && (ps.toList.all (fun o => decide (0 ≤ (pc : Int) + o.2)) && (ps.toList.zip (ps.toList.drop 1)).all (fun (a, next) => a.1 < next.1))
  | _ => true
section XPure
variable {p : Program} {l : Launch} {e : Env} {R : Room} {s : State} {m : MethodId} {args : Array Value} {below : List Frame} {meth : Method} {c : Code} {Q : State → Prop} {cc : ByteArray} {V : xmV} {nL : Nat} {G0 : xmH}

theorem xs_iconst (hx : p.tables.exec = Jvm.exec) (hb : c.code = cc) {n : Int} {pc : Nat} {lv : xmL} {r : List Value} {G : xmH} (hdg : decode cc pc = .ok (.iconst n, 1))  (k : xmGoal p l e R s m args below meth c Q V nL G0 (pc + 1, lv, (.int (Int32.ofInt n) :: r), G)) : xmGoal p l e R s m args below meth c Q V nL G0 (pc, lv, r, G) := by
  intro H locs ls hl hC hS
  refine lv_iconst hx hb hdg rfl ?_
  exact k H locs ls hl hC hS
theorem xs_bipush (hx : p.tables.exec = Jvm.exec) (hb : c.code = cc) {n : Int} {pc : Nat} {lv : xmL} {r : List Value} {G : xmH} (hdg : decode cc pc = .ok (.bipush n, 2))  (k : xmGoal p l e R s m args below meth c Q V nL G0 (pc + 2, lv, (.int (Int8.ofInt n).toInt32 :: r), G)) : xmGoal p l e R s m args below meth c Q V nL G0 (pc, lv, r, G) := by
  intro H locs ls hl hC hS
  refine lv_bipush hx hb hdg rfl ?_
  exact k H locs ls hl hC hS
theorem xs_sipush (hx : p.tables.exec = Jvm.exec) (hb : c.code = cc) {n : Int} {pc : Nat} {lv : xmL} {r : List Value} {G : xmH} (hdg : decode cc pc = .ok (.sipush n, 3))  (k : xmGoal p l e R s m args below meth c Q V nL G0 (pc + 3, lv, (.int (Int16.ofInt n).toInt32 :: r), G)) : xmGoal p l e R s m args below meth c Q V nL G0 (pc, lv, r, G) := by
  intro H locs ls hl hC hS
  refine lv_sipush hx hb hdg rfl ?_
  exact k H locs ls hl hC hS
theorem xs_lconst (hx : p.tables.exec = Jvm.exec) (hb : c.code = cc) {n : Fin 2} {pc : Nat} {lv : xmL} {r : List Value} {G : xmH} (hdg : decode cc pc = .ok (.lconst n, 1))  (k : xmGoal p l e R s m args below meth c Q V nL G0 (pc + 1, lv, (.long (Int64.ofNat (n : Nat)) :: r), G)) : xmGoal p l e R s m args below meth c Q V nL G0 (pc, lv, r, G) := by
  intro H locs ls hl hC hS
  refine lv_lconst hx hb hdg rfl ?_
  exact k H locs ls hl hC hS
theorem xs_iadd (hx : p.tables.exec = Jvm.exec) (hb : c.code = cc) {x y : Int32} {pc : Nat} {lv : xmL} {r : List Value} {G : xmH} (hdg : decode cc pc = .ok (.iadd, 1))  (k : xmGoal p l e R s m args below meth c Q V nL G0 (pc + 1, lv, (.int (x + y) :: r), G)) : xmGoal p l e R s m args below meth c Q V nL G0 (pc, lv, (.int y :: .int x :: r), G) := by
  intro H locs ls hl hC hS
  refine lv_iadd hx hb hdg  ?_
  exact k H locs ls hl hC hS
theorem xs_isub (hx : p.tables.exec = Jvm.exec) (hb : c.code = cc) {x y : Int32} {pc : Nat} {lv : xmL} {r : List Value} {G : xmH} (hdg : decode cc pc = .ok (.isub, 1))  (k : xmGoal p l e R s m args below meth c Q V nL G0 (pc + 1, lv, (.int (x - y) :: r), G)) : xmGoal p l e R s m args below meth c Q V nL G0 (pc, lv, (.int y :: .int x :: r), G) := by
  intro H locs ls hl hC hS
  refine lv_isub hx hb hdg  ?_
  exact k H locs ls hl hC hS
theorem xs_imul (hx : p.tables.exec = Jvm.exec) (hb : c.code = cc) {x y : Int32} {pc : Nat} {lv : xmL} {r : List Value} {G : xmH} (hdg : decode cc pc = .ok (.imul, 1))  (k : xmGoal p l e R s m args below meth c Q V nL G0 (pc + 1, lv, (.int (x * y) :: r), G)) : xmGoal p l e R s m args below meth c Q V nL G0 (pc, lv, (.int y :: .int x :: r), G) := by
  intro H locs ls hl hC hS
  refine lv_imul hx hb hdg  ?_
  exact k H locs ls hl hC hS
theorem xs_iand (hx : p.tables.exec = Jvm.exec) (hb : c.code = cc) {x y : Int32} {pc : Nat} {lv : xmL} {r : List Value} {G : xmH} (hdg : decode cc pc = .ok (.iand, 1))  (k : xmGoal p l e R s m args below meth c Q V nL G0 (pc + 1, lv, (.int (x &&& y) :: r), G)) : xmGoal p l e R s m args below meth c Q V nL G0 (pc, lv, (.int y :: .int x :: r), G) := by
  intro H locs ls hl hC hS
  refine lv_iand hx hb hdg  ?_
  exact k H locs ls hl hC hS
theorem xs_ior (hx : p.tables.exec = Jvm.exec) (hb : c.code = cc) {x y : Int32} {pc : Nat} {lv : xmL} {r : List Value} {G : xmH} (hdg : decode cc pc = .ok (.ior, 1))  (k : xmGoal p l e R s m args below meth c Q V nL G0 (pc + 1, lv, (.int (x ||| y) :: r), G)) : xmGoal p l e R s m args below meth c Q V nL G0 (pc, lv, (.int y :: .int x :: r), G) := by
  intro H locs ls hl hC hS
  refine lv_ior hx hb hdg  ?_
  exact k H locs ls hl hC hS
theorem xs_ixor (hx : p.tables.exec = Jvm.exec) (hb : c.code = cc) {x y : Int32} {pc : Nat} {lv : xmL} {r : List Value} {G : xmH} (hdg : decode cc pc = .ok (.ixor, 1))  (k : xmGoal p l e R s m args below meth c Q V nL G0 (pc + 1, lv, (.int (x ^^^ y) :: r), G)) : xmGoal p l e R s m args below meth c Q V nL G0 (pc, lv, (.int y :: .int x :: r), G) := by
  intro H locs ls hl hC hS
  refine lv_ixor hx hb hdg  ?_
  exact k H locs ls hl hC hS
theorem xs_ishl (hx : p.tables.exec = Jvm.exec) (hb : c.code = cc) {x y : Int32} {pc : Nat} {lv : xmL} {r : List Value} {G : xmH} (hdg : decode cc pc = .ok (.ishl, 1))  (k : xmGoal p l e R s m args below meth c Q V nL G0 (pc + 1, lv, (.int (x <<< (y &&& 31)) :: r), G)) : xmGoal p l e R s m args below meth c Q V nL G0 (pc, lv, (.int y :: .int x :: r), G) := by
  intro H locs ls hl hC hS
  refine lv_ishl hx hb hdg  ?_
  exact k H locs ls hl hC hS
theorem xs_ishr (hx : p.tables.exec = Jvm.exec) (hb : c.code = cc) {x y : Int32} {pc : Nat} {lv : xmL} {r : List Value} {G : xmH} (hdg : decode cc pc = .ok (.ishr, 1))  (k : xmGoal p l e R s m args below meth c Q V nL G0 (pc + 1, lv, (.int (x >>> (y &&& 31)) :: r), G)) : xmGoal p l e R s m args below meth c Q V nL G0 (pc, lv, (.int y :: .int x :: r), G) := by
  intro H locs ls hl hC hS
  refine lv_ishr hx hb hdg  ?_
  exact k H locs ls hl hC hS
theorem xs_idiv (hx : p.tables.exec = Jvm.exec) (hb : c.code = cc) {x y : Int32} (hne : ¬ y = 0) {pc : Nat} {lv : xmL} {r : List Value} {G : xmH} (hdg : decode cc pc = .ok (.idiv, 1))  (k : xmGoal p l e R s m args below meth c Q V nL G0 (pc + 1, lv, (.int (x / y) :: r), G)) : xmGoal p l e R s m args below meth c Q V nL G0 (pc, lv, (.int y :: .int x :: r), G) := by
  intro H locs ls hl hC hS
  refine lv_idiv hx hb hdg hne ?_
  exact k H locs ls hl hC hS
theorem xs_irem (hx : p.tables.exec = Jvm.exec) (hb : c.code = cc) {x y : Int32} (hne : ¬ y = 0) {pc : Nat} {lv : xmL} {r : List Value} {G : xmH} (hdg : decode cc pc = .ok (.irem, 1))  (k : xmGoal p l e R s m args below meth c Q V nL G0 (pc + 1, lv, (.int (x - x / y * y) :: r), G)) : xmGoal p l e R s m args below meth c Q V nL G0 (pc, lv, (.int y :: .int x :: r), G) := by
  intro H locs ls hl hC hS
  refine lv_irem hx hb hdg hne ?_
  exact k H locs ls hl hC hS
theorem xs_ineg (hx : p.tables.exec = Jvm.exec) (hb : c.code = cc) {x : Int32} {pc : Nat} {lv : xmL} {r : List Value} {G : xmH} (hdg : decode cc pc = .ok (.ineg, 1))  (k : xmGoal p l e R s m args below meth c Q V nL G0 (pc + 1, lv, (.int (-x) :: r), G)) : xmGoal p l e R s m args below meth c Q V nL G0 (pc, lv, (.int x :: r), G) := by
  intro H locs ls hl hC hS
  refine lv_ineg hx hb hdg  ?_
  exact k H locs ls hl hC hS
theorem xs_i2l (hx : p.tables.exec = Jvm.exec) (hb : c.code = cc) {x : Int32} {pc : Nat} {lv : xmL} {r : List Value} {G : xmH} (hdg : decode cc pc = .ok (.i2l, 1))  (k : xmGoal p l e R s m args below meth c Q V nL G0 (pc + 1, lv, (.long x.toInt64 :: r), G)) : xmGoal p l e R s m args below meth c Q V nL G0 (pc, lv, (.int x :: r), G) := by
  intro H locs ls hl hC hS
  refine lv_i2l hx hb hdg rfl ?_
  exact k H locs ls hl hC hS
theorem xs_i2c (hx : p.tables.exec = Jvm.exec) (hb : c.code = cc) {x : Int32} {pc : Nat} {lv : xmL} {r : List Value} {G : xmH} (hdg : decode cc pc = .ok (.i2c, 1))  (k : xmGoal p l e R s m args below meth c Q V nL G0 (pc + 1, lv, (.int (x.toUInt32 % 65536).toInt32 :: r), G)) : xmGoal p l e R s m args below meth c Q V nL G0 (pc, lv, (.int x :: r), G) := by
  intro H locs ls hl hC hS
  refine lv_i2c hx hb hdg rfl ?_
  exact k H locs ls hl hC hS
theorem xs_l2i (hx : p.tables.exec = Jvm.exec) (hb : c.code = cc) {x : Int64} {pc : Nat} {lv : xmL} {r : List Value} {G : xmH} (hdg : decode cc pc = .ok (.l2i, 1))  (k : xmGoal p l e R s m args below meth c Q V nL G0 (pc + 1, lv, (.int x.toInt32 :: r), G)) : xmGoal p l e R s m args below meth c Q V nL G0 (pc, lv, (.long x :: r), G) := by
  intro H locs ls hl hC hS
  refine lv_l2i hx hb hdg rfl ?_
  exact k H locs ls hl hC hS
theorem xs_lneg (hx : p.tables.exec = Jvm.exec) (hb : c.code = cc) {x : Int64} {pc : Nat} {lv : xmL} {r : List Value} {G : xmH} (hdg : decode cc pc = .ok (.lneg, 1))  (k : xmGoal p l e R s m args below meth c Q V nL G0 (pc + 1, lv, (.long (-x) :: r), G)) : xmGoal p l e R s m args below meth c Q V nL G0 (pc, lv, (.long x :: r), G) := by
  intro H locs ls hl hC hS
  refine lv_lneg hx hb hdg  ?_
  exact k H locs ls hl hC hS
theorem xs_ladd (hx : p.tables.exec = Jvm.exec) (hb : c.code = cc) {x y : Int64} {pc : Nat} {lv : xmL} {r : List Value} {G : xmH} (hdg : decode cc pc = .ok (.ladd, 1))  (k : xmGoal p l e R s m args below meth c Q V nL G0 (pc + 1, lv, (.long (x + y) :: r), G)) : xmGoal p l e R s m args below meth c Q V nL G0 (pc, lv, (.long y :: .long x :: r), G) := by
  intro H locs ls hl hC hS
  refine lv_ladd hx hb hdg  ?_
  exact k H locs ls hl hC hS
theorem xs_lsub (hx : p.tables.exec = Jvm.exec) (hb : c.code = cc) {x y : Int64} {pc : Nat} {lv : xmL} {r : List Value} {G : xmH} (hdg : decode cc pc = .ok (.lsub, 1))  (k : xmGoal p l e R s m args below meth c Q V nL G0 (pc + 1, lv, (.long (x - y) :: r), G)) : xmGoal p l e R s m args below meth c Q V nL G0 (pc, lv, (.long y :: .long x :: r), G) := by
  intro H locs ls hl hC hS
  refine lv_lsub hx hb hdg  ?_
  exact k H locs ls hl hC hS
theorem xs_lmul (hx : p.tables.exec = Jvm.exec) (hb : c.code = cc) {x y : Int64} {pc : Nat} {lv : xmL} {r : List Value} {G : xmH} (hdg : decode cc pc = .ok (.lmul, 1))  (k : xmGoal p l e R s m args below meth c Q V nL G0 (pc + 1, lv, (.long (x * y) :: r), G)) : xmGoal p l e R s m args below meth c Q V nL G0 (pc, lv, (.long y :: .long x :: r), G) := by
  intro H locs ls hl hC hS
  refine lv_lmul hx hb hdg  ?_
  exact k H locs ls hl hC hS
theorem xs_land (hx : p.tables.exec = Jvm.exec) (hb : c.code = cc) {x y : Int64} {pc : Nat} {lv : xmL} {r : List Value} {G : xmH} (hdg : decode cc pc = .ok (.land, 1))  (k : xmGoal p l e R s m args below meth c Q V nL G0 (pc + 1, lv, (.long (x &&& y) :: r), G)) : xmGoal p l e R s m args below meth c Q V nL G0 (pc, lv, (.long y :: .long x :: r), G) := by
  intro H locs ls hl hC hS
  refine lv_land hx hb hdg  ?_
  exact k H locs ls hl hC hS
theorem xs_lor (hx : p.tables.exec = Jvm.exec) (hb : c.code = cc) {x y : Int64} {pc : Nat} {lv : xmL} {r : List Value} {G : xmH} (hdg : decode cc pc = .ok (.lor, 1))  (k : xmGoal p l e R s m args below meth c Q V nL G0 (pc + 1, lv, (.long (x ||| y) :: r), G)) : xmGoal p l e R s m args below meth c Q V nL G0 (pc, lv, (.long y :: .long x :: r), G) := by
  intro H locs ls hl hC hS
  refine lv_lor hx hb hdg  ?_
  exact k H locs ls hl hC hS
theorem xs_lushr (hx : p.tables.exec = Jvm.exec) (hb : c.code = cc) {x : Int64} {y : Int32} {pc : Nat} {lv : xmL} {r : List Value} {G : xmH} (hdg : decode cc pc = .ok (.lushr, 1))  (k : xmGoal p l e R s m args below meth c Q V nL G0 (pc + 1, lv, (.long (x.toUInt64 >>> (y.toInt64.toUInt64 &&& Int64.toUInt64 63)).toInt64 :: r), G)) : xmGoal p l e R s m args below meth c Q V nL G0 (pc, lv, (.int y :: .long x :: r), G) := by
  intro H locs ls hl hC hS
  refine lv_lushr hx hb hdg rfl ?_
  exact k H locs ls hl hC hS
theorem xs_lshl (hx : p.tables.exec = Jvm.exec) (hb : c.code = cc) {x : Int64} {y : Int32} {pc : Nat} {lv : xmL} {r : List Value} {G : xmH} (hdg : decode cc pc = .ok (.lshl, 1))  (k : xmGoal p l e R s m args below meth c Q V nL G0 (pc + 1, lv, (.long (x <<< (y.toInt64 &&& 63)) :: r), G)) : xmGoal p l e R s m args below meth c Q V nL G0 (pc, lv, (.int y :: .long x :: r), G) := by
  intro H locs ls hl hC hS
  refine lv_lshl hx hb hdg rfl ?_
  exact k H locs ls hl hC hS
theorem xs_lcmp (hx : p.tables.exec = Jvm.exec) (hb : c.code = cc) {x y : Int64} {pc : Nat} {lv : xmL} {r : List Value} {G : xmH} (hdg : decode cc pc = .ok (.lcmp, 1))  (k : xmGoal p l e R s m args below meth c Q V nL G0 (pc + 1, lv, (.int (lg_cmp x y) :: r), G)) : xmGoal p l e R s m args below meth c Q V nL G0 (pc, lv, (.long y :: .long x :: r), G) := by
  intro H locs ls hl hC hS
  refine W.lcmp hx hb hdg  ?_
  exact k H locs ls hl hC hS
theorem xs_dup (hx : p.tables.exec = Jvm.exec) (hb : c.code = cc) {v : Value} (hv : v.category = 1) {pc : Nat} {lv : xmL} {r : List Value} {G : xmH} (hdg : decode cc pc = .ok (.dup, 1))  (k : xmGoal p l e R s m args below meth c Q V nL G0 (pc + 1, lv, (v :: v :: r), G)) : xmGoal p l e R s m args below meth c Q V nL G0 (pc, lv, (v :: r), G) := by
  intro H locs ls hl hC hS
  refine lv_dup hx hb hdg ((xmRo_cat V v).trans hv) ?_
  exact k H locs ls hl hC hS
theorem xs_pop (hx : p.tables.exec = Jvm.exec) (hb : c.code = cc) {v : Value} (hv : v.category = 1) {pc : Nat} {lv : xmL} {r : List Value} {G : xmH} (hdg : decode cc pc = .ok (.pop, 1))  (k : xmGoal p l e R s m args below meth c Q V nL G0 (pc + 1, lv, r, G)) : xmGoal p l e R s m args below meth c Q V nL G0 (pc, lv, (v :: r), G) := by
  intro H locs ls hl hC hS
  refine lv_pop hx hb hdg ((xmRo_cat V v).trans hv) ?_
  exact k H locs ls hl hC hS
theorem xs_iload (hx : p.tables.exec = Jvm.exec) (hb : c.code = cc) {i : Nat} {x : Int32} {pc : Nat} {lv : xmL} {r : List Value} {G : xmH} (hdg : decode cc pc = .ok (.iload i, 2)) (hg : xmGet lv i = some (.int x)) (k : xmGoal p l e R s m args below meth c Q V nL G0 (pc + 2, lv, .int x :: r, G)) : xmGoal p l e R s m args below meth c Q V nL G0 (pc, lv, r, G) := by
  intro H locs ls hl hC hS
  refine lv_iload hx hb hdg (xmGet_has hl hg) ?_
  exact k H locs ls hl hC hS
theorem xs_iload_n (hx : p.tables.exec = Jvm.exec) (hb : c.code = cc) {i : Fin 4} {x : Int32} {pc : Nat} {lv : xmL} {r : List Value} {G : xmH} (hdg : decode cc pc = .ok (.iload_n i, 1)) (hg : xmGet lv (i : Nat) = some (.int x)) (k : xmGoal p l e R s m args below meth c Q V nL G0 (pc + 1, lv, .int x :: r, G)) : xmGoal p l e R s m args below meth c Q V nL G0 (pc, lv, r, G) := by
  intro H locs ls hl hC hS
  refine lv_iload_n hx hb hdg rfl (xmGet_has hl hg) ?_
  exact k H locs ls hl hC hS
theorem xs_istore (hx : p.tables.exec = Jvm.exec) (hb : c.code = cc) {i : Nat} {x : Int32} {pc : Nat} {lv : xmL} {r : List Value} {G : xmH} (hdg : decode cc pc = .ok (.istore i, 2)) (hn : i < nL) (k : xmGoal p l e R s m args below meth c Q V nL G0 (pc + 2, xmPut1 lv i (.int x), r, G)) : xmGoal p l e R s m args below meth c Q V nL G0 (pc, lv, .int x :: r, G) := by
  intro H locs ls hl hC hS
  refine lv_istore hx hb hdg hl hn (xmPut1_m V lv i (.int x)) (fun ls hl => ?_)
  exact k H locs ls hl hC hS
theorem xs_istore_n (hx : p.tables.exec = Jvm.exec) (hb : c.code = cc) {i : Fin 4} {x : Int32} {pc : Nat} {lv : xmL} {r : List Value} {G : xmH} (hdg : decode cc pc = .ok (.istore_n i, 1)) (hn : (i : Nat) < nL) (k : xmGoal p l e R s m args below meth c Q V nL G0 (pc + 1, xmPut1 lv (i : Nat) (.int x), r, G)) : xmGoal p l e R s m args below meth c Q V nL G0 (pc, lv, .int x :: r, G) := by
  intro H locs ls hl hC hS
  refine lv_istore_n hx hb hdg rfl hl hn (xmPut1_m V lv (i : Nat) (.int x)) (fun ls hl => ?_)
  exact k H locs ls hl hC hS
theorem xs_lload (hx : p.tables.exec = Jvm.exec) (hb : c.code = cc) {i : Nat} {x : Int64} {pc : Nat} {lv : xmL} {r : List Value} {G : xmH} (hdg : decode cc pc = .ok (.lload i, 2)) (hg : xmGet lv i = some (.long x)) (k : xmGoal p l e R s m args below meth c Q V nL G0 (pc + 2, lv, .long x :: r, G)) : xmGoal p l e R s m args below meth c Q V nL G0 (pc, lv, r, G) := by
  intro H locs ls hl hC hS
  refine lv_lload hx hb hdg (xmGet_has hl hg) ?_
  exact k H locs ls hl hC hS
theorem xs_lload_n (hx : p.tables.exec = Jvm.exec) (hb : c.code = cc) {i : Fin 4} {x : Int64} {pc : Nat} {lv : xmL} {r : List Value} {G : xmH} (hdg : decode cc pc = .ok (.lload_n i, 1)) (hg : xmGet lv (i : Nat) = some (.long x)) (k : xmGoal p l e R s m args below meth c Q V nL G0 (pc + 1, lv, .long x :: r, G)) : xmGoal p l e R s m args below meth c Q V nL G0 (pc, lv, r, G) := by
  intro H locs ls hl hC hS
  refine lv_lload_n hx hb hdg rfl (xmGet_has hl hg) ?_
  exact k H locs ls hl hC hS
theorem xs_lstore (hx : p.tables.exec = Jvm.exec) (hb : c.code = cc) {i : Nat} {x : Int64} {pc : Nat} {lv : xmL} {r : List Value} {G : xmH} (hdg : decode cc pc = .ok (.lstore i, 2)) (hn : i + 1 < nL) (k : xmGoal p l e R s m args below meth c Q V nL G0 (pc + 2, xmPut2 lv i (.long x), r, G)) : xmGoal p l e R s m args below meth c Q V nL G0 (pc, lv, .long x :: r, G) := by
  intro H locs ls hl hC hS
  refine lv_lstore hx hb hdg hl hn (xmPut2_m V lv i (.long x)) (fun ls hl => ?_)
  exact k H locs ls hl hC hS
theorem xs_lstore_n (hx : p.tables.exec = Jvm.exec) (hb : c.code = cc) {i : Fin 4} {x : Int64} {pc : Nat} {lv : xmL} {r : List Value} {G : xmH} (hdg : decode cc pc = .ok (.lstore_n i, 1)) (hn : (i : Nat) + 1 < nL) (k : xmGoal p l e R s m args below meth c Q V nL G0 (pc + 1, xmPut2 lv (i : Nat) (.long x), r, G)) : xmGoal p l e R s m args below meth c Q V nL G0 (pc, lv, .long x :: r, G) := by
  intro H locs ls hl hC hS
  refine lv_lstore_n hx hb hdg rfl hl hn (xmPut2_m V lv (i : Nat) (.long x)) (fun ls hl => ?_)
  exact k H locs ls hl hC hS
theorem xs_aload (hx : p.tables.exec = Jvm.exec) (hb : c.code = cc) {i : Nat} {v : Value} {pc : Nat} {lv : xmL} {r : List Value} {G : xmH} (hdg : decode cc pc = .ok (.aload i, 2)) (hg : xmGet lv i = some v) (hv : ∃ y, xmRo V v = .ref y) (k : xmGoal p l e R s m args below meth c Q V nL G0 (pc + 2, lv, v :: r, G)) : xmGoal p l e R s m args below meth c Q V nL G0 (pc, lv, r, G) := by
  intro H locs ls hl hC hS
  obtain ⟨y, hy⟩ := hv
  refine lv_aload hx hb hdg (by rw [xmGet_has hl hg, hy]) ?_
  have k := k H locs ls hl hC hS
  dsimp only at k
  rw [List.map_cons, hy] at k
  exact k
theorem xs_aload_n (hx : p.tables.exec = Jvm.exec) (hb : c.code = cc) {i : Fin 4} {v : Value} {pc : Nat} {lv : xmL} {r : List Value} {G : xmH} (hdg : decode cc pc = .ok (.aload_n i, 1)) (hg : xmGet lv (i : Nat) = some v) (hv : ∃ y, xmRo V v = .ref y) (k : xmGoal p l e R s m args below meth c Q V nL G0 (pc + 1, lv, v :: r, G)) : xmGoal p l e R s m args below meth c Q V nL G0 (pc, lv, r, G) := by
  intro H locs ls hl hC hS
  obtain ⟨y, hy⟩ := hv
  refine lv_aload_n hx hb hdg rfl (by rw [xmGet_has hl hg, hy]) ?_
  have k := k H locs ls hl hC hS
  dsimp only at k
  rw [List.map_cons, hy] at k
  exact k
theorem xs_astore (hx : p.tables.exec = Jvm.exec) (hb : c.code = cc) {i : Nat} {v : Value} {pc : Nat} {lv : xmL} {r : List Value} {G : xmH} (hdg : decode cc pc = .ok (.astore i, 2)) (hn : i < nL) (hv : ∃ y, xmRo V v = .ref y) (k : xmGoal p l e R s m args below meth c Q V nL G0 (pc + 2, xmPut1 lv i v, r, G)) : xmGoal p l e R s m args below meth c Q V nL G0 (pc, lv, v :: r, G) := by
  intro H locs ls hl hC hS
  obtain ⟨y, hy⟩ := hv
  dsimp only
  rw [List.map_cons, hy]
  refine lv_astore hx hb hdg hl hn rfl (fun ls hl => ?_)
  exact k H locs ls (by rw [← hy] at hl; rw [← xmPut1_m]; exact hl) hC hS
theorem xs_astore_n (hx : p.tables.exec = Jvm.exec) (hb : c.code = cc) {i : Fin 4} {v : Value} {pc : Nat} {lv : xmL} {r : List Value} {G : xmH} (hdg : decode cc pc = .ok (.astore_n i, 1)) (hn : (i : Nat) < nL) (hv : ∃ y, xmRo V v = .ref y) (k : xmGoal p l e R s m args below meth c Q V nL G0 (pc + 1, xmPut1 lv (i : Nat) v, r, G)) : xmGoal p l e R s m args below meth c Q V nL G0 (pc, lv, v :: r, G) := by
  intro H locs ls hl hC hS
  obtain ⟨y, hy⟩ := hv
  dsimp only
  rw [List.map_cons, hy]
  refine lv_astore_n hx hb hdg rfl hl hn rfl (fun ls hl => ?_)
  exact k H locs ls (by rw [← hy] at hl; rw [← xmPut1_m]; exact hl) hC hS
theorem xs_iinc (hx : p.tables.exec = Jvm.exec) (hb : c.code = cc) {i : Nat} {n : Int} {x : Int32} {pc : Nat} {lv : xmL} {r : List Value} {G : xmH} (hdg : decode cc pc = .ok (.iinc i n, 3)) (hg : xmGet lv i = some (.int x)) (hn : i < nL) (k : xmGoal p l e R s m args below meth c Q V nL G0 (pc + 3, xmPut1 lv i (.int (x + Int32.ofInt n)), r, G)) : xmGoal p l e R s m args below meth c Q V nL G0 (pc, lv, r, G) := by
  intro H locs ls hl hC hS
  obtain ⟨j, hj⟩ := xmGet_placeM (V := V) hg
  refine lv_iinc hx hb hdg hl hj rfl hn (xmPut1_m V lv i (.int (x + Int32.ofInt n))) (fun ls hl => ?_)
  exact k H locs ls hl hC hS
theorem xs_goto (hx : p.tables.exec = Jvm.exec) (hb : c.code = cc) {o : Int} {t : Nat} {pc : Nat} {lv : xmL} {r : List Value} {G : xmH} (hdg : decode cc pc = .ok (.goto o, 3)) (ht : (pc : Int) + o = (t : Int)) (k : xmGoal p l e R s m args below meth c Q V nL G0 (t, lv, r, G)) : xmGoal p l e R s m args below meth c Q V nL G0 (pc, lv, r, G) := by
  intro H locs ls hl hC hS
  refine lv_goto hx hb hdg ht ?_
  exact k H locs ls hl hC hS
theorem xs_if_eq (hx : p.tables.exec = Jvm.exec) (hb : c.code = cc) {x : Int32} {o : Int} {t pc : Nat} {lv : xmL} {r : List Value} {G : xmH} (hdg : decode cc pc = .ok (.ifCond .eq o, 3)) (ht : (pc : Int) + o = (t : Int)) (k : xmGoal p l e R s m args below meth c Q V nL G0 (bif xmCmp .eq x 0 then t else pc + 3, lv, r, G)) : xmGoal p l e R s m args below meth c Q V nL G0 (pc, lv, (.int x :: r), G) := by
  intro H locs ls hl hC hS
  have k := k H locs ls hl hC hS
  refine lv_if_eq hx hb hdg ht (fun h => ?_) (fun h => ?_)
  · simpa [xmCmp, h] using k
  · simpa [xmCmp, h] using k
theorem xs_icmp_eq (hx : p.tables.exec = Jvm.exec) (hb : c.code = cc) {x y : Int32} {o : Int} {t pc : Nat} {lv : xmL} {r : List Value} {G : xmH} (hdg : decode cc pc = .ok (.if_icmp .eq o, 3)) (ht : (pc : Int) + o = (t : Int)) (k : xmGoal p l e R s m args below meth c Q V nL G0 (bif xmCmp .eq x y then t else pc + 3, lv, r, G)) : xmGoal p l e R s m args below meth c Q V nL G0 (pc, lv, (.int y :: .int x :: r), G) := by
  intro H locs ls hl hC hS
  have k := k H locs ls hl hC hS
  refine lv_icmp_eq hx hb hdg ht (fun h => ?_) (fun h => ?_)
  · simpa [xmCmp, h] using k
  · simpa [xmCmp, h] using k
theorem xs_if_ne (hx : p.tables.exec = Jvm.exec) (hb : c.code = cc) {x : Int32} {o : Int} {t pc : Nat} {lv : xmL} {r : List Value} {G : xmH} (hdg : decode cc pc = .ok (.ifCond .ne o, 3)) (ht : (pc : Int) + o = (t : Int)) (k : xmGoal p l e R s m args below meth c Q V nL G0 (bif xmCmp .ne x 0 then t else pc + 3, lv, r, G)) : xmGoal p l e R s m args below meth c Q V nL G0 (pc, lv, (.int x :: r), G) := by
  intro H locs ls hl hC hS
  have k := k H locs ls hl hC hS
  refine lv_if_ne hx hb hdg ht (fun h => ?_) (fun h => ?_)
  · simpa [xmCmp, h] using k
  · simpa [xmCmp, h] using k
theorem xs_icmp_ne (hx : p.tables.exec = Jvm.exec) (hb : c.code = cc) {x y : Int32} {o : Int} {t pc : Nat} {lv : xmL} {r : List Value} {G : xmH} (hdg : decode cc pc = .ok (.if_icmp .ne o, 3)) (ht : (pc : Int) + o = (t : Int)) (k : xmGoal p l e R s m args below meth c Q V nL G0 (bif xmCmp .ne x y then t else pc + 3, lv, r, G)) : xmGoal p l e R s m args below meth c Q V nL G0 (pc, lv, (.int y :: .int x :: r), G) := by
  intro H locs ls hl hC hS
  have k := k H locs ls hl hC hS
  refine lv_icmp_ne hx hb hdg ht (fun h => ?_) (fun h => ?_)
  · simpa [xmCmp, h] using k
  · simpa [xmCmp, h] using k
theorem xs_if_lt (hx : p.tables.exec = Jvm.exec) (hb : c.code = cc) {x : Int32} {o : Int} {t pc : Nat} {lv : xmL} {r : List Value} {G : xmH} (hdg : decode cc pc = .ok (.ifCond .lt o, 3)) (ht : (pc : Int) + o = (t : Int)) (k : xmGoal p l e R s m args below meth c Q V nL G0 (bif xmCmp .lt x 0 then t else pc + 3, lv, r, G)) : xmGoal p l e R s m args below meth c Q V nL G0 (pc, lv, (.int x :: r), G) := by
  intro H locs ls hl hC hS
  have k := k H locs ls hl hC hS
  refine lv_if_lt hx hb hdg ht (fun h => ?_) (fun h => ?_)
  · simpa [xmCmp, h] using k
  · simpa [xmCmp, h] using k
theorem xs_icmp_lt (hx : p.tables.exec = Jvm.exec) (hb : c.code = cc) {x y : Int32} {o : Int} {t pc : Nat} {lv : xmL} {r : List Value} {G : xmH} (hdg : decode cc pc = .ok (.if_icmp .lt o, 3)) (ht : (pc : Int) + o = (t : Int)) (k : xmGoal p l e R s m args below meth c Q V nL G0 (bif xmCmp .lt x y then t else pc + 3, lv, r, G)) : xmGoal p l e R s m args below meth c Q V nL G0 (pc, lv, (.int y :: .int x :: r), G) := by
  intro H locs ls hl hC hS
  have k := k H locs ls hl hC hS
  refine lv_icmp_lt hx hb hdg ht (fun h => ?_) (fun h => ?_)
  · simpa [xmCmp, h] using k
  · simpa [xmCmp, h] using k
theorem xs_if_ge (hx : p.tables.exec = Jvm.exec) (hb : c.code = cc) {x : Int32} {o : Int} {t pc : Nat} {lv : xmL} {r : List Value} {G : xmH} (hdg : decode cc pc = .ok (.ifCond .ge o, 3)) (ht : (pc : Int) + o = (t : Int)) (k : xmGoal p l e R s m args below meth c Q V nL G0 (bif xmCmp .ge x 0 then t else pc + 3, lv, r, G)) : xmGoal p l e R s m args below meth c Q V nL G0 (pc, lv, (.int x :: r), G) := by
  intro H locs ls hl hC hS
  have k := k H locs ls hl hC hS
  refine lv_if_ge hx hb hdg ht (fun h => ?_) (fun h => ?_)
  · simpa [xmCmp, h] using k
  · simpa [xmCmp, h] using k
theorem xs_icmp_ge (hx : p.tables.exec = Jvm.exec) (hb : c.code = cc) {x y : Int32} {o : Int} {t pc : Nat} {lv : xmL} {r : List Value} {G : xmH} (hdg : decode cc pc = .ok (.if_icmp .ge o, 3)) (ht : (pc : Int) + o = (t : Int)) (k : xmGoal p l e R s m args below meth c Q V nL G0 (bif xmCmp .ge x y then t else pc + 3, lv, r, G)) : xmGoal p l e R s m args below meth c Q V nL G0 (pc, lv, (.int y :: .int x :: r), G) := by
  intro H locs ls hl hC hS
  have k := k H locs ls hl hC hS
  refine lv_icmp_ge hx hb hdg ht (fun h => ?_) (fun h => ?_)
  · simpa [xmCmp, h] using k
  · simpa [xmCmp, h] using k
theorem xs_if_gt (hx : p.tables.exec = Jvm.exec) (hb : c.code = cc) {x : Int32} {o : Int} {t pc : Nat} {lv : xmL} {r : List Value} {G : xmH} (hdg : decode cc pc = .ok (.ifCond .gt o, 3)) (ht : (pc : Int) + o = (t : Int)) (k : xmGoal p l e R s m args below meth c Q V nL G0 (bif xmCmp .gt x 0 then t else pc + 3, lv, r, G)) : xmGoal p l e R s m args below meth c Q V nL G0 (pc, lv, (.int x :: r), G) := by
  intro H locs ls hl hC hS
  have k := k H locs ls hl hC hS
  refine lv_if_gt hx hb hdg ht (fun h => ?_) (fun h => ?_)
  · simpa [xmCmp, h] using k
  · simpa [xmCmp, h] using k
theorem xs_icmp_gt (hx : p.tables.exec = Jvm.exec) (hb : c.code = cc) {x y : Int32} {o : Int} {t pc : Nat} {lv : xmL} {r : List Value} {G : xmH} (hdg : decode cc pc = .ok (.if_icmp .gt o, 3)) (ht : (pc : Int) + o = (t : Int)) (k : xmGoal p l e R s m args below meth c Q V nL G0 (bif xmCmp .gt x y then t else pc + 3, lv, r, G)) : xmGoal p l e R s m args below meth c Q V nL G0 (pc, lv, (.int y :: .int x :: r), G) := by
  intro H locs ls hl hC hS
  have k := k H locs ls hl hC hS
  refine lv_icmp_gt hx hb hdg ht (fun h => ?_) (fun h => ?_)
  · simpa [xmCmp, h] using k
  · simpa [xmCmp, h] using k
theorem xs_if_le (hx : p.tables.exec = Jvm.exec) (hb : c.code = cc) {x : Int32} {o : Int} {t pc : Nat} {lv : xmL} {r : List Value} {G : xmH} (hdg : decode cc pc = .ok (.ifCond .le o, 3)) (ht : (pc : Int) + o = (t : Int)) (k : xmGoal p l e R s m args below meth c Q V nL G0 (bif xmCmp .le x 0 then t else pc + 3, lv, r, G)) : xmGoal p l e R s m args below meth c Q V nL G0 (pc, lv, (.int x :: r), G) := by
  intro H locs ls hl hC hS
  have k := k H locs ls hl hC hS
  refine lv_if_le hx hb hdg ht (fun h => ?_) (fun h => ?_)
  · simpa [xmCmp, h] using k
  · simpa [xmCmp, h] using k
theorem xs_icmp_le (hx : p.tables.exec = Jvm.exec) (hb : c.code = cc) {x y : Int32} {o : Int} {t pc : Nat} {lv : xmL} {r : List Value} {G : xmH} (hdg : decode cc pc = .ok (.if_icmp .le o, 3)) (ht : (pc : Int) + o = (t : Int)) (k : xmGoal p l e R s m args below meth c Q V nL G0 (bif xmCmp .le x y then t else pc + 3, lv, r, G)) : xmGoal p l e R s m args below meth c Q V nL G0 (pc, lv, (.int y :: .int x :: r), G) := by
  intro H locs ls hl hC hS
  have k := k H locs ls hl hC hS
  refine lv_icmp_le hx hb hdg ht (fun h => ?_) (fun h => ?_)
  · simpa [xmCmp, h] using k
  · simpa [xmCmp, h] using k

theorem xs_dup2 (hx : p.tables.exec = Jvm.exec) (hb : c.code = cc) {v w : Value} (hv : v.category = 1) (hw : w.category = 1) {pc : Nat} {lv : xmL} {r : List Value} {G : xmH} (hdg : decode cc pc = .ok (.dup2, 1)) (k : xmGoal p l e R s m args below meth c Q V nL G0 (pc + 1, lv, v :: w :: v :: w :: r, G)) : xmGoal p l e R s m args below meth c Q V nL G0 (pc, lv, v :: w :: r, G) := by
  intro H locs ls hl hC hS
  refine lv_dup2_11 hx hb hdg ((xmRo_cat V v).trans hv) ((xmRo_cat V w).trans hw) ?_
  exact k H locs ls hl hC hS
theorem xs_i2b (hx : p.tables.exec = Jvm.exec) (hb : c.code = cc) {x : Int32} {pc : Nat} {lv : xmL} {r : List Value} {G : xmH} (hdg : decode cc pc = .ok (.i2b, 1)) (k : xmGoal p l e R s m args below meth c Q V nL G0 (pc + 1, lv, (.int x.toInt8.toInt32 :: r), G)) : xmGoal p l e R s m args below meth c Q V nL G0 (pc, lv, (.int x :: r), G) := by
  intro H locs ls hl hC hS
  refine lv_i2b hx hb hdg rfl ?_
  exact k H locs ls hl hC hS
theorem xs_lshr (hx : p.tables.exec = Jvm.exec) (hb : c.code = cc) {x : Int64} {y : Int32} {pc : Nat} {lv : xmL} {r : List Value} {G : xmH} (hdg : decode cc pc = .ok (.lshr, 1)) (k : xmGoal p l e R s m args below meth c Q V nL G0 (pc + 1, lv, (.long (x >>> (y.toInt64 &&& 63)) :: r), G)) : xmGoal p l e R s m args below meth c Q V nL G0 (pc, lv, (.int y :: .long x :: r), G) := by
  intro H locs ls hl hC hS
  refine lv_lshr hx hb hdg rfl ?_
  exact k H locs ls hl hC hS
theorem xs_ldc (hx : p.tables.exec = Jvm.exec) (hb : c.code = cc) {own : String} {idx : Nat} {v : Int32} (hown : s.vm.findClass own = some m.cls) (hk : (Jvm.Cond.constant own idx v).before args s = true) {pc : Nat} {lv : xmL} {r : List Value} {G : xmH} (hdg : decode cc pc = .ok (.ldc idx, 2)) (k : xmGoal p l e R s m args below meth c Q V nL G0 (pc + 2, lv, (.int v :: r), G)) : xmGoal p l e R s m args below meth c Q V nL G0 (pc, lv, r, G) := by
  intro H locs ls hl hC hS
  refine lv_ldc hx hb hown hk hdg ?_
  exact k H locs ls hl hC hS
theorem xs_ldc2_w (hx : p.tables.exec = Jvm.exec) (hb : c.code = cc) {own : String} {idx : Nat} {v : Int64} (hown : s.vm.findClass own = some m.cls) (hk : (Jvm.Cond.constantLong own idx v).before args s = true) {pc : Nat} {lv : xmL} {r : List Value} {G : xmH} (hdg : decode cc pc = .ok (.ldc2_w idx, 3)) (k : xmGoal p l e R s m args below meth c Q V nL G0 (pc + 3, lv, (.long v :: r), G)) : xmGoal p l e R s m args below meth c Q V nL G0 (pc, lv, r, G) := by
  intro H locs ls hl hC hS
  refine lv_ldc2 hx hb hown hk hdg ?_
  exact k H locs ls hl hC hS
theorem xs_sw (hx : p.tables.exec = Jvm.exec) (hb : c.code = cc) {d lo hi : Int} {os : Array Int} {len : Nat} {x : Int32} {pc : Nat} {lv : xmL} {r : List Value} {G : xmH} (hdg : decode cc pc = .ok (.tableswitch d lo hi os, len)) (h1 : 0 ≤ (pc : Int) + d) (h2 : hi - lo < os.size) (h3 : ∀ o ∈ os, 0 ≤ (pc : Int) + o)
    (k : xmGoal p l e R s m args below meth c Q V nL G0 (if x.toInt < lo ∨ hi < x.toInt then ((pc : Int) + d).toNat else ((pc : Int) + os.getD (x.toInt - lo).toNat 0).toNat, lv, r, G)) : xmGoal p l e R s m args below meth c Q V nL G0 (pc, lv, (.int x :: r), G) := by
  intro H locs ls hl hC hS
  have k := k H locs ls hl hC hS
  by_cases h : x.toInt < lo ∨ hi < x.toInt
  · rw [if_pos h] at k
    exact lv_tableOut hx hb hdg h (by omega) k
  · rw [if_neg h] at k
    have g1 : ¬ x.toInt < lo := fun z => h (Or.inl z)
    have g2 : ¬ hi < x.toInt := fun z => h (Or.inr z)
    have hlt : (x.toInt - lo).toNat < os.size := by omega
    have e1 : os[(x.toInt - lo).toNat]? = some os[(x.toInt - lo).toNat] := Array.getElem?_eq_getElem hlt
    have e2 : os.getD (x.toInt - lo).toNat 0 = os[(x.toInt - lo).toNat] := by simp [Array.getD, hlt]
    rw [e2] at k
    have g3 := h3 _ (Array.getElem_mem hlt)
    exact lv_tableIn hx hb hdg g1 g2 e1 (by omega) k
theorem xm_off : ∀ (ps : List (Int × Int)) (d x : Int) (P : Int → Prop), P d → (∀ o ∈ ps, P o.2) → P (Op.lookupswitch.offset ps d x) := by
  intro ps
  induction ps with
  | nil => intro d x P h _; exact h
  | cons q ps ih =>
    intro d x P h h2
    obtain ⟨a, b⟩ := q
    unfold Op.lookupswitch.offset
    split
    · exact h2 (a, b) List.mem_cons_self
    · exact ih d x P h (fun o ho => h2 o (List.mem_cons_of_mem _ ho))
theorem xs_lk (hx : p.tables.exec = Jvm.exec) (hb : c.code = cc) {d : Int} {ps : Array (Int × Int)} {len : Nat} {x : Int32} {pc : Nat} {lv : xmL} {r : List Value} {G : xmH} (hdg : decode cc pc = .ok (.lookupswitch d ps, len)) (h1 : 0 ≤ (pc : Int) + d) (h2 : ∀ o ∈ ps.toList, 0 ≤ (pc : Int) + o.2) (h3 : (ps.toList.zip (ps.toList.drop 1)).all (fun (a, next) => a.1 < next.1) = true)
    (k : xmGoal p l e R s m args below meth c Q V nL G0 (((pc : Int) + Op.lookupswitch.offset ps.toList d x.toInt).toNat, lv, r, G)) : xmGoal p l e R s m args below meth c Q V nL G0 (pc, lv, (.int x :: r), G) := by
  intro H locs ls hl hC hS
  have k := k H locs ls hl hC hS
  have g := xm_off ps.toList d x.toInt (fun z => 0 ≤ (pc : Int) + z) h1 h2
  exact lv_lookup hx hb hdg h3 rfl (by omega) k
theorem xmDup2_inv {x x' : xmC} (h : xmDup2 x = some x') : ∃ (v w : Value) (r : List Value), x.2.2.1 = v :: w :: r ∧ v.category = 1 ∧ w.category = 1 ∧ x' = (x.1 + 1, x.2.1, v :: w :: v :: w :: r, x.2.2.2) := by
  unfold xmDup2 at h
  split at h
  next a b r he => exact ⟨_, _, r, he, rfl, rfl, (Option.some.inj h).symm⟩
  next => cases h
theorem xmSw_inv {d lo hi : Int} {os : Array Int} {x x' : xmC} (h : xmSw d lo hi os x = some x') : ∃ (a : Int32) (r : List Value), x.2.2.1 = .int a :: r ∧ x' = (if a.toInt < lo ∨ hi < a.toInt then ((x.1 : Int) + d).toNat else ((x.1 : Int) + os.getD (a.toInt - lo).toNat 0).toNat, x.2.1, r, x.2.2.2) := by
  unfold xmSw at h
  split at h
  next a r he => exact ⟨a, r, he, (Option.some.inj h).symm⟩
  next => cases h
theorem xmLk_inv {d : Int} {ps : Array (Int × Int)} {x x' : xmC} (h : xmLk d ps x = some x') : ∃ (a : Int32) (r : List Value), x.2.2.1 = .int a :: r ∧ x' = (((x.1 : Int) + Op.lookupswitch.offset ps.toList d a.toInt).toNat, x.2.1, r, x.2.2.2) := by
  unfold xmLk at h
  split at h
  next a r he => exact ⟨a, r, he, (Option.some.inj h).symm⟩
  next => cases h
/-- what the tables must say for an instruction that pushes a constant -/
def xmKs (V : xmV) (own : String) (i : xmI) (args : Array Value) (s : State) : Prop := match i.1 with
  | .ldc idx => (Nat.beq (i.2.2.getD 3 0) 1 = true ∧ ∃ tx, vk_R own idx tx (xmSt V (i.2.2.headD 0)) s) ∨ (Nat.beq (i.2.2.getD 3 0) 1 = false ∧ (Jvm.Cond.constant own idx (nI (i.2.2.headD 0))).before args s = true)
  | .ldc2_w idx => (Jvm.Cond.constantLong own idx (lN (i.2.2.headD 0))).before args s = true
  | _ => True
theorem xs_ldcS (hx : p.tables.exec = Jvm.exec) (hb : c.code = cc) {own tx : String} {idx k9 : Nat} (hown : s.vm.findClass own = some m.cls) (hk : vk_R own idx tx (xmSt V k9) s) {pc : Nat} {lv : xmL} {r : List Value} {G : xmH} (hdg : decode cc pc = .ok (.ldc idx, 2)) (k : xmGoal p l e R s m args below meth c Q V nL G0 (pc + 2, lv, (.retAddr k9 :: r), G)) : xmGoal p l e R s m args below meth c Q V nL G0 (pc, lv, r, G) := by
  intro H locs ls hl hC hS
  refine va_ldcS hx hb hown hk hdg ?_
  exact k H locs ls hl hC hS
theorem xmII_inv {f : Int32 → Int32 → Int32} {x x' : xmC} (h : xmII f x = some x') : ∃ (a b : Int32) (r : List Value), x.2.2.1 = .int b :: .int a :: r ∧ x' = (x.1 + 1, x.2.1, .int (f a b) :: r, x.2.2.2) := by
  unfold xmII at h
  split at h
  next y a r he => exact ⟨a, y, r, he, (Option.some.inj h).symm⟩
  next => cases h
theorem xmDv_inv {f : Int32 → Int32 → Int32} {x x' : xmC} (h : xmDv f x = some x') : ∃ (a b : Int32) (r : List Value), x.2.2.1 = .int b :: .int a :: r ∧ ¬ b = 0 ∧ x' = (x.1 + 1, x.2.1, .int (f a b) :: r, x.2.2.2) := by
  unfold xmDv at h
  split at h
  next y a r he =>
    by_cases h0 : y = 0
    · rw [if_pos h0] at h; cases h
    · rw [if_neg h0] at h
      exact ⟨a, y, r, he, h0, (Option.some.inj h).symm⟩
  next => cases h
theorem xmLL_inv {f : Int64 → Int64 → Int64} {x x' : xmC} (h : xmLL f x = some x') : ∃ (a b : Int64) (r : List Value), x.2.2.1 = .long b :: .long a :: r ∧ x' = (x.1 + 1, x.2.1, .long (f a b) :: r, x.2.2.2) := by
  unfold xmLL at h
  split at h
  next y a r he => exact ⟨a, y, r, he, (Option.some.inj h).symm⟩
  next => cases h
theorem xmLI_inv {f : Int64 → Int32 → Int64} {x x' : xmC} (h : xmLI f x = some x') : ∃ (a : Int64) (b : Int32) (r : List Value), x.2.2.1 = .int b :: .long a :: r ∧ x' = (x.1 + 1, x.2.1, .long (f a b) :: r, x.2.2.2) := by
  unfold xmLI at h
  split at h
  next y a r he => exact ⟨a, y, r, he, (Option.some.inj h).symm⟩
  next => cases h
theorem xmCmpL_inv {x x' : xmC} (h : xmCmpL x = some x') : ∃ (a b : Int64) (r : List Value), x.2.2.1 = .long b :: .long a :: r ∧ x' = (x.1 + 1, x.2.1, .int (lg_cmp a b) :: r, x.2.2.2) := by
  unfold xmCmpL at h
  split at h
  next y a r he => exact ⟨a, y, r, he, (Option.some.inj h).symm⟩
  next => cases h
theorem xmUI_inv {f : Int32 → Value} {x x' : xmC} (h : xmUI f x = some x') : ∃ (a : Int32) (r : List Value), x.2.2.1 = .int a :: r ∧ x' = (x.1 + 1, x.2.1, f a :: r, x.2.2.2) := by
  unfold xmUI at h
  split at h
  next a r he => exact ⟨a, r, he, (Option.some.inj h).symm⟩
  next => cases h
theorem xmUL_inv {f : Int64 → Value} {x x' : xmC} (h : xmUL f x = some x') : ∃ (a : Int64) (r : List Value), x.2.2.1 = .long a :: r ∧ x' = (x.1 + 1, x.2.1, f a :: r, x.2.2.2) := by
  unfold xmUL at h
  split at h
  next a r he => exact ⟨a, r, he, (Option.some.inj h).symm⟩
  next => cases h
theorem xmDup_inv {x x' : xmC} (h : xmDup x = some x') : ∃ (v : Value) (r : List Value), x.2.2.1 = v :: r ∧ v.category = 1 ∧ x' = (x.1 + 1, x.2.1, v :: v :: r, x.2.2.2) := by
  unfold xmDup at h
  split at h
  next a r he => exact ⟨_, r, he, rfl, (Option.some.inj h).symm⟩
  next a r he => exact ⟨_, r, he, rfl, (Option.some.inj h).symm⟩
  next => cases h
theorem xmPop_inv {x x' : xmC} (h : xmPop x = some x') : ∃ (v : Value) (r : List Value), x.2.2.1 = v :: r ∧ v.category = 1 ∧ x' = (x.1 + 1, x.2.1, r, x.2.2.2) := by
  unfold xmPop at h
  split at h
  next a r he => exact ⟨_, r, he, rfl, (Option.some.inj h).symm⟩
  next a r he => exact ⟨_, r, he, rfl, (Option.some.inj h).symm⟩
  next => cases h
theorem xmIf_inv {cd : ClassFile.Cond} {t : Nat} {x x' : xmC} (h : xmIf cd t x = some x') : ∃ (a : Int32) (r : List Value), x.2.2.1 = .int a :: r ∧ x' = (bif xmCmp cd a 0 then t else x.1 + 3, x.2.1, r, x.2.2.2) := by
  unfold xmIf at h
  split at h
  next a r he => exact ⟨a, r, he, (Option.some.inj h).symm⟩
  next => cases h
theorem xmIf2_inv {cd : ClassFile.Cond} {t : Nat} {x x' : xmC} (h : xmIf2 cd t x = some x') : ∃ (a b : Int32) (r : List Value), x.2.2.1 = .int b :: .int a :: r ∧ x' = (bif xmCmp cd a b then t else x.1 + 3, x.2.1, r, x.2.2.2) := by
  unfold xmIf2 at h
  split at h
  next y a r he => exact ⟨a, y, r, he, (Option.some.inj h).symm⟩
  next => cases h
theorem xmLdI_inv {n i : Nat} {x x' : xmC} (h : xmLdI n i x = some x') : ∃ a : Int32, xmGet x.2.1 i = some (.int a) ∧ x' = (x.1 + n, x.2.1, .int a :: x.2.2.1, x.2.2.2) := by
  unfold xmLdI at h
  split at h
  next a he => exact ⟨a, he, (Option.some.inj h).symm⟩
  next => cases h
theorem xmStI_inv {n i : Nat} {x x' : xmC} (h : xmStI n i x = some x') : ∃ (a : Int32) (r : List Value), x.2.2.1 = .int a :: r ∧ x' = (x.1 + n, xmPut1 x.2.1 i (.int a), r, x.2.2.2) := by
  unfold xmStI at h
  split at h
  next a r he => exact ⟨a, r, he, (Option.some.inj h).symm⟩
  next => cases h
theorem xmLdL_inv {n i : Nat} {x x' : xmC} (h : xmLdL n i x = some x') : ∃ a : Int64, xmGet x.2.1 i = some (.long a) ∧ x' = (x.1 + n, x.2.1, .long a :: x.2.2.1, x.2.2.2) := by
  unfold xmLdL at h
  split at h
  next a he => exact ⟨a, he, (Option.some.inj h).symm⟩
  next => cases h
theorem xmStL_inv {n i : Nat} {x x' : xmC} (h : xmStL n i x = some x') : ∃ (a : Int64) (r : List Value), x.2.2.1 = .long a :: r ∧ x' = (x.1 + n, xmPut2 x.2.1 i (.long a), r, x.2.2.2) := by
  unfold xmStL at h
  split at h
  next a r he => exact ⟨a, r, he, (Option.some.inj h).symm⟩
  next => cases h
theorem xmLdA_inv {n i : Nat} {x x' : xmC} (h : xmLdA n i x = some x') : ∃ v : Value, (∀ V, ∃ y, xmRo V v = .ref y) ∧ xmGet x.2.1 i = some v ∧ x' = (x.1 + n, x.2.1, v :: x.2.2.1, x.2.2.2) := by
  unfold xmLdA at h
  split at h
  next a he => exact ⟨_, fun V => ⟨_, rfl⟩, he, (Option.some.inj h).symm⟩
  next a he => exact ⟨_, fun V => ⟨_, rfl⟩, he, (Option.some.inj h).symm⟩
  next => cases h
theorem xmStA_inv {n i : Nat} {x x' : xmC} (h : xmStA n i x = some x') : ∃ (v : Value) (r : List Value), (∀ V, ∃ y, xmRo V v = .ref y) ∧ x.2.2.1 = v :: r ∧ x' = (x.1 + n, xmPut1 x.2.1 i v, r, x.2.2.2) := by
  unfold xmStA at h
  split at h
  next a r he => exact ⟨_, r, fun V => ⟨_, rfl⟩, he, (Option.some.inj h).symm⟩
  next a r he => exact ⟨_, r, fun V => ⟨_, rfl⟩, he, (Option.some.inj h).symm⟩
  next => cases h
theorem xmInc_inv {i : Nat} {n : Int} {x x' : xmC} (h : xmInc i n x = some x') : ∃ a : Int32, xmGet x.2.1 i = some (.int a) ∧ x' = (x.1 + 3, xmPut1 x.2.1 i (.int (a + Int32.ofInt n)), x.2.2.1, x.2.2.2) := by
  unfold xmInc at h
  split at h
  next a he => exact ⟨a, he, (Option.some.inj h).symm⟩
  next => cases h
set_option maxHeartbeats 4000000 in
theorem xmPure_sound (hx : p.tables.exec = Jvm.exec) (hb : c.code = cc) {own : String} (hown : s.vm.findClass own = some m.cls) {str : Nat → Nat} {i : xmI} {x x' : xmC} (hks : xmKs V own i args s) (hdg : decode cc x.1 = .ok (i.1, i.2.1)) (hlen : xmSwi i.1 = false → i.2.1 = xmLen i.1) (hn : xmNum nL x.1 i = true) (hs : xmPure str i x = some x') (k : xmGoal p l e R s m args below meth c Q V nL G0 x') : xmGoal p l e R s m args below meth c Q V nL G0 x := by
  obtain ⟨pc, lv, st, G⟩ := x
  obtain ⟨ins, len, aux⟩ := i
  dsimp only at hdg hlen
  cases ins
  case tableswitch d lo hi os =>
    obtain ⟨a, r, he, rfl⟩ := xmSw_inv (show xmSw _ _ _ _ _ = some x' from hs)
    cases he
    simp only [xmNum, Bool.and_eq_true, decide_eq_true_eq, Array.all_eq_true_iff_forall_mem] at hn
    exact xs_sw hx hb hdg hn.1 hn.2.1 hn.2.2 k
  case lookupswitch d ps =>
    obtain ⟨a, r, he, rfl⟩ := xmLk_inv (show xmLk _ _ _ = some x' from hs)
    cases he
    simp only [xmNum, Bool.and_eq_true, decide_eq_true_eq] at hn
    exact xs_lk hx hb hdg hn.1 (fun o ho => of_decide_eq_true (List.all_eq_true.mp hn.2.1 o ho)) hn.2.2 k
  all_goals (have hlen := hlen rfl; subst hlen)
  case iadd =>
    obtain ⟨a, b, r, he, rfl⟩ := xmII_inv (show xmII _ _ = some x' from hs)
    cases he
    exact xs_iadd hx hb hdg k
  case isub =>
    obtain ⟨a, b, r, he, rfl⟩ := xmII_inv (show xmII _ _ = some x' from hs)
    cases he
    exact xs_isub hx hb hdg k
  case imul =>
    obtain ⟨a, b, r, he, rfl⟩ := xmII_inv (show xmII _ _ = some x' from hs)
    cases he
    exact xs_imul hx hb hdg k
  case iand =>
    obtain ⟨a, b, r, he, rfl⟩ := xmII_inv (show xmII _ _ = some x' from hs)
    cases he
    exact xs_iand hx hb hdg k
  case ior =>
    obtain ⟨a, b, r, he, rfl⟩ := xmII_inv (show xmII _ _ = some x' from hs)
    cases he
    exact xs_ior hx hb hdg k
  case ixor =>
    obtain ⟨a, b, r, he, rfl⟩ := xmII_inv (show xmII _ _ = some x' from hs)
    cases he
    exact xs_ixor hx hb hdg k
  case ishl =>
    obtain ⟨a, b, r, he, rfl⟩ := xmII_inv (show xmII _ _ = some x' from hs)
    cases he
    exact xs_ishl hx hb hdg k
  case ishr =>
    obtain ⟨a, b, r, he, rfl⟩ := xmII_inv (show xmII _ _ = some x' from hs)
    cases he
    exact xs_ishr hx hb hdg k
  case idiv =>
    obtain ⟨a, b, r, he, h0, rfl⟩ := xmDv_inv (show xmDv _ _ = some x' from hs)
    cases he
    exact xs_idiv hx hb h0 hdg k
  case irem =>
    obtain ⟨a, b, r, he, h0, rfl⟩ := xmDv_inv (show xmDv _ _ = some x' from hs)
    cases he
    exact xs_irem hx hb h0 hdg k
  case ladd =>
    obtain ⟨a, b, r, he, rfl⟩ := xmLL_inv (show xmLL _ _ = some x' from hs)
    cases he
    exact xs_ladd hx hb hdg k
  case lsub =>
    obtain ⟨a, b, r, he, rfl⟩ := xmLL_inv (show xmLL _ _ = some x' from hs)
    cases he
    exact xs_lsub hx hb hdg k
  case lmul =>
    obtain ⟨a, b, r, he, rfl⟩ := xmLL_inv (show xmLL _ _ = some x' from hs)
    cases he
    exact xs_lmul hx hb hdg k
  case land =>
    obtain ⟨a, b, r, he, rfl⟩ := xmLL_inv (show xmLL _ _ = some x' from hs)
    cases he
    exact xs_land hx hb hdg k
  case lor =>
    obtain ⟨a, b, r, he, rfl⟩ := xmLL_inv (show xmLL _ _ = some x' from hs)
    cases he
    exact xs_lor hx hb hdg k
  case lushr =>
    obtain ⟨a, b, r, he, rfl⟩ := xmLI_inv (show xmLI _ _ = some x' from hs)
    cases he
    exact xs_lushr hx hb hdg k
  case lshl =>
    obtain ⟨a, b, r, he, rfl⟩ := xmLI_inv (show xmLI _ _ = some x' from hs)
    cases he
    exact xs_lshl hx hb hdg k
  case lcmp =>
    obtain ⟨a, b, r, he, rfl⟩ := xmCmpL_inv (show xmCmpL _ = some x' from hs)
    cases he
    exact xs_lcmp hx hb hdg k
  case ineg =>
    obtain ⟨a, r, he, rfl⟩ := xmUI_inv (show xmUI _ _ = some x' from hs)
    cases he
    exact xs_ineg hx hb hdg k
  case i2l =>
    obtain ⟨a, r, he, rfl⟩ := xmUI_inv (show xmUI _ _ = some x' from hs)
    cases he
    exact xs_i2l hx hb hdg k
  case i2c =>
    obtain ⟨a, r, he, rfl⟩ := xmUI_inv (show xmUI _ _ = some x' from hs)
    cases he
    exact xs_i2c hx hb hdg k
  case l2i =>
    obtain ⟨a, r, he, rfl⟩ := xmUL_inv (show xmUL _ _ = some x' from hs)
    cases he
    exact xs_l2i hx hb hdg k
  case lneg =>
    obtain ⟨a, r, he, rfl⟩ := xmUL_inv (show xmUL _ _ = some x' from hs)
    cases he
    exact xs_lneg hx hb hdg k
  case dup =>
    obtain ⟨v, r, he, hv, rfl⟩ := xmDup_inv (show xmDup _ = some x' from hs)
    cases he
    exact xs_dup hx hb hv hdg k
  case pop =>
    obtain ⟨v, r, he, hv, rfl⟩ := xmPop_inv (show xmPop _ = some x' from hs)
    cases he
    exact xs_pop hx hb hv hdg k
  case iconst n =>
    cases hs
    exact xs_iconst hx hb hdg k
  case bipush n =>
    cases hs
    exact xs_bipush hx hb hdg k
  case sipush n =>
    cases hs
    exact xs_sipush hx hb hdg k
  case lconst n =>
    cases hs
    exact xs_lconst hx hb hdg k
  case iload j =>
    obtain ⟨a, hg, rfl⟩ := xmLdI_inv (show xmLdI _ _ _ = some x' from hs)
    exact xs_iload hx hb hdg hg k
  case iload_n j =>
    obtain ⟨a, hg, rfl⟩ := xmLdI_inv (show xmLdI _ _ _ = some x' from hs)
    exact xs_iload_n hx hb hdg hg k
  case istore j =>
    obtain ⟨a, r, he, rfl⟩ := xmStI_inv (show xmStI _ _ _ = some x' from hs)
    cases he
    exact xs_istore hx hb hdg (of_decide_eq_true hn) k
  case istore_n j =>
    obtain ⟨a, r, he, rfl⟩ := xmStI_inv (show xmStI _ _ _ = some x' from hs)
    cases he
    exact xs_istore_n hx hb hdg (of_decide_eq_true hn) k
  case lload j =>
    obtain ⟨a, hg, rfl⟩ := xmLdL_inv (show xmLdL _ _ _ = some x' from hs)
    exact xs_lload hx hb hdg hg k
  case lload_n j =>
    obtain ⟨a, hg, rfl⟩ := xmLdL_inv (show xmLdL _ _ _ = some x' from hs)
    exact xs_lload_n hx hb hdg hg k
  case lstore j =>
    obtain ⟨a, r, he, rfl⟩ := xmStL_inv (show xmStL _ _ _ = some x' from hs)
    cases he
    exact xs_lstore hx hb hdg (of_decide_eq_true hn) k
  case lstore_n j =>
    obtain ⟨a, r, he, rfl⟩ := xmStL_inv (show xmStL _ _ _ = some x' from hs)
    cases he
    exact xs_lstore_n hx hb hdg (of_decide_eq_true hn) k
  case aload j =>
    obtain ⟨v, hv, hg, rfl⟩ := xmLdA_inv (show xmLdA _ _ _ = some x' from hs)
    exact xs_aload hx hb hdg hg (hv V) k
  case aload_n j =>
    obtain ⟨v, hv, hg, rfl⟩ := xmLdA_inv (show xmLdA _ _ _ = some x' from hs)
    exact xs_aload_n hx hb hdg hg (hv V) k
  case astore j =>
    obtain ⟨v, r, hv, he, rfl⟩ := xmStA_inv (show xmStA _ _ _ = some x' from hs)
    cases he
    exact xs_astore hx hb hdg (of_decide_eq_true hn) (hv V) k
  case astore_n j =>
    obtain ⟨v, r, hv, he, rfl⟩ := xmStA_inv (show xmStA _ _ _ = some x' from hs)
    cases he
    exact xs_astore_n hx hb hdg (of_decide_eq_true hn) (hv V) k
  case iinc j n =>
    obtain ⟨a, hg, rfl⟩ := xmInc_inv (show xmInc _ _ _ = some x' from hs)
    exact xs_iinc hx hb hdg hg (of_decide_eq_true hn) k
  case goto o =>
    cases hs
    exact xs_goto hx hb hdg (of_decide_eq_true hn) k
  case ifCond cd o =>
    obtain ⟨a, r, he, rfl⟩ := xmIf_inv (show xmIf _ _ _ = some x' from hs)
    cases he
    cases cd
    case eq => exact xs_if_eq hx hb hdg (of_decide_eq_true hn) k
    case ne => exact xs_if_ne hx hb hdg (of_decide_eq_true hn) k
    case lt => exact xs_if_lt hx hb hdg (of_decide_eq_true hn) k
    case ge => exact xs_if_ge hx hb hdg (of_decide_eq_true hn) k
    case gt => exact xs_if_gt hx hb hdg (of_decide_eq_true hn) k
    case le => exact xs_if_le hx hb hdg (of_decide_eq_true hn) k
  case if_icmp cd o =>
    obtain ⟨a, b, r, he, rfl⟩ := xmIf2_inv (show xmIf2 _ _ _ = some x' from hs)
    cases he
    cases cd
    case eq => exact xs_icmp_eq hx hb hdg (of_decide_eq_true hn) k
    case ne => exact xs_icmp_ne hx hb hdg (of_decide_eq_true hn) k
    case lt => exact xs_icmp_lt hx hb hdg (of_decide_eq_true hn) k
    case ge => exact xs_icmp_ge hx hb hdg (of_decide_eq_true hn) k
    case gt => exact xs_icmp_gt hx hb hdg (of_decide_eq_true hn) k
    case le => exact xs_icmp_le hx hb hdg (of_decide_eq_true hn) k
  case dup2 =>
    obtain ⟨v, w, r, he, hv, hw, rfl⟩ := xmDup2_inv (show xmDup2 _ = some x' from hs)
    cases he
    exact xs_dup2 hx hb hv hw hdg k
  case i2b =>
    obtain ⟨a, r, he, rfl⟩ := xmUI_inv (show xmUI _ _ = some x' from hs)
    cases he
    exact xs_i2b hx hb hdg k
  case lshr =>
    obtain ⟨a, b, r, he, rfl⟩ := xmLI_inv (show xmLI _ _ = some x' from hs)
    cases he
    exact xs_lshr hx hb hdg k
  case ldc j =>
    have hs : some _ = some x' := hs
    cases hs
    rcases hks with ⟨h1, tx, hk⟩ | ⟨h1, hk⟩
    · have k := k
      dsimp only [xmPush] at k
      rw [h1] at k
      exact xs_ldcS hx hb hown hk hdg k
    · have k := k
      dsimp only [xmPush] at k
      rw [h1] at k
      exact xs_ldc hx hb hown hk hdg k
  case ldc2_w j =>
    cases hs
    exact xs_ldc2_w hx hb hown hks hdg k
  all_goals (cases hs)
end XPure
