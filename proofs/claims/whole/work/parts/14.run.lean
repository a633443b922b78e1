/-- what a number of 'vwCl' stands for: its words, its types, what a new one holds -/
def xmClsOK (ci : Nat) : Prop := ∃ q : vw_C, vwCl[ci]? = some q ∧ (∀ w ∈ u_ws q.1 q.2.1 q.2.2, w ∈ xmTs) ∧ (∀ k, k < q.2.2 → parseFieldDescriptor (q.2.1 k).2.2.1 = some (xmTyp ci k)) ∧ (∀ a, a < q.2.2 → ∀ b, b < q.2.2 → a ≠ b → (q.2.1 a).2.1 ≠ (q.2.1 b).2.1) ∧ Cond.instantiable q.1 q.2.2 ∈ xmTs ∧ Cond.initialized q.1 ∈ xmTs ∧ q.2.2 = (xmDef ci).length ∧ ∀ j, j < q.2.2 → defaultValue (xmTyp ci j) = vp_V (xmDef ci) j
def xmN (i : xmI) (k : Nat) : Nat := i.2.2.getD k 0
/-- a field's link: plain, or of a mate -/
def xmFieldOK (own : String) (idx : Nat) (ci fi : Nat) : Prop := ∃ q : vw_C, vwCl[ci]? = some q ∧ fi < q.2.2 ∧ (Cond.fieldLink own idx (q.2.1 fi).1 (q.2.1 fi).2.1 (q.2.1 fi).2.2.1 ∈ xmTs ∨ ∃ host : String, Cond.fieldLinkNest own idx (q.2.1 fi).1 (q.2.1 fi).2.1 (q.2.1 fi).2.2.1 host ∈ lw_tbl)
def xmNargs (j n : Nat) : Prop := (xmY j).cls ≠ "java/lang/invoke/MethodHandle" ∧ (xmY j).cls ≠ "java/lang/invoke/VarHandle" ∧ (parseMethodDescriptor (xmY j).desc).map (fun d => d.parameters.length) = some n
/-- method j may be called from method k, which has the room -/
def xmToOK (k j n : Nat) : Prop := xmCode j ∧ xmFr j + 1 ≤ xmFr k ∧ 19 + xmML j + xmLo j ≤ xmLo k ∧ Cond.initialized (xmY j).cls ∈ xmTs ∧ xmNargs j n
/-- what is true of an instruction of method k -/
def xmOK (k pc : Nat) (i : xmI) : Prop := decode (xmB k) pc = .ok (i.1, i.2.1) ∧ match i.1 with
  | .getfield idx => i.2.1 = 3 ∧ ((xmN i 0 < 2000 ∧ xmClsOK (xmN i 0) ∧ xmFieldOK (xmY k).cls idx (xmN i 0) (xmN i 1)) ∨ (xmN i 0 = 2000 ∧ Cond.fieldLink (xmY k).cls idx "java/lang/String" "value" "[B" ∈ xmTs) ∨ (xmN i 0 = 2001 ∧ Cond.fieldLink (xmY k).cls idx "java/lang/String" "coder" "B" ∈ xmTs))
  | .getstatic idx => i.2.1 = 3 ∧ ((xmN i 0 = 2002 ∧ Cond.fieldLink (xmY k).cls idx "java/lang/String" "COMPACT_STRINGS" "Z" ∈ xmTs) ∨ (xmN i 0 = 2003 ∧ Cond.fieldLink (xmY k).cls idx "jdk/internal/util/Preconditions" "SIOOBE_FORMATTER" "Ljava/util/function/BiFunction;" ∈ xmTs))
  | .ldc idx => i.2.1 = 2 ∧ ((Nat.beq (i.2.2.getD 3 0) 1 = true ∧ i.2.2.headD 0 < zN ∧ (zS (i.2.2.headD 0)).1 = (xmY k).cls ∧ (zS (i.2.2.headD 0)).2.1 = idx) ∨ (Nat.beq (i.2.2.getD 3 0) 1 = false ∧ Cond.constant (xmY k).cls idx (nI (i.2.2.headD 0)) ∈ xmTs))
  | .ldc2_w idx => i.2.1 = 3 ∧ Cond.constantLong (xmY k).cls idx (lN (i.2.2.headD 0)) ∈ xmTs
  | .putfield idx => i.2.1 = 3 ∧ xmClsOK (xmN i 0) ∧ ∃ q : vw_C, vwCl[xmN i 0]? = some q ∧ xmN i 1 < q.2.2 ∧
      (((q.2.1 (xmN i 1)).2.2.2 = false ∧ Cond.fieldLink (xmY k).cls idx (q.2.1 (xmN i 1)).1 (q.2.1 (xmN i 1)).2.1 (q.2.1 (xmN i 1)).2.2.1 ∈ xmTs) ∨
       ((q.2.1 (xmN i 1)).2.2.2 = false ∧ ∃ host : String, Cond.fieldLinkNest (xmY k).cls idx (q.2.1 (xmN i 1)).1 (q.2.1 (xmN i 1)).2.1 (q.2.1 (xmN i 1)).2.2.1 host ∈ lw_tbl) ∨
       ((q.2.1 (xmN i 1)).2.2.2 = true ∧ (xmY k).name = "<init>" ∧ (q.2.1 (xmN i 1)).1 = (xmY k).cls ∧ Cond.fieldLink (xmY k).cls idx (q.2.1 (xmN i 1)).1 (q.2.1 (xmN i 1)).2.1 (q.2.1 (xmN i 1)).2.2.1 ∈ xmTs))
  | .new idx => i.2.1 = 3 ∧ xmClsOK (xmN i 0) ∧ ∃ q : vw_C, vwCl[xmN i 0]? = some q ∧ Cond.classLink (xmY k).cls idx q.1 ∈ xmTs
  | .newarray at1 => i.2.1 = 2 ∧ (xmN i 0 = 1 ∨ xmN i 0 = 2 ∨ xmN i 0 = 3 ∨ xmN i 0 = 4) ∧ newarray.typeOf at1 = xmTy (xmN i 0) ∧ Cond.arrayClass (newarray.typeOf at1) ∈ xmTs
  | .invokestatic idx => i.2.1 = 3 ∧ ((xmN i 0 < 1000 ∧ xmToOK k (xmN i 0) (xmN i 1) ∧ Cond.methodLink (xmY k).cls idx (xmY (xmN i 0)) ∈ xmTs ∧ Cond.static (xmY (xmN i 0)) ∈ xmTs) ∨ (1 ≤ xmFr k ∧ 30 ≤ xmLo k ∧
      ((xmN i 0 = 1001 ∧ Cond.methodLink (xmY k).cls idx Lib.Math.min.name ∈ xmTs ∧ Cond.static Lib.Math.min.name ∈ xmTs ∧ Cond.initialized "java/lang/Math" ∈ xmTs ∧ Cond.code Lib.Math.min.name Lib.Math.min.code 2 (some .int) ∈ xmTs) ∨
       (xmN i 0 = 1004 ∧ Cond.methodLink (xmY k).cls idx Lib.Math.max.name ∈ xmTs ∧ Cond.static Lib.Math.max.name ∈ xmTs ∧ Cond.initialized "java/lang/Math" ∈ xmTs ∧ Cond.code Lib.Math.max.name Lib.Math.max.code 2 (some .int) ∈ xmTs) ∨
       (xmN i 0 = 1002 ∧ Cond.methodLink (xmY k).cls idx arraycopyName ∈ xmTs ∧ Cond.native arraycopyName ∈ xmTs ∧ Cond.static arraycopyName ∈ xmTs ∧ Cond.initialized "java/lang/System" ∈ xmTs))))
  | .invokevirtual idx => i.2.1 = 3 ∧ xmToOK k (xmN i 0) (xmN i 1) ∧ Cond.methodLink (xmY k).cls idx (xmY (xmN i 0)) ∈ xmTs ∧ Cond.instanceMethod (xmY (xmN i 0)) ∈ xmTs ∧ Cond.selects (xmY (xmN i 0)).cls (xmY (xmN i 0)) (xmY (xmN i 0)) ∈ xmTs ∧ ((xmN i 2 < 99 ∧ ∃ q : vw_C, vwCl[xmN i 2]? = some q ∧ q.1 = (xmY (xmN i 0)).cls) ∨ (xmN i 2 = 99 ∧ (xmY (xmN i 0)).cls = "java/lang/String"))
  | .invokespecial idx => i.2.1 = 3 ∧ ((xmN i 0 = 1000 ∧ 1 ≤ xmFr k ∧ 20 ≤ xmLo k ∧ Cond.methodLink (xmY k).cls idx Lib.objectInit ∈ xmTs ∧ Cond.instanceMethod Lib.objectInit ∈ xmTs ∧ Cond.code Lib.objectInit ⟨#[0xb1]⟩ 1 none ∈ xmTs) ∨ (xmN i 0 ≠ 1000 ∧ xmToOK k (xmN i 0) (xmN i 1) ∧ (Cond.methodLink (xmY k).cls idx (xmY (xmN i 0)) ∈ xmTs ∨ ∃ host : String, Cond.methodLinkNest (xmY k).cls idx (xmY (xmN i 0)) host ∈ lw_tbl) ∧ Cond.instanceMethod (xmY (xmN i 0)) ∈ xmTs ∧ xmRt (xmN i 0) = none ∧ (xmY (xmN i 0)).name = "<init>"))
  | _ => (xmSwi i.1 = false → i.2.1 = xmLen i.1) ∧ xmNum (xmML k) pc i = true
theorem xmDef_ro (V : xmV) (k : Nat) : (xmDef k).map (xmRo V) = xmDef k := by
  unfold xmDef
  simp only [cond_eq_ite]
  (repeat' split) <;> rfl
/-- an instruction over the heap -/
def xmHR (V : xmV) (i : xmI) (x x' : xmC) : Prop := match i.1 with
  | .getfield _ => (∃ (a : Nat) (r : List Value), x.2.2.1 = .retAddr a :: r ∧ a < zN ∧ ((xmN i 0 = 2000 ∧ x' = (x.1 + 3, x.2.1, .retAddr (1000 + a) :: r, x.2.2.2)) ∨ (xmN i 0 = 2001 ∧ x' = (x.1 + 3, x.2.1, .int 0 :: r, x.2.2.2)))) ∨ xmN i 0 < 2000 ∧ ∃ (a : Nat) (fs : List Value) (v : Value) (r : List Value), x.2.2.1 = .ref a :: r ∧ x.2.2.2.1 a = (16 + xmN i 0, fs) ∧ fs[xmN i 1]? = some v ∧ x' = (x.1 + 3, x.2.1, v :: r, x.2.2.2)
  | .getstatic _ => (xmN i 0 = 2002 ∧ x' = (x.1 + 3, x.2.1, .int 1 :: x.2.2.1, x.2.2.2)) ∨ (xmN i 0 = 2003 ∧ x' = (x.1 + 3, x.2.1, .float 0 :: x.2.2.1, x.2.2.2))
  | .putfield _ => ∃ (a : Nat) (fs : List Value) (v : Value) (r : List Value), x.2.2.1 = v :: .ref a :: r ∧ x.2.2.2.1 a = (16 + xmN i 0, fs) ∧ narrow (xmTyp (xmN i 0) (xmN i 1)) (xmRo V v) = xmRo V v ∧ fits (xmTyp (xmN i 0) (xmN i 1)) (xmRo V v) = true ∧ x' = (x.1 + 3, x.2.1, r, (xmUp x.2.2.2.1 a (16 + xmN i 0, fs.set (xmN i 1) v), x.2.2.2.2))
  | .iaload => (∃ (j : Int32) (r : List Value), x.2.2.1 = .int j :: .retAddr 2000 :: r ∧ ¬ j < 0 ∧ j.toNatClampNeg < V.2.2.2.2.2.2.2.1.length ∧ x' = (x.1 + 1, x.2.1, .int (V.2.2.2.2.2.2.2.1.getD j.toNatClampNeg 0) :: r, x.2.2.2)) ∨ ∃ (a : Nat) (vs : List Value) (j : Int32) (v : Value) (r : List Value), x.2.2.1 = .int j :: .ref a :: r ∧ x.2.2.2.1 a = (1, vs) ∧ ¬ j < 0 ∧ vs[j.toNatClampNeg]? = some v ∧ x' = (x.1 + 1, x.2.1, v :: r, x.2.2.2)
  | .laload => ∃ (a : Nat) (vs : List Value) (j : Int32) (v : Value) (r : List Value), x.2.2.1 = .int j :: .ref a :: r ∧ x.2.2.2.1 a = (2, vs) ∧ ¬ j < 0 ∧ vs[j.toNatClampNeg]? = some v ∧ x' = (x.1 + 1, x.2.1, v :: r, x.2.2.2)
  | .iastore => ∃ (a : Nat) (vs : List Value) (j y : Int32) (r : List Value), x.2.2.1 = .int y :: .int j :: .ref a :: r ∧ x.2.2.2.1 a = (1, vs) ∧ ¬ j < 0 ∧ j.toNatClampNeg < vs.length ∧ x' = (x.1 + 1, x.2.1, r, (xmUp x.2.2.2.1 a (1, vs.set j.toNatClampNeg (.int y)), x.2.2.2.2))
  | .lastore => ∃ (a : Nat) (vs : List Value) (j : Int32) (y : Int64) (r : List Value), x.2.2.1 = .long y :: .int j :: .ref a :: r ∧ x.2.2.2.1 a = (2, vs) ∧ ¬ j < 0 ∧ j.toNatClampNeg < vs.length ∧ x' = (x.1 + 1, x.2.1, r, (xmUp x.2.2.2.1 a (2, vs.set j.toNatClampNeg (.long y)), x.2.2.2.2))
  | .baload => (∃ (a : Nat) (j z : Int32) (r : List Value), x.2.2.1 = .int j :: .retAddr (1000 + a) :: r ∧ a < zN ∧ ¬ j < 0 ∧ (zBy a)[j.toNatClampNeg]? = some z ∧ x' = (x.1 + 1, x.2.1, .int z :: r, x.2.2.2)) ∨ ∃ (a t : Nat) (vs : List Value) (j : Int32) (v : Value) (r : List Value), x.2.2.1 = .int j :: .ref a :: r ∧ x.2.2.2.1 a = (t, vs) ∧ (t = 3 ∨ t = 4) ∧ ¬ j < 0 ∧ vs[j.toNatClampNeg]? = some v ∧ x' = (x.1 + 1, x.2.1, v :: r, x.2.2.2)
  | .bastore => ∃ (a t : Nat) (vs : List Value) (j y : Int32) (r : List Value), x.2.2.1 = .int y :: .int j :: .ref a :: r ∧ x.2.2.2.1 a = (t, vs) ∧ (t = 3 ∨ t = 4) ∧ ¬ j < 0 ∧ j.toNatClampNeg < vs.length ∧ x' = (x.1 + 1, x.2.1, r, (xmUp x.2.2.2.1 a (t, vs.set j.toNatClampNeg (narrow (xmTy t) (.int y))), x.2.2.2.2))
  | .arraylength => (∃ (a : Nat) (r : List Value), x.2.2.1 = .retAddr (1000 + a) :: r ∧ a < zN ∧ x' = (x.1 + 1, x.2.1, .int (nI (zBy a).length) :: r, x.2.2.2)) ∨ (∃ r : List Value, x.2.2.1 = .retAddr 2000 :: r ∧ x' = (x.1 + 1, x.2.1, .int (nI V.2.2.2.2.2.2.2.1.length) :: r, x.2.2.2)) ∨ ∃ (a t : Nat) (vs : List Value) (r : List Value), x.2.2.1 = .ref a :: r ∧ x.2.2.2.1 a = (t, vs) ∧ (t = 1 ∨ t = 2 ∨ t = 3 ∨ t = 4) ∧ x' = (x.1 + 1, x.2.1, .int (nI vs.length) :: r, x.2.2.2)
  | .newarray _ => ∃ (n : Int32) (r : List Value), x.2.2.1 = .int n :: r ∧ ¬ n < 0 ∧ n.toNatClampNeg ≤ 300000 ∧ x' = (x.1 + 2, x.2.1, .ref x.2.2.2.2.1 :: r, (xmUp x.2.2.2.1 x.2.2.2.2.1 (xmN i 0, List.replicate n.toNatClampNeg (defaultValue (xmTy (xmN i 0)))), x.2.2.2.2.1 + 1, x.2.2.2.2.2 + n.toNatClampNeg))
  | .new _ => x' = (x.1 + 3, x.2.1, .ref x.2.2.2.2.1 :: x.2.2.1, (xmUp x.2.2.2.1 x.2.2.2.2.1 (16 + xmN i 0, xmDef (xmN i 0)), x.2.2.2.2.1 + 1, x.2.2.2.2.2 + (xmDef (xmN i 0)).length))
  | _ => False
abbrev xmO : Type := Nat → List Value → xmH → Option Value → xmH → Prop
/-- a call -/
def xmIR (O : xmO) (i : xmI) (x x' : xmC) : Prop := match i.1 with
  | .invokestatic _ => (xmN i 0 = 1004 ∧ ∃ (a b : Int32) (rest : List Value), x.2.2.1 = .int b :: .int a :: rest ∧ (rest.map fun v => v.category).sum ≤ 8 ∧ x' = (x.1 + 3, x.2.1, .int (if a < b then b else a) :: rest, x.2.2.2)) ∨
      (xmN i 0 = 1001 ∧ ∃ (a b : Int32) (rest : List Value), x.2.2.1 = .int b :: .int a :: rest ∧ (rest.map fun v => v.category).sum ≤ 8 ∧ x' = (x.1 + 3, x.2.1, .int (if b < a then b else a) :: rest, x.2.2.2)) ∨
      (xmN i 0 = 1002 ∧ ∃ (a0 a1 : Nat) (vs ws rest : List Value) (sp dp n : Int32), x.2.2.1 = .int n :: .int dp :: .ref a1 :: .int sp :: .ref a0 :: rest ∧ x.2.2.2.1 a0 = (1, vs) ∧ x.2.2.2.1 a1 = (1, ws) ∧ (∀ v ∈ vs, ∃ z : Int32, v = .int z) ∧ ¬ sp < 0 ∧ ¬ dp < 0 ∧ ¬ n < 0 ∧ sp.toNatClampNeg + n.toNatClampNeg ≤ vs.length ∧ dp.toNatClampNeg + n.toNatClampNeg ≤ ws.length ∧ (rest.map fun v => v.category).sum ≤ 8 ∧ x' = (x.1 + 3, x.2.1, rest, (xmUp x.2.2.2.1 a1 (1, xmCpy vs ws sp.toNatClampNeg dp.toNatClampNeg n.toNatClampNeg), x.2.2.2.2))) ∨
      xmN i 0 < 1000 ∧ ∃ (av rest : List Value) (r1 : Option Value) (G1 : xmH), x.2.2.1 = av.reverse ++ rest ∧ av.length = xmN i 1 ∧ (rest.map fun v => v.category).sum ≤ 8 ∧ O (xmN i 0) av x.2.2.2 r1 G1 ∧ x' = (x.1 + 3, x.2.1, r1.toList ++ rest, G1)
  | .invokevirtual _ => (xmN i 2 = 99 ∧ ∃ (b : Nat) (As rest : List Value) (r1 : Option Value) (G1 : xmH), b < zN ∧ x.2.2.1 = As.reverse ++ .retAddr b :: rest ∧ As.length = xmN i 1 ∧ (rest.map fun v => v.category).sum ≤ 8 ∧ O (xmN i 0) (.retAddr b :: As) x.2.2.2 r1 G1 ∧ x' = (x.1 + 3, x.2.1, r1.toList ++ rest, G1)) ∨ xmN i 2 < 99 ∧ ∃ (b : Nat) (As rest : List Value) (r1 : Option Value) (G1 : xmH) (fs : List Value), x.2.2.1 = As.reverse ++ .ref b :: rest ∧ As.length = xmN i 1 ∧ (rest.map fun v => v.category).sum ≤ 8 ∧ x.2.2.2.1 b = (16 + xmN i 2, fs) ∧ O (xmN i 0) (.ref b :: As) x.2.2.2 r1 G1 ∧ x' = (x.1 + 3, x.2.1, r1.toList ++ rest, G1)
  | .invokespecial _ => (xmN i 0 = 1000 ∧ ∃ (b : Nat) (rest : List Value), x.2.2.1 = .ref b :: rest ∧ (rest.map fun v => v.category).sum ≤ 8 ∧ x' = (x.1 + 3, x.2.1, rest, x.2.2.2)) ∨ (xmN i 0 ≠ 1000 ∧ ∃ (b : Nat) (As rest : List Value) (G1 : xmH), x.2.2.1 = As.reverse ++ .ref b :: rest ∧ As.length = xmN i 1 ∧ (rest.map fun v => v.category).sum ≤ 8 ∧ O (xmN i 0) (.ref b :: As) x.2.2.2 none G1 ∧ x' = (x.1 + 3, x.2.1, rest, G1))
  | _ => False
def xmRet (ret : Option FieldType) (i : xmI) (x : xmC) (r : Option Value) : Prop := match i.1 with
  | .ireturn => ∃ (v : Int32) (ty : FieldType), x.2.2.1 = [.int v] ∧ ret = some ty ∧ narrow ty (.int v) = .int v ∧ r = some (.int v)
  | .lreturn => ∃ v : Int64, x.2.2.1 = [.long v] ∧ ret = some .long ∧ r = some (.long v)
  | .areturn => ∃ (v : Value) (rt : FieldType), ((∃ a, v = .ref a) ∨ ∃ a, v = .retAddr a) ∧ x.2.2.1 = [v] ∧ ret = some rt ∧ ((∃ n, rt = .object n) ∨ ∃ t, rt = .array t) ∧ r = some v
  | .return_ => x.2.2.1 = [] ∧ ret = none ∧ r = none
  | _ => False
/-- n instructions, and calls by O: method k comes from x to its end, with r and G' -/
def xmRun (V : xmV) (O : xmO) (k : Nat) : Nat → xmC → Option Value → xmH → Prop
  | 0, _, _, _ => False
  | n + 1, x, r, G' => ∃ i : xmI, xmCd k x.1 = some i ∧ ((∃ x', (xmPure id i x = some x' ∨ xmHR V i x x' ∨ xmIR O i x x') ∧ xmRun V O k n x' r G') ∨ (xmRet (xmRt k) i x r ∧ G' = x.2.2.2))
/-- the heap doesn't shrink -/
def xmLe (G G' : xmH) : Prop := G.2.1 ≤ G'.2.1 ∧ G.2.2 ≤ G'.2.2
theorem xmLe.rf {G : xmH} : xmLe G G := ⟨Nat.le_refl _, Nat.le_refl _⟩
theorem xmLe.tr {G G1 G2 : xmH} (h : xmLe G G1) (h2 : xmLe G1 G2) : xmLe G G2 := ⟨Nat.le_trans h.1 h2.1, Nat.le_trans h.2 h2.2⟩
theorem xmPure_heap {str : Nat → Nat} {i : xmI} {x x' : xmC} (h : xmPure str i x = some x') : x'.2.2.2 = x.2.2.2 := by
  obtain ⟨ins, len, aux⟩ := i
  cases ins
  case iadd => obtain ⟨a, b, r, he, rfl⟩ := xmII_inv (show xmII _ _ = some x' from h); rfl
  case isub => obtain ⟨a, b, r, he, rfl⟩ := xmII_inv (show xmII _ _ = some x' from h); rfl
  case imul => obtain ⟨a, b, r, he, rfl⟩ := xmII_inv (show xmII _ _ = some x' from h); rfl
  case iand => obtain ⟨a, b, r, he, rfl⟩ := xmII_inv (show xmII _ _ = some x' from h); rfl
  case ior => obtain ⟨a, b, r, he, rfl⟩ := xmII_inv (show xmII _ _ = some x' from h); rfl
  case ixor => obtain ⟨a, b, r, he, rfl⟩ := xmII_inv (show xmII _ _ = some x' from h); rfl
  case ishl => obtain ⟨a, b, r, he, rfl⟩ := xmII_inv (show xmII _ _ = some x' from h); rfl
  case ishr => obtain ⟨a, b, r, he, rfl⟩ := xmII_inv (show xmII _ _ = some x' from h); rfl
  case idiv => obtain ⟨a, b, r, he, h0, rfl⟩ := xmDv_inv (show xmDv _ _ = some x' from h); rfl
  case irem => obtain ⟨a, b, r, he, h0, rfl⟩ := xmDv_inv (show xmDv _ _ = some x' from h); rfl
  case ladd => obtain ⟨a, b, r, he, rfl⟩ := xmLL_inv (show xmLL _ _ = some x' from h); rfl
  case lsub => obtain ⟨a, b, r, he, rfl⟩ := xmLL_inv (show xmLL _ _ = some x' from h); rfl
  case lmul => obtain ⟨a, b, r, he, rfl⟩ := xmLL_inv (show xmLL _ _ = some x' from h); rfl
  case land => obtain ⟨a, b, r, he, rfl⟩ := xmLL_inv (show xmLL _ _ = some x' from h); rfl
  case lor => obtain ⟨a, b, r, he, rfl⟩ := xmLL_inv (show xmLL _ _ = some x' from h); rfl
  case lushr => obtain ⟨a, b, r, he, rfl⟩ := xmLI_inv (show xmLI _ _ = some x' from h); rfl
  case lshl => obtain ⟨a, b, r, he, rfl⟩ := xmLI_inv (show xmLI _ _ = some x' from h); rfl
  case lcmp => obtain ⟨a, b, r, he, rfl⟩ := xmCmpL_inv (show xmCmpL _ = some x' from h); rfl
  case ineg => obtain ⟨a, r, he, rfl⟩ := xmUI_inv (show xmUI _ _ = some x' from h); rfl
  case i2l => obtain ⟨a, r, he, rfl⟩ := xmUI_inv (show xmUI _ _ = some x' from h); rfl
  case i2c => obtain ⟨a, r, he, rfl⟩ := xmUI_inv (show xmUI _ _ = some x' from h); rfl
  case l2i => obtain ⟨a, r, he, rfl⟩ := xmUL_inv (show xmUL _ _ = some x' from h); rfl
  case lneg => obtain ⟨a, r, he, rfl⟩ := xmUL_inv (show xmUL _ _ = some x' from h); rfl
  case dup => obtain ⟨v, r, he, hv, rfl⟩ := xmDup_inv (show xmDup _ = some x' from h); rfl
  case pop => obtain ⟨v, r, he, hv, rfl⟩ := xmPop_inv (show xmPop _ = some x' from h); rfl
  case iconst n => cases h; rfl
  case bipush n => cases h; rfl
  case sipush n => cases h; rfl
  case lconst n => cases h; rfl
  case iload j => obtain ⟨a, hg, rfl⟩ := xmLdI_inv (show xmLdI _ _ _ = some x' from h); rfl
  case istore j => obtain ⟨a, r, he, rfl⟩ := xmStI_inv (show xmStI _ _ _ = some x' from h); rfl
  case iload_n j => obtain ⟨a, hg, rfl⟩ := xmLdI_inv (show xmLdI _ _ _ = some x' from h); rfl
  case istore_n j => obtain ⟨a, r, he, rfl⟩ := xmStI_inv (show xmStI _ _ _ = some x' from h); rfl
  case lload j => obtain ⟨a, hg, rfl⟩ := xmLdL_inv (show xmLdL _ _ _ = some x' from h); rfl
  case lstore j => obtain ⟨a, r, he, rfl⟩ := xmStL_inv (show xmStL _ _ _ = some x' from h); rfl
  case lload_n j => obtain ⟨a, hg, rfl⟩ := xmLdL_inv (show xmLdL _ _ _ = some x' from h); rfl
  case lstore_n j => obtain ⟨a, r, he, rfl⟩ := xmStL_inv (show xmStL _ _ _ = some x' from h); rfl
  case aload j => obtain ⟨a, -, hg, rfl⟩ := xmLdA_inv (show xmLdA _ _ _ = some x' from h); rfl
  case astore j => obtain ⟨a, r, -, he, rfl⟩ := xmStA_inv (show xmStA _ _ _ = some x' from h); rfl
  case aload_n j => obtain ⟨a, -, hg, rfl⟩ := xmLdA_inv (show xmLdA _ _ _ = some x' from h); rfl
  case astore_n j => obtain ⟨a, r, -, he, rfl⟩ := xmStA_inv (show xmStA _ _ _ = some x' from h); rfl
  case iinc j n => obtain ⟨a, hg, rfl⟩ := xmInc_inv (show xmInc _ _ _ = some x' from h); rfl
  case goto o => cases h; rfl
  case ifCond cd o => obtain ⟨a, r, he, rfl⟩ := xmIf_inv (show xmIf _ _ _ = some x' from h); rfl
  case if_icmp cd o => obtain ⟨a, b, r, he, rfl⟩ := xmIf2_inv (show xmIf2 _ _ _ = some x' from h); rfl
  case dup2 => obtain ⟨v, w, r, he, hv, hw, rfl⟩ := xmDup2_inv (show xmDup2 _ = some x' from h); rfl
  case i2b => obtain ⟨a, r, he, rfl⟩ := xmUI_inv (show xmUI _ _ = some x' from h); rfl
  case lshr => obtain ⟨a, b, r, he, rfl⟩ := xmLI_inv (show xmLI _ _ = some x' from h); rfl
  case tableswitch d lo hi os => obtain ⟨a, r, he, rfl⟩ := xmSw_inv (show xmSw _ _ _ _ _ = some x' from h); rfl
  case lookupswitch d ps => obtain ⟨a, r, he, rfl⟩ := xmLk_inv (show xmLk _ _ _ = some x' from h); rfl
  case ldc j => cases h; rfl
  case ldc2_w j => cases h; rfl
  all_goals (cases h)
theorem xmHR_le {V : xmV} {i : xmI} {x x' : xmC} (h : xmHR V i x x') : xmLe x.2.2.2 x'.2.2.2 := by
  obtain ⟨ins, len, aux⟩ := i
  cases ins
  case getfield idx =>
    rcases h with ⟨a, r, -, -, ⟨-, rfl⟩ | ⟨-, rfl⟩⟩ | ⟨-, a, fs, v, r, -, -, -, rfl⟩ <;> exact xmLe.rf
  case getstatic idx => rcases h with ⟨-, rfl⟩ | ⟨-, rfl⟩ <;> exact xmLe.rf
  case putfield idx => obtain ⟨a, fs, v, r, -, -, -, -, rfl⟩ := h; exact xmLe.rf
  case iaload => rcases h with ⟨j, r, -, -, -, rfl⟩ | ⟨a, vs, j, v, r, -, -, -, -, rfl⟩ <;> exact xmLe.rf
  case laload => obtain ⟨a, vs, j, v, r, -, -, -, -, rfl⟩ := h; exact xmLe.rf
  case iastore => obtain ⟨a, vs, j, y, r, -, -, -, -, rfl⟩ := h; exact xmLe.rf
  case lastore => obtain ⟨a, vs, j, y, r, -, -, -, -, rfl⟩ := h; exact xmLe.rf
  case arraylength => rcases h with ⟨a, r, -, -, rfl⟩ | ⟨r, -, rfl⟩ | ⟨a, t, vs, r, -, -, -, rfl⟩ <;> exact xmLe.rf
  case baload => rcases h with ⟨a, j, z, r, -, -, -, -, rfl⟩ | ⟨a, t, vs, j, v, r, -, -, -, -, -, rfl⟩ <;> exact xmLe.rf
  case bastore => obtain ⟨a, t, vs, j, y, r, -, -, -, -, -, rfl⟩ := h; exact xmLe.rf
  case newarray t => obtain ⟨n, r, -, -, -, rfl⟩ := h; exact ⟨Nat.le_succ _, Nat.le_add_right _ _⟩
  case new idx => cases h; exact ⟨Nat.le_succ _, Nat.le_add_right _ _⟩
  all_goals exact h.elim
theorem xmIR_le {O : xmO} (hO : ∀ j av G r1 G1, O j av G r1 G1 → xmLe G G1) {i : xmI} {x x' : xmC} (h : xmIR O i x x') : xmLe x.2.2.2 x'.2.2.2 := by
  obtain ⟨ins, len, aux⟩ := i
  cases ins
  case invokestatic idx =>
    rcases h with ⟨-, a, b, rest, -, -, rfl⟩ | ⟨-, a, b, rest, -, -, rfl⟩ | ⟨-, a0, a1, vs, ws, rest, sp, dp, n, -, -, -, -, -, -, -, -, -, -, rfl⟩ | ⟨-, av, rest, r1, G1, -, -, -, h1, rfl⟩
    · exact xmLe.rf
    · exact xmLe.rf
    · exact xmLe.rf
    · exact hO _ _ _ _ _ h1
  case invokevirtual idx => rcases h with ⟨-, b, As, rest, r1, G1, -, -, -, -, h1, rfl⟩ | ⟨-, b, As, rest, r1, G1, fs, -, -, -, -, h1, rfl⟩ <;> exact hO _ _ _ _ _ h1
  case invokespecial idx =>
    rcases h with ⟨-, b, rest, -, -, rfl⟩ | ⟨-, b, As, rest, G1, -, -, -, h1, rfl⟩
    · exact xmLe.rf
    · exact hO _ _ _ _ _ h1
  all_goals exact h.elim
theorem xmRun_le {V : xmV} {O : xmO} {k : Nat} (hO : ∀ j av G r1 G1, O j av G r1 G1 → xmLe G G1) : ∀ {n : Nat} {x : xmC} {r : Option Value} {G' : xmH}, xmRun V O k n x r G' → xmLe x.2.2.2 G' := by
  intro n
  induction n with
  | zero => intro x r G' h; exact h.elim
  | succ n ih =>
    intro x r G' h
    obtain ⟨i, -, h | ⟨-, rfl⟩⟩ := h
    · obtain ⟨x', h1, h2⟩ := h
      refine xmLe.tr ?_ (ih h2)
      rcases h1 with h1 | h1 | h1
      · rw [xmPure_heap h1]; exact xmLe.rf
      · exact xmHR_le h1
      · exact xmIR_le hO h1
    · exact xmLe.rf
set_option maxHeartbeats 4000000 in
theorem xmRun_sound {p : Program} {l : Launch} {e : Env} {R : Room} {s : State} {m : MethodId} {args : Array Value} {below : List Frame} {meth : Method} {c : Code} {Q : State → Prop} {V : xmV} {G0 : xmH} {k : Nat} {O : xmO} (X : xmCtx p s m args meth c V k) (hcd : ∀ pc i, xmCd k pc = some i → xmOK k pc i) (hO : ∀ j av G r1 G1, O j av G r1 G1 → xmLe G G1 ∧ xmMet l V j av r1 G G1) (hR : xmFr k ≤ R.frames ∧ xmLo k ≤ R.locals) :
    ∀ {n : Nat} {x : xmC} {r : Option Value} {G' : xmH}, xmRun V O k n x r G' → xmLe G0 x.2.2.2 → G'.2.1 - G0.2.1 ≤ R.cells → G'.2.2 - G0.2.2 ≤ R.slots → (∀ (i : xmI) (y : xmC), xmCd k y.1 = some i → xmRet (xmRt k) i y r → y.2.2.2 = G' → xmGoal p l e R s m args below meth c Q V (xmML k) G0 y) → xmGoal p l e R s m args below meth c Q V (xmML k) G0 x := by
  have X0 := X
  obtain ⟨hx, hb, hml, hown, hts, hK, hr, hlocks, hnm, hbs⟩ := X0
  have hA1 : ArrOfT s (V.2.2.1 1) .int := (hK.1.2 0 _ rfl).1
  have hA2 : ArrOfT s (V.2.2.1 2) .long := (hK.1.2 1 _ rfl).1
  have hA3 : ArrOfT s (V.2.2.1 3) .byte := (hK.1.2 2 _ rfl).1
  have hA4 : ArrOfT s (V.2.2.1 4) .boolean := (hK.1.2 3 _ rfl).1
  intro n
  induction n with
  | zero => intro x r G' h; exact h.elim
  | succ n ih =>
    intro x r G' h h0 hc hs hQ
    obtain ⟨i, hi, h | ⟨h1, rfl⟩⟩ := h
    · obtain ⟨x', h1, h2⟩ := h
      have hle := xmRun_le (fun j av G r1 G1 z => (hO j av G r1 G1 z).1) h2
      obtain ⟨pc, lv, st, G⟩ := x
      have hok := hcd pc i hi
      obtain ⟨ins, len, aux⟩ := i
      obtain ⟨hdg, hok⟩ := hok
      rcases h1 with h1 | h1 | h1
      · have hp := xmPure_heap h1
        have kk := ih h2 (by rw [hp]; exact h0) hc hs hQ
        have hnum : ((xmSwi ins = false → len = xmLen ins) ∧ xmNum (xmML k) pc (ins, len, aux) = true) ∧ xmKs V (xmY k).cls (ins, len, aux) args s := by
          cases ins
          case ldc idx =>
            refine ⟨⟨fun _ => hok.1, rfl⟩, ?_⟩
            rcases hok.2 with ⟨g1, g2, g3, g4⟩ | ⟨g1, g2⟩
            · refine Or.inl ⟨g1, (zS (aux.headD 0)).2.2, ?_⟩
              have g5 := (hK.2.2.2.1 _ g2).2
              dsimp only at g3 g4 g5
              rw [g3, g4] at g5
              rw [show xmSt V (aux.headD 0) = V.2.2.2.2.1 (aux.headD 0) from if_pos (Nat.lt_trans g2 (by decide))]
              exact g5
            · exact Or.inr ⟨g1, hts _ g2⟩
          case ldc2_w idx => exact ⟨⟨fun _ => hok.1, rfl⟩, hts _ hok.2⟩
          all_goals first | exact ⟨hok, trivial⟩ | cases h1
        exact xmPure_sound hx hb hown hnum.2 hdg hnum.1.1 hnum.1.2 h1 kk
      · have kk := ih h2 (h0.tr (xmHR_le h1)) hc hs hQ
        cases ins
        case getfield idx =>
          obtain ⟨hlen, hok⟩ := hok
          cases hlen
          rcases h1 with ⟨a, r, he, ha, h2 | h2⟩ | ⟨hm, a, fs, v, r, he, hG, hv, rfl⟩
          · obtain ⟨hm, rfl⟩ := h2
            rcases hok with ⟨hb2, -⟩ | ⟨-, hlink⟩ | ⟨hb2, -⟩
            · omega
            · cases he
              have e9 : xmSt V (1000 + a) = V.2.2.2.2.2.1 a := by
                have : zN < 1000 := by decide
                unfold xmSt
                rw [if_neg (by omega), if_pos (by omega), Nat.add_sub_cancel_left]
              exact xs_sfield (v := .retAddr (1000 + a)) (w := .retAddr a) hx hb hts hown (by show va_OF _ _ _ (.ref (xmSt V (1000 + a))) _ _ _ _; rw [e9]; exact (hK.2.2.2.1 a ha).1.2.2.1) hlink hdg (congrArg Value.ref (if_pos (Nat.lt_trans ha (by decide)))) kk
            · omega
          · obtain ⟨hm, rfl⟩ := h2
            rcases hok with ⟨hb2, -⟩ | ⟨hb2, -⟩ | ⟨-, hlink⟩
            · omega
            · omega
            · cases he
              exact xs_sfield (v := .int 0) (w := .retAddr a) hx hb hts hown (hK.2.2.2.1 a ha).1.2.1 hlink hdg (congrArg Value.ref (if_pos (Nat.lt_trans ha (by decide)))) kk
          · rcases hok with ⟨-, ⟨q, hq, hin, hty, hnam, hinst, hini, hfl, hfd⟩, q', hq', hfi, hlink⟩ | ⟨hb2, -⟩ | ⟨hb2, -⟩
            · cases hq.symm.trans hq'
              cases he
              rcases hlink with hlink | ⟨host, hlink⟩
              · exact xs_getfield hx hb hts hown hK.1 hq hin hfi hlink hdg hG hv kk
              · exact xs_getfieldN hx hb hts hown hK.1 hq hin hfi (va_Nw.use rfl (hK.2.2.1 _ hlink rfl)) hdg hG hv kk
            · omega
            · omega
        case getstatic idx =>
          obtain ⟨hlen, hok⟩ := hok
          cases hlen
          rcases h1 with ⟨hm, rfl⟩ | ⟨hm, rfl⟩
          · rcases hok with ⟨-, hlink⟩ | ⟨hb2, -⟩
            · exact xs_stat (v := .int 1) hx hb hts hown hK.2.2.2.2.1 hlink hdg kk
            · omega
          · rcases hok with ⟨hb2, -⟩ | ⟨-, hlink⟩
            · omega
            · exact xs_stat (v := .float 0) hx hb hts hown hK.2.2.2.2.2 hlink hdg kk
        case putfield idx =>
          obtain ⟨a, fs, v, r, he, hG, hn, hf, rfl⟩ := h1
          obtain ⟨hlen, ⟨q, hq, hin, hty, hnam, hinst, hini, hfl, hfd⟩, q2, hq2, hfi, hfin⟩ := hok
          cases hq.symm.trans hq2
          cases hlen
          cases he
          rcases hfin with ⟨hfin, hlink⟩ | ⟨hfin, host, hlink⟩ | ⟨hfin, hnm2, hdecl, hlink⟩
          · exact xs_putfield hx hb hts hown hK.1 hq hin hty hnam hfi hfin hlink hn hf hdg hG kk
          · exact xs_putfieldN hx hb hts hown hK.1 hq hin hty hnam hfi hfin (va_Nw.use rfl (hK.2.2.1 _ hlink rfl)) hn hf hdg hG kk
          · exact xs_putfieldF hx hb hts hown hK.1 hq hin hty hnam hfi hfin (hnm.trans hnm2) hdecl hlink hn hf hdg hG kk
        case iaload =>
          have hlen := hok.1 rfl
          cases hlen
          rcases h1 with ⟨j, r, he, h3, h4, rfl⟩ | ⟨a, vs, j, v, r, he, hG, h3, h4, rfl⟩
          · cases he
            exact xs_scr (w := .retAddr 2000) hx hb hK.2.1.1 hK.2.1.2 hbs rfl h3 h4 hdg kk
          · cases he
            exact xs_iaload hx hb hA1 hdg hG h3 h4 kk
        case laload =>
          obtain ⟨a, vs, j, v, r, he, hG, h3, h4, rfl⟩ := h1
          have hlen := hok.1 rfl
          cases hlen
          cases he
          exact xs_laload hx hb hA2 hdg hG h3 h4 kk
        case iastore =>
          obtain ⟨a, vs, j, y, r, he, hG, h3, h4, rfl⟩ := h1
          have hlen := hok.1 rfl
          cases hlen
          cases he
          exact xs_iastore hx hb hA1 hdg hG h3 h4 kk
        case lastore =>
          obtain ⟨a, vs, j, y, r, he, hG, h3, h4, rfl⟩ := h1
          have hlen := hok.1 rfl
          cases hlen
          cases he
          exact xs_lastore hx hb hA2 hdg hG h3 h4 kk
        case baload =>
          have hlen := hok.1 rfl
          cases hlen
          rcases h1 with ⟨a, j, z, r, he, ha, h3, h4, rfl⟩ | ⟨a, t, vs, j, v, r, he, hG, ht, h3, h4, rfl⟩
          · cases he
            have e9 : xmSt V (1000 + a) = V.2.2.2.2.2.1 a := by
              have : zN < 1000 := by decide
              unfold xmSt
              rw [if_neg (by omega), if_pos (by omega), Nat.add_sub_cancel_left]
            exact xs_sbald (w := .retAddr (1000 + a)) hx hb (hK.2.2.2.1 a ha).1.2.2.2 (congrArg Value.ref e9) h3 (List.getElem?_eq_some_iff.mp h4).1 (by rw [List.getD_eq_getElem?_getD, h4]; rfl) hdg kk
          · cases he
            rcases ht with rfl | rfl
            · exact xs_baload hx hb hA3 hdg hG h3 h4 kk
            · exact xs_zaload hx hb hA4 hdg hG h3 h4 kk
        case bastore =>
          obtain ⟨a, t, vs, j, y, r, he, hG, ht, h3, h4, rfl⟩ := h1
          have hlen := hok.1 rfl
          cases hlen
          cases he
          rcases ht with rfl | rfl
          · exact xs_bastore hx hb hA3 hdg hG h3 h4 kk
          · exact xs_zastore hx hb hA4 hdg hG h3 h4 kk
        case arraylength =>
          have hlen := hok.1 rfl
          cases hlen
          rcases h1 with ⟨a, r, he, ha, rfl⟩ | ⟨r, he, rfl⟩ | ⟨a, t, vs, r, he, hG, ht, rfl⟩
          · cases he
            have e9 : xmSt V (1000 + a) = V.2.2.2.2.2.1 a := by
              have : zN < 1000 := by decide
              unfold xmSt
              rw [if_neg (by omega), if_pos (by omega), Nat.add_sub_cancel_left]
            exact xs_slen (w := .retAddr (1000 + a)) hx hb (hK.2.2.2.1 a ha).1.2.2.2 (congrArg Value.ref e9) hdg kk
          · cases he
            exact xs_scrlen (w := .retAddr 2000) hx hb hK.2.1.1 hK.2.1.2 hbs rfl hdg kk
          · cases he
            rcases ht with rfl | rfl | rfl | rfl
            · exact xs_arraylength hx hb (by decide) (by decide) hA1 hdg hG kk
            · exact xs_arraylength hx hb (by decide) (by decide) hA2 hdg hG kk
            · exact xs_arraylength hx hb (by decide) (by decide) hA3 hdg hG kk
            · exact xs_arraylength hx hb (by decide) (by decide) hA4 hdg hG kk
        case newarray at1 =>
          obtain ⟨n9, r, he, h3, h4, rfl⟩ := h1
          obtain ⟨hlen, ht, hty, hac⟩ := hok
          cases hlen
          cases he
          have hle1 : G.2.1 + 1 ≤ G'.2.1 := hle.1
          have hle2 : G.2.2 + n9.toNatClampNeg ≤ G'.2.2 := hle.2
          have g1 : G0.2.1 ≤ G.2.1 := h0.1
          have g2 : G0.2.2 ≤ G.2.2 := h0.2
          generalize xmN (ClassFile.Instr.newarray at1, 2, aux) 0 = t at ht hty kk
          rcases ht with rfl | rfl | rfl | rfl
          · exact xs_newarray hx hb (by decide) (by decide) hty rfl (hts _ hac) (hK.1.2 0 _ rfl).2 h3 (by show _ * 4 ≤ _; omega) hdg g1 g2 (by omega) (by omega) kk
          · exact xs_newarray hx hb (by decide) (by decide) hty rfl (hts _ hac) (hK.1.2 1 _ rfl).2 h3 (by show _ * 8 ≤ _; omega) hdg g1 g2 (by omega) (by omega) kk
          · exact xs_newarray hx hb (by decide) (by decide) hty rfl (hts _ hac) (hK.1.2 2 _ rfl).2 h3 (by show _ * 1 ≤ _; omega) hdg g1 g2 (by omega) (by omega) kk
          · exact xs_newarray hx hb (by decide) (by decide) hty rfl (hts _ hac) (hK.1.2 3 _ rfl).2 h3 (by show _ * 1 ≤ _; omega) hdg g1 g2 (by omega) (by omega) kk
        case new idx =>
          cases h1
          obtain ⟨hlen, ⟨q, hq, hin, hty, hnam, hinst, hini, hfl, hfd⟩, q', hq', hlink⟩ := hok
          cases hq.symm.trans hq'
          cases hlen
          have hro := xmDef_ro V (xmN (ClassFile.Instr.new idx, 3, aux) 0)
          have hle1 : G.2.1 + 1 ≤ G'.2.1 := hle.1
          have hle2 : G.2.2 + (xmDef (xmN (ClassFile.Instr.new idx, 3, aux) 0)).length ≤ G'.2.2 := hle.2
          have g1 : G0.2.1 ≤ G.2.1 := h0.1
          have g2 : G0.2.2 ≤ G.2.2 := h0.2
          have s1 : G.2.1 + 1 - G0.2.1 ≤ R.cells := by omega
          have s2 : G.2.2 + (xmDef (xmN (ClassFile.Instr.new idx, 3, aux) 0)).length - G0.2.2 ≤ R.slots := by omega
          exact xs_new hx hb hts hown hK.1 hq hin hty hlink hinst hini hfl hfd hro hdg g1 g2 s1 s2 kk
        all_goals exact h1.elim
      · have kk := ih h2 (h0.tr (xmIR_le (fun j av G r1 G1 z => (hO j av G r1 G1 z).1) h1)) hc hs hQ
        cases ins
        case invokestatic idx =>
          obtain ⟨hlen, hok⟩ := hok
          cases hlen
          have g1 : G.2.1 ≤ G'.2.1 ∧ G.2.2 ≤ G'.2.2 := xmLe.tr (xmIR_le (fun j av G r1 G1 z => (hO j av G r1 G1 z).1) h1) hle
          rcases h1 with ⟨hm, a, b, rest, he, h8, rfl⟩ | ⟨hm, a, b, rest, he, h8, rfl⟩ | ⟨hm, a0, a1, vs, ws, rest, sp, dp, n9, he, e0, e1, hint, hsp, hdp, hn, h4, h5, h8, rfl⟩ | ⟨hm, av, rest, r1, G1, he, hl, h8, ho, rfl⟩
          · rcases hok with ⟨hb2, -⟩ | ⟨hf1, hl1, ⟨hb2, -⟩ | ⟨-, hlink, hst, hini, hcode⟩ | ⟨hb2, -⟩⟩
            · omega
            · omega
            · cases he
              exact xs_max X ⟨by omega, by omega⟩ hlink hst hini hcode h8 hdg ⟨by omega, by omega⟩ kk
            · omega
          · rcases hok with ⟨hb2, -⟩ | ⟨hf1, hl1, ⟨-, hlink, hst, hini, hcode⟩ | ⟨hb2, -⟩ | ⟨hb2, -⟩⟩
            · omega
            · cases he
              exact xs_min X ⟨by omega, by omega⟩ hlink hst hini hcode h8 hdg ⟨by omega, by omega⟩ kk
            · omega
            · omega
          · rcases hok with ⟨hb2, -⟩ | ⟨hf1, hl1, ⟨hb2, -⟩ | ⟨hb2, -⟩ | ⟨-, hlink, hnat, hst, hini⟩⟩
            · omega
            · omega
            · omega
            · cases he
              exact xs_copy X ⟨by omega, by omega⟩ hlink hnat hst hini e0 e1 hint hsp hdp hn h4 h5 h8 hdg kk
          · rcases hok with ⟨-, ⟨hco, hfr, hlo, hini, hna⟩, hlink, hst⟩ | ⟨-, -, ⟨hb2, -⟩ | ⟨hb2, -⟩ | ⟨hb2, -⟩⟩
            · cases he
              have hle1 : G1.2.1 ≤ G'.2.1 := hle.1
              have hle2 : G1.2.2 ≤ G'.2.2 := hle.2
              exact xs_callS X (hO _ _ _ _ _ ho).2 ⟨by omega, by omega⟩ hco hlink hst hini (by rw [hl]; exact hna) h8 hdg h0 (hO _ _ _ _ _ ho).1 ⟨by omega, by omega⟩ kk
            · omega
            · omega
            · omega
        case invokevirtual idx =>
          obtain ⟨hlen, ⟨hco, hfr, hlo, hini, hna⟩, hlink, hst, hsel, hrc⟩ := hok
          cases hlen
          rcases h1 with ⟨hm, b, As, rest, r1, G1, hb9, he, hl, h8, ho, rfl⟩ | ⟨hm, b, As, rest, r1, G1, fs, he, hl, h8, hG, ho, rfl⟩
          · rcases hrc with ⟨hb2, -⟩ | ⟨-, hj9⟩
            · omega
            · cases he
              have hle1 : G1.2.1 ≤ G'.2.1 := hle.1
              have hle2 : G1.2.2 ≤ G'.2.2 := hle.2
              exact xs_callT X hb9 hj9 (hO _ _ _ _ _ ho).2 ⟨by omega, by omega⟩ hco hlink hst hsel hini (by rw [hl]; exact hna) h8 hdg h0 (hO _ _ _ _ _ ho).1 ⟨by omega, by omega⟩ kk
          · rcases hrc with ⟨-, q, hq, hqc⟩ | ⟨hb2, -⟩
            · cases he
              have hle1 : G1.2.1 ≤ G'.2.1 := hle.1
              have hle2 : G1.2.2 ≤ G'.2.2 := hle.2
              exact xs_callV X hG hq hqc (hO _ _ _ _ _ ho).2 ⟨by omega, by omega⟩ hco hlink hst hsel hini (by rw [hl]; exact hna) h8 hdg h0 (hO _ _ _ _ _ ho).1 ⟨by omega, by omega⟩ kk
            · omega
        case invokespecial idx =>
          obtain ⟨hlen, hok⟩ := hok
          cases hlen
          rcases h1 with ⟨ha, b, rest, he, h8, rfl⟩ | ⟨ha, b, As, rest, G1, he, hl, h8, ho, rfl⟩
          · rcases hok with ⟨-, hf1, hl1, hlink, hst, hcode⟩ | ⟨hb2, -⟩
            · cases he
              exact xs_objInit X ⟨by omega, by omega⟩ hlink hst hcode h8 hdg kk
            · exact absurd ha hb2
          · rcases hok with ⟨hb2, -⟩ | ⟨-, ⟨hco, hfr, hlo, hini, hna⟩, hlink, hst, hrt, hnam⟩
            · exact absurd hb2 ha
            · cases he
              have hle1 : G1.2.1 ≤ G'.2.1 := hle.1
              have hle2 : G1.2.2 ≤ G'.2.2 := hle.2
              rcases hlink with hlink | ⟨host, hlink⟩
              · exact xs_callI X (hO _ _ _ _ _ ho).2 ⟨by omega, by omega⟩ hco hrt hlink hst hini hnam (by rw [hl]; exact hna) h8 hdg h0 (hO _ _ _ _ _ ho).1 ⟨by omega, by omega⟩ kk
              · exact xs_callIN X (hO _ _ _ _ _ ho).2 ⟨by omega, by omega⟩ hco hrt (hK.2.2.1 _ hlink rfl) hst hini hnam (by rw [hl]; exact hna) h8 hdg h0 (hO _ _ _ _ _ ho).1 ⟨by omega, by omega⟩ kk
        all_goals exact h1.elim
    · exact hQ i x hi h1 rfl
set_option maxHeartbeats 4000000 in
theorem xmRet_sound {p : Program} {l : Launch} {e : Env} {R : Room} {s : State} {m : MethodId} {args : Array Value} {below : List Frame} {meth : Method} {c : Code} {V : xmV} {G0 : xmH} {k : Nat} (X : xmCtx p s m args meth c V k) {i : xmI} {x : xmC} {r : Option Value} (hok : xmOK k x.1 i) (h1 : xmRet (xmRt k) i x r) : xmGoal p l e R s m args below meth c (MQ below (xmQc V r x.2.2.2) args s (x.2.2.2.2.1 - G0.2.1) (x.2.2.2.2.2 - G0.2.2) (fun q => V.2.2.2.1 ≤ q)) V (xmML k) G0 x := by
  obtain ⟨hx, hb, hml, hown, hts, hK, hr, hlocks, hnm, hbs⟩ := X
  obtain ⟨pc, lv, st, G⟩ := x
  obtain ⟨hdg, hok⟩ := hok
  obtain ⟨ins, len, aux⟩ := i
  intro H locs ls hl hC hS
  have hq : ∀ (v : Option Value) (t : State), t.heap = H → s.WarmedH t.vm → xmQc V v G args s (.returned (v.map (xmRo V))) t := fun v t ht _ => ⟨rfl, by rw [ht]; exact hC, by rw [ht]; exact hS.1, fun q hq => by rw [ht]; exact hS.2.1 q (Nat.lt_of_lt_of_le hq hbs) (Nat.not_le.mpr hq)⟩
  cases ins
  case ireturn =>
    obtain ⟨v, ty, he, hrt, hn, rfl⟩ := h1
    have hlen := hok.1 rfl
    cases hlen
    cases he
    exact W.zret hx hb (hr.trans hrt) hn (hq (some (.int v))) hS.2.2 hdg hlocks
  case lreturn =>
    obtain ⟨v, he, hrt, rfl⟩ := h1
    have hlen := hok.1 rfl
    cases hlen
    cases he
    exact W.lret hx hb (hr.trans hrt) (hq (some (.long v))) hS.2.2 hdg hlocks
  case areturn =>
    obtain ⟨v, rt, hv, he, hrt, h3, rfl⟩ := h1
    have hlen := hok.1 rfl
    cases hlen
    cases he
    have hv2 : ∃ y, xmRo V v = .ref y := by rcases hv with ⟨a, rfl⟩ | ⟨a, rfl⟩ <;> exact ⟨_, rfl⟩
    exact W.aret hx hb (hr.trans hrt) h3 (Or.inr hv2) (hq (some v)) hS.2.2 hdg hlocks
  case return_ =>
    obtain ⟨he, hrt, rfl⟩ := h1
    have hlen := hok.1 rfl
    cases hlen
    cases he
    exact W.vret hx hb (hr.trans hrt) (hq none) hS.2.2 hdg hlocks
  all_goals exact h1.elim
theorem xm_slots (V : xmV) (av : List Value) : (lg_sl (av.map (xmRo V))).length = (lg_sl av).length := by
  induction av with
  | nil => rfl
  | cons v av ih =>
    have e : ∀ (w : Value) (l : List Value), (lg_sl (w :: l)).length = (lg_sl [w]).length + (lg_sl l).length := fun w l => by simp [lg_sl]
    rw [List.map_cons, e, e v, ih]
    cases v <;> first | rfl | (show (lg_sl [va_rf V.2.2.2.2.2.2.2.2]).length + _ = _; cases V.2.2.2.2.2.2.2.2 <;> rfl)
theorem xm_args (V : xmV) : ∀ (av : List Value) (i : Nat), lv_args i (av.map (xmRo V)) = xmLm V (lv_args i av) := by
  intro av
  induction av with
  | nil => intro i; rfl
  | cons v av ih =>
    intro i
    rw [List.map_cons]
    show (i, xmRo V v) :: lv_args (if (xmRo V v).category = 2 then i + 2 else i + 1) (av.map (xmRo V)) = (i, xmRo V v) :: xmLm V (lv_args (if v.category = 2 then i + 2 else i + 1) av)
    rw [xmRo_cat, ih]
/-- calls, d deep at most -/
def xmCall (V : xmV) : Nat → xmO
  | 0 => fun _ _ _ _ _ => False
  | d + 1 => fun k av G r G' => k < xmCount ∧ (lg_sl av).length ≤ xmML k ∧ ∃ n, xmRun V (xmCall V d) k n (0, lv_args 0 av, [], G) r G'
theorem xmCall_sound {l : Launch} {V : xmV} (hcd : ∀ k, k < xmCount → plainFor (xmY k) = true ∧ ∀ pc i, xmCd k pc = some i → xmOK k pc i) : ∀ (d k : Nat) (av : List Value) (G : xmH) (r : Option Value) (G' : xmH), xmCall V d k av G r G' → xmLe G G' ∧ xmMet l V k av r G G' := by
  intro d
  induction d with
  | zero => intro k av G r G' h; exact h.elim
  | succ d ih =>
    intro k av G r G' h
    obtain ⟨hk, hlen, n, hn⟩ := h
    have hle : xmLe G G' := xmRun_le (fun j av G r1 G1 z => (ih j av G r1 G1 z).1) hn
    refine ⟨hle, ?_⟩
    refine va_MetF (cc := xmB k) (maxL := xmML k) (ret := xmRt k) (hcd k hk).1 rfl ?_
    intro p e s m args below meth c s₁ B hml hv
    obtain ⟨rfl, hC, hK⟩ := hv
    have hts := atoms_spec (ws := xmWs k) B.pre
    have X : xmCtx p s m (av.map (xmRo V)).toArray meth c V k := ⟨B.exec, B.bytes, hml, findClass_of_methodNamed B.named, fun w hw => hts w (List.mem_cons_of_mem _ hw), hK, B.returns, B.notSynchronized, (name_of_methodNamed B.named B.method).1, by rw [hC.1]; exact Nat.le_add_right _ _⟩
    have hl := lv_entry (av.map (xmRo V)) (n := xmML k) (by rw [xm_slots]; exact hlen)
    rw [xm_args] at hl
    rw [lg_entry_eq]
    have kk := xmRun_sound (Q := MQ below (xmQc V r G') (av.map (xmRo V)).toArray s (G'.2.1 - G.2.1) (G'.2.2 - G.2.2) (fun q => V.2.2.2.1 ≤ q)) (R := (headSpec (xmWs k) (xmRm k G G')).room) (e := e) (below := below) (l := l) X (hcd k hk).2 ih ⟨Nat.le_refl _, Nat.le_refl _⟩ hn (G0 := G) xmLe.rf (Nat.le_refl _) (Nat.le_refl _) (fun i y hi hy hG => by subst hG; exact xmRet_sound X ((hcd k hk).2 _ _ hi) hy) s.heap [] _ hl hC va_S.rf
    dsimp only at kk
    rw [Nat.sub_self, Nat.sub_self] at kk
    exact kk
