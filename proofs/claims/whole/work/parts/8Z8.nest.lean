/-! CALLS WALKED IN PLACE: the callee's own stand, and what the caller does with its end, be it a return or a throw -/
section Nest
variable {p : Program} {l : Launch} {e : Env} {R : Room} {s : State} {m : MethodId} {args : Array Value} {below : List Frame} {meth : Method} {c : Code} {H : Heap} {locs : List Loc} {cells slots : Nat} {Q : State → Prop} {cc : ByteArray} {own C : String} {idx pc : Nat} {y : MethodName} {mk : MethodId} {methk : Method} {ck : Code} {As rest : List Value} {ls : Array Slot} {R' : Room}
/-- a throw is under way over the frame g -/
def WT (p : Program) (l : Launch) (e : Env) (R : Room) (s : State) (m : MethodId) (args : Array Value) (below : List Frame) (meth : Method) (c : Code) (H : Heap) (locs : List Loc) (cells slots : Nat) (Q : State → Prop) (g : JFrame) (a : Addr) : Prop :=
  ∀ T : State, T.heap = H → Stand p l e R s m args below meth c T locs cells slots → ∃ t, Steps p.tables e below ((T.setTop g).pushFrame (.throwing a)) t ∧ Q t
/-- a callee's end -/
def cEnd (below : List Frame) (s0 t : State) (o : Outcome) (L : List Loc) (k n : Nat) : Prop := Ended t below o ∧ s0.WarmedH t.vm ∧ s0.sameButNew ({ t with vm := s0.vm } : State) L k n
def cPost (p : Program) (l : Launch) (e : Env) (R : Room) (s : State) (m : MethodId) (args : Array Value) (below : List Frame) (meth : Method) (c : Code) (locs : List Loc) (cells slots : Nat) (Q : State → Prop) (pc : Nat) (ls : Array Slot) (rest : List Value) (s0 : State) : State → Prop := fun t =>
  ∃ (o : Outcome) (L : List Loc) (k n : Nat), cEnd (.java (F0 m pc ls rest) :: below) s0 t o L k n ∧ (match o with
    | .returned v => W p l e R s m args below meth c t.heap (locs ++ L) (cells + k) (slots + n) Q (F0 m (pc + 3) ls (v.toList ++ rest))
    | .threw a => WT p l e R s m args below meth c t.heap (locs ++ L) (cells + k) (slots + n) Q (F0 m pc ls rest) a)
theorem nest_go {T U₀ : State} {vm₁ : Vm} {ig : ClassFile.Instr} (X : Stand p l e R s m args below meth c (T.setVm vm₁) locs cells slots) (hdg : decode c.code pc = .ok (ig, 3)) {t : State}
    (hsteps : Steps p.tables e (.java (F0 m pc ls rest) :: below) U₀ t) (hq : cPost p l e R s m args below meth c locs cells slots Q pc ls rest ((T.setVm vm₁).calling (F0 m pc ls rest) mk As.toArray) t) :
    ∃ t2, Steps p.tables e below U₀ t2 ∧ Q t2 := by
  obtain ⟨o, L, k, n, ⟨h1, h2, h3⟩, h4⟩ := hq
  cases o with
  | returned v =>
    obtain ⟨T', X', hW', -, ht⟩ := X.outOf (g := F0 m pc ls rest) rfl hdg h1 h2 h3
    obtain ⟨t2, a1, a2⟩ := h4 T' (congrArg State.heap ht).symm X'
    refine ⟨t2, (Steps.weaken (mid := [.java (F0 m pc ls rest)]) hsteps).trans ?_, a2⟩
    rw [ht]
    exact a1
  | threw a =>
    obtain ⟨T', X', hW', -, ht⟩ := X.outOfThrown (g := F0 m pc ls rest) rfl h1 h2 h3
    have hh : T'.heap = t.heap := by
      rw [ht, Stand.throwing_heap]
    obtain ⟨t2, a1, a2⟩ := h4 T' hh X'
    refine ⟨t2, (Steps.weaken (mid := [.java (F0 m pc ls rest)]) hsteps).trans ?_, a2⟩
    rw [ht]
    exact a1
theorem plain_of {U : State} (hn : U.methodNamed? y = some mk) (hp : plainName y.cls = true) : U.plainMethod mk := by
  refine State.plainMethod.of_name ?_
  intro k hk
  obtain ⟨k', hk', hn'⟩ := className_of_methodNamed hn
  cases hk.symm.trans hk'
  rw [hn']; exact hp
theorem W.inS (hx : p.tables.exec = Jvm.exec) (hb : c.code = cc) (hown : s.vm.findClass own = some m.cls) (hlink : (Cond.methodLink own idx y).before args s = true) (hn : s.methodNamed? y = some mk) (hm : s.vm.method? mk = some methk) (hck : methk.code = some ck) (hlk : methk.locks = false) (hst : methk.isStatic = true) (hini : (Cond.initialized y.cls).before args s = true)
    (hp : plainName y.cls = true) (hy : y.cls ≠ "java/lang/invoke/MethodHandle" ∧ y.cls ≠ "java/lang/invoke/VarHandle") (hlen : As.length = methk.sig.parameters.length)
    (hfr : R'.frames + 1 ≤ R.frames) (hlo : (rest.map fun v => v.category).sum + (ck.maxLocals + 11) + R'.locals ≤ R.locals) (hcl : cells + R'.cells ≤ R.cells) (hsl : slots + R'.slots ≤ R.slots) (hsize : ls.size = c.maxLocals) (hdg : decode cc pc = .ok (.invokestatic idx, 3))
    (body : ∀ U : State, U.heap = H → s.WarmedH U.vm → W p l e R' (U.calling (F0 m pc ls rest) mk As.toArray) mk As.toArray (.java (F0 m pc ls rest) :: below) methk ck H [] 0 0 (cPost p l e R s m args below meth c locs cells slots Q pc ls rest (U.calling (F0 m pc ls rest) mk As.toArray)) (entryFrame mk As.toArray ck.maxLocals)) :
    W p l e R s m args below meth c H locs cells slots Q (F0 m pc ls (As.reverse ++ rest)) := by
  subst hb
  intro T hT X
  obtain ⟨kP, hkP, -⟩ := className_of_methodNamed hn
  have hinitP : kP.init = .initialized := Cond.initialized_spec (findClass_of_methodNamed hn) hkP hini
  obtain ⟨vm₁, X₁, hstep₁⟩ := X.invokestatic hx hown hlink hn hm hst hkP hinitP hy (g := F0 m pc ls (As.reverse ++ rest)) rfl (argsL := As) (rest := rest) hlen rfl hdg
  have hW₁ : s.WarmedH vm₁ := X₁.warmed
  obtain ⟨Y₀, hin⟩ := X₁.into (g := F0 m pc ls rest) rfl hsize hdg As.toArray (R' := R') (mk := mk) (methk := methk) (ck := ck) (by show vm₁.method? mk = _; rw [hW₁.alike.method?]; exact hm) hck hlk (plain_of (X₁.named hn) hp) hfr (by show 2 * 0 + (rest.map fun v => v.category).sum + (ck.maxLocals + 11) + R'.locals ≤ R.locals; omega) hcl hsl
  obtain ⟨t, st, hq⟩ := body (T.setVm vm₁) hT hW₁ _ (by show T.heap = H; exact hT) Y₀
  obtain ⟨t2, a1, a2⟩ := nest_go X₁ hdg st hq
  refine ⟨t2, hstep₁ _ (fun acts => ?_), a2⟩
  rw [show ({ (F0 m pc ls (As.reverse ++ rest)) with stack := rest } : JFrame) = F0 m pc ls rest from rfl, hin acts]
  exact a1
theorem W.inV (hx : p.tables.exec = Jvm.exec) (hb : c.code = cc) (hown : s.vm.findClass own = some m.cls) (hlink : (Cond.methodLink own idx y).before args s = true) (hinst : (Cond.instanceMethod y).before args s = true) (hsel : (Cond.selects C y y).before args s = true) (hn : s.methodNamed? y = some mk) (hm : s.vm.method? mk = some methk) (hck : methk.code = some ck) (hlk : methk.locks = false)
    (hp : plainName y.cls = true) (hy : y.cls ≠ "java/lang/invoke/MethodHandle" ∧ y.cls ≠ "java/lang/invoke/VarHandle") (hlen : As.length = methk.sig.parameters.length) {b : Addr} {cellB : Cell} (hcell : H[b]? = some cellB) (hobj : cellB.vm.isStatics = false) (hcls : s.vm.findClass C = some cellB.cls)
    (hfr : R'.frames + 1 ≤ R.frames) (hlo : (rest.map fun v => v.category).sum + (ck.maxLocals + 11) + R'.locals ≤ R.locals) (hcl : cells + R'.cells ≤ R.cells) (hsl : slots + R'.slots ≤ R.slots) (hsize : ls.size = c.maxLocals) (hdg : decode cc pc = .ok (.invokevirtual idx, 3))
    (body : ∀ U : State, U.heap = H → s.WarmedH U.vm → W p l e R' (U.calling (F0 m pc ls rest) mk (Value.ref b :: As).toArray) mk (Value.ref b :: As).toArray (.java (F0 m pc ls rest) :: below) methk ck H [] 0 0 (cPost p l e R s m args below meth c locs cells slots Q pc ls rest (U.calling (F0 m pc ls rest) mk (Value.ref b :: As).toArray)) (entryFrame mk (Value.ref b :: As).toArray ck.maxLocals)) :
    W p l e R s m args below meth c H locs cells slots Q (F0 m pc ls (As.reverse ++ .ref b :: rest)) := by
  subst hb
  intro T hT X
  obtain ⟨mk', methM, hnamed, hmethM, hstM, habM⟩ := Cond.instanceMethod_spec hinst
  cases hn.symm.trans hnamed
  cases hm.symm.trans hmethM
  obtain ⟨c2, r2, m2, q1, q2, q3, q4, kP, hkP, hkPi⟩ := Cond.selects_spec hsel
  cases hcls.symm.trans q1
  cases (State.methodFound?_of_named hnamed hy).symm.trans q2
  cases hnamed.symm.trans q3
  have hselP : selectMethod e.platform s.vm cellB.cls mk = .method mk := by rw [Launch.admits_selectMethod X.admits]; exact q4
  obtain ⟨vm₁, X₁, hstep₁⟩ := X.invokevirtual hx hown hlink hnamed hmethM hstM hkP hkPi hy (a := b) (cell := cellB) (by rw [hT]; exact hcell)
    (fun z h => by rw [h] at hobj; cases hobj) hselP hmethM habM hkP hkPi (g := F0 m pc ls (As.reverse ++ .ref b :: rest)) rfl (argsL := As) (rest := rest) hlen rfl hdg
  have hW₁ : s.WarmedH vm₁ := X₁.warmed
  obtain ⟨Y₀, hin⟩ := X₁.into (g := F0 m pc ls rest) rfl hsize hdg (Value.ref b :: As).toArray (R' := R') (mk := mk) (methk := methk) (ck := ck) (by show vm₁.method? mk = _; rw [hW₁.alike.method?]; exact hm) hck hlk (plain_of (X₁.named hn) hp) hfr (by show 2 * 0 + (rest.map fun v => v.category).sum + (ck.maxLocals + 11) + R'.locals ≤ R.locals; omega) hcl hsl
  obtain ⟨t, st, hq⟩ := body (T.setVm vm₁) hT hW₁ _ (by show T.heap = H; exact hT) Y₀
  obtain ⟨t2, a1, a2⟩ := nest_go (As := Value.ref b :: As) X₁ hdg st hq
  refine ⟨t2, hstep₁ _ (fun acts => ?_), a2⟩
  rw [show ({ (F0 m pc ls (As.reverse ++ .ref b :: rest)) with stack := rest } : JFrame) = F0 m pc ls rest from rfl, hin acts]
  exact a1
/-- a throw leaves the method: no entry of its table covers the place -/
theorem WT.out {a : Addr} {g : JFrame} (hg : g.method = m) (h1 : g.locked = none) (h2 : g.entered = []) (hout : ∀ x ∈ c.exceptionTable.toList, covers x g.pc = false) (hlocks : meth.locks = false)
    (hq : ∀ t : State, t.heap = H → cEnd below s t (.threw a) locs cells slots → Q t) : WT p l e R s m args below meth c H locs cells slots Q g a := by
  intro T hT X
  obtain ⟨k1, -, k3, k4, k5⟩ := X.leaveThrown a hg h1 h2 hout hlocks
  exact ⟨_, k1, hq _ hT ⟨k3, k4, k5⟩⟩
/-- a throw is caught in the method, by an entry whose class is known -/
theorem WT.catch {a : Addr} {ls : Array Slot} {st : List Value} {en : ExceptionTableEntry} (hm : s.vm.method? m = some meth) (hc : meth.code = some c) (hsplit : c.exceptionTable.toList = [en]) (hx : covers en pc = true) (h0 : en.catchType ≠ 0) {cX : ClassId} {cell : Cell}
    (hr : ∀ vm, s.WarmedH vm → vm.classReady m.cls en.catchType cX) (hcell : H[a]? = some cell) (hobj : ∀ k, cell.vm ≠ .statics k) (hcls : cell.cls = cX) (hk : ∃ k, s.vm.classes[cX]? = some k) (hfit : s.vm.assignable cX cX = true)
    (k : W p l e R s m args below meth c H locs cells slots Q (F0 m en.handlerPc ls [.ref a])) : WT p l e R s m args below meth c H locs cells slots Q (F0 m pc ls st) a := by
  intro T hT X
  obtain ⟨t, a1, a2⟩ := k T hT X
  have hvm := Stand.throwing_vm T (F0 m pc ls st) a
  have hhp := Stand.throwing_heap T (F0 m pc ls st) a
  have hkT : ∃ k, T.vm.classes[cX]? = some k := by
    obtain ⟨k0, hk0⟩ := hk
    obtain ⟨k1, hk1, -⟩ := X.warmed.alike.2.2 _ _ hk0
    exact ⟨k1, hk1⟩
  refine ⟨t, X.catchAt a (g := F0 m pc ls st) rfl (Finds.catchReady (meth := meth) (code := c) (by rw [hvm]; exact X.method') hc [] en [] hsplit (fun y hy => by cases hy) hx h0 (c := cX) (cell := cell) (by rw [hvm]; exact hr _ X.warmed) (by rw [hhp, hT]; exact hcell) hobj (by rw [hvm, hcls]; exact hkT) (by rw [hvm]; exact hkT) ?_) a1, a2⟩
  rw [hvm, hcls, X.warmed.alike.assignable]
  exact hfit
end Nest
