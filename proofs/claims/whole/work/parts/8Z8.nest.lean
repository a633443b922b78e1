/-! CALLS WALKED IN PLACE: the callee's own stand, and what the caller does with its end, be it a return or a throw -/
section Nest
variable {p : Program} {l : Launch} {e : Env} {R : Room} {s : State} {m : MethodId} {args : Array Value} {below : List Frame} {meth : Method} {c : Code} {H : Heap} {locs : List Loc} {cells slots : Nat} {Q : State → Prop} {cc : ByteArray} {own C : String} {idx pc : Nat} {y : MethodName} {mk : MethodId} {methk : Method} {ck : Code} {As rest : List Value} {ls : Array Slot} {R' : Room}
/-- a throw is under way over the frame g -/
def WT (p : Program) (l : Launch) (e : Env) (R : Room) (s : State) (m : MethodId) (args : Array Value) (below : List Frame) (meth : Method) (c : Code) (H : Heap) (locs : List Loc) (cells slots : Nat) (Q : State → Prop) (g : JFrame) (a : Addr) : Prop :=
  ∀ T : State, T.heap = H → Stand p l e R s m args below meth c T locs cells slots → ∃ t, Steps p.tables e below ((T.setTop g).pushFrame (.throwing a)) t ∧ Q t
/-- a callee's end -/
def cEnd (below : List Frame) (s0 t : State) (o : Outcome) (L : List Loc) (k n : Nat) : Prop := Ended t below o ∧ s0.WarmedH t.vm ∧ s0.sameButNew ({ t with vm := s0.vm } : State) L k n
def cPost (p : Program) (l : Launch) (e : Env) (R : Room) (s : State) (m : MethodId) (args : Array Value) (below : List Frame) (meth : Method) (c : Code) (locs : List Loc) (cells slots : Nat) (Q : State → Prop) (pc : Nat) (ls : Array Slot) (rest : List Value) (s0 : State) : State → Prop := fun t =>
  ∃ (o : Outcome) (L : List Loc) (k n : Nat), cEnd (.java (F0 m pc ls rest) :: below) s0 t o L k n ∧ (match o with
    | .returned v => W p l e R s m args below meth c t.heap (locs ++ L) (cells + k) (slots + n) Q (F0 m (pc + 3) ls (v.toList ++ rest))
    | .threw a => WT p l e R s m args below meth c t.heap (locs ++ L) (cells + k) (slots + n) Q (F0 m pc ls rest) a)
theorem nest_go {T U₀ : State} {vm₁ : Vm} {ig : ClassFile.Instr} (X : Stand p l e R s m args below meth c (T.setVm vm₁) locs cells slots) (hdg : decode c.code pc = .ok (ig, 3)) {t : State}
    (hsteps : Steps p.tables e (.java (F0 m pc ls rest) :: below) U₀ t) (hq : cPost p l e R s m args below meth c locs cells slots Q pc ls rest ((T.setVm vm₁).calling (F0 m pc ls rest) mk As.toArray) t) :
    ∃ t2, Steps p.tables e below U₀ t2 ∧ Q t2 := by
  obtain ⟨o, L, k, n, ⟨h1, h2, h3⟩, h4⟩ := hq
  cases o with
  | returned v =>
    obtain ⟨T', X', hW', -, ht⟩ := X.outOf (g := F0 m pc ls rest) rfl hdg h1 h2 h3
    obtain ⟨t2, a1, a2⟩ := h4 T' (congrArg State.heap ht).symm X'
    refine ⟨t2, (Steps.weaken (mid := [.java (F0 m pc ls rest)]) hsteps).trans ?_, a2⟩
    rw [ht]
    exact a1
  | threw a =>
    obtain ⟨T', X', hW', -, ht⟩ := X.outOfThrown (g := F0 m pc ls rest) rfl h1 h2 h3
    have hh : T'.heap = t.heap := by
      rw [ht, Stand.throwing_heap]
    obtain ⟨t2, a1, a2⟩ := h4 T' hh X'
    refine ⟨t2, (Steps.weaken (mid := [.java (F0 m pc ls rest)]) hsteps).trans ?_, a2⟩
    rw [ht]
    exact a1
theorem plain_of {U : State} (hn : U.methodNamed? y = some mk) (hp : plainName y.cls = true) : U.plainMethod mk := by
  refine State.plainMethod.of_name ?_
  intro k hk
  obtain ⟨k', hk', hn'⟩ := className_of_methodNamed hn
  cases hk.symm.trans hk'
  rw [hn']; exact hp
theorem W.inS (hx : p.tables.exec = Jvm.exec) (hb : c.code = cc) (hown : s.vm.findClass own = some m.cls) (hlink : (Cond.methodLink own idx y).before args s = true) (hn : s.methodNamed? y = some mk) (hm : s.vm.method? mk = some methk) (hck : methk.code = some ck) (hlk : methk.locks = false) (hst : methk.isStatic = true) (hini : (Cond.initialized y.cls).before args s = true)
    (hp : plainName y.cls = true) (hy : y.cls ≠ "java/lang/invoke/MethodHandle" ∧ y.cls ≠ "java/lang/invoke/VarHandle") (hlen : As.length = methk.sig.parameters.length)
    (hfr : R'.frames + 1 ≤ R.frames) (hlo : (rest.map fun v => v.category).sum + (ck.maxLocals + 11) + R'.locals ≤ R.locals) (hcl : cells + R'.cells ≤ R.cells) (hsl : slots + R'.slots ≤ R.slots) (hsize : ls.size = c.maxLocals) (hdg : decode cc pc = .ok (.invokestatic idx, 3))
    (body : ∀ U : State, U.heap = H → s.WarmedH U.vm → W p l e R' (U.calling (F0 m pc ls rest) mk As.toArray) mk As.toArray (.java (F0 m pc ls rest) :: below) methk ck H [] 0 0 (cPost p l e R s m args below meth c locs cells slots Q pc ls rest (U.calling (F0 m pc ls rest) mk As.toArray)) (entryFrame mk As.toArray ck.maxLocals)) :
    W p l e R s m args below meth c H locs cells slots Q (F0 m pc ls (As.reverse ++ rest)) := by
  subst hb
  intro T hT X
  obtain ⟨kP, hkP, -⟩ := className_of_methodNamed hn
  have hinitP : kP.init = .initialized := Cond.initialized_spec (findClass_of_methodNamed hn) hkP hini
  obtain ⟨vm₁, X₁, hstep₁⟩ := X.invokestatic hx hown hlink hn hm hst hkP hinitP hy (g := F0 m pc ls (As.reverse ++ rest)) rfl (argsL := As) (rest := rest) hlen rfl hdg
  have hW₁ : s.WarmedH vm₁ := X₁.warmed
  obtain ⟨Y₀, hin⟩ := X₁.into (g := F0 m pc ls rest) rfl hsize hdg As.toArray (R' := R') (mk := mk) (methk := methk) (ck := ck) (by show vm₁.method? mk = _; rw [hW₁.alike.method?]; exact hm) hck hlk (plain_of (X₁.named hn) hp) hfr (by show 2 * 0 + (rest.map fun v => v.category).sum + (ck.maxLocals + 11) + R'.locals ≤ R.locals; omega) hcl hsl
  obtain ⟨t, st, hq⟩ := body (T.setVm vm₁) hT hW₁ _ (by show T.heap = H; exact hT) Y₀
  obtain ⟨t2, a1, a2⟩ := nest_go X₁ hdg st hq
  refine ⟨t2, hstep₁ _ (fun acts => ?_), a2⟩
  rw [show ({ (F0 m pc ls (As.reverse ++ rest)) with stack := rest } : JFrame) = F0 m pc ls rest from rfl, hin acts]
  exact a1
theorem W.inV (hx : p.tables.exec = Jvm.exec) (hb : c.code = cc) (hown : s.vm.findClass own = some m.cls) (hlink : (Cond.methodLink own idx y).before args s = true) (hinst : (Cond.instanceMethod y).before args s = true) (hsel : (Cond.selects C y y).before args s = true) (hn : s.methodNamed? y = some mk) (hm : s.vm.method? mk = some methk) (hck : methk.code = some ck) (hlk : methk.locks = false)
    (hp : plainName y.cls = true) (hy : y.cls ≠ "java/lang/invoke/MethodHandle" ∧ y.cls ≠ "java/lang/invoke/VarHandle") (hlen : As.length = methk.sig.parameters.length) {b : Addr} {cellB : Cell} (hcell : H[b]? = some cellB) (hobj : cellB.vm.isStatics = false) (hcls : s.vm.findClass C = some cellB.cls)
    (hfr : R'.frames + 1 ≤ R.frames) (hlo : (rest.map fun v => v.category).sum + (ck.maxLocals + 11) + R'.locals ≤ R.locals) (hcl : cells + R'.cells ≤ R.cells) (hsl : slots + R'.slots ≤ R.slots) (hsize : ls.size = c.maxLocals) (hdg : decode cc pc = .ok (.invokevirtual idx, 3))
    (body : ∀ U : State, U.heap = H → s.WarmedH U.vm → W p l e R' (U.calling (F0 m pc ls rest) mk (Value.ref b :: As).toArray) mk (Value.ref b :: As).toArray (.java (F0 m pc ls rest) :: below) methk ck H [] 0 0 (cPost p l e R s m args below meth c locs cells slots Q pc ls rest (U.calling (F0 m pc ls rest) mk (Value.ref b :: As).toArray)) (entryFrame mk (Value.ref b :: As).toArray ck.maxLocals)) :
    W p l e R s m args below meth c H locs cells slots Q (F0 m pc ls (As.reverse ++ .ref b :: rest)) := by
  subst hb
  intro T hT X
  obtain ⟨mk', methM, hnamed, hmethM, hstM, habM⟩ := Cond.instanceMethod_spec hinst
  cases hn.symm.trans hnamed
  cases hm.symm.trans hmethM
  obtain ⟨c2, r2, m2, q1, q2, q3, q4, kP, hkP, hkPi⟩ := Cond.selects_spec hsel
  cases hcls.symm.trans q1
  cases (State.methodFound?_of_named hnamed hy).symm.trans q2
  cases hnamed.symm.trans q3
  have hselP : selectMethod e.platform s.vm cellB.cls mk = .method mk := by rw [Launch.admits_selectMethod X.admits]; exact q4
  obtain ⟨vm₁, X₁, hstep₁⟩ := X.invokevirtual hx hown hlink hnamed hmethM hstM hkP hkPi hy (a := b) (cell := cellB) (by rw [hT]; exact hcell)
    (fun z h => by rw [h] at hobj; cases hobj) hselP hmethM habM hkP hkPi (g := F0 m pc ls (As.reverse ++ .ref b :: rest)) rfl (argsL := As) (rest := rest) hlen rfl hdg
  have hW₁ : s.WarmedH vm₁ := X₁.warmed
  obtain ⟨Y₀, hin⟩ := X₁.into (g := F0 m pc ls rest) rfl hsize hdg (Value.ref b :: As).toArray (R' := R') (mk := mk) (methk := methk) (ck := ck) (by show vm₁.method? mk = _; rw [hW₁.alike.method?]; exact hm) hck hlk (plain_of (X₁.named hn) hp) hfr (by show 2 * 0 + (rest.map fun v => v.category).sum + (ck.maxLocals + 11) + R'.locals ≤ R.locals; omega) hcl hsl
  obtain ⟨t, st, hq⟩ := body (T.setVm vm₁) hT hW₁ _ (by show T.heap = H; exact hT) Y₀
  obtain ⟨t2, a1, a2⟩ := nest_go (As := Value.ref b :: As) X₁ hdg st hq
  refine ⟨t2, hstep₁ _ (fun acts => ?_), a2⟩
  rw [show ({ (F0 m pc ls (As.reverse ++ .ref b :: rest)) with stack := rest } : JFrame) = F0 m pc ls rest from rfl, hin acts]
  exact a1
/-- a throw leaves the method: no entry of its table covers the place -/
theorem WT.out {a : Addr} {g : JFrame} (hg : g.method = m) (h1 : g.locked = none) (h2 : g.entered = []) (hout : ∀ x ∈ c.exceptionTable.toList, covers x g.pc = false) (hlocks : meth.locks = false)
    (hq : ∀ t : State, t.heap = H → cEnd below s t (.threw a) locs cells slots → Q t) : WT p l e R s m args below meth c H locs cells slots Q g a := by
  intro T hT X
  obtain ⟨k1, -, k3, k4, k5⟩ := X.leaveThrown a hg h1 h2 hout hlocks
  exact ⟨_, k1, hq _ hT ⟨k3, k4, k5⟩⟩
theorem find_cold {a : Addr} {u : State} {f : JFrame} {code : Code} (hm : u.vm.method? f.method = some meth) (hc : meth.code = some code) {x : ExceptionTableEntry} (hsplit : code.exceptionTable.toList = [x]) (hx : covers x f.pc = true) (h0 : x.catchType ≠ 0) {cX : ClassId} {vm' : Vm} {cell : Cell}
    (hg : (Jvm.resolveClass f.method.cls x.catchType).Gives e.toSetting u.vm (.ok cX) vm') (hsz : vm'.classes.size ≤ u.vm.classes.size) (hcell : u.heap[a]? = some cell) (hobj : ∀ k, cell.vm ≠ .statics k) (hk : ∃ k, vm'.classes[cell.cls]? = some k) (hcl : ∃ k, vm'.classes[cX]? = some k) (hfit : vm'.assignable cell.cls cX = true) :
    ∀ (Q : Handler → Pre) (E : CtlPost) (d : Bool) (acts : List Action), wp (findHandler f a) Q E e d acts u ↔ Q (.found x.handlerPc) d acts (u.setVm vm') := by
  intro Q E d acts
  rw [W.findHandler_eq hm hc, hsplit]
  simp only [covers] at hx
  obtain ⟨ha, ht⟩ := hg.op (op := VmOp.resolveClass f.method.cls x.catchType) rfl
  simp [findHandler.go, hx, h0, ha, ht, hsz, hcell, hobj, hk, hcl, hfit, VmOp.dirties, VmOp.acts]
theorem step_cold {a : Addr} {u : State} {f : JFrame} {r : List Frame} {pc2 : Nat} {vm' : Vm} (hfind : ∀ (Q : Handler → Pre) (E : CtlPost) (d : Bool) (acts : List Action), wp (findHandler f a) Q E e d acts u ↔ Q (.found pc2) d acts (u.setVm vm')) :
    (stepThrowing e u a (.java f :: r)).1 = (u.setVm vm').setFrames (.java { f with pc := pc2, stack := [.ref a] } :: r) := by
  simp only [stepThrowing, searchFrame, vmDo]
  generalize hr : Sem.go _ e false [] u = res
  obtain ⟨as, rfl, ha⟩ := Sem.eq_ok_of hr (a := Handler.found pc2) (s' := u.setVm vm') (acts' := []) (by simp [hfind _ _ _ _])
  rfl
theorem caught_cold {tb : Tables} {a : Addr} {u target : State} {g : JFrame} {code : Code} (h : At u g.method code below) {pc2 : Nat} {vm' : Vm}
    (hfind : ∀ (Q : Handler → Pre) (E : CtlPost) (d : Bool) (acts : List Action), wp (findHandler g a) Q E e d acts ((u.setTop g).pushFrame (.throwing a)) ↔ Q (.found pc2) d acts (((u.setTop g).pushFrame (.throwing a)).setVm vm'))
    (hrest : Steps tb e below ((u.setVm vm').setTop { g with pc := pc2, stack := [.ref a] }) target) : Steps tb e below ((u.setTop g).pushFrame (.throwing a)) target := by
  obtain ⟨hgo, hw⟩ := h.throwing a
  refine Steps.head hgo hw ?_
  rw [stepThread_throwing (frames_entered h.top _), step_cold hfind]
  obtain ⟨g₀, hg⟩ := Option.isSome_iff_exists.mp h.top
  obtain ⟨r, hr⟩ := State.topJava?_eq_some.mp hg
  have hr' : (u.setVm vm').frames = .java g₀ :: r := hr
  rw [State.setTop_of_frames _ hr'] at hrest
  rw [State.pushFrame, State.setTop_of_frames _ hr, State.setFrames_setFrames]
  rw [hr]
  have e1 : ∀ X Y : List Frame, ((u.setFrames X).setVm vm').setFrames Y = (u.setVm vm').setFrames Y := fun X Y => State.setFrames_setFrames (u.setVm vm') X Y
  rw [e1]
  exact hrest
/-- a throw is caught in the method, by an entry whose class links -/
theorem WT.catch {a : Addr} {ls : Array Slot} {st : List Value} {en : ExceptionTableEntry} (hc : meth.code = some c) (hsplit : c.exceptionTable.toList = [en]) (hx : covers en pc = true) (h0 : en.catchType ≠ 0) {C : String} {cX : ClassId} {cell : Cell}
    (hown : s.vm.findClass own = some m.cls) (hlink : (Cond.classLink own en.catchType C).before args s = true) (hfc : s.vm.findClass C = some cX) (hcell : H[a]? = some cell) (hobj : ∀ k, cell.vm ≠ .statics k) (hcls : cell.cls = cX) (hk : ∃ k, s.vm.classes[cX]? = some k) (hfit : s.vm.assignable cX cX = true)
    (k : W p l e R s m args below meth c H locs cells slots Q (F0 m en.handlerPc ls [.ref a])) : WT p l e R s m args below meth c H locs cells slots Q (F0 m pc ls st) a := by
  intro T hT X
  have hvm := Stand.throwing_vm T (F0 m pc ls st) a
  have hhp := Stand.throwing_heap T (F0 m pc ls st) a
  have hpl : e.platform.magicAccessors = ({} : Platform).magicAccessors := by rw [X.admits.platform]
  obtain ⟨cc1, hfcc, hcl⟩ := Cond.classLink_spec hown hlink e.platform hpl
  cases hfc.symm.trans hfcc
  obtain ⟨hg₁, hwarm₁, hready₁⟩ := State.classEntry (e := e) X.warmed hcl
  have hsz : (T.vm.noted m.cls en.catchType (.cls cX)).classes.size ≤ T.vm.classes.size := by no_record
  generalize T.vm.noted m.cls en.catchType (.cls cX) = vm₁ at hg₁ hwarm₁ hready₁ hsz
  obtain ⟨t, a1, a2⟩ := k (T.setVm vm₁) hT (X.noted hwarm₁)
  have hk1 : ∃ k, vm₁.classes[cX]? = some k := by
    obtain ⟨k0, hk0⟩ := hk
    obtain ⟨k1, hk1, -⟩ := hwarm₁.alike.2.2 _ _ hk0
    exact ⟨k1, hk1⟩
  refine ⟨t, caught_cold (g := F0 m pc ls st) X.here (find_cold (meth := meth) (code := c) (u := ((T.setTop (F0 m pc ls st)).pushFrame (.throwing a))) (f := F0 m pc ls st) (by rw [hvm]; exact X.method') hc hsplit hx h0 (cX := cX) (cell := cell) (by rw [hvm]; exact hg₁) (by rw [hvm]; exact hsz) (by rw [hhp, hT]; exact hcell) hobj (by rw [hcls]; exact hk1) hk1 ?_) a1, a2⟩
  rw [hcls, hwarm₁.alike.assignable]
  exact hfit
end Nest
