/-! WORDS ABOUT THE THROW -/
def xIOB : String := "java/lang/IndexOutOfBoundsException"
def xNms : List String := ["java/lang/RuntimeException", "java/lang/Exception"]
def xR1 : Cond := .isRef (.static Bundle.tN "UNASSIGNED_STACK" Bundle.steD)
def xR2 : Cond := .isRef (.static Bundle.tN "SUPPRESSED_SENTINEL" Bundle.listD)
def xZ1 : Cond := .laysStatic Bundle.tN "UNASSIGNED_STACK" Bundle.steD
def xZ2 : Cond := .laysStatic Bundle.tN "SUPPRESSED_SENTINEL" Bundle.listD
/-- words that go with the tables, but aren't among the good ones -/
def xWd : List Cond := [.declares (Bundle.initS "java/lang/RuntimeException"), .declares (Bundle.initS "java/lang/Exception"), .declares (Bundle.initS Bundle.tN), .castable xIOB xIOB]
theorem own_in : ∀ a ∈ Bundle.ownAtoms "LevelFlow" 184 xIOB xNms, (a ∈ lw_tbl ∧ goodWord a = true) ∨ a = xR1 ∨ a = xR2 ∨ a = xZ1 ∨ a = xZ2 ∨ a ∈ xWd := by decide +kernel
theorem wd_in : ∀ w ∈ xWd, w ∈ lw_tbl := by decide +kernel
theorem z1_in : xZ1 ∈ lw_tbl := by decide +kernel
theorem z2_in : xZ2 ∈ lw_tbl := by decide +kernel
theorem mem_Ts {w : Cond} (h : w ∈ lw_tbl) (h2 : goodWord w = true) : w ∈ xmTs := List.mem_filter.mpr ⟨h, h2⟩
def yO : MethodName := ⟨"LevelFlowLaw", "outputAt", "(LLevelFlow;I[J)I"⟩
def yI : MethodName := ⟨"LevelFlowLaw", "inputAt", "(LLevelFlow;IZ[J)I"⟩
theorem w_codeO : Cond.codeWith yO method_3_code 4 (some .int) [(0, 9, 12, 13)] ∈ xmTs := mem_Ts (by decide +kernel) (by decide +kernel)
theorem w_codeI : Cond.codeWith yI method_4_code 5 (some .int) [(0, 10, 13, 13)] ∈ xmTs := mem_Ts (by decide +kernel) (by decide +kernel)
theorem w_new1 : Cond.classLink "LevelFlow" 180 xIOB ∈ xmTs := mem_Ts (by decide +kernel) (by decide +kernel)
theorem w_new2 : Cond.instantiable xIOB 6 ∈ xmTs := mem_Ts (by decide +kernel) (by decide +kernel)
theorem w_new3 : Cond.initialized xIOB ∈ xmTs := mem_Ts (by decide +kernel) (by decide +kernel)
theorem w_cast : Cond.castable xIOB xIOB ∈ lw_tbl := by decide +kernel
theorem w_cl13 : Cond.classLink "LevelFlowLaw" 13 xIOB ∈ xmTs := mem_Ts (by decide +kernel) (by decide +kernel)
theorem w_lnkO : Cond.methodLink "LevelFlowLaw" 60 yO ∈ xmTs := mem_Ts (by decide +kernel) (by decide +kernel)
theorem w_lnkI : Cond.methodLink "LevelFlowLaw" 69 yI ∈ xmTs := mem_Ts (by decide +kernel) (by decide +kernel)
theorem w_stO : Cond.static yO ∈ xmTs := mem_Ts (by decide +kernel) (by decide +kernel)
theorem w_stI : Cond.static yI ∈ xmTs := mem_Ts (by decide +kernel) (by decide +kernel)
theorem w_iniL : Cond.initialized "LevelFlowLaw" ∈ xmTs := mem_Ts (by decide +kernel) (by decide +kernel)
theorem w_lnk7 : Cond.methodLink "LevelFlowLaw" 7 (xmY 145) ∈ xmTs := mem_Ts (by decide +kernel) (by decide +kernel)
theorem w_lnk15 : Cond.methodLink "LevelFlowLaw" 15 (xmY 147) ∈ xmTs := mem_Ts (by decide +kernel) (by decide +kernel)
/-- a static that holds a reference, in a cell below B -/
def zLs (C n d : String) (B : Nat) (U : State) : Prop := ∃ (cf : ClassId) (kf : Class) (fi : Nat) (f : Field) (a : Nat) (cell : Cell) (v : Value), U.vm.findClass C = some cf ∧ U.fieldFound? C n d = some (cf, kf, fi, f) ∧ f.isStatic = true ∧ kf.statics = some a ∧ U.heap[a]? = some cell ∧ cell.vm.isStatics = true ∧ cell.cls = cf ∧ f.slot < cell.slots.size ∧ kf.staticTypes[f.slot]? = some f.type ∧ cell.slots[f.slot]? = some v ∧ v.isRef = true ∧ a < B
theorem zLs.go {C n d : String} {B : Nat} {u U : State} (h : zLs C n d B u) (hvm : u.vm.Alike U.vm) (hq : ∀ a : Nat, a < B → U.heap[a]? = u.heap[a]?) : zLs C n d B U := by
  obtain ⟨cf, kf, fi, f, a, cell, v, h0, h1, h2, h3, h4, h5, h6, h7, h8, h9, h10, h11⟩ := h
  obtain ⟨k', hi', he⟩ := State.fieldFound?_setVm hvm h1
  exact ⟨cf, k', fi, f, a, cell, v, by rw [hvm.findClass]; exact h0, hi', h2, by rw [he]; exact h3, by rw [hq a h11]; exact h4, h5, h6, h7, by rw [he]; exact h8, h9, h10, h11⟩
theorem zLs.lays {C n d : String} {B : Nat} {U : State} {A : Array Value} (h : zLs C n d B U) : (Cond.laysStatic C n d).before A U = true := by
  obtain ⟨cf, kf, fi, f, a, cell, v, h0, h1, h2, h3, h4, h5, h6, h7, h8, h9, h10, h11⟩ := h
  simp [Cond.before, Cond.holds, Cond.value, h0, h1, h2, h3, h4, h5, h6, h7, h8]
theorem zLs.ref {C n d : String} {B : Nat} {U : State} {A : Array Value} (h : zLs C n d B U) : (Cond.isRef (.static C n d)).before A U = true := by
  obtain ⟨cf, kf, fi, f, a, cell, v, h0, h1, h2, h3, h4, h5, h6, h7, h8, h9, h10, h11⟩ := h
  cases v <;> first | (simp [Value.isRef] at h10; done) | simp [Cond.before, Cond.holds, Cond.value, Term.eval, State.fieldNamed?, h1, h2, h3, h4, h5, h9]
theorem zLs.of {C n d : String} {s : State} {A : Array Value} (hl : (Cond.laysStatic C n d).before A s = true) (hr : (Cond.isRef (.static C n d)).before A s = true) : zLs C n d s.heap.size s := by
  simp only [Cond.before, Cond.holds, Cond.value] at hl hr
  cases h0 : s.vm.findClass C with
  | none => simp [h0] at hl
  | some cf =>
    cases h1 : s.fieldFound? C n d with
    | none => simp [h0, h1] at hl
    | some q =>
      obtain ⟨c', kf, fi, f⟩ := q
      simp only [h0, h1] at hl
      cases h3 : kf.statics with
      | none => simp [h3] at hl
      | some a =>
        cases h4 : s.heap[a]? with
        | none => simp [h3, h4] at hl
        | some cell =>
          simp [h3, h4] at hl
          obtain ⟨⟨⟨⟨⟨g1, g2⟩, g3⟩, g4⟩, g5⟩, g6⟩ := hl
          subst g2
          simp [Term.eval, State.fieldNamed?, h1, g1, h3, h4, g3] at hr
          cases h9 : cell.slots[f.slot]? with
          | none => simp [h9] at hr
          | some v =>
            refine ⟨cf, kf, fi, f, a, cell, v, h0, h1, g1, h3, h4, g3, g4, g5, g6, h9, ?_, (Array.getElem?_eq_some_iff.mp h4).1⟩
            cases v <;> first | rfl | (simp [h9] at hr; done)
theorem wd_at {s U : State} (hW : s.WarmedH U.vm) {A A' : Array Value} {w : Cond} (hw : w ∈ xWd) (h : w.before A s = true) : w.before A' U = true := by
  have e1 : ∀ x, U.methodNamed? x = s.methodNamed? x := fun x => State.methodNamed?_setVm (s := s) hW.alike x
  have e2 : U.vm.method? = s.vm.method? := funext fun x => hW.alike.method? x
  simp only [xWd, List.mem_cons, List.not_mem_nil, or_false] at hw
  rcases hw with rfl | rfl | rfl | rfl
  · simpa [Cond.before, Cond.holds, Cond.value, e1, e2] using h
  · simpa [Cond.before, Cond.holds, Cond.value, e1, e2] using h
  · simpa [Cond.before, Cond.holds, Cond.value, e1, e2] using h
  · simpa [Cond.before, Cond.holds, Cond.value, hW.alike.findClass, hW.alike.assignable] using h
/-- what goes from a method to those that it calls -/
def bxC (p : Program) (s : State) (args : Array Value) (V : xmV) : Prop := p.tables.exec = Jvm.exec ∧ (∀ w ∈ xmTs, w.before args s = true) ∧ xmKK V s ∧ V.2.2.2.1 ≤ s.heap.size ∧ zLs Bundle.tN "UNASSIGNED_STACK" Bundle.steD V.2.2.2.1 s ∧ zLs Bundle.tN "SUPPRESSED_SENTINEL" Bundle.listD V.2.2.2.1 s ∧ ∀ w ∈ xWd, w.before args s = true
theorem bxC.go {p : Program} {s U : State} {args : Array Value} {V : xmV} {H : Heap} {locs : List Loc} (h : bxC p s args V) (hS : va_S (fun q => V.2.2.2.1 ≤ q) s.heap H locs) (hU : U.heap = H) (hW : s.WarmedH U.vm) (g : JFrame) (mk : MethodId) (a : Array Value) : bxC p (U.calling g mk a) a V := by
  obtain ⟨h1, h2, h3, h4, h5, h6, h7⟩ := h
  have hU' : (U.calling g mk a).heap = H := hU
  have hW' : s.WarmedH (U.calling g mk a).vm := hW
  have hq : ∀ b : Nat, b < V.2.2.2.1 → (U.calling g mk a).heap[b]? = s.heap[b]? := fun b hb => by rw [hU']; exact hS.2.1 b (Nat.lt_of_lt_of_le hb h4) (Nat.not_le.mpr hb)
  exact ⟨h1, fun w hw => word_at hW' (xmTs_ok hw) (h2 w hw), h3.go hS h4 hU' hW', by rw [hU']; exact Nat.le_trans h4 hS.1, h5.go hW'.alike hq, h6.go hW'.alike hq, fun w hw => wd_at hW' hw (h7 w hw)⟩
theorem own_ok {p : Program} {s : State} {args : Array Value} {V : xmV} (h : bxC p s args V) : ∀ a ∈ Bundle.ownAtoms "LevelFlow" 184 xIOB xNms, a.before args s = true := by
  intro a ha
  obtain ⟨h1, h2, h3, h4, h5, h6, h7⟩ := h
  rcases own_in a ha with ⟨q1, q2⟩ | rfl | rfl | rfl | rfl | q
  · exact h2 a (mem_Ts q1 q2)
  · exact h5.ref
  · exact h6.ref
  · exact h5.lays
  · exact h6.lays
  · exact h7 a q
