/-! elementOf, WHERE IT THROWS -/
def xHall : Prop := ∀ k, k < xmCount → plainFor (xmY k) = true ∧ ∀ pc i, xmCd k pc = some i → xmOK k pc i
/-- a method's own facts -/
def bxM (s : State) (y : MethodName) (cc : ByteArray) (mL : Nat) (rt : Option FieldType) (m : MethodId) (meth : Method) (c : Code) : Prop := s.methodNamed? y = some m ∧ s.vm.method? m = some meth ∧ meth.code = some c ∧ c.code = cc ∧ c.maxLocals = mL ∧ meth.sig.returnType = rt ∧ meth.locks = false ∧ parseMethodDescriptor y.desc = some meth.sig
theorem bx_meth {p : Program} {s : State} {args : Array Value} {V : xmV} (B : bxC p s args V) {k : Nat} (hk : xmCode k) : ∃ m meth c, bxM s (xmY k) (xmB k) (xmML k) (xmRt k) m meth c ∧ c.exceptionTable.toList = [] := by
  have h := B.2.1 _ hk
  obtain ⟨mk, hn⟩ := Cond.code_named h
  obtain ⟨meth, c, h1, h2, h3, h4, h5, h6, h7, h8⟩ := Cond.code_spec hn h
  refine ⟨mk, meth, c, ⟨hn, h1, h2, h3, h4, h5, h6, h8⟩, ?_⟩
  have h0 : c.exceptionTable.size = 0 := by simpa [Array.isEmpty] using h7
  exact List.eq_nil_of_length_eq_zero (by simpa using h0)
theorem bxM.go {s U : State} {y : MethodName} {cc : ByteArray} {mL : Nat} {rt : Option FieldType} {m : MethodId} {meth : Method} {c : Code} (h : bxM s y cc mL rt m meth c) (hW : s.WarmedH U.vm) : bxM U y cc mL rt m meth c := by
  obtain ⟨h1, h2, h3⟩ := h
  exact ⟨(State.methodNamed?_setVm (s := s) hW.alike y).trans h1, (hW.alike.method? m).trans h2, h3⟩
section Elem
variable {p : Program} {l : Launch} {e : Env} {R : Room} {s : State} {m : MethodId} {args : Array Value} {below : List Frame} {meth : Method} {c : Code} {Q : State → Prop} {V : xmV} {G : xmH} {H : Heap} {locs : List Loc} {cells slots : Nat} {ls : Array Slot} {rest : List Value}
theorem wf_get (B : bxC p s args V) (hall : xHall) {k pc idx ci fi a : Nat} {aux : List Nat} {fs : List Value} {v : Value} (hk : k < xmCount) (hcd : xmCd k pc = some (.getfield idx, 3, ci :: fi :: aux)) (hci : ci < 2000) (hb : c.code = xmB k) (hown : s.vm.findClass (xmY k).cls = some m.cls) (hC : xmCon V G H) (hG : G.1 a = (16 + ci, fs)) (hv : fs[fi]? = some v)
    (kk : W p l e R s m args below meth c H locs cells slots Q (F0 m (pc + 3) ls (xmRo V v :: rest))) : W p l e R s m args below meth c H locs cells slots Q (F0 m pc ls (.ref (V.2.2.2.1 + a) :: rest)) := by
  obtain ⟨hdg, -, h1⟩ := (hall k hk).2 pc _ hcd
  rcases h1 with ⟨-, ⟨q, hq, hin, -⟩, q', hq', hfi, hlink⟩ | ⟨h2, -⟩ | ⟨h2, -⟩
  · cases hq.symm.trans hq'
    obtain ⟨r, hr, hlen, hob⟩ := xm_obj hC hG
    have hP : va_P (V.1, V.2.1) vwCl [(V.2.2.2.1 + a, .inr (ci, fs.map (xmRo V)))] H := by
      intro j z hz
      match j, hz with
      | 0, hz => cases hz; exact ⟨r, hr, hob⟩
      | j + 1, hz => simp at hz
    rcases hlink with hlink | ⟨host, hlink⟩
    · exact va_get (D := (V.1, V.2.1)) B.1 hb B.2.1 hin hown B.2.2.1.1 hP 0 rfl hq fi hfi (B.2.1 _ hlink) (fun _ h => h) (v := xmRo V v) (by rw [List.getElem?_map, hv]; rfl) hdg kk
    · exact va_getN (D := (V.1, V.2.1)) B.1 hb B.2.1 hin hown B.2.2.1.1 hP 0 rfl hq fi hfi (va_Nw.use rfl (B.2.2.1.2.2.1 _ hlink rfl)) (fun _ h => h) (v := xmRo V v) (by rw [List.getElem?_map, hv]; rfl) hdg kk
  · exact absurd (show ci = 2000 from h2) (by omega)
  · exact absurd (show ci = 2001 from h2) (by omega)
theorem W.iretC {cc : ByteArray} {v : Int32} {pc : Nat} (hexec : p.tables.exec = Jvm.exec) (hb : c.code = cc) (hr : meth.sig.returnType = some .int) (hlocks : meth.locks = false) (hdg : decode cc pc = .ok (.ireturn, 1))
    (hq : ∀ t : State, t.heap = H → cEnd below s t (.returned (some (.int v))) locs cells slots → Q t) : W p l e R s m args below meth c H locs cells slots Q (F0 m pc ls [.int v]) := by
  intro T hT X
  obtain ⟨fs, hret, hrun, hended, hW, hframe⟩ := X.leave (v := some (.int v)) (hlocks := hlocks) (fun h => by rw [hr] at h; cases h)
  have hmeth' : T.vm.method? m = some meth := X.method'
  refine ⟨T.setFrames fs, ?_, hq _ hT ⟨hended, hW, hframe⟩⟩
  jvm_step X.here [X.here.top, hexec, hb, hdg, hmeth', hr, narrow]
  (try refine ⟨rfl, ?_⟩); (try refine ⟨rfl, ?_⟩)
  first | (intro acts; rw [hret _ acts rfl rfl rfl]) | rw [hret _ _ rfl rfl rfl]
  exact Steps.refl _
/-- what a throw of ours has done to the heap -/
def thE (s t : State) (a : Addr) : Prop := t.heap.size = s.heap.size + 1 ∧ (∀ q : Nat, q < s.heap.size → t.heap[q]? = s.heap[q]?) ∧ a = s.heap.size ∧ ∃ ce : Cell, t.heap[a]? = some ce ∧ s.vm.findClass xIOB = some ce.cls ∧ ce.vm = .none
theorem same_cells {t : State} {n : Nat} (h : s.sameButNew t [] 1 n) {ce : Cell} (hce : t.heap[s.heap.size]? = some ce) : t.heap.size = s.heap.size + 1 ∧ ∀ q : Nat, q < s.heap.size → t.heap[q]? = s.heap[q]? := by
  obtain ⟨-, q2, q3, -, -, q6⟩ := h
  have h1 := (Array.getElem?_eq_some_iff.mp hce).1
  refine ⟨by omega, fun q hq => ?_⟩
  obtain ⟨c', k1, k2, k3, k4⟩ := q6 q s.heap[q] (Array.getElem?_eq_getElem hq)
  rw [k1, Array.getElem?_eq_getElem hq, k2]
  have e1 : c'.slots = s.heap[q].slots := by
    apply Array.ext_getElem?
    intro i
    exact k4 i (List.not_mem_nil)
  rw [e1]
theorem el_tail (B : bxC p s args V) (htr : e.platform.stackTraces = false) (hM : bxM s (xmY 146) (xmB 146) 2 (some .int) m meth c) (htab : c.exceptionTable.toList = []) (hR : 8 ≤ R.frames ∧ 150 ≤ R.locals ∧ 1 ≤ R.cells ∧ 6 ≤ R.slots) (hsz : ls.size = 2)
    (hq : ∀ (t : State) (a : Addr), thE s t a → cEnd below s t (.threw a) [] 1 6 → Q t) : W p l e R s m args below meth c s.heap [] 0 0 Q (F0 m 12 ls []) := by
  obtain ⟨hn, hm, hc, hb, hml, hr, hlk, hsig⟩ := hM
  have hown : s.vm.findClass "LevelFlow" = some m.cls := findClass_of_methodNamed hn
  obtain ⟨cX, kX, hfc, hkX, -⟩ := Cond.instantiable_spec (B.2.1 _ w_new2)
  refine W.newcK B.1 hb hown (B.2.1 _ w_new1) (B.2.1 _ w_new2) (B.2.1 _ w_new3) rfl (show decode (xmB 146) 12 = _ by decide +kernel) (by omega) (by omega) hfc rfl fun H' kC hkC e1 z1 o1 => ?_
  refine lv_dup B.1 hb (pc := 15) (show decode (xmB 146) 15 = _ by decide +kernel) rfl ?_
  refine va_ldcS B.1 hb (pc := 16) hown (B.2.2.1.2.2.2.1 11 (by decide)).2 (show decode (xmB 146) 16 = _ by decide +kernel) ?_
  intro T hT X
  obtain ⟨U, st, hrun, hend, hW, hsame, ce, hce, hOC⟩ := X.ctorThrowS B.1 htr (own := "LevelFlow") (ic := 184) (cls := xIOB) (names := xNms) hown (by decide +kernel) (by decide +kernel) (own_ok B) (fun x hx => by cases hx) (a := s.heap.size) hfc hkC (by rw [hT]; exact e1) (Nat.le_refl _)
    (msg := .ref (V.2.2.2.2.1 11)) rfl (g := F0 m 18 ls [.ref (V.2.2.2.2.1 11), .ref s.heap.size, .ref s.heap.size]) rfl (by show ls.size = _; rw [hml, hsz]) rfl rfl (rest := []) rfl (by rw [hb]; show decode (xmB 146) 18 = _; decide +kernel) (by rw [hb]; show decode (xmB 146) 21 = _; decide +kernel) (fun x hx => by rw [htab] at hx; cases hx)
    (show 2 + 3 < R.frames by omega) (show 2 * 0 + 1 + (13 * 3 + 42) ≤ R.locals by omega) hlk
  obtain ⟨g1, g2⟩ := same_cells hsame hce
  exact ⟨U, st, hq U _ ⟨g1, g2, rfl, ce, hce, hOC.cls, hOC.vm⟩ ⟨hend, hW, hsame⟩⟩
end Elem
