/-! IntRow -/
theorem cmp_t {x y : Int32} (h : xmCmp .lt x y = true) : x < y := of_decide_eq_true h
/-- size() -/
theorem row_size {V : xmV} {O : xmO} {G : xmH} {a : Nat} {mo sz : Value} {s : Int32} {b : Value} (hG : G.1 a = (16, [mo, b, .int s])) : xmEv V O 1 (0, [(0, .ref a)], [], G) (some (.int s)) G := by
  refine ev_it 1 (x' := (1, [(0, .ref a)], [.ref a], G)) rfl ?_
  refine ev_get rfl rfl hG rfl ?_
  exact ev_iret rfl rfl rfl
/-- get(i) -/
theorem row_get {V : xmV} {O : xmO} {G : xmH} {a b : Nat} {mo : Value} {i s : Int32} {vs : List Value} (hG : G.1 a = (16, [mo, .ref b, .int s])) (hb : G.1 b = (1, vs)) (hs : s.toInt ≤ vs.length) (hl : vs.length < 2 ^ 31) (hv : ∀ v ∈ vs, ∃ z : Int32, v = .int z) :
    ∃ z : Int32, xmEv V O 5 (0, [(0, .ref a), (1, .int i)], [], G) (some (.int z)) G ∧ z = (if 0 ≤ i ∧ i < s then (match vs.getD i.toNatClampNeg .null with | .int y => y | _ => 0) else 0) := by
  refine ⟨_, ?_, rfl⟩
  refine ev_it 1 (x' := (1, [(0, .ref a), (1, .int i)], [.int i], G)) rfl ?_
  refine ev_br rfl rfl (fun h => ?_) (fun h => ?_)
  · refine ev_it 1 (x' := (31, [(0, .ref a), (1, .int i)], [.int 0], G)) rfl ?_
    have h1 : i < 0 := of_decide_eq_true h
    rw [if_neg (fun z => absurd h1 (Int32.not_lt.mpr z.1))]
    exact ev_iret rfl rfl rfl
  · have h1 : ¬ i < 0 := of_decide_eq_false h
    refine ev_it 2 (x' := (6, [(0, .ref a), (1, .int i)], [.ref a, .int i], G)) rfl ?_
    refine ev_get rfl rfl hG rfl ?_
    refine ev_br rfl rfl (fun h2 => ?_) (fun h2 => ?_)
    · have h3 : s ≤ i := of_decide_eq_true h2
      refine ev_it 1 (x' := (31, [(0, .ref a), (1, .int i)], [.int 0], G)) rfl ?_
      rw [if_neg (fun z => absurd z.2 (Int32.not_lt.mpr h3))]
      exact ev_iret rfl rfl rfl
    · have h3 : ¬ s ≤ i := of_decide_eq_false h2
      refine ev_it 2 (x' := (14, [(0, .ref a), (1, .int i)], [.ref a, .int i], G)) rfl ?_
      refine ev_get rfl rfl hG rfl ?_
      refine ev_len rfl hb (Or.inl rfl) ?_
      obtain ⟨j, hj, rfl⟩ := nI_of h1
      have h4 : j < vs.length := by
        have h5 := Int32.lt_iff_toInt_lt.mp (Int32.not_le.mp h3)
        rw [nI_toInt hj] at h5
        omega
      refine ev_br rfl rfl (fun h5 => ?_) (fun h5 => ?_)
      · have h6 : nI vs.length ≤ nI j := of_decide_eq_true h5
        rw [nI_leI hl hj] at h6
        omega
      · obtain ⟨z, hz⟩ := hv _ (List.getElem_mem h4)
        refine ev_it 1 (x' := (22, [(0, .ref a), (1, .int (nI j))], [.ref a], G)) rfl ?_
        refine ev_get rfl rfl hG rfl ?_
        refine ev_it 1 (x' := (26, [(0, .ref a), (1, .int (nI j))], [.int (nI j), .ref b], G)) rfl ?_
        refine ev_iald (v := .int z) rfl hb h1 (by rw [nI_clamp hj, List.getElem?_eq_getElem h4, hz]) ?_
        refine ev_it 1 (x' := (31, [(0, .ref a), (1, .int (nI j))], [.int z], G)) rfl ?_
        have e : vs.getD (nI j).toNatClampNeg .null = .int z := by rw [nI_clamp hj, List.getD_eq_getElem?_getD, List.getElem?_eq_getElem h4, hz]; rfl
        rw [if_pos ⟨Int32.not_lt.mp h1, Int32.not_le.mp h3⟩, e]
        exact ev_iret rfl rfl rfl
