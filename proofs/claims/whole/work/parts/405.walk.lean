section Sm109
variable {V : xmV} {L : List Nat} {Kc Ks : Nat} {Q : List xE}
theorem m109_ok {a1 : Int32} {a2 : Int32} {s : xSt} {q : Int32 × xSt} (h : m109 a1 a2 s = some q) : HC V L Kc Ks 109 [.ref 57, .int a1, .int a2] (hpC s, Q) (some (.int q.1)) (hpC q.2, Q) := by
  unfold m109 at h
  refine hc_of (by decide) rfl ?_
  refine h_it 3 (x' := (5, [(0, .ref 57), (1, .int a1), (2, .int a2)], [.int a1, .ref (pa (gZ s 5))], (hpC s, Q))) rfl ?_
  refine h_callO (As := [.int a1]) (r1 := some (.int (xsAt (gP s (gZ s 5) 0) a1))) (st := []) (H1 := (hpC s, Q)) rfl rfl rfl rfl rfl hp_pa (m54_ok (gZ s 5) a1 s) ?_
  refine h_it 2 (x' := (10, [(3, .int (xsAt (gP s (gZ s 5) 0) a1)), (0, .ref 57), (1, .int a1), (2, .int a2)], [.int (xsAt (gP s (gZ s 5) 0) a1)], (hpC s, Q))) rfl ?_
  by_cases h1 : (xsAt (gP s (gZ s 5) 0) a1) = 8 ∨ (xsAt (gP s (gZ s 5) 0) a1) = 9 ∨ (xsAt (gP s (gZ s 5) 0) a1) = 10 ∨ (xsAt (gP s (gZ s 5) 0) a1) = 16 ∨ (xsAt (gP s (gZ s 5) 0) a1) = 17
  · replace h := if_y h1 h
    refine h_ts (t := 130) rfl (by rcases h1 with e9 | e9 | e9 | e9 | e9 <;> rw [e9] <;> decide) ?_
    replace h := Option.some.inj h; subst h
    refine h_it 1 (x' := (131, [(3, .int (xsAt (gP s (gZ s 5) 0) a1)), (0, .ref 57), (1, .int a1), (2, .int a2)], [.int a2], (hpC s, Q))) rfl ?_
    exact h_iret rfl rfl
  replace h := if_n h1 h
  by_cases h2 : (xsAt (gP s (gZ s 5) 0) a1) = 11 ∨ (xsAt (gP s (gZ s 5) 0) a1) = 19
  · replace h := if_y h2 h
    refine h_ts (t := 109) rfl (by rcases h2 with e9 | e9 <;> rw [e9] <;> decide) ?_
    replace h := Option.some.inj h; subst h
    refine h_it 1 (x' := (111, [(3, .int (xsAt (gP s (gZ s 5) 0) a1)), (0, .ref 57), (1, .int a1), (2, .int a2)], [.int 21], (hpC s, Q))) rfl ?_
    exact h_iret rfl rfl
  replace h := if_n h2 h
  by_cases h3 : (xsAt (gP s (gZ s 5) 0) a1) = 12 ∨ (xsAt (gP s (gZ s 5) 0) a1) = 13 ∨ (xsAt (gP s (gZ s 5) 0) a1) = 18
  · replace h := if_y h3 h
    refine h_ts (t := 112) rfl (by rcases h3 with e9 | e9 | e9 <;> rw [e9] <;> decide) ?_
    refine h_it 5 (x' := (121, [(3, .int (xsAt (gP s (gZ s 5) 0) a1)), (0, .ref 57), (1, .int a1), (2, .int a2)], [.int a1, .ref (pa (gZ s 5)), .ref (pa (gZ s 5))], (hpC s, Q))) rfl ?_
    refine h_callO (As := [.int a1]) (r1 := some (.int (xsAt (gP s (gZ s 5) 2) a1))) (st := [.ref (pa (gZ s 5))]) (H1 := (hpC s, Q)) rfl rfl rfl rfl rfl hp_pa (m55_ok (gZ s 5) a1 s) ?_
    refine h_callO (As := [.int (xsAt (gP s (gZ s 5) 2) a1)]) (r1 := some (.int (xsAt (gP s (gZ s 5) 7) (xsAt (gP s (gZ s 5) 2) a1)))) (st := []) (H1 := (hpC s, Q)) rfl rfl rfl rfl rfl hp_pa (m66_ok (gZ s 5) (xsAt (gP s (gZ s 5) 2) a1) s) ?_
    replace h := Option.some.inj h; subst h
    exact h_iret rfl rfl
  replace h := if_n h3 h
  by_cases h4 : (xsAt (gP s (gZ s 5) 0) a1) = 14 ∨ (xsAt (gP s (gZ s 5) 0) a1) = 15
  · replace h := if_y h4 h
    refine h_ts (t := 128) rfl (by rcases h4 with e9 | e9 <;> rw [e9] <;> decide) ?_
    replace h := Option.some.inj h; subst h
    refine h_it 1 (x' := (129, [(3, .int (xsAt (gP s (gZ s 5) 0) a1)), (0, .ref 57), (1, .int a1), (2, .int a2)], [.int (xsAt (gP s (gZ s 5) 0) a1)], (hpC s, Q))) rfl ?_
    exact h_iret rfl rfl
  replace h := if_n h4 h
  by_cases h5 : (xsAt (gP s (gZ s 5) 0) a1) = 25
  · replace h := if_y h5 h
    refine h_ts (t := 96) rfl (by rw [h5]; decide) ?_
    refine h_it 4 (x' := (102, [(3, .int (xsAt (gP s (gZ s 5) 0) a1)), (0, .ref 57), (1, .int a1), (2, .int a2)], [.int a1, .ref (pa (gZ s 5)), .ref 57], (hpC s, Q))) rfl ?_
    refine h_callO (As := [.int a1]) (r1 := some (.int (xsAt (gP s (gZ s 5) 2) a1))) (st := [.ref 57]) (H1 := (hpC s, Q)) rfl rfl rfl rfl rfl hp_pa (m55_ok (gZ s 5) a1 s) ?_
    obtain ⟨q6, hq6, h⟩ := Option.bind_eq_some_iff.mp h
    refine h_callO (As := [.int (xsAt (gP s (gZ s 5) 2) a1)]) (r1 := some (.int q6.1)) (st := []) (H1 := (hpC q6.2, Q)) rfl rfl rfl rfl rfl rfl (m110_ok hq6) ?_
    replace h := Option.some.inj h; subst h
    exact h_iret rfl rfl
  replace h := if_n h5 h
  refine h_ts (t := 132) rfl (ts_d [8, 9, 10, 16, 17, 11, 19, 12, 13, 18, 14, 15, 25] rfl (by decide) (fun v hv => by
      simp only [List.mem_cons, List.not_mem_nil, or_false] at hv
      rcases hv with rfl | rfl | rfl | rfl | rfl | rfl | rfl | rfl | rfl | rfl | rfl | rfl | rfl
      · exact (fun e9 => h1 (Or.inl e9))
      · exact (fun e9 => h1 (Or.inr (Or.inl e9)))
      · exact (fun e9 => h1 (Or.inr (Or.inr (Or.inl e9))))
      · exact (fun e9 => h1 (Or.inr (Or.inr (Or.inr (Or.inl e9)))))
      · exact (fun e9 => h1 (Or.inr (Or.inr (Or.inr (Or.inr (e9))))))
      · exact (fun e9 => h2 (Or.inl e9))
      · exact (fun e9 => h2 (Or.inr (e9)))
      · exact (fun e9 => h3 (Or.inl e9))
      · exact (fun e9 => h3 (Or.inr (Or.inl e9)))
      · exact (fun e9 => h3 (Or.inr (Or.inr (e9))))
      · exact (fun e9 => h4 (Or.inl e9))
      · exact (fun e9 => h4 (Or.inr (e9)))
      · exact h5)) ?_
  replace h := Option.some.inj h; subst h
  refine h_it 1 (x' := (134, [(3, .int (xsAt (gP s (gZ s 5) 0) a1)), (0, .ref 57), (1, .int a1), (2, .int a2)], [.int 20], (hpC s, Q))) rfl ?_
  exact h_iret rfl rfl
end Sm109
section Sm112
variable {V : xmV} {L : List Nat} {Kc Ks : Nat} {Q : List xE}
theorem m112_ok {a1 : Int32} {s : xSt} {q : Int32 × xSt} (h : m112 a1 s = some q) : HC V L Kc Ks 112 [.ref 57, .int a1] (hpC s, Q) (some (.int q.1)) (hpC q.2, Q) := by
  unfold m112 at h
  refine hc_of (by decide) rfl ?_
  refine h_it 2 (x' := (2, [(0, .ref 57), (1, .int a1)], [.int 1, .int a1], (hpC s, Q))) rfl ?_
  refine h_br (b := decide (a1 ≤ 1)) (t := 15) (f := 5) (lv' := [(0, .ref 57), (1, .int a1)]) (st' := []) rfl rfl ?_
  by_cases h1 : a1 ≤ 1
  · replace h := if_y h1 h
    refine h_y h1 ?_
    replace h := Option.some.inj h; subst h
    refine h_it 1 (x' := (16, [(0, .ref 57), (1, .int a1)], [.int 0], (hpC s, Q))) rfl ?_
    exact h_iret rfl rfl
  · replace h := if_n h1 h
    refine h_n h1 ?_
    replace h := Option.some.inj h; subst h
    refine h_it 4 (x' := (16, [(0, .ref 57), (1, .int a1)], [.int (xsTop (gR s 6))], (hpC s, Q))) rfl ?_
    exact h_iret rfl rfl
end Sm112
section Sm111
variable {V : xmV} {L : List Nat} {Kc Ks : Nat} {Q : List xE}
theorem m111_ok {a1 : Int32} {a2 : Int32} {a3 : Int32} {s : xSt} {q : Int32 × xSt} (h : m111 a1 a2 a3 s = some q) : HC V L Kc Ks 111 [.ref 57, .int a1, .int a2, .int a3] (hpC s, Q) (some (.int q.1)) (hpC q.2, Q) := by
  unfold m111 at h
  refine hc_of (by decide) rfl ?_
  refine h_it 3 (x' := (5, [(0, .ref 57), (1, .int a1), (2, .int a2), (3, .int a3)], [.int a1, .ref (pa (gZ s 5))], (hpC s, Q))) rfl ?_
  refine h_callO (As := [.int a1]) (r1 := some (.int (xsAt (gP s (gZ s 5) 0) a1))) (st := []) (H1 := (hpC s, Q)) rfl rfl rfl rfl rfl hp_pa (m54_ok (gZ s 5) a1 s) ?_
  refine h_it 2 (x' := (12, [(4, .int (xsAt (gP s (gZ s 5) 0) a1)), (0, .ref 57), (1, .int a1), (2, .int a2), (3, .int a3)], [.int (xsAt (gP s (gZ s 5) 0) a1)], (hpC s, Q))) rfl ?_
  by_cases h1 : (xsAt (gP s (gZ s 5) 0) a1) = 8
  · replace h := if_y h1 h
    refine h_ts (t := 108) rfl (by rw [h1]; decide) ?_
    refine h_it 1 (x' := (109, [(4, .int (xsAt (gP s (gZ s 5) 0) a1)), (0, .ref 57), (1, .int a1), (2, .int a2), (3, .int a3)], [.int a2], (hpC s, Q))) rfl ?_
    refine h_br (b := decide (¬ a2 = 0)) (t := 117) (f := 112) (lv' := [(4, .int (xsAt (gP s (gZ s 5) 0) a1)), (0, .ref 57), (1, .int a1), (2, .int a2), (3, .int a3)]) (st' := []) rfl rfl ?_
    by_cases h2 : a2 = 0
    · replace h := if_y h2 h
      refine h_n (fun z => z h2) ?_
      replace h := Option.some.inj h; subst h
      refine h_it 2 (x' := (122, [(4, .int (xsAt (gP s (gZ s 5) 0) a1)), (0, .ref 57), (1, .int a1), (2, .int a2), (3, .int a3)], [.int 20], (hpC s, Q))) rfl ?_
      exact h_iret rfl rfl
    · replace h := if_n h2 h
      refine h_y h2 ?_
      refine h_it 2 (x' := (119, [(4, .int (xsAt (gP s (gZ s 5) 0) a1)), (0, .ref 57), (1, .int a1), (2, .int a2), (3, .int a3)], [.int a2, .ref 57], (hpC s, Q))) rfl ?_
      obtain ⟨q3, hq3, h⟩ := Option.bind_eq_some_iff.mp h
      refine h_callO (As := [.int a2]) (r1 := some (.int q3.1)) (st := []) (H1 := (hpC q3.2, Q)) rfl rfl rfl rfl rfl rfl (m112_ok hq3) ?_
      replace h := Option.some.inj h; subst h
      exact h_iret rfl rfl
  replace h := if_n h1 h
  by_cases h4 : (xsAt (gP s (gZ s 5) 0) a1) = 9
  · replace h := if_y h4 h
    refine h_ts (t := 138) rfl (by rw [h4]; decide) ?_
    replace h := Option.some.inj h; subst h
    refine h_it 1 (x' := (139, [(4, .int (xsAt (gP s (gZ s 5) 0) a1)), (0, .ref 57), (1, .int a1), (2, .int a2), (3, .int a3)], [.int 0], (hpC s, Q))) rfl ?_
    exact h_iret rfl rfl
  replace h := if_n h4 h
  by_cases h5 : (xsAt (gP s (gZ s 5) 0) a1) = 10
  · replace h := if_y h5 h
    refine h_ts (t := 123) rfl (by rw [h5]; decide) ?_
    refine h_it 1 (x' := (124, [(4, .int (xsAt (gP s (gZ s 5) 0) a1)), (0, .ref 57), (1, .int a1), (2, .int a2), (3, .int a3)], [.int a2], (hpC s, Q))) rfl ?_
    refine h_br (b := decide (¬ a2 = 0)) (t := 132) (f := 127) (lv' := [(4, .int (xsAt (gP s (gZ s 5) 0) a1)), (0, .ref 57), (1, .int a1), (2, .int a2), (3, .int a3)]) (st' := []) rfl rfl ?_
    by_cases h6 : a2 = 0
    · replace h := if_y h6 h
      refine h_n (fun z => z h6) ?_
      replace h := Option.some.inj h; subst h
      refine h_it 2 (x' := (137, [(4, .int (xsAt (gP s (gZ s 5) 0) a1)), (0, .ref 57), (1, .int a1), (2, .int a2), (3, .int a3)], [.int 21], (hpC s, Q))) rfl ?_
      exact h_iret rfl rfl
    · replace h := if_n h6 h
      refine h_y h6 ?_
      refine h_it 2 (x' := (134, [(4, .int (xsAt (gP s (gZ s 5) 0) a1)), (0, .ref 57), (1, .int a1), (2, .int a2), (3, .int a3)], [.int a2, .ref 57], (hpC s, Q))) rfl ?_
      obtain ⟨q7, hq7, h⟩ := Option.bind_eq_some_iff.mp h
      refine h_callO (As := [.int a2]) (r1 := some (.int q7.1)) (st := []) (H1 := (hpC q7.2, Q)) rfl rfl rfl rfl rfl rfl (m112_ok hq7) ?_
      replace h := Option.some.inj h; subst h
      exact h_iret rfl rfl
  replace h := if_n h5 h
  by_cases h8 : (xsAt (gP s (gZ s 5) 0) a1) = 11
  · replace h := if_y h8 h
    refine h_ts (t := 140) rfl (by rw [h8]; decide) ?_
    refine h_it 1 (x' := (141, [(4, .int (xsAt (gP s (gZ s 5) 0) a1)), (0, .ref 57), (1, .int a1), (2, .int a2), (3, .int a3)], [.int a2], (hpC s, Q))) rfl ?_
    refine h_br (b := decide (¬ a2 = 0)) (t := 149) (f := 144) (lv' := [(4, .int (xsAt (gP s (gZ s 5) 0) a1)), (0, .ref 57), (1, .int a1), (2, .int a2), (3, .int a3)]) (st' := []) rfl rfl ?_
    by_cases h9 : a2 = 0
    · replace h := if_y h9 h
      refine h_n (fun z => z h9) ?_
      replace h := Option.some.inj h; subst h
      refine h_it 2 (x' := (151, [(4, .int (xsAt (gP s (gZ s 5) 0) a1)), (0, .ref 57), (1, .int a1), (2, .int a2), (3, .int a3)], [.int 20], (hpC s, Q))) rfl ?_
      exact h_iret rfl rfl
    · replace h := if_n h9 h
      refine h_y h9 ?_
      replace h := Option.some.inj h; subst h
      refine h_it 1 (x' := (151, [(4, .int (xsAt (gP s (gZ s 5) 0) a1)), (0, .ref 57), (1, .int a1), (2, .int a2), (3, .int a3)], [.int 15], (hpC s, Q))) rfl ?_
      exact h_iret rfl rfl
  replace h := if_n h8 h
  by_cases h10 : (xsAt (gP s (gZ s 5) 0) a1) = 12 ∨ (xsAt (gP s (gZ s 5) 0) a1) = 13 ∨ (xsAt (gP s (gZ s 5) 0) a1) = 18
  · replace h := if_y h10 h
    refine h_ts (t := 152) rfl (by rcases h10 with e9 | e9 | e9 <;> rw [e9] <;> decide) ?_
    refine h_it 5 (x' := (161, [(4, .int (xsAt (gP s (gZ s 5) 0) a1)), (0, .ref 57), (1, .int a1), (2, .int a2), (3, .int a3)], [.int a1, .ref (pa (gZ s 5)), .ref (pa (gZ s 5))], (hpC s, Q))) rfl ?_
    refine h_callO (As := [.int a1]) (r1 := some (.int (xsAt (gP s (gZ s 5) 2) a1))) (st := [.ref (pa (gZ s 5))]) (H1 := (hpC s, Q)) rfl rfl rfl rfl rfl hp_pa (m55_ok (gZ s 5) a1 s) ?_
    refine h_it 1 (x' := (165, [(4, .int (xsAt (gP s (gZ s 5) 0) a1)), (0, .ref 57), (1, .int a1), (2, .int a2), (3, .int a3)], [.int a2, .int (xsAt (gP s (gZ s 5) 2) a1), .ref (pa (gZ s 5))], (hpC s, Q))) rfl ?_
    refine h_callO (As := [.int (xsAt (gP s (gZ s 5) 2) a1), .int a2]) (r1 := some (.int (xsAt (gP s (gZ s 5) 9) (((xsAt (gP s (gZ s 5) 2) a1) * 8) + a2)))) (st := []) (H1 := (hpC s, Q)) rfl rfl rfl rfl rfl hp_pa (m68_ok (gZ s 5) (xsAt (gP s (gZ s 5) 2) a1) a2 s) ?_
    replace h := Option.some.inj h; subst h
    exact h_iret rfl rfl
  replace h := if_n h10 h
  by_cases h11 : (xsAt (gP s (gZ s 5) 0) a1) = 15
  · replace h := if_y h11 h
    refine h_ts (t := 169) rfl (by rw [h11]; decide) ?_
    replace h := Option.some.inj h; subst h
    refine h_it 1 (x' := (171, [(4, .int (xsAt (gP s (gZ s 5) 0) a1)), (0, .ref 57), (1, .int a1), (2, .int a2), (3, .int a3)], [.int 21], (hpC s, Q))) rfl ?_
    exact h_iret rfl rfl
  replace h := if_n h11 h
  by_cases h12 : (xsAt (gP s (gZ s 5) 0) a1) = 16
  · replace h := if_y h12 h
    refine h_ts (t := 172) rfl (by rw [h12]; decide) ?_
    refine h_it 1 (x' := (173, [(4, .int (xsAt (gP s (gZ s 5) 0) a1)), (0, .ref 57), (1, .int a1), (2, .int a2), (3, .int a3)], [.int a2], (hpC s, Q))) rfl ?_
    refine h_br (b := decide (a2 ≤ 0)) (t := 180) (f := 176) (lv' := [(4, .int (xsAt (gP s (gZ s 5) 0) a1)), (0, .ref 57), (1, .int a1), (2, .int a2), (3, .int a3)]) (st' := []) rfl rfl ?_
    by_cases h13 : a2 ≤ 0
    · replace h := if_y h13 h
      refine h_y h13 ?_
      refine h_it 2 (x' := (183, [(4, .int (xsAt (gP s (gZ s 5) 0) a1)), (0, .ref 57), (1, .int a1), (2, .int a2), (3, .int a3)], [.int 14, .int a3], (hpC s, Q))) rfl ?_
      refine h_br (b := decide (¬ a3 = 14)) (t := 191) (f := 186) (lv' := [(4, .int (xsAt (gP s (gZ s 5) 0) a1)), (0, .ref 57), (1, .int a1), (2, .int a2), (3, .int a3)]) (st' := []) rfl rfl ?_
      by_cases h14 : a3 = 14
      · replace h := if_y h14 h
        refine h_n (fun z => z h14) ?_
        replace h := Option.some.inj h; subst h
        refine h_it 2 (x' := (193, [(4, .int (xsAt (gP s (gZ s 5) 0) a1)), (0, .ref 57), (1, .int a1), (2, .int a2), (3, .int a3)], [.int 14], (hpC s, Q))) rfl ?_
        exact h_iret rfl rfl
      · replace h := if_n h14 h
        refine h_y h14 ?_
        replace h := Option.some.inj h; subst h
        refine h_it 1 (x' := (193, [(4, .int (xsAt (gP s (gZ s 5) 0) a1)), (0, .ref 57), (1, .int a1), (2, .int a2), (3, .int a3)], [.int 15], (hpC s, Q))) rfl ?_
        exact h_iret rfl rfl
    · replace h := if_n h13 h
      refine h_n h13 ?_
      replace h := Option.some.inj h; subst h
      refine h_it 2 (x' := (193, [(4, .int (xsAt (gP s (gZ s 5) 0) a1)), (0, .ref 57), (1, .int a1), (2, .int a2), (3, .int a3)], [.int 0], (hpC s, Q))) rfl ?_
      exact h_iret rfl rfl
  replace h := if_n h12 h
  by_cases h15 : (xsAt (gP s (gZ s 5) 0) a1) = 17
  · replace h := if_y h15 h
    refine h_ts (t := 194) rfl (by rw [h15]; decide) ?_
    refine h_it 2 (x' := (197, [(4, .int (xsAt (gP s (gZ s 5) 0) a1)), (0, .ref 57), (1, .int a1), (2, .int a2), (3, .int a3)], [.int 20, .int a3], (hpC s, Q))) rfl ?_
    refine h_br (b := decide (¬ a3 = 20)) (t := 205) (f := 200) (lv' := [(4, .int (xsAt (gP s (gZ s 5) 0) a1)), (0, .ref 57), (1, .int a1), (2, .int a2), (3, .int a3)]) (st' := []) rfl rfl ?_
    by_cases h16 : a3 = 20
    · replace h := if_y h16 h
      refine h_n (fun z => z h16) ?_
      replace h := Option.some.inj h; subst h
      refine h_it 2 (x' := (207, [(4, .int (xsAt (gP s (gZ s 5) 0) a1)), (0, .ref 57), (1, .int a1), (2, .int a2), (3, .int a3)], [.int 20], (hpC s, Q))) rfl ?_
      exact h_iret rfl rfl
    · replace h := if_n h16 h
      refine h_y h16 ?_
      replace h := Option.some.inj h; subst h
      refine h_it 1 (x' := (207, [(4, .int (xsAt (gP s (gZ s 5) 0) a1)), (0, .ref 57), (1, .int a1), (2, .int a2), (3, .int a3)], [.int 21], (hpC s, Q))) rfl ?_
      exact h_iret rfl rfl
  replace h := if_n h15 h
  by_cases h17 : (xsAt (gP s (gZ s 5) 0) a1) = 22 ∨ (xsAt (gP s (gZ s 5) 0) a1) = 23
  · replace h := if_y h17 h
    refine h_ts (t := 92) rfl (by rcases h17 with e9 | e9 <;> rw [e9] <;> decide) ?_
    refine h_it 5 (x' := (101, [(4, .int (xsAt (gP s (gZ s 5) 0) a1)), (0, .ref 57), (1, .int a1), (2, .int a2), (3, .int a3)], [.int a1, .ref (pa (gZ s 5)), .ref (pa (gZ s 5))], (hpC s, Q))) rfl ?_
    refine h_callO (As := [.int a1]) (r1 := some (.int (xsAt (gP s (gZ s 5) 2) a1))) (st := [.ref (pa (gZ s 5))]) (H1 := (hpC s, Q)) rfl rfl rfl rfl rfl hp_pa (m55_ok (gZ s 5) a1 s) ?_
    refine h_callO (As := [.int (xsAt (gP s (gZ s 5) 2) a1)]) (r1 := some (.int (xsAt (gP s (gZ s 5) 7) (xsAt (gP s (gZ s 5) 2) a1)))) (st := []) (H1 := (hpC s, Q)) rfl rfl rfl rfl rfl hp_pa (m66_ok (gZ s 5) (xsAt (gP s (gZ s 5) 2) a1) s) ?_
    replace h := Option.some.inj h; subst h
    exact h_iret rfl rfl
  replace h := if_n h17 h
  refine h_ts (t := 208) rfl (ts_d [8, 9, 10, 11, 12, 13, 18, 15, 16, 17, 22, 23] rfl (by decide) (fun v hv => by
      simp only [List.mem_cons, List.not_mem_nil, or_false] at hv
      rcases hv with rfl | rfl | rfl | rfl | rfl | rfl | rfl | rfl | rfl | rfl | rfl | rfl
      · exact h1
      · exact h4
      · exact h5
      · exact h8
      · exact (fun e9 => h10 (Or.inl e9))
      · exact (fun e9 => h10 (Or.inr (Or.inl e9)))
      · exact (fun e9 => h10 (Or.inr (Or.inr (e9))))
      · exact h11
      · exact h12
      · exact h15
      · exact (fun e9 => h17 (Or.inl e9))
      · exact (fun e9 => h17 (Or.inr (e9))))) ?_
  replace h := Option.some.inj h; subst h
  refine h_it 1 (x' := (210, [(4, .int (xsAt (gP s (gZ s 5) 0) a1)), (0, .ref 57), (1, .int a1), (2, .int a2), (3, .int a3)], [.int 20], (hpC s, Q))) rfl ?_
  exact h_iret rfl rfl
end Sm111
section Sm113
variable {V : xmV} {L : List Nat} {Kc Ks : Nat} {Q : List xE}
theorem m113_68_ok   {y0 : Int32} {y1 : Int32} {s : xSt} {q : xSt} (h : m113_68  y0 y1 s = some q) : HE V L Kc Ks 113 (68, [], [.int y0, .int y1, .ref 57], (hpC s, Q)) (none) (hpC q, Q) := by
  unfold m113_68 at h
  obtain ⟨q7, hq7, h⟩ := Option.bind_eq_some_iff.mp h
  refine h_callO (As := [.int y1, .int y0]) (r1 := none) (st := []) (H1 := (hpC q7, Q)) rfl rfl rfl rfl rfl rfl (m106_ok hq7) ?_
  replace h := Option.some.inj h; subst h
  refine h_it 1 (x' := (104, [], [], (hpC q7, Q))) rfl ?_
  exact h_vret rfl rfl
theorem m113_74_ok   {x2 : Int32} {x4 : Int32} {x5 : Int32} {s : xSt} {q : xSt} (h : m113_74  x2 x4 x5 s = some q) : HE V L Kc Ks 113 (74, [(0, .ref 57), (2, .int x2), (4, .int x4), (5, .int x5)], [], (hpC s, Q)) (none) (hpC q, Q) := by
  unfold m113_74 at h
  refine h_it 2 (x' := (78, [(0, .ref 57), (2, .int x2), (4, .int x4), (5, .int x5)], [.int 10, .int x4], (hpC s, Q))) rfl ?_
  refine h_br (b := decide (¬ x4 = 10)) (t := 104) (f := 81) (lv' := [(0, .ref 57), (2, .int x2), (4, .int x4), (5, .int x5)]) (st' := []) rfl rfl ?_
  by_cases h8 : x4 = 10
  · replace h := if_y h8 h
    refine h_n (fun z => z h8) ?_
    refine h_it 2 (x' := (83, [(0, .ref 57), (2, .int x2), (4, .int x4), (5, .int x5)], [.int 1, .int x2], (hpC s, Q))) rfl ?_
    refine h_br (b := decide (¬ x2 = 1)) (t := 104) (f := 86) (lv' := [(0, .ref 57), (2, .int x2), (4, .int x4), (5, .int x5)]) (st' := []) rfl rfl ?_
    by_cases h9 : x2 = 1
    · replace h := if_y h9 h
      refine h_n (fun z => z h9) ?_
      refine h_it 3 (x' := (91, [(0, .ref 57), (2, .int x2), (4, .int x4), (5, .int x5)], [.int 20, .int x5, .ref 57], (hpC s, Q))) rfl ?_
      obtain ⟨q10, hq10, h⟩ := Option.bind_eq_some_iff.mp h
      refine h_callO (As := [.int x5, .int 20]) (r1 := none) (st := []) (H1 := (hpC q10, Q)) rfl rfl rfl rfl rfl rfl (m106_ok hq10) ?_
      refine h_it 5 (x' := (101, [(0, .ref 57), (2, .int x2), (4, .int x4), (5, .int x5)], [.int 15, .int (x5 + 1), .ref 57], (hpC q10, Q))) rfl ?_
      obtain ⟨q11, hq11, h⟩ := Option.bind_eq_some_iff.mp h
      refine h_callO (As := [.int (x5 + 1), .int 15]) (r1 := none) (st := []) (H1 := (hpC q11, Q)) rfl rfl rfl rfl rfl rfl (m106_ok hq11) ?_
      replace h := Option.some.inj h; subst h
      exact h_vret rfl rfl
    · replace h := if_n h9 h
      refine h_y h9 ?_
      replace h := Option.some.inj h; subst h
      exact h_vret rfl rfl
  · replace h := if_n h8 h
    refine h_y h8 ?_
    replace h := Option.some.inj h; subst h
    exact h_vret rfl rfl
theorem m113_41_ok   {x2 : Int32} {x3 : Int32} {x4 : Int32} {x5 : Int32} {s : xSt} {q : xSt} (h : m113_41  x2 x3 x4 x5 s = some q) : HE V L Kc Ks 113 (41, [(0, .ref 57), (2, .int x2), (3, .int x3), (4, .int x4), (5, .int x5)], [], (hpC s, Q)) (none) (hpC q, Q) := by
  unfold m113_41 at h
  refine h_it 2 (x' := (45, [(0, .ref 57), (2, .int x2), (3, .int x3), (4, .int x4), (5, .int x5)], [.int 16, .int x4], (hpC s, Q))) rfl ?_
  refine h_br (b := decide (¬ x4 = 16)) (t := 74) (f := 48) (lv' := [(0, .ref 57), (2, .int x2), (3, .int x3), (4, .int x4), (5, .int x5)]) (st' := []) rfl rfl ?_
  by_cases h4 : x4 = 16
  · replace h := if_y h4 h
    refine h_n (fun z => z h4) ?_
    refine h_it 1 (x' := (49, [(0, .ref 57), (2, .int x2), (3, .int x3), (4, .int x4), (5, .int x5)], [.int x2], (hpC s, Q))) rfl ?_
    refine h_br (b := decide (¬ x2 = 0)) (t := 74) (f := 52) (lv' := [(0, .ref 57), (2, .int x2), (3, .int x3), (4, .int x4), (5, .int x5)]) (st' := []) rfl rfl ?_
    by_cases h5 : x2 = 0
    · replace h := if_y h5 h
      refine h_n (fun z => z h5) ?_
      refine h_it 4 (x' := (58, [(0, .ref 57), (2, .int x2), (3, .int x3), (4, .int x4), (5, .int x5)], [.int 14, .int x3, .int x5, .ref 57], (hpC s, Q))) rfl ?_
      refine h_br (b := decide (¬ x3 = 14)) (t := 66) (f := 61) (lv' := [(0, .ref 57), (2, .int x2), (3, .int x3), (4, .int x4), (5, .int x5)]) (st' := [.int x5, .ref 57]) rfl rfl ?_
      by_cases h6 : x3 = 14
      · replace h := if_y h6 h
        refine h_n (fun z => z h6) ?_
        refine h_it 2 (x' := (68, [(0, .ref 57), (2, .int x2), (3, .int x3), (4, .int x4), (5, .int x5)], [.int 20, .int x5, .ref 57], (hpC s, Q))) rfl ?_
        refine h_lw (lv := []) (fa_n) rfl ?_
        exact m113_68_ok  h
      · replace h := if_n h6 h
        refine h_y h6 ?_
        refine h_it 1 (x' := (68, [(0, .ref 57), (2, .int x2), (3, .int x3), (4, .int x4), (5, .int x5)], [.int 21, .int x5, .ref 57], (hpC s, Q))) rfl ?_
        refine h_lw (lv := []) (fa_n) rfl ?_
        exact m113_68_ok  h
    · replace h := if_n h5 h
      refine h_y h5 ?_
      refine h_lw (lv := [(0, .ref 57), (2, .int x2), (4, .int x4), (5, .int x5)]) (fa_c rfl (fa_c rfl (fa_c rfl (fa_c rfl (fa_n))))) rfl ?_
      exact m113_74_ok  h
  · replace h := if_n h4 h
    refine h_y h4 ?_
    refine h_lw (lv := [(0, .ref 57), (2, .int x2), (4, .int x4), (5, .int x5)]) (fa_c rfl (fa_c rfl (fa_c rfl (fa_c rfl (fa_n))))) rfl ?_
    exact m113_74_ok  h
theorem m113_ok {a1 : Int32} {a2 : Int32} {a3 : Int32} {s : xSt} {q : xSt} (h : m113 a1 a2 a3 s = some q) : HC V L Kc Ks 113 [.ref 57, .int a1, .int a2, .int a3] (hpC s, Q) (none) (hpC q, Q) := by
  unfold m113 at h
  refine hc_of (by decide) rfl ?_
  refine h_it 3 (x' := (5, [(0, .ref 57), (1, .int a1), (2, .int a2), (3, .int a3)], [.int a1, .ref (pa (gZ s 5))], (hpC s, Q))) rfl ?_
  refine h_callO (As := [.int a1]) (r1 := some (.int (xsAt (gP s (gZ s 5) 0) a1))) (st := []) (H1 := (hpC s, Q)) rfl rfl rfl rfl rfl hp_pa (m54_ok (gZ s 5) a1 s) ?_
  refine h_it 4 (x' := (15, [(4, .int (xsAt (gP s (gZ s 5) 0) a1)), (0, .ref 57), (1, .int a1), (2, .int a2), (3, .int a3)], [.int a1, .ref (pa (gZ s 5))], (hpC s, Q))) rfl ?_
  refine h_callO (As := [.int a1]) (r1 := some (.int (xsAt (gP s (gZ s 5) 3) a1))) (st := []) (H1 := (hpC s, Q)) rfl rfl rfl rfl rfl hp_pa (m73_ok (gZ s 5) a1 s) ?_
  refine h_it 3 (x' := (24, [(5, .int (xsAt (gP s (gZ s 5) 3) a1)), (4, .int (xsAt (gP s (gZ s 5) 0) a1)), (0, .ref 57), (1, .int a1), (2, .int a2), (3, .int a3)], [.int 9, .int (xsAt (gP s (gZ s 5) 0) a1)], (hpC s, Q))) rfl ?_
  refine h_br (b := decide (¬ (xsAt (gP s (gZ s 5) 0) a1) = 9)) (t := 41) (f := 27) (lv' := [(5, .int (xsAt (gP s (gZ s 5) 3) a1)), (4, .int (xsAt (gP s (gZ s 5) 0) a1)), (0, .ref 57), (1, .int a1), (2, .int a2), (3, .int a3)]) (st' := []) rfl rfl ?_
  by_cases h1 : (xsAt (gP s (gZ s 5) 0) a1) = 9
  · replace h := if_y h1 h
    refine h_n (fun z => z h1) ?_
    refine h_it 1 (x' := (28, [(5, .int (xsAt (gP s (gZ s 5) 3) a1)), (4, .int (xsAt (gP s (gZ s 5) 0) a1)), (0, .ref 57), (1, .int a1), (2, .int a2), (3, .int a3)], [.int a2], (hpC s, Q))) rfl ?_
    refine h_br (b := decide (¬ a2 = 0)) (t := 41) (f := 31) (lv' := [(5, .int (xsAt (gP s (gZ s 5) 3) a1)), (4, .int (xsAt (gP s (gZ s 5) 0) a1)), (0, .ref 57), (1, .int a1), (2, .int a2), (3, .int a3)]) (st' := []) rfl rfl ?_
    by_cases h2 : a2 = 0
    · replace h := if_y h2 h
      refine h_n (fun z => z h2) ?_
      refine h_it 3 (x' := (35, [(5, .int (xsAt (gP s (gZ s 5) 3) a1)), (4, .int (xsAt (gP s (gZ s 5) 0) a1)), (0, .ref 57), (1, .int a1), (2, .int a2), (3, .int a3)], [.int a3, .int (xsAt (gP s (gZ s 5) 3) a1), .ref 57], (hpC s, Q))) rfl ?_
      obtain ⟨q3, hq3, h⟩ := Option.bind_eq_some_iff.mp h
      refine h_callO (As := [.int (xsAt (gP s (gZ s 5) 3) a1), .int a3]) (r1 := none) (st := []) (H1 := (hpC q3, Q)) rfl rfl rfl rfl rfl rfl (m106_ok hq3) ?_
      replace h := Option.some.inj h; subst h
      refine h_it 1 (x' := (104, [(5, .int (xsAt (gP s (gZ s 5) 3) a1)), (4, .int (xsAt (gP s (gZ s 5) 0) a1)), (0, .ref 57), (1, .int a1), (2, .int a2), (3, .int a3)], [], (hpC q3, Q))) rfl ?_
      exact h_vret rfl rfl
    · replace h := if_n h2 h
      refine h_y h2 ?_
      refine h_lw (lv := [(0, .ref 57), (2, .int a2), (3, .int a3), (4, .int (xsAt (gP s (gZ s 5) 0) a1)), (5, .int (xsAt (gP s (gZ s 5) 3) a1))]) (fa_c rfl (fa_c rfl (fa_c rfl (fa_c rfl (fa_c rfl (fa_n)))))) rfl ?_
      exact m113_41_ok  h
  · replace h := if_n h1 h
    refine h_y h1 ?_
    refine h_lw (lv := [(0, .ref 57), (2, .int a2), (3, .int a3), (4, .int (xsAt (gP s (gZ s 5) 0) a1)), (5, .int (xsAt (gP s (gZ s 5) 3) a1))]) (fa_c rfl (fa_c rfl (fa_c rfl (fa_c rfl (fa_c rfl (fa_n)))))) rfl ?_
    exact m113_41_ok  h
end Sm113
section Sm108
variable {V : xmV} {L : List Nat} {Kc Ks : Nat} {Q : List xE}
theorem m108_96_ok   {x2 : Int32} {x3 : Int32} {x4 : Int32} {s : xSt} {q : xSt} (h : m108_96  x2 x3 x4 s = some q) : HE V L Kc Ks 108 (96, [(0, .ref 57), (2, .int x2), (3, .int x3), (4, .int x4)], [], (hpC s, Q)) (none) (hpC q, Q) := by
  unfold m108_96 at h
  refine h_it 4 (x' := (101, [(0, .ref 57), (2, .int x2), (3, .int x3), (4, .int x4)], [.int x2, .int x4, .int x3, .ref 57], (hpC s, Q))) rfl ?_
  obtain ⟨q5, hq5, h⟩ := Option.bind_eq_some_iff.mp h
  refine h_callO (As := [.int x3, .int x4, .int x2]) (r1 := none) (st := []) (H1 := (hpC q5, Q)) rfl rfl rfl rfl rfl rfl (m113_ok hq5) ?_
  replace h := Option.some.inj h; subst h
  refine h_it 10 (x' := (123, [(0, .ref 57), (2, .int x2), (3, .int x3), (4, .int x4)], [], (hpC (sR (sR q5 5 (xsSetTop (gR q5 5) (x4 + 1))) 6 (xsSetTop (gR q5 6) x2)), Q))) rfl ?_
  exact h_vret rfl rfl
theorem m108_ok  {s : xSt} {q : xSt} (h : m108  s = some q) : HC V L Kc Ks 108 [.ref 57] (hpC s, Q) (none) (hpC q, Q) := by
  unfold m108 at h
  refine hc_of (by decide) rfl ?_
  refine h_it 13 (x' := (25, [(1, .int (xsTop (gR s 4))), (0, .ref 57)], [.int (xsTop (gR s 6)), .int (xsTop (gR s 4)), .ref 57], (hpC (sR (sR (sR s 4 ((gR s 4)).dropLast) 5 ((gR s 5)).dropLast) 6 ((gR s 6)).dropLast), Q))) rfl ?_
  obtain ⟨q1, hq1, h⟩ := Option.bind_eq_some_iff.mp h
  refine h_callO (As := [.int (xsTop (gR s 4)), .int (xsTop (gR s 6))]) (r1 := some (.int q1.1)) (st := []) (H1 := (hpC q1.2, Q)) rfl rfl rfl rfl rfl rfl (m109_ok hq1) ?_
  refine h_it 4 (x' := (36, [(2, .int q1.1), (1, .int (xsTop (gR s 4))), (0, .ref 57)], [.int (nI ((gR q1.2 4)).length)], (hpC q1.2, Q))) rfl ?_
  refine h_br (b := decide (¬ (nI ((gR q1.2 4)).length) = 0)) (t := 40) (f := 39) (lv' := [(2, .int q1.1), (1, .int (xsTop (gR s 4))), (0, .ref 57)]) (st' := []) rfl rfl ?_
  by_cases h2 : (nI ((gR q1.2 4)).length) = 0
  · replace h := if_y h2 h
    refine h_n (fun z => z h2) ?_
    replace h := Option.some.inj h; subst h
    exact h_vret rfl rfl
  · replace h := if_n h2 h
    refine h_y h2 ?_
    refine h_it 12 (x' := (62, [(4, .int (xsTop (gR q1.2 5))), (3, .int (xsTop (gR q1.2 4))), (2, .int q1.1), (1, .int (xsTop (gR s 4))), (0, .ref 57)], [.int q1.1, .int (xsTop (gR q1.2 5)), .int (xsTop (gR q1.2 4)), .ref 57], (hpC q1.2, Q))) rfl ?_
    obtain ⟨q3, hq3, h⟩ := Option.bind_eq_some_iff.mp h
    refine h_callO (As := [.int (xsTop (gR q1.2 4)), .int (xsTop (gR q1.2 5)), .int q1.1]) (r1 := some (.int q3.1)) (st := []) (H1 := (hpC q3.2, Q)) rfl rfl rfl rfl rfl rfl (m111_ok hq3) ?_
    refine h_it 2 (x' := (69, [(5, .int q3.1), (4, .int (xsTop (gR q1.2 5))), (3, .int (xsTop (gR q1.2 4))), (2, .int q1.1), (1, .int (xsTop (gR s 4))), (0, .ref 57)], [.int q3.1], (hpC q3.2, Q))) rfl ?_
    refine h_br (b := decide (q3.1 = 0)) (t := 96) (f := 72) (lv' := [(5, .int q3.1), (4, .int (xsTop (gR q1.2 5))), (3, .int (xsTop (gR q1.2 4))), (2, .int q1.1), (1, .int (xsTop (gR s 4))), (0, .ref 57)]) (st' := []) rfl rfl ?_
    by_cases h4 : q3.1 = 0
    · replace h := if_y h4 h
      refine h_y h4 ?_
      refine h_lw (lv := [(0, .ref 57), (2, .int q1.1), (3, .int (xsTop (gR q1.2 4))), (4, .int (xsTop (gR q1.2 5)))]) (fa_c rfl (fa_c rfl (fa_c rfl (fa_c rfl (fa_n))))) rfl ?_
      exact m108_96_ok  h
    · replace h := if_n h4 h
      refine h_n h4 ?_
      refine h_it 2 (x' := (75, [(5, .int q3.1), (4, .int (xsTop (gR q1.2 5))), (3, .int (xsTop (gR q1.2 4))), (2, .int q1.1), (1, .int (xsTop (gR s 4))), (0, .ref 57)], [.int q1.1, .int q3.1], (hpC q3.2, Q))) rfl ?_
      refine h_br (b := decide (q3.1 = q1.1)) (t := 96) (f := 78) (lv' := [(5, .int q3.1), (4, .int (xsTop (gR q1.2 5))), (3, .int (xsTop (gR q1.2 4))), (2, .int q1.1), (1, .int (xsTop (gR s 4))), (0, .ref 57)]) (st' := []) rfl rfl ?_
      by_cases h6 : q3.1 = q1.1
      · replace h := if_y h6 h
        refine h_y h6 ?_
        refine h_lw (lv := [(0, .ref 57), (2, .int q1.1), (3, .int (xsTop (gR q1.2 4))), (4, .int (xsTop (gR q1.2 5)))]) (fa_c rfl (fa_c rfl (fa_c rfl (fa_c rfl (fa_n))))) rfl ?_
        exact m108_96_ok  h
      · replace h := if_n h6 h
        refine h_n h6 ?_
        refine h_it 6 (x' := (89, [(5, .int q3.1), (4, .int (xsTop (gR q1.2 5))), (3, .int (xsTop (gR q1.2 4))), (2, .int q1.1), (1, .int (xsTop (gR s 4))), (0, .ref 57)], [.int (xsTop (gR s 4)), .ref (pa (gZ q3.2 5)), .int 6, .ref 47], (hpC q3.2, Q))) rfl ?_
        refine h_callO (As := [.int (xsTop (gR s 4))]) (r1 := some (.int (xsAt (gP q3.2 (gZ q3.2 5) 1) (xsTop (gR s 4))))) (st := [.int 6, .ref 47]) (H1 := (hpC q3.2, Q)) rfl rfl rfl rfl rfl hp_pa (m71_ok (gZ q3.2 5) (xsTop (gR s 4)) q3.2) ?_
        obtain ⟨q7, hq7, h⟩ := Option.bind_eq_some_iff.mp h
        refine h_callO (As := [.int 6, .int (xsAt (gP q3.2 (gZ q3.2 5) 1) (xsTop (gR s 4)))]) (r1 := none) (st := []) (H1 := (hpC q7, Q)) rfl rfl rfl rfl rfl rfl (m14_ok hq7) ?_
        replace h := Option.some.inj h; subst h
        exact h_vret rfl rfl
end Sm108
section Sm100
variable {V : xmV} {L : List Nat} {Kc Ks : Nat} {Q : List xE}
theorem m100_69_ok {K35 : Int32 → xSt → Option (xSt)} (hK35 : ∀ (x2 : Int32) (s : xSt) (q : xSt), K35 x2 s = some q → HE V L Kc Ks 100 (35, [(0, .ref 57), (2, .int x2)], [], (hpC s, Q)) (none) (hpC q, Q)) : ∀ (n : Nat) (x2 : Int32) (x3 : Int32) (s : xSt) (q : xSt), m100_69 K35 n x2 x3 s = some q → HE V L Kc Ks 100 (69, [(0, .ref 57), (2, .int x2), (3, .int x3)], [], (hpC s, Q)) (none) (hpC q, Q) := by
  intro n
  induction n with
  | zero => intro x2 x3 s q h; cases h
  | succ n ih =>
    intro x2 x3 s q h
    unfold m100_69 at h
    refine h_it 1 (x' := (70, [(0, .ref 57), (2, .int x2), (3, .int x3)], [.int x3], (hpC s, Q))) rfl ?_
    refine h_br (b := decide (x3 ≤ 0)) (t := 101) (f := 73) (lv' := [(0, .ref 57), (2, .int x2), (3, .int x3)]) (st' := []) rfl rfl ?_
    by_cases h6 : x3 ≤ 0
    · replace h := if_y h6 h
      refine h_y h6 ?_
      refine h_it 2 (x' := (35, [(2, .int (x2 + 1)), (0, .ref 57), (3, .int x3)], [], (hpC s, Q))) rfl ?_
      refine h_lw (lv := [(0, .ref 57), (2, .int (x2 + 1))]) (fa_c rfl (fa_c rfl (fa_n))) rfl ?_
      exact hK35 (x2 + 1) s _ h
    · replace h := if_n h6 h
      refine h_n h6 ?_
      refine h_it 2 (x' := (75, [(0, .ref 57), (2, .int x2), (3, .int x3)], [.int x2, .ref 57], (hpC s, Q))) rfl ?_
      obtain ⟨q7, hq7, h⟩ := Option.bind_eq_some_iff.mp h
      refine h_callO (As := [.int x2]) (r1 := some (.int (b01 q7.1))) (st := []) (H1 := (hpC q7.2, Q)) rfl rfl rfl rfl rfl rfl (m107_ok hq7) ?_
      refine h_br (b := decide ((b01 q7.1) = 0)) (t := 101) (f := 81) (lv' := [(0, .ref 57), (2, .int x2), (3, .int x3)]) (st' := []) rfl rfl ?_
      by_cases h8 : q7.1 = true
      · replace h := if_y h8 h
        refine h_n (b01_1 h8) ?_
        refine h_it 2 (x' := (85, [(0, .ref 57), (2, .int x2), (3, .int x3)], [.ref 47], (hpC q7.2, Q))) rfl ?_
        obtain ⟨q9, hq9, h⟩ := Option.bind_eq_some_iff.mp h
        refine h_callO (As := []) (r1 := some (.int (b01 q9.1))) (st := []) (H1 := (hpC q9.2, Q)) rfl rfl rfl rfl rfl rfl (m13_ok hq9) ?_
        refine h_br (b := decide (¬ (b01 q9.1) = 0)) (t := 101) (f := 91) (lv' := [(0, .ref 57), (2, .int x2), (3, .int x3)]) (st' := []) rfl rfl ?_
        by_cases h10 : q9.1 = true
        · replace h := if_y h10 h
          refine h_y (b01_1 h10) ?_
          refine h_it 2 (x' := (35, [(2, .int (x2 + 1)), (0, .ref 57), (3, .int x3)], [], (hpC q9.2, Q))) rfl ?_
          refine h_lw (lv := [(0, .ref 57), (2, .int (x2 + 1))]) (fa_c rfl (fa_c rfl (fa_n))) rfl ?_
          exact hK35 (x2 + 1) q9.2 _ h
        · replace h := if_n h10 h
          refine h_n (fun z => z (b01_0 h10)) ?_
          refine h_it 1 (x' := (92, [(0, .ref 57), (2, .int x2), (3, .int x3)], [.ref 57], (hpC q9.2, Q))) rfl ?_
          obtain ⟨q11, hq11, h⟩ := Option.bind_eq_some_iff.mp h
          refine h_callO (As := []) (r1 := none) (st := []) (H1 := (hpC q11, Q)) rfl rfl rfl rfl rfl rfl (m108_ok hq11) ?_
          refine h_it 2 (x' := (69, [(3, .int (x3 + (-1))), (0, .ref 57), (2, .int x2)], [], (hpC q11, Q))) rfl ?_
          refine h_lw (lv := [(0, .ref 57), (2, .int x2), (3, .int (x3 + (-1)))]) (fa_c rfl (fa_c rfl (fa_c rfl (fa_n)))) rfl ?_
          exact ih x2 (x3 + (-1)) q11 _ h
      · replace h := if_n h8 h
        refine h_y (b01_0 h8) ?_
        refine h_it 2 (x' := (35, [(2, .int (x2 + 1)), (0, .ref 57), (3, .int x3)], [], (hpC q7.2, Q))) rfl ?_
        refine h_lw (lv := [(0, .ref 57), (2, .int (x2 + 1))]) (fa_c rfl (fa_c rfl (fa_n))) rfl ?_
        exact hK35 (x2 + 1) q7.2 _ h
theorem m100_35_ok   : ∀ (n : Nat) (x2 : Int32) (s : xSt) (q : xSt), m100_35  n x2 s = some q → HE V L Kc Ks 100 (35, [(0, .ref 57), (2, .int x2)], [], (hpC s, Q)) (none) (hpC q, Q) := by
  intro n
  induction n with
  | zero => intro x2 s q h; cases h
  | succ n ih =>
    intro x2 s q h
    unfold m100_35 at h
    refine h_it 3 (x' := (40, [(0, .ref 57), (2, .int x2)], [.ref (pa (gZ s 5)), .int x2], (hpC s, Q))) rfl ?_
    refine h_callO (As := []) (r1 := some (.int (nI ((gP s (gZ s 5) 0)).length))) (st := [.int x2]) (H1 := (hpC s, Q)) rfl rfl rfl rfl rfl hp_pa (m70_ok (gZ s 5) s) ?_
    refine h_br (b := decide ((nI ((gP s (gZ s 5) 0)).length) ≤ x2)) (t := 107) (f := 46) (lv' := [(0, .ref 57), (2, .int x2)]) (st' := []) rfl rfl ?_
    by_cases h2 : (nI ((gP s (gZ s 5) 0)).length) ≤ x2
    · replace h := if_y h2 h
      refine h_y h2 ?_
      replace h := Option.some.inj h; subst h
      exact h_vret rfl rfl
    · replace h := if_n h2 h
      refine h_n h2 ?_
      refine h_it 2 (x' := (50, [(0, .ref 57), (2, .int x2)], [.ref 47], (hpC s, Q))) rfl ?_
      obtain ⟨q3, hq3, h⟩ := Option.bind_eq_some_iff.mp h
      refine h_callO (As := []) (r1 := some (.int (b01 q3.1))) (st := []) (H1 := (hpC q3.2, Q)) rfl rfl rfl rfl rfl rfl (m13_ok hq3) ?_
      refine h_br (b := decide (¬ (b01 q3.1) = 0)) (t := 107) (f := 56) (lv' := [(0, .ref 57), (2, .int x2)]) (st' := []) rfl rfl ?_
      by_cases h4 : q3.1 = true
      · replace h := if_y h4 h
        refine h_y (b01_1 h4) ?_
        replace h := Option.some.inj h; subst h
        exact h_vret rfl rfl
      · replace h := if_n h4 h
        refine h_n (fun z => z (b01_0 h4)) ?_
        refine h_it 2 (x' := (58, [(0, .ref 57), (2, .int x2)], [.int x2, .ref 57], (hpC q3.2, Q))) rfl ?_
        obtain ⟨q5, hq5, h⟩ := Option.bind_eq_some_iff.mp h
        refine h_callO (As := [.int x2]) (r1 := none) (st := []) (H1 := (hpC q5, Q)) rfl rfl rfl rfl rfl rfl (m102_ok hq5) ?_
        refine h_it 4 (x' := (69, [(3, .int (nI ((gR q5 4)).length)), (0, .ref 57), (2, .int x2)], [], (hpC q5, Q))) rfl ?_
        refine h_lw (lv := [(0, .ref 57), (2, .int x2), (3, .int (nI ((gR q5 4)).length))]) (fa_c rfl (fa_c rfl (fa_c rfl (fa_n)))) rfl ?_
        exact m100_69_ok ih 1000000 x2 (nI ((gR q5 4)).length) q5 _ h
theorem m100_ok {z1 : Bool} {s : xSt} {q : xSt} (h : m100 z1 s = some q) : HC V L Kc Ks 100 [.ref 57, .ref (pa z1)] (hpC s, Q) (none) (hpC q, Q) := by
  unfold m100 at h
  refine hc_of (by decide) rfl ?_
  refine h_it 16 (x' := (30, [(0, .ref 57), (1, .ref (pa z1))], [.ref 57], (hpC (sR (sR (sR (sZ s 5 z1) 4 (xsCut (gR s 4) 0)) 5 (xsCut (gR s 5) 0)) 6 (xsCut (gR s 6) 0)), Q))) rfl ?_
  obtain ⟨q1, hq1, h⟩ := Option.bind_eq_some_iff.mp h
  refine h_callO (As := []) (r1 := none) (st := []) (H1 := (hpC q1, Q)) rfl rfl rfl rfl rfl rfl (m101_ok hq1) ?_
  refine h_it 2 (x' := (35, [(2, .int 0), (0, .ref 57), (1, .ref (pa z1))], [], (hpC q1, Q))) rfl ?_
  refine h_lw (lv := [(0, .ref 57), (2, .int 0)]) (fa_c rfl (fa_c rfl (fa_n))) rfl ?_
  exact m100_35_ok  1000000 0 q1 _ h
end Sm100
section Sm134
variable {V : xmV} {L : List Nat} {Kc Ks : Nat} {Q : List xE}
theorem m134_53_ok    {s : xSt} {q : Int32 × xSt} (h : m134_53   s = some q) : HE V L Kc Ks 134 (53, [(0, .ref 0)], [], (hpC s, Q)) (some (.int q.1)) (hpC q.2, Q) := by
  unfold m134_53 at h
  refine h_it 8 (x' := (69, [(0, .ref 0)], [.ref 78, .ref 80], (hpC (sR s 0 (xsCut (gR s 0) 0)), Q))) rfl ?_
  obtain ⟨q6, hq6, h⟩ := Option.bind_eq_some_iff.mp h
  refine h_callO (As := [.ref 78]) (r1 := none) (st := []) (H1 := (hpC q6, Q)) rfl rfl rfl rfl rfl rfl (m25_r78_ok hq6) ?_
  refine h_it 2 (x' := (76, [(0, .ref 0)], [.ref 47], (hpC q6, Q))) rfl ?_
  refine h_callO (As := []) (r1 := some (.int (gI q6 2))) (st := []) (H1 := (hpC q6, Q)) rfl rfl rfl rfl rfl rfl (m15_ok  q6) ?_
  replace h := Option.some.inj h; subst h
  exact h_iret rfl rfl
theorem m134_39_ok    {s : xSt} {q : Int32 × xSt} (h : m134_39   s = some q) : HE V L Kc Ks 134 (39, [(0, .ref 0)], [], (hpC s, Q)) (some (.int q.1)) (hpC q.2, Q) := by
  unfold m134_39 at h
  refine h_it 2 (x' := (43, [(0, .ref 0)], [.ref 47], (hpC s, Q))) rfl ?_
  obtain ⟨q4, hq4, h⟩ := Option.bind_eq_some_iff.mp h
  refine h_callO (As := []) (r1 := some (.int (b01 q4.1))) (st := []) (H1 := (hpC q4.2, Q)) rfl rfl rfl rfl rfl rfl (m13_ok hq4) ?_
  refine h_br (b := decide (¬ (b01 q4.1) = 0)) (t := 53) (f := 49) (lv' := [(0, .ref 0)]) (st' := []) rfl rfl ?_
  by_cases h5 : q4.1 = true
  · replace h := if_y h5 h
    refine h_y (b01_1 h5) ?_
    refine h_lw (lv := [(0, .ref 0)]) (fa_c rfl (fa_n)) rfl ?_
    exact m134_53_ok  h
  · replace h := if_n h5 h
    refine h_n (fun z => z (b01_0 h5)) ?_
    refine h_it 1 (x' := (50, [(0, .ref 0)], [.ref 0], (hpC q4.2, Q))) rfl ?_
    obtain ⟨q7, hq7, h⟩ := Option.bind_eq_some_iff.mp h
    refine h_callO (As := []) (r1 := none) (st := []) (H1 := (hpC q7, Q)) rfl rfl rfl rfl rfl rfl (m135_ok hq7) ?_
    refine h_lw (lv := [(0, .ref 0)]) (fa_c rfl (fa_n)) rfl ?_
    exact m134_53_ok  h
theorem m134_ok  {s : xSt} {q : Int32 × xSt} (h : m134  s = some q) : HC V L Kc Ks 134 [.ref 0] (hpC s, Q) (some (.int q.1)) (hpC q.2, Q) := by
  unfold m134 at h
  refine hc_of (by decide) rfl ?_
  refine h_it 2 (x' := (4, [(0, .ref 0)], [.ref 47], (hpC s, Q))) rfl ?_
  refine h_callO (As := []) (r1 := none) (st := []) (H1 := (hpC (sI (sI s 2 0) 3 (-1)), Q)) rfl rfl rfl rfl rfl rfl (m12_ok  s) ?_
  refine h_it 4 (x' := (15, [(0, .ref 0)], [.ref (pa (gZ s 1)), .ref 49], (hpC (sI (sI s 2 0) 3 (-1)), Q))) rfl ?_
  obtain ⟨q1, hq1, h⟩ := Option.bind_eq_some_iff.mp h
  refine h_callO (As := [.ref (pa (gZ s 1))]) (r1 := none) (st := []) (H1 := (hpC q1, Q)) rfl rfl rfl rfl rfl rfl (m76_ok hq1) ?_
  refine h_it 2 (x' := (22, [(0, .ref 0)], [.ref 47], (hpC q1, Q))) rfl ?_
  obtain ⟨q2, hq2, h⟩ := Option.bind_eq_some_iff.mp h
  refine h_callO (As := []) (r1 := some (.int (b01 q2.1))) (st := []) (H1 := (hpC q2.2, Q)) rfl rfl rfl rfl rfl rfl (m13_ok hq2) ?_
  refine h_br (b := decide (¬ (b01 q2.1) = 0)) (t := 39) (f := 28) (lv' := [(0, .ref 0)]) (st' := []) rfl rfl ?_
  by_cases h3 : q2.1 = true
  · replace h := if_y h3 h
    refine h_y (b01_1 h3) ?_
    refine h_lw (lv := [(0, .ref 0)]) (fa_c rfl (fa_n)) rfl ?_
    exact m134_39_ok  h
  · replace h := if_n h3 h
    refine h_n (fun z => z (b01_0 h3)) ?_
    refine h_it 4 (x' := (36, [(0, .ref 0)], [.ref (pa (gZ q2.2 1)), .ref 57], (hpC q2.2, Q))) rfl ?_
    obtain ⟨q8, hq8, h⟩ := Option.bind_eq_some_iff.mp h
    refine h_callO (As := [.ref (pa (gZ q2.2 1))]) (r1 := none) (st := []) (H1 := (hpC q8, Q)) rfl rfl rfl rfl rfl rfl (m100_ok hq8) ?_
    refine h_lw (lv := [(0, .ref 0)]) (fa_c rfl (fa_n)) rfl ?_
    exact m134_39_ok  h
end Sm134
section Sm27
variable {V : xmV} {L : List Nat} {Kc Ks : Nat} {Q : List xE}
theorem m27_ok  {s : xSt} {q : Bool × xSt} (h : m27  s = some q) : HC V L Kc Ks 27 [.ref 80] (hpC s, Q) (some (.int (b01 q.1))) (hpC q.2, Q) := by
  unfold m27 at h
  refine hc_of (by decide) rfl ?_
  refine h_it 3 (x' := (6, [(0, .ref 80)], [.int 32, .int (gI s 15)], (hpC s, Q))) rfl ?_
  refine h_br (b := decide ((gI s 15) < 32)) (t := 13) (f := 9) (lv' := [(0, .ref 80)]) (st' := []) rfl rfl ?_
  by_cases h1 : (gI s 15) < 32
  · replace h := if_y h1 h
    refine h_y h1 ?_
    replace h := Option.some.inj h; subst h
    refine h_it 1 (x' := (14, [(0, .ref 80)], [.int (b01 false)], (hpC s, Q))) rfl ?_
    exact h_zret rfl rfl
  · replace h := if_n h1 h
    refine h_n h1 ?_
    replace h := Option.some.inj h; subst h
    refine h_it 2 (x' := (14, [(0, .ref 80)], [.int (b01 true)], (hpC s, Q))) rfl ?_
    exact h_zret rfl rfl
end Sm27
section Sm28
variable {V : xmV} {L : List Nat} {Kc Ks : Nat} {Q : List xE}
theorem m28_ok (a1 : Int32) (a2 : Int32) (s : xSt) : HC V L Kc Ks 28 [.ref 80, .int a1, .int a2] (hpC s, Q) (none) (hpC (sR s 15 (xsSet (xsSet (gR s 15) a1 (xsAt (gR s 15) a2)) a2 (xsAt (gR s 15) a1))), Q) := by
  refine hc_of (by decide) rfl ?_
  refine h_it 18 (x' := (34, [(3, .int (xsAt (gR s 15) a1)), (0, .ref 80), (1, .int a1), (2, .int a2)], [], (hpC (sR s 15 (xsSet (xsSet (gR s 15) a1 (xsAt (gR s 15) a2)) a2 (xsAt (gR s 15) a1))), Q))) rfl ?_
  exact h_vret rfl rfl
end Sm28
section Sm26
variable {V : xmV} {L : List Nat} {Kc Ks : Nat} {Q : List xE}
theorem m26_54_ok   : ∀ (n : Nat) (x1 : Int32) (x3 : Int32) (s : xSt) (q : Bool × xSt), m26_54  n x1 x3 s = some q → HE V L Kc Ks 26 (54, [(0, .ref 80), (1, .int x1), (3, .int x3)], [], (hpC s, Q)) (some (.int (b01 q.1))) (hpC q.2, Q) := by
  intro n
  induction n with
  | zero => intro x1 x3 s q h; cases h
  | succ n ih =>
    intro x1 x3 s q h
    unfold m26_54 at h
    refine h_it 2 (x' := (56, [(0, .ref 80), (1, .int x1), (3, .int x3)], [.int x1, .int x3], (hpC s, Q))) rfl ?_
    refine h_br (b := decide (x3 ≤ x1)) (t := 73) (f := 59) (lv' := [(0, .ref 80), (1, .int x1), (3, .int x3)]) (st' := []) rfl rfl ?_
    by_cases h6 : x3 ≤ x1
    · replace h := if_y h6 h
      refine h_y h6 ?_
      replace h := Option.some.inj h; subst h
      refine h_it 7 (x' := (84, [(0, .ref 80), (1, .int x1), (3, .int x3)], [.int (b01 true)], (hpC (sI s 15 ((gI s 15) + 1)), Q))) rfl ?_
      exact h_zret rfl rfl
    · replace h := if_n h6 h
      refine h_n h6 ?_
      refine h_it 5 (x' := (64, [(0, .ref 80), (1, .int x1), (3, .int x3)], [.int (x3 - 1), .int x3, .ref 80], (hpC s, Q))) rfl ?_
      refine h_callO (As := [.int x3, .int (x3 - 1)]) (r1 := none) (st := []) (H1 := (hpC (sR s 15 (xsSet (xsSet (gR s 15) x3 (xsAt (gR s 15) (x3 - 1))) (x3 - 1) (xsAt (gR s 15) x3))), Q)) rfl rfl rfl rfl rfl rfl (m28_ok x3 (x3 - 1) s) ?_
      refine h_it 2 (x' := (54, [(3, .int (x3 + (-1))), (0, .ref 80), (1, .int x1)], [], (hpC (sR s 15 (xsSet (xsSet (gR s 15) x3 (xsAt (gR s 15) (x3 - 1))) (x3 - 1) (xsAt (gR s 15) x3))), Q))) rfl ?_
      refine h_lw (lv := [(0, .ref 80), (1, .int x1), (3, .int (x3 + (-1)))]) (fa_c rfl (fa_c rfl (fa_c rfl (fa_n)))) rfl ?_
      exact ih x1 (x3 + (-1)) (sR s 15 (xsSet (xsSet (gR s 15) x3 (xsAt (gR s 15) (x3 - 1))) (x3 - 1) (xsAt (gR s 15) x3))) _ h
theorem m26_ok {a1 : Int32} {a2 : Int32} {s : xSt} {q : Bool × xSt} (h : m26 a1 a2 s = some q) : HC V L Kc Ks 26 [.ref 80, .int a1, .int a2] (hpC s, Q) (some (.int (b01 q.1))) (hpC q.2, Q) := by
  unfold m26 at h
  refine hc_of (by decide) rfl ?_
  refine h_it 1 (x' := (1, [(0, .ref 80), (1, .int a1), (2, .int a2)], [.ref 80], (hpC s, Q))) rfl ?_
  obtain ⟨q1, hq1, h⟩ := Option.bind_eq_some_iff.mp h
  refine h_callO (As := []) (r1 := some (.int (b01 q1.1))) (st := []) (H1 := (hpC q1.2, Q)) rfl rfl rfl rfl rfl rfl (m27_ok hq1) ?_
  refine h_br (b := decide (¬ (b01 q1.1) = 0)) (t := 34) (f := 7) (lv' := [(0, .ref 80), (1, .int a1), (2, .int a2)]) (st' := []) rfl rfl ?_
  by_cases h2 : q1.1 = true
  · replace h := if_y h2 h
    refine h_y (b01_1 h2) ?_
    replace h := Option.some.inj h; subst h
    refine h_it 1 (x' := (35, [(0, .ref 80), (1, .int a1), (2, .int a2)], [.int (b01 false)], (hpC q1.2, Q))) rfl ?_
    exact h_zret rfl rfl
  · replace h := if_n h2 h
    refine h_n (fun z => z (b01_0 h2)) ?_
    refine h_it 1 (x' := (8, [(0, .ref 80), (1, .int a1), (2, .int a2)], [.int a1], (hpC q1.2, Q))) rfl ?_
    refine h_br (b := decide (a1 < 0)) (t := 34) (f := 11) (lv' := [(0, .ref 80), (1, .int a1), (2, .int a2)]) (st' := []) rfl rfl ?_
    by_cases h3 : a1 < 0
    · replace h := if_y h3 h
      refine h_y h3 ?_
      replace h := Option.some.inj h; subst h
      refine h_it 1 (x' := (35, [(0, .ref 80), (1, .int a1), (2, .int a2)], [.int (b01 false)], (hpC q1.2, Q))) rfl ?_
      exact h_zret rfl rfl
    · replace h := if_n h3 h
      refine h_n h3 ?_
      refine h_it 4 (x' := (19, [(0, .ref 80), (1, .int a1), (2, .int a2)], [.int (nI ((gR q1.2 15)).length), .int a1], (hpC q1.2, Q))) rfl ?_
      refine h_br (b := decide ((nI ((gR q1.2 15)).length) < a1)) (t := 34) (f := 22) (lv' := [(0, .ref 80), (1, .int a1), (2, .int a2)]) (st' := []) rfl rfl ?_
      by_cases h4 : (nI ((gR q1.2 15)).length) < a1
      · replace h := if_y h4 h
        refine h_y h4 ?_
        replace h := Option.some.inj h; subst h
        refine h_it 1 (x' := (35, [(0, .ref 80), (1, .int a1), (2, .int a2)], [.int (b01 false)], (hpC q1.2, Q))) rfl ?_
        exact h_zret rfl rfl
      · replace h := if_n h4 h
        refine h_n h4 ?_
        refine h_it 4 (x' := (31, [(0, .ref 80), (1, .int a1), (2, .int a2)], [.int 64, .int (nI ((gR q1.2 15)).length)], (hpC q1.2, Q))) rfl ?_
        refine h_br (b := decide ((nI ((gR q1.2 15)).length) < 64)) (t := 36) (f := 34) (lv' := [(0, .ref 80), (1, .int a1), (2, .int a2)]) (st' := []) rfl rfl ?_
        by_cases h5 : (nI ((gR q1.2 15)).length) < 64
        · replace h := if_y h5 h
          refine h_y h5 ?_
          refine h_it 10 (x' := (54, [(3, .int ((nI ((xsPush 64 (gR q1.2 15) a2)).length) - 1)), (0, .ref 80), (1, .int a1), (2, .int a2)], [], (hpC (sR q1.2 15 (xsPush 64 (gR q1.2 15) a2)), Q))) rfl ?_
          refine h_lw (lv := [(0, .ref 80), (1, .int a1), (3, .int ((nI ((xsPush 64 (gR q1.2 15) a2)).length) - 1))]) (fa_c rfl (fa_c rfl (fa_c rfl (fa_n)))) rfl ?_
          exact m26_54_ok  1000000 a1 ((nI ((xsPush 64 (gR q1.2 15) a2)).length) - 1) (sR q1.2 15 (xsPush 64 (gR q1.2 15) a2)) _ h
        · replace h := if_n h5 h
          refine h_n h5 ?_
          replace h := Option.some.inj h; subst h
          refine h_it 1 (x' := (35, [(0, .ref 80), (1, .int a1), (2, .int a2)], [.int (b01 false)], (hpC q1.2, Q))) rfl ?_
          exact h_zret rfl rfl
end Sm26
section Sm137
variable {V : xmV} {L : List Nat} {Kc Ks : Nat} {Q : List xE}
theorem m137_ok {a1 : Int32} {a2 : Int32} {s : xSt} {q : Bool × xSt} (h : m137 a1 a2 s = some q) : HC V L Kc Ks 137 [.ref 0, .int a1, .int a2] (hpC s, Q) (some (.int (b01 q.1))) (hpC q.2, Q) := by
  unfold m137 at h
  refine hc_of (by decide) rfl ?_
  refine h_it 4 (x' := (6, [(0, .ref 0), (1, .int a1), (2, .int a2)], [.int a2, .int a1, .ref 80], (hpC s, Q))) rfl ?_
  obtain ⟨q1, hq1, h⟩ := Option.bind_eq_some_iff.mp h
  refine h_callO (As := [.int a1, .int a2]) (r1 := some (.int (b01 q1.1))) (st := []) (H1 := (hpC q1.2, Q)) rfl rfl rfl rfl rfl rfl (m26_ok hq1) ?_
  replace h := Option.some.inj h; subst h
  show HE V L Kc Ks 137 (9, [(0, .ref 0), (1, .int a1), (2, .int a2)], [.int (b01 q1.1)], (hpC q1.2, Q)) _ _
  exact h_zret rfl rfl
end Sm137
section Sm30
variable {V : xmV} {L : List Nat} {Kc Ks : Nat} {Q : List xE}
theorem m30_ok {a1 : Int32} {a2 : Int32} {s : xSt} {q : Bool × xSt} (h : m30 a1 a2 s = some q) : HC V L Kc Ks 30 [.ref 80, .int a1, .int a2] (hpC s, Q) (some (.int (b01 q.1))) (hpC q.2, Q) := by
  unfold m30 at h
  refine hc_of (by decide) rfl ?_
  refine h_it 1 (x' := (1, [(0, .ref 80), (1, .int a1), (2, .int a2)], [.int a1], (hpC s, Q))) rfl ?_
  refine h_br (b := decide (a1 < 0)) (t := 32) (f := 4) (lv' := [(0, .ref 80), (1, .int a1), (2, .int a2)]) (st' := []) rfl rfl ?_
  by_cases h1 : a1 < 0
  · replace h := if_y h1 h
    refine h_y h1 ?_
    replace h := Option.some.inj h; subst h
    refine h_it 1 (x' := (33, [(0, .ref 80), (1, .int a1), (2, .int a2)], [.int (b01 false)], (hpC s, Q))) rfl ?_
    exact h_zret rfl rfl
  · replace h := if_n h1 h
    refine h_n h1 ?_
    refine h_it 4 (x' := (12, [(0, .ref 80), (1, .int a1), (2, .int a2)], [.int (nI ((gR s 15)).length), .int a1], (hpC s, Q))) rfl ?_
    refine h_br (b := decide ((nI ((gR s 15)).length) < a1)) (t := 32) (f := 15) (lv' := [(0, .ref 80), (1, .int a1), (2, .int a2)]) (st' := []) rfl rfl ?_
    by_cases h2 : (nI ((gR s 15)).length) < a1
    · replace h := if_y h2 h
      refine h_y h2 ?_
      replace h := Option.some.inj h; subst h
      refine h_it 1 (x' := (33, [(0, .ref 80), (1, .int a1), (2, .int a2)], [.int (b01 false)], (hpC s, Q))) rfl ?_
      exact h_zret rfl rfl
    · replace h := if_n h2 h
      refine h_n h2 ?_
      refine h_it 6 (x' := (25, [(0, .ref 80), (1, .int a1), (2, .int a2)], [.int ((nI ((gR s 15)).length) - a1), .int a2], (hpC s, Q))) rfl ?_
      refine h_br (b := decide (((nI ((gR s 15)).length) - a1) < a2)) (t := 32) (f := 28) (lv' := [(0, .ref 80), (1, .int a1), (2, .int a2)]) (st' := []) rfl rfl ?_
      by_cases h3 : ((nI ((gR s 15)).length) - a1) < a2
      · replace h := if_y h3 h
        refine h_y h3 ?_
        replace h := Option.some.inj h; subst h
        refine h_it 1 (x' := (33, [(0, .ref 80), (1, .int a1), (2, .int a2)], [.int (b01 false)], (hpC s, Q))) rfl ?_
        exact h_zret rfl rfl
      · replace h := if_n h3 h
        refine h_n h3 ?_
        replace h := Option.some.inj h; subst h
        refine h_it 2 (x' := (33, [(0, .ref 80), (1, .int a1), (2, .int a2)], [.int (b01 true)], (hpC s, Q))) rfl ?_
        exact h_zret rfl rfl
end Sm30
section Sm29
variable {V : xmV} {L : List Nat} {Kc Ks : Nat} {Q : List xE}
theorem m29_ok {a1 : Int32} {a2 : Int32} {s : xSt} {q : Bool × xSt} (h : m29 a1 a2 s = some q) : HC V L Kc Ks 29 [.ref 80, .int a1, .int a2] (hpC s, Q) (some (.int (b01 q.1))) (hpC q.2, Q) := by
  unfold m29 at h
  refine hc_of (by decide) rfl ?_
  refine h_it 1 (x' := (1, [(0, .ref 80), (1, .int a1), (2, .int a2)], [.ref 80], (hpC s, Q))) rfl ?_
  obtain ⟨q1, hq1, h⟩ := Option.bind_eq_some_iff.mp h
  refine h_callO (As := []) (r1 := some (.int (b01 q1.1))) (st := []) (H1 := (hpC q1.2, Q)) rfl rfl rfl rfl rfl rfl (m27_ok hq1) ?_
  refine h_br (b := decide (¬ (b01 q1.1) = 0)) (t := 16) (f := 7) (lv' := [(0, .ref 80), (1, .int a1), (2, .int a2)]) (st' := []) rfl rfl ?_
  by_cases h2 : q1.1 = true
  · replace h := if_y h2 h
    refine h_y (b01_1 h2) ?_
    replace h := Option.some.inj h; subst h
    refine h_it 1 (x' := (17, [(0, .ref 80), (1, .int a1), (2, .int a2)], [.int (b01 false)], (hpC q1.2, Q))) rfl ?_
    exact h_zret rfl rfl
  · replace h := if_n h2 h
    refine h_n (fun z => z (b01_0 h2)) ?_
    refine h_it 3 (x' := (10, [(0, .ref 80), (1, .int a1), (2, .int a2)], [.int 1, .int a1, .ref 80], (hpC q1.2, Q))) rfl ?_
    obtain ⟨q3, hq3, h⟩ := Option.bind_eq_some_iff.mp h
    refine h_callO (As := [.int a1, .int 1]) (r1 := some (.int (b01 q3.1))) (st := []) (H1 := (hpC q3.2, Q)) rfl rfl rfl rfl rfl rfl (m30_ok hq3) ?_
    refine h_br (b := decide (¬ (b01 q3.1) = 0)) (t := 18) (f := 16) (lv' := [(0, .ref 80), (1, .int a1), (2, .int a2)]) (st' := []) rfl rfl ?_
    by_cases h4 : q3.1 = true
    · replace h := if_y h4 h
      refine h_y (b01_1 h4) ?_
      replace h := Option.some.inj h; subst h
      refine h_it 12 (x' := (38, [(0, .ref 80), (1, .int a1), (2, .int a2)], [.int (b01 true)], (hpC (sI (sR q3.2 15 (xsSet (gR q3.2 15) a1 a2)) 15 ((gI q3.2 15) + 1)), Q))) rfl ?_
      exact h_zret rfl rfl
    · replace h := if_n h4 h
      refine h_n (fun z => z (b01_0 h4)) ?_
      replace h := Option.some.inj h; subst h
      refine h_it 1 (x' := (17, [(0, .ref 80), (1, .int a1), (2, .int a2)], [.int (b01 false)], (hpC q3.2, Q))) rfl ?_
      exact h_zret rfl rfl
end Sm29
section Sm138
variable {V : xmV} {L : List Nat} {Kc Ks : Nat} {Q : List xE}
theorem m138_ok {a1 : Int32} {a2 : Int32} {s : xSt} {q : Bool × xSt} (h : m138 a1 a2 s = some q) : HC V L Kc Ks 138 [.ref 0, .int a1, .int a2] (hpC s, Q) (some (.int (b01 q.1))) (hpC q.2, Q) := by
  unfold m138 at h
  refine hc_of (by decide) rfl ?_
  refine h_it 4 (x' := (6, [(0, .ref 0), (1, .int a1), (2, .int a2)], [.int a2, .int a1, .ref 80], (hpC s, Q))) rfl ?_
  obtain ⟨q1, hq1, h⟩ := Option.bind_eq_some_iff.mp h
  refine h_callO (As := [.int a1, .int a2]) (r1 := some (.int (b01 q1.1))) (st := []) (H1 := (hpC q1.2, Q)) rfl rfl rfl rfl rfl rfl (m29_ok hq1) ?_
  replace h := Option.some.inj h; subst h
  show HE V L Kc Ks 138 (9, [(0, .ref 0), (1, .int a1), (2, .int a2)], [.int (b01 q1.1)], (hpC q1.2, Q)) _ _
  exact h_zret rfl rfl
end Sm138
section Sm31
variable {V : xmV} {L : List Nat} {Kc Ks : Nat} {Q : List xE}
theorem m31_36_ok   : ∀ (n : Nat) (x2 : Int32) (x3 : Int32) (x4 : Int32) (s : xSt) (q : Bool × xSt), m31_36  n x2 x3 x4 s = some q → HE V L Kc Ks 31 (36, [(0, .ref 80), (2, .int x2), (3, .int x3), (4, .int x4)], [], (hpC s, Q)) (some (.int (b01 q.1))) (hpC q.2, Q) := by
  intro n
  induction n with
  | zero => intro x2 x3 x4 s q h; cases h
  | succ n ih =>
    intro x2 x3 x4 s q h
    unfold m31_36 at h
    refine h_it 2 (x' := (39, [(0, .ref 80), (2, .int x2), (3, .int x3), (4, .int x4)], [.int x3, .int x4], (hpC s, Q))) rfl ?_
    refine h_br (b := decide (x3 ≤ x4)) (t := 68) (f := 42) (lv' := [(0, .ref 80), (2, .int x2), (3, .int x3), (4, .int x4)]) (st' := []) rfl rfl ?_
    by_cases h6 : x3 ≤ x4
    · replace h := if_y h6 h
      refine h_y h6 ?_
      replace h := Option.some.inj h; subst h
      refine h_it 11 (x' := (87, [(0, .ref 80), (2, .int x2), (3, .int x3), (4, .int x4)], [.int (b01 true)], (hpC (sI (sR s 15 (xsCut (gR s 15) x3)) 15 ((gI s 15) + 1)), Q))) rfl ?_
      exact h_zret rfl rfl
    · replace h := if_n h6 h
      refine h_n h6 ?_
      refine h_it 12 (x' := (36, [(4, .int (x4 + 1)), (0, .ref 80), (2, .int x2), (3, .int x3)], [], (hpC (sR s 15 (xsSet (gR s 15) x4 (xsAt (gR s 15) (x4 + x2)))), Q))) rfl ?_
      refine h_lw (lv := [(0, .ref 80), (2, .int x2), (3, .int x3), (4, .int (x4 + 1))]) (fa_c rfl (fa_c rfl (fa_c rfl (fa_c rfl (fa_n))))) rfl ?_
      exact ih x2 x3 (x4 + 1) (sR s 15 (xsSet (gR s 15) x4 (xsAt (gR s 15) (x4 + x2)))) _ h
theorem m31_ok {a1 : Int32} {a2 : Int32} {s : xSt} {q : Bool × xSt} (h : m31 a1 a2 s = some q) : HC V L Kc Ks 31 [.ref 80, .int a1, .int a2] (hpC s, Q) (some (.int (b01 q.1))) (hpC q.2, Q) := by
  unfold m31 at h
  refine hc_of (by decide) rfl ?_
  refine h_it 1 (x' := (1, [(0, .ref 80), (1, .int a1), (2, .int a2)], [.ref 80], (hpC s, Q))) rfl ?_
  obtain ⟨q1, hq1, h⟩ := Option.bind_eq_some_iff.mp h
  refine h_callO (As := []) (r1 := some (.int (b01 q1.1))) (st := []) (H1 := (hpC q1.2, Q)) rfl rfl rfl rfl rfl rfl (m27_ok hq1) ?_
  refine h_br (b := decide (¬ (b01 q1.1) = 0)) (t := 21) (f := 7) (lv' := [(0, .ref 80), (1, .int a1), (2, .int a2)]) (st' := []) rfl rfl ?_
  by_cases h2 : q1.1 = true
  · replace h := if_y h2 h
    refine h_y (b01_1 h2) ?_
    replace h := Option.some.inj h; subst h
    refine h_it 1 (x' := (22, [(0, .ref 80), (1, .int a1), (2, .int a2)], [.int (b01 false)], (hpC q1.2, Q))) rfl ?_
    exact h_zret rfl rfl
  · replace h := if_n h2 h
    refine h_n (fun z => z (b01_0 h2)) ?_
    refine h_it 2 (x' := (9, [(0, .ref 80), (1, .int a1), (2, .int a2)], [.int 1, .int a2], (hpC q1.2, Q))) rfl ?_
    refine h_br (b := decide (a2 < 1)) (t := 21) (f := 12) (lv' := [(0, .ref 80), (1, .int a1), (2, .int a2)]) (st' := []) rfl rfl ?_
    by_cases h3 : a2 < 1
    · replace h := if_y h3 h
      refine h_y h3 ?_
      replace h := Option.some.inj h; subst h
      refine h_it 1 (x' := (22, [(0, .ref 80), (1, .int a1), (2, .int a2)], [.int (b01 false)], (hpC q1.2, Q))) rfl ?_
      exact h_zret rfl rfl
    · replace h := if_n h3 h
      refine h_n h3 ?_
      refine h_it 3 (x' := (15, [(0, .ref 80), (1, .int a1), (2, .int a2)], [.int a2, .int a1, .ref 80], (hpC q1.2, Q))) rfl ?_
      obtain ⟨q4, hq4, h⟩ := Option.bind_eq_some_iff.mp h
      refine h_callO (As := [.int a1, .int a2]) (r1 := some (.int (b01 q4.1))) (st := []) (H1 := (hpC q4.2, Q)) rfl rfl rfl rfl rfl rfl (m30_ok hq4) ?_
      refine h_br (b := decide (¬ (b01 q4.1) = 0)) (t := 23) (f := 21) (lv' := [(0, .ref 80), (1, .int a1), (2, .int a2)]) (st' := []) rfl rfl ?_
      by_cases h5 : q4.1 = true
      · replace h := if_y h5 h
        refine h_y (b01_1 h5) ?_
        refine h_it 8 (x' := (36, [(4, .int a1), (3, .int ((nI ((gR q4.2 15)).length) - a2)), (0, .ref 80), (1, .int a1), (2, .int a2)], [], (hpC q4.2, Q))) rfl ?_
        refine h_lw (lv := [(0, .ref 80), (2, .int a2), (3, .int ((nI ((gR q4.2 15)).length) - a2)), (4, .int a1)]) (fa_c rfl (fa_c rfl (fa_c rfl (fa_c rfl (fa_n))))) rfl ?_
        exact m31_36_ok  1000000 a2 ((nI ((gR q4.2 15)).length) - a2) a1 q4.2 _ h
      · replace h := if_n h5 h
        refine h_n (fun z => z (b01_0 h5)) ?_
        replace h := Option.some.inj h; subst h
        refine h_it 1 (x' := (22, [(0, .ref 80), (1, .int a1), (2, .int a2)], [.int (b01 false)], (hpC q4.2, Q))) rfl ?_
        exact h_zret rfl rfl
end Sm31
section Sm139
variable {V : xmV} {L : List Nat} {Kc Ks : Nat} {Q : List xE}
theorem m139_ok {a1 : Int32} {a2 : Int32} {s : xSt} {q : Bool × xSt} (h : m139 a1 a2 s = some q) : HC V L Kc Ks 139 [.ref 0, .int a1, .int a2] (hpC s, Q) (some (.int (b01 q.1))) (hpC q.2, Q) := by
  unfold m139 at h
  refine hc_of (by decide) rfl ?_
  refine h_it 4 (x' := (6, [(0, .ref 0), (1, .int a1), (2, .int a2)], [.int a2, .int a1, .ref 80], (hpC s, Q))) rfl ?_
  obtain ⟨q1, hq1, h⟩ := Option.bind_eq_some_iff.mp h
  refine h_callO (As := [.int a1, .int a2]) (r1 := some (.int (b01 q1.1))) (st := []) (H1 := (hpC q1.2, Q)) rfl rfl rfl rfl rfl rfl (m31_ok hq1) ?_
  replace h := Option.some.inj h; subst h
  show HE V L Kc Ks 139 (9, [(0, .ref 0), (1, .int a1), (2, .int a2)], [.int (b01 q1.1)], (hpC q1.2, Q)) _ _
  exact h_zret rfl rfl
end Sm139
section Sm32
variable {V : xmV} {L : List Nat} {Kc Ks : Nat} {Q : List xE}
theorem m32_25_ok   : ∀ (n : Nat) (x1 : Int32) (x2 : Int32) (x3 : Int32) (s : xSt) (q : Bool × xSt), m32_25  n x1 x2 x3 s = some q → HE V L Kc Ks 32 (25, [(0, .ref 80), (1, .int x1), (2, .int x2), (3, .int x3)], [], (hpC s, Q)) (some (.int (b01 q.1))) (hpC q.2, Q) := by
  intro n
  induction n with
  | zero => intro x1 x2 x3 s q h; cases h
  | succ n ih =>
    intro x1 x2 x3 s q h
    unfold m32_25 at h
    refine h_it 3 (x' := (28, [(0, .ref 80), (1, .int x1), (2, .int x2), (3, .int x3)], [.int 2, .int x2, .int x3], (hpC s, Q))) rfl ?_
    refine h_div rfl (by decide) ?_
    refine h_br (b := decide ((x2 / 2) ≤ x3)) (t := 52) (f := 32) (lv' := [(0, .ref 80), (1, .int x1), (2, .int x2), (3, .int x3)]) (st' := []) rfl rfl ?_
    by_cases h7 : (x2 / 2) ≤ x3
    · replace h := if_y h7 h
      refine h_y h7 ?_
      replace h := Option.some.inj h; subst h
      refine h_it 7 (x' := (63, [(0, .ref 80), (1, .int x1), (2, .int x2), (3, .int x3)], [.int (b01 true)], (hpC (sI s 15 ((gI s 15) + 1)), Q))) rfl ?_
      exact h_zret rfl rfl
    · replace h := if_n h7 h
      refine h_n h7 ?_
      refine h_it 11 (x' := (43, [(0, .ref 80), (1, .int x1), (2, .int x2), (3, .int x3)], [.int (((x1 + x2) - 1) - x3), .int (x1 + x3), .ref 80], (hpC s, Q))) rfl ?_
      refine h_callO (As := [.int (x1 + x3), .int (((x1 + x2) - 1) - x3)]) (r1 := none) (st := []) (H1 := (hpC (sR s 15 (xsSet (xsSet (gR s 15) (x1 + x3) (xsAt (gR s 15) (((x1 + x2) - 1) - x3))) (((x1 + x2) - 1) - x3) (xsAt (gR s 15) (x1 + x3)))), Q)) rfl rfl rfl rfl rfl rfl (m28_ok (x1 + x3) (((x1 + x2) - 1) - x3) s) ?_
      refine h_it 2 (x' := (25, [(3, .int (x3 + 1)), (0, .ref 80), (1, .int x1), (2, .int x2)], [], (hpC (sR s 15 (xsSet (xsSet (gR s 15) (x1 + x3) (xsAt (gR s 15) (((x1 + x2) - 1) - x3))) (((x1 + x2) - 1) - x3) (xsAt (gR s 15) (x1 + x3)))), Q))) rfl ?_
      refine h_lw (lv := [(0, .ref 80), (1, .int x1), (2, .int x2), (3, .int (x3 + 1))]) (fa_c rfl (fa_c rfl (fa_c rfl (fa_c rfl (fa_n))))) rfl ?_
      exact ih x1 x2 (x3 + 1) (sR s 15 (xsSet (xsSet (gR s 15) (x1 + x3) (xsAt (gR s 15) (((x1 + x2) - 1) - x3))) (((x1 + x2) - 1) - x3) (xsAt (gR s 15) (x1 + x3)))) _ h
theorem m32_ok {a1 : Int32} {a2 : Int32} {s : xSt} {q : Bool × xSt} (h : m32 a1 a2 s = some q) : HC V L Kc Ks 32 [.ref 80, .int a1, .int a2] (hpC s, Q) (some (.int (b01 q.1))) (hpC q.2, Q) := by
  unfold m32 at h
  refine hc_of (by decide) rfl ?_
  refine h_it 1 (x' := (1, [(0, .ref 80), (1, .int a1), (2, .int a2)], [.ref 80], (hpC s, Q))) rfl ?_
  obtain ⟨q1, hq1, h⟩ := Option.bind_eq_some_iff.mp h
  refine h_callO (As := []) (r1 := some (.int (b01 q1.1))) (st := []) (H1 := (hpC q1.2, Q)) rfl rfl rfl rfl rfl rfl (m27_ok hq1) ?_
  refine h_br (b := decide (¬ (b01 q1.1) = 0)) (t := 21) (f := 7) (lv' := [(0, .ref 80), (1, .int a1), (2, .int a2)]) (st' := []) rfl rfl ?_
  by_cases h2 : q1.1 = true
  · replace h := if_y h2 h
    refine h_y (b01_1 h2) ?_
    replace h := Option.some.inj h; subst h
    refine h_it 1 (x' := (22, [(0, .ref 80), (1, .int a1), (2, .int a2)], [.int (b01 false)], (hpC q1.2, Q))) rfl ?_
    exact h_zret rfl rfl
  · replace h := if_n h2 h
    refine h_n (fun z => z (b01_0 h2)) ?_
    refine h_it 2 (x' := (9, [(0, .ref 80), (1, .int a1), (2, .int a2)], [.int 2, .int a2], (hpC q1.2, Q))) rfl ?_
    refine h_br (b := decide (a2 < 2)) (t := 21) (f := 12) (lv' := [(0, .ref 80), (1, .int a1), (2, .int a2)]) (st' := []) rfl rfl ?_
    by_cases h3 : a2 < 2
    · replace h := if_y h3 h
      refine h_y h3 ?_
      replace h := Option.some.inj h; subst h
      refine h_it 1 (x' := (22, [(0, .ref 80), (1, .int a1), (2, .int a2)], [.int (b01 false)], (hpC q1.2, Q))) rfl ?_
      exact h_zret rfl rfl
    · replace h := if_n h3 h
      refine h_n h3 ?_
      refine h_it 3 (x' := (15, [(0, .ref 80), (1, .int a1), (2, .int a2)], [.int a2, .int a1, .ref 80], (hpC q1.2, Q))) rfl ?_
      obtain ⟨q4, hq4, h⟩ := Option.bind_eq_some_iff.mp h
      refine h_callO (As := [.int a1, .int a2]) (r1 := some (.int (b01 q4.1))) (st := []) (H1 := (hpC q4.2, Q)) rfl rfl rfl rfl rfl rfl (m30_ok hq4) ?_
      refine h_br (b := decide (¬ (b01 q4.1) = 0)) (t := 23) (f := 21) (lv' := [(0, .ref 80), (1, .int a1), (2, .int a2)]) (st' := []) rfl rfl ?_
      by_cases h5 : q4.1 = true
      · replace h := if_y h5 h
        refine h_y (b01_1 h5) ?_
        refine h_it 2 (x' := (25, [(3, .int 0), (0, .ref 80), (1, .int a1), (2, .int a2)], [], (hpC q4.2, Q))) rfl ?_
        refine h_lw (lv := [(0, .ref 80), (1, .int a1), (2, .int a2), (3, .int 0)]) (fa_c rfl (fa_c rfl (fa_c rfl (fa_c rfl (fa_n))))) rfl ?_
        exact m32_25_ok  1000000 a1 a2 0 q4.2 _ h
      · replace h := if_n h5 h
        refine h_n (fun z => z (b01_0 h5)) ?_
        replace h := Option.some.inj h; subst h
        refine h_it 1 (x' := (22, [(0, .ref 80), (1, .int a1), (2, .int a2)], [.int (b01 false)], (hpC q4.2, Q))) rfl ?_
        exact h_zret rfl rfl
end Sm32
