section Sm16
variable {V : xmV} {L : List Nat} {Kc Ks : Nat} {Q : List xE}
theorem m16_ok  (s : xSt) : HC V L Kc Ks 16 [.ref 47] (hpC s, Q) (some (.int (gI s 3))) (hpC s, Q) := by
  refine hc_of (by decide) rfl ?_
  refine h_it 2 (x' := (4, [(0, .ref 47)], [.int (gI s 3)], (hpC s, Q))) rfl ?_
  exact h_iret rfl rfl
end Sm16
section Sm34
variable {V : xmV} {L : List Nat} {Kc Ks : Nat} {Q : List xE}
theorem m34_ok  (s : xSt) : HC V L Kc Ks 34 [.ref 80] (hpC s, Q) (some (.int (gI s 15))) (hpC s, Q) := by
  refine hc_of (by decide) rfl ?_
  refine h_it 2 (x' := (4, [(0, .ref 80)], [.int (gI s 15)], (hpC s, Q))) rfl ?_
  exact h_iret rfl rfl
end Sm34
section Sm144
variable {V : xmV} {L : List Nat} {Kc Ks : Nat} {Q : List xE}
theorem m144_ok {a1 : Int32} {s : xSt} {q : Int32 × xSt} (h : m144 a1 s = some q) : HC V L Kc Ks 144 [.ref 0, .int a1] (hpC s, Q) (some (.int q.1)) (hpC q.2, Q) := by
  unfold m144 at h
  refine hc_of (by decide) rfl ?_
  refine h_it 1 (x' := (1, [(0, .ref 0), (1, .int a1)], [.int a1], (hpC s, Q))) rfl ?_
  by_cases h1 : a1 = 0
  · replace h := if_y h1 h
    refine h_ts (t := 60) rfl (by rw [h1]; decide) ?_
    replace h := Option.some.inj h; subst h
    refine h_it 3 (x' := (67, [(0, .ref 0), (1, .int a1)], [.int (nI ((gR s 0)).length)], (hpC s, Q))) rfl ?_
    exact h_iret rfl rfl
  replace h := if_n h1 h
  by_cases h2 : a1 = 1
  · replace h := if_y h2 h
    refine h_ts (t := 68) rfl (by rw [h2]; decide) ?_
    refine h_it 2 (x' := (72, [(0, .ref 0), (1, .int a1)], [.ref 47], (hpC s, Q))) rfl ?_
    refine h_callO (As := []) (r1 := some (.int (gI s 2))) (st := []) (H1 := (hpC s, Q)) rfl rfl rfl rfl rfl rfl (m15_ok  s) ?_
    replace h := Option.some.inj h; subst h
    exact h_iret rfl rfl
  replace h := if_n h2 h
  by_cases h3 : a1 = 2
  · replace h := if_y h3 h
    refine h_ts (t := 76) rfl (by rw [h3]; decide) ?_
    refine h_it 2 (x' := (80, [(0, .ref 0), (1, .int a1)], [.ref 47], (hpC s, Q))) rfl ?_
    refine h_callO (As := []) (r1 := some (.int (gI s 3))) (st := []) (H1 := (hpC s, Q)) rfl rfl rfl rfl rfl rfl (m16_ok  s) ?_
    replace h := Option.some.inj h; subst h
    exact h_iret rfl rfl
  replace h := if_n h3 h
  by_cases h4 : a1 = 3
  · replace h := if_y h4 h
    refine h_ts (t := 84) rfl (by rw [h4]; decide) ?_
    refine h_it 2 (x' := (88, [(0, .ref 0), (1, .int a1)], [.int (b01 (gZ s 2))], (hpC s, Q))) rfl ?_
    refine h_br (b := decide ((b01 (gZ s 2)) = 0)) (t := 101) (f := 91) (lv' := [(0, .ref 0), (1, .int a1)]) (st' := []) rfl rfl ?_
    by_cases h5 : (gZ s 2) = true
    · replace h := if_y h5 h
      refine h_n (b01_1 h5) ?_
      refine h_it 2 (x' := (95, [(0, .ref 0), (1, .int a1)], [.ref (pa (gZ s 0))], (hpC s, Q))) rfl ?_
      refine h_callO (As := []) (r1 := some (.int (nI ((gP s (gZ s 0) 6)).length))) (st := []) (H1 := (hpC s, Q)) rfl rfl rfl rfl rfl hp_pa (m57_ok (gZ s 0) s) ?_
      replace h := Option.some.inj h; subst h
      refine h_it 1 (x' := (102, [(0, .ref 0), (1, .int a1)], [.int (nI ((gP s (gZ s 0) 6)).length)], (hpC s, Q))) rfl ?_
      exact h_iret rfl rfl
    · replace h := if_n h5 h
      refine h_y (b01_0 h5) ?_
      replace h := Option.some.inj h; subst h
      refine h_it 1 (x' := (102, [(0, .ref 0), (1, .int a1)], [.int 0], (hpC s, Q))) rfl ?_
      exact h_iret rfl rfl
  replace h := if_n h4 h
  by_cases h6 : a1 = 4
  · replace h := if_y h6 h
    refine h_ts (t := 103) rfl (by rw [h6]; decide) ?_
    replace h := Option.some.inj h; subst h
    refine h_it 3 (x' := (110, [(0, .ref 0), (1, .int a1)], [.int (nI ((gR s 14)).length)], (hpC s, Q))) rfl ?_
    exact h_iret rfl rfl
  replace h := if_n h6 h
  by_cases h7 : a1 = 5
  · replace h := if_y h7 h
    refine h_ts (t := 111) rfl (by rw [h7]; decide) ?_
    refine h_it 2 (x' := (115, [(0, .ref 0), (1, .int a1)], [.ref 80], (hpC s, Q))) rfl ?_
    refine h_callO (As := []) (r1 := some (.ref 81)) (st := []) (H1 := (hpC s, Q)) rfl rfl rfl rfl rfl rfl (m33_ok  s) ?_
    replace h := Option.some.inj h; subst h
    refine h_it 1 (x' := (121, [(0, .ref 0), (1, .int a1)], [.int (nI ((gR s 15)).length)], (hpC s, Q))) rfl ?_
    exact h_iret rfl rfl
  replace h := if_n h7 h
  by_cases h8 : a1 = 6
  · replace h := if_y h8 h
    refine h_ts (t := 122) rfl (by rw [h8]; decide) ?_
    refine h_it 2 (x' := (126, [(0, .ref 0), (1, .int a1)], [.ref 80], (hpC s, Q))) rfl ?_
    refine h_callO (As := []) (r1 := some (.int (gI s 15))) (st := []) (H1 := (hpC s, Q)) rfl rfl rfl rfl rfl rfl (m34_ok  s) ?_
    replace h := Option.some.inj h; subst h
    exact h_iret rfl rfl
  replace h := if_n h8 h
  by_cases h9 : a1 = 7
  · replace h := if_y h9 h
    refine h_ts (t := 130) rfl (by rw [h9]; decide) ?_
    refine h_it 2 (x' := (134, [(0, .ref 0), (1, .int a1)], [.int (b01 (gZ s 2))], (hpC s, Q))) rfl ?_
    refine h_br (b := decide ((b01 (gZ s 2)) = 0)) (t := 147) (f := 137) (lv' := [(0, .ref 0), (1, .int a1)]) (st' := []) rfl rfl ?_
    by_cases h10 : (gZ s 2) = true
    · replace h := if_y h10 h
      refine h_n (b01_1 h10) ?_
      replace h := Option.some.inj h; subst h
      refine h_it 4 (x' := (148, [(0, .ref 0), (1, .int a1)], [.int (nI ((gR s 16)).length)], (hpC s, Q))) rfl ?_
      exact h_iret rfl rfl
    · replace h := if_n h10 h
      refine h_y (b01_0 h10) ?_
      replace h := Option.some.inj h; subst h
      refine h_it 1 (x' := (148, [(0, .ref 0), (1, .int a1)], [.int (-1)], (hpC s, Q))) rfl ?_
      exact h_iret rfl rfl
  replace h := if_n h9 h
  by_cases h11 : a1 = 8
  · replace h := if_y h11 h
    refine h_ts (t := 149) rfl (by rw [h11]; decide) ?_
    refine h_it 2 (x' := (153, [(0, .ref 0), (1, .int a1)], [.int (b01 (gZ s 2))], (hpC s, Q))) rfl ?_
    refine h_br (b := decide ((b01 (gZ s 2)) = 0)) (t := 163) (f := 156) (lv' := [(0, .ref 0), (1, .int a1)]) (st' := []) rfl rfl ?_
    by_cases h12 : (gZ s 2) = true
    · replace h := if_y h12 h
      refine h_n (b01_1 h12) ?_
      replace h := Option.some.inj h; subst h
      refine h_it 3 (x' := (164, [(0, .ref 0), (1, .int a1)], [.int (gI s 0)], (hpC s, Q))) rfl ?_
      exact h_iret rfl rfl
    · replace h := if_n h12 h
      refine h_y (b01_0 h12) ?_
      replace h := Option.some.inj h; subst h
      refine h_it 1 (x' := (164, [(0, .ref 0), (1, .int a1)], [.int (-1)], (hpC s, Q))) rfl ?_
      exact h_iret rfl rfl
  replace h := if_n h11 h
  by_cases h13 : a1 = 9
  · replace h := if_y h13 h
    refine h_ts (t := 165) rfl (by rw [h13]; decide) ?_
    replace h := Option.some.inj h; subst h
    refine h_it 2 (x' := (169, [(0, .ref 0), (1, .int a1)], [.int (gI s 1)], (hpC s, Q))) rfl ?_
    exact h_iret rfl rfl
  replace h := if_n h13 h
  by_cases h14 : a1 = 10
  · replace h := if_y h14 h
    refine h_ts (t := 170) rfl (by rw [h14]; decide) ?_
    refine h_it 2 (x' := (174, [(0, .ref 0), (1, .int a1)], [.ref 83], (hpC s, Q))) rfl ?_
    by_cases h15 : ((gR s 16)).length < 2 ^ 30
    rotate_left
    · replace h := if_n h15 h
      cases h
    replace h := if_y h15 h
    refine h_callR (As := []) (r1 := some (.int _)) (st := []) rfl rfl rfl rfl rfl rfl (h_sum rfl h15) ?_
    replace h := Option.some.inj h; subst h
    exact h_iret rfl rfl
  replace h := if_n h14 h
  refine h_ts (t := 178) rfl (ts_d [0, 1, 2, 3, 4, 5, 6, 7, 8, 9, 10] rfl (by decide) (fun v hv => by
      simp only [List.mem_cons, List.not_mem_nil, or_false] at hv
      rcases hv with rfl | rfl | rfl | rfl | rfl | rfl | rfl | rfl | rfl | rfl | rfl
      · exact h1
      · exact h2
      · exact h3
      · exact h4
      · exact h6
      · exact h7
      · exact h8
      · exact h9
      · exact h11
      · exact h13
      · exact h14)) ?_
  replace h := Option.some.inj h; subst h
  refine h_it 1 (x' := (179, [(0, .ref 0), (1, .int a1)], [.int (-1)], (hpC s, Q))) rfl ?_
  exact h_iret rfl rfl
end Sm144
