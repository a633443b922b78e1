section Sm120
variable {V : xmV} {L : List Nat} {Kc Ks : Nat} {Q : List xE}
theorem m120_ok {a1 : Int32} {s : xSt} {q : xSt} (h : m120 a1 s = some q) : HC V L Kc Ks 120 [.ref 65, .int a1] (hpC s, Q) (none) (hpC q, Q) := by
  unfold m120 at h
  refine hc_of (by decide) rfl ?_
  refine h_it 12 (x' := (22, [(0, .ref 65), (1, .int a1)], [.int 6000, .int ((gI s 14) + 1)], (hpC (sI (sI s 13 (-1)) 14 ((gI s 14) + 1)), Q))) rfl ?_
  refine h_br (b := decide (((gI s 14) + 1) ≤ 6000)) (t := 26) (f := 25) (lv' := [(0, .ref 65), (1, .int a1)]) (st' := []) rfl rfl ?_
  by_cases h1 : ((gI s 14) + 1) ≤ 6000
  · replace h := if_y h1 h
    refine h_y h1 ?_
    refine h_it 3 (x' := (31, [(0, .ref 65), (1, .int a1)], [.int a1, .ref (pa (gZ s 6))], (hpC (sI (sI s 13 (-1)) 14 ((gI s 14) + 1)), Q))) rfl ?_
    refine h_callO (As := [.int a1]) (r1 := some (.int (xsAt (gP s (gZ s 6) 0) a1))) (st := []) (H1 := (hpC (sI (sI s 13 (-1)) 14 ((gI s 14) + 1)), Q)) rfl rfl rfl rfl rfl hp_pa (m54_ok (gZ s 6) a1 (sI (sI s 13 (-1)) 14 ((gI s 14) + 1))) ?_
    by_cases h2 : (xsAt (gP s (gZ s 6) 0) a1) = 19
    · replace h := if_y h2 h
      refine h_ls (t := 116) rfl (by rw [h2]; decide) ?_
      replace h := Option.some.inj h; subst h
      refine h_it 5 (x' := (145, [(0, .ref 65), (1, .int a1)], [], (hpC (sR (sI (sI s 13 (-1)) 14 ((gI s 14) + 1)) 10 (xsPush 6001 (gR s 10) 0)), Q))) rfl ?_
      exact h_vret rfl rfl
    replace h := if_n h2 h
    by_cases h3 : (xsAt (gP s (gZ s 6) 0) a1) = 24
    · replace h := if_y h3 h
      refine h_ls (t := 68) rfl (by rw [h3]; decide) ?_
      refine h_it 5 (x' := (77, [(0, .ref 65), (1, .int a1)], [.int a1, .ref (pa (gZ s 6)), .ref 70], (hpC (sI (sI s 13 (-1)) 14 ((gI s 14) + 1)), Q))) rfl ?_
      refine h_callO (As := [.int a1]) (r1 := some (.int (xsAt (gP s (gZ s 6) 2) a1))) (st := [.ref 70]) (H1 := (hpC (sI (sI s 13 (-1)) 14 ((gI s 14) + 1)), Q)) rfl rfl rfl rfl rfl hp_pa (m55_ok (gZ s 6) a1 (sI (sI s 13 (-1)) 14 ((gI s 14) + 1))) ?_
      replace h := Option.some.inj h; subst h
      refine h_it 2 (x' := (145, [(0, .ref 65), (1, .int a1)], [], (hpC (sR (sI (sI s 13 (-1)) 14 ((gI s 14) + 1)) 10 (xsPush 6001 (gR s 10) (xsAt (gP s (gZ s 6) 2) a1))), Q))) rfl ?_
      exact h_vret rfl rfl
    replace h := if_n h3 h
    by_cases h4 : (xsAt (gP s (gZ s 6) 0) a1) = 25
    · replace h := if_y h4 h
      refine h_ls (t := 86) rfl (by rw [h4]; decide) ?_
      refine h_it 9 (x' := (103, [(0, .ref 65), (1, .int a1)], [.int a1, .ref (pa (gZ s 6)), .int (gI s 12), .ref 72, .ref 70], (hpC (sI (sI s 13 (-1)) 14 ((gI s 14) + 1)), Q))) rfl ?_
      refine h_callO (As := [.int a1]) (r1 := some (.int (xsAt (gP s (gZ s 6) 2) a1))) (st := [.int (gI s 12), .ref 72, .ref 70]) (H1 := (hpC (sI (sI s 13 (-1)) 14 ((gI s 14) + 1)), Q)) rfl rfl rfl rfl rfl hp_pa (m55_ok (gZ s 6) a1 (sI (sI s 13 (-1)) 14 ((gI s 14) + 1))) ?_
      replace h := Option.some.inj h; subst h
      refine h_it 4 (x' := (145, [(0, .ref 65), (1, .int a1)], [], (hpC (sR (sI (sI s 13 (-1)) 14 ((gI s 14) + 1)) 10 (xsPush 6001 (gR s 10) (xsAt (gR s 11) ((gI s 12) + (xsAt (gP s (gZ s 6) 2) a1))))), Q))) rfl ?_
      exact h_vret rfl rfl
    replace h := if_n h4 h
    refine h_ls (t := 127) rfl (ls_d [19, 24, 25] rfl (by decide) (fun v hv => by
        simp only [List.mem_cons, List.not_mem_nil, or_false] at hv
        rcases hv with rfl | rfl | rfl
        · exact h2
        · exact h3
        · exact h4)) ?_
    replace h := Option.some.inj h; subst h
    refine h_it 10 (x' := (145, [(0, .ref 65), (1, .int a1)], [], (hpC (sR (sR (sI (sI s 13 (-1)) 14 ((gI s 14) + 1)) 8 (xsPush 6001 (gR s 8) a1)) 9 (xsPush 6001 (gR s 9) (a1 + 1))), Q))) rfl ?_
    exact h_vret rfl rfl
  · replace h := if_n h1 h
    refine h_n h1 ?_
    replace h := Option.some.inj h; subst h
    exact h_vret rfl rfl
end Sm120
section Sm115_r78
variable {V : xmV} {L : List Nat} {Kc Ks : Nat} {Q : List xE}
theorem m115_r78_85_ok    {s : xSt} {q : Bool × xSt} (h : m115_r78_85   s = some q) : HE V L Kc Ks 115 (85, [(0, .ref 65)], [], (hpC s, Q)) (some (.int (b01 q.1))) (hpC q.2, Q) := by
  unfold m115_r78_85 at h
  refine h_it 3 (x' := (92, [(0, .ref 65)], [.int 6000, .int (gI s 14)], (hpC s, Q))) rfl ?_
  refine h_br (b := decide (6000 < (gI s 14))) (t := 99) (f := 95) (lv' := [(0, .ref 65)]) (st' := []) rfl rfl ?_
  by_cases h4 : 6000 < (gI s 14)
  · replace h := if_y h4 h
    refine h_y h4 ?_
    replace h := Option.some.inj h; subst h
    refine h_it 1 (x' := (100, [(0, .ref 65)], [.int (b01 false)], (hpC s, Q))) rfl ?_
    exact h_zret rfl rfl
  · replace h := if_n h4 h
    refine h_n h4 ?_
    replace h := Option.some.inj h; subst h
    refine h_it 2 (x' := (100, [(0, .ref 65)], [.int (b01 true)], (hpC s, Q))) rfl ?_
    exact h_zret rfl rfl
theorem m115_r78_43_ok   : ∀ (n : Nat) (x3 : Int32) (s : xSt) (q : Bool × xSt), m115_r78_43  n x3 s = some q → HE V L Kc Ks 115 (43, [(0, .ref 65), (3, .int x3)], [], (hpC s, Q)) (some (.int (b01 q.1))) (hpC q.2, Q) := by
  intro n
  induction n with
  | zero => intro x3 s q h; cases h
  | succ n ih =>
    intro x3 s q h
    unfold m115_r78_43 at h
    refine h_it 2 (x' := (46, [(0, .ref 65), (3, .int x3)], [.int 1000000, .int x3], (hpC s, Q))) rfl ?_
    refine h_br (b := decide (1000000 ≤ x3)) (t := 85) (f := 49) (lv' := [(0, .ref 65), (3, .int x3)]) (st' := []) rfl rfl ?_
    by_cases h3 : 1000000 ≤ x3
    · replace h := if_y h3 h
      refine h_y h3 ?_
      refine h_lw (lv := [(0, .ref 65)]) (fa_c rfl (fa_n)) rfl ?_
      exact m115_r78_85_ok  h
    · replace h := if_n h3 h
      refine h_n h3 ?_
      refine h_it 1 (x' := (50, [(0, .ref 65), (3, .int x3)], [.ref 65], (hpC s, Q))) rfl ?_
      obtain ⟨q5, hq5, h⟩ := Option.bind_eq_some_iff.mp h
      refine h_callO (As := []) (r1 := some (.int (b01 q5.1))) (st := []) (H1 := (hpC q5.2, Q)) rfl rfl rfl rfl rfl rfl (m119_ok hq5) ?_
      refine h_br (b := decide ((b01 q5.1) = 0)) (t := 85) (f := 56) (lv' := [(0, .ref 65), (3, .int x3)]) (st' := []) rfl rfl ?_
      by_cases h6 : q5.1 = true
      · replace h := if_y h6 h
        refine h_n (b01_1 h6) ?_
        refine h_it 3 (x' := (61, [(0, .ref 65), (3, .int x3)], [.int (-1), .int (gI q5.2 13)], (hpC q5.2, Q))) rfl ?_
        refine h_br (b := decide ((gI q5.2 13) = (-1))) (t := 75) (f := 64) (lv' := [(0, .ref 65), (3, .int x3)]) (st' := []) rfl rfl ?_
        by_cases h7 : (gI q5.2 13) = (-1)
        · replace h := if_y h7 h
          refine h_y h7 ?_
          refine h_it 1 (x' := (76, [(0, .ref 65), (3, .int x3)], [.ref 65], (hpC q5.2, Q))) rfl ?_
          obtain ⟨q8, hq8, h⟩ := Option.bind_eq_some_iff.mp h
          refine h_callO (As := []) (r1 := none) (st := []) (H1 := (hpC q8, Q)) rfl rfl rfl rfl rfl rfl (m121_ok hq8) ?_
          refine h_it 2 (x' := (43, [(3, .int (x3 + 1)), (0, .ref 65)], [], (hpC q8, Q))) rfl ?_
          refine h_lw (lv := [(0, .ref 65), (3, .int (x3 + 1))]) (fa_c rfl (fa_c rfl (fa_n))) rfl ?_
          exact ih (x3 + 1) q8 _ h
        · replace h := if_n h7 h
          refine h_n h7 ?_
          refine h_it 3 (x' := (69, [(0, .ref 65), (3, .int x3)], [.int (gI q5.2 13), .ref 65], (hpC q5.2, Q))) rfl ?_
          obtain ⟨q9, hq9, h⟩ := Option.bind_eq_some_iff.mp h
          refine h_callO (As := [.int (gI q5.2 13)]) (r1 := none) (st := []) (H1 := (hpC q9, Q)) rfl rfl rfl rfl rfl rfl (m120_ok hq9) ?_
          refine h_it 3 (x' := (43, [(3, .int (x3 + 1)), (0, .ref 65)], [], (hpC q9, Q))) rfl ?_
          refine h_lw (lv := [(0, .ref 65), (3, .int (x3 + 1))]) (fa_c rfl (fa_c rfl (fa_n))) rfl ?_
          exact ih (x3 + 1) q9 _ h
      · replace h := if_n h6 h
        refine h_y (b01_0 h6) ?_
        refine h_lw (lv := [(0, .ref 65)]) (fa_c rfl (fa_n)) rfl ?_
        exact m115_r78_85_ok  h
theorem m115_r78_ok {z1 : Bool} {s : xSt} {q : Bool × xSt} (h : m115_r78 z1 s = some q) : HC V L Kc Ks 115 [.ref 65, .ref (pa z1), .ref 78] (hpC s, Q) (some (.int (b01 q.1))) (hpC q.2, Q) := by
  unfold m115_r78 at h
  refine hc_of (by decide) rfl ?_
  refine h_it 4 (x' := (6, [(0, .ref 65), (1, .ref (pa z1)), (2, .ref 78)], [.ref 65], (hpC (sZ s 6 z1), Q))) rfl ?_
  obtain ⟨q1, hq1, h⟩ := Option.bind_eq_some_iff.mp h
  refine h_callO (As := []) (r1 := none) (st := []) (H1 := (hpC q1, Q)) rfl rfl rfl rfl rfl rfl (m116_ok hq1) ?_
  refine h_it 4 (x' := (15, [(0, .ref 65), (1, .ref (pa z1)), (2, .ref 78)], [.ref 78, .ref 65, .ref 72], (hpC q1, Q))) rfl ?_
  obtain ⟨q2, hq2, h⟩ := Option.bind_eq_some_iff.mp h
  refine h_callO (As := [.ref 78]) (r1 := some (.int q2.1)) (st := [.ref 72]) (H1 := (hpC q2.2, Q)) rfl rfl rfl rfl rfl rfl (m118_r78_ok hq2) ?_
  refine h_it 6 (x' := (30, [(0, .ref 65), (1, .ref (pa z1)), (2, .ref 78)], [.ref (pa (gZ q2.2 6)), .ref (pa (gZ q2.2 6)), .ref 65], (hpC (sR q2.2 11 (xsPush 6001 (gR q2.2 11) q2.1)), Q))) rfl ?_
  refine h_callO (As := []) (r1 := some (.int (nI ((gP q2.2 (gZ q2.2 6) 6)).length))) (st := [.ref (pa (gZ q2.2 6)), .ref 65]) (H1 := (hpC (sR q2.2 11 (xsPush 6001 (gR q2.2 11) q2.1)), Q)) rfl rfl rfl rfl rfl hp_pa (m57_ok (gZ q2.2 6) (sR q2.2 11 (xsPush 6001 (gR q2.2 11) q2.1))) ?_
  refine h_it 2 (x' := (35, [(0, .ref 65), (1, .ref (pa z1)), (2, .ref 78)], [.int ((nI ((gP q2.2 (gZ q2.2 6) 6)).length) - 1), .ref (pa (gZ q2.2 6)), .ref 65], (hpC (sR q2.2 11 (xsPush 6001 (gR q2.2 11) q2.1)), Q))) rfl ?_
  refine h_callO (As := [.int ((nI ((gP q2.2 (gZ q2.2 6) 6)).length) - 1)]) (r1 := some (.int ((xsAt (gP q2.2 (gZ q2.2 6) 6) ((nI ((gP q2.2 (gZ q2.2 6) 6)).length) - 1)) + 1))) (st := [.ref 65]) (H1 := (hpC (sR q2.2 11 (xsPush 6001 (gR q2.2 11) q2.1)), Q)) rfl rfl rfl rfl rfl hp_pa (m74_ok (gZ q2.2 6) ((nI ((gP q2.2 (gZ q2.2 6) 6)).length) - 1) (sR q2.2 11 (xsPush 6001 (gR q2.2 11) q2.1))) ?_
  refine h_it 3 (x' := (43, [(3, .int 0), (0, .ref 65), (1, .ref (pa z1)), (2, .ref 78)], [], (hpC (sI (sR q2.2 11 (xsPush 6001 (gR q2.2 11) q2.1)) 13 ((xsAt (gP q2.2 (gZ q2.2 6) 6) ((nI ((gP q2.2 (gZ q2.2 6) 6)).length) - 1)) + 1)), Q))) rfl ?_
  refine h_lw (lv := [(0, .ref 65), (3, .int 0)]) (fa_c rfl (fa_c rfl (fa_n))) rfl ?_
  exact m115_r78_43_ok  1000000 0 (sI (sR q2.2 11 (xsPush 6001 (gR q2.2 11) q2.1)) 13 ((xsAt (gP q2.2 (gZ q2.2 6) 6) ((nI ((gP q2.2 (gZ q2.2 6) 6)).length) - 1)) + 1)) _ h
end Sm115_r78
section Sm130_r83
variable {V : xmV} {L : List Nat} {Kc Ks : Nat} {Q : List xE}
theorem m130_r83_15_ok   : ∀ (n : Nat) (x2 : Int32) (x3 : Int32) (s : xSt) (q : xSt), m130_r83_15  n x2 x3 s = some q → HE V L Kc Ks 130 (15, [(0, .ref 65), (1, .ref 83), (2, .int x2), (3, .int x3)], [], (hpC s, Q)) (none) (hpC q, Q) := by
  intro n
  induction n with
  | zero => intro x2 x3 s q h; cases h
  | succ n ih =>
    intro x2 x3 s q h
    unfold m130_r83_15 at h
    refine h_it 4 (x' := (23, [(0, .ref 65), (1, .ref 83), (2, .int x2), (3, .int x3)], [.int (nI ((gR s 12)).length), .int x3], (hpC s, Q))) rfl ?_
    refine h_br (b := decide ((nI ((gR s 12)).length) ≤ x3)) (t := 57) (f := 26) (lv' := [(0, .ref 65), (1, .ref 83), (2, .int x2), (3, .int x3)]) (st' := []) rfl rfl ?_
    by_cases h1 : (nI ((gR s 12)).length) ≤ x3
    · replace h := if_y h1 h
      refine h_y h1 ?_
      replace h := Option.some.inj h; subst h
      exact h_vret rfl rfl
    · replace h := if_n h1 h
      refine h_n h1 ?_
      refine h_it 1 (x' := (27, [(0, .ref 65), (1, .ref 83), (2, .int x2), (3, .int x3)], [.int x2], (hpC s, Q))) rfl ?_
      refine h_br (b := decide (x2 = 0)) (t := 57) (f := 30) (lv' := [(0, .ref 65), (1, .ref 83), (2, .int x2), (3, .int x3)]) (st' := []) rfl rfl ?_
      by_cases h2 : x2 = 0
      · replace h := if_y h2 h
        refine h_y h2 ?_
        replace h := Option.some.inj h; subst h
        exact h_vret rfl rfl
      · replace h := if_n h2 h
        refine h_n h2 ?_
        refine h_it 13 (x' := (15, [(3, .int (x3 + 1)), (2, .int (xsAt (gR s 13) x2)), (0, .ref 65), (1, .ref 83)], [], (hpC (sR s 16 (xsPush 2065 (gR s 16) (xsAt (gR s 12) x2))), Q))) rfl ?_
        refine h_lw (lv := [(0, .ref 65), (1, .ref 83), (2, .int (xsAt (gR s 13) x2)), (3, .int (x3 + 1))]) (fa_c rfl (fa_c rfl (fa_c rfl (fa_c rfl (fa_n))))) rfl ?_
        exact ih (xsAt (gR s 13) x2) (x3 + 1) (sR s 16 (xsPush 2065 (gR s 16) (xsAt (gR s 12) x2))) _ h
theorem m130_r83_ok  {s : xSt} {q : xSt} (h : m130_r83  s = some q) : HC V L Kc Ks 130 [.ref 65, .ref 83] (hpC s, Q) (none) (hpC q, Q) := by
  unfold m130_r83 at h
  refine hc_of (by decide) rfl ?_
  refine h_it 9 (x' := (15, [(3, .int 0), (2, .int (xsTop (gR s 10))), (0, .ref 65), (1, .ref 83)], [], (hpC (sR s 16 (xsCut (gR s 16) 0)), Q))) rfl ?_
  refine h_lw (lv := [(0, .ref 65), (1, .ref 83), (2, .int (xsTop (gR s 10))), (3, .int 0)]) (fa_c rfl (fa_c rfl (fa_c rfl (fa_c rfl (fa_n))))) rfl ?_
  exact m130_r83_15_ok  1000000 (xsTop (gR s 10)) 0 (sR s 16 (xsCut (gR s 16) 0)) _ h
end Sm130_r83
section Sm131
variable {V : xmV} {L : List Nat} {Kc Ks : Nat} {Q : List xE}
theorem m131_ok  (s : xSt) : HC V L Kc Ks 131 [.ref 65] (hpC s, Q) (some (.int (gI s 14))) (hpC s, Q) := by
  refine hc_of (by decide) rfl ?_
  refine h_it 2 (x' := (4, [(0, .ref 65)], [.int (gI s 14)], (hpC s, Q))) rfl ?_
  exact h_iret rfl rfl
end Sm131
section Sm136
variable {V : xmV} {L : List Nat} {Kc Ks : Nat} {Q : List xE}
theorem m136_ok  {s : xSt} {q : xSt} (h : m136  s = some q) : HC V L Kc Ks 136 [.ref 0] (hpC s, Q) (none) (hpC q, Q) := by
  unfold m136 at h
  refine hc_of (by decide) rfl ?_
  refine h_it 4 (x' := (8, [(0, .ref 0)], [.ref 83, .ref 65], (hpC s, Q))) rfl ?_
  obtain ⟨q1, hq1, h⟩ := Option.bind_eq_some_iff.mp h
  refine h_callO (As := [.ref 83]) (r1 := none) (st := []) (H1 := (hpC q1, Q)) rfl rfl rfl rfl rfl rfl (m130_r83_ok hq1) ?_
  refine h_it 3 (x' := (16, [(0, .ref 0)], [.ref 65, .ref 0], (hpC q1, Q))) rfl ?_
  refine h_callO (As := []) (r1 := some (.int (gI q1 14))) (st := [.ref 0]) (H1 := (hpC q1, Q)) rfl rfl rfl rfl rfl rfl (m131_ok  q1) ?_
  replace h := Option.some.inj h; subst h
  refine h_it 1 (x' := (22, [(0, .ref 0)], [], (hpC (sI q1 0 (gI q1 14)), Q))) rfl ?_
  exact h_vret rfl rfl
end Sm136
section Sm135
variable {V : xmV} {L : List Nat} {Kc Ks : Nat} {Q : List xE}
theorem m135_ok  {s : xSt} {q : xSt} (h : m135  s = some q) : HC V L Kc Ks 135 [.ref 0] (hpC s, Q) (none) (hpC q, Q) := by
  unfold m135 at h
  refine hc_of (by decide) rfl ?_
  refine h_it 6 (x' := (12, [(0, .ref 0)], [.ref 78, .ref (pa (gZ s 1)), .ref 65], (hpC s, Q))) rfl ?_
  obtain ⟨q1, hq1, h⟩ := Option.bind_eq_some_iff.mp h
  refine h_callO (As := [.ref (pa (gZ s 1)), .ref 78]) (r1 := some (.int (b01 q1.1))) (st := []) (H1 := (hpC q1.2, Q)) rfl rfl rfl rfl rfl rfl (m115_r78_ok hq1) ?_
  refine h_br (b := decide (¬ (b01 q1.1) = 0)) (t := 29) (f := 18) (lv' := [(0, .ref 0)]) (st' := []) rfl rfl ?_
  by_cases h2 : q1.1 = true
  · replace h := if_y h2 h
    refine h_y (b01_1 h2) ?_
    refine h_it 12 (x' := (49, [(1, .ref (pa (gZ q1.2 0))), (0, .ref 0)], [.int (b01 true), .ref 0], (hpC (sZ (sZ q1.2 0 (gZ q1.2 1)) 1 (gZ q1.2 0)), Q))) rfl ?_
    refine h_putZ (ty := .boolean) rfl rfl rfl ?_
    show HE V L Kc Ks 135 (52, [(1, .ref (pa (gZ q1.2 0))), (0, .ref 0)], [], (hpC (sZ (sZ (sZ q1.2 0 (gZ q1.2 1)) 1 (gZ q1.2 0)) 2 true), Q)) _ _
    refine h_it 1 (x' := (53, [(1, .ref (pa (gZ q1.2 0))), (0, .ref 0)], [.ref 0], (hpC (sZ (sZ (sZ q1.2 0 (gZ q1.2 1)) 1 (gZ q1.2 0)) 2 true), Q))) rfl ?_
    obtain ⟨q3, hq3, h⟩ := Option.bind_eq_some_iff.mp h
    refine h_callO (As := []) (r1 := none) (st := []) (H1 := (hpC q3, Q)) rfl rfl rfl rfl rfl rfl (m136_ok hq3) ?_
    replace h := Option.some.inj h; subst h
    exact h_vret rfl rfl
  · replace h := if_n h2 h
    refine h_n (fun z => z (b01_0 h2)) ?_
    refine h_it 4 (x' := (25, [(0, .ref 0)], [.int (-1), .int 7, .ref 47], (hpC q1.2, Q))) rfl ?_
    obtain ⟨q4, hq4, h⟩ := Option.bind_eq_some_iff.mp h
    refine h_callO (As := [.int 7, .int (-1)]) (r1 := none) (st := []) (H1 := (hpC q4, Q)) rfl rfl rfl rfl rfl rfl (m14_ok hq4) ?_
    replace h := Option.some.inj h; subst h
    exact h_vret rfl rfl
end Sm135
section Sm22
variable {V : xmV} {L : List Nat} {Kc Ks : Nat} {Q : List xE}
theorem m22_4_ok   : ∀ (n : Nat) (x0 : Nat) (x1 : Int64) (x3 : Int32) (s : xSt) (q : Int64 × xSt), m22_4  n x0 x1 x3 s = some q → HE V L Kc Ks 22 (4, [(0, .retAddr x0), (1, .long x1), (3, .int x3)], [], (hpC s, Q)) (some (.long q.1)) (hpC q.2, Q) := by
  intro n
  induction n with
  | zero => intro x0 x1 x3 s q h; cases h
  | succ n ih =>
    intro x0 x1 x3 s q h
    unfold m22_4 at h
    refine h_it 2 (x' := (6, [(0, .retAddr x0), (1, .long x1), (3, .int x3)], [.retAddr x0, .int x3], (hpC s, Q))) rfl ?_
    obtain ⟨v1, hv1, h⟩ := Option.bind_eq_some_iff.mp h
    refine h_callT (As := []) (r1 := some (.int v1)) (st := [.int x3]) rfl rfl (xt_ltL hv1) rfl rfl rfl (xt_len_ok hv1) ?_
    refine h_br (b := decide (v1 ≤ x3)) (t := 28) (f := 12) (lv' := [(0, .retAddr x0), (1, .long x1), (3, .int x3)]) (st' := []) rfl rfl ?_
    by_cases h2 : v1 ≤ x3
    · replace h := if_y h2 h
      refine h_y h2 ?_
      replace h := Option.some.inj h; subst h
      refine h_it 1 (x' := (29, [(0, .retAddr x0), (1, .long x1), (3, .int x3)], [.long x1], (hpC s, Q))) rfl ?_
      exact h_lret rfl rfl
    · replace h := if_n h2 h
      refine h_n h2 ?_
      refine h_it 3 (x' := (15, [(0, .retAddr x0), (1, .long x1), (3, .int x3)], [.int x3, .retAddr x0, .long x1], (hpC s, Q))) rfl ?_
      obtain ⟨v3, hv3, h⟩ := Option.bind_eq_some_iff.mp h
      refine h_callT (As := [.int x3]) (r1 := some (.int v3)) (st := [.long x1]) rfl rfl (xt_ltA hv3) rfl rfl rfl (xt_at_ok hv3) ?_
      refine h_callS (av := [.long x1, .int v3]) (r1 := some (.long ((x1 * 32) + (Int32.toInt64 ((v3 - 97) + 1))))) (st := []) (H1 := (hpC s, Q)) rfl rfl rfl rfl rfl (m17_ok x1 v3 s) ?_
      refine h_it 3 (x' := (4, [(3, .int (x3 + 1)), (1, .long ((x1 * 32) + (Int32.toInt64 ((v3 - 97) + 1)))), (0, .retAddr x0)], [], (hpC s, Q))) rfl ?_
      refine h_lw (lv := [(0, .retAddr x0), (1, .long ((x1 * 32) + (Int32.toInt64 ((v3 - 97) + 1)))), (3, .int (x3 + 1))]) (fa_c rfl (fa_c rfl (fa_c rfl (fa_n)))) rfl ?_
      exact ih x0 ((x1 * 32) + (Int32.toInt64 ((v3 - 97) + 1))) (x3 + 1) s _ h
theorem m22_ok {t0 : Nat} {s : xSt} {q : Int64 × xSt} (h : m22 t0 s = some q) : HC V L Kc Ks 22 [.retAddr t0] (hpC s, Q) (some (.long q.1)) (hpC q.2, Q) := by
  unfold m22 at h
  refine hc_of (by decide) rfl ?_
  refine h_it 4 (x' := (4, [(3, .int 0), (1, .long 0), (0, .retAddr t0)], [], (hpC s, Q))) rfl ?_
  refine h_lw (lv := [(0, .retAddr t0), (1, .long 0), (3, .int 0)]) (fa_c rfl (fa_c rfl (fa_c rfl (fa_n)))) rfl ?_
  exact m22_4_ok  1000000 t0 0 0 s _ h
end Sm22
section Sm65
variable {V : xmV} {L : List Nat} {Kc Ks : Nat} {Q : List xE}
theorem m65_okf (a1 : Int32) (s : xSt) : HC V L Kc Ks 65 [.ref (pa false), .int a1] (hpC s, Q) (some (.int (xsAt (gP s false 0) (xsAt (gP s false 6) a1)))) (hpC s, Q) := by
  refine hc_of (by decide) rfl ?_
  refine h_it 7 (x' := (15, [(0, .ref (pa false)), (1, .int a1)], [.int (xsAt (gP s false 0) (xsAt (gP s false 6) a1))], (hpC s, Q))) rfl ?_
  exact h_iret rfl rfl
theorem m65_okt (a1 : Int32) (s : xSt) : HC V L Kc Ks 65 [.ref (pa true), .int a1] (hpC s, Q) (some (.int (xsAt (gP s true 0) (xsAt (gP s true 6) a1)))) (hpC s, Q) := by
  refine hc_of (by decide) rfl ?_
  refine h_it 7 (x' := (15, [(0, .ref (pa true)), (1, .int a1)], [.int (xsAt (gP s true 0) (xsAt (gP s true 6) a1))], (hpC s, Q))) rfl ?_
  exact h_iret rfl rfl
theorem m65_ok (z0 : Bool) (a1 : Int32) (s : xSt) : HC V L Kc Ks 65 [.ref (pa z0), .int a1] (hpC s, Q) (some (.int (xsAt (gP s z0 0) (xsAt (gP s z0 6) a1)))) (hpC s, Q) := by
  cases z0
  · exact m65_okf a1 s
  · exact m65_okt a1 s
end Sm65
section Sm66
variable {V : xmV} {L : List Nat} {Kc Ks : Nat} {Q : List xE}
theorem m66_okf (a1 : Int32) (s : xSt) : HC V L Kc Ks 66 [.ref (pa false), .int a1] (hpC s, Q) (some (.int (xsAt (gP s false 7) a1))) (hpC s, Q) := by
  refine hc_of (by decide) rfl ?_
  refine h_it 4 (x' := (8, [(0, .ref (pa false)), (1, .int a1)], [.int (xsAt (gP s false 7) a1)], (hpC s, Q))) rfl ?_
  exact h_iret rfl rfl
theorem m66_okt (a1 : Int32) (s : xSt) : HC V L Kc Ks 66 [.ref (pa true), .int a1] (hpC s, Q) (some (.int (xsAt (gP s true 7) a1))) (hpC s, Q) := by
  refine hc_of (by decide) rfl ?_
  refine h_it 4 (x' := (8, [(0, .ref (pa true)), (1, .int a1)], [.int (xsAt (gP s true 7) a1)], (hpC s, Q))) rfl ?_
  exact h_iret rfl rfl
theorem m66_ok (z0 : Bool) (a1 : Int32) (s : xSt) : HC V L Kc Ks 66 [.ref (pa z0), .int a1] (hpC s, Q) (some (.int (xsAt (gP s z0 7) a1))) (hpC s, Q) := by
  cases z0
  · exact m66_okf a1 s
  · exact m66_okt a1 s
end Sm66
section Sm68
variable {V : xmV} {L : List Nat} {Kc Ks : Nat} {Q : List xE}
theorem m68_okf (a1 : Int32) (a2 : Int32) (s : xSt) : HC V L Kc Ks 68 [.ref (pa false), .int a1, .int a2] (hpC s, Q) (some (.int (xsAt (gP s false 9) ((a1 * 8) + a2)))) (hpC s, Q) := by
  refine hc_of (by decide) rfl ?_
  refine h_it 8 (x' := (13, [(0, .ref (pa false)), (1, .int a1), (2, .int a2)], [.int (xsAt (gP s false 9) ((a1 * 8) + a2))], (hpC s, Q))) rfl ?_
  exact h_iret rfl rfl
theorem m68_okt (a1 : Int32) (a2 : Int32) (s : xSt) : HC V L Kc Ks 68 [.ref (pa true), .int a1, .int a2] (hpC s, Q) (some (.int (xsAt (gP s true 9) ((a1 * 8) + a2)))) (hpC s, Q) := by
  refine hc_of (by decide) rfl ?_
  refine h_it 8 (x' := (13, [(0, .ref (pa true)), (1, .int a1), (2, .int a2)], [.int (xsAt (gP s true 9) ((a1 * 8) + a2))], (hpC s, Q))) rfl ?_
  exact h_iret rfl rfl
theorem m68_ok (z0 : Bool) (a1 : Int32) (a2 : Int32) (s : xSt) : HC V L Kc Ks 68 [.ref (pa z0), .int a1, .int a2] (hpC s, Q) (some (.int (xsAt (gP s z0 9) ((a1 * 8) + a2)))) (hpC s, Q) := by
  cases z0
  · exact m68_okf a1 a2 s
  · exact m68_okt a1 a2 s
end Sm68
section Sm69
variable {V : xmV} {L : List Nat} {Kc Ks : Nat} {Q : List xE}
theorem m69_okf (a1 : Int32) (s : xSt) : HC V L Kc Ks 69 [.ref (pa false), .int a1] (hpC s, Q) (some (.int (xsAt (gP s false 5) a1))) (hpC s, Q) := by
  refine hc_of (by decide) rfl ?_
  refine h_it 4 (x' := (8, [(0, .ref (pa false)), (1, .int a1)], [.int (xsAt (gP s false 5) a1)], (hpC s, Q))) rfl ?_
  exact h_iret rfl rfl
theorem m69_okt (a1 : Int32) (s : xSt) : HC V L Kc Ks 69 [.ref (pa true), .int a1] (hpC s, Q) (some (.int (xsAt (gP s true 5) a1))) (hpC s, Q) := by
  refine hc_of (by decide) rfl ?_
  refine h_it 4 (x' := (8, [(0, .ref (pa true)), (1, .int a1)], [.int (xsAt (gP s true 5) a1)], (hpC s, Q))) rfl ?_
  exact h_iret rfl rfl
theorem m69_ok (z0 : Bool) (a1 : Int32) (s : xSt) : HC V L Kc Ks 69 [.ref (pa z0), .int a1] (hpC s, Q) (some (.int (xsAt (gP s z0 5) a1))) (hpC s, Q) := by
  cases z0
  · exact m69_okf a1 s
  · exact m69_okt a1 s
end Sm69
section Sm51
variable {V : xmV} {L : List Nat} {Kc Ks : Nat} {Q : List xE}
theorem m51_ok  (s : xSt) : HC V L Kc Ks 51 [.ref 48] (hpC s, Q) (some (.int (nI ((gR s 0)).length))) (hpC s, Q) := by
  refine hc_of (by decide) rfl ?_
  refine h_it 3 (x' := (7, [(0, .ref 48)], [.int (nI ((gR s 0)).length)], (hpC s, Q))) rfl ?_
  exact h_iret rfl rfl
end Sm51
section Sm101
variable {V : xmV} {L : List Nat} {Kc Ks : Nat} {Q : List xE}
theorem m101_130_ok   {x1 : Int32} {s : xSt} {q : xSt} (h : m101_130  x1 s = some q) : HE V L Kc Ks 101 (130, [(0, .ref 57), (1, .int x1)], [], (hpC s, Q)) (none) (hpC q, Q) := by
  unfold m101_130 at h
  refine h_it 6 (x' := (140, [(0, .ref 57), (1, .int x1)], [.int x1, .ref (pa (gZ s 5)), .int 4, .ref 47], (hpC s, Q))) rfl ?_
  refine h_callO (As := [.int x1]) (r1 := some (.int (xsAt (gP s (gZ s 5) 5) x1))) (st := [.int 4, .ref 47]) (H1 := (hpC s, Q)) rfl rfl rfl rfl rfl hp_pa (m69_ok (gZ s 5) x1 s) ?_
  obtain ⟨q12, hq12, h⟩ := Option.bind_eq_some_iff.mp h
  refine h_callO (As := [.int 4, .int (xsAt (gP s (gZ s 5) 5) x1)]) (r1 := none) (st := []) (H1 := (hpC q12, Q)) rfl rfl rfl rfl rfl rfl (m14_ok hq12) ?_
  replace h := Option.some.inj h; subst h
  exact h_vret rfl rfl
theorem m101_115_ok   {x1 : Int32} {x2 : Bool} {x3 : Bool} {y0 : Bool} {s : xSt} {q : xSt} (h : m101_115  x1 x2 x3 y0 s = some q) : HE V L Kc Ks 101 (115, [(0, .ref 57), (1, .int x1), (2, .int (b01 x2)), (3, .int (b01 x3))], [.int (b01 y0)], (hpC s, Q)) (none) (hpC q, Q) := by
  unfold m101_115 at h
  refine h_it 2 (x' := (118, [(4, .int (b01 y0)), (0, .ref 57), (1, .int x1), (2, .int (b01 x2)), (3, .int (b01 x3))], [.int (b01 x2)], (hpC s, Q))) rfl ?_
  refine h_br (b := decide ((b01 x2) = 0)) (t := 130) (f := 121) (lv' := [(4, .int (b01 y0)), (0, .ref 57), (1, .int x1), (2, .int (b01 x2)), (3, .int (b01 x3))]) (st' := []) rfl rfl ?_
  by_cases h9 : x2 = true
  · replace h := if_y h9 h
    refine h_n (b01_1 h9) ?_
    refine h_it 1 (x' := (122, [(4, .int (b01 y0)), (0, .ref 57), (1, .int x1), (2, .int (b01 x2)), (3, .int (b01 x3))], [.int (b01 x3)], (hpC s, Q))) rfl ?_
    refine h_br (b := decide ((b01 x3) = 0)) (t := 130) (f := 125) (lv' := [(4, .int (b01 y0)), (0, .ref 57), (1, .int x1), (2, .int (b01 x2)), (3, .int (b01 x3))]) (st' := []) rfl rfl ?_
    by_cases h10 : x3 = true
    · replace h := if_y h10 h
      refine h_n (b01_1 h10) ?_
      refine h_it 1 (x' := (127, [(4, .int (b01 y0)), (0, .ref 57), (1, .int x1), (2, .int (b01 x2)), (3, .int (b01 x3))], [.int (b01 y0)], (hpC s, Q))) rfl ?_
      refine h_br (b := decide (¬ (b01 y0) = 0)) (t := 146) (f := 130) (lv' := [(4, .int (b01 y0)), (0, .ref 57), (1, .int x1), (2, .int (b01 x2)), (3, .int (b01 x3))]) (st' := []) rfl rfl ?_
      by_cases h11 : y0 = true
      · replace h := if_y h11 h
        refine h_y (b01_1 h11) ?_
        replace h := Option.some.inj h; subst h
        exact h_vret rfl rfl
      · replace h := if_n h11 h
        refine h_n (fun z => z (b01_0 h11)) ?_
        refine h_lw (lv := [(0, .ref 57), (1, .int x1)]) (fa_c rfl (fa_c rfl (fa_n))) rfl ?_
        exact m101_130_ok  h
    · replace h := if_n h10 h
      refine h_y (b01_0 h10) ?_
      refine h_lw (lv := [(0, .ref 57), (1, .int x1)]) (fa_c rfl (fa_c rfl (fa_n))) rfl ?_
      exact m101_130_ok  h
  · replace h := if_n h9 h
    refine h_y (b01_0 h9) ?_
    refine h_lw (lv := [(0, .ref 57), (1, .int x1)]) (fa_c rfl (fa_c rfl (fa_n))) rfl ?_
    exact m101_130_ok  h
theorem m101_114_ok   {x1 : Int32} {x2 : Bool} {x3 : Bool} {s : xSt} {q : xSt} (h : m101_114  x1 x2 x3 s = some q) : HE V L Kc Ks 101 (114, [(0, .ref 57), (1, .int x1), (2, .int (b01 x2)), (3, .int (b01 x3))], [], (hpC s, Q)) (none) (hpC q, Q) := by
  unfold m101_114 at h
  refine h_it 1 (x' := (115, [(0, .ref 57), (1, .int x1), (2, .int (b01 x2)), (3, .int (b01 x3))], [.int 0], (hpC s, Q))) rfl ?_
  refine h_lw (lv := [(0, .ref 57), (1, .int x1), (2, .int (b01 x2)), (3, .int (b01 x3))]) (fa_c rfl (fa_c rfl (fa_c rfl (fa_c rfl (fa_n))))) rfl ?_
  exact m101_115_ok  h
theorem m101_83_ok   {x1 : Int32} {x2 : Bool} {y0 : Bool} {s : xSt} {q : xSt} (h : m101_83  x1 x2 y0 s = some q) : HE V L Kc Ks 101 (83, [(0, .ref 57), (1, .int x1), (2, .int (b01 x2))], [.int (b01 y0)], (hpC s, Q)) (none) (hpC q, Q) := by
  unfold m101_83 at h
  refine h_it 4 (x' := (89, [(3, .int (b01 y0)), (0, .ref 57), (1, .int x1), (2, .int (b01 x2))], [.int x1, .ref (pa (gZ s 5))], (hpC s, Q))) rfl ?_
  refine h_callO (As := [.int x1]) (r1 := some (.int (xsAt (gP s (gZ s 5) 8) x1))) (st := []) (H1 := (hpC s, Q)) rfl rfl rfl rfl rfl hp_pa (m67_ok (gZ s 5) x1 s) ?_
  refine h_it 1 (x' := (93, [(3, .int (b01 y0)), (0, .ref 57), (1, .int x1), (2, .int (b01 x2))], [.int 1, .int (xsAt (gP s (gZ s 5) 8) x1)], (hpC s, Q))) rfl ?_
  refine h_br (b := decide (¬ (xsAt (gP s (gZ s 5) 8) x1) = 1)) (t := 114) (f := 96) (lv' := [(3, .int (b01 y0)), (0, .ref 57), (1, .int x1), (2, .int (b01 x2))]) (st' := []) rfl rfl ?_
  by_cases h7 : (xsAt (gP s (gZ s 5) 8) x1) = 1
  · replace h := if_y h7 h
    refine h_n (fun z => z h7) ?_
    refine h_it 4 (x' := (102, [(3, .int (b01 y0)), (0, .ref 57), (1, .int x1), (2, .int (b01 x2))], [.int 0, .int x1, .ref (pa (gZ s 5))], (hpC s, Q))) rfl ?_
    refine h_callO (As := [.int x1, .int 0]) (r1 := some (.int (xsAt (gP s (gZ s 5) 9) ((x1 * 8) + 0)))) (st := []) (H1 := (hpC s, Q)) rfl rfl rfl rfl rfl hp_pa (m68_ok (gZ s 5) x1 0 s) ?_
    refine h_it 1 (x' := (107, [(3, .int (b01 y0)), (0, .ref 57), (1, .int x1), (2, .int (b01 x2))], [.int 15, .int (xsAt (gP s (gZ s 5) 9) ((x1 * 8) + 0))], (hpC s, Q))) rfl ?_
    refine h_br (b := decide (¬ (xsAt (gP s (gZ s 5) 9) ((x1 * 8) + 0)) = 15)) (t := 114) (f := 110) (lv' := [(3, .int (b01 y0)), (0, .ref 57), (1, .int x1), (2, .int (b01 x2))]) (st' := []) rfl rfl ?_
    by_cases h8 : (xsAt (gP s (gZ s 5) 9) ((x1 * 8) + 0)) = 15
    · replace h := if_y h8 h
      refine h_n (fun z => z h8) ?_
      refine h_it 2 (x' := (115, [(3, .int (b01 y0)), (0, .ref 57), (1, .int x1), (2, .int (b01 x2))], [.int 1], (hpC s, Q))) rfl ?_
      refine h_lw (lv := [(0, .ref 57), (1, .int x1), (2, .int (b01 x2)), (3, .int (b01 y0))]) (fa_c rfl (fa_c rfl (fa_c rfl (fa_c rfl (fa_n))))) rfl ?_
      exact m101_115_ok  h
    · replace h := if_n h8 h
      refine h_y h8 ?_
      refine h_lw (lv := [(0, .ref 57), (1, .int x1), (2, .int (b01 x2)), (3, .int (b01 y0))]) (fa_c rfl (fa_c rfl (fa_c rfl (fa_c rfl (fa_n))))) rfl ?_
      exact m101_114_ok  h
  · replace h := if_n h7 h
    refine h_y h7 ?_
    refine h_lw (lv := [(0, .ref 57), (1, .int x1), (2, .int (b01 x2)), (3, .int (b01 y0))]) (fa_c rfl (fa_c rfl (fa_c rfl (fa_c rfl (fa_n))))) rfl ?_
    exact m101_114_ok  h
theorem m101_82_ok   {x1 : Int32} {x2 : Bool} {s : xSt} {q : xSt} (h : m101_82  x1 x2 s = some q) : HE V L Kc Ks 101 (82, [(0, .ref 57), (1, .int x1), (2, .int (b01 x2))], [], (hpC s, Q)) (none) (hpC q, Q) := by
  unfold m101_82 at h
  refine h_it 1 (x' := (83, [(0, .ref 57), (1, .int x1), (2, .int (b01 x2))], [.int 0], (hpC s, Q))) rfl ?_
  refine h_lw (lv := [(0, .ref 57), (1, .int x1), (2, .int (b01 x2))]) (fa_c rfl (fa_c rfl (fa_c rfl (fa_n)))) rfl ?_
  exact m101_83_ok  h
theorem m101_51_ok   {x1 : Int32} {y0 : Bool} {s : xSt} {q : xSt} (h : m101_51  x1 y0 s = some q) : HE V L Kc Ks 101 (51, [(0, .ref 57), (1, .int x1)], [.int (b01 y0)], (hpC s, Q)) (none) (hpC q, Q) := by
  unfold m101_51 at h
  refine h_it 4 (x' := (57, [(2, .int (b01 y0)), (0, .ref 57), (1, .int x1)], [.int x1, .ref (pa (gZ s 5))], (hpC s, Q))) rfl ?_
  refine h_callO (As := [.int x1]) (r1 := some (.int (xsAt (gP s (gZ s 5) 0) (xsAt (gP s (gZ s 5) 6) x1)))) (st := []) (H1 := (hpC s, Q)) rfl rfl rfl rfl rfl hp_pa (m65_ok (gZ s 5) x1 s) ?_
  refine h_it 1 (x' := (62, [(2, .int (b01 y0)), (0, .ref 57), (1, .int x1)], [.int 22, .int (xsAt (gP s (gZ s 5) 0) (xsAt (gP s (gZ s 5) 6) x1))], (hpC s, Q))) rfl ?_
  refine h_br (b := decide (¬ (xsAt (gP s (gZ s 5) 0) (xsAt (gP s (gZ s 5) 6) x1)) = 22)) (t := 82) (f := 65) (lv' := [(2, .int (b01 y0)), (0, .ref 57), (1, .int x1)]) (st' := []) rfl rfl ?_
  by_cases h5 : (xsAt (gP s (gZ s 5) 0) (xsAt (gP s (gZ s 5) 6) x1)) = 22
  · replace h := if_y h5 h
    refine h_n (fun z => z h5) ?_
    refine h_it 3 (x' := (70, [(2, .int (b01 y0)), (0, .ref 57), (1, .int x1)], [.int x1, .ref (pa (gZ s 5))], (hpC s, Q))) rfl ?_
    refine h_callO (As := [.int x1]) (r1 := some (.int (xsAt (gP s (gZ s 5) 7) x1))) (st := []) (H1 := (hpC s, Q)) rfl rfl rfl rfl rfl hp_pa (m66_ok (gZ s 5) x1 s) ?_
    refine h_it 1 (x' := (75, [(2, .int (b01 y0)), (0, .ref 57), (1, .int x1)], [.int 15, .int (xsAt (gP s (gZ s 5) 7) x1)], (hpC s, Q))) rfl ?_
    refine h_br (b := decide (¬ (xsAt (gP s (gZ s 5) 7) x1) = 15)) (t := 82) (f := 78) (lv' := [(2, .int (b01 y0)), (0, .ref 57), (1, .int x1)]) (st' := []) rfl rfl ?_
    by_cases h6 : (xsAt (gP s (gZ s 5) 7) x1) = 15
    · replace h := if_y h6 h
      refine h_n (fun z => z h6) ?_
      refine h_it 2 (x' := (83, [(2, .int (b01 y0)), (0, .ref 57), (1, .int x1)], [.int 1], (hpC s, Q))) rfl ?_
      refine h_lw (lv := [(0, .ref 57), (1, .int x1), (2, .int (b01 y0))]) (fa_c rfl (fa_c rfl (fa_c rfl (fa_n)))) rfl ?_
      exact m101_83_ok  h
    · replace h := if_n h6 h
      refine h_y h6 ?_
      refine h_lw (lv := [(0, .ref 57), (1, .int x1), (2, .int (b01 y0))]) (fa_c rfl (fa_c rfl (fa_c rfl (fa_n)))) rfl ?_
      exact m101_82_ok  h
  · replace h := if_n h5 h
    refine h_y h5 ?_
    refine h_lw (lv := [(0, .ref 57), (1, .int x1), (2, .int (b01 y0))]) (fa_c rfl (fa_c rfl (fa_c rfl (fa_n)))) rfl ?_
    exact m101_82_ok  h
theorem m101_ok  {s : xSt} {q : xSt} (h : m101  s = some q) : HC V L Kc Ks 101 [.ref 57] (hpC s, Q) (none) (hpC q, Q) := by
  unfold m101 at h
  refine hc_of (by decide) rfl ?_
  refine h_it 2 (x' := (4, [(0, .ref 57)], [.ref (pa (gZ s 5))], (hpC s, Q))) rfl ?_
  refine h_callO (As := []) (r1 := some (.int (nI ((gP s (gZ s 5) 6)).length))) (st := []) (H1 := (hpC s, Q)) rfl rfl rfl rfl rfl hp_pa (m57_ok (gZ s 5) s) ?_
  refine h_it 4 (x' := (11, [(1, .int ((nI ((gP s (gZ s 5) 6)).length) - 1)), (0, .ref 57)], [.int ((nI ((gP s (gZ s 5) 6)).length) - 1)], (hpC s, Q))) rfl ?_
  refine h_br (b := decide (0 ≤ ((nI ((gP s (gZ s 5) 6)).length) - 1))) (t := 30) (f := 14) (lv' := [(1, .int ((nI ((gP s (gZ s 5) 6)).length) - 1)), (0, .ref 57)]) (st' := []) rfl rfl ?_
  by_cases h1 : 0 ≤ ((nI ((gP s (gZ s 5) 6)).length) - 1)
  · replace h := if_y h1 h
    refine h_y h1 ?_
    refine h_it 3 (x' := (36, [(1, .int ((nI ((gP s (gZ s 5) 6)).length) - 1)), (0, .ref 57)], [.retAddr 10, .ref (pa (gZ s 5))], (hpC s, Q))) rfl ?_
    obtain ⟨q2, hq2, h⟩ := Option.bind_eq_some_iff.mp h
    refine h_callS (av := [.retAddr 10]) (r1 := some (.long q2.1)) (st := [.ref (pa (gZ s 5))]) (H1 := (hpC q2.2, Q)) rfl rfl rfl rfl rfl (m22_ok hq2) ?_
    obtain ⟨q3, hq3, h⟩ := Option.bind_eq_some_iff.mp h
    refine h_callO (As := [.long q2.1]) (r1 := some (.int q3.1)) (st := []) (H1 := (hpC q3.2, Q)) rfl rfl rfl rfl rfl hp_pa (m60_ok hq3) ?_
    refine h_it 1 (x' := (43, [(1, .int ((nI ((gP s (gZ s 5) 6)).length) - 1)), (0, .ref 57)], [.int ((nI ((gP s (gZ s 5) 6)).length) - 1), .int q3.1], (hpC q3.2, Q))) rfl ?_
    refine h_br (b := decide (¬ q3.1 = ((nI ((gP s (gZ s 5) 6)).length) - 1))) (t := 50) (f := 46) (lv' := [(1, .int ((nI ((gP s (gZ s 5) 6)).length) - 1)), (0, .ref 57)]) (st' := []) rfl rfl ?_
    by_cases h4 : q3.1 = ((nI ((gP s (gZ s 5) 6)).length) - 1)
    · replace h := if_y h4 h
      refine h_n (fun z => z h4) ?_
      refine h_it 2 (x' := (51, [(1, .int ((nI ((gP s (gZ s 5) 6)).length) - 1)), (0, .ref 57)], [.int 1], (hpC q3.2, Q))) rfl ?_
      refine h_lw (lv := [(0, .ref 57), (1, .int ((nI ((gP s (gZ s 5) 6)).length) - 1))]) (fa_c rfl (fa_c rfl (fa_n))) rfl ?_
      exact m101_51_ok  h
    · replace h := if_n h4 h
      refine h_y h4 ?_
      refine h_it 1 (x' := (51, [(1, .int ((nI ((gP s (gZ s 5) 6)).length) - 1)), (0, .ref 57)], [.int 0], (hpC q3.2, Q))) rfl ?_
      refine h_lw (lv := [(0, .ref 57), (1, .int ((nI ((gP s (gZ s 5) 6)).length) - 1))]) (fa_c rfl (fa_c rfl (fa_n))) rfl ?_
      exact m101_51_ok  h
  · replace h := if_n h1 h
    refine h_n h1 ?_
    refine h_it 5 (x' := (23, [(1, .int ((nI ((gP s (gZ s 5) 6)).length) - 1)), (0, .ref 57)], [.ref 48, .int 4, .ref 47], (hpC s, Q))) rfl ?_
    refine h_callO (As := []) (r1 := some (.int (nI ((gR s 0)).length))) (st := [.int 4, .ref 47]) (H1 := (hpC s, Q)) rfl rfl rfl rfl rfl rfl (m51_ok  s) ?_
    obtain ⟨q13, hq13, h⟩ := Option.bind_eq_some_iff.mp h
    refine h_callO (As := [.int 4, .int (nI ((gR s 0)).length)]) (r1 := none) (st := []) (H1 := (hpC q13, Q)) rfl rfl rfl rfl rfl rfl (m14_ok hq13) ?_
    replace h := Option.some.inj h; subst h
    exact h_vret rfl rfl
end Sm101
section Sm70
variable {V : xmV} {L : List Nat} {Kc Ks : Nat} {Q : List xE}
theorem m70_okf  (s : xSt) : HC V L Kc Ks 70 [.ref (pa false)] (hpC s, Q) (some (.int (nI ((gP s false 0)).length))) (hpC s, Q) := by
  refine hc_of (by decide) rfl ?_
  refine h_it 3 (x' := (7, [(0, .ref (pa false))], [.int (nI ((gP s false 0)).length)], (hpC s, Q))) rfl ?_
  exact h_iret rfl rfl
theorem m70_okt  (s : xSt) : HC V L Kc Ks 70 [.ref (pa true)] (hpC s, Q) (some (.int (nI ((gP s true 0)).length))) (hpC s, Q) := by
  refine hc_of (by decide) rfl ?_
  refine h_it 3 (x' := (7, [(0, .ref (pa true))], [.int (nI ((gP s true 0)).length)], (hpC s, Q))) rfl ?_
  exact h_iret rfl rfl
theorem m70_ok (z0 : Bool) (s : xSt) : HC V L Kc Ks 70 [.ref (pa z0)] (hpC s, Q) (some (.int (nI ((gP s z0 0)).length))) (hpC s, Q) := by
  cases z0
  · exact m70_okf  s
  · exact m70_okt  s
end Sm70
section Sm71
variable {V : xmV} {L : List Nat} {Kc Ks : Nat} {Q : List xE}
theorem m71_okf (a1 : Int32) (s : xSt) : HC V L Kc Ks 71 [.ref (pa false), .int a1] (hpC s, Q) (some (.int (xsAt (gP s false 1) a1))) (hpC s, Q) := by
  refine hc_of (by decide) rfl ?_
  refine h_it 4 (x' := (8, [(0, .ref (pa false)), (1, .int a1)], [.int (xsAt (gP s false 1) a1)], (hpC s, Q))) rfl ?_
  exact h_iret rfl rfl
theorem m71_okt (a1 : Int32) (s : xSt) : HC V L Kc Ks 71 [.ref (pa true), .int a1] (hpC s, Q) (some (.int (xsAt (gP s true 1) a1))) (hpC s, Q) := by
  refine hc_of (by decide) rfl ?_
  refine h_it 4 (x' := (8, [(0, .ref (pa true)), (1, .int a1)], [.int (xsAt (gP s true 1) a1)], (hpC s, Q))) rfl ?_
  exact h_iret rfl rfl
theorem m71_ok (z0 : Bool) (a1 : Int32) (s : xSt) : HC V L Kc Ks 71 [.ref (pa z0), .int a1] (hpC s, Q) (some (.int (xsAt (gP s z0 1) a1))) (hpC s, Q) := by
  cases z0
  · exact m71_okf a1 s
  · exact m71_okt a1 s
end Sm71
section Sm104
variable {V : xmV} {L : List Nat} {Kc Ks : Nat} {Q : List xE}
theorem m104_6_ok   : ∀ (n : Nat) (x1 : Int32) (x2 : Int32) (x3 : Int32) (s : xSt) (q : Int32 × xSt), m104_6  n x1 x2 x3 s = some q → HE V L Kc Ks 104 (6, [(0, .ref 57), (1, .int x1), (2, .int x2), (3, .int x3)], [], (hpC s, Q)) (some (.int q.1)) (hpC q.2, Q) := by
  intro n
  induction n with
  | zero => intro x1 x2 x3 s q h; cases h
  | succ n ih =>
    intro x1 x2 x3 s q h
    unfold m104_6 at h
    refine h_it 4 (x' := (12, [(0, .ref 57), (1, .int x1), (2, .int x2), (3, .int x3)], [.int x1, .ref (pa (gZ s 5)), .int x3], (hpC s, Q))) rfl ?_
    refine h_callO (As := [.int x1]) (r1 := some (.int (xsAt (gP s (gZ s 5) 4) x1))) (st := [.int x3]) (H1 := (hpC s, Q)) rfl rfl rfl rfl rfl hp_pa (m72_ok (gZ s 5) x1 s) ?_
    refine h_br (b := decide ((xsAt (gP s (gZ s 5) 4) x1) ≤ x3)) (t := 39) (f := 18) (lv' := [(0, .ref 57), (1, .int x1), (2, .int x2), (3, .int x3)]) (st' := []) rfl rfl ?_
    by_cases h1 : (xsAt (gP s (gZ s 5) 4) x1) ≤ x3
    · replace h := if_y h1 h
      refine h_y h1 ?_
      replace h := Option.some.inj h; subst h
      refine h_it 1 (x' := (40, [(0, .ref 57), (1, .int x1), (2, .int x2), (3, .int x3)], [.int x2], (hpC s, Q))) rfl ?_
      exact h_iret rfl rfl
    · replace h := if_n h1 h
      refine h_n h1 ?_
      refine h_it 2 (x' := (21, [(0, .ref 57), (1, .int x1), (2, .int x2), (3, .int x3)], [.int 8, .int x2], (hpC s, Q))) rfl ?_
      refine h_br (b := decide (8 < x2)) (t := 39) (f := 24) (lv' := [(0, .ref 57), (1, .int x1), (2, .int x2), (3, .int x3)]) (st' := []) rfl rfl ?_
      by_cases h2 : 8 < x2
      · replace h := if_y h2 h
        refine h_y h2 ?_
        replace h := Option.some.inj h; subst h
        refine h_it 1 (x' := (40, [(0, .ref 57), (1, .int x1), (2, .int x2), (3, .int x3)], [.int x2], (hpC s, Q))) rfl ?_
        exact h_iret rfl rfl
      · replace h := if_n h2 h
        refine h_n h2 ?_
        refine h_it 3 (x' := (29, [(0, .ref 57), (1, .int x1), (2, .int x2), (3, .int x3)], [.int x3, .ref (pa (gZ s 5))], (hpC s, Q))) rfl ?_
        refine h_callO (As := [.int x3]) (r1 := some (.int (xsAt (gP s (gZ s 5) 4) x3))) (st := []) (H1 := (hpC s, Q)) rfl rfl rfl rfl rfl hp_pa (m72_ok (gZ s 5) x3 s) ?_
        refine h_it 3 (x' := (6, [(2, .int (x2 + 1)), (3, .int (xsAt (gP s (gZ s 5) 4) x3)), (0, .ref 57), (1, .int x1)], [], (hpC s, Q))) rfl ?_
        refine h_lw (lv := [(0, .ref 57), (1, .int x1), (2, .int (x2 + 1)), (3, .int (xsAt (gP s (gZ s 5) 4) x3))]) (fa_c rfl (fa_c rfl (fa_c rfl (fa_c rfl (fa_n))))) rfl ?_
        exact ih x1 (x2 + 1) (xsAt (gP s (gZ s 5) 4) x3) s _ h
theorem m104_ok {a1 : Int32} {s : xSt} {q : Int32 × xSt} (h : m104 a1 s = some q) : HC V L Kc Ks 104 [.ref 57, .int a1] (hpC s, Q) (some (.int q.1)) (hpC q.2, Q) := by
  unfold m104 at h
  refine hc_of (by decide) rfl ?_
  refine h_it 6 (x' := (6, [(3, .int (a1 + 1)), (2, .int 0), (0, .ref 57), (1, .int a1)], [], (hpC s, Q))) rfl ?_
  refine h_lw (lv := [(0, .ref 57), (1, .int a1), (2, .int 0), (3, .int (a1 + 1))]) (fa_c rfl (fa_c rfl (fa_c rfl (fa_c rfl (fa_n))))) rfl ?_
  exact m104_6_ok  1000000 a1 0 (a1 + 1) s _ h
end Sm104
section Sm103
variable {V : xmV} {L : List Nat} {Kc Ks : Nat} {Q : List xE}
theorem m103_81_ok   {x2 : Int32} {s : xSt} {q : xSt} (h : m103_81  x2 s = some q) : HE V L Kc Ks 103 (81, [(0, .ref 57), (2, .int x2)], [], (hpC s, Q)) (none) (hpC q, Q) := by
  unfold m103_81 at h
  refine h_it 4 (x' := (87, [(0, .ref 57), (2, .int x2)], [.int x2, .int 5, .ref 47], (hpC s, Q))) rfl ?_
  obtain ⟨q5, hq5, h⟩ := Option.bind_eq_some_iff.mp h
  refine h_callO (As := [.int 5, .int x2]) (r1 := none) (st := []) (H1 := (hpC q5, Q)) rfl rfl rfl rfl rfl rfl (m14_ok hq5) ?_
  replace h := Option.some.inj h; subst h
  exact h_vret rfl rfl
theorem m103_45_ok   {x1 : Int32} {x2 : Int32} {x3 : Int32} {y0 : Int32} {s : xSt} {q : xSt} (h : m103_45  x1 x2 x3 y0 s = some q) : HE V L Kc Ks 103 (45, [(0, .ref 57), (1, .int x1), (2, .int x2), (3, .int x3)], [.int y0], (hpC s, Q)) (none) (hpC q, Q) := by
  unfold m103_45 at h
  refine h_it 3 (x' := (49, [(4, .int y0), (0, .ref 57), (1, .int x1), (2, .int x2), (3, .int x3)], [.int (-1), .int x3], (hpC s, Q))) rfl ?_
  refine h_br (b := decide (x3 = (-1))) (t := 81) (f := 52) (lv' := [(4, .int y0), (0, .ref 57), (1, .int x1), (2, .int x2), (3, .int x3)]) (st' := []) rfl rfl ?_
  by_cases h4 : x3 = (-1)
  · replace h := if_y h4 h
    refine h_y h4 ?_
    refine h_lw (lv := [(0, .ref 57), (2, .int x2)]) (fa_c rfl (fa_c rfl (fa_n))) rfl ?_
    exact m103_81_ok  h
  · replace h := if_n h4 h
    refine h_n h4 ?_
    refine h_it 3 (x' := (57, [(4, .int y0), (0, .ref 57), (1, .int x1), (2, .int x2), (3, .int x3)], [.int x3, .ref (pa (gZ s 5))], (hpC s, Q))) rfl ?_
    refine h_callO (As := [.int x3]) (r1 := some (.int (xsAt (gP s (gZ s 5) 0) (xsAt (gP s (gZ s 5) 6) x3)))) (st := []) (H1 := (hpC s, Q)) rfl rfl rfl rfl rfl hp_pa (m65_ok (gZ s 5) x3 s) ?_
    refine h_it 1 (x' := (62, [(4, .int y0), (0, .ref 57), (1, .int x1), (2, .int x2), (3, .int x3)], [.int y0, .int (xsAt (gP s (gZ s 5) 0) (xsAt (gP s (gZ s 5) 6) x3))], (hpC s, Q))) rfl ?_
    refine h_br (b := decide (¬ (xsAt (gP s (gZ s 5) 0) (xsAt (gP s (gZ s 5) 6) x3)) = y0)) (t := 81) (f := 65) (lv' := [(4, .int y0), (0, .ref 57), (1, .int x1), (2, .int x2), (3, .int x3)]) (st' := []) rfl rfl ?_
    by_cases h6 : (xsAt (gP s (gZ s 5) 0) (xsAt (gP s (gZ s 5) 6) x3)) = y0
    · replace h := if_y h6 h
      refine h_n (fun z => z h6) ?_
      refine h_it 3 (x' := (70, [(4, .int y0), (0, .ref 57), (1, .int x1), (2, .int x2), (3, .int x3)], [.int x3, .ref (pa (gZ s 5))], (hpC s, Q))) rfl ?_
      refine h_callO (As := [.int x3]) (r1 := some (.int (xsAt (gP s (gZ s 5) 8) x3))) (st := []) (H1 := (hpC s, Q)) rfl rfl rfl rfl rfl hp_pa (m67_ok (gZ s 5) x3 s) ?_
      refine h_it 2 (x' := (75, [(4, .int y0), (0, .ref 57), (1, .int x1), (2, .int x2), (3, .int x3)], [.int x1, .ref 57, .int (xsAt (gP s (gZ s 5) 8) x3)], (hpC s, Q))) rfl ?_
      obtain ⟨q7, hq7, h⟩ := Option.bind_eq_some_iff.mp h
      refine h_callO (As := [.int x1]) (r1 := some (.int q7.1)) (st := [.int (xsAt (gP s (gZ s 5) 8) x3)]) (H1 := (hpC q7.2, Q)) rfl rfl rfl rfl rfl rfl (m104_ok hq7) ?_
      refine h_br (b := decide ((xsAt (gP s (gZ s 5) 8) x3) = q7.1)) (t := 91) (f := 81) (lv' := [(4, .int y0), (0, .ref 57), (1, .int x1), (2, .int x2), (3, .int x3)]) (st' := []) rfl rfl ?_
      by_cases h8 : (xsAt (gP s (gZ s 5) 8) x3) = q7.1
      · replace h := if_y h8 h
        refine h_y h8 ?_
        refine h_it 4 (x' := (97, [(4, .int y0), (0, .ref 57), (1, .int x1), (2, .int x2), (3, .int x3)], [.int x3, .int x1, .ref (pa (gZ q7.2 5))], (hpC q7.2, Q))) rfl ?_
        refine h_callO (As := [.int x1, .int x3]) (r1 := none) (st := []) (H1 := (hpC (sP q7.2 (gZ q7.2 5) 2 (xsSet (gP q7.2 (gZ q7.2 5) 2) x1 x3)), Q)) rfl rfl rfl rfl rfl hp_pa (m62_ok (gZ q7.2 5) x1 x3 q7.2) ?_
        replace h := Option.some.inj h; subst h
        exact h_vret rfl rfl
      · replace h := if_n h8 h
        refine h_n h8 ?_
        refine h_lw (lv := [(0, .ref 57), (2, .int x2)]) (fa_c rfl (fa_c rfl (fa_n))) rfl ?_
        exact m103_81_ok  h
    · replace h := if_n h6 h
      refine h_y h6 ?_
      refine h_lw (lv := [(0, .ref 57), (2, .int x2)]) (fa_c rfl (fa_c rfl (fa_n))) rfl ?_
      exact m103_81_ok  h
theorem m103_ok {a1 : Int32} {s : xSt} {q : xSt} (h : m103 a1 s = some q) : HC V L Kc Ks 103 [.ref 57, .int a1] (hpC s, Q) (none) (hpC q, Q) := by
  unfold m103 at h
  refine hc_of (by decide) rfl ?_
  refine h_it 3 (x' := (5, [(0, .ref 57), (1, .int a1)], [.int a1, .ref (pa (gZ s 5))], (hpC s, Q))) rfl ?_
  refine h_callO (As := [.int a1]) (r1 := some (.int (xsAt (gP s (gZ s 5) 2) a1))) (st := []) (H1 := (hpC s, Q)) rfl rfl rfl rfl rfl hp_pa (m55_ok (gZ s 5) a1 s) ?_
  refine h_it 6 (x' := (18, [(2, .int (xsAt (gP s (gZ s 5) 2) a1)), (0, .ref 57), (1, .int a1)], [.int (xsAt (gP s (gZ s 5) 2) a1), .ref 48, .ref (pa (gZ s 5))], (hpC s, Q))) rfl ?_
  obtain ⟨q1, hq1, h⟩ := Option.bind_eq_some_iff.mp h
  refine h_callO (As := [.int (xsAt (gP s (gZ s 5) 2) a1)]) (r1 := some (.long q1.1)) (st := [.ref (pa (gZ s 5))]) (H1 := (hpC q1.2, Q)) rfl rfl rfl rfl rfl rfl (m37_ok hq1) ?_
  obtain ⟨q2, hq2, h⟩ := Option.bind_eq_some_iff.mp h
  refine h_callO (As := [.long q1.1]) (r1 := some (.int q2.1)) (st := []) (H1 := (hpC q2.2, Q)) rfl rfl rfl rfl rfl hp_pa (m60_ok hq2) ?_
  refine h_it 4 (x' := (30, [(3, .int q2.1), (2, .int (xsAt (gP s (gZ s 5) 2) a1)), (0, .ref 57), (1, .int a1)], [.int a1, .ref (pa (gZ q2.2 5))], (hpC q2.2, Q))) rfl ?_
  refine h_callO (As := [.int a1]) (r1 := some (.int (xsAt (gP q2.2 (gZ q2.2 5) 0) a1))) (st := []) (H1 := (hpC q2.2, Q)) rfl rfl rfl rfl rfl hp_pa (m54_ok (gZ q2.2 5) a1 q2.2) ?_
  refine h_it 1 (x' := (35, [(3, .int q2.1), (2, .int (xsAt (gP s (gZ s 5) 2) a1)), (0, .ref 57), (1, .int a1)], [.int 18, .int (xsAt (gP q2.2 (gZ q2.2 5) 0) a1)], (hpC q2.2, Q))) rfl ?_
  refine h_br (b := decide (¬ (xsAt (gP q2.2 (gZ q2.2 5) 0) a1) = 18)) (t := 43) (f := 38) (lv' := [(3, .int q2.1), (2, .int (xsAt (gP s (gZ s 5) 2) a1)), (0, .ref 57), (1, .int a1)]) (st' := []) rfl rfl ?_
  by_cases h3 : (xsAt (gP q2.2 (gZ q2.2 5) 0) a1) = 18
  · replace h := if_y h3 h
    refine h_n (fun z => z h3) ?_
    refine h_it 2 (x' := (45, [(3, .int q2.1), (2, .int (xsAt (gP s (gZ s 5) 2) a1)), (0, .ref 57), (1, .int a1)], [.int 23], (hpC q2.2, Q))) rfl ?_
    refine h_lw (lv := [(0, .ref 57), (1, .int a1), (2, .int (xsAt (gP s (gZ s 5) 2) a1)), (3, .int q2.1)]) (fa_c rfl (fa_c rfl (fa_c rfl (fa_c rfl (fa_n))))) rfl ?_
    exact m103_45_ok  h
  · replace h := if_n h3 h
    refine h_y h3 ?_
    refine h_it 1 (x' := (45, [(3, .int q2.1), (2, .int (xsAt (gP s (gZ s 5) 2) a1)), (0, .ref 57), (1, .int a1)], [.int 22], (hpC q2.2, Q))) rfl ?_
    refine h_lw (lv := [(0, .ref 57), (1, .int a1), (2, .int (xsAt (gP s (gZ s 5) 2) a1)), (3, .int q2.1)]) (fa_c rfl (fa_c rfl (fa_c rfl (fa_c rfl (fa_n))))) rfl ?_
    exact m103_45_ok  h
end Sm103
section Sm106
variable {V : xmV} {L : List Nat} {Kc Ks : Nat} {Q : List xE}
theorem m106_ok {a1 : Int32} {a2 : Int32} {s : xSt} {q : xSt} (h : m106 a1 a2 s = some q) : HC V L Kc Ks 106 [.ref 57, .int a1, .int a2] (hpC s, Q) (none) (hpC q, Q) := by
  unfold m106 at h
  refine hc_of (by decide) rfl ?_
  refine h_it 1 (x' := (1, [(0, .ref 57), (1, .int a1), (2, .int a2)], [.int a1], (hpC s, Q))) rfl ?_
  refine h_br (b := decide (a1 < 0)) (t := 20) (f := 4) (lv' := [(0, .ref 57), (1, .int a1), (2, .int a2)]) (st' := []) rfl rfl ?_
  by_cases h1 : a1 < 0
  · replace h := if_y h1 h
    refine h_y h1 ?_
    replace h := Option.some.inj h; subst h
    exact h_vret rfl rfl
  · replace h := if_n h1 h
    refine h_n h1 ?_
    refine h_it 3 (x' := (9, [(0, .ref 57), (1, .int a1), (2, .int a2)], [.ref 64, .int a1], (hpC s, Q))) rfl ?_
    refine h_ilen rfl rfl ?_
    refine h_br (b := decide ((nI ((gR s 7)).length) ≤ a1)) (t := 20) (f := 13) (lv' := [(0, .ref 57), (1, .int a1), (2, .int a2)]) (st' := []) rfl rfl ?_
    by_cases h2 : (nI ((gR s 7)).length) ≤ a1
    · replace h := if_y h2 h
      refine h_y h2 ?_
      replace h := Option.some.inj h; subst h
      exact h_vret rfl rfl
    · replace h := if_n h2 h
      refine h_n h2 ?_
      refine h_it 4 (x' := (19, [(0, .ref 57), (1, .int a1), (2, .int a2)], [.int a2, .int a1, .ref 64], (hpC s, Q))) rfl ?_
      obtain ⟨u3, hu3, h⟩ := Option.bind_eq_some_iff.mp h
      refine h_iast rfl rfl hu3 ?_
      show HE V L Kc Ks 106 (20, [(0, .ref 57), (1, .int a1), (2, .int a2)], [], (hpC (sR s 7 u3), Q)) _ _
      replace h := Option.some.inj h; subst h
      exact h_vret rfl rfl
end Sm106
section Sm105
variable {V : xmV} {L : List Nat} {Kc Ks : Nat} {Q : List xE}
theorem m105_2_ok   : ∀ (n : Nat) (x1 : Int32) (x2 : Int32) (s : xSt) (q : xSt), m105_2  n x1 x2 s = some q → HE V L Kc Ks 105 (2, [(0, .ref 57), (1, .int x1), (2, .int x2)], [], (hpC s, Q)) (none) (hpC q, Q) := by
  intro n
  induction n with
  | zero => intro x1 x2 s q h; cases h
  | succ n ih =>
    intro x1 x2 s q h
    unfold m105_2 at h
    refine h_it 4 (x' := (8, [(0, .ref 57), (1, .int x1), (2, .int x2)], [.int x1, .ref (pa (gZ s 5)), .int x2], (hpC s, Q))) rfl ?_
    refine h_callO (As := [.int x1]) (r1 := some (.int (xsAt (gP s (gZ s 5) 8) x1))) (st := [.int x2]) (H1 := (hpC s, Q)) rfl rfl rfl rfl rfl hp_pa (m67_ok (gZ s 5) x1 s) ?_
    refine h_br (b := decide ((xsAt (gP s (gZ s 5) 8) x1) ≤ x2)) (t := 34) (f := 14) (lv' := [(0, .ref 57), (1, .int x1), (2, .int x2)]) (st' := []) rfl rfl ?_
    by_cases h1 : (xsAt (gP s (gZ s 5) 8) x1) ≤ x2
    · replace h := if_y h1 h
      refine h_y h1 ?_
      replace h := Option.some.inj h; subst h
      exact h_vret rfl rfl
    · replace h := if_n h1 h
      refine h_n h1 ?_
      refine h_it 6 (x' := (22, [(0, .ref 57), (1, .int x1), (2, .int x2)], [.int x2, .int x1, .ref (pa (gZ s 5)), .int x2, .ref 57], (hpC s, Q))) rfl ?_
      refine h_callO (As := [.int x1, .int x2]) (r1 := some (.int (xsAt (gP s (gZ s 5) 9) ((x1 * 8) + x2)))) (st := [.int x2, .ref 57]) (H1 := (hpC s, Q)) rfl rfl rfl rfl rfl hp_pa (m68_ok (gZ s 5) x1 x2 s) ?_
      obtain ⟨q2, hq2, h⟩ := Option.bind_eq_some_iff.mp h
      refine h_callO (As := [.int x2, .int (xsAt (gP s (gZ s 5) 9) ((x1 * 8) + x2))]) (r1 := none) (st := []) (H1 := (hpC q2, Q)) rfl rfl rfl rfl rfl rfl (m106_ok hq2) ?_
      refine h_it 2 (x' := (2, [(2, .int (x2 + 1)), (0, .ref 57), (1, .int x1)], [], (hpC q2, Q))) rfl ?_
      refine h_lw (lv := [(0, .ref 57), (1, .int x1), (2, .int (x2 + 1))]) (fa_c rfl (fa_c rfl (fa_c rfl (fa_n)))) rfl ?_
      exact ih x1 (x2 + 1) q2 _ h
theorem m105_ok {a1 : Int32} {s : xSt} {q : xSt} (h : m105 a1 s = some q) : HC V L Kc Ks 105 [.ref 57, .int a1] (hpC s, Q) (none) (hpC q, Q) := by
  unfold m105 at h
  refine hc_of (by decide) rfl ?_
  refine h_it 2 (x' := (2, [(2, .int 0), (0, .ref 57), (1, .int a1)], [], (hpC s, Q))) rfl ?_
  refine h_lw (lv := [(0, .ref 57), (1, .int a1), (2, .int 0)]) (fa_c rfl (fa_c rfl (fa_c rfl (fa_n)))) rfl ?_
  exact m105_2_ok  1000000 a1 0 s _ h
end Sm105
section Sm102
variable {V : xmV} {L : List Nat} {Kc Ks : Nat} {Q : List xE}
theorem m102_85_ok   {x1 : Int32} {s : xSt} {q : xSt} (h : m102_85  x1 s = some q) : HE V L Kc Ks 102 (85, [(0, .ref 57), (1, .int x1)], [], (hpC s, Q)) (none) (hpC q, Q) := by
  unfold m102_85 at h
  replace h := Option.some.inj h; subst h
  refine h_it 12 (x' := (109, [(0, .ref 57), (1, .int x1)], [], (hpC (sR (sR (sR s 4 (xsPush 4097 (gR s 4) x1)) 5 (xsPush 4097 (gR s 5) 0)) 6 (xsPush 4097 (gR s 6) 0)), Q))) rfl ?_
  exact h_vret rfl rfl
theorem m102_73_ok   {x1 : Int32} {s : xSt} {q : xSt} (h : m102_73  x1 s = some q) : HE V L Kc Ks 102 (73, [(0, .ref 57), (1, .int x1)], [], (hpC s, Q)) (none) (hpC q, Q) := by
  unfold m102_73 at h
  refine h_it 4 (x' := (79, [(0, .ref 57), (1, .int x1)], [.int x1, .ref (pa (gZ s 5)), .ref 57], (hpC s, Q))) rfl ?_
  refine h_callO (As := [.int x1]) (r1 := some (.int (xsAt (gP s (gZ s 5) 2) x1))) (st := [.ref 57]) (H1 := (hpC s, Q)) rfl rfl rfl rfl rfl hp_pa (m55_ok (gZ s 5) x1 s) ?_
  obtain ⟨q8, hq8, h⟩ := Option.bind_eq_some_iff.mp h
  refine h_callO (As := [.int (xsAt (gP s (gZ s 5) 2) x1)]) (r1 := none) (st := []) (H1 := (hpC q8, Q)) rfl rfl rfl rfl rfl rfl (m105_ok hq8) ?_
  refine h_lw (lv := [(0, .ref 57), (1, .int x1)]) (fa_c rfl (fa_c rfl (fa_n))) rfl ?_
  exact m102_85_ok  h
theorem m102_46_ok   {x1 : Int32} {x2 : Int32} {s : xSt} {q : xSt} (h : m102_46  x1 x2 s = some q) : HE V L Kc Ks 102 (46, [(0, .ref 57), (1, .int x1), (2, .int x2)], [], (hpC s, Q)) (none) (hpC q, Q) := by
  unfold m102_46 at h
  refine h_it 1 (x' := (47, [(0, .ref 57), (1, .int x1), (2, .int x2)], [.int x2], (hpC s, Q))) rfl ?_
  obtain ⟨q4, hq4, h⟩ := Option.bind_eq_some_iff.mp h
  refine h_callS (av := [.int x2]) (r1 := some (.int (b01 q4.1))) (st := []) (H1 := (hpC q4.2, Q)) rfl rfl rfl rfl rfl (m23_ok hq4) ?_
  refine h_br (b := decide ((b01 q4.1) = 0)) (t := 61) (f := 53) (lv' := [(0, .ref 57), (1, .int x1), (2, .int x2)]) (st' := []) rfl rfl ?_
  by_cases h5 : q4.1 = true
  · replace h := if_y h5 h
    refine h_n (b01_1 h5) ?_
    refine h_it 2 (x' := (55, [(0, .ref 57), (1, .int x1), (2, .int x2)], [.int x1, .ref 57], (hpC q4.2, Q))) rfl ?_
    obtain ⟨q6, hq6, h⟩ := Option.bind_eq_some_iff.mp h
    refine h_callO (As := [.int x1]) (r1 := none) (st := []) (H1 := (hpC q6, Q)) rfl rfl rfl rfl rfl rfl (m103_ok hq6) ?_
    refine h_it 1 (x' := (85, [(0, .ref 57), (1, .int x1), (2, .int x2)], [], (hpC q6, Q))) rfl ?_
    refine h_lw (lv := [(0, .ref 57), (1, .int x1)]) (fa_c rfl (fa_c rfl (fa_n))) rfl ?_
    exact m102_85_ok  h
  · replace h := if_n h5 h
    refine h_y (b01_0 h5) ?_
    refine h_it 2 (x' := (64, [(0, .ref 57), (1, .int x1), (2, .int x2)], [.int 22, .int x2], (hpC q4.2, Q))) rfl ?_
    refine h_br (b := decide (x2 = 22)) (t := 73) (f := 67) (lv' := [(0, .ref 57), (1, .int x1), (2, .int x2)]) (st' := []) rfl rfl ?_
    by_cases h7 : x2 = 22
    · replace h := if_y h7 h
      refine h_y h7 ?_
      refine h_lw (lv := [(0, .ref 57), (1, .int x1)]) (fa_c rfl (fa_c rfl (fa_n))) rfl ?_
      exact m102_73_ok  h
    · replace h := if_n h7 h
      refine h_n h7 ?_
      refine h_it 2 (x' := (70, [(0, .ref 57), (1, .int x1), (2, .int x2)], [.int 23, .int x2], (hpC q4.2, Q))) rfl ?_
      refine h_br (b := decide (¬ x2 = 23)) (t := 85) (f := 73) (lv' := [(0, .ref 57), (1, .int x1), (2, .int x2)]) (st' := []) rfl rfl ?_
      by_cases h9 : x2 = 23
      · replace h := if_y h9 h
        refine h_n (fun z => z h9) ?_
        refine h_lw (lv := [(0, .ref 57), (1, .int x1)]) (fa_c rfl (fa_c rfl (fa_n))) rfl ?_
        exact m102_73_ok  h
      · replace h := if_n h9 h
        refine h_y h9 ?_
        refine h_lw (lv := [(0, .ref 57), (1, .int x1)]) (fa_c rfl (fa_c rfl (fa_n))) rfl ?_
        exact m102_85_ok  h
theorem m102_ok {a1 : Int32} {s : xSt} {q : xSt} (h : m102 a1 s = some q) : HC V L Kc Ks 102 [.ref 57, .int a1] (hpC s, Q) (none) (hpC q, Q) := by
  unfold m102 at h
  refine hc_of (by decide) rfl ?_
  refine h_it 3 (x' := (5, [(0, .ref 57), (1, .int a1)], [.int a1, .ref (pa (gZ s 5))], (hpC s, Q))) rfl ?_
  refine h_callO (As := [.int a1]) (r1 := some (.int (xsAt (gP s (gZ s 5) 0) a1))) (st := []) (H1 := (hpC s, Q)) rfl rfl rfl rfl rfl hp_pa (m54_ok (gZ s 5) a1 s) ?_
  refine h_it 3 (x' := (12, [(2, .int (xsAt (gP s (gZ s 5) 0) a1)), (0, .ref 57), (1, .int a1)], [.int 25, .int (xsAt (gP s (gZ s 5) 0) a1)], (hpC s, Q))) rfl ?_
  refine h_br (b := decide (¬ (xsAt (gP s (gZ s 5) 0) a1) = 25)) (t := 46) (f := 15) (lv' := [(2, .int (xsAt (gP s (gZ s 5) 0) a1)), (0, .ref 57), (1, .int a1)]) (st' := []) rfl rfl ?_
  by_cases h1 : (xsAt (gP s (gZ s 5) 0) a1) = 25
  · replace h := if_y h1 h
    refine h_n (fun z => z h1) ?_
    refine h_it 3 (x' := (20, [(2, .int (xsAt (gP s (gZ s 5) 0) a1)), (0, .ref 57), (1, .int a1)], [.int a1, .ref (pa (gZ s 5))], (hpC s, Q))) rfl ?_
    refine h_callO (As := [.int a1]) (r1 := some (.int (xsAt (gP s (gZ s 5) 2) a1))) (st := []) (H1 := (hpC s, Q)) rfl rfl rfl rfl rfl hp_pa (m55_ok (gZ s 5) a1 s) ?_
    refine h_it 1 (x' := (24, [(2, .int (xsAt (gP s (gZ s 5) 0) a1)), (0, .ref 57), (1, .int a1)], [.int (-1), .int (xsAt (gP s (gZ s 5) 2) a1)], (hpC s, Q))) rfl ?_
    refine h_br (b := decide (¬ (xsAt (gP s (gZ s 5) 2) a1) = (-1))) (t := 46) (f := 27) (lv' := [(2, .int (xsAt (gP s (gZ s 5) 0) a1)), (0, .ref 57), (1, .int a1)]) (st' := []) rfl rfl ?_
    by_cases h2 : (xsAt (gP s (gZ s 5) 2) a1) = (-1)
    · replace h := if_y h2 h
      refine h_n (fun z => z h2) ?_
      refine h_it 6 (x' := (37, [(2, .int (xsAt (gP s (gZ s 5) 0) a1)), (0, .ref 57), (1, .int a1)], [.int a1, .ref (pa (gZ s 5)), .int 5, .ref 47], (hpC s, Q))) rfl ?_
      refine h_callO (As := [.int a1]) (r1 := some (.int (xsAt (gP s (gZ s 5) 1) a1))) (st := [.int 5, .ref 47]) (H1 := (hpC s, Q)) rfl rfl rfl rfl rfl hp_pa (m71_ok (gZ s 5) a1 s) ?_
      obtain ⟨q3, hq3, h⟩ := Option.bind_eq_some_iff.mp h
      refine h_callO (As := [.int 5, .int (xsAt (gP s (gZ s 5) 1) a1)]) (r1 := none) (st := []) (H1 := (hpC q3, Q)) rfl rfl rfl rfl rfl rfl (m14_ok hq3) ?_
      refine h_it 1 (x' := (85, [(2, .int (xsAt (gP s (gZ s 5) 0) a1)), (0, .ref 57), (1, .int a1)], [], (hpC q3, Q))) rfl ?_
      refine h_lw (lv := [(0, .ref 57), (1, .int a1)]) (fa_c rfl (fa_c rfl (fa_n))) rfl ?_
      exact m102_85_ok  h
    · replace h := if_n h2 h
      refine h_y h2 ?_
      refine h_lw (lv := [(0, .ref 57), (1, .int a1), (2, .int (xsAt (gP s (gZ s 5) 0) a1))]) (fa_c rfl (fa_c rfl (fa_c rfl (fa_n)))) rfl ?_
      exact m102_46_ok  h
  · replace h := if_n h1 h
    refine h_y h1 ?_
    refine h_lw (lv := [(0, .ref 57), (1, .int a1), (2, .int (xsAt (gP s (gZ s 5) 0) a1))]) (fa_c rfl (fa_c rfl (fa_c rfl (fa_n)))) rfl ?_
    exact m102_46_ok  h
end Sm102
section Sm107
variable {V : xmV} {L : List Nat} {Kc Ks : Nat} {Q : List xE}
theorem m107_ok {a1 : Int32} {s : xSt} {q : Bool × xSt} (h : m107 a1 s = some q) : HC V L Kc Ks 107 [.ref 57, .int a1] (hpC s, Q) (some (.int (b01 q.1))) (hpC q.2, Q) := by
  unfold m107 at h
  refine hc_of (by decide) rfl ?_
  refine h_it 5 (x' := (11, [(0, .ref 57), (1, .int a1)], [.int (xsTop (gR s 4)), .ref (pa (gZ s 5))], (hpC s, Q))) rfl ?_
  refine h_callO (As := [.int (xsTop (gR s 4))]) (r1 := some (.int (xsAt (gP s (gZ s 5) 4) (xsTop (gR s 4))))) (st := []) (H1 := (hpC s, Q)) rfl rfl rfl rfl rfl hp_pa (m72_ok (gZ s 5) (xsTop (gR s 4)) s) ?_
  refine h_it 3 (x' := (17, [(0, .ref 57), (1, .int a1)], [.int (a1 + 1), .int (xsAt (gP s (gZ s 5) 4) (xsTop (gR s 4)))], (hpC s, Q))) rfl ?_
  refine h_br (b := decide (¬ (xsAt (gP s (gZ s 5) 4) (xsTop (gR s 4))) = (a1 + 1))) (t := 24) (f := 20) (lv' := [(0, .ref 57), (1, .int a1)]) (st' := []) rfl rfl ?_
  by_cases h1 : (xsAt (gP s (gZ s 5) 4) (xsTop (gR s 4))) = (a1 + 1)
  · replace h := if_y h1 h
    refine h_n (fun z => z h1) ?_
    replace h := Option.some.inj h; subst h
    refine h_it 2 (x' := (25, [(0, .ref 57), (1, .int a1)], [.int (b01 true)], (hpC s, Q))) rfl ?_
    exact h_zret rfl rfl
  · replace h := if_n h1 h
    refine h_y h1 ?_
    replace h := Option.some.inj h; subst h
    refine h_it 1 (x' := (25, [(0, .ref 57), (1, .int a1)], [.int (b01 false)], (hpC s, Q))) rfl ?_
    exact h_zret rfl rfl
end Sm107
section Sm110
variable {V : xmV} {L : List Nat} {Kc Ks : Nat} {Q : List xE}
theorem m110_ok {a1 : Int32} {s : xSt} {q : Int32 × xSt} (h : m110 a1 s = some q) : HC V L Kc Ks 110 [.ref 57, .int a1] (hpC s, Q) (some (.int q.1)) (hpC q.2, Q) := by
  unfold m110 at h
  refine hc_of (by decide) rfl ?_
  refine h_it 1 (x' := (1, [(0, .ref 57), (1, .int a1)], [.int a1], (hpC s, Q))) rfl ?_
  refine h_br (b := decide (a1 < 0)) (t := 22) (f := 4) (lv' := [(0, .ref 57), (1, .int a1)]) (st' := []) rfl rfl ?_
  by_cases h1 : a1 < 0
  · replace h := if_y h1 h
    refine h_y h1 ?_
    replace h := Option.some.inj h; subst h
    refine h_it 1 (x' := (23, [(0, .ref 57), (1, .int a1)], [.int 0], (hpC s, Q))) rfl ?_
    exact h_iret rfl rfl
  · replace h := if_n h1 h
    refine h_n h1 ?_
    refine h_it 3 (x' := (9, [(0, .ref 57), (1, .int a1)], [.ref 64, .int a1], (hpC s, Q))) rfl ?_
    refine h_ilen rfl rfl ?_
    refine h_br (b := decide ((nI ((gR s 7)).length) ≤ a1)) (t := 22) (f := 13) (lv' := [(0, .ref 57), (1, .int a1)]) (st' := []) rfl rfl ?_
    by_cases h2 : (nI ((gR s 7)).length) ≤ a1
    · replace h := if_y h2 h
      refine h_y h2 ?_
      replace h := Option.some.inj h; subst h
      refine h_it 1 (x' := (23, [(0, .ref 57), (1, .int a1)], [.int 0], (hpC s, Q))) rfl ?_
      exact h_iret rfl rfl
    · replace h := if_n h2 h
      refine h_n h2 ?_
      refine h_it 3 (x' := (18, [(0, .ref 57), (1, .int a1)], [.int a1, .ref 64], (hpC s, Q))) rfl ?_
      obtain ⟨v3, hv3, h⟩ := Option.bind_eq_some_iff.mp h
      refine h_iald rfl rfl hv3 ?_
      replace h := Option.some.inj h; subst h
      refine h_it 1 (x' := (23, [(0, .ref 57), (1, .int a1)], [.int v3], (hpC s, Q))) rfl ?_
      exact h_iret rfl rfl
end Sm110
