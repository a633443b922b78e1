section Sm140
variable {V : xmV} {L : List Nat} {Kc Ks : Nat} {Q : List xE}
theorem m140_ok {a1 : Int32} {a2 : Int32} {s : xSt} {q : Bool × xSt} (h : m140 a1 a2 s = some q) : HC V L Kc Ks 140 [.ref 0, .int a1, .int a2] (hpC s, Q) (some (.int (b01 q.1))) (hpC q.2, Q) := by
  unfold m140 at h
  refine hc_of (by decide) rfl ?_
  refine h_it 4 (x' := (6, [(0, .ref 0), (1, .int a1), (2, .int a2)], [.int a2, .int a1, .ref 80], (hpC s, Q))) rfl ?_
  obtain ⟨q1, hq1, h⟩ := Option.bind_eq_some_iff.mp h
  refine h_callO (As := [.int a1, .int a2]) (r1 := some (.int (b01 q1.1))) (st := []) (H1 := (hpC q1.2, Q)) rfl rfl rfl rfl rfl rfl (m32_ok hq1) ?_
  replace h := Option.some.inj h; subst h
  show HE V L Kc Ks 140 (9, [(0, .ref 0), (1, .int a1), (2, .int a2)], [.int (b01 q1.1)], (hpC q1.2, Q)) _ _
  exact h_zret rfl rfl
end Sm140
section Sm141
variable {V : xmV} {L : List Nat} {Kc Ks : Nat} {Q : List xE}
theorem m141_ok  {s : xSt} {q : xSt} (h : m141  s = some q) : HC V L Kc Ks 141 [.ref 0] (hpC s, Q) (none) (hpC q, Q) := by
  unfold m141 at h
  refine hc_of (by decide) rfl ?_
  refine h_it 4 (x' := (8, [(0, .ref 0)], [.ref 78, .ref 80], (hpC s, Q))) rfl ?_
  obtain ⟨q1, hq1, h⟩ := Option.bind_eq_some_iff.mp h
  refine h_callO (As := [.ref 78]) (r1 := none) (st := []) (H1 := (hpC q1, Q)) rfl rfl rfl rfl rfl rfl (m25_r78_ok hq1) ?_
  replace h := Option.some.inj h; subst h
  exact h_vret rfl rfl
end Sm141
section Sm33
variable {V : xmV} {L : List Nat} {Kc Ks : Nat} {Q : List xE}
theorem m33_ok  (s : xSt) : HC V L Kc Ks 33 [.ref 80] (hpC s, Q) (some (.ref 81)) (hpC s, Q) := by
  refine hc_of (by decide) rfl ?_
  refine h_it 2 (x' := (4, [(0, .ref 80)], [.ref 81], (hpC s, Q))) rfl ?_
  exact h_aret rfl rfl
end Sm33
section Sm118_r81
variable {V : xmV} {L : List Nat} {Kc Ks : Nat} {Q : List xE}
theorem m118_r81_9_ok   : ∀ (n : Nat) (x2 : Int32) (x3 : Int32) (s : xSt) (q : Int32 × xSt), m118_r81_9  n x2 x3 s = some q → HE V L Kc Ks 118 (9, [(0, .ref 65), (1, .ref 81), (2, .int x2), (3, .int x3)], [], (hpC s, Q)) (some (.int q.1)) (hpC q.2, Q) := by
  intro n
  induction n with
  | zero => intro x2 x3 s q h; cases h
  | succ n ih =>
    intro x2 x3 s q h
    unfold m118_r81_9 at h
    refine h_it 1 (x' := (10, [(0, .ref 65), (1, .ref 81), (2, .int x2), (3, .int x3)], [.int x3], (hpC s, Q))) rfl ?_
    refine h_br (b := decide (x3 < 0)) (t := 30) (f := 13) (lv' := [(0, .ref 65), (1, .ref 81), (2, .int x2), (3, .int x3)]) (st' := []) rfl rfl ?_
    by_cases h1 : x3 < 0
    · replace h := if_y h1 h
      refine h_y h1 ?_
      replace h := Option.some.inj h; subst h
      refine h_it 1 (x' := (31, [(0, .ref 65), (1, .ref 81), (2, .int x2), (3, .int x3)], [.int x2], (hpC s, Q))) rfl ?_
      exact h_iret rfl rfl
    · replace h := if_n h1 h
      refine h_n h1 ?_
      refine h_it 5 (x' := (20, [(0, .ref 65), (1, .ref 81), (2, .int x2), (3, .int x3)], [.int x2, .int (xsAt (gR s 15) x3), .ref 65], (hpC s, Q))) rfl ?_
      refine h_callO (As := [.int (xsAt (gR s 15) x3), .int x2]) (r1 := some (.int ((nI ((xsPush 2065 (gR s 12) (xsAt (gR s 15) x3))).length) - 1))) (st := []) (H1 := (hpC (sR (sR s 12 (xsPush 2065 (gR s 12) (xsAt (gR s 15) x3))) 13 (xsPush 2065 (gR s 13) x2)), Q)) rfl rfl rfl rfl rfl rfl (m117_ok (xsAt (gR s 15) x3) x2 s) ?_
      refine h_it 3 (x' := (9, [(3, .int (x3 + (-1))), (2, .int ((nI ((xsPush 2065 (gR s 12) (xsAt (gR s 15) x3))).length) - 1)), (0, .ref 65), (1, .ref 81)], [], (hpC (sR (sR s 12 (xsPush 2065 (gR s 12) (xsAt (gR s 15) x3))) 13 (xsPush 2065 (gR s 13) x2)), Q))) rfl ?_
      refine h_lw (lv := [(0, .ref 65), (1, .ref 81), (2, .int ((nI ((xsPush 2065 (gR s 12) (xsAt (gR s 15) x3))).length) - 1)), (3, .int (x3 + (-1)))]) (fa_c rfl (fa_c rfl (fa_c rfl (fa_c rfl (fa_n))))) rfl ?_
      exact ih ((nI ((xsPush 2065 (gR s 12) (xsAt (gR s 15) x3))).length) - 1) (x3 + (-1)) (sR (sR s 12 (xsPush 2065 (gR s 12) (xsAt (gR s 15) x3))) 13 (xsPush 2065 (gR s 13) x2)) _ h
theorem m118_r81_ok  {s : xSt} {q : Int32 × xSt} (h : m118_r81  s = some q) : HC V L Kc Ks 118 [.ref 65, .ref 81] (hpC s, Q) (some (.int q.1)) (hpC q.2, Q) := by
  unfold m118_r81 at h
  refine hc_of (by decide) rfl ?_
  refine h_it 7 (x' := (9, [(3, .int ((nI ((gR s 15)).length) - 1)), (2, .int 0), (0, .ref 65), (1, .ref 81)], [], (hpC s, Q))) rfl ?_
  refine h_lw (lv := [(0, .ref 65), (1, .ref 81), (2, .int 0), (3, .int ((nI ((gR s 15)).length) - 1))]) (fa_c rfl (fa_c rfl (fa_c rfl (fa_c rfl (fa_n))))) rfl ?_
  exact m118_r81_9_ok  1000000 0 ((nI ((gR s 15)).length) - 1) s _ h
end Sm118_r81
section Sm115_r81
variable {V : xmV} {L : List Nat} {Kc Ks : Nat} {Q : List xE}
theorem m115_r81_85_ok    {s : xSt} {q : Bool × xSt} (h : m115_r81_85   s = some q) : HE V L Kc Ks 115 (85, [(0, .ref 65)], [], (hpC s, Q)) (some (.int (b01 q.1))) (hpC q.2, Q) := by
  unfold m115_r81_85 at h
  refine h_it 3 (x' := (92, [(0, .ref 65)], [.int 6000, .int (gI s 14)], (hpC s, Q))) rfl ?_
  refine h_br (b := decide (6000 < (gI s 14))) (t := 99) (f := 95) (lv' := [(0, .ref 65)]) (st' := []) rfl rfl ?_
  by_cases h4 : 6000 < (gI s 14)
  · replace h := if_y h4 h
    refine h_y h4 ?_
    replace h := Option.some.inj h; subst h
    refine h_it 1 (x' := (100, [(0, .ref 65)], [.int (b01 false)], (hpC s, Q))) rfl ?_
    exact h_zret rfl rfl
  · replace h := if_n h4 h
    refine h_n h4 ?_
    replace h := Option.some.inj h; subst h
    refine h_it 2 (x' := (100, [(0, .ref 65)], [.int (b01 true)], (hpC s, Q))) rfl ?_
    exact h_zret rfl rfl
theorem m115_r81_43_ok   : ∀ (n : Nat) (x3 : Int32) (s : xSt) (q : Bool × xSt), m115_r81_43  n x3 s = some q → HE V L Kc Ks 115 (43, [(0, .ref 65), (3, .int x3)], [], (hpC s, Q)) (some (.int (b01 q.1))) (hpC q.2, Q) := by
  intro n
  induction n with
  | zero => intro x3 s q h; cases h
  | succ n ih =>
    intro x3 s q h
    unfold m115_r81_43 at h
    refine h_it 2 (x' := (46, [(0, .ref 65), (3, .int x3)], [.int 1000000, .int x3], (hpC s, Q))) rfl ?_
    refine h_br (b := decide (1000000 ≤ x3)) (t := 85) (f := 49) (lv' := [(0, .ref 65), (3, .int x3)]) (st' := []) rfl rfl ?_
    by_cases h3 : 1000000 ≤ x3
    · replace h := if_y h3 h
      refine h_y h3 ?_
      refine h_lw (lv := [(0, .ref 65)]) (fa_c rfl (fa_n)) rfl ?_
      exact m115_r81_85_ok  h
    · replace h := if_n h3 h
      refine h_n h3 ?_
      refine h_it 1 (x' := (50, [(0, .ref 65), (3, .int x3)], [.ref 65], (hpC s, Q))) rfl ?_
      obtain ⟨q5, hq5, h⟩ := Option.bind_eq_some_iff.mp h
      refine h_callO (As := []) (r1 := some (.int (b01 q5.1))) (st := []) (H1 := (hpC q5.2, Q)) rfl rfl rfl rfl rfl rfl (m119_ok hq5) ?_
      refine h_br (b := decide ((b01 q5.1) = 0)) (t := 85) (f := 56) (lv' := [(0, .ref 65), (3, .int x3)]) (st' := []) rfl rfl ?_
      by_cases h6 : q5.1 = true
      · replace h := if_y h6 h
        refine h_n (b01_1 h6) ?_
        refine h_it 3 (x' := (61, [(0, .ref 65), (3, .int x3)], [.int (-1), .int (gI q5.2 13)], (hpC q5.2, Q))) rfl ?_
        refine h_br (b := decide ((gI q5.2 13) = (-1))) (t := 75) (f := 64) (lv' := [(0, .ref 65), (3, .int x3)]) (st' := []) rfl rfl ?_
        by_cases h7 : (gI q5.2 13) = (-1)
        · replace h := if_y h7 h
          refine h_y h7 ?_
          refine h_it 1 (x' := (76, [(0, .ref 65), (3, .int x3)], [.ref 65], (hpC q5.2, Q))) rfl ?_
          obtain ⟨q8, hq8, h⟩ := Option.bind_eq_some_iff.mp h
          refine h_callO (As := []) (r1 := none) (st := []) (H1 := (hpC q8, Q)) rfl rfl rfl rfl rfl rfl (m121_ok hq8) ?_
          refine h_it 2 (x' := (43, [(3, .int (x3 + 1)), (0, .ref 65)], [], (hpC q8, Q))) rfl ?_
          refine h_lw (lv := [(0, .ref 65), (3, .int (x3 + 1))]) (fa_c rfl (fa_c rfl (fa_n))) rfl ?_
          exact ih (x3 + 1) q8 _ h
        · replace h := if_n h7 h
          refine h_n h7 ?_
          refine h_it 3 (x' := (69, [(0, .ref 65), (3, .int x3)], [.int (gI q5.2 13), .ref 65], (hpC q5.2, Q))) rfl ?_
          obtain ⟨q9, hq9, h⟩ := Option.bind_eq_some_iff.mp h
          refine h_callO (As := [.int (gI q5.2 13)]) (r1 := none) (st := []) (H1 := (hpC q9, Q)) rfl rfl rfl rfl rfl rfl (m120_ok hq9) ?_
          refine h_it 3 (x' := (43, [(3, .int (x3 + 1)), (0, .ref 65)], [], (hpC q9, Q))) rfl ?_
          refine h_lw (lv := [(0, .ref 65), (3, .int (x3 + 1))]) (fa_c rfl (fa_c rfl (fa_n))) rfl ?_
          exact ih (x3 + 1) q9 _ h
      · replace h := if_n h6 h
        refine h_y (b01_0 h6) ?_
        refine h_lw (lv := [(0, .ref 65)]) (fa_c rfl (fa_n)) rfl ?_
        exact m115_r81_85_ok  h
theorem m115_r81_ok {z1 : Bool} {s : xSt} {q : Bool × xSt} (h : m115_r81 z1 s = some q) : HC V L Kc Ks 115 [.ref 65, .ref (pa z1), .ref 81] (hpC s, Q) (some (.int (b01 q.1))) (hpC q.2, Q) := by
  unfold m115_r81 at h
  refine hc_of (by decide) rfl ?_
  refine h_it 4 (x' := (6, [(0, .ref 65), (1, .ref (pa z1)), (2, .ref 81)], [.ref 65], (hpC (sZ s 6 z1), Q))) rfl ?_
  obtain ⟨q1, hq1, h⟩ := Option.bind_eq_some_iff.mp h
  refine h_callO (As := []) (r1 := none) (st := []) (H1 := (hpC q1, Q)) rfl rfl rfl rfl rfl rfl (m116_ok hq1) ?_
  refine h_it 4 (x' := (15, [(0, .ref 65), (1, .ref (pa z1)), (2, .ref 81)], [.ref 81, .ref 65, .ref 72], (hpC q1, Q))) rfl ?_
  obtain ⟨q2, hq2, h⟩ := Option.bind_eq_some_iff.mp h
  refine h_callO (As := [.ref 81]) (r1 := some (.int q2.1)) (st := [.ref 72]) (H1 := (hpC q2.2, Q)) rfl rfl rfl rfl rfl rfl (m118_r81_ok hq2) ?_
  refine h_it 6 (x' := (30, [(0, .ref 65), (1, .ref (pa z1)), (2, .ref 81)], [.ref (pa (gZ q2.2 6)), .ref (pa (gZ q2.2 6)), .ref 65], (hpC (sR q2.2 11 (xsPush 6001 (gR q2.2 11) q2.1)), Q))) rfl ?_
  refine h_callO (As := []) (r1 := some (.int (nI ((gP q2.2 (gZ q2.2 6) 6)).length))) (st := [.ref (pa (gZ q2.2 6)), .ref 65]) (H1 := (hpC (sR q2.2 11 (xsPush 6001 (gR q2.2 11) q2.1)), Q)) rfl rfl rfl rfl rfl hp_pa (m57_ok (gZ q2.2 6) (sR q2.2 11 (xsPush 6001 (gR q2.2 11) q2.1))) ?_
  refine h_it 2 (x' := (35, [(0, .ref 65), (1, .ref (pa z1)), (2, .ref 81)], [.int ((nI ((gP q2.2 (gZ q2.2 6) 6)).length) - 1), .ref (pa (gZ q2.2 6)), .ref 65], (hpC (sR q2.2 11 (xsPush 6001 (gR q2.2 11) q2.1)), Q))) rfl ?_
  refine h_callO (As := [.int ((nI ((gP q2.2 (gZ q2.2 6) 6)).length) - 1)]) (r1 := some (.int ((xsAt (gP q2.2 (gZ q2.2 6) 6) ((nI ((gP q2.2 (gZ q2.2 6) 6)).length) - 1)) + 1))) (st := [.ref 65]) (H1 := (hpC (sR q2.2 11 (xsPush 6001 (gR q2.2 11) q2.1)), Q)) rfl rfl rfl rfl rfl hp_pa (m74_ok (gZ q2.2 6) ((nI ((gP q2.2 (gZ q2.2 6) 6)).length) - 1) (sR q2.2 11 (xsPush 6001 (gR q2.2 11) q2.1))) ?_
  refine h_it 3 (x' := (43, [(3, .int 0), (0, .ref 65), (1, .ref (pa z1)), (2, .ref 81)], [], (hpC (sI (sR q2.2 11 (xsPush 6001 (gR q2.2 11) q2.1)) 13 ((xsAt (gP q2.2 (gZ q2.2 6) 6) ((nI ((gP q2.2 (gZ q2.2 6) 6)).length) - 1)) + 1)), Q))) rfl ?_
  refine h_lw (lv := [(0, .ref 65), (3, .int 0)]) (fa_c rfl (fa_c rfl (fa_n))) rfl ?_
  exact m115_r81_43_ok  1000000 0 (sI (sR q2.2 11 (xsPush 6001 (gR q2.2 11) q2.1)) 13 ((xsAt (gP q2.2 (gZ q2.2 6) 6) ((nI ((gP q2.2 (gZ q2.2 6) 6)).length) - 1)) + 1)) _ h
end Sm115_r81
section Sm143
variable {V : xmV} {L : List Nat} {Kc Ks : Nat} {Q : List xE}
theorem m143_ok  {s : xSt} {q : xSt} (h : m143  s = some q) : HC V L Kc Ks 143 [.ref 0] (hpC s, Q) (none) (hpC q, Q) := by
  unfold m143 at h
  refine hc_of (by decide) rfl ?_
  refine h_it 4 (x' := (8, [(0, .ref 0)], [.ref 80, .ref 78], (hpC s, Q))) rfl ?_
  refine h_callO (As := []) (r1 := some (.ref 81)) (st := [.ref 78]) (H1 := (hpC s, Q)) rfl rfl rfl rfl rfl rfl (m33_ok  s) ?_
  by_cases h1 : ((gR s 15)).length ≤ 64
  rotate_left
  · replace h := if_n h1 h
    cases h
  replace h := if_y h1 h
  refine h_callR (As := [.ref 81]) (r1 := none) (st := []) rfl rfl rfl rfl rfl rfl (h_copy rfl rfl (by decide) rfl h1) ?_
  show HE V L Kc Ks 143 (14, [(0, .ref 0)], [], (hpC (sR s 14 (gR s 15)), Q)) _ _
  refine h_it 4 (x' := (22, [(0, .ref 0)], [.ref 78, .ref 80], (hpC (sR s 14 (gR s 15)), Q))) rfl ?_
  obtain ⟨q2, hq2, h⟩ := Option.bind_eq_some_iff.mp h
  refine h_callO (As := [.ref 78]) (r1 := none) (st := []) (H1 := (hpC q2, Q)) rfl rfl rfl rfl rfl rfl (m25_r78_ok hq2) ?_
  replace h := Option.some.inj h; subst h
  exact h_vret rfl rfl
end Sm143
section Sm142
variable {V : xmV} {L : List Nat} {Kc Ks : Nat} {Q : List xE}
theorem m142_ok  {s : xSt} {q : Int32 × xSt} (h : m142  s = some q) : HC V L Kc Ks 142 [.ref 0] (hpC s, Q) (some (.int q.1)) (hpC q.2, Q) := by
  unfold m142 at h
  refine hc_of (by decide) rfl ?_
  refine h_it 2 (x' := (4, [(0, .ref 0)], [.int (b01 (gZ s 2))], (hpC s, Q))) rfl ?_
  refine h_br (b := decide (¬ (b01 (gZ s 2)) = 0)) (t := 13) (f := 7) (lv' := [(0, .ref 0)]) (st' := []) rfl rfl ?_
  by_cases h1 : (gZ s 2) = true
  · replace h := if_y h1 h
    refine h_y (b01_1 h1) ?_
    refine h_it 6 (x' := (25, [(0, .ref 0)], [.ref 80, .ref (pa (gZ s 0)), .ref 65], (hpC s, Q))) rfl ?_
    refine h_callO (As := []) (r1 := some (.ref 81)) (st := [.ref (pa (gZ s 0)), .ref 65]) (H1 := (hpC s, Q)) rfl rfl rfl rfl rfl rfl (m33_ok  s) ?_
    obtain ⟨q2, hq2, h⟩ := Option.bind_eq_some_iff.mp h
    refine h_callO (As := [.ref (pa (gZ s 0)), .ref 81]) (r1 := some (.int (b01 q2.1))) (st := []) (H1 := (hpC q2.2, Q)) rfl rfl rfl rfl rfl rfl (m115_r81_ok hq2) ?_
    refine h_br (b := decide (¬ (b01 q2.1) = 0)) (t := 37) (f := 34) (lv' := [(0, .ref 0)]) (st' := []) rfl rfl ?_
    by_cases h3 : q2.1 = true
    · replace h := if_y h3 h
      refine h_y (b01_1 h3) ?_
      refine h_it 1 (x' := (38, [(0, .ref 0)], [.ref 0], (hpC q2.2, Q))) rfl ?_
      obtain ⟨q4, hq4, h⟩ := Option.bind_eq_some_iff.mp h
      refine h_callO (As := []) (r1 := none) (st := []) (H1 := (hpC q4, Q)) rfl rfl rfl rfl rfl rfl (m143_ok hq4) ?_
      refine h_it 1 (x' := (42, [(0, .ref 0)], [.ref 0], (hpC q4, Q))) rfl ?_
      obtain ⟨q5, hq5, h⟩ := Option.bind_eq_some_iff.mp h
      refine h_callO (As := []) (r1 := none) (st := []) (H1 := (hpC q5, Q)) rfl rfl rfl rfl rfl rfl (m136_ok hq5) ?_
      replace h := Option.some.inj h; subst h
      refine h_it 9 (x' := (62, [(0, .ref 0)], [.int (nI ((gR q5 16)).length)], (hpC (sI q5 1 ((gI q5 1) + 1)), Q))) rfl ?_
      exact h_iret rfl rfl
    · replace h := if_n h3 h
      refine h_n (fun z => z (b01_0 h3)) ?_
      replace h := Option.some.inj h; subst h
      refine h_it 1 (x' := (36, [(0, .ref 0)], [.int (-7)], (hpC q2.2, Q))) rfl ?_
      exact h_iret rfl rfl
  · replace h := if_n h1 h
    refine h_n (fun z => z (b01_0 h1)) ?_
    refine h_it 1 (x' := (8, [(0, .ref 0)], [.ref 0], (hpC s, Q))) rfl ?_
    obtain ⟨q6, hq6, h⟩ := Option.bind_eq_some_iff.mp h
    refine h_callO (As := []) (r1 := none) (st := []) (H1 := (hpC q6, Q)) rfl rfl rfl rfl rfl rfl (m143_ok hq6) ?_
    replace h := Option.some.inj h; subst h
    refine h_it 1 (x' := (12, [(0, .ref 0)], [.int (-1)], (hpC q6, Q))) rfl ?_
    exact h_iret rfl rfl
end Sm142
