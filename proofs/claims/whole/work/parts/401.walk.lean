section Sm43
variable {V : xmV} {L : List Nat} {Kc Ks : Nat} {Q : List xE}
theorem m43_44_ok    {s : xSt} {q : xSt} (h : m43_44   s = some q) : HE V L Kc Ks 43 (44, [(0, .ref 48)], [], (hpC s, Q)) (none) (hpC q, Q) := by
  unfold m43_44 at h
  refine h_it 1 (x' := (45, [(0, .ref 48)], [.ref 48], (hpC s, Q))) rfl ?_
  obtain ⟨q2, hq2, h⟩ := Option.bind_eq_some_iff.mp h
  refine h_callO (As := []) (r1 := some (.int (b01 q2.1))) (st := []) (H1 := (hpC q2.2, Q)) rfl rfl rfl rfl rfl rfl (m44_ok hq2) ?_
  refine h_br (b := decide ((b01 q2.1) = 0)) (t := 82) (f := 51) (lv' := [(0, .ref 48)]) (st' := []) rfl rfl ?_
  by_cases h3 : q2.1 = true
  · replace h := if_y h3 h
    refine h_n (b01_1 h3) ?_
    refine h_it 7 (x' := (62, [(0, .ref 48)], [.int (gI q2.2 6), .ref 48, .ref 48], (hpC (sI q2.2 5 4), Q))) rfl ?_
    obtain ⟨q4, hq4, h⟩ := Option.bind_eq_some_iff.mp h
    refine h_callO (As := [.int (gI q2.2 6)]) (r1 := some (.long q4.1)) (st := [.ref 48]) (H1 := (hpC q4.2, Q)) rfl rfl rfl rfl rfl rfl (m37_ok hq4) ?_
    refine h_it 4 (x' := (73, [(0, .ref 48)], [.long q4.1, .ref 48], (hpC (sJ q4.2 0 q4.1), Q))) rfl ?_
    obtain ⟨q5, hq5, h⟩ := Option.bind_eq_some_iff.mp h
    refine h_callS (av := [.long q4.1]) (r1 := some (.int q5.1)) (st := [.ref 48]) (H1 := (hpC q5.2, Q)) rfl rfl rfl rfl rfl (m18_ok hq5) ?_
    replace h := Option.some.inj h; subst h
    refine h_it 2 (x' := (98, [(0, .ref 48)], [], (hpC (sI q5.2 8 q5.1), Q))) rfl ?_
    exact h_vret rfl rfl
  · replace h := if_n h3 h
    refine h_y (b01_0 h3) ?_
    refine h_it 2 (x' := (84, [(0, .ref 48)], [.ref 48, .ref 48], (hpC q2.2, Q))) rfl ?_
    obtain ⟨q6, hq6, h⟩ := Option.bind_eq_some_iff.mp h
    refine h_callO (As := []) (r1 := some (.int (b01 q6.1))) (st := [.ref 48]) (H1 := (hpC q6.2, Q)) rfl rfl rfl rfl rfl rfl (m45_ok hq6) ?_
    refine h_br (b := decide ((b01 q6.1) = 0)) (t := 94) (f := 90) (lv' := [(0, .ref 48)]) (st' := [.ref 48]) rfl rfl ?_
    by_cases h7 : q6.1 = true
    · replace h := if_y h7 h
      refine h_n (b01_1 h7) ?_
      replace h := Option.some.inj h; subst h
      refine h_it 3 (x' := (98, [(0, .ref 48)], [], (hpC (sI q6.2 5 5), Q))) rfl ?_
      exact h_vret rfl rfl
    · replace h := if_n h7 h
      refine h_y (b01_0 h7) ?_
      replace h := Option.some.inj h; subst h
      refine h_it 2 (x' := (98, [(0, .ref 48)], [], (hpC (sI q6.2 5 1), Q))) rfl ?_
      exact h_vret rfl rfl
theorem m43_0_ok   : ∀ (n : Nat)  (s : xSt) (q : xSt), m43_0  n  s = some q → HE V L Kc Ks 43 (0, [(0, .ref 48)], [], (hpC s, Q)) (none) (hpC q, Q) := by
  intro n
  induction n with
  | zero => intro  s q h; cases h
  | succ n ih =>
    intro  s q h
    unfold m43_0 at h
    refine h_it 5 (x' := (11, [(0, .ref 48)], [.int (nI ((gR s 0)).length), .int (gI s 4)], (hpC s, Q))) rfl ?_
    refine h_br (b := decide ((nI ((gR s 0)).length) ≤ (gI s 4))) (t := 44) (f := 14) (lv' := [(0, .ref 48)]) (st' := []) rfl rfl ?_
    by_cases h1 : (nI ((gR s 0)).length) ≤ (gI s 4)
    · replace h := if_y h1 h
      refine h_y h1 ?_
      refine h_lw (lv := [(0, .ref 48)]) (fa_c rfl (fa_n)) rfl ?_
      exact m43_44_ok  h
    · replace h := if_n h1 h
      refine h_n h1 ?_
      refine h_it 5 (x' := (25, [(0, .ref 48)], [.int (xsAt (gR s 0) (gI s 4))], (hpC s, Q))) rfl ?_
      obtain ⟨q8, hq8, h⟩ := Option.bind_eq_some_iff.mp h
      refine h_callS (av := [.int (xsAt (gR s 0) (gI s 4))]) (r1 := some (.int (b01 q8.1))) (st := []) (H1 := (hpC q8.2, Q)) rfl rfl rfl rfl rfl (m41_ok hq8) ?_
      refine h_br (b := decide ((b01 q8.1) = 0)) (t := 44) (f := 31) (lv' := [(0, .ref 48)]) (st' := []) rfl rfl ?_
      by_cases h9 : q8.1 = true
      · replace h := if_y h9 h
        refine h_n (b01_1 h9) ?_
        refine h_it 7 (x' := (0, [(0, .ref 48)], [], (hpC (sI q8.2 4 ((gI q8.2 4) + 1)), Q))) rfl ?_
        refine h_lw (lv := [(0, .ref 48)]) (fa_c rfl (fa_n)) rfl ?_
        exact ih (sI q8.2 4 ((gI q8.2 4) + 1)) _ h
      · replace h := if_n h9 h
        refine h_y (b01_0 h9) ?_
        refine h_lw (lv := [(0, .ref 48)]) (fa_c rfl (fa_n)) rfl ?_
        exact m43_44_ok  h
theorem m43_ok  {s : xSt} {q : xSt} (h : m43  s = some q) : HC V L Kc Ks 43 [.ref 48] (hpC s, Q) (none) (hpC q, Q) := by
  unfold m43 at h
  refine hc_of (by decide) rfl ?_
  refine h_lw (lv := [(0, .ref 48)]) (fa_c rfl (fa_n)) rfl ?_
  exact m43_0_ok  1000000 s _ h
end Sm43
section Sm39
variable {V : xmV} {L : List Nat} {Kc Ks : Nat} {Q : List xE}
theorem m39_ok  {s : xSt} {q : xSt} (h : m39  s = some q) : HC V L Kc Ks 39 [.ref 48] (hpC s, Q) (none) (hpC q, Q) := by
  unfold m39 at h
  refine hc_of (by decide) rfl ?_
  refine h_it 1 (x' := (1, [(0, .ref 48)], [.ref 48], (hpC s, Q))) rfl ?_
  obtain ⟨q1, hq1, h⟩ := Option.bind_eq_some_iff.mp h
  refine h_callO (As := []) (r1 := none) (st := []) (H1 := (hpC q1, Q)) rfl rfl rfl rfl rfl rfl (m40_ok hq1) ?_
  refine h_it 12 (x' := (28, [(0, .ref 48)], [.int (nI ((gR q1 0)).length), .int (gI q1 4)], (hpC (sI (sI q1 6 (gI q1 4)) 8 0), Q))) rfl ?_
  refine h_br (b := decide ((gI q1 4) < (nI ((gR q1 0)).length))) (t := 37) (f := 31) (lv' := [(0, .ref 48)]) (st' := []) rfl rfl ?_
  by_cases h2 : (gI q1 4) < (nI ((gR q1 0)).length)
  · replace h := if_y h2 h
    refine h_y h2 ?_
    refine h_it 7 (x' := (50, [(1, .int (xsAt (gR q1 0) (gI q1 4))), (0, .ref 48)], [.int (xsAt (gR q1 0) (gI q1 4))], (hpC (sI (sI q1 6 (gI q1 4)) 8 0), Q))) rfl ?_
    obtain ⟨q3, hq3, h⟩ := Option.bind_eq_some_iff.mp h
    refine h_callS (av := [.int (xsAt (gR q1 0) (gI q1 4))]) (r1 := some (.int (b01 q3.1))) (st := []) (H1 := (hpC q3.2, Q)) rfl rfl rfl rfl rfl (m41_ok hq3) ?_
    refine h_br (b := decide ((b01 q3.1) = 0)) (t := 61) (f := 56) (lv' := [(1, .int (xsAt (gR q1 0) (gI q1 4))), (0, .ref 48)]) (st' := []) rfl rfl ?_
    by_cases h4 : q3.1 = true
    · replace h := if_y h4 h
      refine h_n (b01_1 h4) ?_
      refine h_it 1 (x' := (57, [(1, .int (xsAt (gR q1 0) (gI q1 4))), (0, .ref 48)], [.ref 48], (hpC q3.2, Q))) rfl ?_
      obtain ⟨q5, hq5, h⟩ := Option.bind_eq_some_iff.mp h
      refine h_callO (As := []) (r1 := none) (st := []) (H1 := (hpC q5, Q)) rfl rfl rfl rfl rfl rfl (m43_ok hq5) ?_
      replace h := Option.some.inj h; subst h
      exact h_vret rfl rfl
    · replace h := if_n h4 h
      refine h_y (b01_0 h4) ?_
      refine h_it 9 (x' := (75, [(1, .int (xsAt (gR q1 0) (gI q1 4))), (0, .ref 48)], [.int 40, .int (xsAt (gR q1 0) (gI q1 4)), .ref 48], (hpC (sI q3.2 4 ((gI q3.2 4) + 1)), Q))) rfl ?_
      refine h_br (b := decide (¬ (xsAt (gR q1 0) (gI q1 4)) = 40)) (t := 82) (f := 78) (lv' := [(1, .int (xsAt (gR q1 0) (gI q1 4))), (0, .ref 48)]) (st' := [.ref 48]) rfl rfl ?_
      by_cases h6 : (xsAt (gR q1 0) (gI q1 4)) = 40
      · replace h := if_y h6 h
        refine h_n (fun z => z h6) ?_
        replace h := Option.some.inj h; subst h
        refine h_it 3 (x' := (96, [(1, .int (xsAt (gR q1 0) (gI q1 4))), (0, .ref 48)], [], (hpC (sI (sI q3.2 4 ((gI q3.2 4) + 1)) 5 2), Q))) rfl ?_
        exact h_vret rfl rfl
      · replace h := if_n h6 h
        refine h_y h6 ?_
        refine h_it 2 (x' := (85, [(1, .int (xsAt (gR q1 0) (gI q1 4))), (0, .ref 48)], [.int 41, .int (xsAt (gR q1 0) (gI q1 4)), .ref 48], (hpC (sI q3.2 4 ((gI q3.2 4) + 1)), Q))) rfl ?_
        refine h_br (b := decide (¬ (xsAt (gR q1 0) (gI q1 4)) = 41)) (t := 92) (f := 88) (lv' := [(1, .int (xsAt (gR q1 0) (gI q1 4))), (0, .ref 48)]) (st' := [.ref 48]) rfl rfl ?_
        by_cases h7 : (xsAt (gR q1 0) (gI q1 4)) = 41
        · replace h := if_y h7 h
          refine h_n (fun z => z h7) ?_
          replace h := Option.some.inj h; subst h
          refine h_it 3 (x' := (96, [(1, .int (xsAt (gR q1 0) (gI q1 4))), (0, .ref 48)], [], (hpC (sI (sI q3.2 4 ((gI q3.2 4) + 1)) 5 3), Q))) rfl ?_
          exact h_vret rfl rfl
        · replace h := if_n h7 h
          refine h_y h7 ?_
          replace h := Option.some.inj h; subst h
          refine h_it 2 (x' := (96, [(1, .int (xsAt (gR q1 0) (gI q1 4))), (0, .ref 48)], [], (hpC (sI (sI q3.2 4 ((gI q3.2 4) + 1)) 5 1), Q))) rfl ?_
          exact h_vret rfl rfl
  · replace h := if_n h2 h
    refine h_n h2 ?_
    replace h := Option.some.inj h; subst h
    refine h_it 3 (x' := (36, [(0, .ref 48)], [], (hpC (sI (sI (sI q1 6 (gI q1 4)) 8 0) 5 0), Q))) rfl ?_
    exact h_vret rfl rfl
end Sm39
section Sm46
variable {V : xmV} {L : List Nat} {Kc Ks : Nat} {Q : List xE}
theorem m46_ok  (s : xSt) : HC V L Kc Ks 46 [.ref 48] (hpC s, Q) (some (.int (gI s 5))) (hpC s, Q) := by
  refine hc_of (by decide) rfl ?_
  refine h_it 2 (x' := (4, [(0, .ref 48)], [.int (gI s 5)], (hpC s, Q))) rfl ?_
  exact h_iret rfl rfl
end Sm46
section Sm47
variable {V : xmV} {L : List Nat} {Kc Ks : Nat} {Q : List xE}
theorem m47_ok  (s : xSt) : HC V L Kc Ks 47 [.ref 48] (hpC s, Q) (some (.int (gI s 6))) (hpC s, Q) := by
  refine hc_of (by decide) rfl ?_
  refine h_it 2 (x' := (4, [(0, .ref 48)], [.int (gI s 6)], (hpC s, Q))) rfl ?_
  exact h_iret rfl rfl
end Sm47
section Sm14
variable {V : xmV} {L : List Nat} {Kc Ks : Nat} {Q : List xE}
theorem m14_ok {a1 : Int32} {a2 : Int32} {s : xSt} {q : xSt} (h : m14 a1 a2 s = some q) : HC V L Kc Ks 14 [.ref 47, .int a1, .int a2] (hpC s, Q) (none) (hpC q, Q) := by
  unfold m14 at h
  refine hc_of (by decide) rfl ?_
  refine h_it 2 (x' := (4, [(0, .ref 47), (1, .int a1), (2, .int a2)], [.int (gI s 2)], (hpC s, Q))) rfl ?_
  refine h_br (b := decide (¬ (gI s 2) = 0)) (t := 17) (f := 7) (lv' := [(0, .ref 47), (1, .int a1), (2, .int a2)]) (st' := []) rfl rfl ?_
  by_cases h1 : (gI s 2) = 0
  · replace h := if_y h1 h
    refine h_n (fun z => z h1) ?_
    replace h := Option.some.inj h; subst h
    refine h_it 6 (x' := (17, [(0, .ref 47), (1, .int a1), (2, .int a2)], [], (hpC (sI (sI s 2 a1) 3 a2), Q))) rfl ?_
    exact h_vret rfl rfl
  · replace h := if_n h1 h
    refine h_y h1 ?_
    replace h := Option.some.inj h; subst h
    exact h_vret rfl rfl
end Sm14
section Sm81
variable {V : xmV} {L : List Nat} {Kc Ks : Nat} {Q : List xE}
theorem m81_ok {a1 : Int32} {s : xSt} {q : Bool × xSt} (h : m81 a1 s = some q) : HC V L Kc Ks 81 [.ref 49, .int a1] (hpC s, Q) (some (.int (b01 q.1))) (hpC q.2, Q) := by
  unfold m81 at h
  refine hc_of (by decide) rfl ?_
  refine h_it 2 (x' := (4, [(0, .ref 49), (1, .int a1)], [.ref 48], (hpC s, Q))) rfl ?_
  obtain ⟨q1, hq1, h⟩ := Option.bind_eq_some_iff.mp h
  refine h_callO (As := []) (r1 := none) (st := []) (H1 := (hpC q1, Q)) rfl rfl rfl rfl rfl rfl (m39_ok hq1) ?_
  refine h_it 2 (x' := (11, [(0, .ref 49), (1, .int a1)], [.ref 48], (hpC q1, Q))) rfl ?_
  refine h_callO (As := []) (r1 := some (.int (gI q1 5))) (st := []) (H1 := (hpC q1, Q)) rfl rfl rfl rfl rfl rfl (m46_ok  q1) ?_
  refine h_br (b := decide (¬ (gI q1 5) = 0)) (t := 45) (f := 17) (lv' := [(0, .ref 49), (1, .int a1)]) (st' := []) rfl rfl ?_
  by_cases h2 : (gI q1 5) = 0
  · replace h := if_y h2 h
    refine h_n (fun z => z h2) ?_
    refine h_it 2 (x' := (19, [(0, .ref 49), (1, .int a1)], [.int (b01 true), .ref 49], (hpC q1, Q))) rfl ?_
    refine h_putZ (ty := .boolean) rfl rfl rfl ?_
    show HE V L Kc Ks 81 (22, [(0, .ref 49), (1, .int a1)], [], (hpC (sZ q1 4 true), Q)) _ _
    refine h_it 2 (x' := (25, [(0, .ref 49), (1, .int a1)], [.int 65, .int a1], (hpC (sZ q1 4 true), Q))) rfl ?_
    refine h_br (b := decide (a1 = 65)) (t := 43) (f := 28) (lv' := [(0, .ref 49), (1, .int a1)]) (st' := []) rfl rfl ?_
    by_cases h3 : a1 = 65
    · replace h := if_y h3 h
      refine h_y h3 ?_
      replace h := Option.some.inj h; subst h
      refine h_it 1 (x' := (44, [(0, .ref 49), (1, .int a1)], [.int (b01 false)], (hpC (sZ q1 4 true), Q))) rfl ?_
      exact h_zret rfl rfl
    · replace h := if_n h3 h
      refine h_n h3 ?_
      refine h_it 5 (x' := (37, [(0, .ref 49), (1, .int a1)], [.ref 48, .int 3, .ref 47], (hpC (sZ q1 4 true), Q))) rfl ?_
      refine h_callO (As := []) (r1 := some (.int (gI q1 6))) (st := [.int 3, .ref 47]) (H1 := (hpC (sZ q1 4 true), Q)) rfl rfl rfl rfl rfl rfl (m47_ok  (sZ q1 4 true)) ?_
      obtain ⟨q4, hq4, h⟩ := Option.bind_eq_some_iff.mp h
      refine h_callO (As := [.int 3, .int (gI q1 6)]) (r1 := none) (st := []) (H1 := (hpC q4, Q)) rfl rfl rfl rfl rfl rfl (m14_ok hq4) ?_
      replace h := Option.some.inj h; subst h
      refine h_it 1 (x' := (44, [(0, .ref 49), (1, .int a1)], [.int (b01 false)], (hpC q4, Q))) rfl ?_
      exact h_zret rfl rfl
  · replace h := if_n h2 h
    refine h_y h2 ?_
    refine h_it 2 (x' := (49, [(0, .ref 49), (1, .int a1)], [.ref 48], (hpC q1, Q))) rfl ?_
    refine h_callO (As := []) (r1 := some (.int (gI q1 5))) (st := []) (H1 := (hpC q1, Q)) rfl rfl rfl rfl rfl rfl (m46_ok  q1) ?_
    refine h_it 1 (x' := (53, [(0, .ref 49), (1, .int a1)], [.int 1, .int (gI q1 5)], (hpC q1, Q))) rfl ?_
    refine h_br (b := decide (¬ (gI q1 5) = 1)) (t := 73) (f := 56) (lv' := [(0, .ref 49), (1, .int a1)]) (st' := []) rfl rfl ?_
    by_cases h5 : (gI q1 5) = 1
    · replace h := if_y h5 h
      refine h_n (fun z => z h5) ?_
      refine h_it 5 (x' := (65, [(0, .ref 49), (1, .int a1)], [.ref 48, .int 1, .ref 47], (hpC q1, Q))) rfl ?_
      refine h_callO (As := []) (r1 := some (.int (gI q1 6))) (st := [.int 1, .ref 47]) (H1 := (hpC q1, Q)) rfl rfl rfl rfl rfl rfl (m47_ok  q1) ?_
      obtain ⟨q6, hq6, h⟩ := Option.bind_eq_some_iff.mp h
      refine h_callO (As := [.int 1, .int (gI q1 6)]) (r1 := none) (st := []) (H1 := (hpC q6, Q)) rfl rfl rfl rfl rfl rfl (m14_ok hq6) ?_
      replace h := Option.some.inj h; subst h
      refine h_it 1 (x' := (72, [(0, .ref 49), (1, .int a1)], [.int (b01 false)], (hpC q6, Q))) rfl ?_
      exact h_zret rfl rfl
    · replace h := if_n h5 h
      refine h_y h5 ?_
      replace h := Option.some.inj h; subst h
      refine h_it 1 (x' := (74, [(0, .ref 49), (1, .int a1)], [.int (b01 true)], (hpC q1, Q))) rfl ?_
      exact h_zret rfl rfl
end Sm81
section Sm82
variable {V : xmV} {L : List Nat} {Kc Ks : Nat} {Q : List xE}
theorem m82_ok  {s : xSt} {q : Int32 × xSt} (h : m82  s = some q) : HC V L Kc Ks 82 [.ref 49] (hpC s, Q) (some (.int q.1)) (hpC q.2, Q) := by
  unfold m82 at h
  refine hc_of (by decide) rfl ?_
  refine h_it 2 (x' := (4, [(0, .ref 49)], [.ref 48], (hpC s, Q))) rfl ?_
  refine h_callO (As := []) (r1 := some (.int (gI s 5))) (st := []) (H1 := (hpC s, Q)) rfl rfl rfl rfl rfl rfl (m46_ok  s) ?_
  refine h_it 1 (x' := (8, [(0, .ref 49)], [.int 3, .int (gI s 5)], (hpC s, Q))) rfl ?_
  refine h_br (b := decide (¬ (gI s 5) = 3)) (t := 14) (f := 11) (lv' := [(0, .ref 49)]) (st' := []) rfl rfl ?_
  by_cases h1 : (gI s 5) = 3
  · replace h := if_y h1 h
    refine h_n (fun z => z h1) ?_
    replace h := Option.some.inj h; subst h
    refine h_it 1 (x' := (13, [(0, .ref 49)], [.int 41], (hpC s, Q))) rfl ?_
    exact h_cret rfl rfl rfl
  · replace h := if_n h1 h
    refine h_y h1 ?_
    replace h := Option.some.inj h; subst h
    refine h_it 9 (x' := (32, [(0, .ref 49)], [.int 69], (hpC (sR s 2 (xsSetTop (gR s 2) ((xsTop (gR s 2)) - 1))), Q))) rfl ?_
    exact h_cret rfl rfl rfl
end Sm82
section Sm84
variable {V : xmV} {L : List Nat} {Kc Ks : Nat} {Q : List xE}
theorem m84_ok {b1 : Bool} {s : xSt} {q : Bool × xSt} (h : m84 b1 s = some q) : HC V L Kc Ks 84 [.ref 49, .int (b01 b1)] (hpC s, Q) (some (.int (b01 q.1))) (hpC q.2, Q) := by
  unfold m84 at h
  refine hc_of (by decide) rfl ?_
  refine h_it 1 (x' := (1, [(0, .ref 49), (1, .int (b01 b1))], [.int (b01 b1)], (hpC s, Q))) rfl ?_
  refine h_br (b := decide (¬ (b01 b1) = 0)) (t := 19) (f := 4) (lv' := [(0, .ref 49), (1, .int (b01 b1))]) (st' := []) rfl rfl ?_
  by_cases h1 : b1 = true
  · replace h := if_y h1 h
    refine h_y (b01_1 h1) ?_
    replace h := Option.some.inj h; subst h
    refine h_it 1 (x' := (20, [(0, .ref 49), (1, .int (b01 b1))], [.int (b01 b1)], (hpC s, Q))) rfl ?_
    exact h_zret rfl rfl
  · replace h := if_n h1 h
    refine h_n (fun z => z (b01_0 h1)) ?_
    refine h_it 5 (x' := (13, [(0, .ref 49), (1, .int (b01 b1))], [.ref 48, .int 2, .ref 47], (hpC s, Q))) rfl ?_
    refine h_callO (As := []) (r1 := some (.int (gI s 6))) (st := [.int 2, .ref 47]) (H1 := (hpC s, Q)) rfl rfl rfl rfl rfl rfl (m47_ok  s) ?_
    obtain ⟨q2, hq2, h⟩ := Option.bind_eq_some_iff.mp h
    refine h_callO (As := [.int 2, .int (gI s 6)]) (r1 := none) (st := []) (H1 := (hpC q2, Q)) rfl rfl rfl rfl rfl rfl (m14_ok hq2) ?_
    replace h := Option.some.inj h; subst h
    refine h_it 1 (x' := (20, [(0, .ref 49), (1, .int (b01 b1))], [.int (b01 b1)], (hpC q2, Q))) rfl ?_
    exact h_zret rfl rfl
end Sm84
section Sm59
variable {V : xmV} {L : List Nat} {Kc Ks : Nat} {Q : List xE}
theorem m59_okf (a1 : Int32) (s : xSt) : HC V L Kc Ks 59 [.ref (pa false), .int a1] (hpC s, Q) (none) (hpC (sP s false 4 (xsSet (gP s false 4) a1 (nI ((gP s false 0)).length))), Q) := by
  refine hc_of (by decide) rfl ?_
  refine h_it 7 (x' := (15, [(0, .ref (pa false)), (1, .int a1)], [], (hpC (sP s false 4 (xsSet (gP s false 4) a1 (nI ((gP s false 0)).length))), Q))) rfl ?_
  exact h_vret rfl rfl
theorem m59_okt (a1 : Int32) (s : xSt) : HC V L Kc Ks 59 [.ref (pa true), .int a1] (hpC s, Q) (none) (hpC (sP s true 4 (xsSet (gP s true 4) a1 (nI ((gP s true 0)).length))), Q) := by
  refine hc_of (by decide) rfl ?_
  refine h_it 7 (x' := (15, [(0, .ref (pa true)), (1, .int a1)], [], (hpC (sP s true 4 (xsSet (gP s true 4) a1 (nI ((gP s true 0)).length))), Q))) rfl ?_
  exact h_vret rfl rfl
theorem m59_ok (z0 : Bool) (a1 : Int32) (s : xSt) : HC V L Kc Ks 59 [.ref (pa z0), .int a1] (hpC s, Q) (none) (hpC (sP s z0 4 (xsSet (gP s z0 4) a1 (nI ((gP s z0 0)).length))), Q) := by
  cases z0
  · exact m59_okf a1 s
  · exact m59_okt a1 s
end Sm59
section Sm92
variable {V : xmV} {L : List Nat} {Kc Ks : Nat} {Q : List xE}
theorem m92_17_ok   {y0 : Bool} {s : xSt} {q : xSt} (h : m92_17  y0 s = some q) : HE V L Kc Ks 92 (17, [(0, .ref 49)], [.int (b01 y0), .ref 49], (hpC s, Q)) (none) (hpC q, Q) := by
  unfold m92_17 at h
  obtain ⟨q2, hq2, h⟩ := Option.bind_eq_some_iff.mp h
  refine h_callO (As := [.int (b01 y0)]) (r1 := some (.int (b01 q2.1))) (st := []) (H1 := (hpC q2.2, Q)) rfl rfl rfl rfl rfl rfl (m84_ok hq2) ?_
  refine h_br (b := decide (¬ (b01 q2.1) = 0)) (t := 24) (f := 23) (lv' := [(0, .ref 49)]) (st' := []) rfl rfl ?_
  by_cases h3 : q2.1 = true
  · replace h := if_y h3 h
    refine h_y (b01_1 h3) ?_
    refine h_it 5 (x' := (35, [(0, .ref 49)], [.int (xsTop (gR q2.2 1)), .ref (pa (gZ q2.2 3))], (hpC (sR q2.2 1 ((gR q2.2 1)).dropLast), Q))) rfl ?_
    refine h_callO (As := [.int (xsTop (gR q2.2 1))]) (r1 := none) (st := []) (H1 := (hpC (sP (sR q2.2 1 ((gR q2.2 1)).dropLast) (gZ q2.2 3) 4 (xsSet (gP q2.2 (gZ q2.2 3) 4) (xsTop (gR q2.2 1)) (nI ((gP q2.2 (gZ q2.2 3) 0)).length))), Q)) rfl rfl rfl rfl rfl hp_pa (m59_ok (gZ q2.2 3) (xsTop (gR q2.2 1)) (sR q2.2 1 ((gR q2.2 1)).dropLast)) ?_
    refine h_it 11 (x' := (61, [(0, .ref 49)], [.int (nI (((gR q2.2 1)).dropLast).length)], (hpC (sR (sR (sP (sR q2.2 1 ((gR q2.2 1)).dropLast) (gZ q2.2 3) 4 (xsSet (gP q2.2 (gZ q2.2 3) 4) (xsTop (gR q2.2 1)) (nI ((gP q2.2 (gZ q2.2 3) 0)).length))) 2 ((gR q2.2 2)).dropLast) 3 ((gR q2.2 3)).dropLast), Q))) rfl ?_
    refine h_br (b := decide (¬ (nI (((gR q2.2 1)).dropLast).length) = 0)) (t := 69) (f := 64) (lv' := [(0, .ref 49)]) (st' := []) rfl rfl ?_
    by_cases h4 : (nI (((gR q2.2 1)).dropLast).length) = 0
    · replace h := if_y h4 h
      refine h_n (fun z => z h4) ?_
      refine h_it 2 (x' := (66, [(0, .ref 49)], [.int 0, .ref 49], (hpC (sR (sR (sP (sR q2.2 1 ((gR q2.2 1)).dropLast) (gZ q2.2 3) 4 (xsSet (gP q2.2 (gZ q2.2 3) 4) (xsTop (gR q2.2 1)) (nI ((gP q2.2 (gZ q2.2 3) 0)).length))) 2 ((gR q2.2 2)).dropLast) 3 ((gR q2.2 3)).dropLast), Q))) rfl ?_
      refine (show ∀ w : xSt, HE V L Kc Ks 92 (69, [(0, .ref 49)], [], (hpC (sI w 11 0), Q)) _ _ → HE V L Kc Ks 92 (66, [(0, .ref 49)], [.int 0, .ref 49], (hpC w, Q)) _ _ from fun w e => h_it 1 rfl e) (sR (sR (sP (sR q2.2 1 ((gR q2.2 1)).dropLast) (gZ q2.2 3) 4 (xsSet (gP q2.2 (gZ q2.2 3) 4) (xsTop (gR q2.2 1)) (nI ((gP q2.2 (gZ q2.2 3) 0)).length))) 2 ((gR q2.2 2)).dropLast) 3 ((gR q2.2 3)).dropLast) ?_
      show HE V L Kc Ks 92 (69, [(0, .ref 49)], [], (hpC (sI (sR (sR (sP (sR q2.2 1 ((gR q2.2 1)).dropLast) (gZ q2.2 3) 4 (xsSet (gP q2.2 (gZ q2.2 3) 4) (xsTop (gR q2.2 1)) (nI ((gP q2.2 (gZ q2.2 3) 0)).length))) 2 ((gR q2.2 2)).dropLast) 3 ((gR q2.2 3)).dropLast) 11 0), Q)) _ _
      replace h := Option.some.inj h; subst h
      exact h_vret rfl rfl
    · replace h := if_n h4 h
      refine h_y h4 ?_
      replace h := Option.some.inj h; subst h
      exact h_vret rfl rfl
  · replace h := if_n h3 h
    refine h_n (fun z => z (b01_0 h3)) ?_
    replace h := Option.some.inj h; subst h
    exact h_vret rfl rfl
theorem m92_ok  {s : xSt} {q : xSt} (h : m92  s = some q) : HC V L Kc Ks 92 [.ref 49] (hpC s, Q) (none) (hpC q, Q) := by
  unfold m92 at h
  refine hc_of (by decide) rfl ?_
  refine h_it 3 (x' := (5, [(0, .ref 49)], [.ref 48, .ref 49], (hpC s, Q))) rfl ?_
  refine h_callO (As := []) (r1 := some (.int (gI s 5))) (st := [.ref 49]) (H1 := (hpC s, Q)) rfl rfl rfl rfl rfl rfl (m46_ok  s) ?_
  refine h_it 1 (x' := (9, [(0, .ref 49)], [.int 3, .int (gI s 5), .ref 49], (hpC s, Q))) rfl ?_
  refine h_br (b := decide (¬ (gI s 5) = 3)) (t := 16) (f := 12) (lv' := [(0, .ref 49)]) (st' := [.ref 49]) rfl rfl ?_
  by_cases h1 : (gI s 5) = 3
  · replace h := if_y h1 h
    refine h_n (fun z => z h1) ?_
    refine h_it 2 (x' := (17, [(0, .ref 49)], [.int 1, .ref 49], (hpC s, Q))) rfl ?_
    refine h_lw (lv := [(0, .ref 49)]) (fa_c rfl (fa_n)) rfl ?_
    exact m92_17_ok  h
  · replace h := if_n h1 h
    refine h_y h1 ?_
    refine h_it 1 (x' := (17, [(0, .ref 49)], [.int 0, .ref 49], (hpC s, Q))) rfl ?_
    refine h_lw (lv := [(0, .ref 49)]) (fa_c rfl (fa_n)) rfl ?_
    exact m92_17_ok  h
end Sm92
section Sm56
variable {V : xmV} {L : List Nat} {Kc Ks : Nat} {Q : List xE}
theorem m56f_ok  {s : xSt} {q : Bool × xSt} (h : m56f  s = some q) : HC V L Kc Ks 56 [.ref (pa false)] (hpC s, Q) (some (.int (b01 q.1))) (hpC q.2, Q) := by
  unfold m56f at h
  refine hc_of (by decide) rfl ?_
  refine h_it 4 (x' := (9, [(0, .ref (pa false))], [.int 64, .int (nI ((gP s false 6)).length)], (hpC s, Q))) rfl ?_
  refine h_br (b := decide ((nI ((gP s false 6)).length) < 64)) (t := 16) (f := 12) (lv' := [(0, .ref (pa false))]) (st' := []) rfl rfl ?_
  by_cases h1 : (nI ((gP s false 6)).length) < 64
  · replace h := if_y h1 h
    refine h_y h1 ?_
    replace h := Option.some.inj h; subst h
    refine h_it 1 (x' := (17, [(0, .ref (pa false))], [.int (b01 false)], (hpC s, Q))) rfl ?_
    exact h_zret rfl rfl
  · replace h := if_n h1 h
    refine h_n h1 ?_
    replace h := Option.some.inj h; subst h
    refine h_it 2 (x' := (17, [(0, .ref (pa false))], [.int (b01 true)], (hpC s, Q))) rfl ?_
    exact h_zret rfl rfl
theorem m56t_ok  {s : xSt} {q : Bool × xSt} (h : m56t  s = some q) : HC V L Kc Ks 56 [.ref (pa true)] (hpC s, Q) (some (.int (b01 q.1))) (hpC q.2, Q) := by
  unfold m56t at h
  refine hc_of (by decide) rfl ?_
  refine h_it 4 (x' := (9, [(0, .ref (pa true))], [.int 64, .int (nI ((gP s true 6)).length)], (hpC s, Q))) rfl ?_
  refine h_br (b := decide ((nI ((gP s true 6)).length) < 64)) (t := 16) (f := 12) (lv' := [(0, .ref (pa true))]) (st' := []) rfl rfl ?_
  by_cases h1 : (nI ((gP s true 6)).length) < 64
  · replace h := if_y h1 h
    refine h_y h1 ?_
    replace h := Option.some.inj h; subst h
    refine h_it 1 (x' := (17, [(0, .ref (pa true))], [.int (b01 false)], (hpC s, Q))) rfl ?_
    exact h_zret rfl rfl
  · replace h := if_n h1 h
    refine h_n h1 ?_
    replace h := Option.some.inj h; subst h
    refine h_it 2 (x' := (17, [(0, .ref (pa true))], [.int (b01 true)], (hpC s, Q))) rfl ?_
    exact h_zret rfl rfl
theorem m56_ok {z0 : Bool} {s : xSt} {q : Bool × xSt} (h : m56 z0 s = some q) : HC V L Kc Ks 56 [.ref (pa z0)] (hpC s, Q) (some (.int (b01 q.1))) (hpC q.2, Q) := by
  cases z0
  · exact m56f_ok h
  · exact m56t_ok h
end Sm56
section Sm85
variable {V : xmV} {L : List Nat} {Kc Ks : Nat} {Q : List xE}
theorem m85_ok (a1 : Int32) (s : xSt) : HC V L Kc Ks 85 [.ref 49, .int a1] (hpC s, Q) (none) (hpC (sI (sI s 9 (gI s 6)) 10 a1), Q) := by
  refine hc_of (by decide) rfl ?_
  refine h_it 3 (x' := (5, [(0, .ref 49), (1, .int a1)], [.ref 48, .ref 49], (hpC s, Q))) rfl ?_
  refine h_callO (As := []) (r1 := some (.int (gI s 6))) (st := [.ref 49]) (H1 := (hpC s, Q)) rfl rfl rfl rfl rfl rfl (m47_ok  s) ?_
  refine h_it 4 (x' := (16, [(0, .ref 49), (1, .int a1)], [], (hpC (sI (sI s 9 (gI s 6)) 10 a1), Q))) rfl ?_
  exact h_vret rfl rfl
end Sm85
section Sm49
variable {V : xmV} {L : List Nat} {Kc Ks : Nat} {Q : List xE}
theorem m49_ok  (s : xSt) : HC V L Kc Ks 49 [.ref 48] (hpC s, Q) (some (.int (gI s 7))) (hpC s, Q) := by
  refine hc_of (by decide) rfl ?_
  refine h_it 2 (x' := (4, [(0, .ref 48)], [.int (gI s 7)], (hpC s, Q))) rfl ?_
  exact h_iret rfl rfl
end Sm49
section Sm58
variable {V : xmV} {L : List Nat} {Kc Ks : Nat} {Q : List xE}
theorem m58_okf (a1 : Int32) (a2 : Int32) (a3 : Int32) (a4 : Int32) (s : xSt) : HC V L Kc Ks 58 [.ref (pa false), .int a1, .int a2, .int a3, .int a4] (hpC s, Q) (some (.int (nI ((gP s false 0)).length))) (hpC (sP (sP (sP (sP (sP s false 0 (xsPush 4097 (gP s false 0) a1)) false 1 (xsPush 4097 (gP s false 1) a2)) false 2 (xsPush 4097 (gP s false 2) a3)) false 3 (xsPush 4097 (gP s false 3) a4)) false 4 (xsPush 4097 (gP s false 4) ((nI ((gP s false 0)).length) + 1))), Q) := by
  refine hc_of (by decide) rfl ?_
  refine h_it 25 (x' := (50, [(5, .int (nI ((gP s false 0)).length)), (0, .ref (pa false)), (1, .int a1), (2, .int a2), (3, .int a3), (4, .int a4)], [.int ((nI ((gP s false 0)).length) + 1), .ref 10], (hpC (sP (sP (sP (sP s false 0 (xsPush 4097 (gP s false 0) a1)) false 1 (xsPush 4097 (gP s false 1) a2)) false 2 (xsPush 4097 (gP s false 2) a3)) false 3 (xsPush 4097 (gP s false 3) a4)), Q))) rfl ?_
  refine (show ∀ w : xSt, HE V L Kc Ks 58 (53, [(5, .int (nI ((gP s false 0)).length)), (0, .ref (pa false)), (1, .int a1), (2, .int a2), (3, .int a3), (4, .int a4)], [], (hpC (sP w false 4 (xsPush 4097 (gP w false 4) ((nI ((gP s false 0)).length) + 1))), Q)) _ _ → HE V L Kc Ks 58 (50, [(5, .int (nI ((gP s false 0)).length)), (0, .ref (pa false)), (1, .int a1), (2, .int a2), (3, .int a3), (4, .int a4)], [.int ((nI ((gP s false 0)).length) + 1), .ref 10], (hpC w, Q)) _ _ from fun w e => h_it 1 rfl e) (sP (sP (sP (sP s false 0 (xsPush 4097 (gP s false 0) a1)) false 1 (xsPush 4097 (gP s false 1) a2)) false 2 (xsPush 4097 (gP s false 2) a3)) false 3 (xsPush 4097 (gP s false 3) a4)) ?_
  show HE V L Kc Ks 58 (53, [(5, .int (nI ((gP s false 0)).length)), (0, .ref (pa false)), (1, .int a1), (2, .int a2), (3, .int a3), (4, .int a4)], [], (hpC (sP (sP (sP (sP (sP s false 0 (xsPush 4097 (gP s false 0) a1)) false 1 (xsPush 4097 (gP s false 1) a2)) false 2 (xsPush 4097 (gP s false 2) a3)) false 3 (xsPush 4097 (gP s false 3) a4)) false 4 (xsPush 4097 (gP s false 4) ((nI ((gP s false 0)).length) + 1))), Q)) _ _
  refine h_it 1 (x' := (55, [(5, .int (nI ((gP s false 0)).length)), (0, .ref (pa false)), (1, .int a1), (2, .int a2), (3, .int a3), (4, .int a4)], [.int (nI ((gP s false 0)).length)], (hpC (sP (sP (sP (sP (sP s false 0 (xsPush 4097 (gP s false 0) a1)) false 1 (xsPush 4097 (gP s false 1) a2)) false 2 (xsPush 4097 (gP s false 2) a3)) false 3 (xsPush 4097 (gP s false 3) a4)) false 4 (xsPush 4097 (gP s false 4) ((nI ((gP s false 0)).length) + 1))), Q))) rfl ?_
  exact h_iret rfl rfl
theorem m58_okt (a1 : Int32) (a2 : Int32) (a3 : Int32) (a4 : Int32) (s : xSt) : HC V L Kc Ks 58 [.ref (pa true), .int a1, .int a2, .int a3, .int a4] (hpC s, Q) (some (.int (nI ((gP s true 0)).length))) (hpC (sP (sP (sP (sP (sP s true 0 (xsPush 4097 (gP s true 0) a1)) true 1 (xsPush 4097 (gP s true 1) a2)) true 2 (xsPush 4097 (gP s true 2) a3)) true 3 (xsPush 4097 (gP s true 3) a4)) true 4 (xsPush 4097 (gP s true 4) ((nI ((gP s true 0)).length) + 1))), Q) := by
  refine hc_of (by decide) rfl ?_
  refine h_it 25 (x' := (50, [(5, .int (nI ((gP s true 0)).length)), (0, .ref (pa true)), (1, .int a1), (2, .int a2), (3, .int a3), (4, .int a4)], [.int ((nI ((gP s true 0)).length) + 1), .ref 32], (hpC (sP (sP (sP (sP s true 0 (xsPush 4097 (gP s true 0) a1)) true 1 (xsPush 4097 (gP s true 1) a2)) true 2 (xsPush 4097 (gP s true 2) a3)) true 3 (xsPush 4097 (gP s true 3) a4)), Q))) rfl ?_
  refine (show ∀ w : xSt, HE V L Kc Ks 58 (53, [(5, .int (nI ((gP s true 0)).length)), (0, .ref (pa true)), (1, .int a1), (2, .int a2), (3, .int a3), (4, .int a4)], [], (hpC (sP w true 4 (xsPush 4097 (gP w true 4) ((nI ((gP s true 0)).length) + 1))), Q)) _ _ → HE V L Kc Ks 58 (50, [(5, .int (nI ((gP s true 0)).length)), (0, .ref (pa true)), (1, .int a1), (2, .int a2), (3, .int a3), (4, .int a4)], [.int ((nI ((gP s true 0)).length) + 1), .ref 32], (hpC w, Q)) _ _ from fun w e => h_it 1 rfl e) (sP (sP (sP (sP s true 0 (xsPush 4097 (gP s true 0) a1)) true 1 (xsPush 4097 (gP s true 1) a2)) true 2 (xsPush 4097 (gP s true 2) a3)) true 3 (xsPush 4097 (gP s true 3) a4)) ?_
  show HE V L Kc Ks 58 (53, [(5, .int (nI ((gP s true 0)).length)), (0, .ref (pa true)), (1, .int a1), (2, .int a2), (3, .int a3), (4, .int a4)], [], (hpC (sP (sP (sP (sP (sP s true 0 (xsPush 4097 (gP s true 0) a1)) true 1 (xsPush 4097 (gP s true 1) a2)) true 2 (xsPush 4097 (gP s true 2) a3)) true 3 (xsPush 4097 (gP s true 3) a4)) true 4 (xsPush 4097 (gP s true 4) ((nI ((gP s true 0)).length) + 1))), Q)) _ _
  refine h_it 1 (x' := (55, [(5, .int (nI ((gP s true 0)).length)), (0, .ref (pa true)), (1, .int a1), (2, .int a2), (3, .int a3), (4, .int a4)], [.int (nI ((gP s true 0)).length)], (hpC (sP (sP (sP (sP (sP s true 0 (xsPush 4097 (gP s true 0) a1)) true 1 (xsPush 4097 (gP s true 1) a2)) true 2 (xsPush 4097 (gP s true 2) a3)) true 3 (xsPush 4097 (gP s true 3) a4)) true 4 (xsPush 4097 (gP s true 4) ((nI ((gP s true 0)).length) + 1))), Q))) rfl ?_
  exact h_iret rfl rfl
theorem m58_ok (z0 : Bool) (a1 : Int32) (a2 : Int32) (a3 : Int32) (a4 : Int32) (s : xSt) : HC V L Kc Ks 58 [.ref (pa z0), .int a1, .int a2, .int a3, .int a4] (hpC s, Q) (some (.int (nI ((gP s z0 0)).length))) (hpC (sP (sP (sP (sP (sP s z0 0 (xsPush 4097 (gP s z0 0) a1)) z0 1 (xsPush 4097 (gP s z0 1) a2)) z0 2 (xsPush 4097 (gP s z0 2) a3)) z0 3 (xsPush 4097 (gP s z0 3) a4)) z0 4 (xsPush 4097 (gP s z0 4) ((nI ((gP s z0 0)).length) + 1))), Q) := by
  cases z0
  · exact m58_okf a1 a2 a3 a4 s
  · exact m58_okt a1 a2 a3 a4 s
end Sm58
section Sm48
variable {V : xmV} {L : List Nat} {Kc Ks : Nat} {Q : List xE}
theorem m48_ok  (s : xSt) : HC V L Kc Ks 48 [.ref 48] (hpC s, Q) (some (.int (gI s 8))) (hpC s, Q) := by
  refine hc_of (by decide) rfl ?_
  refine h_it 2 (x' := (4, [(0, .ref 48)], [.int (gI s 8)], (hpC s, Q))) rfl ?_
  exact h_iret rfl rfl
end Sm48
section Sm90
variable {V : xmV} {L : List Nat} {Kc Ks : Nat} {Q : List xE}
theorem m90_27_ok   {y0 : Bool} {s : xSt} {q : Bool × xSt} (h : m90_27  y0 s = some q) : HE V L Kc Ks 90 (27, [], [.int (b01 y0), .ref 49], (hpC s, Q)) (some (.int (b01 q.1))) (hpC q.2, Q) := by
  unfold m90_27 at h
  obtain ⟨q3, hq3, h⟩ := Option.bind_eq_some_iff.mp h
  refine h_callO (As := [.int (b01 y0)]) (r1 := some (.int (b01 q3.1))) (st := []) (H1 := (hpC q3.2, Q)) rfl rfl rfl rfl rfl rfl (m84_ok hq3) ?_
  replace h := Option.some.inj h; subst h
  show HE V L Kc Ks 90 (30, [], [.int (b01 q3.1)], (hpC q3.2, Q)) _ _
  exact h_zret rfl rfl
theorem m90_26_ok    {s : xSt} {q : Bool × xSt} (h : m90_26   s = some q) : HE V L Kc Ks 90 (26, [], [.ref 49], (hpC s, Q)) (some (.int (b01 q.1))) (hpC q.2, Q) := by
  unfold m90_26 at h
  refine h_it 1 (x' := (27, [], [.int 0, .ref 49], (hpC s, Q))) rfl ?_
  refine h_lw (lv := []) (fa_n) rfl ?_
  exact m90_27_ok  h
theorem m90_ok  {s : xSt} {q : Bool × xSt} (h : m90  s = some q) : HC V L Kc Ks 90 [.ref 49] (hpC s, Q) (some (.int (b01 q.1))) (hpC q.2, Q) := by
  unfold m90 at h
  refine hc_of (by decide) rfl ?_
  refine h_it 3 (x' := (5, [(0, .ref 49)], [.ref 48, .ref 49], (hpC s, Q))) rfl ?_
  refine h_callO (As := []) (r1 := some (.int (gI s 5))) (st := [.ref 49]) (H1 := (hpC s, Q)) rfl rfl rfl rfl rfl rfl (m46_ok  s) ?_
  refine h_it 1 (x' := (9, [(0, .ref 49)], [.int 4, .int (gI s 5), .ref 49], (hpC s, Q))) rfl ?_
  refine h_br (b := decide (¬ (gI s 5) = 4)) (t := 26) (f := 12) (lv' := [(0, .ref 49)]) (st' := [.ref 49]) rfl rfl ?_
  by_cases h1 : (gI s 5) = 4
  · replace h := if_y h1 h
    refine h_n (fun z => z h1) ?_
    refine h_it 2 (x' := (16, [(0, .ref 49)], [.ref 48, .ref 49], (hpC s, Q))) rfl ?_
    refine h_callO (As := []) (r1 := some (.int (gI s 8))) (st := [.ref 49]) (H1 := (hpC s, Q)) rfl rfl rfl rfl rfl rfl (m48_ok  s) ?_
    refine h_br (b := decide (¬ (gI s 8) = 0)) (t := 26) (f := 22) (lv' := [(0, .ref 49)]) (st' := [.ref 49]) rfl rfl ?_
    by_cases h2 : (gI s 8) = 0
    · replace h := if_y h2 h
      refine h_n (fun z => z h2) ?_
      refine h_it 2 (x' := (27, [(0, .ref 49)], [.int 1, .ref 49], (hpC s, Q))) rfl ?_
      refine h_lw (lv := []) (fa_n) rfl ?_
      exact m90_27_ok  h
    · replace h := if_n h2 h
      refine h_y h2 ?_
      refine h_lw (lv := []) (fa_n) rfl ?_
      exact m90_26_ok  h
  · replace h := if_n h1 h
    refine h_y h1 ?_
    refine h_lw (lv := []) (fa_n) rfl ?_
    exact m90_26_ok  h
end Sm90
section Sm50
variable {V : xmV} {L : List Nat} {Kc Ks : Nat} {Q : List xE}
theorem m50_ok  (s : xSt) : HC V L Kc Ks 50 [.ref 48] (hpC s, Q) (some (.long (gJ s 0))) (hpC s, Q) := by
  refine hc_of (by decide) rfl ?_
  refine h_it 2 (x' := (4, [(0, .ref 48)], [.long (gJ s 0)], (hpC s, Q))) rfl ?_
  exact h_lret rfl rfl
end Sm50
section Sm91
variable {V : xmV} {L : List Nat} {Kc Ks : Nat} {Q : List xE}
theorem m91_15_ok   : ∀ (n : Nat) (x1 : Int64) (x3 : Int32) (s : xSt) (q : Int32 × xSt), m91_15  n x1 x3 s = some q → HE V L Kc Ks 91 (15, [(0, .ref 49), (1, .long x1), (3, .int x3)], [], (hpC s, Q)) (some (.int q.1)) (hpC q.2, Q) := by
  intro n
  induction n with
  | zero => intro x1 x3 s q h; cases h
  | succ n ih =>
    intro x1 x3 s q h
    unfold m91_15 at h
    refine h_it 1 (x' := (16, [(0, .ref 49), (1, .long x1), (3, .int x3)], [.int x3], (hpC s, Q))) rfl ?_
    refine h_br (b := decide (x3 < 0)) (t := 38) (f := 19) (lv' := [(0, .ref 49), (1, .long x1), (3, .int x3)]) (st' := []) rfl rfl ?_
    by_cases h1 : x3 < 0
    · replace h := if_y h1 h
      refine h_y h1 ?_
      replace h := Option.some.inj h; subst h
      refine h_it 1 (x' := (39, [(0, .ref 49), (1, .long x1), (3, .int x3)], [.int (-1)], (hpC s, Q))) rfl ?_
      exact h_iret rfl rfl
    · replace h := if_n h1 h
      refine h_n h1 ?_
      refine h_it 3 (x' := (24, [(0, .ref 49), (1, .long x1), (3, .int x3)], [.int x3, .ref 50], (hpC s, Q))) rfl ?_
      obtain ⟨v2, hv2, h⟩ := Option.bind_eq_some_iff.mp h
      refine h_lald rfl rfl hv2 ?_
      refine h_it 2 (x' := (27, [(0, .ref 49), (1, .long x1), (3, .int x3)], [.int (lg_cmp v2 x1)], (hpC s, Q))) rfl ?_
      refine h_br (b := decide (¬ (lg_cmp v2 x1) = 0)) (t := 32) (f := 30) (lv' := [(0, .ref 49), (1, .long x1), (3, .int x3)]) (st' := []) rfl rfl ?_
      by_cases h3 : (lg_cmp v2 x1) = 0
      · replace h := if_y h3 h
        refine h_n (fun z => z h3) ?_
        replace h := Option.some.inj h; subst h
        refine h_it 1 (x' := (31, [(0, .ref 49), (1, .long x1), (3, .int x3)], [.int x3], (hpC s, Q))) rfl ?_
        exact h_iret rfl rfl
      · replace h := if_n h3 h
        refine h_y h3 ?_
        refine h_it 2 (x' := (15, [(3, .int (x3 + (-1))), (0, .ref 49), (1, .long x1)], [], (hpC s, Q))) rfl ?_
        refine h_lw (lv := [(0, .ref 49), (1, .long x1), (3, .int (x3 + (-1)))]) (fa_c rfl (fa_c rfl (fa_c rfl (fa_n)))) rfl ?_
        exact ih x1 (x3 + (-1)) s _ h
theorem m91_ok {l1 : Int64} {s : xSt} {q : Int32 × xSt} (h : m91 l1 s = some q) : HC V L Kc Ks 91 [.ref 49, .long l1] (hpC s, Q) (some (.int q.1)) (hpC q.2, Q) := by
  unfold m91 at h
  refine hc_of (by decide) rfl ?_
  refine h_it 4 (x' := (8, [(0, .ref 49), (1, .long l1)], [.ref 50, .int (gI s 11)], (hpC s, Q))) rfl ?_
  refine h_llen rfl rfl ?_
  refine h_min rfl rfl rfl ?_
  refine h_it 3 (x' := (15, [(3, .int ((if (nI ((gL s 0)).length) < (gI s 11) then (nI ((gL s 0)).length) else (gI s 11)) - 1)), (0, .ref 49), (1, .long l1)], [], (hpC s, Q))) rfl ?_
  refine h_lw (lv := [(0, .ref 49), (1, .long l1), (3, .int ((if (nI ((gL s 0)).length) < (gI s 11) then (nI ((gL s 0)).length) else (gI s 11)) - 1))]) (fa_c rfl (fa_c rfl (fa_c rfl (fa_n)))) rfl ?_
  exact m91_15_ok  1000000 l1 ((if (nI ((gL s 0)).length) < (gI s 11) then (nI ((gL s 0)).length) else (gI s 11)) - 1) s _ h
end Sm91
section Sm89
variable {V : xmV} {L : List Nat} {Kc Ks : Nat} {Q : List xE}
theorem m89_ok  {s : xSt} {q : xSt} (h : m89  s = some q) : HC V L Kc Ks 89 [.ref 49] (hpC s, Q) (none) (hpC q, Q) := by
  unfold m89 at h
  refine hc_of (by decide) rfl ?_
  refine h_it 2 (x' := (4, [(0, .ref 49)], [.ref 48], (hpC s, Q))) rfl ?_
  refine h_callO (As := []) (r1 := some (.int (gI s 5))) (st := []) (H1 := (hpC s, Q)) rfl rfl rfl rfl rfl rfl (m46_ok  s) ?_
  refine h_it 1 (x' := (8, [(0, .ref 49)], [.int 5, .int (gI s 5)], (hpC s, Q))) rfl ?_
  refine h_br (b := decide (¬ (gI s 5) = 5)) (t := 42) (f := 11) (lv' := [(0, .ref 49)]) (st' := []) rfl rfl ?_
  by_cases h1 : (gI s 5) = 5
  · replace h := if_y h1 h
    refine h_n (fun z => z h1) ?_
    refine h_it 5 (x' := (21, [(0, .ref 49)], [.ref 48, .int 24, .ref (pa (gZ s 3))], (hpC s, Q))) rfl ?_
    refine h_callO (As := []) (r1 := some (.int (gI s 6))) (st := [.int 24, .ref (pa (gZ s 3))]) (H1 := (hpC s, Q)) rfl rfl rfl rfl rfl rfl (m47_ok  s) ?_
    refine h_it 2 (x' := (28, [(0, .ref 49)], [.ref 48, .int (gI s 6), .int 24, .ref (pa (gZ s 3))], (hpC s, Q))) rfl ?_
    refine h_callO (As := []) (r1 := some (.int (gI s 7))) (st := [.int (gI s 6), .int 24, .ref (pa (gZ s 3))]) (H1 := (hpC s, Q)) rfl rfl rfl rfl rfl rfl (m49_ok  s) ?_
    refine h_it 2 (x' := (35, [(0, .ref 49)], [.int (gI s 11), .int (gI s 7), .int (gI s 6), .int 24, .ref (pa (gZ s 3))], (hpC s, Q))) rfl ?_
    refine h_callO (As := [.int 24, .int (gI s 6), .int (gI s 7), .int (gI s 11)]) (r1 := some (.int (nI ((gP s (gZ s 3) 0)).length))) (st := []) (H1 := (hpC (sP (sP (sP (sP (sP s (gZ s 3) 0 (xsPush 4097 (gP s (gZ s 3) 0) 24)) (gZ s 3) 1 (xsPush 4097 (gP s (gZ s 3) 1) (gI s 6))) (gZ s 3) 2 (xsPush 4097 (gP s (gZ s 3) 2) (gI s 7))) (gZ s 3) 3 (xsPush 4097 (gP s (gZ s 3) 3) (gI s 11))) (gZ s 3) 4 (xsPush 4097 (gP s (gZ s 3) 4) ((nI ((gP s (gZ s 3) 0)).length) + 1))), Q)) rfl rfl rfl rfl rfl hp_pa (m58_ok (gZ s 3) 24 (gI s 6) (gI s 7) (gI s 11) s) ?_
    replace h := Option.some.inj h; subst h
    refine h_it 2 (x' := (118, [(0, .ref 49)], [], (hpC (sP (sP (sP (sP (sP s (gZ s 3) 0 (xsPush 4097 (gP s (gZ s 3) 0) 24)) (gZ s 3) 1 (xsPush 4097 (gP s (gZ s 3) 1) (gI s 6))) (gZ s 3) 2 (xsPush 4097 (gP s (gZ s 3) 2) (gI s 7))) (gZ s 3) 3 (xsPush 4097 (gP s (gZ s 3) 3) (gI s 11))) (gZ s 3) 4 (xsPush 4097 (gP s (gZ s 3) 4) ((nI ((gP s (gZ s 3) 0)).length) + 1))), Q))) rfl ?_
    exact h_vret rfl rfl
  · replace h := if_n h1 h
    refine h_y h1 ?_
    refine h_it 2 (x' := (46, [(0, .ref 49)], [.ref 48], (hpC s, Q))) rfl ?_
    refine h_callO (As := []) (r1 := some (.int (gI s 8))) (st := []) (H1 := (hpC s, Q)) rfl rfl rfl rfl rfl rfl (m48_ok  s) ?_
    refine h_it 1 (x' := (51, [(0, .ref 49)], [.int 19, .int (gI s 8)], (hpC s, Q))) rfl ?_
    refine h_br (b := decide (¬ (gI s 8) = 19)) (t := 79) (f := 54) (lv' := [(0, .ref 49)]) (st' := []) rfl rfl ?_
    by_cases h2 : (gI s 8) = 19
    · replace h := if_y h2 h
      refine h_n (fun z => z h2) ?_
      refine h_it 5 (x' := (64, [(0, .ref 49)], [.ref 48, .int 19, .ref (pa (gZ s 3))], (hpC s, Q))) rfl ?_
      refine h_callO (As := []) (r1 := some (.int (gI s 6))) (st := [.int 19, .ref (pa (gZ s 3))]) (H1 := (hpC s, Q)) rfl rfl rfl rfl rfl rfl (m47_ok  s) ?_
      refine h_it 3 (x' := (72, [(0, .ref 49)], [.int (gI s 11), .int 0, .int (gI s 6), .int 19, .ref (pa (gZ s 3))], (hpC s, Q))) rfl ?_
      refine h_callO (As := [.int 19, .int (gI s 6), .int 0, .int (gI s 11)]) (r1 := some (.int (nI ((gP s (gZ s 3) 0)).length))) (st := []) (H1 := (hpC (sP (sP (sP (sP (sP s (gZ s 3) 0 (xsPush 4097 (gP s (gZ s 3) 0) 19)) (gZ s 3) 1 (xsPush 4097 (gP s (gZ s 3) 1) (gI s 6))) (gZ s 3) 2 (xsPush 4097 (gP s (gZ s 3) 2) 0)) (gZ s 3) 3 (xsPush 4097 (gP s (gZ s 3) 3) (gI s 11))) (gZ s 3) 4 (xsPush 4097 (gP s (gZ s 3) 4) ((nI ((gP s (gZ s 3) 0)).length) + 1))), Q)) rfl rfl rfl rfl rfl hp_pa (m58_ok (gZ s 3) 19 (gI s 6) 0 (gI s 11) s) ?_
      replace h := Option.some.inj h; subst h
      refine h_it 2 (x' := (118, [(0, .ref 49)], [], (hpC (sP (sP (sP (sP (sP s (gZ s 3) 0 (xsPush 4097 (gP s (gZ s 3) 0) 19)) (gZ s 3) 1 (xsPush 4097 (gP s (gZ s 3) 1) (gI s 6))) (gZ s 3) 2 (xsPush 4097 (gP s (gZ s 3) 2) 0)) (gZ s 3) 3 (xsPush 4097 (gP s (gZ s 3) 3) (gI s 11))) (gZ s 3) 4 (xsPush 4097 (gP s (gZ s 3) 4) ((nI ((gP s (gZ s 3) 0)).length) + 1))), Q))) rfl ?_
      exact h_vret rfl rfl
    · replace h := if_n h2 h
      refine h_y h2 ?_
      refine h_it 1 (x' := (80, [(0, .ref 49)], [.ref 49], (hpC s, Q))) rfl ?_
      obtain ⟨q3, hq3, h⟩ := Option.bind_eq_some_iff.mp h
      refine h_callO (As := []) (r1 := some (.int (b01 q3.1))) (st := []) (H1 := (hpC q3.2, Q)) rfl rfl rfl rfl rfl rfl (m90_ok hq3) ?_
      refine h_br (b := decide ((b01 q3.1) = 0)) (t := 118) (f := 86) (lv' := [(0, .ref 49)]) (st' := []) rfl rfl ?_
      by_cases h4 : q3.1 = true
      · replace h := if_y h4 h
        refine h_n (b01_1 h4) ?_
        refine h_it 5 (x' := (96, [(0, .ref 49)], [.ref 48, .int 25, .ref (pa (gZ q3.2 3))], (hpC q3.2, Q))) rfl ?_
        refine h_callO (As := []) (r1 := some (.int (gI q3.2 6))) (st := [.int 25, .ref (pa (gZ q3.2 3))]) (H1 := (hpC q3.2, Q)) rfl rfl rfl rfl rfl rfl (m47_ok  q3.2) ?_
        refine h_it 3 (x' := (104, [(0, .ref 49)], [.ref 48, .ref 49, .int (gI q3.2 6), .int 25, .ref (pa (gZ q3.2 3))], (hpC q3.2, Q))) rfl ?_
        refine h_callO (As := []) (r1 := some (.long (gJ q3.2 0))) (st := [.ref 49, .int (gI q3.2 6), .int 25, .ref (pa (gZ q3.2 3))]) (H1 := (hpC q3.2, Q)) rfl rfl rfl rfl rfl rfl (m50_ok  q3.2) ?_
        obtain ⟨q5, hq5, h⟩ := Option.bind_eq_some_iff.mp h
        refine h_callO (As := [.long (gJ q3.2 0)]) (r1 := some (.int q5.1)) (st := [.int (gI q3.2 6), .int 25, .ref (pa (gZ q3.2 3))]) (H1 := (hpC q5.2, Q)) rfl rfl rfl rfl rfl rfl (m91_ok hq5) ?_
        refine h_it 2 (x' := (114, [(0, .ref 49)], [.int (gI q5.2 11), .int q5.1, .int (gI q3.2 6), .int 25, .ref (pa (gZ q3.2 3))], (hpC q5.2, Q))) rfl ?_
        refine h_callO (As := [.int 25, .int (gI q3.2 6), .int q5.1, .int (gI q5.2 11)]) (r1 := some (.int (nI ((gP q5.2 (gZ q3.2 3) 0)).length))) (st := []) (H1 := (hpC (sP (sP (sP (sP (sP q5.2 (gZ q3.2 3) 0 (xsPush 4097 (gP q5.2 (gZ q3.2 3) 0) 25)) (gZ q3.2 3) 1 (xsPush 4097 (gP q5.2 (gZ q3.2 3) 1) (gI q3.2 6))) (gZ q3.2 3) 2 (xsPush 4097 (gP q5.2 (gZ q3.2 3) 2) q5.1)) (gZ q3.2 3) 3 (xsPush 4097 (gP q5.2 (gZ q3.2 3) 3) (gI q5.2 11))) (gZ q3.2 3) 4 (xsPush 4097 (gP q5.2 (gZ q3.2 3) 4) ((nI ((gP q5.2 (gZ q3.2 3) 0)).length) + 1))), Q)) rfl rfl rfl rfl rfl hp_pa (m58_ok (gZ q3.2 3) 25 (gI q3.2 6) q5.1 (gI q5.2 11) q5.2) ?_
        replace h := Option.some.inj h; subst h
        refine h_it 1 (x' := (118, [(0, .ref 49)], [], (hpC (sP (sP (sP (sP (sP q5.2 (gZ q3.2 3) 0 (xsPush 4097 (gP q5.2 (gZ q3.2 3) 0) 25)) (gZ q3.2 3) 1 (xsPush 4097 (gP q5.2 (gZ q3.2 3) 1) (gI q3.2 6))) (gZ q3.2 3) 2 (xsPush 4097 (gP q5.2 (gZ q3.2 3) 2) q5.1)) (gZ q3.2 3) 3 (xsPush 4097 (gP q5.2 (gZ q3.2 3) 3) (gI q5.2 11))) (gZ q3.2 3) 4 (xsPush 4097 (gP q5.2 (gZ q3.2 3) 4) ((nI ((gP q5.2 (gZ q3.2 3) 0)).length) + 1))), Q))) rfl ?_
        exact h_vret rfl rfl
      · replace h := if_n h4 h
        refine h_y (b01_0 h4) ?_
        replace h := Option.some.inj h; subst h
        exact h_vret rfl rfl
end Sm89
section Sm88
variable {V : xmV} {L : List Nat} {Kc Ks : Nat} {Q : List xE}
theorem m88_40_ok   {y0 : Bool} {s : xSt} {q : xSt} (h : m88_40  y0 s = some q) : HE V L Kc Ks 88 (40, [(0, .ref 49)], [.int (b01 y0), .ref 49], (hpC s, Q)) (none) (hpC q, Q) := by
  unfold m88_40 at h
  obtain ⟨q4, hq4, h⟩ := Option.bind_eq_some_iff.mp h
  refine h_callO (As := [.int (b01 y0)]) (r1 := some (.int (b01 q4.1))) (st := []) (H1 := (hpC q4.2, Q)) rfl rfl rfl rfl rfl rfl (m84_ok hq4) ?_
  refine h_br (b := decide ((b01 q4.1) = 0)) (t := 50) (f := 46) (lv' := [(0, .ref 49)]) (st' := []) rfl rfl ?_
  by_cases h5 : q4.1 = true
  · replace h := if_y h5 h
    refine h_n (b01_1 h5) ?_
    refine h_it 1 (x' := (47, [(0, .ref 49)], [.ref 49], (hpC q4.2, Q))) rfl ?_
    obtain ⟨q6, hq6, h⟩ := Option.bind_eq_some_iff.mp h
    refine h_callO (As := []) (r1 := none) (st := []) (H1 := (hpC q6, Q)) rfl rfl rfl rfl rfl rfl (m89_ok hq6) ?_
    replace h := Option.some.inj h; subst h
    exact h_vret rfl rfl
  · replace h := if_n h5 h
    refine h_y (b01_0 h5) ?_
    replace h := Option.some.inj h; subst h
    exact h_vret rfl rfl
theorem m88_39_ok    {s : xSt} {q : xSt} (h : m88_39   s = some q) : HE V L Kc Ks 88 (39, [(0, .ref 49)], [.ref 49], (hpC s, Q)) (none) (hpC q, Q) := by
  unfold m88_39 at h
  refine h_it 1 (x' := (40, [(0, .ref 49)], [.int 0, .ref 49], (hpC s, Q))) rfl ?_
  refine h_lw (lv := [(0, .ref 49)]) (fa_c rfl (fa_n)) rfl ?_
  exact m88_40_ok  h
theorem m88_ok {a1 : Int32} {s : xSt} {q : xSt} (h : m88 a1 s = some q) : HC V L Kc Ks 88 [.ref 49, .int a1] (hpC s, Q) (none) (hpC q, Q) := by
  unfold m88 at h
  refine hc_of (by decide) rfl ?_
  refine h_it 2 (x' := (4, [(0, .ref 49), (1, .int a1)], [.ref 48], (hpC s, Q))) rfl ?_
  refine h_callO (As := []) (r1 := some (.int (gI s 5))) (st := []) (H1 := (hpC s, Q)) rfl rfl rfl rfl rfl rfl (m46_ok  s) ?_
  refine h_it 1 (x' := (8, [(0, .ref 49), (1, .int a1)], [.int 2, .int (gI s 5)], (hpC s, Q))) rfl ?_
  refine h_br (b := decide (¬ (gI s 5) = 2)) (t := 19) (f := 11) (lv' := [(0, .ref 49), (1, .int a1)]) (st' := []) rfl rfl ?_
  by_cases h1 : (gI s 5) = 2
  · replace h := if_y h1 h
    refine h_n (fun z => z h1) ?_
    refine h_it 2 (x' := (13, [(0, .ref 49), (1, .int a1)], [.int a1, .ref 49], (hpC s, Q))) rfl ?_
    refine h_callO (As := [.int a1]) (r1 := none) (st := []) (H1 := (hpC (sI (sI s 9 (gI s 6)) 10 a1), Q)) rfl rfl rfl rfl rfl rfl (m85_ok a1 s) ?_
    replace h := Option.some.inj h; subst h
    refine h_it 1 (x' := (50, [(0, .ref 49), (1, .int a1)], [], (hpC (sI (sI s 9 (gI s 6)) 10 a1), Q))) rfl ?_
    exact h_vret rfl rfl
  · replace h := if_n h1 h
    refine h_y h1 ?_
    refine h_it 2 (x' := (21, [(0, .ref 49), (1, .int a1)], [.int a1, .ref 49], (hpC s, Q))) rfl ?_
    refine h_br (b := decide (¬ a1 = 0)) (t := 39) (f := 24) (lv' := [(0, .ref 49), (1, .int a1)]) (st' := [.ref 49]) rfl rfl ?_
    by_cases h2 : a1 = 0
    · replace h := if_y h2 h
      refine h_n (fun z => z h2) ?_
      refine h_it 2 (x' := (28, [(0, .ref 49), (1, .int a1)], [.ref 48, .ref 49], (hpC s, Q))) rfl ?_
      refine h_callO (As := []) (r1 := some (.int (gI s 5))) (st := [.ref 49]) (H1 := (hpC s, Q)) rfl rfl rfl rfl rfl rfl (m46_ok  s) ?_
      refine h_it 1 (x' := (32, [(0, .ref 49), (1, .int a1)], [.int 3, .int (gI s 5), .ref 49], (hpC s, Q))) rfl ?_
      refine h_br (b := decide ((gI s 5) = 3)) (t := 39) (f := 35) (lv' := [(0, .ref 49), (1, .int a1)]) (st' := [.ref 49]) rfl rfl ?_
      by_cases h3 : (gI s 5) = 3
      · replace h := if_y h3 h
        refine h_y h3 ?_
        refine h_lw (lv := [(0, .ref 49)]) (fa_c rfl (fa_n)) rfl ?_
        exact m88_39_ok  h
      · replace h := if_n h3 h
        refine h_n h3 ?_
        refine h_it 2 (x' := (40, [(0, .ref 49), (1, .int a1)], [.int 1, .ref 49], (hpC s, Q))) rfl ?_
        refine h_lw (lv := [(0, .ref 49)]) (fa_c rfl (fa_n)) rfl ?_
        exact m88_40_ok  h
    · replace h := if_n h2 h
      refine h_y h2 ?_
      refine h_lw (lv := [(0, .ref 49)]) (fa_c rfl (fa_n)) rfl ?_
      exact m88_39_ok  h
end Sm88
section Sm19
variable {V : xmV} {L : List Nat} {Kc Ks : Nat} {Q : List xE}
theorem m19_ok {a0 : Int32} {s : xSt} {q : Bool × xSt} (h : m19 a0 s = some q) : HC V L Kc Ks 19 [.int a0] (hpC s, Q) (some (.int (b01 q.1))) (hpC q.2, Q) := by
  unfold m19 at h
  refine hc_of (by decide) rfl ?_
  refine h_it 2 (x' := (2, [(0, .int a0)], [.int 1, .int a0], (hpC s, Q))) rfl ?_
  refine h_br (b := decide (a0 < 1)) (t := 15) (f := 5) (lv' := [(0, .int a0)]) (st' := []) rfl rfl ?_
  by_cases h1 : a0 < 1
  · replace h := if_y h1 h
    refine h_y h1 ?_
    replace h := Option.some.inj h; subst h
    refine h_it 1 (x' := (16, [(0, .int a0)], [.int (b01 false)], (hpC s, Q))) rfl ?_
    exact h_zret rfl rfl
  · replace h := if_n h1 h
    refine h_n h1 ?_
    refine h_it 2 (x' := (8, [(0, .int a0)], [.int 15, .int a0], (hpC s, Q))) rfl ?_
    refine h_br (b := decide (15 < a0)) (t := 15) (f := 11) (lv' := [(0, .int a0)]) (st' := []) rfl rfl ?_
    by_cases h2 : 15 < a0
    · replace h := if_y h2 h
      refine h_y h2 ?_
      replace h := Option.some.inj h; subst h
      refine h_it 1 (x' := (16, [(0, .int a0)], [.int (b01 false)], (hpC s, Q))) rfl ?_
      exact h_zret rfl rfl
    · replace h := if_n h2 h
      refine h_n h2 ?_
      replace h := Option.some.inj h; subst h
      refine h_it 2 (x' := (16, [(0, .int a0)], [.int (b01 true)], (hpC s, Q))) rfl ?_
      exact h_zret rfl rfl
end Sm19
section Sm20
variable {V : xmV} {L : List Nat} {Kc Ks : Nat} {Q : List xE}
theorem m20_12_ok   {x0 : Int32} {s : xSt} {q : Bool × xSt} (h : m20_12  x0 s = some q) : HE V L Kc Ks 20 (12, [(0, .int x0)], [], (hpC s, Q)) (some (.int (b01 q.1))) (hpC q.2, Q) := by
  unfold m20_12 at h
  refine h_it 2 (x' := (15, [(0, .int x0)], [.int 16, .int x0], (hpC s, Q))) rfl ?_
  refine h_br (b := decide (x0 < 16)) (t := 28) (f := 18) (lv' := [(0, .int x0)]) (st' := []) rfl rfl ?_
  by_cases h2 : x0 < 16
  · replace h := if_y h2 h
    refine h_y h2 ?_
    replace h := Option.some.inj h; subst h
    refine h_it 1 (x' := (29, [(0, .int x0)], [.int (b01 false)], (hpC s, Q))) rfl ?_
    exact h_zret rfl rfl
  · replace h := if_n h2 h
    refine h_n h2 ?_
    refine h_it 2 (x' := (21, [(0, .int x0)], [.int 18, .int x0], (hpC s, Q))) rfl ?_
    refine h_br (b := decide (18 < x0)) (t := 28) (f := 24) (lv' := [(0, .int x0)]) (st' := []) rfl rfl ?_
    by_cases h3 : 18 < x0
    · replace h := if_y h3 h
      refine h_y h3 ?_
      replace h := Option.some.inj h; subst h
      refine h_it 1 (x' := (29, [(0, .int x0)], [.int (b01 false)], (hpC s, Q))) rfl ?_
      exact h_zret rfl rfl
    · replace h := if_n h3 h
      refine h_n h3 ?_
      replace h := Option.some.inj h; subst h
      refine h_it 2 (x' := (29, [(0, .int x0)], [.int (b01 true)], (hpC s, Q))) rfl ?_
      exact h_zret rfl rfl
theorem m20_ok {a0 : Int32} {s : xSt} {q : Bool × xSt} (h : m20 a0 s = some q) : HC V L Kc Ks 20 [.int a0] (hpC s, Q) (some (.int (b01 q.1))) (hpC q.2, Q) := by
  unfold m20 at h
  refine hc_of (by decide) rfl ?_
  refine h_it 2 (x' := (3, [(0, .int a0)], [.int 8, .int a0], (hpC s, Q))) rfl ?_
  refine h_br (b := decide (a0 < 8)) (t := 12) (f := 6) (lv' := [(0, .int a0)]) (st' := []) rfl rfl ?_
  by_cases h1 : a0 < 8
  · replace h := if_y h1 h
    refine h_y h1 ?_
    refine h_lw (lv := [(0, .int a0)]) (fa_c rfl (fa_n)) rfl ?_
    exact m20_12_ok  h
  · replace h := if_n h1 h
    refine h_n h1 ?_
    refine h_it 2 (x' := (9, [(0, .int a0)], [.int 10, .int a0], (hpC s, Q))) rfl ?_
    refine h_br (b := decide (a0 ≤ 10)) (t := 24) (f := 12) (lv' := [(0, .int a0)]) (st' := []) rfl rfl ?_
    by_cases h4 : a0 ≤ 10
    · replace h := if_y h4 h
      refine h_y h4 ?_
      replace h := Option.some.inj h; subst h
      refine h_it 2 (x' := (29, [(0, .int a0)], [.int (b01 true)], (hpC s, Q))) rfl ?_
      exact h_zret rfl rfl
    · replace h := if_n h4 h
      refine h_n h4 ?_
      refine h_lw (lv := [(0, .int a0)]) (fa_c rfl (fa_n)) rfl ?_
      exact m20_12_ok  h
end Sm20
section Sm87
variable {V : xmV} {L : List Nat} {Kc Ks : Nat} {Q : List xE}
theorem m87_ok {a1 : Int32} {s : xSt} {q : Bool × xSt} (h : m87 a1 s = some q) : HC V L Kc Ks 87 [.ref 49, .int a1] (hpC s, Q) (some (.int (b01 q.1))) (hpC q.2, Q) := by
  unfold m87 at h
  refine hc_of (by decide) rfl ?_
  refine h_it 3 (x' := (5, [(0, .ref 49), (1, .int a1)], [.int 2, .int (gI s 10)], (hpC s, Q))) rfl ?_
  refine h_br (b := decide (¬ (gI s 10) = 2)) (t := 26) (f := 8) (lv' := [(0, .ref 49), (1, .int a1)]) (st' := []) rfl rfl ?_
  by_cases h1 : (gI s 10) = 2
  · replace h := if_y h1 h
    refine h_n (fun z => z h1) ?_
    refine h_it 2 (x' := (11, [(0, .ref 49), (1, .int a1)], [.int 22, .int a1], (hpC s, Q))) rfl ?_
    refine h_br (b := decide (a1 = 22)) (t := 20) (f := 14) (lv' := [(0, .ref 49), (1, .int a1)]) (st' := []) rfl rfl ?_
    by_cases h2 : a1 = 22
    · replace h := if_y h2 h
      refine h_y h2 ?_
      replace h := Option.some.inj h; subst h
      refine h_it 2 (x' := (25, [(0, .ref 49), (1, .int a1)], [.int (b01 true)], (hpC s, Q))) rfl ?_
      exact h_zret rfl rfl
    · replace h := if_n h2 h
      refine h_n h2 ?_
      refine h_it 2 (x' := (17, [(0, .ref 49), (1, .int a1)], [.int 23, .int a1], (hpC s, Q))) rfl ?_
      refine h_br (b := decide (¬ a1 = 23)) (t := 24) (f := 20) (lv' := [(0, .ref 49), (1, .int a1)]) (st' := []) rfl rfl ?_
      by_cases h3 : a1 = 23
      · replace h := if_y h3 h
        refine h_n (fun z => z h3) ?_
        replace h := Option.some.inj h; subst h
        refine h_it 2 (x' := (25, [(0, .ref 49), (1, .int a1)], [.int (b01 true)], (hpC s, Q))) rfl ?_
        exact h_zret rfl rfl
      · replace h := if_n h3 h
        refine h_y h3 ?_
        replace h := Option.some.inj h; subst h
        refine h_it 1 (x' := (25, [(0, .ref 49), (1, .int a1)], [.int (b01 false)], (hpC s, Q))) rfl ?_
        exact h_zret rfl rfl
  · replace h := if_n h1 h
    refine h_y h1 ?_
    refine h_it 2 (x' := (30, [(0, .ref 49), (1, .int a1)], [.int (gI s 10)], (hpC s, Q))) rfl ?_
    refine h_br (b := decide (¬ (gI s 10) = 0)) (t := 40) (f := 33) (lv' := [(0, .ref 49), (1, .int a1)]) (st' := []) rfl rfl ?_
    by_cases h4 : (gI s 10) = 0
    · replace h := if_y h4 h
      refine h_n (fun z => z h4) ?_
      refine h_it 1 (x' := (34, [(0, .ref 49), (1, .int a1)], [.int a1], (hpC s, Q))) rfl ?_
      obtain ⟨q5, hq5, h⟩ := Option.bind_eq_some_iff.mp h
      refine h_callS (av := [.int a1]) (r1 := some (.int (b01 q5.1))) (st := []) (H1 := (hpC q5.2, Q)) rfl rfl rfl rfl rfl (m19_ok hq5) ?_
      replace h := Option.some.inj h; subst h
      refine h_it 1 (x' := (44, [(0, .ref 49), (1, .int a1)], [.int (b01 q5.1)], (hpC q5.2, Q))) rfl ?_
      exact h_zret rfl rfl
    · replace h := if_n h4 h
      refine h_y h4 ?_
      refine h_it 1 (x' := (41, [(0, .ref 49), (1, .int a1)], [.int a1], (hpC s, Q))) rfl ?_
      obtain ⟨q6, hq6, h⟩ := Option.bind_eq_some_iff.mp h
      refine h_callS (av := [.int a1]) (r1 := some (.int (b01 q6.1))) (st := []) (H1 := (hpC q6.2, Q)) rfl rfl rfl rfl rfl (m20_ok hq6) ?_
      replace h := Option.some.inj h; subst h
      show HE V L Kc Ks 87 (44, [(0, .ref 49), (1, .int a1)], [.int (b01 q6.1)], (hpC q6.2, Q)) _ _
      exact h_zret rfl rfl
end Sm87
section Sm57
variable {V : xmV} {L : List Nat} {Kc Ks : Nat} {Q : List xE}
theorem m57_okf  (s : xSt) : HC V L Kc Ks 57 [.ref (pa false)] (hpC s, Q) (some (.int (nI ((gP s false 6)).length))) (hpC s, Q) := by
  refine hc_of (by decide) rfl ?_
  refine h_it 3 (x' := (7, [(0, .ref (pa false))], [.int (nI ((gP s false 6)).length)], (hpC s, Q))) rfl ?_
  exact h_iret rfl rfl
theorem m57_okt  (s : xSt) : HC V L Kc Ks 57 [.ref (pa true)] (hpC s, Q) (some (.int (nI ((gP s true 6)).length))) (hpC s, Q) := by
  refine hc_of (by decide) rfl ?_
  refine h_it 3 (x' := (7, [(0, .ref (pa true))], [.int (nI ((gP s true 6)).length)], (hpC s, Q))) rfl ?_
  exact h_iret rfl rfl
theorem m57_ok (z0 : Bool) (s : xSt) : HC V L Kc Ks 57 [.ref (pa z0)] (hpC s, Q) (some (.int (nI ((gP s z0 6)).length))) (hpC s, Q) := by
  cases z0
  · exact m57_okf  s
  · exact m57_okt  s
end Sm57
section Sm86
variable {V : xmV} {L : List Nat} {Kc Ks : Nat} {Q : List xE}
theorem m86_43_ok   {x1 : Int32} {x2 : Int32} {s : xSt} {q : xSt} (h : m86_43  x1 x2 s = some q) : HE V L Kc Ks 86 (43, [(0, .ref 49), (1, .int x1), (2, .int x2)], [], (hpC s, Q)) (none) (hpC q, Q) := by
  unfold m86_43 at h
  refine h_it 9 (x' := (60, [(0, .ref 49), (1, .int x1), (2, .int x2)], [.ref (pa (gZ s 3)), .int (gI s 9), .int x1, .ref (pa (gZ s 3)), .ref 51], (hpC s, Q))) rfl ?_
  refine h_callO (As := []) (r1 := some (.int (nI ((gP s (gZ s 3) 6)).length))) (st := [.int (gI s 9), .int x1, .ref (pa (gZ s 3)), .ref 51]) (H1 := (hpC s, Q)) rfl rfl rfl rfl rfl hp_pa (m57_ok (gZ s 3) s) ?_
  refine h_it 2 (x' := (67, [(0, .ref 49), (1, .int x1), (2, .int x2)], [.int (gI s 11), .int (nI ((gP s (gZ s 3) 6)).length), .int (gI s 9), .int x1, .ref (pa (gZ s 3)), .ref 51], (hpC s, Q))) rfl ?_
  refine h_callO (As := [.int x1, .int (gI s 9), .int (nI ((gP s (gZ s 3) 6)).length), .int (gI s 11)]) (r1 := some (.int (nI ((gP s (gZ s 3) 0)).length))) (st := [.ref 51]) (H1 := (hpC (sP (sP (sP (sP (sP s (gZ s 3) 0 (xsPush 4097 (gP s (gZ s 3) 0) x1)) (gZ s 3) 1 (xsPush 4097 (gP s (gZ s 3) 1) (gI s 9))) (gZ s 3) 2 (xsPush 4097 (gP s (gZ s 3) 2) (nI ((gP s (gZ s 3) 6)).length))) (gZ s 3) 3 (xsPush 4097 (gP s (gZ s 3) 3) (gI s 11))) (gZ s 3) 4 (xsPush 4097 (gP s (gZ s 3) 4) ((nI ((gP s (gZ s 3) 0)).length) + 1))), Q)) rfl rfl rfl rfl rfl hp_pa (m58_ok (gZ s 3) x1 (gI s 9) (nI ((gP s (gZ s 3) 6)).length) (gI s 11) s) ?_
  refine (show ∀ w : xSt, HE V L Kc Ks 86 (73, [(0, .ref 49), (1, .int x1), (2, .int x2)], [], (hpC (sR w 1 (xsPush 4097 (gR w 1) (nI ((gP s (gZ s 3) 0)).length))), Q)) _ _ → HE V L Kc Ks 86 (70, [(0, .ref 49), (1, .int x1), (2, .int x2)], [.int (nI ((gP s (gZ s 3) 0)).length), .ref 51], (hpC w, Q)) _ _ from fun w e => h_it 1 rfl e) (sP (sP (sP (sP (sP s (gZ s 3) 0 (xsPush 4097 (gP s (gZ s 3) 0) x1)) (gZ s 3) 1 (xsPush 4097 (gP s (gZ s 3) 1) (gI s 9))) (gZ s 3) 2 (xsPush 4097 (gP s (gZ s 3) 2) (nI ((gP s (gZ s 3) 6)).length))) (gZ s 3) 3 (xsPush 4097 (gP s (gZ s 3) 3) (gI s 11))) (gZ s 3) 4 (xsPush 4097 (gP s (gZ s 3) 4) ((nI ((gP s (gZ s 3) 0)).length) + 1))) ?_
  show HE V L Kc Ks 86 (73, [(0, .ref 49), (1, .int x1), (2, .int x2)], [], (hpC (sR (sP (sP (sP (sP (sP s (gZ s 3) 0 (xsPush 4097 (gP s (gZ s 3) 0) x1)) (gZ s 3) 1 (xsPush 4097 (gP s (gZ s 3) 1) (gI s 9))) (gZ s 3) 2 (xsPush 4097 (gP s (gZ s 3) 2) (nI ((gP s (gZ s 3) 6)).length))) (gZ s 3) 3 (xsPush 4097 (gP s (gZ s 3) 3) (gI s 11))) (gZ s 3) 4 (xsPush 4097 (gP s (gZ s 3) 4) ((nI ((gP s (gZ s 3) 0)).length) + 1))) 1 (xsPush 4097 (gR s 1) (nI ((gP s (gZ s 3) 0)).length))), Q)) _ _
  refine h_it 3 (x' := (78, [(0, .ref 49), (1, .int x1), (2, .int x2)], [.int 0, .ref 53], (hpC (sR (sP (sP (sP (sP (sP s (gZ s 3) 0 (xsPush 4097 (gP s (gZ s 3) 0) x1)) (gZ s 3) 1 (xsPush 4097 (gP s (gZ s 3) 1) (gI s 9))) (gZ s 3) 2 (xsPush 4097 (gP s (gZ s 3) 2) (nI ((gP s (gZ s 3) 6)).length))) (gZ s 3) 3 (xsPush 4097 (gP s (gZ s 3) 3) (gI s 11))) (gZ s 3) 4 (xsPush 4097 (gP s (gZ s 3) 4) ((nI ((gP s (gZ s 3) 0)).length) + 1))) 1 (xsPush 4097 (gR s 1) (nI ((gP s (gZ s 3) 0)).length))), Q))) rfl ?_
  refine (show ∀ w : xSt, HE V L Kc Ks 86 (81, [(0, .ref 49), (1, .int x1), (2, .int x2)], [], (hpC (sR w 2 (xsPush 4097 (gR w 2) 0)), Q)) _ _ → HE V L Kc Ks 86 (78, [(0, .ref 49), (1, .int x1), (2, .int x2)], [.int 0, .ref 53], (hpC w, Q)) _ _ from fun w e => h_it 1 rfl e) (sR (sP (sP (sP (sP (sP s (gZ s 3) 0 (xsPush 4097 (gP s (gZ s 3) 0) x1)) (gZ s 3) 1 (xsPush 4097 (gP s (gZ s 3) 1) (gI s 9))) (gZ s 3) 2 (xsPush 4097 (gP s (gZ s 3) 2) (nI ((gP s (gZ s 3) 6)).length))) (gZ s 3) 3 (xsPush 4097 (gP s (gZ s 3) 3) (gI s 11))) (gZ s 3) 4 (xsPush 4097 (gP s (gZ s 3) 4) ((nI ((gP s (gZ s 3) 0)).length) + 1))) 1 (xsPush 4097 (gR s 1) (nI ((gP s (gZ s 3) 0)).length))) ?_
  show HE V L Kc Ks 86 (81, [(0, .ref 49), (1, .int x1), (2, .int x2)], [], (hpC (sR (sR (sP (sP (sP (sP (sP s (gZ s 3) 0 (xsPush 4097 (gP s (gZ s 3) 0) x1)) (gZ s 3) 1 (xsPush 4097 (gP s (gZ s 3) 1) (gI s 9))) (gZ s 3) 2 (xsPush 4097 (gP s (gZ s 3) 2) (nI ((gP s (gZ s 3) 6)).length))) (gZ s 3) 3 (xsPush 4097 (gP s (gZ s 3) 3) (gI s 11))) (gZ s 3) 4 (xsPush 4097 (gP s (gZ s 3) 4) ((nI ((gP s (gZ s 3) 0)).length) + 1))) 1 (xsPush 4097 (gR s 1) (nI ((gP s (gZ s 3) 0)).length))) 2 (xsPush 4097 (gR s 2) 0)), Q)) _ _
  refine h_it 3 (x' := (86, [(0, .ref 49), (1, .int x1), (2, .int x2)], [.int x2, .ref 55], (hpC (sR (sR (sP (sP (sP (sP (sP s (gZ s 3) 0 (xsPush 4097 (gP s (gZ s 3) 0) x1)) (gZ s 3) 1 (xsPush 4097 (gP s (gZ s 3) 1) (gI s 9))) (gZ s 3) 2 (xsPush 4097 (gP s (gZ s 3) 2) (nI ((gP s (gZ s 3) 6)).length))) (gZ s 3) 3 (xsPush 4097 (gP s (gZ s 3) 3) (gI s 11))) (gZ s 3) 4 (xsPush 4097 (gP s (gZ s 3) 4) ((nI ((gP s (gZ s 3) 0)).length) + 1))) 1 (xsPush 4097 (gR s 1) (nI ((gP s (gZ s 3) 0)).length))) 2 (xsPush 4097 (gR s 2) 0)), Q))) rfl ?_
  refine (show ∀ w : xSt, HE V L Kc Ks 86 (89, [(0, .ref 49), (1, .int x1), (2, .int x2)], [], (hpC (sR w 3 (xsPush 4097 (gR w 3) x2)), Q)) _ _ → HE V L Kc Ks 86 (86, [(0, .ref 49), (1, .int x1), (2, .int x2)], [.int x2, .ref 55], (hpC w, Q)) _ _ from fun w e => h_it 1 rfl e) (sR (sR (sP (sP (sP (sP (sP s (gZ s 3) 0 (xsPush 4097 (gP s (gZ s 3) 0) x1)) (gZ s 3) 1 (xsPush 4097 (gP s (gZ s 3) 1) (gI s 9))) (gZ s 3) 2 (xsPush 4097 (gP s (gZ s 3) 2) (nI ((gP s (gZ s 3) 6)).length))) (gZ s 3) 3 (xsPush 4097 (gP s (gZ s 3) 3) (gI s 11))) (gZ s 3) 4 (xsPush 4097 (gP s (gZ s 3) 4) ((nI ((gP s (gZ s 3) 0)).length) + 1))) 1 (xsPush 4097 (gR s 1) (nI ((gP s (gZ s 3) 0)).length))) 2 (xsPush 4097 (gR s 2) 0)) ?_
  show HE V L Kc Ks 86 (89, [(0, .ref 49), (1, .int x1), (2, .int x2)], [], (hpC (sR (sR (sR (sP (sP (sP (sP (sP s (gZ s 3) 0 (xsPush 4097 (gP s (gZ s 3) 0) x1)) (gZ s 3) 1 (xsPush 4097 (gP s (gZ s 3) 1) (gI s 9))) (gZ s 3) 2 (xsPush 4097 (gP s (gZ s 3) 2) (nI ((gP s (gZ s 3) 6)).length))) (gZ s 3) 3 (xsPush 4097 (gP s (gZ s 3) 3) (gI s 11))) (gZ s 3) 4 (xsPush 4097 (gP s (gZ s 3) 4) ((nI ((gP s (gZ s 3) 0)).length) + 1))) 1 (xsPush 4097 (gR s 1) (nI ((gP s (gZ s 3) 0)).length))) 2 (xsPush 4097 (gR s 2) 0)) 3 (xsPush 4097 (gR s 3) x2)), Q)) _ _
  refine h_it 2 (x' := (91, [(0, .ref 49), (1, .int x1), (2, .int x2)], [.int (-1), .ref 49], (hpC (sR (sR (sR (sP (sP (sP (sP (sP s (gZ s 3) 0 (xsPush 4097 (gP s (gZ s 3) 0) x1)) (gZ s 3) 1 (xsPush 4097 (gP s (gZ s 3) 1) (gI s 9))) (gZ s 3) 2 (xsPush 4097 (gP s (gZ s 3) 2) (nI ((gP s (gZ s 3) 6)).length))) (gZ s 3) 3 (xsPush 4097 (gP s (gZ s 3) 3) (gI s 11))) (gZ s 3) 4 (xsPush 4097 (gP s (gZ s 3) 4) ((nI ((gP s (gZ s 3) 0)).length) + 1))) 1 (xsPush 4097 (gR s 1) (nI ((gP s (gZ s 3) 0)).length))) 2 (xsPush 4097 (gR s 2) 0)) 3 (xsPush 4097 (gR s 3) x2)), Q))) rfl ?_
  refine (show ∀ w : xSt, HE V L Kc Ks 86 (94, [(0, .ref 49), (1, .int x1), (2, .int x2)], [], (hpC (sI w 10 (-1)), Q)) _ _ → HE V L Kc Ks 86 (91, [(0, .ref 49), (1, .int x1), (2, .int x2)], [.int (-1), .ref 49], (hpC w, Q)) _ _ from fun w e => h_it 1 rfl e) (sR (sR (sR (sP (sP (sP (sP (sP s (gZ s 3) 0 (xsPush 4097 (gP s (gZ s 3) 0) x1)) (gZ s 3) 1 (xsPush 4097 (gP s (gZ s 3) 1) (gI s 9))) (gZ s 3) 2 (xsPush 4097 (gP s (gZ s 3) 2) (nI ((gP s (gZ s 3) 6)).length))) (gZ s 3) 3 (xsPush 4097 (gP s (gZ s 3) 3) (gI s 11))) (gZ s 3) 4 (xsPush 4097 (gP s (gZ s 3) 4) ((nI ((gP s (gZ s 3) 0)).length) + 1))) 1 (xsPush 4097 (gR s 1) (nI ((gP s (gZ s 3) 0)).length))) 2 (xsPush 4097 (gR s 2) 0)) 3 (xsPush 4097 (gR s 3) x2)) ?_
  show HE V L Kc Ks 86 (94, [(0, .ref 49), (1, .int x1), (2, .int x2)], [], (hpC (sI (sR (sR (sR (sP (sP (sP (sP (sP s (gZ s 3) 0 (xsPush 4097 (gP s (gZ s 3) 0) x1)) (gZ s 3) 1 (xsPush 4097 (gP s (gZ s 3) 1) (gI s 9))) (gZ s 3) 2 (xsPush 4097 (gP s (gZ s 3) 2) (nI ((gP s (gZ s 3) 6)).length))) (gZ s 3) 3 (xsPush 4097 (gP s (gZ s 3) 3) (gI s 11))) (gZ s 3) 4 (xsPush 4097 (gP s (gZ s 3) 4) ((nI ((gP s (gZ s 3) 0)).length) + 1))) 1 (xsPush 4097 (gR s 1) (nI ((gP s (gZ s 3) 0)).length))) 2 (xsPush 4097 (gR s 2) 0)) 3 (xsPush 4097 (gR s 3) x2)) 10 (-1)), Q)) _ _
  replace h := Option.some.inj h; subst h
  exact h_vret rfl rfl
theorem m86_42_ok   {x1 : Int32} {y0 : Bool} {s : xSt} {q : xSt} (h : m86_42  x1 y0 s = some q) : HE V L Kc Ks 86 (42, [(0, .ref 49), (1, .int x1)], [.int (b01 y0)], (hpC s, Q)) (none) (hpC q, Q) := by
  unfold m86_42 at h
  refine h_it 1 (x' := (43, [(2, .int (b01 y0)), (0, .ref 49), (1, .int x1)], [], (hpC s, Q))) rfl ?_
  refine h_lw (lv := [(0, .ref 49), (1, .int x1), (2, .int (b01 y0))]) (fa_c rfl (fa_c rfl (fa_c rfl (fa_n)))) rfl ?_
  exact m86_43_ok  h
theorem m86_ok  {s : xSt} {q : xSt} (h : m86  s = some q) : HC V L Kc Ks 86 [.ref 49] (hpC s, Q) (none) (hpC q, Q) := by
  unfold m86 at h
  refine hc_of (by decide) rfl ?_
  refine h_it 2 (x' := (4, [(0, .ref 49)], [.ref 48], (hpC s, Q))) rfl ?_
  refine h_callO (As := []) (r1 := some (.int (gI s 8))) (st := []) (H1 := (hpC s, Q)) rfl rfl rfl rfl rfl rfl (m48_ok  s) ?_
  refine h_it 4 (x' := (11, [(1, .int (gI s 8)), (0, .ref 49)], [.int (gI s 8), .ref 49, .ref 49], (hpC s, Q))) rfl ?_
  obtain ⟨q1, hq1, h⟩ := Option.bind_eq_some_iff.mp h
  refine h_callO (As := [.int (gI s 8)]) (r1 := some (.int (b01 q1.1))) (st := [.ref 49]) (H1 := (hpC q1.2, Q)) rfl rfl rfl rfl rfl rfl (m87_ok hq1) ?_
  obtain ⟨q2, hq2, h⟩ := Option.bind_eq_some_iff.mp h
  refine h_callO (As := [.int (b01 q1.1)]) (r1 := some (.int (b01 q2.1))) (st := []) (H1 := (hpC q2.2, Q)) rfl rfl rfl rfl rfl rfl (m84_ok hq2) ?_
  refine h_br (b := decide (¬ (b01 q2.1) = 0)) (t := 21) (f := 20) (lv' := [(1, .int (gI s 8)), (0, .ref 49)]) (st' := []) rfl rfl ?_
  by_cases h3 : q2.1 = true
  · replace h := if_y h3 h
    refine h_y (b01_1 h3) ?_
    refine h_it 5 (x' := (28, [(2, .int (gI q2.2 10)), (1, .int (gI s 8)), (0, .ref 49)], [.int 2, .int (gI q2.2 10)], (hpC q2.2, Q))) rfl ?_
    refine h_br (b := decide (¬ (gI q2.2 10) = 2)) (t := 43) (f := 31) (lv' := [(2, .int (gI q2.2 10)), (1, .int (gI s 8)), (0, .ref 49)]) (st' := []) rfl rfl ?_
    by_cases h4 : (gI q2.2 10) = 2
    · replace h := if_y h4 h
      refine h_n (fun z => z h4) ?_
      refine h_it 2 (x' := (34, [(2, .int (gI q2.2 10)), (1, .int (gI s 8)), (0, .ref 49)], [.int 22, .int (gI s 8)], (hpC q2.2, Q))) rfl ?_
      refine h_br (b := decide (¬ (gI s 8) = 22)) (t := 41) (f := 37) (lv' := [(2, .int (gI q2.2 10)), (1, .int (gI s 8)), (0, .ref 49)]) (st' := []) rfl rfl ?_
      by_cases h5 : (gI s 8) = 22
      · replace h := if_y h5 h
        refine h_n (fun z => z h5) ?_
        refine h_it 2 (x' := (42, [(2, .int (gI q2.2 10)), (1, .int (gI s 8)), (0, .ref 49)], [.int 0], (hpC q2.2, Q))) rfl ?_
        refine h_lw (lv := [(0, .ref 49), (1, .int (gI s 8))]) (fa_c rfl (fa_c rfl (fa_n))) rfl ?_
        exact m86_42_ok  h
      · replace h := if_n h5 h
        refine h_y h5 ?_
        refine h_it 1 (x' := (42, [(2, .int (gI q2.2 10)), (1, .int (gI s 8)), (0, .ref 49)], [.int 1], (hpC q2.2, Q))) rfl ?_
        refine h_lw (lv := [(0, .ref 49), (1, .int (gI s 8))]) (fa_c rfl (fa_c rfl (fa_n))) rfl ?_
        exact m86_42_ok  h
    · replace h := if_n h4 h
      refine h_y h4 ?_
      refine h_lw (lv := [(0, .ref 49), (1, .int (gI s 8)), (2, .int (gI q2.2 10))]) (fa_c rfl (fa_c rfl (fa_c rfl (fa_n)))) rfl ?_
      exact m86_43_ok  h
  · replace h := if_n h3 h
    refine h_n (fun z => z (b01_0 h3)) ?_
    replace h := Option.some.inj h; subst h
    exact h_vret rfl rfl
end Sm86
