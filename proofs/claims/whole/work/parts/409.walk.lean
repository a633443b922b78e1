section Sm162
variable {V : xmV} {L : List Nat} {Kc Ks : Nat} {Q : List xE}
theorem m162_ok  {s : xSt} {q : Int32 × xSt} (h : m162  s = some q) : HC V L Kc Ks 162 [.ref 87] (Q, hpR s) (some (.int q.1)) (Q, hpR q.2) := by
  unfold m162 at h
  refine hc_of (by decide) rfl ?_
  refine h_it 1 (x' := (1, [(0, .ref 87)], [.ref 87], (Q, hpR s))) rfl ?_
  obtain ⟨q1, hq1, h⟩ := Option.bind_eq_some_iff.mp h
  refine h_callO (As := []) (r1 := some (.int q1.1)) (st := []) (H1 := (Q, hpR q1.2)) rfl rfl rfl rfl rfl rfl (m163_ok hq1) ?_
  refine h_br (b := decide (q1.1 < 0)) (t := 12) (f := 7) (lv' := [(0, .ref 87)]) (st' := []) rfl rfl ?_
  by_cases h2 : q1.1 < 0
  · replace h := if_y h2 h
    refine h_y h2 ?_
    refine h_it 2 (x' := (15, [(0, .ref 87)], [.retAddr 25, .ref 87], (Q, hpR q1.2))) rfl ?_
    obtain ⟨q3, hq3, h⟩ := Option.bind_eq_some_iff.mp h
    refine h_callO (As := [.retAddr 25]) (r1 := some (.int (b01 q3.1))) (st := []) (H1 := (Q, hpR q3.2)) rfl rfl rfl rfl rfl rfl (m159_ok hq3) ?_
    refine h_br (b := decide ((b01 q3.1) = 0)) (t := 26) (f := 21) (lv' := [(0, .ref 87)]) (st' := []) rfl rfl ?_
    by_cases h4 : q3.1 = true
    · replace h := if_y h4 h
      refine h_n (b01_1 h4) ?_
      replace h := Option.some.inj h; subst h
      refine h_it 2 (x' := (125, [(0, .ref 87)], [.int 10], (Q, hpR q3.2))) rfl ?_
      exact h_iret rfl rfl
    · replace h := if_n h4 h
      refine h_y (b01_0 h4) ?_
      refine h_it 2 (x' := (29, [(0, .ref 87)], [.retAddr 26, .ref 87], (Q, hpR q3.2))) rfl ?_
      obtain ⟨q5, hq5, h⟩ := Option.bind_eq_some_iff.mp h
      refine h_callO (As := [.retAddr 26]) (r1 := some (.int (b01 q5.1))) (st := []) (H1 := (Q, hpR q5.2)) rfl rfl rfl rfl rfl rfl (m159_ok hq5) ?_
      refine h_br (b := decide ((b01 q5.1) = 0)) (t := 40) (f := 35) (lv' := [(0, .ref 87)]) (st' := []) rfl rfl ?_
      by_cases h6 : q5.1 = true
      · replace h := if_y h6 h
        refine h_n (b01_1 h6) ?_
        replace h := Option.some.inj h; subst h
        refine h_it 2 (x' := (125, [(0, .ref 87)], [.int 11], (Q, hpR q5.2))) rfl ?_
        exact h_iret rfl rfl
      · replace h := if_n h6 h
        refine h_y (b01_0 h6) ?_
        refine h_it 2 (x' := (43, [(0, .ref 87)], [.retAddr 27, .ref 87], (Q, hpR q5.2))) rfl ?_
        obtain ⟨q7, hq7, h⟩ := Option.bind_eq_some_iff.mp h
        refine h_callO (As := [.retAddr 27]) (r1 := some (.int (b01 q7.1))) (st := []) (H1 := (Q, hpR q7.2)) rfl rfl rfl rfl rfl rfl (m159_ok hq7) ?_
        refine h_br (b := decide ((b01 q7.1) = 0)) (t := 54) (f := 49) (lv' := [(0, .ref 87)]) (st' := []) rfl rfl ?_
        by_cases h8 : q7.1 = true
        · replace h := if_y h8 h
          refine h_n (b01_1 h8) ?_
          replace h := Option.some.inj h; subst h
          refine h_it 2 (x' := (125, [(0, .ref 87)], [.int 12], (Q, hpR q7.2))) rfl ?_
          exact h_iret rfl rfl
        · replace h := if_n h8 h
          refine h_y (b01_0 h8) ?_
          refine h_it 2 (x' := (57, [(0, .ref 87)], [.retAddr 28, .ref 87], (Q, hpR q7.2))) rfl ?_
          obtain ⟨q9, hq9, h⟩ := Option.bind_eq_some_iff.mp h
          refine h_callO (As := [.retAddr 28]) (r1 := some (.int (b01 q9.1))) (st := []) (H1 := (Q, hpR q9.2)) rfl rfl rfl rfl rfl rfl (m159_ok hq9) ?_
          refine h_br (b := decide ((b01 q9.1) = 0)) (t := 68) (f := 63) (lv' := [(0, .ref 87)]) (st' := []) rfl rfl ?_
          by_cases h10 : q9.1 = true
          · replace h := if_y h10 h
            refine h_n (b01_1 h10) ?_
            replace h := Option.some.inj h; subst h
            refine h_it 2 (x' := (125, [(0, .ref 87)], [.int 13], (Q, hpR q9.2))) rfl ?_
            exact h_iret rfl rfl
          · replace h := if_n h10 h
            refine h_y (b01_0 h10) ?_
            refine h_it 2 (x' := (71, [(0, .ref 87)], [.retAddr 29, .ref 87], (Q, hpR q9.2))) rfl ?_
            obtain ⟨q11, hq11, h⟩ := Option.bind_eq_some_iff.mp h
            refine h_callO (As := [.retAddr 29]) (r1 := some (.int (b01 q11.1))) (st := []) (H1 := (Q, hpR q11.2)) rfl rfl rfl rfl rfl rfl (m159_ok hq11) ?_
            refine h_br (b := decide ((b01 q11.1) = 0)) (t := 82) (f := 77) (lv' := [(0, .ref 87)]) (st' := []) rfl rfl ?_
            by_cases h12 : q11.1 = true
            · replace h := if_y h12 h
              refine h_n (b01_1 h12) ?_
              replace h := Option.some.inj h; subst h
              refine h_it 2 (x' := (125, [(0, .ref 87)], [.int 14], (Q, hpR q11.2))) rfl ?_
              exact h_iret rfl rfl
            · replace h := if_n h12 h
              refine h_y (b01_0 h12) ?_
              refine h_it 2 (x' := (85, [(0, .ref 87)], [.retAddr 30, .ref 87], (Q, hpR q11.2))) rfl ?_
              obtain ⟨q13, hq13, h⟩ := Option.bind_eq_some_iff.mp h
              refine h_callO (As := [.retAddr 30]) (r1 := some (.int (b01 q13.1))) (st := []) (H1 := (Q, hpR q13.2)) rfl rfl rfl rfl rfl rfl (m159_ok hq13) ?_
              refine h_br (b := decide ((b01 q13.1) = 0)) (t := 96) (f := 91) (lv' := [(0, .ref 87)]) (st' := []) rfl rfl ?_
              by_cases h14 : q13.1 = true
              · replace h := if_y h14 h
                refine h_n (b01_1 h14) ?_
                replace h := Option.some.inj h; subst h
                refine h_it 2 (x' := (125, [(0, .ref 87)], [.int 15], (Q, hpR q13.2))) rfl ?_
                exact h_iret rfl rfl
              · replace h := if_n h14 h
                refine h_y (b01_0 h14) ?_
                refine h_it 2 (x' := (99, [(0, .ref 87)], [.retAddr 16, .ref 87], (Q, hpR q13.2))) rfl ?_
                obtain ⟨q15, hq15, h⟩ := Option.bind_eq_some_iff.mp h
                refine h_callO (As := [.retAddr 16]) (r1 := some (.int (b01 q15.1))) (st := []) (H1 := (Q, hpR q15.2)) rfl rfl rfl rfl rfl rfl (m159_ok hq15) ?_
                refine h_br (b := decide ((b01 q15.1) = 0)) (t := 110) (f := 105) (lv' := [(0, .ref 87)]) (st' := []) rfl rfl ?_
                by_cases h16 : q15.1 = true
                · replace h := if_y h16 h
                  refine h_n (b01_1 h16) ?_
                  replace h := Option.some.inj h; subst h
                  refine h_it 2 (x' := (125, [(0, .ref 87)], [.int 16], (Q, hpR q15.2))) rfl ?_
                  exact h_iret rfl rfl
                · replace h := if_n h16 h
                  refine h_y (b01_0 h16) ?_
                  refine h_it 2 (x' := (113, [(0, .ref 87)], [.retAddr 17, .ref 87], (Q, hpR q15.2))) rfl ?_
                  obtain ⟨q17, hq17, h⟩ := Option.bind_eq_some_iff.mp h
                  refine h_callO (As := [.retAddr 17]) (r1 := some (.int (b01 q17.1))) (st := []) (H1 := (Q, hpR q17.2)) rfl rfl rfl rfl rfl rfl (m159_ok hq17) ?_
                  refine h_br (b := decide ((b01 q17.1) = 0)) (t := 124) (f := 119) (lv' := [(0, .ref 87)]) (st' := []) rfl rfl ?_
                  by_cases h18 : q17.1 = true
                  · replace h := if_y h18 h
                    refine h_n (b01_1 h18) ?_
                    replace h := Option.some.inj h; subst h
                    refine h_it 2 (x' := (125, [(0, .ref 87)], [.int 17], (Q, hpR q17.2))) rfl ?_
                    exact h_iret rfl rfl
                  · replace h := if_n h18 h
                    refine h_y (b01_0 h18) ?_
                    replace h := Option.some.inj h; subst h
                    refine h_it 1 (x' := (125, [(0, .ref 87)], [.int (-1)], (Q, hpR q17.2))) rfl ?_
                    exact h_iret rfl rfl
  · replace h := if_n h2 h
    refine h_n h2 ?_
    refine h_it 1 (x' := (8, [(0, .ref 87)], [.ref 87], (Q, hpR q1.2))) rfl ?_
    obtain ⟨q19, hq19, h⟩ := Option.bind_eq_some_iff.mp h
    refine h_callO (As := []) (r1 := some (.int q19.1)) (st := []) (H1 := (Q, hpR q19.2)) rfl rfl rfl rfl rfl rfl (m163_ok hq19) ?_
    replace h := Option.some.inj h; subst h
    exact h_iret rfl rfl
end Sm162
section Sm164
variable {V : xmV} {L : List Nat} {Kc Ks : Nat} {Q : List xE}
theorem m164_ok  {s : xSt} {q : Int32 × xSt} (h : m164  s = some q) : HC V L Kc Ks 164 [.ref 87] (Q, hpR s) (some (.int q.1)) (Q, hpR q.2) := by
  unfold m164 at h
  refine hc_of (by decide) rfl ?_
  refine h_it 2 (x' := (3, [(0, .ref 87)], [.retAddr 31, .ref 87], (Q, hpR s))) rfl ?_
  obtain ⟨q1, hq1, h⟩ := Option.bind_eq_some_iff.mp h
  refine h_callO (As := [.retAddr 31]) (r1 := some (.int (b01 q1.1))) (st := []) (H1 := (Q, hpR q1.2)) rfl rfl rfl rfl rfl rfl (m159_ok hq1) ?_
  refine h_br (b := decide ((b01 q1.1) = 0)) (t := 14) (f := 9) (lv' := [(0, .ref 87)]) (st' := []) rfl rfl ?_
  by_cases h2 : q1.1 = true
  · replace h := if_y h2 h
    refine h_n (b01_1 h2) ?_
    replace h := Option.some.inj h; subst h
    refine h_it 2 (x' := (85, [(0, .ref 87)], [.int 18], (Q, hpR q1.2))) rfl ?_
    exact h_iret rfl rfl
  · replace h := if_n h2 h
    refine h_y (b01_0 h2) ?_
    refine h_it 2 (x' := (17, [(0, .ref 87)], [.retAddr 32, .ref 87], (Q, hpR q1.2))) rfl ?_
    obtain ⟨q3, hq3, h⟩ := Option.bind_eq_some_iff.mp h
    refine h_callO (As := [.retAddr 32]) (r1 := some (.int (b01 q3.1))) (st := []) (H1 := (Q, hpR q3.2)) rfl rfl rfl rfl rfl rfl (m159_ok hq3) ?_
    refine h_br (b := decide ((b01 q3.1) = 0)) (t := 28) (f := 23) (lv' := [(0, .ref 87)]) (st' := []) rfl rfl ?_
    by_cases h4 : q3.1 = true
    · replace h := if_y h4 h
      refine h_n (b01_1 h4) ?_
      replace h := Option.some.inj h; subst h
      refine h_it 2 (x' := (85, [(0, .ref 87)], [.int 19], (Q, hpR q3.2))) rfl ?_
      exact h_iret rfl rfl
    · replace h := if_n h4 h
      refine h_y (b01_0 h4) ?_
      refine h_it 2 (x' := (31, [(0, .ref 87)], [.retAddr 25, .ref 87], (Q, hpR q3.2))) rfl ?_
      obtain ⟨q5, hq5, h⟩ := Option.bind_eq_some_iff.mp h
      refine h_callO (As := [.retAddr 25]) (r1 := some (.int (b01 q5.1))) (st := []) (H1 := (Q, hpR q5.2)) rfl rfl rfl rfl rfl rfl (m159_ok hq5) ?_
      refine h_br (b := decide ((b01 q5.1) = 0)) (t := 42) (f := 37) (lv' := [(0, .ref 87)]) (st' := []) rfl rfl ?_
      by_cases h6 : q5.1 = true
      · replace h := if_y h6 h
        refine h_n (b01_1 h6) ?_
        replace h := Option.some.inj h; subst h
        refine h_it 2 (x' := (85, [(0, .ref 87)], [.int 20], (Q, hpR q5.2))) rfl ?_
        exact h_iret rfl rfl
      · replace h := if_n h6 h
        refine h_y (b01_0 h6) ?_
        refine h_it 2 (x' := (45, [(0, .ref 87)], [.retAddr 26, .ref 87], (Q, hpR q5.2))) rfl ?_
        obtain ⟨q7, hq7, h⟩ := Option.bind_eq_some_iff.mp h
        refine h_callO (As := [.retAddr 26]) (r1 := some (.int (b01 q7.1))) (st := []) (H1 := (Q, hpR q7.2)) rfl rfl rfl rfl rfl rfl (m159_ok hq7) ?_
        refine h_br (b := decide ((b01 q7.1) = 0)) (t := 56) (f := 51) (lv' := [(0, .ref 87)]) (st' := []) rfl rfl ?_
        by_cases h8 : q7.1 = true
        · replace h := if_y h8 h
          refine h_n (b01_1 h8) ?_
          replace h := Option.some.inj h; subst h
          refine h_it 2 (x' := (85, [(0, .ref 87)], [.int 21], (Q, hpR q7.2))) rfl ?_
          exact h_iret rfl rfl
        · replace h := if_n h8 h
          refine h_y (b01_0 h8) ?_
          refine h_it 2 (x' := (59, [(0, .ref 87)], [.retAddr 27, .ref 87], (Q, hpR q7.2))) rfl ?_
          obtain ⟨q9, hq9, h⟩ := Option.bind_eq_some_iff.mp h
          refine h_callO (As := [.retAddr 27]) (r1 := some (.int (b01 q9.1))) (st := []) (H1 := (Q, hpR q9.2)) rfl rfl rfl rfl rfl rfl (m159_ok hq9) ?_
          refine h_br (b := decide ((b01 q9.1) = 0)) (t := 70) (f := 65) (lv' := [(0, .ref 87)]) (st' := []) rfl rfl ?_
          by_cases h10 : q9.1 = true
          · replace h := if_y h10 h
            refine h_n (b01_1 h10) ?_
            replace h := Option.some.inj h; subst h
            refine h_it 2 (x' := (85, [(0, .ref 87)], [.int 22], (Q, hpR q9.2))) rfl ?_
            exact h_iret rfl rfl
          · replace h := if_n h10 h
            refine h_y (b01_0 h10) ?_
            refine h_it 2 (x' := (73, [(0, .ref 87)], [.retAddr 33, .ref 87], (Q, hpR q9.2))) rfl ?_
            obtain ⟨q11, hq11, h⟩ := Option.bind_eq_some_iff.mp h
            refine h_callO (As := [.retAddr 33]) (r1 := some (.int (b01 q11.1))) (st := []) (H1 := (Q, hpR q11.2)) rfl rfl rfl rfl rfl rfl (m159_ok hq11) ?_
            refine h_br (b := decide ((b01 q11.1) = 0)) (t := 84) (f := 79) (lv' := [(0, .ref 87)]) (st' := []) rfl rfl ?_
            by_cases h12 : q11.1 = true
            · replace h := if_y h12 h
              refine h_n (b01_1 h12) ?_
              replace h := Option.some.inj h; subst h
              refine h_it 2 (x' := (85, [(0, .ref 87)], [.int 23], (Q, hpR q11.2))) rfl ?_
              exact h_iret rfl rfl
            · replace h := if_n h12 h
              refine h_y (b01_0 h12) ?_
              replace h := Option.some.inj h; subst h
              refine h_it 1 (x' := (85, [(0, .ref 87)], [.int (-1)], (Q, hpR q11.2))) rfl ?_
              exact h_iret rfl rfl
end Sm164
section Sm160
variable {V : xmV} {L : List Nat} {Kc Ks : Nat} {Q : List xE}
theorem m160_ok  {s : xSt} {q : Bool × xSt} (h : m160  s = some q) : HC V L Kc Ks 160 [.ref 87] (Q, hpR s) (some (.int (b01 q.1))) (Q, hpR q.2) := by
  unfold m160 at h
  refine hc_of (by decide) rfl ?_
  refine h_it 3 (x' := (5, [(0, .ref 87)], [.int 2, .int (gI s 24)], (Q, hpR s))) rfl ?_
  refine h_br (b := decide (¬ (gI s 24) = 2)) (t := 60) (f := 8) (lv' := [(0, .ref 87)]) (st' := []) rfl rfl ?_
  by_cases h1 : (gI s 24) = 2
  · replace h := if_y h1 h
    refine h_n (fun z => z h1) ?_
    refine h_it 1 (x' := (9, [(0, .ref 87)], [.ref 87], (Q, hpR s))) rfl ?_
    obtain ⟨q2, hq2, h⟩ := Option.bind_eq_some_iff.mp h
    refine h_callO (As := []) (r1 := some (.int q2.1)) (st := []) (H1 := (Q, hpR q2.2)) rfl rfl rfl rfl rfl rfl (m161_ok hq2) ?_
    refine h_br (b := decide (0 ≤ q2.1)) (t := 60) (f := 15) (lv' := [(0, .ref 87)]) (st' := []) rfl rfl ?_
    by_cases h3 : 0 ≤ q2.1
    · replace h := if_y h3 h
      refine h_y h3 ?_
      replace h := Option.some.inj h; subst h
      refine h_it 1 (x' := (61, [(0, .ref 87)], [.int (b01 false)], (Q, hpR q2.2))) rfl ?_
      exact h_zret rfl rfl
    · replace h := if_n h3 h
      refine h_n h3 ?_
      refine h_it 1 (x' := (16, [(0, .ref 87)], [.ref 87], (Q, hpR q2.2))) rfl ?_
      obtain ⟨q4, hq4, h⟩ := Option.bind_eq_some_iff.mp h
      refine h_callO (As := []) (r1 := some (.int q4.1)) (st := []) (H1 := (Q, hpR q4.2)) rfl rfl rfl rfl rfl rfl (m162_ok hq4) ?_
      refine h_br (b := decide (0 ≤ q4.1)) (t := 60) (f := 22) (lv' := [(0, .ref 87)]) (st' := []) rfl rfl ?_
      by_cases h5 : 0 ≤ q4.1
      · replace h := if_y h5 h
        refine h_y h5 ?_
        replace h := Option.some.inj h; subst h
        refine h_it 1 (x' := (61, [(0, .ref 87)], [.int (b01 false)], (Q, hpR q4.2))) rfl ?_
        exact h_zret rfl rfl
      · replace h := if_n h5 h
        refine h_n h5 ?_
        refine h_it 1 (x' := (23, [(0, .ref 87)], [.ref 87], (Q, hpR q4.2))) rfl ?_
        obtain ⟨q6, hq6, h⟩ := Option.bind_eq_some_iff.mp h
        refine h_callO (As := []) (r1 := some (.int q6.1)) (st := []) (H1 := (Q, hpR q6.2)) rfl rfl rfl rfl rfl rfl (m164_ok hq6) ?_
        refine h_br (b := decide (0 ≤ q6.1)) (t := 60) (f := 29) (lv' := [(0, .ref 87)]) (st' := []) rfl rfl ?_
        by_cases h7 : 0 ≤ q6.1
        · replace h := if_y h7 h
          refine h_y h7 ?_
          replace h := Option.some.inj h; subst h
          refine h_it 1 (x' := (61, [(0, .ref 87)], [.int (b01 false)], (Q, hpR q6.2))) rfl ?_
          exact h_zret rfl rfl
        · replace h := if_n h7 h
          refine h_n h7 ?_
          refine h_it 2 (x' := (32, [(0, .ref 87)], [.retAddr 12, .ref 87], (Q, hpR q6.2))) rfl ?_
          obtain ⟨q8, hq8, h⟩ := Option.bind_eq_some_iff.mp h
          refine h_callO (As := [.retAddr 12]) (r1 := some (.int (b01 q8.1))) (st := []) (H1 := (Q, hpR q8.2)) rfl rfl rfl rfl rfl rfl (m159_ok hq8) ?_
          refine h_br (b := decide (¬ (b01 q8.1) = 0)) (t := 60) (f := 38) (lv' := [(0, .ref 87)]) (st' := []) rfl rfl ?_
          by_cases h9 : q8.1 = true
          · replace h := if_y h9 h
            refine h_y (b01_1 h9) ?_
            replace h := Option.some.inj h; subst h
            refine h_it 1 (x' := (61, [(0, .ref 87)], [.int (b01 false)], (Q, hpR q8.2))) rfl ?_
            exact h_zret rfl rfl
          · replace h := if_n h9 h
            refine h_n (fun z => z (b01_0 h9)) ?_
            refine h_it 2 (x' := (41, [(0, .ref 87)], [.retAddr 13, .ref 87], (Q, hpR q8.2))) rfl ?_
            obtain ⟨q10, hq10, h⟩ := Option.bind_eq_some_iff.mp h
            refine h_callO (As := [.retAddr 13]) (r1 := some (.int (b01 q10.1))) (st := []) (H1 := (Q, hpR q10.2)) rfl rfl rfl rfl rfl rfl (m159_ok hq10) ?_
            refine h_br (b := decide (¬ (b01 q10.1) = 0)) (t := 60) (f := 47) (lv' := [(0, .ref 87)]) (st' := []) rfl rfl ?_
            by_cases h11 : q10.1 = true
            · replace h := if_y h11 h
              refine h_y (b01_1 h11) ?_
              replace h := Option.some.inj h; subst h
              refine h_it 1 (x' := (61, [(0, .ref 87)], [.int (b01 false)], (Q, hpR q10.2))) rfl ?_
              exact h_zret rfl rfl
            · replace h := if_n h11 h
              refine h_n (fun z => z (b01_0 h11)) ?_
              refine h_it 2 (x' := (50, [(0, .ref 87)], [.retAddr 34, .ref 87], (Q, hpR q10.2))) rfl ?_
              obtain ⟨q12, hq12, h⟩ := Option.bind_eq_some_iff.mp h
              refine h_callO (As := [.retAddr 34]) (r1 := some (.int (b01 q12.1))) (st := []) (H1 := (Q, hpR q12.2)) rfl rfl rfl rfl rfl rfl (m159_ok hq12) ?_
              refine h_br (b := decide (¬ (b01 q12.1) = 0)) (t := 60) (f := 56) (lv' := [(0, .ref 87)]) (st' := []) rfl rfl ?_
              by_cases h13 : q12.1 = true
              · replace h := if_y h13 h
                refine h_y (b01_1 h13) ?_
                replace h := Option.some.inj h; subst h
                refine h_it 1 (x' := (61, [(0, .ref 87)], [.int (b01 false)], (Q, hpR q12.2))) rfl ?_
                exact h_zret rfl rfl
              · replace h := if_n h13 h
                refine h_n (fun z => z (b01_0 h13)) ?_
                replace h := Option.some.inj h; subst h
                refine h_it 2 (x' := (61, [(0, .ref 87)], [.int (b01 true)], (Q, hpR q12.2))) rfl ?_
                exact h_zret rfl rfl
  · replace h := if_n h1 h
    refine h_y h1 ?_
    replace h := Option.some.inj h; subst h
    refine h_it 1 (x' := (61, [(0, .ref 87)], [.int (b01 false)], (Q, hpR s))) rfl ?_
    exact h_zret rfl rfl
end Sm160
section Sm165
variable {V : xmV} {L : List Nat} {Kc Ks : Nat} {Q : List xE}
theorem m165_227_ok   {y0 : Bool} {s : xSt} {q : xSt} (h : m165_227  y0 s = some q) : HE V L Kc Ks 165 (227, [], [.int (b01 y0), .ref 87], (Q, hpR s)) (none) (Q, hpR q) := by
  unfold m165_227 at h
  obtain ⟨q24, hq24, h⟩ := Option.bind_eq_some_iff.mp h
  refine h_callO (As := [.int (b01 y0)]) (r1 := some (.int (b01 q24.1))) (st := []) (H1 := (Q, hpR q24.2)) rfl rfl rfl rfl rfl rfl (m158_ok hq24) ?_
  replace h := Option.some.inj h; subst h
  refine h_it 1 (x' := (231, [], [], (Q, hpR q24.2))) rfl ?_
  exact h_vret rfl rfl
theorem m165_191_ok   {x1 : Int32} {y0 : Int32} {y1 : Int32} {s : xSt} {q : xSt} (h : m165_191  x1 y0 y1 s = some q) : HE V L Kc Ks 165 (191, [(0, .ref 87), (1, .int x1)], [.int y0, .int y1, .ref 96], (Q, hpR s)) (none) (Q, hpR q) := by
  unfold m165_191 at h
  obtain ⟨u18, hu18, h⟩ := Option.bind_eq_some_iff.mp h
  refine h_iast rfl rfl hu18 ?_
  show HE V L Kc Ks 165 (192, [(0, .ref 87), (1, .int x1)], [], (Q, hpR (sR s 7 u18))) _ _
  refine h_it 4 (x' := (198, [(0, .ref 87), (1, .int x1)], [.int x1, .ref 91, .int x1, .ref 91], (Q, hpR (sR s 7 u18)))) rfl ?_
  obtain ⟨v19, hv19, h⟩ := Option.bind_eq_some_iff.mp h
  refine h_iald rfl rfl hv19 ?_
  refine h_it 2 (x' := (201, [(0, .ref 87), (1, .int x1)], [.int (v19 + 1), .int x1, .ref 91], (Q, hpR (sR s 7 u18)))) rfl ?_
  obtain ⟨u20, hu20, h⟩ := Option.bind_eq_some_iff.mp h
  refine h_iast rfl rfl hu20 ?_
  show HE V L Kc Ks 165 (202, [(0, .ref 87), (1, .int x1)], [], (Q, hpR (sR (sR s 7 u18) 4 u20))) _ _
  refine h_it 2 (x' := (206, [(0, .ref 87), (1, .int x1)], [.int (gI s 21)], (Q, hpR (sR (sR s 7 u18) 4 u20)))) rfl ?_
  refine h_br (b := decide (¬ (gI s 21) = 0)) (t := 231) (f := 209) (lv' := [(0, .ref 87), (1, .int x1)]) (st' := []) rfl rfl ?_
  by_cases h21 : (gI s 21) = 0
  · replace h := if_y h21 h
    refine h_n (fun z => z h21) ?_
    refine h_it 1 (x' := (210, [(0, .ref 87), (1, .int x1)], [.ref 87], (Q, hpR (sR (sR s 7 u18) 4 u20)))) rfl ?_
    obtain ⟨q22, hq22, h⟩ := Option.bind_eq_some_iff.mp h
    refine h_callO (As := []) (r1 := none) (st := []) (H1 := (Q, hpR q22)) rfl rfl rfl rfl rfl rfl (m150_ok hq22) ?_
    refine h_it 4 (x' := (219, [(0, .ref 87), (1, .int x1)], [.int 1, .int (gI q22 24), .ref 87], (Q, hpR q22))) rfl ?_
    refine h_br (b := decide (¬ (gI q22 24) = 1)) (t := 226) (f := 222) (lv' := [(0, .ref 87), (1, .int x1)]) (st' := [.ref 87]) rfl rfl ?_
    by_cases h23 : (gI q22 24) = 1
    · replace h := if_y h23 h
      refine h_n (fun z => z h23) ?_
      refine h_it 2 (x' := (227, [(0, .ref 87), (1, .int x1)], [.int 1, .ref 87], (Q, hpR q22))) rfl ?_
      refine h_lw (lv := []) (fa_n) rfl ?_
      exact m165_227_ok  h
    · replace h := if_n h23 h
      refine h_y h23 ?_
      refine h_it 1 (x' := (227, [(0, .ref 87), (1, .int x1)], [.int 0, .ref 87], (Q, hpR q22))) rfl ?_
      refine h_lw (lv := []) (fa_n) rfl ?_
      exact m165_227_ok  h
  · replace h := if_n h21 h
    refine h_y h21 ?_
    replace h := Option.some.inj h; subst h
    exact h_vret rfl rfl
theorem m165_154_ok   {x1 : Int32} {y0 : Bool} {s : xSt} {q : xSt} (h : m165_154  x1 y0 s = some q) : HE V L Kc Ks 165 (154, [(0, .ref 87), (1, .int x1)], [.int (b01 y0), .ref 87], (Q, hpR s)) (none) (Q, hpR q) := by
  unfold m165_154 at h
  obtain ⟨q14, hq14, h⟩ := Option.bind_eq_some_iff.mp h
  refine h_callO (As := [.int (b01 y0)]) (r1 := some (.int (b01 q14.1))) (st := []) (H1 := (Q, hpR q14.2)) rfl rfl rfl rfl rfl rfl (m158_ok hq14) ?_
  refine h_it 9 (x' := (171, [(0, .ref 87), (1, .int x1)], [.int x1, .ref 91, .int (8 * x1), .ref 96], (Q, hpR q14.2))) rfl ?_
  obtain ⟨v15, hv15, h⟩ := Option.bind_eq_some_iff.mp h
  refine h_iald rfl rfl hv15 ?_
  refine h_it 5 (x' := (180, [(0, .ref 87), (1, .int x1)], [.int (gI q14.2 21), .int ((8 * x1) + (v15 &&& 7)), .ref 96], (Q, hpR q14.2))) rfl ?_
  refine h_br (b := decide ((gI q14.2 21) ≤ 0)) (t := 187) (f := 183) (lv' := [(0, .ref 87), (1, .int x1)]) (st' := [.int ((8 * x1) + (v15 &&& 7)), .ref 96]) rfl rfl ?_
  by_cases h16 : (gI q14.2 21) ≤ 0
  · replace h := if_y h16 h
    refine h_y h16 ?_
    refine h_it 1 (x' := (188, [(0, .ref 87), (1, .int x1)], [.ref 87, .int ((8 * x1) + (v15 &&& 7)), .ref 96], (Q, hpR q14.2))) rfl ?_
    obtain ⟨q17, hq17, h⟩ := Option.bind_eq_some_iff.mp h
    refine h_callO (As := []) (r1 := some (.int q17.1)) (st := [.int ((8 * x1) + (v15 &&& 7)), .ref 96]) (H1 := (Q, hpR q17.2)) rfl rfl rfl rfl rfl rfl (m161_ok hq17) ?_
    refine h_lw (lv := [(0, .ref 87), (1, .int x1)]) (fa_c rfl (fa_c rfl (fa_n))) rfl ?_
    exact m165_191_ok  h
  · replace h := if_n h16 h
    refine h_n h16 ?_
    refine h_it 2 (x' := (191, [(0, .ref 87), (1, .int x1)], [.int 0, .int ((8 * x1) + (v15 &&& 7)), .ref 96], (Q, hpR q14.2))) rfl ?_
    refine h_lw (lv := [(0, .ref 87), (1, .int x1)]) (fa_c rfl (fa_c rfl (fa_n))) rfl ?_
    exact m165_191_ok  h
theorem m165_149_ok   {x1 : Int32} {s : xSt} {q : xSt} (h : m165_149  x1 s = some q) : HE V L Kc Ks 165 (149, [(0, .ref 87), (1, .int x1)], [.ref 87], (Q, hpR s)) (none) (Q, hpR q) := by
  unfold m165_149 at h
  refine h_it 2 (x' := (154, [(0, .ref 87), (1, .int x1)], [.int 1, .ref 87], (Q, hpR s))) rfl ?_
  refine h_lw (lv := [(0, .ref 87), (1, .int x1)]) (fa_c rfl (fa_c rfl (fa_n))) rfl ?_
  exact m165_154_ok  h
theorem m165_98_ok   {x1 : Int32} {y0 : Bool} {s : xSt} {q : xSt} (h : m165_98  x1 y0 s = some q) : HE V L Kc Ks 165 (98, [(0, .ref 87), (1, .int x1)], [.int (b01 y0), .ref 87], (Q, hpR s)) (none) (Q, hpR q) := by
  unfold m165_98 at h
  obtain ⟨q8, hq8, h⟩ := Option.bind_eq_some_iff.mp h
  refine h_callO (As := [.int (b01 y0)]) (r1 := some (.int (b01 q8.1))) (st := []) (H1 := (Q, hpR q8.2)) rfl rfl rfl rfl rfl rfl (m158_ok hq8) ?_
  refine h_it 3 (x' := (106, [(0, .ref 87), (1, .int x1)], [.int (gI q8.2 21)], (Q, hpR q8.2))) rfl ?_
  refine h_br (b := decide ((gI q8.2 21) ≤ 0)) (t := 110) (f := 109) (lv' := [(0, .ref 87), (1, .int x1)]) (st' := []) rfl rfl ?_
  by_cases h9 : (gI q8.2 21) ≤ 0
  · replace h := if_y h9 h
    refine h_y h9 ?_
    refine h_it 8 (x' := (123, [(0, .ref 87), (1, .int x1)], [.int x1, .ref 91, .int (8 * x1), .ref 95], (Q, hpR q8.2))) rfl ?_
    obtain ⟨v10, hv10, h⟩ := Option.bind_eq_some_iff.mp h
    refine h_iald rfl rfl hv10 ?_
    refine h_it 3 (x' := (129, [(0, .ref 87), (1, .int x1)], [.long (gJ q8.2 0), .int ((8 * x1) + v10), .ref 95], (Q, hpR q8.2))) rfl ?_
    obtain ⟨u11, hu11, h⟩ := Option.bind_eq_some_iff.mp h
    refine h_last rfl rfl hu11 ?_
    show HE V L Kc Ks 165 (130, [(0, .ref 87), (1, .int x1)], [], (Q, hpR (sL q8.2 1 u11))) _ _
    refine h_it 1 (x' := (131, [(0, .ref 87), (1, .int x1)], [.ref 87], (Q, hpR (sL q8.2 1 u11)))) rfl ?_
    obtain ⟨q12, hq12, h⟩ := Option.bind_eq_some_iff.mp h
    refine h_callO (As := []) (r1 := none) (st := []) (H1 := (Q, hpR q12)) rfl rfl rfl rfl rfl rfl (m150_ok hq12) ?_
    refine h_it 3 (x' := (139, [(0, .ref 87), (1, .int x1)], [.int (gI q12 21), .ref 87], (Q, hpR q12))) rfl ?_
    refine h_br (b := decide (0 < (gI q12 21))) (t := 149) (f := 142) (lv' := [(0, .ref 87), (1, .int x1)]) (st' := [.ref 87]) rfl rfl ?_
    by_cases h13 : 0 < (gI q12 21)
    · replace h := if_y h13 h
      refine h_y h13 ?_
      refine h_lw (lv := [(0, .ref 87), (1, .int x1)]) (fa_c rfl (fa_c rfl (fa_n))) rfl ?_
      exact m165_149_ok  h
    · replace h := if_n h13 h
      refine h_n h13 ?_
      refine h_it 1 (x' := (143, [(0, .ref 87), (1, .int x1)], [.ref 87, .ref 87], (Q, hpR q12))) rfl ?_
      obtain ⟨q25, hq25, h⟩ := Option.bind_eq_some_iff.mp h
      refine h_callO (As := []) (r1 := some (.int q25.1)) (st := [.ref 87]) (H1 := (Q, hpR q25.2)) rfl rfl rfl rfl rfl rfl (m161_ok hq25) ?_
      refine h_br (b := decide (q25.1 < 0)) (t := 153) (f := 149) (lv' := [(0, .ref 87), (1, .int x1)]) (st' := [.ref 87]) rfl rfl ?_
      by_cases h26 : q25.1 < 0
      · replace h := if_y h26 h
        refine h_y h26 ?_
        refine h_it 1 (x' := (154, [(0, .ref 87), (1, .int x1)], [.int 0, .ref 87], (Q, hpR q25.2))) rfl ?_
        refine h_lw (lv := [(0, .ref 87), (1, .int x1)]) (fa_c rfl (fa_c rfl (fa_n))) rfl ?_
        exact m165_154_ok  h
      · replace h := if_n h26 h
        refine h_n h26 ?_
        refine h_lw (lv := [(0, .ref 87), (1, .int x1)]) (fa_c rfl (fa_c rfl (fa_n))) rfl ?_
        exact m165_149_ok  h
  · replace h := if_n h9 h
    refine h_n h9 ?_
    replace h := Option.some.inj h; subst h
    exact h_vret rfl rfl
theorem m165_93_ok   {x1 : Int32} {s : xSt} {q : xSt} (h : m165_93  x1 s = some q) : HE V L Kc Ks 165 (93, [(0, .ref 87), (1, .int x1)], [.ref 87], (Q, hpR s)) (none) (Q, hpR q) := by
  unfold m165_93 at h
  refine h_it 2 (x' := (98, [(0, .ref 87), (1, .int x1)], [.int 1, .ref 87], (Q, hpR s))) rfl ?_
  refine h_lw (lv := [(0, .ref 87), (1, .int x1)]) (fa_c rfl (fa_c rfl (fa_n))) rfl ?_
  exact m165_98_ok  h
theorem m165_97_ok   {x1 : Int32} {s : xSt} {q : xSt} (h : m165_97  x1 s = some q) : HE V L Kc Ks 165 (97, [(0, .ref 87), (1, .int x1)], [.ref 87], (Q, hpR s)) (none) (Q, hpR q) := by
  unfold m165_97 at h
  refine h_it 1 (x' := (98, [(0, .ref 87), (1, .int x1)], [.int 0, .ref 87], (Q, hpR s))) rfl ?_
  refine h_lw (lv := [(0, .ref 87), (1, .int x1)]) (fa_c rfl (fa_c rfl (fa_n))) rfl ?_
  exact m165_98_ok  h
theorem m165_29_ok   : ∀ (n : Nat) (x1 : Int32) (x2 : Bool) (x3 : Int32) (s : xSt) (q : xSt), m165_29  n x1 x2 x3 s = some q → HE V L Kc Ks 165 (29, [(0, .ref 87), (1, .int x1), (2, .int (b01 x2)), (3, .int x3)], [], (Q, hpR s)) (none) (Q, hpR q) := by
  intro n
  induction n with
  | zero => intro x1 x2 x3 s q h; cases h
  | succ n ih =>
    intro x1 x2 x3 s q h
    unfold m165_29 at h
    refine h_it 4 (x' := (35, [(0, .ref 87), (1, .int x1), (2, .int (b01 x2)), (3, .int x3)], [.int x1, .ref 91, .int x3], (Q, hpR s))) rfl ?_
    obtain ⟨v5, hv5, h⟩ := Option.bind_eq_some_iff.mp h
    refine h_iald rfl rfl hv5 ?_
    refine h_br (b := decide (v5 ≤ x3)) (t := 74) (f := 39) (lv' := [(0, .ref 87), (1, .int x1), (2, .int (b01 x2)), (3, .int x3)]) (st' := []) rfl rfl ?_
    by_cases h6 : v5 ≤ x3
    · replace h := if_y h6 h
      refine h_y h6 ?_
      refine h_it 3 (x' := (79, [(0, .ref 87), (1, .int x1), (2, .int (b01 x2)), (3, .int x3)], [.int (gI s 21), .ref 87], (Q, hpR s))) rfl ?_
      refine h_br (b := decide (0 < (gI s 21))) (t := 93) (f := 82) (lv' := [(0, .ref 87), (1, .int x1), (2, .int (b01 x2)), (3, .int x3)]) (st' := [.ref 87]) rfl rfl ?_
      by_cases h7 : 0 < (gI s 21)
      · replace h := if_y h7 h
        refine h_y h7 ?_
        refine h_lw (lv := [(0, .ref 87), (1, .int x1)]) (fa_c rfl (fa_c rfl (fa_n))) rfl ?_
        exact m165_93_ok  h
      · replace h := if_n h7 h
        refine h_n h7 ?_
        refine h_it 1 (x' := (83, [(0, .ref 87), (1, .int x1), (2, .int (b01 x2)), (3, .int x3)], [.ref 87, .ref 87], (Q, hpR s))) rfl ?_
        obtain ⟨q27, hq27, h⟩ := Option.bind_eq_some_iff.mp h
        refine h_callO (As := []) (r1 := some (.int (b01 q27.1))) (st := [.ref 87]) (H1 := (Q, hpR q27.2)) rfl rfl rfl rfl rfl rfl (m160_ok hq27) ?_
        refine h_br (b := decide ((b01 q27.1) = 0)) (t := 97) (f := 89) (lv' := [(0, .ref 87), (1, .int x1), (2, .int (b01 x2)), (3, .int x3)]) (st' := [.ref 87]) rfl rfl ?_
        by_cases h28 : q27.1 = true
        · replace h := if_y h28 h
          refine h_n (b01_1 h28) ?_
          refine h_it 1 (x' := (90, [(0, .ref 87), (1, .int x1), (2, .int (b01 x2)), (3, .int x3)], [.int (b01 x2), .ref 87], (Q, hpR q27.2))) rfl ?_
          refine h_br (b := decide (¬ (b01 x2) = 0)) (t := 97) (f := 93) (lv' := [(0, .ref 87), (1, .int x1), (2, .int (b01 x2)), (3, .int x3)]) (st' := [.ref 87]) rfl rfl ?_
          by_cases h29 : x2 = true
          · replace h := if_y h29 h
            refine h_y (b01_1 h29) ?_
            refine h_lw (lv := [(0, .ref 87), (1, .int x1)]) (fa_c rfl (fa_c rfl (fa_n))) rfl ?_
            exact m165_97_ok  h
          · replace h := if_n h29 h
            refine h_n (fun z => z (b01_0 h29)) ?_
            refine h_lw (lv := [(0, .ref 87), (1, .int x1)]) (fa_c rfl (fa_c rfl (fa_n))) rfl ?_
            exact m165_93_ok  h
        · replace h := if_n h28 h
          refine h_y (b01_0 h28) ?_
          refine h_lw (lv := [(0, .ref 87), (1, .int x1)]) (fa_c rfl (fa_c rfl (fa_n))) rfl ?_
          exact m165_97_ok  h
    · replace h := if_n h6 h
      refine h_n h6 ?_
      refine h_it 1 (x' := (40, [(0, .ref 87), (1, .int x1), (2, .int (b01 x2)), (3, .int x3)], [.int (b01 x2)], (Q, hpR s))) rfl ?_
      refine h_br (b := decide (¬ (b01 x2) = 0)) (t := 62) (f := 43) (lv' := [(0, .ref 87), (1, .int x1), (2, .int (b01 x2)), (3, .int x3)]) (st' := []) rfl rfl ?_
      by_cases h30 : x2 = true
      · replace h := if_y h30 h
        refine h_y (b01_1 h30) ?_
        refine h_it 5 (x' := (29, [(3, .int (x3 + 1)), (2, .int 1), (0, .ref 87), (1, .int x1)], [], (Q, hpR s))) rfl ?_
        refine h_lw (lv := [(0, .ref 87), (1, .int x1), (2, .int 1), (3, .int (x3 + 1))]) (fa_c rfl (fa_c rfl (fa_c rfl (fa_c rfl (fa_n))))) rfl ?_
        exact ih x1 true (x3 + 1) s _ h
      · replace h := if_n h30 h
        refine h_n (fun z => z (b01_0 h30)) ?_
        refine h_it 7 (x' := (53, [(0, .ref 87), (1, .int x1), (2, .int (b01 x2)), (3, .int x3)], [.int ((8 * x1) + x3), .ref 95], (Q, hpR s))) rfl ?_
        obtain ⟨v31, hv31, h⟩ := Option.bind_eq_some_iff.mp h
        refine h_lald rfl rfl hv31 ?_
        refine h_it 3 (x' := (59, [(0, .ref 87), (1, .int x1), (2, .int (b01 x2)), (3, .int x3)], [.int (lg_cmp v31 (gJ s 0))], (Q, hpR s))) rfl ?_
        refine h_br (b := decide (¬ (lg_cmp v31 (gJ s 0)) = 0)) (t := 66) (f := 62) (lv' := [(0, .ref 87), (1, .int x1), (2, .int (b01 x2)), (3, .int x3)]) (st' := []) rfl rfl ?_
        by_cases h32 : (lg_cmp v31 (gJ s 0)) = 0
        · replace h := if_y h32 h
          refine h_n (fun z => z h32) ?_
          refine h_it 5 (x' := (29, [(3, .int (x3 + 1)), (2, .int 1), (0, .ref 87), (1, .int x1)], [], (Q, hpR s))) rfl ?_
          refine h_lw (lv := [(0, .ref 87), (1, .int x1), (2, .int 1), (3, .int (x3 + 1))]) (fa_c rfl (fa_c rfl (fa_c rfl (fa_c rfl (fa_n))))) rfl ?_
          exact ih x1 true (x3 + 1) s _ h
        · replace h := if_n h32 h
          refine h_y h32 ?_
          refine h_it 4 (x' := (29, [(3, .int (x3 + 1)), (2, .int 0), (0, .ref 87), (1, .int x1)], [], (Q, hpR s))) rfl ?_
          refine h_lw (lv := [(0, .ref 87), (1, .int x1), (2, .int 0), (3, .int (x3 + 1))]) (fa_c rfl (fa_c rfl (fa_c rfl (fa_c rfl (fa_n))))) rfl ?_
          exact ih x1 false (x3 + 1) s _ h
theorem m165_17_ok   {x1 : Int32} {y0 : Bool} {s : xSt} {q : xSt} (h : m165_17  x1 y0 s = some q) : HE V L Kc Ks 165 (17, [(0, .ref 87), (1, .int x1)], [.int (b01 y0), .ref 87], (Q, hpR s)) (none) (Q, hpR q) := by
  unfold m165_17 at h
  obtain ⟨q3, hq3, h⟩ := Option.bind_eq_some_iff.mp h
  refine h_callO (As := [.int (b01 y0)]) (r1 := some (.int (b01 q3.1))) (st := []) (H1 := (Q, hpR q3.2)) rfl rfl rfl rfl rfl rfl (m158_ok hq3) ?_
  refine h_it 2 (x' := (22, [(0, .ref 87), (1, .int x1)], [.ref 87], (Q, hpR q3.2))) rfl ?_
  obtain ⟨q4, hq4, h⟩ := Option.bind_eq_some_iff.mp h
  refine h_callO (As := []) (r1 := none) (st := []) (H1 := (Q, hpR q4)) rfl rfl rfl rfl rfl rfl (m150_ok hq4) ?_
  refine h_it 4 (x' := (29, [(3, .int 0), (2, .int 0), (0, .ref 87), (1, .int x1)], [], (Q, hpR q4))) rfl ?_
  refine h_lw (lv := [(0, .ref 87), (1, .int x1), (2, .int 0), (3, .int 0)]) (fa_c rfl (fa_c rfl (fa_c rfl (fa_c rfl (fa_n))))) rfl ?_
  exact m165_29_ok  1000000 x1 false 0 q4 _ h
theorem m165_ok {a1 : Int32} {s : xSt} {q : xSt} (h : m165 a1 s = some q) : HC V L Kc Ks 165 [.ref 87, .int a1] (Q, hpR s) (none) (Q, hpR q) := by
  unfold m165 at h
  refine hc_of (by decide) rfl ?_
  refine h_it 4 (x' := (6, [(0, .ref 87), (1, .int a1)], [.int a1, .ref 91, .ref 87], (Q, hpR s))) rfl ?_
  obtain ⟨v1, hv1, h⟩ := Option.bind_eq_some_iff.mp h
  refine h_iald rfl rfl hv1 ?_
  refine h_it 1 (x' := (9, [(0, .ref 87), (1, .int a1)], [.int 8, .int v1, .ref 87], (Q, hpR s))) rfl ?_
  refine h_br (b := decide (8 ≤ v1)) (t := 16) (f := 12) (lv' := [(0, .ref 87), (1, .int a1)]) (st' := [.ref 87]) rfl rfl ?_
  by_cases h2 : 8 ≤ v1
  · replace h := if_y h2 h
    refine h_y h2 ?_
    refine h_it 1 (x' := (17, [(0, .ref 87), (1, .int a1)], [.int 0, .ref 87], (Q, hpR s))) rfl ?_
    refine h_lw (lv := [(0, .ref 87), (1, .int a1)]) (fa_c rfl (fa_c rfl (fa_n))) rfl ?_
    exact m165_17_ok  h
  · replace h := if_n h2 h
    refine h_n h2 ?_
    refine h_it 2 (x' := (17, [(0, .ref 87), (1, .int a1)], [.int 1, .ref 87], (Q, hpR s))) rfl ?_
    refine h_lw (lv := [(0, .ref 87), (1, .int a1)]) (fa_c rfl (fa_c rfl (fa_n))) rfl ?_
    exact m165_17_ok  h
end Sm165
section Sm167
variable {V : xmV} {L : List Nat} {Kc Ks : Nat} {Q : List xE}
theorem m167_ok {a1 : Int32} {a2 : Int32} {s : xSt} {q : xSt} (h : m167 a1 a2 s = some q) : HC V L Kc Ks 167 [.ref 87, .int a1, .int a2] (Q, hpR s) (none) (Q, hpR q) := by
  unfold m167 at h
  refine hc_of (by decide) rfl ?_
  refine h_it 6 (x' := (10, [(0, .ref 87), (1, .int a1), (2, .int a2)], [.int (Int8.toInt32 (Int32.toInt8 a1)), .int (gI s 29), .ref 106], (Q, hpR s))) rfl ?_
  obtain ⟨u1, hu1, h⟩ := Option.bind_eq_some_iff.mp h
  refine h_bast rfl rfl hu1 ?_
  show HE V L Kc Ks 167 (11, [(0, .ref 87), (1, .int a1), (2, .int a2)], [], (Q, hpR (sR s 15 u1))) _ _
  refine h_it 5 (x' := (20, [(0, .ref 87), (1, .int a1), (2, .int a2)], [.int a2, .int (gI s 29), .ref 107], (Q, hpR (sR s 15 u1)))) rfl ?_
  obtain ⟨u2, hu2, h⟩ := Option.bind_eq_some_iff.mp h
  refine h_iast rfl rfl hu2 ?_
  show HE V L Kc Ks 167 (21, [(0, .ref 87), (1, .int a1), (2, .int a2)], [], (Q, hpR (sR (sR s 15 u1) 16 u2))) _ _
  replace h := Option.some.inj h; subst h
  refine h_it 6 (x' := (31, [(0, .ref 87), (1, .int a1), (2, .int a2)], [], (Q, hpR (sI (sR (sR s 15 u1) 16 u2) 29 ((gI s 29) + 1))))) rfl ?_
  exact h_vret rfl rfl
end Sm167
section Sm170
variable {V : xmV} {L : List Nat} {Kc Ks : Nat} {Q : List xE}
theorem m170_ok {a1 : Int32} {a2 : Int32} {s : xSt} {q : Int32 × xSt} (h : m170 a1 a2 s = some q) : HC V L Kc Ks 170 [.ref 87, .int a1, .int a2] (Q, hpR s) (some (.int q.1)) (Q, hpR q.2) := by
  unfold m170 at h
  refine hc_of (by decide) rfl ?_
  refine h_it 13 (x' := (21, [(3, .int (gI s 28)), (0, .ref 87), (1, .int a1), (2, .int a2)], [.int a1, .int (gI s 28), .ref 97], (Q, hpR (sI s 28 ((gI s 28) + 1))))) rfl ?_
  obtain ⟨u1, hu1, h⟩ := Option.bind_eq_some_iff.mp h
  refine h_iast rfl rfl hu1 ?_
  show HE V L Kc Ks 170 (22, [(3, .int (gI s 28)), (0, .ref 87), (1, .int a1), (2, .int a2)], [], (Q, hpR (sR (sI s 28 ((gI s 28) + 1)) 8 u1))) _ _
  refine h_it 4 (x' := (28, [(3, .int (gI s 28)), (0, .ref 87), (1, .int a1), (2, .int a2)], [.int a2, .int (gI s 28), .ref 98], (Q, hpR (sR (sI s 28 ((gI s 28) + 1)) 8 u1)))) rfl ?_
  obtain ⟨u2, hu2, h⟩ := Option.bind_eq_some_iff.mp h
  refine h_iast rfl rfl hu2 ?_
  show HE V L Kc Ks 170 (29, [(3, .int (gI s 28)), (0, .ref 87), (1, .int a1), (2, .int a2)], [], (Q, hpR (sR (sR (sI s 28 ((gI s 28) + 1)) 8 u1) 9 u2))) _ _
  refine h_it 5 (x' := (38, [(3, .int (gI s 28)), (0, .ref 87), (1, .int a1), (2, .int a2)], [.int (gI s 25), .int (gI s 28), .ref 99], (Q, hpR (sR (sR (sI s 28 ((gI s 28) + 1)) 8 u1) 9 u2)))) rfl ?_
  obtain ⟨u3, hu3, h⟩ := Option.bind_eq_some_iff.mp h
  refine h_iast rfl rfl hu3 ?_
  show HE V L Kc Ks 170 (39, [(3, .int (gI s 28)), (0, .ref 87), (1, .int a1), (2, .int a2)], [], (Q, hpR (sR (sR (sR (sI s 28 ((gI s 28) + 1)) 8 u1) 9 u2) 10 u3))) _ _
  refine h_it 4 (x' := (45, [(3, .int (gI s 28)), (0, .ref 87), (1, .int a1), (2, .int a2)], [.int (-1), .int (gI s 28), .ref 100], (Q, hpR (sR (sR (sR (sI s 28 ((gI s 28) + 1)) 8 u1) 9 u2) 10 u3)))) rfl ?_
  obtain ⟨u4, hu4, h⟩ := Option.bind_eq_some_iff.mp h
  refine h_iast rfl rfl hu4 ?_
  show HE V L Kc Ks 170 (46, [(3, .int (gI s 28)), (0, .ref 87), (1, .int a1), (2, .int a2)], [], (Q, hpR (sR (sR (sR (sR (sI s 28 ((gI s 28) + 1)) 8 u1) 9 u2) 10 u3) 11 u4))) _ _
  refine h_it 4 (x' := (52, [(3, .int (gI s 28)), (0, .ref 87), (1, .int a1), (2, .int a2)], [.int (-1), .int (gI s 28), .ref 101], (Q, hpR (sR (sR (sR (sR (sI s 28 ((gI s 28) + 1)) 8 u1) 9 u2) 10 u3) 11 u4)))) rfl ?_
  obtain ⟨u5, hu5, h⟩ := Option.bind_eq_some_iff.mp h
  refine h_iast rfl rfl hu5 ?_
  show HE V L Kc Ks 170 (53, [(3, .int (gI s 28)), (0, .ref 87), (1, .int a1), (2, .int a2)], [], (Q, hpR (sR (sR (sR (sR (sR (sI s 28 ((gI s 28) + 1)) 8 u1) 9 u2) 10 u3) 11 u4) 12 u5))) _ _
  refine h_it 4 (x' := (59, [(3, .int (gI s 28)), (0, .ref 87), (1, .int a1), (2, .int a2)], [.long 0, .int (gI s 28), .ref 104], (Q, hpR (sR (sR (sR (sR (sR (sI s 28 ((gI s 28) + 1)) 8 u1) 9 u2) 10 u3) 11 u4) 12 u5)))) rfl ?_
  obtain ⟨u6, hu6, h⟩ := Option.bind_eq_some_iff.mp h
  refine h_last rfl rfl hu6 ?_
  show HE V L Kc Ks 170 (60, [(3, .int (gI s 28)), (0, .ref 87), (1, .int a1), (2, .int a2)], [], (Q, hpR (sL (sR (sR (sR (sR (sR (sI s 28 ((gI s 28) + 1)) 8 u1) 9 u2) 10 u3) 11 u4) 12 u5) 2 u6))) _ _
  refine h_it 4 (x' := (66, [(3, .int (gI s 28)), (0, .ref 87), (1, .int a1), (2, .int a2)], [.long 0, .int (gI s 28), .ref 105], (Q, hpR (sL (sR (sR (sR (sR (sR (sI s 28 ((gI s 28) + 1)) 8 u1) 9 u2) 10 u3) 11 u4) 12 u5) 2 u6)))) rfl ?_
  obtain ⟨u7, hu7, h⟩ := Option.bind_eq_some_iff.mp h
  refine h_last rfl rfl hu7 ?_
  show HE V L Kc Ks 170 (67, [(3, .int (gI s 28)), (0, .ref 87), (1, .int a1), (2, .int a2)], [], (Q, hpR (sL (sL (sR (sR (sR (sR (sR (sI s 28 ((gI s 28) + 1)) 8 u1) 9 u2) 10 u3) 11 u4) 12 u5) 2 u6) 3 u7))) _ _
  refine h_it 4 (x' := (73, [(3, .int (gI s 28)), (0, .ref 87), (1, .int a1), (2, .int a2)], [.int 0, .int (gI s 28), .ref 103], (Q, hpR (sL (sL (sR (sR (sR (sR (sR (sI s 28 ((gI s 28) + 1)) 8 u1) 9 u2) 10 u3) 11 u4) 12 u5) 2 u6) 3 u7)))) rfl ?_
  obtain ⟨u8, hu8, h⟩ := Option.bind_eq_some_iff.mp h
  refine h_iast rfl rfl hu8 ?_
  show HE V L Kc Ks 170 (74, [(3, .int (gI s 28)), (0, .ref 87), (1, .int a1), (2, .int a2)], [], (Q, hpR (sR (sL (sL (sR (sR (sR (sR (sR (sI s 28 ((gI s 28) + 1)) 8 u1) 9 u2) 10 u3) 11 u4) 12 u5) 2 u6) 3 u7) 14 u8))) _ _
  refine h_it 5 (x' := (83, [(3, .int (gI s 28)), (0, .ref 87), (1, .int a1), (2, .int a2)], [.int (gI s 30), .int (gI s 28), .ref 102], (Q, hpR (sR (sL (sL (sR (sR (sR (sR (sR (sI s 28 ((gI s 28) + 1)) 8 u1) 9 u2) 10 u3) 11 u4) 12 u5) 2 u6) 3 u7) 14 u8)))) rfl ?_
  obtain ⟨u9, hu9, h⟩ := Option.bind_eq_some_iff.mp h
  refine h_iast rfl rfl hu9 ?_
  show HE V L Kc Ks 170 (84, [(3, .int (gI s 28)), (0, .ref 87), (1, .int a1), (2, .int a2)], [], (Q, hpR (sR (sR (sL (sL (sR (sR (sR (sR (sR (sI s 28 ((gI s 28) + 1)) 8 u1) 9 u2) 10 u3) 11 u4) 12 u5) 2 u6) 3 u7) 14 u8) 13 u9))) _ _
  replace h := Option.some.inj h; subst h
  refine h_it 1 (x' := (85, [(3, .int (gI s 28)), (0, .ref 87), (1, .int a1), (2, .int a2)], [.int (gI s 28)], (Q, hpR (sR (sR (sL (sL (sR (sR (sR (sR (sR (sI s 28 ((gI s 28) + 1)) 8 u1) 9 u2) 10 u3) 11 u4) 12 u5) 2 u6) 3 u7) 14 u8) 13 u9)))) rfl ?_
  exact h_iret rfl rfl
end Sm170
section Sm171
variable {V : xmV} {L : List Nat} {Kc Ks : Nat} {Q : List xE}
theorem m171_ok {a1 : Int32} {s : xSt} {q : xSt} (h : m171 a1 s = some q) : HC V L Kc Ks 171 [.ref 87, .int a1] (Q, hpR s) (none) (Q, hpR q) := by
  unfold m171 at h
  refine hc_of (by decide) rfl ?_
  refine h_it 5 (x' := (9, [(0, .ref 87), (1, .int a1)], [.long (gJ s 0), .int a1, .ref 104], (Q, hpR s))) rfl ?_
  obtain ⟨u1, hu1, h⟩ := Option.bind_eq_some_iff.mp h
  refine h_last rfl rfl hu1 ?_
  show HE V L Kc Ks 171 (10, [(0, .ref 87), (1, .int a1)], [], (Q, hpR (sL s 2 u1))) _ _
  refine h_it 5 (x' := (19, [(0, .ref 87), (1, .int a1)], [.int (gI s 25), .int a1, .ref 100], (Q, hpR (sL s 2 u1)))) rfl ?_
  obtain ⟨u2, hu2, h⟩ := Option.bind_eq_some_iff.mp h
  refine h_iast rfl rfl hu2 ?_
  show HE V L Kc Ks 171 (20, [(0, .ref 87), (1, .int a1)], [], (Q, hpR (sR (sL s 2 u1) 11 u2))) _ _
  replace h := Option.some.inj h; subst h
  exact h_vret rfl rfl
end Sm171
section Sm172
variable {V : xmV} {L : List Nat} {Kc Ks : Nat} {Q : List xE}
theorem m172_18_ok   {x1 : Int32} {x2 : Int32} {y0 : Int32} {s : xSt} {q : xSt} (h : m172_18  x1 x2 y0 s = some q) : HE V L Kc Ks 172 (18, [(0, .ref 87), (1, .int x1), (2, .int x2)], [.int y0], (Q, hpR s)) (none) (Q, hpR q) := by
  unfold m172_18 at h
  refine h_it 4 (x' := (22, [(3, .int y0), (0, .ref 87), (1, .int x1), (2, .int x2)], [.int x1, .int 3, .ref 87], (Q, hpR s))) rfl ?_
  obtain ⟨q3, hq3, h⟩ := Option.bind_eq_some_iff.mp h
  refine h_callO (As := [.int 3, .int x1]) (r1 := none) (st := []) (H1 := (Q, hpR q3)) rfl rfl rfl rfl rfl rfl (m167_ok hq3) ?_
  refine h_it 1 (x' := (26, [(3, .int y0), (0, .ref 87), (1, .int x1), (2, .int x2)], [.int x2], (Q, hpR q3))) rfl ?_
  by_cases h4 : x2 = 10 ∨ x2 = 20
  · replace h := if_y h4 h
    refine h_ts (t := 96) rfl (by rcases h4 with e9 | e9 <;> rw [e9] <;> decide) ?_
    refine h_it 3 (x' := (99, [(3, .int y0), (0, .ref 87), (1, .int x1), (2, .int x2)], [.int x1, .int y0, .ref 87], (Q, hpR q3))) rfl ?_
    obtain ⟨q5, hq5, h⟩ := Option.bind_eq_some_iff.mp h
    refine h_callO (As := [.int y0, .int x1]) (r1 := none) (st := []) (H1 := (Q, hpR q5)) rfl rfl rfl rfl rfl rfl (m167_ok hq5) ?_
    refine h_it 3 (x' := (105, [(3, .int y0), (0, .ref 87), (1, .int x1), (2, .int x2)], [.int x1, .int y0, .ref 87], (Q, hpR q5))) rfl ?_
    obtain ⟨q6, hq6, h⟩ := Option.bind_eq_some_iff.mp h
    refine h_callO (As := [.int y0, .int x1]) (r1 := none) (st := []) (H1 := (Q, hpR q6)) rfl rfl rfl rfl rfl rfl (m167_ok hq6) ?_
    refine h_it 3 (x' := (111, [(3, .int y0), (0, .ref 87), (1, .int x1), (2, .int x2)], [.int x1, .int 1, .ref 87], (Q, hpR q6))) rfl ?_
    obtain ⟨q7, hq7, h⟩ := Option.bind_eq_some_iff.mp h
    refine h_callO (As := [.int 1, .int x1]) (r1 := none) (st := []) (H1 := (Q, hpR q7)) rfl rfl rfl rfl rfl rfl (m167_ok hq7) ?_
    replace h := Option.some.inj h; subst h
    refine h_it 1 (x' := (267, [(3, .int y0), (0, .ref 87), (1, .int x1), (2, .int x2)], [], (Q, hpR q7))) rfl ?_
    exact h_vret rfl rfl
  replace h := if_n h4 h
  by_cases h8 : x2 = 11 ∨ x2 = 21
  · replace h := if_y h8 h
    refine h_ts (t := 117) rfl (by rcases h8 with e9 | e9 <;> rw [e9] <;> decide) ?_
    refine h_it 3 (x' := (121, [(3, .int y0), (0, .ref 87), (1, .int x1), (2, .int x2)], [.int x1, .int 8, .ref 87], (Q, hpR q3))) rfl ?_
    obtain ⟨q9, hq9, h⟩ := Option.bind_eq_some_iff.mp h
    refine h_callO (As := [.int 8, .int x1]) (r1 := none) (st := []) (H1 := (Q, hpR q9)) rfl rfl rfl rfl rfl rfl (m167_ok hq9) ?_
    refine h_it 3 (x' := (127, [(3, .int y0), (0, .ref 87), (1, .int x1), (2, .int x2)], [.int x1, .int y0, .ref 87], (Q, hpR q9))) rfl ?_
    obtain ⟨q10, hq10, h⟩ := Option.bind_eq_some_iff.mp h
    refine h_callO (As := [.int y0, .int x1]) (r1 := none) (st := []) (H1 := (Q, hpR q10)) rfl rfl rfl rfl rfl rfl (m167_ok hq10) ?_
    refine h_it 3 (x' := (133, [(3, .int y0), (0, .ref 87), (1, .int x1), (2, .int x2)], [.int x1, .int 5, .ref 87], (Q, hpR q10))) rfl ?_
    obtain ⟨q11, hq11, h⟩ := Option.bind_eq_some_iff.mp h
    refine h_callO (As := [.int 5, .int x1]) (r1 := none) (st := []) (H1 := (Q, hpR q11)) rfl rfl rfl rfl rfl rfl (m167_ok hq11) ?_
    replace h := Option.some.inj h; subst h
    refine h_it 1 (x' := (267, [(3, .int y0), (0, .ref 87), (1, .int x1), (2, .int x2)], [], (Q, hpR q11))) rfl ?_
    exact h_vret rfl rfl
  replace h := if_n h8 h
  by_cases h12 : x2 = 12 ∨ x2 = 22
  · replace h := if_y h12 h
    refine h_ts (t := 139) rfl (by rcases h12 with e9 | e9 <;> rw [e9] <;> decide) ?_
    refine h_it 3 (x' := (142, [(3, .int y0), (0, .ref 87), (1, .int x1), (2, .int x2)], [.int x1, .int 3, .ref 87], (Q, hpR q3))) rfl ?_
    obtain ⟨q13, hq13, h⟩ := Option.bind_eq_some_iff.mp h
    refine h_callO (As := [.int 3, .int x1]) (r1 := none) (st := []) (H1 := (Q, hpR q13)) rfl rfl rfl rfl rfl rfl (m167_ok hq13) ?_
    refine h_it 3 (x' := (149, [(3, .int y0), (0, .ref 87), (1, .int x1), (2, .int x2)], [.int x1, .int 8, .ref 87], (Q, hpR q13))) rfl ?_
    obtain ⟨q14, hq14, h⟩ := Option.bind_eq_some_iff.mp h
    refine h_callO (As := [.int 8, .int x1]) (r1 := none) (st := []) (H1 := (Q, hpR q14)) rfl rfl rfl rfl rfl rfl (m167_ok hq14) ?_
    refine h_it 3 (x' := (155, [(3, .int y0), (0, .ref 87), (1, .int x1), (2, .int x2)], [.int x1, .int y0, .ref 87], (Q, hpR q14))) rfl ?_
    obtain ⟨q15, hq15, h⟩ := Option.bind_eq_some_iff.mp h
    refine h_callO (As := [.int y0, .int x1]) (r1 := none) (st := []) (H1 := (Q, hpR q15)) rfl rfl rfl rfl rfl rfl (m167_ok hq15) ?_
    refine h_it 3 (x' := (162, [(3, .int y0), (0, .ref 87), (1, .int x1), (2, .int x2)], [.int x1, .int 6, .ref 87], (Q, hpR q15))) rfl ?_
    obtain ⟨q16, hq16, h⟩ := Option.bind_eq_some_iff.mp h
    refine h_callO (As := [.int 6, .int x1]) (r1 := none) (st := []) (H1 := (Q, hpR q16)) rfl rfl rfl rfl rfl rfl (m167_ok hq16) ?_
    refine h_it 3 (x' := (168, [(3, .int y0), (0, .ref 87), (1, .int x1), (2, .int x2)], [.int x1, .int 5, .ref 87], (Q, hpR q16))) rfl ?_
    obtain ⟨q17, hq17, h⟩ := Option.bind_eq_some_iff.mp h
    refine h_callO (As := [.int 5, .int x1]) (r1 := none) (st := []) (H1 := (Q, hpR q17)) rfl rfl rfl rfl rfl rfl (m167_ok hq17) ?_
    refine h_it 3 (x' := (174, [(3, .int y0), (0, .ref 87), (1, .int x1), (2, .int x2)], [.int x1, .int 4, .ref 87], (Q, hpR q17))) rfl ?_
    obtain ⟨q18, hq18, h⟩ := Option.bind_eq_some_iff.mp h
    refine h_callO (As := [.int 4, .int x1]) (r1 := none) (st := []) (H1 := (Q, hpR q18)) rfl rfl rfl rfl rfl rfl (m167_ok hq18) ?_
    refine h_it 3 (x' := (180, [(3, .int y0), (0, .ref 87), (1, .int x1), (2, .int x2)], [.int x1, .int y0, .ref 87], (Q, hpR q18))) rfl ?_
    obtain ⟨q19, hq19, h⟩ := Option.bind_eq_some_iff.mp h
    refine h_callO (As := [.int y0, .int x1]) (r1 := none) (st := []) (H1 := (Q, hpR q19)) rfl rfl rfl rfl rfl rfl (m167_ok hq19) ?_
    refine h_it 3 (x' := (186, [(3, .int y0), (0, .ref 87), (1, .int x1), (2, .int x2)], [.int x1, .int 1, .ref 87], (Q, hpR q19))) rfl ?_
    obtain ⟨q20, hq20, h⟩ := Option.bind_eq_some_iff.mp h
    refine h_callO (As := [.int 1, .int x1]) (r1 := none) (st := []) (H1 := (Q, hpR q20)) rfl rfl rfl rfl rfl rfl (m167_ok hq20) ?_
    replace h := Option.some.inj h; subst h
    refine h_it 1 (x' := (267, [(3, .int y0), (0, .ref 87), (1, .int x1), (2, .int x2)], [], (Q, hpR q20))) rfl ?_
    exact h_vret rfl rfl
  replace h := if_n h12 h
  by_cases h21 : x2 = 14 ∨ x2 = 15 ∨ x2 = 23
  · replace h := if_y h21 h
    refine h_ts (t := 192) rfl (by rcases h21 with e9 | e9 | e9 <;> rw [e9] <;> decide) ?_
    refine h_it 3 (x' := (196, [(3, .int y0), (0, .ref 87), (1, .int x1), (2, .int x2)], [.int x1, .int 7, .ref 87], (Q, hpR q3))) rfl ?_
    obtain ⟨q22, hq22, h⟩ := Option.bind_eq_some_iff.mp h
    refine h_callO (As := [.int 7, .int x1]) (r1 := none) (st := []) (H1 := (Q, hpR q22)) rfl rfl rfl rfl rfl rfl (m167_ok hq22) ?_
    refine h_it 3 (x' := (203, [(3, .int y0), (0, .ref 87), (1, .int x1), (2, .int x2)], [.int x1, .int 9, .ref 87], (Q, hpR q22))) rfl ?_
    obtain ⟨q23, hq23, h⟩ := Option.bind_eq_some_iff.mp h
    refine h_callO (As := [.int 9, .int x1]) (r1 := none) (st := []) (H1 := (Q, hpR q23)) rfl rfl rfl rfl rfl rfl (m167_ok hq23) ?_
    replace h := Option.some.inj h; subst h
    refine h_it 1 (x' := (267, [(3, .int y0), (0, .ref 87), (1, .int x1), (2, .int x2)], [], (Q, hpR q23))) rfl ?_
    exact h_vret rfl rfl
  replace h := if_n h21 h
  by_cases h24 : x2 = 16 ∨ x2 = 17
  · replace h := if_y h24 h
    refine h_ts (t := 209) rfl (by rcases h24 with e9 | e9 <;> rw [e9] <;> decide) ?_
    refine h_it 3 (x' := (212, [(3, .int y0), (0, .ref 87), (1, .int x1), (2, .int x2)], [.int x1, .int 2, .ref 87], (Q, hpR q3))) rfl ?_
    obtain ⟨q25, hq25, h⟩ := Option.bind_eq_some_iff.mp h
    refine h_callO (As := [.int 2, .int x1]) (r1 := none) (st := []) (H1 := (Q, hpR q25)) rfl rfl rfl rfl rfl rfl (m167_ok hq25) ?_
    replace h := Option.some.inj h; subst h
    refine h_it 1 (x' := (267, [(3, .int y0), (0, .ref 87), (1, .int x1), (2, .int x2)], [], (Q, hpR q25))) rfl ?_
    exact h_vret rfl rfl
  replace h := if_n h24 h
  by_cases h26 : x2 = 18
  · replace h := if_y h26 h
    refine h_ts (t := 218) rfl (by rw [h26]; decide) ?_
    refine h_it 3 (x' := (222, [(3, .int y0), (0, .ref 87), (1, .int x1), (2, .int x2)], [.int x1, .int 8, .ref 87], (Q, hpR q3))) rfl ?_
    obtain ⟨q27, hq27, h⟩ := Option.bind_eq_some_iff.mp h
    refine h_callO (As := [.int 8, .int x1]) (r1 := none) (st := []) (H1 := (Q, hpR q27)) rfl rfl rfl rfl rfl rfl (m167_ok hq27) ?_
    refine h_it 3 (x' := (228, [(3, .int y0), (0, .ref 87), (1, .int x1), (2, .int x2)], [.int x1, .int 2, .ref 87], (Q, hpR q27))) rfl ?_
    obtain ⟨q28, hq28, h⟩ := Option.bind_eq_some_iff.mp h
    refine h_callO (As := [.int 2, .int x1]) (r1 := none) (st := []) (H1 := (Q, hpR q28)) rfl rfl rfl rfl rfl rfl (m167_ok hq28) ?_
    refine h_it 3 (x' := (234, [(3, .int y0), (0, .ref 87), (1, .int x1), (2, .int x2)], [.int x1, .int 5, .ref 87], (Q, hpR q28))) rfl ?_
    obtain ⟨q29, hq29, h⟩ := Option.bind_eq_some_iff.mp h
    refine h_callO (As := [.int 5, .int x1]) (r1 := none) (st := []) (H1 := (Q, hpR q29)) rfl rfl rfl rfl rfl rfl (m167_ok hq29) ?_
    refine h_it 3 (x' := (240, [(3, .int y0), (0, .ref 87), (1, .int x1), (2, .int x2)], [.int x1, .int 1, .ref 87], (Q, hpR q29))) rfl ?_
    obtain ⟨q30, hq30, h⟩ := Option.bind_eq_some_iff.mp h
    refine h_callO (As := [.int 1, .int x1]) (r1 := none) (st := []) (H1 := (Q, hpR q30)) rfl rfl rfl rfl rfl rfl (m167_ok hq30) ?_
    replace h := Option.some.inj h; subst h
    refine h_it 1 (x' := (267, [(3, .int y0), (0, .ref 87), (1, .int x1), (2, .int x2)], [], (Q, hpR q30))) rfl ?_
    exact h_vret rfl rfl
  replace h := if_n h26 h
  by_cases h31 : x2 = 19
  · replace h := if_y h31 h
    refine h_ts (t := 246) rfl (by rw [h31]; decide) ?_
    refine h_it 3 (x' := (249, [(3, .int y0), (0, .ref 87), (1, .int x1), (2, .int x2)], [.int x1, .int 1, .ref 87], (Q, hpR q3))) rfl ?_
    obtain ⟨q32, hq32, h⟩ := Option.bind_eq_some_iff.mp h
    refine h_callO (As := [.int 1, .int x1]) (r1 := none) (st := []) (H1 := (Q, hpR q32)) rfl rfl rfl rfl rfl rfl (m167_ok hq32) ?_
    replace h := Option.some.inj h; subst h
    refine h_it 1 (x' := (267, [(3, .int y0), (0, .ref 87), (1, .int x1), (2, .int x2)], [], (Q, hpR q32))) rfl ?_
    exact h_vret rfl rfl
  replace h := if_n h31 h
  refine h_ts (t := 255) rfl (ts_d [10, 20, 11, 21, 12, 22, 14, 15, 23, 16, 17, 18, 19] rfl (by decide) (fun v hv => by
    simp only [List.mem_cons, List.not_mem_nil, or_false] at hv
    rcases hv with rfl | rfl | rfl | rfl | rfl | rfl | rfl | rfl | rfl | rfl | rfl | rfl | rfl
    · exact (fun e9 => h4 (Or.inl e9))
    · exact (fun e9 => h4 (Or.inr (e9)))
    · exact (fun e9 => h8 (Or.inl e9))
    · exact (fun e9 => h8 (Or.inr (e9)))
    · exact (fun e9 => h12 (Or.inl e9))
    · exact (fun e9 => h12 (Or.inr (e9)))
    · exact (fun e9 => h21 (Or.inl e9))
    · exact (fun e9 => h21 (Or.inr (Or.inl e9)))
    · exact (fun e9 => h21 (Or.inr (Or.inr (e9))))
    · exact (fun e9 => h24 (Or.inl e9))
    · exact (fun e9 => h24 (Or.inr (e9)))
    · exact h26
    · exact h31)) ?_
  refine h_it 3 (x' := (258, [(3, .int y0), (0, .ref 87), (1, .int x1), (2, .int x2)], [.int x1, .int 1, .ref 87], (Q, hpR q3))) rfl ?_
  obtain ⟨q33, hq33, h⟩ := Option.bind_eq_some_iff.mp h
  refine h_callO (As := [.int 1, .int x1]) (r1 := none) (st := []) (H1 := (Q, hpR q33)) rfl rfl rfl rfl rfl rfl (m167_ok hq33) ?_
  refine h_it 3 (x' := (264, [(3, .int y0), (0, .ref 87), (1, .int x1), (2, .int x2)], [.int x1, .int 1, .ref 87], (Q, hpR q33))) rfl ?_
  obtain ⟨q34, hq34, h⟩ := Option.bind_eq_some_iff.mp h
  refine h_callO (As := [.int 1, .int x1]) (r1 := none) (st := []) (H1 := (Q, hpR q34)) rfl rfl rfl rfl rfl rfl (m167_ok hq34) ?_
  replace h := Option.some.inj h; subst h
  exact h_vret rfl rfl
theorem m172_ok {a1 : Int32} {s : xSt} {q : xSt} (h : m172 a1 s = some q) : HC V L Kc Ks 172 [.ref 87, .int a1] (Q, hpR s) (none) (Q, hpR q) := by
  unfold m172 at h
  refine hc_of (by decide) rfl ?_
  refine h_it 3 (x' := (5, [(0, .ref 87), (1, .int a1)], [.int a1, .ref 97], (Q, hpR s))) rfl ?_
  obtain ⟨v1, hv1, h⟩ := Option.bind_eq_some_iff.mp h
  refine h_iald rfl rfl hv1 ?_
  refine h_it 3 (x' := (10, [(2, .int v1), (0, .ref 87), (1, .int a1)], [.int 18, .int v1], (Q, hpR s))) rfl ?_
  refine h_br (b := decide (18 ≤ v1)) (t := 17) (f := 13) (lv' := [(2, .int v1), (0, .ref 87), (1, .int a1)]) (st' := []) rfl rfl ?_
  by_cases h2 : 18 ≤ v1
  · replace h := if_y h2 h
    refine h_y h2 ?_
    refine h_it 1 (x' := (18, [(2, .int v1), (0, .ref 87), (1, .int a1)], [.int 2], (Q, hpR s))) rfl ?_
    refine h_lw (lv := [(0, .ref 87), (1, .int a1), (2, .int v1)]) (fa_c rfl (fa_c rfl (fa_c rfl (fa_n)))) rfl ?_
    exact m172_18_ok  h
  · replace h := if_n h2 h
    refine h_n h2 ?_
    refine h_it 2 (x' := (18, [(2, .int v1), (0, .ref 87), (1, .int a1)], [.int 1], (Q, hpR s))) rfl ?_
    refine h_lw (lv := [(0, .ref 87), (1, .int a1), (2, .int v1)]) (fa_c rfl (fa_c rfl (fa_c rfl (fa_n)))) rfl ?_
    exact m172_18_ok  h
end Sm172
section Sm169
variable {V : xmV} {L : List Nat} {Kc Ks : Nat} {Q : List xE}
theorem m169_150_ok   {x3 : Int32} {x4 : Int32} {y0 : Bool} {s : xSt} {q : xSt} (h : m169_150  x3 x4 y0 s = some q) : HE V L Kc Ks 169 (150, [(0, .ref 87), (3, .int x3), (4, .int x4)], [.int (b01 y0), .ref 87], (Q, hpR s)) (none) (Q, hpR q) := by
  unfold m169_150 at h
  obtain ⟨q23, hq23, h⟩ := Option.bind_eq_some_iff.mp h
  refine h_callO (As := [.int (b01 y0)]) (r1 := some (.int (b01 q23.1))) (st := []) (H1 := (Q, hpR q23.2)) rfl rfl rfl rfl rfl rfl (m158_ok hq23) ?_
  refine h_br (b := decide ((b01 q23.1) = 0)) (t := 169) (f := 156) (lv' := [(0, .ref 87), (3, .int x3), (4, .int x4)]) (st' := []) rfl rfl ?_
  by_cases h24 : q23.1 = true
  · replace h := if_y h24 h
    refine h_n (b01_1 h24) ?_
    refine h_it 4 (x' := (163, [(0, .ref 87), (3, .int x3), (4, .int x4)], [.int x4, .int x3, .ref 97], (Q, hpR q23.2))) rfl ?_
    obtain ⟨u25, hu25, h⟩ := Option.bind_eq_some_iff.mp h
    refine h_iast rfl rfl hu25 ?_
    show HE V L Kc Ks 169 (164, [(0, .ref 87), (3, .int x3), (4, .int x4)], [], (Q, hpR (sR q23.2 8 u25))) _ _
    refine h_it 2 (x' := (166, [(0, .ref 87), (3, .int x3), (4, .int x4)], [.int x3, .ref 87], (Q, hpR (sR q23.2 8 u25)))) rfl ?_
    obtain ⟨q26, hq26, h⟩ := Option.bind_eq_some_iff.mp h
    refine h_callO (As := [.int x3]) (r1 := none) (st := []) (H1 := (Q, hpR q26)) rfl rfl rfl rfl rfl rfl (m172_ok hq26) ?_
    replace h := Option.some.inj h; subst h
    exact h_vret rfl rfl
  · replace h := if_n h24 h
    refine h_y (b01_0 h24) ?_
    replace h := Option.some.inj h; subst h
    exact h_vret rfl rfl
theorem m169_137_ok   {x3 : Int32} {y0 : Int32} {s : xSt} {q : xSt} (h : m169_137  x3 y0 s = some q) : HE V L Kc Ks 169 (137, [(0, .ref 87), (3, .int x3)], [.int y0], (Q, hpR s)) (none) (Q, hpR q) := by
  unfold m169_137 at h
  refine h_it 3 (x' := (142, [(4, .int y0), (0, .ref 87), (3, .int x3)], [.int y0, .ref 87], (Q, hpR s))) rfl ?_
  refine h_br (b := decide (y0 < 0)) (t := 149) (f := 145) (lv' := [(4, .int y0), (0, .ref 87), (3, .int x3)]) (st' := [.ref 87]) rfl rfl ?_
  by_cases h22 : y0 < 0
  · replace h := if_y h22 h
    refine h_y h22 ?_
    refine h_it 1 (x' := (150, [(4, .int y0), (0, .ref 87), (3, .int x3)], [.int 0, .ref 87], (Q, hpR s))) rfl ?_
    refine h_lw (lv := [(0, .ref 87), (3, .int x3), (4, .int y0)]) (fa_c rfl (fa_c rfl (fa_c rfl (fa_n)))) rfl ?_
    exact m169_150_ok  h
  · replace h := if_n h22 h
    refine h_n h22 ?_
    refine h_it 2 (x' := (150, [(4, .int y0), (0, .ref 87), (3, .int x3)], [.int 1, .ref 87], (Q, hpR s))) rfl ?_
    refine h_lw (lv := [(0, .ref 87), (3, .int x3), (4, .int y0)]) (fa_c rfl (fa_c rfl (fa_c rfl (fa_n)))) rfl ?_
    exact m169_150_ok  h
theorem m169_94_ok   {x1 : Bool} {x2 : Int32} {y0 : Bool} {s : xSt} {q : xSt} (h : m169_94  x1 x2 y0 s = some q) : HE V L Kc Ks 169 (94, [(0, .ref 87), (1, .int (b01 x1)), (2, .int x2)], [.int (b01 y0), .ref 87], (Q, hpR s)) (none) (Q, hpR q) := by
  unfold m169_94 at h
  obtain ⟨q15, hq15, h⟩ := Option.bind_eq_some_iff.mp h
  refine h_callO (As := [.int (b01 y0)]) (r1 := some (.int (b01 q15.1))) (st := []) (H1 := (Q, hpR q15.2)) rfl rfl rfl rfl rfl rfl (m158_ok hq15) ?_
  refine h_br (b := decide ((b01 q15.1) = 0)) (t := 169) (f := 100) (lv' := [(0, .ref 87), (1, .int (b01 x1)), (2, .int x2)]) (st' := []) rfl rfl ?_
  by_cases h16 : q15.1 = true
  · replace h := if_y h16 h
    refine h_n (b01_1 h16) ?_
    refine h_it 3 (x' := (103, [(0, .ref 87), (1, .int (b01 x1)), (2, .int x2)], [.int x2, .int 0, .ref 87], (Q, hpR q15.2))) rfl ?_
    obtain ⟨q17, hq17, h⟩ := Option.bind_eq_some_iff.mp h
    refine h_callO (As := [.int 0, .int x2]) (r1 := some (.int q17.1)) (st := []) (H1 := (Q, hpR q17.2)) rfl rfl rfl rfl rfl rfl (m170_ok hq17) ?_
    refine h_it 2 (x' := (108, [(3, .int q17.1), (0, .ref 87), (1, .int (b01 x1)), (2, .int x2)], [.ref 87], (Q, hpR q17.2))) rfl ?_
    obtain ⟨q18, hq18, h⟩ := Option.bind_eq_some_iff.mp h
    refine h_callO (As := []) (r1 := none) (st := []) (H1 := (Q, hpR q18)) rfl rfl rfl rfl rfl rfl (m150_ok hq18) ?_
    refine h_it 2 (x' := (115, [(3, .int q17.1), (0, .ref 87), (1, .int (b01 x1)), (2, .int x2)], [.int (gI q18 21)], (Q, hpR q18))) rfl ?_
    refine h_br (b := decide ((gI q18 21) ≤ 0)) (t := 122) (f := 118) (lv' := [(3, .int q17.1), (0, .ref 87), (1, .int (b01 x1)), (2, .int x2)]) (st' := []) rfl rfl ?_
    by_cases h19 : (gI q18 21) ≤ 0
    · replace h := if_y h19 h
      refine h_y h19 ?_
      refine h_it 1 (x' := (123, [(3, .int q17.1), (0, .ref 87), (1, .int (b01 x1)), (2, .int x2)], [.int (b01 x1)], (Q, hpR q18))) rfl ?_
      refine h_br (b := decide ((b01 x1) = 0)) (t := 133) (f := 126) (lv' := [(3, .int q17.1), (0, .ref 87), (1, .int (b01 x1)), (2, .int x2)]) (st' := []) rfl rfl ?_
      by_cases h20 : x1 = true
      · replace h := if_y h20 h
        refine h_n (b01_1 h20) ?_
        refine h_it 1 (x' := (127, [(3, .int q17.1), (0, .ref 87), (1, .int (b01 x1)), (2, .int x2)], [.ref 87], (Q, hpR q18))) rfl ?_
        obtain ⟨q21, hq21, h⟩ := Option.bind_eq_some_iff.mp h
        refine h_callO (As := []) (r1 := some (.int q21.1)) (st := []) (H1 := (Q, hpR q21.2)) rfl rfl rfl rfl rfl rfl (m162_ok hq21) ?_
        refine h_it 1 (x' := (137, [(3, .int q17.1), (0, .ref 87), (1, .int (b01 x1)), (2, .int x2)], [.int q21.1], (Q, hpR q21.2))) rfl ?_
        refine h_lw (lv := [(0, .ref 87), (3, .int q17.1)]) (fa_c rfl (fa_c rfl (fa_n))) rfl ?_
        exact m169_137_ok  h
      · replace h := if_n h20 h
        refine h_y (b01_0 h20) ?_
        refine h_it 1 (x' := (134, [(3, .int q17.1), (0, .ref 87), (1, .int (b01 x1)), (2, .int x2)], [.ref 87], (Q, hpR q18))) rfl ?_
        obtain ⟨q27, hq27, h⟩ := Option.bind_eq_some_iff.mp h
        refine h_callO (As := []) (r1 := some (.int q27.1)) (st := []) (H1 := (Q, hpR q27.2)) rfl rfl rfl rfl rfl rfl (m164_ok hq27) ?_
        refine h_lw (lv := [(0, .ref 87), (3, .int q17.1)]) (fa_c rfl (fa_c rfl (fa_n))) rfl ?_
        exact m169_137_ok  h
    · replace h := if_n h19 h
      refine h_n h19 ?_
      refine h_it 2 (x' := (137, [(3, .int q17.1), (0, .ref 87), (1, .int (b01 x1)), (2, .int x2)], [.int (-1)], (Q, hpR q18))) rfl ?_
      refine h_lw (lv := [(0, .ref 87), (3, .int q17.1)]) (fa_c rfl (fa_c rfl (fa_n))) rfl ?_
      exact m169_137_ok  h
  · replace h := if_n h16 h
    refine h_y (b01_0 h16) ?_
    replace h := Option.some.inj h; subst h
    exact h_vret rfl rfl
theorem m169_81_ok   {x1 : Bool} {x2 : Int32} {s : xSt} {q : xSt} (h : m169_81  x1 x2 s = some q) : HE V L Kc Ks 169 (81, [(0, .ref 87), (1, .int (b01 x1)), (2, .int x2)], [], (Q, hpR s)) (none) (Q, hpR q) := by
  unfold m169_81 at h
  refine h_it 3 (x' := (86, [(0, .ref 87), (1, .int (b01 x1)), (2, .int x2)], [.int (gI s 24), .ref 87], (Q, hpR s))) rfl ?_
  refine h_br (b := decide (¬ (gI s 24) = 0)) (t := 93) (f := 89) (lv' := [(0, .ref 87), (1, .int (b01 x1)), (2, .int x2)]) (st' := [.ref 87]) rfl rfl ?_
  by_cases h14 : (gI s 24) = 0
  · replace h := if_y h14 h
    refine h_n (fun z => z h14) ?_
    refine h_it 2 (x' := (94, [(0, .ref 87), (1, .int (b01 x1)), (2, .int x2)], [.int 1, .ref 87], (Q, hpR s))) rfl ?_
    refine h_lw (lv := [(0, .ref 87), (1, .int (b01 x1)), (2, .int x2)]) (fa_c rfl (fa_c rfl (fa_c rfl (fa_n)))) rfl ?_
    exact m169_94_ok  h
  · replace h := if_n h14 h
    refine h_y h14 ?_
    refine h_it 1 (x' := (94, [(0, .ref 87), (1, .int (b01 x1)), (2, .int x2)], [.int 0, .ref 87], (Q, hpR s))) rfl ?_
    refine h_lw (lv := [(0, .ref 87), (1, .int (b01 x1)), (2, .int x2)]) (fa_c rfl (fa_c rfl (fa_c rfl (fa_n)))) rfl ?_
    exact m169_94_ok  h
theorem m169_58_ok   {x1 : Bool} {x2 : Int32} {s : xSt} {q : xSt} (h : m169_58  x1 x2 s = some q) : HE V L Kc Ks 169 (58, [(0, .ref 87), (1, .int (b01 x1)), (2, .int x2)], [], (Q, hpR s)) (none) (Q, hpR q) := by
  unfold m169_58 at h
  refine h_it 1 (x' := (59, [(0, .ref 87), (1, .int (b01 x1)), (2, .int x2)], [.int (b01 x1)], (Q, hpR s))) rfl ?_
  refine h_br (b := decide ((b01 x1) = 0)) (t := 81) (f := 62) (lv' := [(0, .ref 87), (1, .int (b01 x1)), (2, .int x2)]) (st' := []) rfl rfl ?_
  by_cases h10 : x1 = true
  · replace h := if_y h10 h
    refine h_n (b01_1 h10) ?_
    refine h_it 2 (x' := (65, [(0, .ref 87), (1, .int (b01 x1)), (2, .int x2)], [.retAddr 34, .ref 87], (Q, hpR s))) rfl ?_
    obtain ⟨q11, hq11, h⟩ := Option.bind_eq_some_iff.mp h
    refine h_callO (As := [.retAddr 34]) (r1 := some (.int (b01 q11.1))) (st := []) (H1 := (Q, hpR q11.2)) rfl rfl rfl rfl rfl rfl (m159_ok hq11) ?_
    refine h_br (b := decide ((b01 q11.1) = 0)) (t := 81) (f := 71) (lv' := [(0, .ref 87), (1, .int (b01 x1)), (2, .int x2)]) (st' := []) rfl rfl ?_
    by_cases h12 : q11.1 = true
    · replace h := if_y h12 h
      refine h_n (b01_1 h12) ?_
      refine h_it 3 (x' := (74, [(0, .ref 87), (1, .int (b01 x1)), (2, .int x2)], [.int x2, .int 2, .ref 87], (Q, hpR q11.2))) rfl ?_
      obtain ⟨q13, hq13, h⟩ := Option.bind_eq_some_iff.mp h
      refine h_callO (As := [.int 2, .int x2]) (r1 := some (.int q13.1)) (st := []) (H1 := (Q, hpR q13.2)) rfl rfl rfl rfl rfl rfl (m170_ok hq13) ?_
      replace h := Option.some.inj h; subst h
      refine h_it 2 (x' := (169, [(3, .int q13.1), (0, .ref 87), (1, .int (b01 x1)), (2, .int x2)], [], (Q, hpR q13.2))) rfl ?_
      exact h_vret rfl rfl
    · replace h := if_n h12 h
      refine h_y (b01_0 h12) ?_
      refine h_lw (lv := [(0, .ref 87), (1, .int (b01 x1)), (2, .int x2)]) (fa_c rfl (fa_c rfl (fa_c rfl (fa_n)))) rfl ?_
      exact m169_81_ok  h
  · replace h := if_n h10 h
    refine h_y (b01_0 h10) ?_
    refine h_lw (lv := [(0, .ref 87), (1, .int (b01 x1)), (2, .int x2)]) (fa_c rfl (fa_c rfl (fa_c rfl (fa_n)))) rfl ?_
    exact m169_81_ok  h
theorem m169_32_ok   {x1 : Bool} {x2 : Int32} {s : xSt} {q : xSt} (h : m169_32  x1 x2 s = some q) : HE V L Kc Ks 169 (32, [(0, .ref 87), (1, .int (b01 x1)), (2, .int x2)], [], (Q, hpR s)) (none) (Q, hpR q) := by
  unfold m169_32 at h
  refine h_it 1 (x' := (33, [(0, .ref 87), (1, .int (b01 x1)), (2, .int x2)], [.int (b01 x1)], (Q, hpR s))) rfl ?_
  refine h_br (b := decide ((b01 x1) = 0)) (t := 58) (f := 36) (lv' := [(0, .ref 87), (1, .int (b01 x1)), (2, .int x2)]) (st' := []) rfl rfl ?_
  by_cases h5 : x1 = true
  · replace h := if_y h5 h
    refine h_n (b01_1 h5) ?_
    refine h_it 1 (x' := (37, [(0, .ref 87), (1, .int (b01 x1)), (2, .int x2)], [.ref 87], (Q, hpR s))) rfl ?_
    obtain ⟨q6, hq6, h⟩ := Option.bind_eq_some_iff.mp h
    refine h_callO (As := []) (r1 := some (.int (b01 q6.1))) (st := []) (H1 := (Q, hpR q6.2)) rfl rfl rfl rfl rfl rfl (m160_ok hq6) ?_
    refine h_br (b := decide ((b01 q6.1) = 0)) (t := 58) (f := 43) (lv' := [(0, .ref 87), (1, .int (b01 x1)), (2, .int x2)]) (st' := []) rfl rfl ?_
    by_cases h7 : q6.1 = true
    · replace h := if_y h7 h
      refine h_n (b01_1 h7) ?_
      refine h_it 3 (x' := (46, [(0, .ref 87), (1, .int (b01 x1)), (2, .int x2)], [.int x2, .int 1, .ref 87], (Q, hpR q6.2))) rfl ?_
      obtain ⟨q8, hq8, h⟩ := Option.bind_eq_some_iff.mp h
      refine h_callO (As := [.int 1, .int x2]) (r1 := some (.int q8.1)) (st := []) (H1 := (Q, hpR q8.2)) rfl rfl rfl rfl rfl rfl (m170_ok hq8) ?_
      refine h_it 3 (x' := (52, [(3, .int q8.1), (0, .ref 87), (1, .int (b01 x1)), (2, .int x2)], [.int q8.1, .ref 87], (Q, hpR q8.2))) rfl ?_
      obtain ⟨q9, hq9, h⟩ := Option.bind_eq_some_iff.mp h
      refine h_callO (As := [.int q8.1]) (r1 := none) (st := []) (H1 := (Q, hpR q9)) rfl rfl rfl rfl rfl rfl (m171_ok hq9) ?_
      replace h := Option.some.inj h; subst h
      refine h_it 1 (x' := (169, [(3, .int q8.1), (0, .ref 87), (1, .int (b01 x1)), (2, .int x2)], [], (Q, hpR q9))) rfl ?_
      exact h_vret rfl rfl
    · replace h := if_n h7 h
      refine h_y (b01_0 h7) ?_
      refine h_lw (lv := [(0, .ref 87), (1, .int (b01 x1)), (2, .int x2)]) (fa_c rfl (fa_c rfl (fa_c rfl (fa_n)))) rfl ?_
      exact m169_58_ok  h
  · replace h := if_n h5 h
    refine h_y (b01_0 h5) ?_
    refine h_lw (lv := [(0, .ref 87), (1, .int (b01 x1)), (2, .int x2)]) (fa_c rfl (fa_c rfl (fa_c rfl (fa_n)))) rfl ?_
    exact m169_58_ok  h
theorem m169_ok {b1 : Bool} {a2 : Int32} {s : xSt} {q : xSt} (h : m169 b1 a2 s = some q) : HC V L Kc Ks 169 [.ref 87, .int (b01 b1), .int a2] (Q, hpR s) (none) (Q, hpR q) := by
  unfold m169 at h
  refine hc_of (by decide) rfl ?_
  refine h_it 3 (x' := (5, [(0, .ref 87), (1, .int (b01 b1)), (2, .int a2)], [.int 3, .int (gI s 24)], (Q, hpR s))) rfl ?_
  refine h_br (b := decide (¬ (gI s 24) = 3)) (t := 32) (f := 8) (lv' := [(0, .ref 87), (1, .int (b01 b1)), (2, .int a2)]) (st' := []) rfl rfl ?_
  by_cases h1 : (gI s 24) = 3
  · replace h := if_y h1 h
    refine h_n (fun z => z h1) ?_
    refine h_it 1 (x' := (9, [(0, .ref 87), (1, .int (b01 b1)), (2, .int a2)], [.int (b01 b1)], (Q, hpR s))) rfl ?_
    refine h_br (b := decide ((b01 b1) = 0)) (t := 32) (f := 12) (lv' := [(0, .ref 87), (1, .int (b01 b1)), (2, .int a2)]) (st' := []) rfl rfl ?_
    by_cases h2 : b1 = true
    · replace h := if_y h2 h
      refine h_n (b01_1 h2) ?_
      refine h_it 3 (x' := (15, [(0, .ref 87), (1, .int (b01 b1)), (2, .int a2)], [.int a2, .int 0, .ref 87], (Q, hpR s))) rfl ?_
      obtain ⟨q3, hq3, h⟩ := Option.bind_eq_some_iff.mp h
      refine h_callO (As := [.int 0, .int a2]) (r1 := some (.int q3.1)) (st := []) (H1 := (Q, hpR q3.2)) rfl rfl rfl rfl rfl rfl (m170_ok hq3) ?_
      refine h_it 6 (x' := (28, [(3, .int q3.1), (0, .ref 87), (1, .int (b01 b1)), (2, .int a2)], [.int (gI q3.2 26), .int q3.1, .ref 103], (Q, hpR q3.2))) rfl ?_
      obtain ⟨u4, hu4, h⟩ := Option.bind_eq_some_iff.mp h
      refine h_iast rfl rfl hu4 ?_
      show HE V L Kc Ks 169 (29, [(3, .int q3.1), (0, .ref 87), (1, .int (b01 b1)), (2, .int a2)], [], (Q, hpR (sR q3.2 14 u4))) _ _
      replace h := Option.some.inj h; subst h
      refine h_it 1 (x' := (169, [(3, .int q3.1), (0, .ref 87), (1, .int (b01 b1)), (2, .int a2)], [], (Q, hpR (sR q3.2 14 u4)))) rfl ?_
      exact h_vret rfl rfl
    · replace h := if_n h2 h
      refine h_y (b01_0 h2) ?_
      refine h_lw (lv := [(0, .ref 87), (1, .int (b01 b1)), (2, .int a2)]) (fa_c rfl (fa_c rfl (fa_c rfl (fa_n)))) rfl ?_
      exact m169_32_ok  h
  · replace h := if_n h1 h
    refine h_y h1 ?_
    refine h_lw (lv := [(0, .ref 87), (1, .int (b01 b1)), (2, .int a2)]) (fa_c rfl (fa_c rfl (fa_c rfl (fa_n)))) rfl ?_
    exact m169_32_ok  h
end Sm169
