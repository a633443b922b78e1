section Sm76
variable {V : xmV} {L : List Nat} {Kc Ks : Nat} {Q : List xE}
theorem m76_115_ok {K11 : Int32 → xSt → Option (xSt)} (hK11 : ∀ (x2 : Int32) (s : xSt) (q : xSt), K11 x2 s = some q → HE V L Kc Ks 76 (11, [(0, .ref 49), (2, .int x2)], [], (hpC s, Q)) (none) (hpC q, Q)) {x2 : Int32} {y0 : Int32} {s : xSt} {q : xSt} (h : m76_115 K11 x2 y0 s = some q) : HE V L Kc Ks 76 (115, [(0, .ref 49), (2, .int x2)], [.int y0, .ref 49], (hpC s, Q)) (none) (hpC q, Q) := by
  unfold m76_115 at h
  obtain ⟨q15, hq15, h⟩ := Option.bind_eq_some_iff.mp h
  refine h_callO (As := [.int y0]) (r1 := none) (st := []) (H1 := (hpC q15, Q)) rfl rfl rfl rfl rfl rfl (m83_ok hq15) ?_
  refine h_it 2 (x' := (11, [(2, .int (x2 + 1)), (0, .ref 49)], [], (hpC q15, Q))) rfl ?_
  refine h_lw (lv := [(0, .ref 49), (2, .int (x2 + 1))]) (fa_c rfl (fa_c rfl (fa_n))) rfl ?_
  exact hK11 (x2 + 1) q15 _ h
theorem m76_11_ok   : ∀ (n : Nat) (x2 : Int32) (s : xSt) (q : xSt), m76_11  n x2 s = some q → HE V L Kc Ks 76 (11, [(0, .ref 49), (2, .int x2)], [], (hpC s, Q)) (none) (hpC q, Q) := by
  intro n
  induction n with
  | zero => intro x2 s q h; cases h
  | succ n ih =>
    intro x2 s q h
    unfold m76_11 at h
    refine h_it 2 (x' := (14, [(0, .ref 49), (2, .int x2)], [.int 1000000, .int x2], (hpC s, Q))) rfl ?_
    refine h_br (b := decide (1000000 ≤ x2)) (t := 124) (f := 17) (lv' := [(0, .ref 49), (2, .int x2)]) (st' := []) rfl rfl ?_
    by_cases h2 : 1000000 ≤ x2
    · replace h := if_y h2 h
      refine h_y h2 ?_
      replace h := Option.some.inj h; subst h
      exact h_vret rfl rfl
    · replace h := if_n h2 h
      refine h_n h2 ?_
      refine h_it 2 (x' := (21, [(0, .ref 49), (2, .int x2)], [.int (b01 (gZ s 4))], (hpC s, Q))) rfl ?_
      refine h_br (b := decide (¬ (b01 (gZ s 4)) = 0)) (t := 124) (f := 24) (lv' := [(0, .ref 49), (2, .int x2)]) (st' := []) rfl rfl ?_
      by_cases h3 : (gZ s 4) = true
      · replace h := if_y h3 h
        refine h_y (b01_1 h3) ?_
        replace h := Option.some.inj h; subst h
        exact h_vret rfl rfl
      · replace h := if_n h3 h
        refine h_n (fun z => z (b01_0 h3)) ?_
        refine h_it 2 (x' := (28, [(0, .ref 49), (2, .int x2)], [.ref 47], (hpC s, Q))) rfl ?_
        obtain ⟨q4, hq4, h⟩ := Option.bind_eq_some_iff.mp h
        refine h_callO (As := []) (r1 := some (.int (b01 q4.1))) (st := []) (H1 := (hpC q4.2, Q)) rfl rfl rfl rfl rfl rfl (m13_ok hq4) ?_
        refine h_br (b := decide (¬ (b01 q4.1) = 0)) (t := 124) (f := 34) (lv' := [(0, .ref 49), (2, .int x2)]) (st' := []) rfl rfl ?_
        by_cases h5 : q4.1 = true
        · replace h := if_y h5 h
          refine h_y (b01_1 h5) ?_
          replace h := Option.some.inj h; subst h
          exact h_vret rfl rfl
        · replace h := if_n h5 h
          refine h_n (fun z => z (b01_0 h5)) ?_
          refine h_it 1 (x' := (35, [(0, .ref 49), (2, .int x2)], [.ref 49], (hpC q4.2, Q))) rfl ?_
          obtain ⟨q6, hq6, h⟩ := Option.bind_eq_some_iff.mp h
          refine h_callO (As := []) (r1 := some (.int q6.1)) (st := []) (H1 := (hpC q6.2, Q)) rfl rfl rfl rfl rfl rfl (m78_ok hq6) ?_
          refine h_it 3 (x' := (42, [(3, .int q6.1), (0, .ref 49), (2, .int x2)], [.int 66, .int q6.1], (hpC q6.2, Q))) rfl ?_
          refine h_br (b := decide (¬ q6.1 = 66)) (t := 73) (f := 45) (lv' := [(3, .int q6.1), (0, .ref 49), (2, .int x2)]) (st' := []) rfl rfl ?_
          by_cases h7 : q6.1 = 66
          · replace h := if_y h7 h
            refine h_n (fun z => z h7) ?_
            refine h_it 8 (x' := (61, [(3, .int q6.1), (0, .ref 49), (2, .int x2)], [.int (xsTop (gR q6.2 1)), .ref (pa (gZ q6.2 3)), .ref 48, .ref 49], (hpC q6.2, Q))) rfl ?_
            refine h_callO (As := [.int (xsTop (gR q6.2 1))]) (r1 := some (.int (xsAt (gP q6.2 (gZ q6.2 3) 2) (xsTop (gR q6.2 1))))) (st := [.ref 48, .ref 49]) (H1 := (hpC q6.2, Q)) rfl rfl rfl rfl rfl hp_pa (m55_ok (gZ q6.2 3) (xsTop (gR q6.2 1)) q6.2) ?_
            obtain ⟨q8, hq8, h⟩ := Option.bind_eq_some_iff.mp h
            refine h_callO (As := [.int (xsAt (gP q6.2 (gZ q6.2 3) 2) (xsTop (gR q6.2 1)))]) (r1 := some (.long q8.1)) (st := [.ref 49]) (H1 := (hpC q8.2, Q)) rfl rfl rfl rfl rfl rfl (m37_ok hq8) ?_
            obtain ⟨q9, hq9, h⟩ := Option.bind_eq_some_iff.mp h
            refine h_callO (As := [.long q8.1]) (r1 := none) (st := []) (H1 := (hpC q9, Q)) rfl rfl rfl rfl rfl rfl (m80_ok hq9) ?_
            refine h_it 3 (x' := (11, [(2, .int (x2 + 1)), (3, .int q6.1), (0, .ref 49)], [], (hpC q9, Q))) rfl ?_
            refine h_lw (lv := [(0, .ref 49), (2, .int (x2 + 1))]) (fa_c rfl (fa_c rfl (fa_n))) rfl ?_
            exact ih (x2 + 1) q9 _ h
          · replace h := if_n h7 h
            refine h_y h7 ?_
            refine h_it 2 (x' := (76, [(3, .int q6.1), (0, .ref 49), (2, .int x2)], [.int 85, .int q6.1], (hpC q6.2, Q))) rfl ?_
            refine h_br (b := decide (¬ q6.1 = 85)) (t := 92) (f := 79) (lv' := [(3, .int q6.1), (0, .ref 49), (2, .int x2)]) (st' := []) rfl rfl ?_
            by_cases h10 : q6.1 = 85
            · replace h := if_y h10 h
              refine h_n (fun z => z h10) ?_
              refine h_it 9 (x' := (11, [(2, .int (x2 + 1)), (3, .int q6.1), (0, .ref 49)], [], (hpC (sI q6.2 11 ((gI q6.2 11) - 1)), Q))) rfl ?_
              refine h_lw (lv := [(0, .ref 49), (2, .int (x2 + 1))]) (fa_c rfl (fa_c rfl (fa_n))) rfl ?_
              exact ih (x2 + 1) (sI q6.2 11 ((gI q6.2 11) - 1)) _ h
            · replace h := if_n h10 h
              refine h_y h10 ?_
              refine h_it 2 (x' := (94, [(3, .int q6.1), (0, .ref 49), (2, .int x2)], [.int q6.1, .ref 49], (hpC q6.2, Q))) rfl ?_
              obtain ⟨q11, hq11, h⟩ := Option.bind_eq_some_iff.mp h
              refine h_callO (As := [.int q6.1]) (r1 := some (.int (b01 q11.1))) (st := []) (H1 := (hpC q11.2, Q)) rfl rfl rfl rfl rfl rfl (m81_ok hq11) ?_
              refine h_br (b := decide ((b01 q11.1) = 0)) (t := 118) (f := 100) (lv' := [(3, .int q6.1), (0, .ref 49), (2, .int x2)]) (st' := []) rfl rfl ?_
              by_cases h12 : q11.1 = true
              · replace h := if_y h12 h
                refine h_n (b01_1 h12) ?_
                refine h_it 3 (x' := (104, [(3, .int q6.1), (0, .ref 49), (2, .int x2)], [.int 42, .int q6.1, .ref 49], (hpC q11.2, Q))) rfl ?_
                refine h_br (b := decide (¬ q6.1 = 42)) (t := 114) (f := 107) (lv' := [(3, .int q6.1), (0, .ref 49), (2, .int x2)]) (st' := [.ref 49]) rfl rfl ?_
                by_cases h13 : q6.1 = 42
                · replace h := if_y h13 h
                  refine h_n (fun z => z h13) ?_
                  refine h_it 1 (x' := (108, [(3, .int q6.1), (0, .ref 49), (2, .int x2)], [.ref 49, .ref 49], (hpC q11.2, Q))) rfl ?_
                  obtain ⟨q14, hq14, h⟩ := Option.bind_eq_some_iff.mp h
                  refine h_callO (As := []) (r1 := some (.int q14.1)) (st := [.ref 49]) (H1 := (hpC q14.2, Q)) rfl rfl rfl rfl rfl rfl (m82_ok hq14) ?_
                  refine h_it 1 (x' := (115, [(3, .int q6.1), (0, .ref 49), (2, .int x2)], [.int q14.1, .ref 49], (hpC q14.2, Q))) rfl ?_
                  refine h_lw (lv := [(0, .ref 49), (2, .int x2)]) (fa_c rfl (fa_c rfl (fa_n))) rfl ?_
                  exact m76_115_ok ih h
                · replace h := if_n h13 h
                  refine h_y h13 ?_
                  refine h_it 1 (x' := (115, [(3, .int q6.1), (0, .ref 49), (2, .int x2)], [.int q6.1, .ref 49], (hpC q11.2, Q))) rfl ?_
                  refine h_lw (lv := [(0, .ref 49), (2, .int x2)]) (fa_c rfl (fa_c rfl (fa_n))) rfl ?_
                  exact m76_115_ok ih h
              · replace h := if_n h12 h
                refine h_y (b01_0 h12) ?_
                refine h_it 2 (x' := (11, [(2, .int (x2 + 1)), (3, .int q6.1), (0, .ref 49)], [], (hpC q11.2, Q))) rfl ?_
                refine h_lw (lv := [(0, .ref 49), (2, .int (x2 + 1))]) (fa_c rfl (fa_c rfl (fa_n))) rfl ?_
                exact ih (x2 + 1) q11.2 _ h
theorem m76_ok {z1 : Bool} {s : xSt} {q : xSt} (h : m76 z1 s = some q) : HC V L Kc Ks 76 [.ref 49, .ref (pa z1)] (hpC s, Q) (none) (hpC q, Q) := by
  unfold m76 at h
  refine hc_of (by decide) rfl ?_
  refine h_it 4 (x' := (6, [(0, .ref 49), (1, .ref (pa z1))], [.ref 49], (hpC (sZ s 3 z1), Q))) rfl ?_
  obtain ⟨q1, hq1, h⟩ := Option.bind_eq_some_iff.mp h
  refine h_callO (As := []) (r1 := none) (st := []) (H1 := (hpC q1, Q)) rfl rfl rfl rfl rfl rfl (m77_ok hq1) ?_
  refine h_it 2 (x' := (11, [(2, .int 0), (0, .ref 49), (1, .ref (pa z1))], [], (hpC q1, Q))) rfl ?_
  refine h_lw (lv := [(0, .ref 49), (2, .int 0)]) (fa_c rfl (fa_c rfl (fa_n))) rfl ?_
  exact m76_11_ok  1000000 0 q1 _ h
end Sm76
section Sm25_r78
variable {V : xmV} {L : List Nat} {Kc Ks : Nat} {Q : List xE}
theorem m25_r78_ok  {s : xSt} {q : xSt} (h : m25_r78  s = some q) : HC V L Kc Ks 25 [.ref 80, .ref 78] (hpC s, Q) (none) (hpC q, Q) := by
  unfold m25_r78 at h
  refine hc_of (by decide) rfl ?_
  refine h_it 3 (x' := (5, [(0, .ref 80), (1, .ref 78)], [.ref 78, .ref 81], (hpC s, Q))) rfl ?_
  by_cases h1 : ((gR s 14)).length ≤ 64
  rotate_left
  · replace h := if_n h1 h
    cases h
  replace h := if_y h1 h
  refine h_callR (As := [.ref 78]) (r1 := none) (st := []) rfl rfl rfl rfl rfl rfl (h_copy rfl rfl (by decide) rfl h1) ?_
  show HE V L Kc Ks 25 (8, [(0, .ref 80), (1, .ref 78)], [], (hpC (sR s 15 (gR s 14)), Q)) _ _
  replace h := Option.some.inj h; subst h
  refine h_it 3 (x' := (13, [(0, .ref 80), (1, .ref 78)], [], (hpC (sI (sR s 15 (gR s 14)) 15 0), Q))) rfl ?_
  exact h_vret rfl rfl
end Sm25_r78
section Sm15
variable {V : xmV} {L : List Nat} {Kc Ks : Nat} {Q : List xE}
theorem m15_ok  (s : xSt) : HC V L Kc Ks 15 [.ref 47] (hpC s, Q) (some (.int (gI s 2))) (hpC s, Q) := by
  refine hc_of (by decide) rfl ?_
  refine h_it 2 (x' := (4, [(0, .ref 47)], [.int (gI s 2)], (hpC s, Q))) rfl ?_
  exact h_iret rfl rfl
end Sm15
section Sm117
variable {V : xmV} {L : List Nat} {Kc Ks : Nat} {Q : List xE}
theorem m117_ok (a1 : Int32) (a2 : Int32) (s : xSt) : HC V L Kc Ks 117 [.ref 65, .int a1, .int a2] (hpC s, Q) (some (.int ((nI ((xsPush 2065 (gR s 12) a1)).length) - 1))) (hpC (sR (sR s 12 (xsPush 2065 (gR s 12) a1)) 13 (xsPush 2065 (gR s 13) a2)), Q) := by
  refine hc_of (by decide) rfl ?_
  refine h_it 13 (x' := (25, [(0, .ref 65), (1, .int a1), (2, .int a2)], [.int ((nI ((xsPush 2065 (gR s 12) a1)).length) - 1)], (hpC (sR (sR s 12 (xsPush 2065 (gR s 12) a1)) 13 (xsPush 2065 (gR s 13) a2)), Q))) rfl ?_
  exact h_iret rfl rfl
end Sm117
section Sm116
variable {V : xmV} {L : List Nat} {Kc Ks : Nat} {Q : List xE}
theorem m116_ok  {s : xSt} {q : xSt} (h : m116  s = some q) : HC V L Kc Ks 116 [.ref 65] (hpC s, Q) (none) (hpC q, Q) := by
  unfold m116 at h
  refine hc_of (by decide) rfl ?_
  refine h_it 19 (x' := (37, [(0, .ref 65)], [.int 0, .ref 74], (hpC (sR (sR (sR (sR s 8 (xsCut (gR s 8) 0)) 9 (xsCut (gR s 9) 0)) 10 (xsCut (gR s 10) 0)) 11 (xsCut (gR s 11) 0)), Q))) rfl ?_
  refine (show ∀ w : xSt, HE V L Kc Ks 116 (40, [(0, .ref 65)], [], (hpC (sR w 12 (xsCut (gR w 12) 0)), Q)) _ _ → HE V L Kc Ks 116 (37, [(0, .ref 65)], [.int 0, .ref 74], (hpC w, Q)) _ _ from fun w e => h_it 1 rfl e) (sR (sR (sR (sR s 8 (xsCut (gR s 8) 0)) 9 (xsCut (gR s 9) 0)) 10 (xsCut (gR s 10) 0)) 11 (xsCut (gR s 11) 0)) ?_
  show HE V L Kc Ks 116 (40, [(0, .ref 65)], [], (hpC (sR (sR (sR (sR (sR s 8 (xsCut (gR s 8) 0)) 9 (xsCut (gR s 9) 0)) 10 (xsCut (gR s 10) 0)) 11 (xsCut (gR s 11) 0)) 12 (xsCut (gR s 12) 0)), Q)) _ _
  refine h_it 3 (x' := (45, [(0, .ref 65)], [.int 0, .ref 76], (hpC (sR (sR (sR (sR (sR s 8 (xsCut (gR s 8) 0)) 9 (xsCut (gR s 9) 0)) 10 (xsCut (gR s 10) 0)) 11 (xsCut (gR s 11) 0)) 12 (xsCut (gR s 12) 0)), Q))) rfl ?_
  refine (show ∀ w : xSt, HE V L Kc Ks 116 (48, [(0, .ref 65)], [], (hpC (sR w 13 (xsCut (gR w 13) 0)), Q)) _ _ → HE V L Kc Ks 116 (45, [(0, .ref 65)], [.int 0, .ref 76], (hpC w, Q)) _ _ from fun w e => h_it 1 rfl e) (sR (sR (sR (sR (sR s 8 (xsCut (gR s 8) 0)) 9 (xsCut (gR s 9) 0)) 10 (xsCut (gR s 10) 0)) 11 (xsCut (gR s 11) 0)) 12 (xsCut (gR s 12) 0)) ?_
  show HE V L Kc Ks 116 (48, [(0, .ref 65)], [], (hpC (sR (sR (sR (sR (sR (sR s 8 (xsCut (gR s 8) 0)) 9 (xsCut (gR s 9) 0)) 10 (xsCut (gR s 10) 0)) 11 (xsCut (gR s 11) 0)) 12 (xsCut (gR s 12) 0)) 13 (xsCut (gR s 13) 0)), Q)) _ _
  refine h_it 3 (x' := (51, [(0, .ref 65)], [.int 0, .int 0, .ref 65], (hpC (sR (sR (sR (sR (sR (sR s 8 (xsCut (gR s 8) 0)) 9 (xsCut (gR s 9) 0)) 10 (xsCut (gR s 10) 0)) 11 (xsCut (gR s 11) 0)) 12 (xsCut (gR s 12) 0)) 13 (xsCut (gR s 13) 0)), Q))) rfl ?_
  refine h_callO (As := [.int 0, .int 0]) (r1 := some (.int ((nI ((xsPush 2065 (xsCut (gR s 12) 0) 0)).length) - 1))) (st := []) (H1 := (hpC (sR (sR (sR (sR (sR (sR (sR (sR s 8 (xsCut (gR s 8) 0)) 9 (xsCut (gR s 9) 0)) 10 (xsCut (gR s 10) 0)) 11 (xsCut (gR s 11) 0)) 12 (xsCut (gR s 12) 0)) 13 (xsCut (gR s 13) 0)) 12 (xsPush 2065 (xsCut (gR s 12) 0) 0)) 13 (xsPush 2065 (xsCut (gR s 13) 0) 0)), Q)) rfl rfl rfl rfl rfl rfl (m117_ok 0 0 (sR (sR (sR (sR (sR (sR s 8 (xsCut (gR s 8) 0)) 9 (xsCut (gR s 9) 0)) 10 (xsCut (gR s 10) 0)) 11 (xsCut (gR s 11) 0)) 12 (xsCut (gR s 12) 0)) 13 (xsCut (gR s 13) 0))) ?_
  refine h_it 3 (x' := (57, [(0, .ref 65)], [.int 0, .ref 65], (hpC (sR (sR (sR (sR (sR (sR (sR (sR s 8 (xsCut (gR s 8) 0)) 9 (xsCut (gR s 9) 0)) 10 (xsCut (gR s 10) 0)) 11 (xsCut (gR s 11) 0)) 12 (xsCut (gR s 12) 0)) 13 (xsCut (gR s 13) 0)) 12 (xsPush 2065 (xsCut (gR s 12) 0) 0)) 13 (xsPush 2065 (xsCut (gR s 13) 0) 0)), Q))) rfl ?_
  refine (show ∀ w : xSt, HE V L Kc Ks 116 (60, [(0, .ref 65)], [], (hpC (sI w 12 0), Q)) _ _ → HE V L Kc Ks 116 (57, [(0, .ref 65)], [.int 0, .ref 65], (hpC w, Q)) _ _ from fun w e => h_it 1 rfl e) (sR (sR (sR (sR (sR (sR (sR (sR s 8 (xsCut (gR s 8) 0)) 9 (xsCut (gR s 9) 0)) 10 (xsCut (gR s 10) 0)) 11 (xsCut (gR s 11) 0)) 12 (xsCut (gR s 12) 0)) 13 (xsCut (gR s 13) 0)) 12 (xsPush 2065 (xsCut (gR s 12) 0) 0)) 13 (xsPush 2065 (xsCut (gR s 13) 0) 0)) ?_
  show HE V L Kc Ks 116 (60, [(0, .ref 65)], [], (hpC (sI (sR (sR (sR (sR (sR (sR (sR (sR s 8 (xsCut (gR s 8) 0)) 9 (xsCut (gR s 9) 0)) 10 (xsCut (gR s 10) 0)) 11 (xsCut (gR s 11) 0)) 12 (xsCut (gR s 12) 0)) 13 (xsCut (gR s 13) 0)) 12 (xsPush 2065 (xsCut (gR s 12) 0) 0)) 13 (xsPush 2065 (xsCut (gR s 13) 0) 0)) 12 0), Q)) _ _
  refine h_it 2 (x' := (62, [(0, .ref 65)], [.int 0, .ref 65], (hpC (sI (sR (sR (sR (sR (sR (sR (sR (sR s 8 (xsCut (gR s 8) 0)) 9 (xsCut (gR s 9) 0)) 10 (xsCut (gR s 10) 0)) 11 (xsCut (gR s 11) 0)) 12 (xsCut (gR s 12) 0)) 13 (xsCut (gR s 13) 0)) 12 (xsPush 2065 (xsCut (gR s 12) 0) 0)) 13 (xsPush 2065 (xsCut (gR s 13) 0) 0)) 12 0), Q))) rfl ?_
  refine (show ∀ w : xSt, HE V L Kc Ks 116 (65, [(0, .ref 65)], [], (hpC (sI w 14 0), Q)) _ _ → HE V L Kc Ks 116 (62, [(0, .ref 65)], [.int 0, .ref 65], (hpC w, Q)) _ _ from fun w e => h_it 1 rfl e) (sI (sR (sR (sR (sR (sR (sR (sR (sR s 8 (xsCut (gR s 8) 0)) 9 (xsCut (gR s 9) 0)) 10 (xsCut (gR s 10) 0)) 11 (xsCut (gR s 11) 0)) 12 (xsCut (gR s 12) 0)) 13 (xsCut (gR s 13) 0)) 12 (xsPush 2065 (xsCut (gR s 12) 0) 0)) 13 (xsPush 2065 (xsCut (gR s 13) 0) 0)) 12 0) ?_
  show HE V L Kc Ks 116 (65, [(0, .ref 65)], [], (hpC (sI (sI (sR (sR (sR (sR (sR (sR (sR (sR s 8 (xsCut (gR s 8) 0)) 9 (xsCut (gR s 9) 0)) 10 (xsCut (gR s 10) 0)) 11 (xsCut (gR s 11) 0)) 12 (xsCut (gR s 12) 0)) 13 (xsCut (gR s 13) 0)) 12 (xsPush 2065 (xsCut (gR s 12) 0) 0)) 13 (xsPush 2065 (xsCut (gR s 13) 0) 0)) 12 0) 14 0), Q)) _ _
  replace h := Option.some.inj h; subst h
  exact h_vret rfl rfl
end Sm116
section Sm118_r78
variable {V : xmV} {L : List Nat} {Kc Ks : Nat} {Q : List xE}
theorem m118_r78_9_ok   : ∀ (n : Nat) (x2 : Int32) (x3 : Int32) (s : xSt) (q : Int32 × xSt), m118_r78_9  n x2 x3 s = some q → HE V L Kc Ks 118 (9, [(0, .ref 65), (1, .ref 78), (2, .int x2), (3, .int x3)], [], (hpC s, Q)) (some (.int q.1)) (hpC q.2, Q) := by
  intro n
  induction n with
  | zero => intro x2 x3 s q h; cases h
  | succ n ih =>
    intro x2 x3 s q h
    unfold m118_r78_9 at h
    refine h_it 1 (x' := (10, [(0, .ref 65), (1, .ref 78), (2, .int x2), (3, .int x3)], [.int x3], (hpC s, Q))) rfl ?_
    refine h_br (b := decide (x3 < 0)) (t := 30) (f := 13) (lv' := [(0, .ref 65), (1, .ref 78), (2, .int x2), (3, .int x3)]) (st' := []) rfl rfl ?_
    by_cases h1 : x3 < 0
    · replace h := if_y h1 h
      refine h_y h1 ?_
      replace h := Option.some.inj h; subst h
      refine h_it 1 (x' := (31, [(0, .ref 65), (1, .ref 78), (2, .int x2), (3, .int x3)], [.int x2], (hpC s, Q))) rfl ?_
      exact h_iret rfl rfl
    · replace h := if_n h1 h
      refine h_n h1 ?_
      refine h_it 5 (x' := (20, [(0, .ref 65), (1, .ref 78), (2, .int x2), (3, .int x3)], [.int x2, .int (xsAt (gR s 14) x3), .ref 65], (hpC s, Q))) rfl ?_
      refine h_callO (As := [.int (xsAt (gR s 14) x3), .int x2]) (r1 := some (.int ((nI ((xsPush 2065 (gR s 12) (xsAt (gR s 14) x3))).length) - 1))) (st := []) (H1 := (hpC (sR (sR s 12 (xsPush 2065 (gR s 12) (xsAt (gR s 14) x3))) 13 (xsPush 2065 (gR s 13) x2)), Q)) rfl rfl rfl rfl rfl rfl (m117_ok (xsAt (gR s 14) x3) x2 s) ?_
      refine h_it 3 (x' := (9, [(3, .int (x3 + (-1))), (2, .int ((nI ((xsPush 2065 (gR s 12) (xsAt (gR s 14) x3))).length) - 1)), (0, .ref 65), (1, .ref 78)], [], (hpC (sR (sR s 12 (xsPush 2065 (gR s 12) (xsAt (gR s 14) x3))) 13 (xsPush 2065 (gR s 13) x2)), Q))) rfl ?_
      refine h_lw (lv := [(0, .ref 65), (1, .ref 78), (2, .int ((nI ((xsPush 2065 (gR s 12) (xsAt (gR s 14) x3))).length) - 1)), (3, .int (x3 + (-1)))]) (fa_c rfl (fa_c rfl (fa_c rfl (fa_c rfl (fa_n))))) rfl ?_
      exact ih ((nI ((xsPush 2065 (gR s 12) (xsAt (gR s 14) x3))).length) - 1) (x3 + (-1)) (sR (sR s 12 (xsPush 2065 (gR s 12) (xsAt (gR s 14) x3))) 13 (xsPush 2065 (gR s 13) x2)) _ h
theorem m118_r78_ok  {s : xSt} {q : Int32 × xSt} (h : m118_r78  s = some q) : HC V L Kc Ks 118 [.ref 65, .ref 78] (hpC s, Q) (some (.int q.1)) (hpC q.2, Q) := by
  unfold m118_r78 at h
  refine hc_of (by decide) rfl ?_
  refine h_it 7 (x' := (9, [(3, .int ((nI ((gR s 14)).length) - 1)), (2, .int 0), (0, .ref 65), (1, .ref 78)], [], (hpC s, Q))) rfl ?_
  refine h_lw (lv := [(0, .ref 65), (1, .ref 78), (2, .int 0), (3, .int ((nI ((gR s 14)).length) - 1))]) (fa_c rfl (fa_c rfl (fa_c rfl (fa_c rfl (fa_n))))) rfl ?_
  exact m118_r78_9_ok  1000000 0 ((nI ((gR s 14)).length) - 1) s _ h
end Sm118_r78
section Sm74
variable {V : xmV} {L : List Nat} {Kc Ks : Nat} {Q : List xE}
theorem m74_okf (a1 : Int32) (s : xSt) : HC V L Kc Ks 74 [.ref (pa false), .int a1] (hpC s, Q) (some (.int ((xsAt (gP s false 6) a1) + 1))) (hpC s, Q) := by
  refine hc_of (by decide) rfl ?_
  refine h_it 6 (x' := (10, [(0, .ref (pa false)), (1, .int a1)], [.int ((xsAt (gP s false 6) a1) + 1)], (hpC s, Q))) rfl ?_
  exact h_iret rfl rfl
theorem m74_okt (a1 : Int32) (s : xSt) : HC V L Kc Ks 74 [.ref (pa true), .int a1] (hpC s, Q) (some (.int ((xsAt (gP s true 6) a1) + 1))) (hpC s, Q) := by
  refine hc_of (by decide) rfl ?_
  refine h_it 6 (x' := (10, [(0, .ref (pa true)), (1, .int a1)], [.int ((xsAt (gP s true 6) a1) + 1)], (hpC s, Q))) rfl ?_
  exact h_iret rfl rfl
theorem m74_ok (z0 : Bool) (a1 : Int32) (s : xSt) : HC V L Kc Ks 74 [.ref (pa z0), .int a1] (hpC s, Q) (some (.int ((xsAt (gP s z0 6) a1) + 1))) (hpC s, Q) := by
  cases z0
  · exact m74_okf a1 s
  · exact m74_okt a1 s
end Sm74
section Sm119
variable {V : xmV} {L : List Nat} {Kc Ks : Nat} {Q : List xE}
theorem m119_ok  {s : xSt} {q : Bool × xSt} (h : m119  s = some q) : HC V L Kc Ks 119 [.ref 65] (hpC s, Q) (some (.int (b01 q.1))) (hpC q.2, Q) := by
  unfold m119 at h
  refine hc_of (by decide) rfl ?_
  refine h_it 3 (x' := (7, [(0, .ref 65)], [.int 6000, .int (gI s 14)], (hpC s, Q))) rfl ?_
  refine h_br (b := decide (6000 < (gI s 14))) (t := 32) (f := 10) (lv' := [(0, .ref 65)]) (st' := []) rfl rfl ?_
  by_cases h1 : 6000 < (gI s 14)
  · replace h := if_y h1 h
    refine h_y h1 ?_
    replace h := Option.some.inj h; subst h
    refine h_it 1 (x' := (33, [(0, .ref 65)], [.int (b01 false)], (hpC s, Q))) rfl ?_
    exact h_zret rfl rfl
  · replace h := if_n h1 h
    refine h_n h1 ?_
    refine h_it 3 (x' := (15, [(0, .ref 65)], [.int (-1), .int (gI s 13)], (hpC s, Q))) rfl ?_
    refine h_br (b := decide (¬ (gI s 13) = (-1))) (t := 28) (f := 18) (lv' := [(0, .ref 65)]) (st' := []) rfl rfl ?_
    by_cases h2 : (gI s 13) = (-1)
    · replace h := if_y h2 h
      refine h_n (fun z => z h2) ?_
      refine h_it 3 (x' := (25, [(0, .ref 65)], [.int (nI ((gR s 8)).length)], (hpC s, Q))) rfl ?_
      refine h_br (b := decide ((nI ((gR s 8)).length) ≤ 0)) (t := 32) (f := 28) (lv' := [(0, .ref 65)]) (st' := []) rfl rfl ?_
      by_cases h3 : (nI ((gR s 8)).length) ≤ 0
      · replace h := if_y h3 h
        refine h_y h3 ?_
        replace h := Option.some.inj h; subst h
        refine h_it 1 (x' := (33, [(0, .ref 65)], [.int (b01 false)], (hpC s, Q))) rfl ?_
        exact h_zret rfl rfl
      · replace h := if_n h3 h
        refine h_n h3 ?_
        replace h := Option.some.inj h; subst h
        refine h_it 2 (x' := (33, [(0, .ref 65)], [.int (b01 true)], (hpC s, Q))) rfl ?_
        exact h_zret rfl rfl
    · replace h := if_n h2 h
      refine h_y h2 ?_
      replace h := Option.some.inj h; subst h
      refine h_it 2 (x' := (33, [(0, .ref 65)], [.int (b01 true)], (hpC s, Q))) rfl ?_
      exact h_zret rfl rfl
end Sm119
section Sm72
variable {V : xmV} {L : List Nat} {Kc Ks : Nat} {Q : List xE}
theorem m72_okf (a1 : Int32) (s : xSt) : HC V L Kc Ks 72 [.ref (pa false), .int a1] (hpC s, Q) (some (.int (xsAt (gP s false 4) a1))) (hpC s, Q) := by
  refine hc_of (by decide) rfl ?_
  refine h_it 4 (x' := (8, [(0, .ref (pa false)), (1, .int a1)], [.int (xsAt (gP s false 4) a1)], (hpC s, Q))) rfl ?_
  exact h_iret rfl rfl
theorem m72_okt (a1 : Int32) (s : xSt) : HC V L Kc Ks 72 [.ref (pa true), .int a1] (hpC s, Q) (some (.int (xsAt (gP s true 4) a1))) (hpC s, Q) := by
  refine hc_of (by decide) rfl ?_
  refine h_it 4 (x' := (8, [(0, .ref (pa true)), (1, .int a1)], [.int (xsAt (gP s true 4) a1)], (hpC s, Q))) rfl ?_
  exact h_iret rfl rfl
theorem m72_ok (z0 : Bool) (a1 : Int32) (s : xSt) : HC V L Kc Ks 72 [.ref (pa z0), .int a1] (hpC s, Q) (some (.int (xsAt (gP s z0 4) a1))) (hpC s, Q) := by
  cases z0
  · exact m72_okf a1 s
  · exact m72_okt a1 s
end Sm72
section Sm122
variable {V : xmV} {L : List Nat} {Kc Ks : Nat} {Q : List xE}
theorem m122_ok (a1 : Int32) (s : xSt) : HC V L Kc Ks 122 [.ref 65, .int a1] (hpC s, Q) (none) (hpC (sI (sR s 9 (xsSetTop (gR s 9) (xsAt (gP s (gZ s 6) 4) a1))) 13 a1), Q) := by
  refine hc_of (by decide) rfl ?_
  refine h_it 5 (x' := (9, [(0, .ref 65), (1, .int a1)], [.int a1, .ref (pa (gZ s 6)), .ref 68], (hpC s, Q))) rfl ?_
  refine h_callO (As := [.int a1]) (r1 := some (.int (xsAt (gP s (gZ s 6) 4) a1))) (st := [.ref 68]) (H1 := (hpC s, Q)) rfl rfl rfl rfl rfl hp_pa (m72_ok (gZ s 6) a1 s) ?_
  refine h_it 4 (x' := (20, [(0, .ref 65), (1, .int a1)], [], (hpC (sI (sR s 9 (xsSetTop (gR s 9) (xsAt (gP s (gZ s 6) 4) a1))) 13 a1), Q))) rfl ?_
  exact h_vret rfl rfl
end Sm122
section Sm125
variable {V : xmV} {L : List Nat} {Kc Ks : Nat} {Q : List xE}
theorem m125_ok  (s : xSt) : HC V L Kc Ks 125 [.ref 65] (hpC s, Q) (none) (hpC (sR (sR s 8 ((gR s 8)).dropLast) 9 ((gR s 9)).dropLast), Q) := by
  refine hc_of (by decide) rfl ?_
  refine h_it 8 (x' := (16, [(0, .ref 65)], [], (hpC (sR (sR s 8 ((gR s 8)).dropLast) 9 ((gR s 9)).dropLast), Q))) rfl ?_
  exact h_vret rfl rfl
end Sm125
section Sm124
variable {V : xmV} {L : List Nat} {Kc Ks : Nat} {Q : List xE}
theorem m124_ok (a1 : Int32) (s : xSt) : HC V L Kc Ks 124 [.ref 65, .int a1] (hpC s, Q) (none) (hpC (sI (sR (sR s 8 ((gR s 8)).dropLast) 9 ((gR s 9)).dropLast) 13 a1), Q) := by
  refine hc_of (by decide) rfl ?_
  refine h_it 1 (x' := (1, [(0, .ref 65), (1, .int a1)], [.ref 65], (hpC s, Q))) rfl ?_
  refine h_callO (As := []) (r1 := none) (st := []) (H1 := (hpC (sR (sR s 8 ((gR s 8)).dropLast) 9 ((gR s 9)).dropLast), Q)) rfl rfl rfl rfl rfl rfl (m125_ok  s) ?_
  refine h_it 3 (x' := (9, [(0, .ref 65), (1, .int a1)], [], (hpC (sI (sR (sR s 8 ((gR s 8)).dropLast) 9 ((gR s 9)).dropLast) 13 a1), Q))) rfl ?_
  exact h_vret rfl rfl
end Sm124
section Sm73
variable {V : xmV} {L : List Nat} {Kc Ks : Nat} {Q : List xE}
theorem m73_okf (a1 : Int32) (s : xSt) : HC V L Kc Ks 73 [.ref (pa false), .int a1] (hpC s, Q) (some (.int (xsAt (gP s false 3) a1))) (hpC s, Q) := by
  refine hc_of (by decide) rfl ?_
  refine h_it 4 (x' := (8, [(0, .ref (pa false)), (1, .int a1)], [.int (xsAt (gP s false 3) a1)], (hpC s, Q))) rfl ?_
  exact h_iret rfl rfl
theorem m73_okt (a1 : Int32) (s : xSt) : HC V L Kc Ks 73 [.ref (pa true), .int a1] (hpC s, Q) (some (.int (xsAt (gP s true 3) a1))) (hpC s, Q) := by
  refine hc_of (by decide) rfl ?_
  refine h_it 4 (x' := (8, [(0, .ref (pa true)), (1, .int a1)], [.int (xsAt (gP s true 3) a1)], (hpC s, Q))) rfl ?_
  exact h_iret rfl rfl
theorem m73_ok (z0 : Bool) (a1 : Int32) (s : xSt) : HC V L Kc Ks 73 [.ref (pa z0), .int a1] (hpC s, Q) (some (.int (xsAt (gP s z0 3) a1))) (hpC s, Q) := by
  cases z0
  · exact m73_okf a1 s
  · exact m73_okt a1 s
end Sm73
section Sm123
variable {V : xmV} {L : List Nat} {Kc Ks : Nat} {Q : List xE}
theorem m123_154_ok   {x5 : Int32} {s : xSt} {q : xSt} (h : m123_154  x5 s = some q) : HE V L Kc Ks 123 (154, [(0, .ref 65), (5, .int x5)], [], (hpC s, Q)) (none) (hpC q, Q) := by
  unfold m123_154 at h
  refine h_it 2 (x' := (157, [(0, .ref 65), (5, .int x5)], [.int x5, .ref 65], (hpC s, Q))) rfl ?_
  refine h_callO (As := [.int x5]) (r1 := none) (st := []) (H1 := (hpC (sI (sR (sR s 8 ((gR s 8)).dropLast) 9 ((gR s 9)).dropLast) 13 x5), Q)) rfl rfl rfl rfl rfl rfl (m124_ok x5 s) ?_
  replace h := Option.some.inj h; subst h
  exact h_vret rfl rfl
theorem m123_44_ok   {y0 : Int32} {s : xSt} {q : xSt} (h : m123_44  y0 s = some q) : HE V L Kc Ks 123 (44, [(0, .ref 65)], [.int y0], (hpC s, Q)) (none) (hpC q, Q) := by
  unfold m123_44 at h
  refine h_it 2 (x' := (154, [(5, .int y0), (0, .ref 65)], [], (hpC s, Q))) rfl ?_
  refine h_lw (lv := [(0, .ref 65), (5, .int y0)]) (fa_c rfl (fa_c rfl (fa_n))) rfl ?_
  exact m123_154_ok  h
theorem m123_ok {a1 : Int32} {a2 : Int32} {s : xSt} {q : xSt} (h : m123 a1 a2 s = some q) : HC V L Kc Ks 123 [.ref 65, .int a1, .int a2] (hpC s, Q) (none) (hpC q, Q) := by
  unfold m123 at h
  refine hc_of (by decide) rfl ?_
  refine h_it 3 (x' := (5, [(0, .ref 65), (1, .int a1), (2, .int a2)], [.int a1, .ref (pa (gZ s 6))], (hpC s, Q))) rfl ?_
  refine h_callO (As := [.int a1]) (r1 := some (.int (xsAt (gP s (gZ s 6) 0) a1))) (st := []) (H1 := (hpC s, Q)) rfl rfl rfl rfl rfl hp_pa (m54_ok (gZ s 6) a1 s) ?_
  refine h_it 9 (x' := (24, [(5, .int a2), (4, .int (xsTop (gR s 10))), (3, .int (xsAt (gP s (gZ s 6) 0) a1)), (0, .ref 65), (1, .int a1), (2, .int a2)], [.int 8, .int (xsAt (gP s (gZ s 6) 0) a1)], (hpC (sR s 10 ((gR s 10)).dropLast), Q))) rfl ?_
  refine h_br (b := decide (¬ (xsAt (gP s (gZ s 6) 0) a1) = 8)) (t := 49) (f := 27) (lv' := [(5, .int a2), (4, .int (xsTop (gR s 10))), (3, .int (xsAt (gP s (gZ s 6) 0) a1)), (0, .ref 65), (1, .int a1), (2, .int a2)]) (st' := []) rfl rfl ?_
  by_cases h1 : (xsAt (gP s (gZ s 6) 0) a1) = 8
  · replace h := if_y h1 h
    refine h_n (fun z => z h1) ?_
    refine h_it 1 (x' := (29, [(5, .int a2), (4, .int (xsTop (gR s 10))), (3, .int (xsAt (gP s (gZ s 6) 0) a1)), (0, .ref 65), (1, .int a1), (2, .int a2)], [.int (xsTop (gR s 10))], (hpC (sR s 10 ((gR s 10)).dropLast), Q))) rfl ?_
    refine h_br (b := decide ((xsTop (gR s 10)) = 0)) (t := 36) (f := 32) (lv' := [(5, .int a2), (4, .int (xsTop (gR s 10))), (3, .int (xsAt (gP s (gZ s 6) 0) a1)), (0, .ref 65), (1, .int a1), (2, .int a2)]) (st' := []) rfl rfl ?_
    by_cases h2 : (xsTop (gR s 10)) = 0
    · replace h := if_y h2 h
      refine h_y h2 ?_
      refine h_it 3 (x' := (41, [(5, .int a2), (4, .int (xsTop (gR s 10))), (3, .int (xsAt (gP s (gZ s 6) 0) a1)), (0, .ref 65), (1, .int a1), (2, .int a2)], [.int a2, .ref (pa (gZ s 6))], (hpC (sR s 10 ((gR s 10)).dropLast), Q))) rfl ?_
      refine h_callO (As := [.int a2]) (r1 := some (.int (xsAt (gP s (gZ s 6) 4) a2))) (st := []) (H1 := (hpC (sR s 10 ((gR s 10)).dropLast), Q)) rfl rfl rfl rfl rfl hp_pa (m72_ok (gZ s 6) a2 (sR s 10 ((gR s 10)).dropLast)) ?_
      refine h_lw (lv := [(0, .ref 65)]) (fa_c rfl (fa_n)) rfl ?_
      exact m123_44_ok  h
    · replace h := if_n h2 h
      refine h_n h2 ?_
      refine h_it 2 (x' := (44, [(5, .int a2), (4, .int (xsTop (gR s 10))), (3, .int (xsAt (gP s (gZ s 6) 0) a1)), (0, .ref 65), (1, .int a1), (2, .int a2)], [.int a2], (hpC (sR s 10 ((gR s 10)).dropLast), Q))) rfl ?_
      refine h_lw (lv := [(0, .ref 65)]) (fa_c rfl (fa_n)) rfl ?_
      exact m123_44_ok  h
  · replace h := if_n h1 h
    refine h_y h1 ?_
    refine h_it 2 (x' := (52, [(5, .int a2), (4, .int (xsTop (gR s 10))), (3, .int (xsAt (gP s (gZ s 6) 0) a1)), (0, .ref 65), (1, .int a1), (2, .int a2)], [.int 10, .int (xsAt (gP s (gZ s 6) 0) a1)], (hpC (sR s 10 ((gR s 10)).dropLast), Q))) rfl ?_
    refine h_br (b := decide (¬ (xsAt (gP s (gZ s 6) 0) a1) = 10)) (t := 125) (f := 55) (lv' := [(5, .int a2), (4, .int (xsTop (gR s 10))), (3, .int (xsAt (gP s (gZ s 6) 0) a1)), (0, .ref 65), (1, .int a1), (2, .int a2)]) (st' := []) rfl rfl ?_
    by_cases h3 : (xsAt (gP s (gZ s 6) 0) a1) = 10
    · replace h := if_y h3 h
      refine h_n (fun z => z h3) ?_
      refine h_it 1 (x' := (57, [(5, .int a2), (4, .int (xsTop (gR s 10))), (3, .int (xsAt (gP s (gZ s 6) 0) a1)), (0, .ref 65), (1, .int a1), (2, .int a2)], [.int (xsTop (gR s 10))], (hpC (sR s 10 ((gR s 10)).dropLast), Q))) rfl ?_
      refine h_br (b := decide ((xsTop (gR s 10)) = 0)) (t := 154) (f := 60) (lv' := [(5, .int a2), (4, .int (xsTop (gR s 10))), (3, .int (xsAt (gP s (gZ s 6) 0) a1)), (0, .ref 65), (1, .int a1), (2, .int a2)]) (st' := []) rfl rfl ?_
      by_cases h4 : (xsTop (gR s 10)) = 0
      · replace h := if_y h4 h
        refine h_y h4 ?_
        refine h_lw (lv := [(0, .ref 65), (5, .int a2)]) (fa_c rfl (fa_c rfl (fa_n))) rfl ?_
        exact m123_154_ok  h
      · replace h := if_n h4 h
        refine h_n h4 ?_
        refine h_it 3 (x' := (65, [(5, .int a2), (4, .int (xsTop (gR s 10))), (3, .int (xsAt (gP s (gZ s 6) 0) a1)), (0, .ref 65), (1, .int a1), (2, .int a2)], [.int a2, .ref (pa (gZ s 6))], (hpC (sR s 10 ((gR s 10)).dropLast), Q))) rfl ?_
        refine h_callO (As := [.int a2]) (r1 := some (.int (xsAt (gP s (gZ s 6) 4) a2))) (st := []) (H1 := (hpC (sR s 10 ((gR s 10)).dropLast), Q)) rfl rfl rfl rfl rfl hp_pa (m72_ok (gZ s 6) a2 (sR s 10 ((gR s 10)).dropLast)) ?_
        refine h_it 8 (x' := (83, [(5, .int (xsAt (gP s (gZ s 6) 4) a2)), (4, .int (xsTop (gR s 10))), (3, .int (xsAt (gP s (gZ s 6) 0) a1)), (0, .ref 65), (1, .int a1), (2, .int a2)], [.int a1, .ref (pa (gZ s 6)), .int (gI s 12), .ref 72], (hpC (sR s 10 ((gR s 10)).dropLast), Q))) rfl ?_
        refine h_callO (As := [.int a1]) (r1 := some (.int (xsAt (gP s (gZ s 6) 3) a1))) (st := [.int (gI s 12), .ref 72]) (H1 := (hpC (sR s 10 ((gR s 10)).dropLast), Q)) rfl rfl rfl rfl rfl hp_pa (m73_ok (gZ s 6) a1 (sR s 10 ((gR s 10)).dropLast)) ?_
        refine h_it 17 (x' := (154, [(5, .int (xsAt (gP s (gZ s 6) 4) a2)), (4, .int (xsTop (gR s 10))), (3, .int (xsAt (gP s (gZ s 6) 0) a1)), (0, .ref 65), (1, .int a1), (2, .int a2)], [], (hpC (sR (sR s 10 ((gR s 10)).dropLast) 11 (xsPush 6001 (xsPush 6001 (xsCut (gR s 11) ((gI s 12) + (xsAt (gP s (gZ s 6) 3) a1))) (xsAt (gR s 12) (xsTop (gR s 10)))) (xsAt (gR s 13) (xsTop (gR s 10))))), Q))) rfl ?_
        refine h_lw (lv := [(0, .ref 65), (5, .int (xsAt (gP s (gZ s 6) 4) a2))]) (fa_c rfl (fa_c rfl (fa_n))) rfl ?_
        exact m123_154_ok  h
    · replace h := if_n h3 h
      refine h_y h3 ?_
      refine h_it 7 (x' := (138, [(5, .int a2), (4, .int (xsTop (gR s 10))), (3, .int (xsAt (gP s (gZ s 6) 0) a1)), (0, .ref 65), (1, .int a1), (2, .int a2)], [.int a1, .ref (pa (gZ s 6)), .int (gI s 12), .ref 72], (hpC (sR s 10 ((gR s 10)).dropLast), Q))) rfl ?_
      refine h_callO (As := [.int a1]) (r1 := some (.int (xsAt (gP s (gZ s 6) 3) a1))) (st := [.int (gI s 12), .ref 72]) (H1 := (hpC (sR s 10 ((gR s 10)).dropLast), Q)) rfl rfl rfl rfl rfl hp_pa (m73_ok (gZ s 6) a1 (sR s 10 ((gR s 10)).dropLast)) ?_
      refine h_it 6 (x' := (154, [(5, .int a2), (4, .int (xsTop (gR s 10))), (3, .int (xsAt (gP s (gZ s 6) 0) a1)), (0, .ref 65), (1, .int a1), (2, .int a2)], [], (hpC (sR (sR s 10 ((gR s 10)).dropLast) 11 (xsPush 6001 (xsCut (gR s 11) ((gI s 12) + (xsAt (gP s (gZ s 6) 3) a1))) (xsTop (gR s 10)))), Q))) rfl ?_
      refine h_lw (lv := [(0, .ref 65), (5, .int a2)]) (fa_c rfl (fa_c rfl (fa_n))) rfl ?_
      exact m123_154_ok  h
end Sm123
section Sm126
variable {V : xmV} {L : List Nat} {Kc Ks : Nat} {Q : List xE}
theorem m126_ok (a1 : Int32) (s : xSt) : HC V L Kc Ks 126 [.ref 65, .int a1] (hpC s, Q) (none) (hpC (sR (sR (sI s 12 ((gI s 12) - (xsAt (gP s (gZ s 6) 3) a1))) 8 ((gR s 8)).dropLast) 9 ((gR s 9)).dropLast), Q) := by
  refine hc_of (by decide) rfl ?_
  refine h_it 6 (x' := (10, [(0, .ref 65), (1, .int a1)], [.int a1, .ref (pa (gZ s 6)), .int (gI s 12), .ref 65], (hpC s, Q))) rfl ?_
  refine h_callO (As := [.int a1]) (r1 := some (.int (xsAt (gP s (gZ s 6) 3) a1))) (st := [.int (gI s 12), .ref 65]) (H1 := (hpC s, Q)) rfl rfl rfl rfl rfl hp_pa (m73_ok (gZ s 6) a1 s) ?_
  refine h_it 3 (x' := (18, [(0, .ref 65), (1, .int a1)], [.ref 65], (hpC (sI s 12 ((gI s 12) - (xsAt (gP s (gZ s 6) 3) a1))), Q))) rfl ?_
  refine h_callO (As := []) (r1 := none) (st := []) (H1 := (hpC (sR (sR (sI s 12 ((gI s 12) - (xsAt (gP s (gZ s 6) 3) a1))) 8 ((gR s 8)).dropLast) 9 ((gR s 9)).dropLast), Q)) rfl rfl rfl rfl rfl rfl (m125_ok  (sI s 12 ((gI s 12) - (xsAt (gP s (gZ s 6) 3) a1)))) ?_
  exact h_vret rfl rfl
end Sm126
section Sm23
variable {V : xmV} {L : List Nat} {Kc Ks : Nat} {Q : List xE}
theorem m23_ok {a0 : Int32} {s : xSt} {q : Bool × xSt} (h : m23 a0 s = some q) : HC V L Kc Ks 23 [.int a0] (hpC s, Q) (some (.int (b01 q.1))) (hpC q.2, Q) := by
  unfold m23 at h
  refine hc_of (by decide) rfl ?_
  refine h_it 2 (x' := (3, [(0, .int a0)], [.int 12, .int a0], (hpC s, Q))) rfl ?_
  refine h_br (b := decide (a0 = 12)) (t := 18) (f := 6) (lv' := [(0, .int a0)]) (st' := []) rfl rfl ?_
  by_cases h1 : a0 = 12
  · replace h := if_y h1 h
    refine h_y h1 ?_
    replace h := Option.some.inj h; subst h
    refine h_it 2 (x' := (23, [(0, .int a0)], [.int (b01 true)], (hpC s, Q))) rfl ?_
    exact h_zret rfl rfl
  · replace h := if_n h1 h
    refine h_n h1 ?_
    refine h_it 2 (x' := (9, [(0, .int a0)], [.int 13, .int a0], (hpC s, Q))) rfl ?_
    refine h_br (b := decide (a0 = 13)) (t := 18) (f := 12) (lv' := [(0, .int a0)]) (st' := []) rfl rfl ?_
    by_cases h2 : a0 = 13
    · replace h := if_y h2 h
      refine h_y h2 ?_
      replace h := Option.some.inj h; subst h
      refine h_it 2 (x' := (23, [(0, .int a0)], [.int (b01 true)], (hpC s, Q))) rfl ?_
      exact h_zret rfl rfl
    · replace h := if_n h2 h
      refine h_n h2 ?_
      refine h_it 2 (x' := (15, [(0, .int a0)], [.int 18, .int a0], (hpC s, Q))) rfl ?_
      refine h_br (b := decide (¬ a0 = 18)) (t := 22) (f := 18) (lv' := [(0, .int a0)]) (st' := []) rfl rfl ?_
      by_cases h3 : a0 = 18
      · replace h := if_y h3 h
        refine h_n (fun z => z h3) ?_
        replace h := Option.some.inj h; subst h
        refine h_it 2 (x' := (23, [(0, .int a0)], [.int (b01 true)], (hpC s, Q))) rfl ?_
        exact h_zret rfl rfl
      · replace h := if_n h3 h
        refine h_y h3 ?_
        replace h := Option.some.inj h; subst h
        refine h_it 1 (x' := (23, [(0, .int a0)], [.int (b01 false)], (hpC s, Q))) rfl ?_
        exact h_zret rfl rfl
end Sm23
section Sm67
variable {V : xmV} {L : List Nat} {Kc Ks : Nat} {Q : List xE}
theorem m67_okf (a1 : Int32) (s : xSt) : HC V L Kc Ks 67 [.ref (pa false), .int a1] (hpC s, Q) (some (.int (xsAt (gP s false 8) a1))) (hpC s, Q) := by
  refine hc_of (by decide) rfl ?_
  refine h_it 4 (x' := (8, [(0, .ref (pa false)), (1, .int a1)], [.int (xsAt (gP s false 8) a1)], (hpC s, Q))) rfl ?_
  exact h_iret rfl rfl
theorem m67_okt (a1 : Int32) (s : xSt) : HC V L Kc Ks 67 [.ref (pa true), .int a1] (hpC s, Q) (some (.int (xsAt (gP s true 8) a1))) (hpC s, Q) := by
  refine hc_of (by decide) rfl ?_
  refine h_it 4 (x' := (8, [(0, .ref (pa true)), (1, .int a1)], [.int (xsAt (gP s true 8) a1)], (hpC s, Q))) rfl ?_
  exact h_iret rfl rfl
theorem m67_ok (z0 : Bool) (a1 : Int32) (s : xSt) : HC V L Kc Ks 67 [.ref (pa z0), .int a1] (hpC s, Q) (some (.int (xsAt (gP s z0 8) a1))) (hpC s, Q) := by
  cases z0
  · exact m67_okf a1 s
  · exact m67_okt a1 s
end Sm67
section Sm128
variable {V : xmV} {L : List Nat} {Kc Ks : Nat} {Q : List xE}
theorem m128_57_ok   : ∀ (n : Nat) (x2 : Int32) (x3 : Int32) (x4 : Int32) (s : xSt) (q : xSt), m128_57  n x2 x3 x4 s = some q → HE V L Kc Ks 128 (57, [(0, .ref 65), (2, .int x2), (3, .int x3), (4, .int x4)], [], (hpC s, Q)) (none) (hpC q, Q) := by
  intro n
  induction n with
  | zero => intro x2 x3 x4 s q h; cases h
  | succ n ih =>
    intro x2 x3 x4 s q h
    unfold m128_57 at h
    refine h_it 4 (x' := (66, [(0, .ref 65), (2, .int x2), (3, .int x3), (4, .int x4)], [.int (nI ((gR s 10)).length), .int x4], (hpC s, Q))) rfl ?_
    refine h_br (b := decide ((nI ((gR s 10)).length) ≤ x4)) (t := 91) (f := 69) (lv' := [(0, .ref 65), (2, .int x2), (3, .int x3), (4, .int x4)]) (st' := []) rfl rfl ?_
    by_cases h1 : (nI ((gR s 10)).length) ≤ x4
    · replace h := if_y h1 h
      refine h_y h1 ?_
      refine h_it 12 (x' := (113, [(0, .ref 65), (2, .int x2), (3, .int x3), (4, .int x4)], [.int x2, .ref (pa (gZ s 6)), .ref 65], (hpC (sR (sR s 10 (xsCut (gR s 10) x3)) 9 (xsSetTop (gR s 9) (-1))), Q))) rfl ?_
      refine h_callO (As := [.int x2]) (r1 := some (.int ((xsAt (gP s (gZ s 6) 6) x2) + 1))) (st := [.ref 65]) (H1 := (hpC (sR (sR s 10 (xsCut (gR s 10) x3)) 9 (xsSetTop (gR s 9) (-1))), Q)) rfl rfl rfl rfl rfl hp_pa (m74_ok (gZ s 6) x2 (sR (sR s 10 (xsCut (gR s 10) x3)) 9 (xsSetTop (gR s 9) (-1)))) ?_
      replace h := Option.some.inj h; subst h
      refine h_it 1 (x' := (119, [(0, .ref 65), (2, .int x2), (3, .int x3), (4, .int x4)], [], (hpC (sI (sR (sR s 10 (xsCut (gR s 10) x3)) 9 (xsSetTop (gR s 9) (-1))) 13 ((xsAt (gP s (gZ s 6) 6) x2) + 1)), Q))) rfl ?_
      exact h_vret rfl rfl
    · replace h := if_n h1 h
      refine h_n h1 ?_
      refine h_it 9 (x' := (57, [(4, .int (x4 + 1)), (0, .ref 65), (2, .int x2), (3, .int x3)], [], (hpC (sR s 11 (xsPush 6001 (gR s 11) (xsAt (gR s 10) x4))), Q))) rfl ?_
      refine h_lw (lv := [(0, .ref 65), (2, .int x2), (3, .int x3), (4, .int (x4 + 1))]) (fa_c rfl (fa_c rfl (fa_c rfl (fa_c rfl (fa_n))))) rfl ?_
      exact ih x2 x3 (x4 + 1) (sR s 11 (xsPush 6001 (gR s 11) (xsAt (gR s 10) x4))) _ h
theorem m128_ok {a1 : Int32} {s : xSt} {q : xSt} (h : m128 a1 s = some q) : HC V L Kc Ks 128 [.ref 65, .int a1] (hpC s, Q) (none) (hpC q, Q) := by
  unfold m128 at h
  refine hc_of (by decide) rfl ?_
  refine h_it 3 (x' := (5, [(0, .ref 65), (1, .int a1)], [.int a1, .ref (pa (gZ s 6))], (hpC s, Q))) rfl ?_
  refine h_callO (As := [.int a1]) (r1 := some (.int (xsAt (gP s (gZ s 6) 2) a1))) (st := []) (H1 := (hpC s, Q)) rfl rfl rfl rfl rfl hp_pa (m55_ok (gZ s 6) a1 s) ?_
  refine h_it 7 (x' := (19, [(2, .int (xsAt (gP s (gZ s 6) 2) a1)), (0, .ref 65), (1, .int a1)], [.int a1, .ref (pa (gZ s 6)), .int (gI s 12), .ref 65], (hpC s, Q))) rfl ?_
  refine h_callO (As := [.int a1]) (r1 := some (.int (xsAt (gP s (gZ s 6) 3) a1))) (st := [.int (gI s 12), .ref 65]) (H1 := (hpC s, Q)) rfl rfl rfl rfl rfl hp_pa (m73_ok (gZ s 6) a1 s) ?_
  refine h_it 13 (x' := (49, [(2, .int (xsAt (gP s (gZ s 6) 2) a1)), (0, .ref 65), (1, .int a1)], [.int (xsAt (gP s (gZ s 6) 2) a1), .ref (pa (gZ s 6)), .int (nI ((gR s 10)).length)], (hpC (sR (sI s 12 ((gI s 12) + (xsAt (gP s (gZ s 6) 3) a1))) 11 (xsCut (gR s 11) ((gI s 12) + (xsAt (gP s (gZ s 6) 3) a1)))), Q))) rfl ?_
  refine h_callO (As := [.int (xsAt (gP s (gZ s 6) 2) a1)]) (r1 := some (.int (xsAt (gP s (gZ s 6) 8) (xsAt (gP s (gZ s 6) 2) a1)))) (st := [.int (nI ((gR s 10)).length)]) (H1 := (hpC (sR (sI s 12 ((gI s 12) + (xsAt (gP s (gZ s 6) 3) a1))) 11 (xsCut (gR s 11) ((gI s 12) + (xsAt (gP s (gZ s 6) 3) a1)))), Q)) rfl rfl rfl rfl rfl hp_pa (m67_ok (gZ s 6) (xsAt (gP s (gZ s 6) 2) a1) (sR (sI s 12 ((gI s 12) + (xsAt (gP s (gZ s 6) 3) a1))) 11 (xsCut (gR s 11) ((gI s 12) + (xsAt (gP s (gZ s 6) 3) a1))))) ?_
  refine h_it 4 (x' := (57, [(4, .int ((nI ((gR s 10)).length) - (xsAt (gP s (gZ s 6) 8) (xsAt (gP s (gZ s 6) 2) a1)))), (3, .int ((nI ((gR s 10)).length) - (xsAt (gP s (gZ s 6) 8) (xsAt (gP s (gZ s 6) 2) a1)))), (2, .int (xsAt (gP s (gZ s 6) 2) a1)), (0, .ref 65), (1, .int a1)], [], (hpC (sR (sI s 12 ((gI s 12) + (xsAt (gP s (gZ s 6) 3) a1))) 11 (xsCut (gR s 11) ((gI s 12) + (xsAt (gP s (gZ s 6) 3) a1)))), Q))) rfl ?_
  refine h_lw (lv := [(0, .ref 65), (2, .int (xsAt (gP s (gZ s 6) 2) a1)), (3, .int ((nI ((gR s 10)).length) - (xsAt (gP s (gZ s 6) 8) (xsAt (gP s (gZ s 6) 2) a1)))), (4, .int ((nI ((gR s 10)).length) - (xsAt (gP s (gZ s 6) 8) (xsAt (gP s (gZ s 6) 2) a1))))]) (fa_c rfl (fa_c rfl (fa_c rfl (fa_c rfl (fa_n))))) rfl ?_
  exact m128_57_ok  1000000 (xsAt (gP s (gZ s 6) 2) a1) ((nI ((gR s 10)).length) - (xsAt (gP s (gZ s 6) 8) (xsAt (gP s (gZ s 6) 2) a1))) ((nI ((gR s 10)).length) - (xsAt (gP s (gZ s 6) 8) (xsAt (gP s (gZ s 6) 2) a1))) (sR (sI s 12 ((gI s 12) + (xsAt (gP s (gZ s 6) 3) a1))) 11 (xsCut (gR s 11) ((gI s 12) + (xsAt (gP s (gZ s 6) 3) a1)))) _ h
end Sm128
section Sm129
variable {V : xmV} {L : List Nat} {Kc Ks : Nat} {Q : List xE}
theorem m129_ok {a0 : Int32} {a1 : Int32} {a2 : Int32} {s : xSt} {q : Int32 × xSt} (h : m129 a0 a1 a2 s = some q) : HC V L Kc Ks 129 [.int a0, .int a1, .int a2] (hpC s, Q) (some (.int q.1)) (hpC q.2, Q) := by
  unfold m129 at h
  refine hc_of (by decide) rfl ?_
  refine h_it 1 (x' := (1, [(0, .int a0), (1, .int a1), (2, .int a2)], [.int a0], (hpC s, Q))) rfl ?_
  by_cases h1 : a0 = 1
  · replace h := if_y h1 h
    refine h_ts (t := 40) rfl (by rw [h1]; decide) ?_
    replace h := Option.some.inj h; subst h
    refine h_it 3 (x' := (43, [(0, .int a0), (1, .int a1), (2, .int a2)], [.int (a1 + a2)], (hpC s, Q))) rfl ?_
    exact h_iret rfl rfl
  replace h := if_n h1 h
  by_cases h2 : a0 = 2
  · replace h := if_y h2 h
    refine h_ts (t := 44) rfl (by rw [h2]; decide) ?_
    replace h := Option.some.inj h; subst h
    refine h_it 3 (x' := (47, [(0, .int a0), (1, .int a1), (2, .int a2)], [.int (a1 - a2)], (hpC s, Q))) rfl ?_
    exact h_iret rfl rfl
  replace h := if_n h2 h
  by_cases h3 : a0 = 3
  · replace h := if_y h3 h
    refine h_ts (t := 48) rfl (by rw [h3]; decide) ?_
    replace h := Option.some.inj h; subst h
    refine h_it 3 (x' := (51, [(0, .int a0), (1, .int a1), (2, .int a2)], [.int (a1 * a2)], (hpC s, Q))) rfl ?_
    exact h_iret rfl rfl
  replace h := if_n h3 h
  by_cases h4 : a0 = 4
  · replace h := if_y h4 h
    refine h_ts (t := 52) rfl (by rw [h4]; decide) ?_
    refine h_it 1 (x' := (53, [(0, .int a0), (1, .int a1), (2, .int a2)], [.int a2], (hpC s, Q))) rfl ?_
    refine h_br (b := decide (¬ a2 = 0)) (t := 60) (f := 56) (lv' := [(0, .int a0), (1, .int a1), (2, .int a2)]) (st' := []) rfl rfl ?_
    by_cases h5 : a2 = 0
    · replace h := if_y h5 h
      refine h_n (fun z => z h5) ?_
      replace h := Option.some.inj h; subst h
      refine h_it 2 (x' := (63, [(0, .int a0), (1, .int a1), (2, .int a2)], [.int 0], (hpC s, Q))) rfl ?_
      exact h_iret rfl rfl
    · replace h := if_n h5 h
      refine h_y h5 ?_
      refine h_it 2 (x' := (62, [(0, .int a0), (1, .int a1), (2, .int a2)], [.int a2, .int a1], (hpC s, Q))) rfl ?_
      by_cases h6 : a2 = 0
      · replace h := if_y h6 h
        cases h
      replace h := if_n h6 h
      refine h_div rfl h6 ?_
      replace h := Option.some.inj h; subst h
      exact h_iret rfl rfl
  replace h := if_n h4 h
  by_cases h7 : a0 = 5
  · replace h := if_y h7 h
    refine h_ts (t := 64) rfl (by rw [h7]; decide) ?_
    refine h_it 1 (x' := (65, [(0, .int a0), (1, .int a1), (2, .int a2)], [.int a2], (hpC s, Q))) rfl ?_
    refine h_br (b := decide (¬ a2 = 0)) (t := 72) (f := 68) (lv' := [(0, .int a0), (1, .int a1), (2, .int a2)]) (st' := []) rfl rfl ?_
    by_cases h8 : a2 = 0
    · replace h := if_y h8 h
      refine h_n (fun z => z h8) ?_
      replace h := Option.some.inj h; subst h
      refine h_it 2 (x' := (75, [(0, .int a0), (1, .int a1), (2, .int a2)], [.int a1], (hpC s, Q))) rfl ?_
      exact h_iret rfl rfl
    · replace h := if_n h8 h
      refine h_y h8 ?_
      refine h_it 2 (x' := (74, [(0, .int a0), (1, .int a1), (2, .int a2)], [.int a2, .int a1], (hpC s, Q))) rfl ?_
      by_cases h9 : a2 = 0
      · replace h := if_y h9 h
        cases h
      replace h := if_n h9 h
      refine h_rem rfl h9 ?_
      replace h := Option.some.inj h; subst h
      exact h_iret rfl rfl
  replace h := if_n h7 h
  by_cases h10 : a0 = 6
  · replace h := if_y h10 h
    refine h_ts (t := 76) rfl (by rw [h10]; decide) ?_
    refine h_it 2 (x' := (78, [(0, .int a0), (1, .int a1), (2, .int a2)], [.int a2, .int a1], (hpC s, Q))) rfl ?_
    refine h_br (b := decide (a2 ≤ a1)) (t := 85) (f := 81) (lv' := [(0, .int a0), (1, .int a1), (2, .int a2)]) (st' := []) rfl rfl ?_
    by_cases h11 : a2 ≤ a1
    · replace h := if_y h11 h
      refine h_y h11 ?_
      replace h := Option.some.inj h; subst h
      refine h_it 1 (x' := (86, [(0, .int a0), (1, .int a1), (2, .int a2)], [.int 0], (hpC s, Q))) rfl ?_
      exact h_iret rfl rfl
    · replace h := if_n h11 h
      refine h_n h11 ?_
      replace h := Option.some.inj h; subst h
      refine h_it 2 (x' := (86, [(0, .int a0), (1, .int a1), (2, .int a2)], [.int 1], (hpC s, Q))) rfl ?_
      exact h_iret rfl rfl
  replace h := if_n h10 h
  refine h_ts (t := 87) rfl (ts_d [1, 2, 3, 4, 5, 6] rfl (by decide) (fun v hv => by
      simp only [List.mem_cons, List.not_mem_nil, or_false] at hv
      rcases hv with rfl | rfl | rfl | rfl | rfl | rfl
      · exact h1
      · exact h2
      · exact h3
      · exact h4
      · exact h7
      · exact h10)) ?_
  refine h_it 2 (x' := (89, [(0, .int a0), (1, .int a1), (2, .int a2)], [.int a2, .int a1], (hpC s, Q))) rfl ?_
  refine h_br (b := decide (¬ a1 = a2)) (t := 96) (f := 92) (lv' := [(0, .int a0), (1, .int a1), (2, .int a2)]) (st' := []) rfl rfl ?_
  by_cases h12 : a1 = a2
  · replace h := if_y h12 h
    refine h_n (fun z => z h12) ?_
    replace h := Option.some.inj h; subst h
    refine h_it 2 (x' := (97, [(0, .int a0), (1, .int a1), (2, .int a2)], [.int 1], (hpC s, Q))) rfl ?_
    exact h_iret rfl rfl
  · replace h := if_n h12 h
    refine h_y h12 ?_
    replace h := Option.some.inj h; subst h
    refine h_it 1 (x' := (97, [(0, .int a0), (1, .int a1), (2, .int a2)], [.int 0], (hpC s, Q))) rfl ?_
    exact h_iret rfl rfl
end Sm129
section Sm127
variable {V : xmV} {L : List Nat} {Kc Ks : Nat} {Q : List xE}
theorem m127_ok {a1 : Int32} {s : xSt} {q : xSt} (h : m127 a1 s = some q) : HC V L Kc Ks 127 [.ref 65, .int a1] (hpC s, Q) (none) (hpC q, Q) := by
  unfold m127 at h
  refine hc_of (by decide) rfl ?_
  refine h_it 3 (x' := (5, [(0, .ref 65), (1, .int a1)], [.int a1, .ref (pa (gZ s 6))], (hpC s, Q))) rfl ?_
  refine h_callO (As := [.int a1]) (r1 := some (.int (xsAt (gP s (gZ s 6) 0) a1))) (st := []) (H1 := (hpC s, Q)) rfl rfl rfl rfl rfl hp_pa (m54_ok (gZ s 6) a1 s) ?_
  refine h_it 2 (x' := (10, [(2, .int (xsAt (gP s (gZ s 6) 0) a1)), (0, .ref 65), (1, .int a1)], [.int (xsAt (gP s (gZ s 6) 0) a1)], (hpC s, Q))) rfl ?_
  obtain ⟨q1, hq1, h⟩ := Option.bind_eq_some_iff.mp h
  refine h_callS (av := [.int (xsAt (gP s (gZ s 6) 0) a1)]) (r1 := some (.int (b01 q1.1))) (st := []) (H1 := (hpC q1.2, Q)) rfl rfl rfl rfl rfl (m23_ok hq1) ?_
  refine h_br (b := decide ((b01 q1.1) = 0)) (t := 22) (f := 16) (lv' := [(2, .int (xsAt (gP s (gZ s 6) 0) a1)), (0, .ref 65), (1, .int a1)]) (st' := []) rfl rfl ?_
  by_cases h2 : q1.1 = true
  · replace h := if_y h2 h
    refine h_n (b01_1 h2) ?_
    refine h_it 2 (x' := (18, [(2, .int (xsAt (gP s (gZ s 6) 0) a1)), (0, .ref 65), (1, .int a1)], [.int a1, .ref 65], (hpC q1.2, Q))) rfl ?_
    obtain ⟨q3, hq3, h⟩ := Option.bind_eq_some_iff.mp h
    refine h_callO (As := [.int a1]) (r1 := none) (st := []) (H1 := (hpC q3, Q)) rfl rfl rfl rfl rfl rfl (m128_ok hq3) ?_
    replace h := Option.some.inj h; subst h
    exact h_vret rfl rfl
  · replace h := if_n h2 h
    refine h_y (b01_0 h2) ?_
    refine h_it 1 (x' := (23, [(2, .int (xsAt (gP s (gZ s 6) 0) a1)), (0, .ref 65), (1, .int a1)], [.ref 65], (hpC q1.2, Q))) rfl ?_
    refine h_callO (As := []) (r1 := none) (st := []) (H1 := (hpC (sR (sR q1.2 8 ((gR q1.2 8)).dropLast) 9 ((gR q1.2 9)).dropLast), Q)) rfl rfl rfl rfl rfl rfl (m125_ok  q1.2) ?_
    refine h_it 12 (x' := (50, [(4, .int (xsTop ((gR q1.2 10)).dropLast)), (3, .int (xsTop (gR q1.2 10))), (2, .int (xsAt (gP s (gZ s 6) 0) a1)), (0, .ref 65), (1, .int a1)], [.int 11, .int (xsAt (gP s (gZ s 6) 0) a1), .ref 70], (hpC (sR (sR (sR q1.2 8 ((gR q1.2 8)).dropLast) 9 ((gR q1.2 9)).dropLast) 10 (((gR q1.2 10)).dropLast).dropLast), Q))) rfl ?_
    refine h_br (b := decide (¬ (xsAt (gP s (gZ s 6) 0) a1) = 11)) (t := 63) (f := 53) (lv' := [(4, .int (xsTop ((gR q1.2 10)).dropLast)), (3, .int (xsTop (gR q1.2 10))), (2, .int (xsAt (gP s (gZ s 6) 0) a1)), (0, .ref 65), (1, .int a1)]) (st' := [.ref 70]) rfl rfl ?_
    by_cases h4 : (xsAt (gP s (gZ s 6) 0) a1) = 11
    · replace h := if_y h4 h
      refine h_n (fun z => z h4) ?_
      refine h_it 3 (x' := (57, [(4, .int (xsTop ((gR q1.2 10)).dropLast)), (3, .int (xsTop (gR q1.2 10))), (2, .int (xsAt (gP s (gZ s 6) 0) a1)), (0, .ref 65), (1, .int a1)], [.int (xsTop (gR q1.2 10)), .int (xsTop ((gR q1.2 10)).dropLast), .ref 65, .ref 70], (hpC (sR (sR (sR q1.2 8 ((gR q1.2 8)).dropLast) 9 ((gR q1.2 9)).dropLast) 10 (((gR q1.2 10)).dropLast).dropLast), Q))) rfl ?_
      refine h_callO (As := [.int (xsTop ((gR q1.2 10)).dropLast), .int (xsTop (gR q1.2 10))]) (r1 := some (.int ((nI ((xsPush 2065 (gR q1.2 12) (xsTop ((gR q1.2 10)).dropLast))).length) - 1))) (st := [.ref 70]) (H1 := (hpC (sR (sR (sR (sR (sR q1.2 8 ((gR q1.2 8)).dropLast) 9 ((gR q1.2 9)).dropLast) 10 (((gR q1.2 10)).dropLast).dropLast) 12 (xsPush 2065 (gR q1.2 12) (xsTop ((gR q1.2 10)).dropLast))) 13 (xsPush 2065 (gR q1.2 13) (xsTop (gR q1.2 10)))), Q)) rfl rfl rfl rfl rfl rfl (m117_ok (xsTop ((gR q1.2 10)).dropLast) (xsTop (gR q1.2 10)) (sR (sR (sR q1.2 8 ((gR q1.2 8)).dropLast) 9 ((gR q1.2 9)).dropLast) 10 (((gR q1.2 10)).dropLast).dropLast)) ?_
      refine h_it 1 (x' := (70, [(4, .int (xsTop ((gR q1.2 10)).dropLast)), (3, .int (xsTop (gR q1.2 10))), (2, .int (xsAt (gP s (gZ s 6) 0) a1)), (0, .ref 65), (1, .int a1)], [.int ((nI ((xsPush 2065 (gR q1.2 12) (xsTop ((gR q1.2 10)).dropLast))).length) - 1), .ref 70], (hpC (sR (sR (sR (sR (sR q1.2 8 ((gR q1.2 8)).dropLast) 9 ((gR q1.2 9)).dropLast) 10 (((gR q1.2 10)).dropLast).dropLast) 12 (xsPush 2065 (gR q1.2 12) (xsTop ((gR q1.2 10)).dropLast))) 13 (xsPush 2065 (gR q1.2 13) (xsTop (gR q1.2 10)))), Q))) rfl ?_
      refine (show ∀ w : xSt, HE V L Kc Ks 127 (73, [(4, .int (xsTop ((gR q1.2 10)).dropLast)), (3, .int (xsTop (gR q1.2 10))), (2, .int (xsAt (gP s (gZ s 6) 0) a1)), (0, .ref 65), (1, .int a1)], [], (hpC (sR w 10 (xsPush 6001 (gR w 10) ((nI ((xsPush 2065 (gR q1.2 12) (xsTop ((gR q1.2 10)).dropLast))).length) - 1))), Q)) _ _ → HE V L Kc Ks 127 (70, [(4, .int (xsTop ((gR q1.2 10)).dropLast)), (3, .int (xsTop (gR q1.2 10))), (2, .int (xsAt (gP s (gZ s 6) 0) a1)), (0, .ref 65), (1, .int a1)], [.int ((nI ((xsPush 2065 (gR q1.2 12) (xsTop ((gR q1.2 10)).dropLast))).length) - 1), .ref 70], (hpC w, Q)) _ _ from fun w e => h_it 1 rfl e) (sR (sR (sR (sR (sR q1.2 8 ((gR q1.2 8)).dropLast) 9 ((gR q1.2 9)).dropLast) 10 (((gR q1.2 10)).dropLast).dropLast) 12 (xsPush 2065 (gR q1.2 12) (xsTop ((gR q1.2 10)).dropLast))) 13 (xsPush 2065 (gR q1.2 13) (xsTop (gR q1.2 10)))) ?_
      show HE V L Kc Ks 127 (73, [(4, .int (xsTop ((gR q1.2 10)).dropLast)), (3, .int (xsTop (gR q1.2 10))), (2, .int (xsAt (gP s (gZ s 6) 0) a1)), (0, .ref 65), (1, .int a1)], [], (hpC (sR (sR (sR (sR (sR (sR q1.2 8 ((gR q1.2 8)).dropLast) 9 ((gR q1.2 9)).dropLast) 10 (((gR q1.2 10)).dropLast).dropLast) 12 (xsPush 2065 (gR q1.2 12) (xsTop ((gR q1.2 10)).dropLast))) 13 (xsPush 2065 (gR q1.2 13) (xsTop (gR q1.2 10)))) 10 (xsPush 6001 (((gR q1.2 10)).dropLast).dropLast ((nI ((xsPush 2065 (gR q1.2 12) (xsTop ((gR q1.2 10)).dropLast))).length) - 1))), Q)) _ _
      replace h := Option.some.inj h; subst h
      exact h_vret rfl rfl
    · replace h := if_n h4 h
      refine h_y h4 ?_
      refine h_it 3 (x' := (67, [(4, .int (xsTop ((gR q1.2 10)).dropLast)), (3, .int (xsTop (gR q1.2 10))), (2, .int (xsAt (gP s (gZ s 6) 0) a1)), (0, .ref 65), (1, .int a1)], [.int (xsTop (gR q1.2 10)), .int (xsTop ((gR q1.2 10)).dropLast), .int (xsAt (gP s (gZ s 6) 0) a1), .ref 70], (hpC (sR (sR (sR q1.2 8 ((gR q1.2 8)).dropLast) 9 ((gR q1.2 9)).dropLast) 10 (((gR q1.2 10)).dropLast).dropLast), Q))) rfl ?_
      obtain ⟨q5, hq5, h⟩ := Option.bind_eq_some_iff.mp h
      refine h_callS (av := [.int (xsAt (gP s (gZ s 6) 0) a1), .int (xsTop ((gR q1.2 10)).dropLast), .int (xsTop (gR q1.2 10))]) (r1 := some (.int q5.1)) (st := [.ref 70]) (H1 := (hpC q5.2, Q)) rfl rfl rfl rfl rfl (m129_ok hq5) ?_
      replace h := Option.some.inj h; subst h
      refine h_it 1 (x' := (73, [(4, .int (xsTop ((gR q1.2 10)).dropLast)), (3, .int (xsTop (gR q1.2 10))), (2, .int (xsAt (gP s (gZ s 6) 0) a1)), (0, .ref 65), (1, .int a1)], [], (hpC (sR q5.2 10 (xsPush 6001 (gR q5.2 10) q5.1)), Q))) rfl ?_
      exact h_vret rfl rfl
end Sm127
section Sm121
variable {V : xmV} {L : List Nat} {Kc Ks : Nat} {Q : List xE}
theorem m121_ok  {s : xSt} {q : xSt} (h : m121  s = some q) : HC V L Kc Ks 121 [.ref 65] (hpC s, Q) (none) (hpC q, Q) := by
  unfold m121 at h
  refine hc_of (by decide) rfl ?_
  refine h_it 11 (x' := (21, [(2, .int (xsTop (gR s 9))), (1, .int (xsTop (gR s 8))), (0, .ref 65)], [.int (xsTop (gR s 8)), .ref (pa (gZ s 6))], (hpC s, Q))) rfl ?_
  refine h_callO (As := [.int (xsTop (gR s 8))]) (r1 := some (.int (xsAt (gP s (gZ s 6) 0) (xsTop (gR s 8))))) (st := []) (H1 := (hpC s, Q)) rfl rfl rfl rfl rfl hp_pa (m54_ok (gZ s 6) (xsTop (gR s 8)) s) ?_
  by_cases h1 : (xsAt (gP s (gZ s 6) 0) (xsTop (gR s 8))) = 8 ∨ (xsAt (gP s (gZ s 6) 0) (xsTop (gR s 8))) = 9 ∨ (xsAt (gP s (gZ s 6) 0) (xsTop (gR s 8))) = 10 ∨ (xsAt (gP s (gZ s 6) 0) (xsTop (gR s 8))) = 16
  · replace h := if_y h1 h
    refine h_ts (t := 80) rfl (by rcases h1 with e9 | e9 | e9 | e9 <;> rw [e9] <;> decide) ?_
    refine h_it 4 (x' := (84, [(2, .int (xsTop (gR s 9))), (1, .int (xsTop (gR s 8))), (0, .ref 65)], [.int ((xsTop (gR s 8)) + 1), .int (xsTop (gR s 9))], (hpC s, Q))) rfl ?_
    refine h_br (b := decide (¬ (xsTop (gR s 9)) = ((xsTop (gR s 8)) + 1))) (t := 95) (f := 87) (lv' := [(2, .int (xsTop (gR s 9))), (1, .int (xsTop (gR s 8))), (0, .ref 65)]) (st' := []) rfl rfl ?_
    by_cases h2 : (xsTop (gR s 9)) = ((xsTop (gR s 8)) + 1)
    · replace h := if_y h2 h
      refine h_n (fun z => z h2) ?_
      refine h_it 2 (x' := (89, [(2, .int (xsTop (gR s 9))), (1, .int (xsTop (gR s 8))), (0, .ref 65)], [.int (xsTop (gR s 9)), .ref 65], (hpC s, Q))) rfl ?_
      refine h_callO (As := [.int (xsTop (gR s 9))]) (r1 := none) (st := []) (H1 := (hpC (sI (sR s 9 (xsSetTop (gR s 9) (xsAt (gP s (gZ s 6) 4) (xsTop (gR s 9))))) 13 (xsTop (gR s 9))), Q)) rfl rfl rfl rfl rfl rfl (m122_ok (xsTop (gR s 9)) s) ?_
      replace h := Option.some.inj h; subst h
      refine h_it 1 (x' := (150, [(2, .int (xsTop (gR s 9))), (1, .int (xsTop (gR s 8))), (0, .ref 65)], [], (hpC (sI (sR s 9 (xsSetTop (gR s 9) (xsAt (gP s (gZ s 6) 4) (xsTop (gR s 9))))) 13 (xsTop (gR s 9))), Q))) rfl ?_
      exact h_vret rfl rfl
    · replace h := if_n h2 h
      refine h_y h2 ?_
      refine h_it 3 (x' := (98, [(2, .int (xsTop (gR s 9))), (1, .int (xsTop (gR s 8))), (0, .ref 65)], [.int (xsTop (gR s 9)), .int (xsTop (gR s 8)), .ref 65], (hpC s, Q))) rfl ?_
      obtain ⟨q3, hq3, h⟩ := Option.bind_eq_some_iff.mp h
      refine h_callO (As := [.int (xsTop (gR s 8)), .int (xsTop (gR s 9))]) (r1 := none) (st := []) (H1 := (hpC q3, Q)) rfl rfl rfl rfl rfl rfl (m123_ok hq3) ?_
      replace h := Option.some.inj h; subst h
      refine h_it 1 (x' := (150, [(2, .int (xsTop (gR s 9))), (1, .int (xsTop (gR s 8))), (0, .ref 65)], [], (hpC q3, Q))) rfl ?_
      exact h_vret rfl rfl
  replace h := if_n h1 h
  by_cases h4 : (xsAt (gP s (gZ s 6) 0) (xsTop (gR s 8))) = 14 ∨ (xsAt (gP s (gZ s 6) 0) (xsTop (gR s 8))) = 15 ∨ (xsAt (gP s (gZ s 6) 0) (xsTop (gR s 8))) = 17
  · replace h := if_y h4 h
    refine h_ts (t := 104) rfl (by rcases h4 with e9 | e9 | e9 <;> rw [e9] <;> decide) ?_
    refine h_it 2 (x' := (106, [(2, .int (xsTop (gR s 9))), (1, .int (xsTop (gR s 8))), (0, .ref 65)], [.int (xsTop (gR s 9)), .ref 65], (hpC s, Q))) rfl ?_
    refine h_callO (As := [.int (xsTop (gR s 9))]) (r1 := none) (st := []) (H1 := (hpC (sI (sR (sR s 8 ((gR s 8)).dropLast) 9 ((gR s 9)).dropLast) 13 (xsTop (gR s 9))), Q)) rfl rfl rfl rfl rfl rfl (m124_ok (xsTop (gR s 9)) s) ?_
    replace h := Option.some.inj h; subst h
    refine h_it 1 (x' := (150, [(2, .int (xsTop (gR s 9))), (1, .int (xsTop (gR s 8))), (0, .ref 65)], [], (hpC (sI (sR (sR s 8 ((gR s 8)).dropLast) 9 ((gR s 9)).dropLast) 13 (xsTop (gR s 9))), Q))) rfl ?_
    exact h_vret rfl rfl
  replace h := if_n h4 h
  refine h_ts (t := 112) rfl (ts_d [8, 9, 10, 16, 14, 15, 17] rfl (by decide) (fun v hv => by
      simp only [List.mem_cons, List.not_mem_nil, or_false] at hv
      rcases hv with rfl | rfl | rfl | rfl | rfl | rfl | rfl
      · exact (fun e9 => h1 (Or.inl e9))
      · exact (fun e9 => h1 (Or.inr (Or.inl e9)))
      · exact (fun e9 => h1 (Or.inr (Or.inr (Or.inl e9))))
      · exact (fun e9 => h1 (Or.inr (Or.inr (Or.inr (e9)))))
      · exact (fun e9 => h4 (Or.inl e9))
      · exact (fun e9 => h4 (Or.inr (Or.inl e9)))
      · exact (fun e9 => h4 (Or.inr (Or.inr (e9)))))) ?_
  refine h_it 2 (x' := (114, [(2, .int (xsTop (gR s 9))), (1, .int (xsTop (gR s 8))), (0, .ref 65)], [.int (-1), .int (xsTop (gR s 9))], (hpC s, Q))) rfl ?_
  refine h_br (b := decide (¬ (xsTop (gR s 9)) = (-1))) (t := 125) (f := 117) (lv' := [(2, .int (xsTop (gR s 9))), (1, .int (xsTop (gR s 8))), (0, .ref 65)]) (st' := []) rfl rfl ?_
  by_cases h5 : (xsTop (gR s 9)) = (-1)
  · replace h := if_y h5 h
    refine h_n (fun z => z h5) ?_
    refine h_it 2 (x' := (119, [(2, .int (xsTop (gR s 9))), (1, .int (xsTop (gR s 8))), (0, .ref 65)], [.int (xsTop (gR s 8)), .ref 65], (hpC s, Q))) rfl ?_
    refine h_callO (As := [.int (xsTop (gR s 8))]) (r1 := none) (st := []) (H1 := (hpC (sR (sR (sI s 12 ((gI s 12) - (xsAt (gP s (gZ s 6) 3) (xsTop (gR s 8))))) 8 ((gR s 8)).dropLast) 9 ((gR s 9)).dropLast), Q)) rfl rfl rfl rfl rfl rfl (m126_ok (xsTop (gR s 8)) s) ?_
    replace h := Option.some.inj h; subst h
    refine h_it 1 (x' := (150, [(2, .int (xsTop (gR s 9))), (1, .int (xsTop (gR s 8))), (0, .ref 65)], [], (hpC (sR (sR (sI s 12 ((gI s 12) - (xsAt (gP s (gZ s 6) 3) (xsTop (gR s 8))))) 8 ((gR s 8)).dropLast) 9 ((gR s 9)).dropLast), Q))) rfl ?_
    exact h_vret rfl rfl
  · replace h := if_n h5 h
    refine h_y h5 ?_
    refine h_it 4 (x' := (131, [(2, .int (xsTop (gR s 9))), (1, .int (xsTop (gR s 8))), (0, .ref 65)], [.int (xsTop (gR s 8)), .ref (pa (gZ s 6)), .int (xsTop (gR s 9))], (hpC s, Q))) rfl ?_
    refine h_callO (As := [.int (xsTop (gR s 8))]) (r1 := some (.int (xsAt (gP s (gZ s 6) 4) (xsTop (gR s 8))))) (st := [.int (xsTop (gR s 9))]) (H1 := (hpC s, Q)) rfl rfl rfl rfl rfl hp_pa (m72_ok (gZ s 6) (xsTop (gR s 8)) s) ?_
    refine h_br (b := decide ((xsAt (gP s (gZ s 6) 4) (xsTop (gR s 8))) ≤ (xsTop (gR s 9)))) (t := 145) (f := 137) (lv' := [(2, .int (xsTop (gR s 9))), (1, .int (xsTop (gR s 8))), (0, .ref 65)]) (st' := []) rfl rfl ?_
    by_cases h6 : (xsAt (gP s (gZ s 6) 4) (xsTop (gR s 8))) ≤ (xsTop (gR s 9))
    · replace h := if_y h6 h
      refine h_y h6 ?_
      refine h_it 2 (x' := (147, [(2, .int (xsTop (gR s 9))), (1, .int (xsTop (gR s 8))), (0, .ref 65)], [.int (xsTop (gR s 8)), .ref 65], (hpC s, Q))) rfl ?_
      obtain ⟨q7, hq7, h⟩ := Option.bind_eq_some_iff.mp h
      refine h_callO (As := [.int (xsTop (gR s 8))]) (r1 := none) (st := []) (H1 := (hpC q7, Q)) rfl rfl rfl rfl rfl rfl (m127_ok hq7) ?_
      replace h := Option.some.inj h; subst h
      exact h_vret rfl rfl
    · replace h := if_n h6 h
      refine h_n h6 ?_
      refine h_it 2 (x' := (139, [(2, .int (xsTop (gR s 9))), (1, .int (xsTop (gR s 8))), (0, .ref 65)], [.int (xsTop (gR s 9)), .ref 65], (hpC s, Q))) rfl ?_
      refine h_callO (As := [.int (xsTop (gR s 9))]) (r1 := none) (st := []) (H1 := (hpC (sI (sR s 9 (xsSetTop (gR s 9) (xsAt (gP s (gZ s 6) 4) (xsTop (gR s 9))))) 13 (xsTop (gR s 9))), Q)) rfl rfl rfl rfl rfl rfl (m122_ok (xsTop (gR s 9)) s) ?_
      replace h := Option.some.inj h; subst h
      refine h_it 1 (x' := (150, [(2, .int (xsTop (gR s 9))), (1, .int (xsTop (gR s 8))), (0, .ref 65)], [], (hpC (sI (sR s 9 (xsSetTop (gR s 9) (xsAt (gP s (gZ s 6) 4) (xsTop (gR s 9))))) 13 (xsTop (gR s 9))), Q))) rfl ?_
      exact h_vret rfl rfl
end Sm121
