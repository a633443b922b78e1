section Sm207
variable {V : xmV} {L : List Nat} {Kc Ks : Nat} {Q : List xE}
theorem m207_6_ok   : ∀ (n : Nat) (x1 : Int32) (x2 : Int32) (x3 : Int32) (s : xSt) (q : Int32 × xSt), m207_6  n x1 x2 x3 s = some q → HE V L Kc Ks 207 (6, [(0, .ref 85), (1, .int x1), (2, .int x2), (3, .int x3)], [], (Q, hpR s)) (some (.int q.1)) (Q, hpR q.2) := by
  intro n
  induction n with
  | zero => intro x1 x2 x3 s q h; cases h
  | succ n ih =>
    intro x1 x2 x3 s q h
    unfold m207_6 at h
    refine h_it 4 (x' := (14, [(0, .ref 85), (1, .int x1), (2, .int x2), (3, .int x3)], [.int (gI s 28), .int x3], (Q, hpR s))) rfl ?_
    refine h_br (b := decide ((gI s 28) ≤ x3)) (t := 57) (f := 17) (lv' := [(0, .ref 85), (1, .int x1), (2, .int x2), (3, .int x3)]) (st' := []) rfl rfl ?_
    by_cases h1 : (gI s 28) ≤ x3
    · replace h := if_y h1 h
      refine h_y h1 ?_
      replace h := Option.some.inj h; subst h
      refine h_it 1 (x' := (58, [(0, .ref 85), (1, .int x1), (2, .int x2), (3, .int x3)], [.int x2], (Q, hpR s))) rfl ?_
      exact h_iret rfl rfl
    · replace h := if_n h1 h
      refine h_n h1 ?_
      refine h_it 4 (x' := (25, [(0, .ref 85), (1, .int x1), (2, .int x2), (3, .int x3)], [.int x3, .ref 98], (Q, hpR s))) rfl ?_
      obtain ⟨v2, hv2, h⟩ := Option.bind_eq_some_iff.mp h
      refine h_iald rfl rfl hv2 ?_
      refine h_it 1 (x' := (27, [(0, .ref 85), (1, .int x1), (2, .int x2), (3, .int x3)], [.int x1, .int v2], (Q, hpR s))) rfl ?_
      refine h_br (b := decide (v2 < x1)) (t := 57) (f := 30) (lv' := [(0, .ref 85), (1, .int x1), (2, .int x2), (3, .int x3)]) (st' := []) rfl rfl ?_
      by_cases h3 : v2 < x1
      · replace h := if_y h3 h
        refine h_y h3 ?_
        replace h := Option.some.inj h; subst h
        refine h_it 1 (x' := (58, [(0, .ref 85), (1, .int x1), (2, .int x2), (3, .int x3)], [.int x2], (Q, hpR s))) rfl ?_
        exact h_iret rfl rfl
      · replace h := if_n h3 h
        refine h_n h3 ?_
        refine h_it 5 (x' := (39, [(0, .ref 85), (1, .int x1), (2, .int x2), (3, .int x3)], [.int x3, .ref 98, .int x2], (Q, hpR s))) rfl ?_
        obtain ⟨v4, hv4, h⟩ := Option.bind_eq_some_iff.mp h
        refine h_iald rfl rfl hv4 ?_
        refine h_it 1 (x' := (41, [(0, .ref 85), (1, .int x1), (2, .int x2), (3, .int x3)], [.int x1, .int v4, .int x2], (Q, hpR s))) rfl ?_
        refine h_br (b := decide (¬ v4 = x1)) (t := 48) (f := 44) (lv' := [(0, .ref 85), (1, .int x1), (2, .int x2), (3, .int x3)]) (st' := [.int x2]) rfl rfl ?_
        by_cases h5 : v4 = x1
        · replace h := if_y h5 h
          refine h_n (fun z => z h5) ?_
          refine h_it 6 (x' := (6, [(3, .int (x3 + 1)), (2, .int (x2 + 1)), (0, .ref 85), (1, .int x1)], [], (Q, hpR s))) rfl ?_
          refine h_lw (lv := [(0, .ref 85), (1, .int x1), (2, .int (x2 + 1)), (3, .int (x3 + 1))]) (fa_c rfl (fa_c rfl (fa_c rfl (fa_c rfl (fa_n))))) rfl ?_
          exact ih x1 (x2 + 1) (x3 + 1) s _ h
        · replace h := if_n h5 h
          refine h_y h5 ?_
          refine h_it 5 (x' := (6, [(3, .int (x3 + 1)), (2, .int (x2 + 0)), (0, .ref 85), (1, .int x1)], [], (Q, hpR s))) rfl ?_
          refine h_lw (lv := [(0, .ref 85), (1, .int x1), (2, .int (x2 + 0)), (3, .int (x3 + 1))]) (fa_c rfl (fa_c rfl (fa_c rfl (fa_c rfl (fa_n))))) rfl ?_
          exact ih x1 (x2 + 0) (x3 + 1) s _ h
theorem m207_ok {a1 : Int32} {s : xSt} {q : Int32 × xSt} (h : m207 a1 s = some q) : HC V L Kc Ks 207 [.ref 85, .int a1] (Q, hpR s) (some (.int q.1)) (Q, hpR q.2) := by
  unfold m207 at h
  refine hc_of (by decide) rfl ?_
  refine h_it 6 (x' := (6, [(3, .int (a1 + 1)), (2, .int 0), (0, .ref 85), (1, .int a1)], [], (Q, hpR s))) rfl ?_
  refine h_lw (lv := [(0, .ref 85), (1, .int a1), (2, .int 0), (3, .int (a1 + 1))]) (fa_c rfl (fa_c rfl (fa_c rfl (fa_c rfl (fa_n))))) rfl ?_
  exact m207_6_ok  1000000 a1 0 (a1 + 1) s _ h
end Sm207
section Sm183
variable {V : xmV} {L : List Nat} {Kc Ks : Nat} {Q : List xE}
theorem m183_ok {a0 : Int32} {s : xSt} {q : Bool × xSt} (h : m183 a0 s = some q) : HC V L Kc Ks 183 [.int a0] (Q, hpR s) (some (.int (b01 q.1))) (Q, hpR q.2) := by
  unfold m183 at h
  refine hc_of (by decide) rfl ?_
  refine h_it 2 (x' := (2, [(0, .int a0)], [.int 1, .int a0], (Q, hpR s))) rfl ?_
  refine h_br (b := decide (a0 = 1)) (t := 41) (f := 5) (lv' := [(0, .int a0)]) (st' := []) rfl rfl ?_
  by_cases h1 : a0 = 1
  · replace h := if_y h1 h
    refine h_y h1 ?_
    replace h := Option.some.inj h; subst h
    refine h_it 2 (x' := (46, [(0, .int a0)], [.int (b01 true)], (Q, hpR s))) rfl ?_
    exact h_zret rfl rfl
  · replace h := if_n h1 h
    refine h_n h1 ?_
    refine h_it 2 (x' := (8, [(0, .int a0)], [.int 11, .int a0], (Q, hpR s))) rfl ?_
    refine h_br (b := decide (a0 = 11)) (t := 41) (f := 11) (lv' := [(0, .int a0)]) (st' := []) rfl rfl ?_
    by_cases h2 : a0 = 11
    · replace h := if_y h2 h
      refine h_y h2 ?_
      replace h := Option.some.inj h; subst h
      refine h_it 2 (x' := (46, [(0, .int a0)], [.int (b01 true)], (Q, hpR s))) rfl ?_
      exact h_zret rfl rfl
    · replace h := if_n h2 h
      refine h_n h2 ?_
      refine h_it 2 (x' := (14, [(0, .int a0)], [.int 12, .int a0], (Q, hpR s))) rfl ?_
      refine h_br (b := decide (a0 = 12)) (t := 41) (f := 17) (lv' := [(0, .int a0)]) (st' := []) rfl rfl ?_
      by_cases h3 : a0 = 12
      · replace h := if_y h3 h
        refine h_y h3 ?_
        replace h := Option.some.inj h; subst h
        refine h_it 2 (x' := (46, [(0, .int a0)], [.int (b01 true)], (Q, hpR s))) rfl ?_
        exact h_zret rfl rfl
      · replace h := if_n h3 h
        refine h_n h3 ?_
        refine h_it 2 (x' := (20, [(0, .int a0)], [.int 14, .int a0], (Q, hpR s))) rfl ?_
        refine h_br (b := decide (a0 = 14)) (t := 41) (f := 23) (lv' := [(0, .int a0)]) (st' := []) rfl rfl ?_
        by_cases h4 : a0 = 14
        · replace h := if_y h4 h
          refine h_y h4 ?_
          replace h := Option.some.inj h; subst h
          refine h_it 2 (x' := (46, [(0, .int a0)], [.int (b01 true)], (Q, hpR s))) rfl ?_
          exact h_zret rfl rfl
        · replace h := if_n h4 h
          refine h_n h4 ?_
          refine h_it 2 (x' := (26, [(0, .int a0)], [.int 15, .int a0], (Q, hpR s))) rfl ?_
          refine h_br (b := decide (a0 = 15)) (t := 41) (f := 29) (lv' := [(0, .int a0)]) (st' := []) rfl rfl ?_
          by_cases h5 : a0 = 15
          · replace h := if_y h5 h
            refine h_y h5 ?_
            replace h := Option.some.inj h; subst h
            refine h_it 2 (x' := (46, [(0, .int a0)], [.int (b01 true)], (Q, hpR s))) rfl ?_
            exact h_zret rfl rfl
          · replace h := if_n h5 h
            refine h_n h5 ?_
            refine h_it 2 (x' := (32, [(0, .int a0)], [.int 18, .int a0], (Q, hpR s))) rfl ?_
            refine h_br (b := decide (a0 = 18)) (t := 41) (f := 35) (lv' := [(0, .int a0)]) (st' := []) rfl rfl ?_
            by_cases h6 : a0 = 18
            · replace h := if_y h6 h
              refine h_y h6 ?_
              replace h := Option.some.inj h; subst h
              refine h_it 2 (x' := (46, [(0, .int a0)], [.int (b01 true)], (Q, hpR s))) rfl ?_
              exact h_zret rfl rfl
            · replace h := if_n h6 h
              refine h_n h6 ?_
              refine h_it 2 (x' := (38, [(0, .int a0)], [.int 21, .int a0], (Q, hpR s))) rfl ?_
              refine h_br (b := decide (a0 < 21)) (t := 45) (f := 41) (lv' := [(0, .int a0)]) (st' := []) rfl rfl ?_
              by_cases h7 : a0 < 21
              · replace h := if_y h7 h
                refine h_y h7 ?_
                replace h := Option.some.inj h; subst h
                refine h_it 1 (x' := (46, [(0, .int a0)], [.int (b01 false)], (Q, hpR s))) rfl ?_
                exact h_zret rfl rfl
              · replace h := if_n h7 h
                refine h_n h7 ?_
                replace h := Option.some.inj h; subst h
                refine h_it 2 (x' := (46, [(0, .int a0)], [.int (b01 true)], (Q, hpR s))) rfl ?_
                exact h_zret rfl rfl
end Sm183
section Sm182
variable {V : xmV} {L : List Nat} {Kc Ks : Nat} {Q : List xE}
theorem m182_77_ok   {x0 : Int32} {x5 : Int32} {y0 : Bool} {s : xSt} {q : Bool × xSt} (h : m182_77  x0 x5 y0 s = some q) : HE V L Kc Ks 182 (77, [(0, .int x0), (5, .int x5)], [.int (b01 y0)], (Q, hpR s)) (some (.int (b01 q.1))) (Q, hpR q.2) := by
  unfold m182_77 at h
  refine h_it 2 (x' := (81, [(6, .int (b01 y0)), (0, .int x0), (5, .int x5)], [.int (b01 y0)], (Q, hpR s))) rfl ?_
  refine h_br (b := decide ((b01 y0) = 0)) (t := 112) (f := 84) (lv' := [(6, .int (b01 y0)), (0, .int x0), (5, .int x5)]) (st' := []) rfl rfl ?_
  by_cases h6 : y0 = true
  · replace h := if_y h6 h
    refine h_n (b01_1 h6) ?_
    refine h_it 1 (x' := (85, [(6, .int (b01 y0)), (0, .int x0), (5, .int x5)], [.int x0], (Q, hpR s))) rfl ?_
    obtain ⟨q7, hq7, h⟩ := Option.bind_eq_some_iff.mp h
    refine h_callS (av := [.int x0]) (r1 := some (.int q7.1)) (st := []) (H1 := (Q, hpR q7.2)) rfl rfl rfl rfl rfl (m185_ok hq7) ?_
    refine h_br (b := decide (0 ≤ q7.1)) (t := 99) (f := 91) (lv' := [(6, .int (b01 y0)), (0, .int x0), (5, .int x5)]) (st' := []) rfl rfl ?_
    by_cases h8 : 0 ≤ q7.1
    · replace h := if_y h8 h
      refine h_y h8 ?_
      refine h_it 2 (x' := (102, [(6, .int (b01 y0)), (0, .int x0), (5, .int x5)], [.int x0, .int x5], (Q, hpR q7.2))) rfl ?_
      obtain ⟨q9, hq9, h⟩ := Option.bind_eq_some_iff.mp h
      refine h_callS (av := [.int x0]) (r1 := some (.int q9.1)) (st := [.int x5]) (H1 := (Q, hpR q9.2)) rfl rfl rfl rfl rfl (m185_ok hq9) ?_
      refine h_br (b := decide (¬ x5 = q9.1)) (t := 112) (f := 108) (lv' := [(6, .int (b01 y0)), (0, .int x0), (5, .int x5)]) (st' := []) rfl rfl ?_
      by_cases h10 : x5 = q9.1
      · replace h := if_y h10 h
        refine h_n (fun z => z h10) ?_
        replace h := Option.some.inj h; subst h
        refine h_it 2 (x' := (113, [(6, .int (b01 y0)), (0, .int x0), (5, .int x5)], [.int (b01 true)], (Q, hpR q9.2))) rfl ?_
        exact h_zret rfl rfl
      · replace h := if_n h10 h
        refine h_y h10 ?_
        replace h := Option.some.inj h; subst h
        refine h_it 1 (x' := (113, [(6, .int (b01 y0)), (0, .int x0), (5, .int x5)], [.int (b01 false)], (Q, hpR q9.2))) rfl ?_
        exact h_zret rfl rfl
    · replace h := if_n h8 h
      refine h_n h8 ?_
      refine h_it 1 (x' := (93, [(6, .int (b01 y0)), (0, .int x0), (5, .int x5)], [.int x5], (Q, hpR q7.2))) rfl ?_
      refine h_br (b := decide (x5 < 0)) (t := 112) (f := 96) (lv' := [(6, .int (b01 y0)), (0, .int x0), (5, .int x5)]) (st' := []) rfl rfl ?_
      by_cases h11 : x5 < 0
      · replace h := if_y h11 h
        refine h_y h11 ?_
        replace h := Option.some.inj h; subst h
        refine h_it 1 (x' := (113, [(6, .int (b01 y0)), (0, .int x0), (5, .int x5)], [.int (b01 false)], (Q, hpR q7.2))) rfl ?_
        exact h_zret rfl rfl
      · replace h := if_n h11 h
        refine h_n h11 ?_
        replace h := Option.some.inj h; subst h
        refine h_it 3 (x' := (113, [(6, .int (b01 y0)), (0, .int x0), (5, .int x5)], [.int (b01 true)], (Q, hpR q7.2))) rfl ?_
        exact h_zret rfl rfl
  · replace h := if_n h6 h
    refine h_y (b01_0 h6) ?_
    replace h := Option.some.inj h; subst h
    refine h_it 1 (x' := (113, [(6, .int (b01 y0)), (0, .int x0), (5, .int x5)], [.int (b01 false)], (Q, hpR s))) rfl ?_
    exact h_zret rfl rfl
theorem m182_76_ok   {x0 : Int32} {x5 : Int32} {s : xSt} {q : Bool × xSt} (h : m182_76  x0 x5 s = some q) : HE V L Kc Ks 182 (76, [(0, .int x0), (5, .int x5)], [], (Q, hpR s)) (some (.int (b01 q.1))) (Q, hpR q.2) := by
  unfold m182_76 at h
  refine h_it 1 (x' := (77, [(0, .int x0), (5, .int x5)], [.int 0], (Q, hpR s))) rfl ?_
  refine h_lw (lv := [(0, .int x0), (5, .int x5)]) (fa_c rfl (fa_c rfl (fa_n))) rfl ?_
  exact m182_77_ok  h
theorem m182_72_ok   {x0 : Int32} {x5 : Int32} {s : xSt} {q : Bool × xSt} (h : m182_72  x0 x5 s = some q) : HE V L Kc Ks 182 (72, [(0, .int x0), (5, .int x5)], [], (Q, hpR s)) (some (.int (b01 q.1))) (Q, hpR q.2) := by
  unfold m182_72 at h
  refine h_it 2 (x' := (77, [(0, .int x0), (5, .int x5)], [.int 1], (Q, hpR s))) rfl ?_
  refine h_lw (lv := [(0, .int x0), (5, .int x5)]) (fa_c rfl (fa_c rfl (fa_n))) rfl ?_
  exact m182_77_ok  h
theorem m182_44_ok   {x0 : Int32} {x1 : Int64} {x3 : Int64} {x5 : Int32} {s : xSt} {q : Bool × xSt} (h : m182_44  x0 x1 x3 x5 s = some q) : HE V L Kc Ks 182 (44, [(0, .int x0), (1, .long x1), (3, .long x3), (5, .int x5)], [], (Q, hpR s)) (some (.int (b01 q.1))) (Q, hpR q.2) := by
  unfold m182_44 at h
  refine h_it 1 (x' := (45, [(0, .int x0), (1, .long x1), (3, .long x3), (5, .int x5)], [.int x0], (Q, hpR s))) rfl ?_
  obtain ⟨q12, hq12, h⟩ := Option.bind_eq_some_iff.mp h
  refine h_callS (av := [.int x0]) (r1 := some (.int (b01 q12.1))) (st := []) (H1 := (Q, hpR q12.2)) rfl rfl rfl rfl rfl (m184_ok hq12) ?_
  refine h_br (b := decide ((b01 q12.1) = 0)) (t := 66) (f := 51) (lv' := [(0, .int x0), (1, .long x1), (3, .long x3), (5, .int x5)]) (st' := []) rfl rfl ?_
  by_cases h13 : q12.1 = true
  · replace h := if_y h13 h
    refine h_n (b01_1 h13) ?_
    refine h_it 3 (x' := (54, [(0, .int x0), (1, .long x1), (3, .long x3), (5, .int x5)], [.int (lg_cmp x3 0)], (Q, hpR q12.2))) rfl ?_
    refine h_br (b := decide ((lg_cmp x3 0) ≤ 0)) (t := 76) (f := 57) (lv' := [(0, .int x0), (1, .long x1), (3, .long x3), (5, .int x5)]) (st' := []) rfl rfl ?_
    by_cases h14 : (lg_cmp x3 0) ≤ 0
    · replace h := if_y h14 h
      refine h_y h14 ?_
      refine h_lw (lv := [(0, .int x0), (5, .int x5)]) (fa_c rfl (fa_c rfl (fa_n))) rfl ?_
      exact m182_76_ok  h
    · replace h := if_n h14 h
      refine h_n h14 ?_
      refine h_it 3 (x' := (60, [(0, .int x0), (1, .long x1), (3, .long x3), (5, .int x5)], [.int (lg_cmp x3 x1)], (Q, hpR q12.2))) rfl ?_
      refine h_br (b := decide ((lg_cmp x3 x1) = 0)) (t := 76) (f := 63) (lv' := [(0, .int x0), (1, .long x1), (3, .long x3), (5, .int x5)]) (st' := []) rfl rfl ?_
      by_cases h15 : (lg_cmp x3 x1) = 0
      · replace h := if_y h15 h
        refine h_y h15 ?_
        refine h_lw (lv := [(0, .int x0), (5, .int x5)]) (fa_c rfl (fa_c rfl (fa_n))) rfl ?_
        exact m182_76_ok  h
      · replace h := if_n h15 h
        refine h_n h15 ?_
        refine h_it 1 (x' := (72, [(0, .int x0), (1, .long x1), (3, .long x3), (5, .int x5)], [], (Q, hpR q12.2))) rfl ?_
        refine h_lw (lv := [(0, .int x0), (5, .int x5)]) (fa_c rfl (fa_c rfl (fa_n))) rfl ?_
        exact m182_72_ok  h
  · replace h := if_n h13 h
    refine h_y (b01_0 h13) ?_
    refine h_it 3 (x' := (69, [(0, .int x0), (1, .long x1), (3, .long x3), (5, .int x5)], [.int (lg_cmp x3 0)], (Q, hpR q12.2))) rfl ?_
    refine h_br (b := decide (¬ (lg_cmp x3 0) = 0)) (t := 76) (f := 72) (lv' := [(0, .int x0), (1, .long x1), (3, .long x3), (5, .int x5)]) (st' := []) rfl rfl ?_
    by_cases h16 : (lg_cmp x3 0) = 0
    · replace h := if_y h16 h
      refine h_n (fun z => z h16) ?_
      refine h_lw (lv := [(0, .int x0), (5, .int x5)]) (fa_c rfl (fa_c rfl (fa_n))) rfl ?_
      exact m182_72_ok  h
    · replace h := if_n h16 h
      refine h_y h16 ?_
      refine h_lw (lv := [(0, .int x0), (5, .int x5)]) (fa_c rfl (fa_c rfl (fa_n))) rfl ?_
      exact m182_76_ok  h
theorem m182_15_ok   {x0 : Int32} {x1 : Int64} {x3 : Int64} {x5 : Int32} {y0 : Bool} {s : xSt} {q : Bool × xSt} (h : m182_15  x0 x1 x3 x5 y0 s = some q) : HE V L Kc Ks 182 (15, [(0, .int x0), (1, .long x1), (3, .long x3), (5, .int x5)], [.int (b01 y0)], (Q, hpR s)) (some (.int (b01 q.1))) (Q, hpR q.2) := by
  unfold m182_15 at h
  refine h_it 2 (x' := (19, [(6, .int (b01 y0)), (0, .int x0), (1, .long x1), (3, .long x3), (5, .int x5)], [.int (b01 y0)], (Q, hpR s))) rfl ?_
  refine h_br (b := decide ((b01 y0) = 0)) (t := 76) (f := 22) (lv' := [(6, .int (b01 y0)), (0, .int x0), (1, .long x1), (3, .long x3), (5, .int x5)]) (st' := []) rfl rfl ?_
  by_cases h2 : y0 = true
  · replace h := if_y h2 h
    refine h_n (b01_1 h2) ?_
    refine h_it 1 (x' := (23, [(6, .int (b01 y0)), (0, .int x0), (1, .long x1), (3, .long x3), (5, .int x5)], [.int x0], (Q, hpR s))) rfl ?_
    obtain ⟨q3, hq3, h⟩ := Option.bind_eq_some_iff.mp h
    refine h_callS (av := [.int x0]) (r1 := some (.int (b01 q3.1))) (st := []) (H1 := (Q, hpR q3.2)) rfl rfl rfl rfl rfl (m183_ok hq3) ?_
    refine h_br (b := decide ((b01 q3.1) = 0)) (t := 38) (f := 29) (lv' := [(6, .int (b01 y0)), (0, .int x0), (1, .long x1), (3, .long x3), (5, .int x5)]) (st' := []) rfl rfl ?_
    by_cases h4 : q3.1 = true
    · replace h := if_y h4 h
      refine h_n (b01_1 h4) ?_
      refine h_it 3 (x' := (32, [(6, .int (b01 y0)), (0, .int x0), (1, .long x1), (3, .long x3), (5, .int x5)], [.int (lg_cmp x1 0)], (Q, hpR q3.2))) rfl ?_
      refine h_br (b := decide ((lg_cmp x1 0) ≤ 0)) (t := 76) (f := 35) (lv' := [(6, .int (b01 y0)), (0, .int x0), (1, .long x1), (3, .long x3), (5, .int x5)]) (st' := []) rfl rfl ?_
      by_cases h5 : (lg_cmp x1 0) ≤ 0
      · replace h := if_y h5 h
        refine h_y h5 ?_
        refine h_lw (lv := [(0, .int x0), (5, .int x5)]) (fa_c rfl (fa_c rfl (fa_n))) rfl ?_
        exact m182_76_ok  h
      · replace h := if_n h5 h
        refine h_n h5 ?_
        refine h_it 1 (x' := (44, [(6, .int (b01 y0)), (0, .int x0), (1, .long x1), (3, .long x3), (5, .int x5)], [], (Q, hpR q3.2))) rfl ?_
        refine h_lw (lv := [(0, .int x0), (1, .long x1), (3, .long x3), (5, .int x5)]) (fa_c rfl (fa_c rfl (fa_c rfl (fa_c rfl (fa_n))))) rfl ?_
        exact m182_44_ok  h
    · replace h := if_n h4 h
      refine h_y (b01_0 h4) ?_
      refine h_it 3 (x' := (41, [(6, .int (b01 y0)), (0, .int x0), (1, .long x1), (3, .long x3), (5, .int x5)], [.int (lg_cmp x1 0)], (Q, hpR q3.2))) rfl ?_
      refine h_br (b := decide (¬ (lg_cmp x1 0) = 0)) (t := 76) (f := 44) (lv' := [(6, .int (b01 y0)), (0, .int x0), (1, .long x1), (3, .long x3), (5, .int x5)]) (st' := []) rfl rfl ?_
      by_cases h17 : (lg_cmp x1 0) = 0
      · replace h := if_y h17 h
        refine h_n (fun z => z h17) ?_
        refine h_lw (lv := [(0, .int x0), (1, .long x1), (3, .long x3), (5, .int x5)]) (fa_c rfl (fa_c rfl (fa_c rfl (fa_c rfl (fa_n))))) rfl ?_
        exact m182_44_ok  h
      · replace h := if_n h17 h
        refine h_y h17 ?_
        refine h_lw (lv := [(0, .int x0), (5, .int x5)]) (fa_c rfl (fa_c rfl (fa_n))) rfl ?_
        exact m182_76_ok  h
  · replace h := if_n h2 h
    refine h_y (b01_0 h2) ?_
    refine h_lw (lv := [(0, .int x0), (5, .int x5)]) (fa_c rfl (fa_c rfl (fa_n))) rfl ?_
    exact m182_76_ok  h
theorem m182_14_ok   {x0 : Int32} {x1 : Int64} {x3 : Int64} {x5 : Int32} {s : xSt} {q : Bool × xSt} (h : m182_14  x0 x1 x3 x5 s = some q) : HE V L Kc Ks 182 (14, [(0, .int x0), (1, .long x1), (3, .long x3), (5, .int x5)], [], (Q, hpR s)) (some (.int (b01 q.1))) (Q, hpR q.2) := by
  unfold m182_14 at h
  refine h_it 1 (x' := (15, [(0, .int x0), (1, .long x1), (3, .long x3), (5, .int x5)], [.int 0], (Q, hpR s))) rfl ?_
  refine h_lw (lv := [(0, .int x0), (1, .long x1), (3, .long x3), (5, .int x5)]) (fa_c rfl (fa_c rfl (fa_c rfl (fa_c rfl (fa_n))))) rfl ?_
  exact m182_15_ok  h
theorem m182_ok {a0 : Int32} {l1 : Int64} {l2 : Int64} {a3 : Int32} {s : xSt} {q : Bool × xSt} (h : m182 a0 l1 l2 a3 s = some q) : HC V L Kc Ks 182 [.int a0, .long l1, .long l2, .int a3] (Q, hpR s) (some (.int (b01 q.1))) (Q, hpR q.2) := by
  unfold m182 at h
  refine hc_of (by decide) rfl ?_
  refine h_it 1 (x' := (1, [(0, .int a0), (1, .long l1), (3, .long l2), (5, .int a3)], [.int a0], (Q, hpR s))) rfl ?_
  refine h_br (b := decide (a0 < 0)) (t := 14) (f := 4) (lv' := [(0, .int a0), (1, .long l1), (3, .long l2), (5, .int a3)]) (st' := []) rfl rfl ?_
  by_cases h1 : a0 < 0
  · replace h := if_y h1 h
    refine h_y h1 ?_
    refine h_lw (lv := [(0, .int a0), (1, .long l1), (3, .long l2), (5, .int a3)]) (fa_c rfl (fa_c rfl (fa_c rfl (fa_c rfl (fa_n))))) rfl ?_
    exact m182_14_ok  h
  · replace h := if_n h1 h
    refine h_n h1 ?_
    refine h_it 2 (x' := (7, [(0, .int a0), (1, .long l1), (3, .long l2), (5, .int a3)], [.int 23, .int a0], (Q, hpR s))) rfl ?_
    refine h_br (b := decide (23 < a0)) (t := 14) (f := 10) (lv' := [(0, .int a0), (1, .long l1), (3, .long l2), (5, .int a3)]) (st' := []) rfl rfl ?_
    by_cases h18 : 23 < a0
    · replace h := if_y h18 h
      refine h_y h18 ?_
      refine h_lw (lv := [(0, .int a0), (1, .long l1), (3, .long l2), (5, .int a3)]) (fa_c rfl (fa_c rfl (fa_c rfl (fa_c rfl (fa_n))))) rfl ?_
      exact m182_14_ok  h
    · replace h := if_n h18 h
      refine h_n h18 ?_
      refine h_it 2 (x' := (15, [(0, .int a0), (1, .long l1), (3, .long l2), (5, .int a3)], [.int 1], (Q, hpR s))) rfl ?_
      refine h_lw (lv := [(0, .int a0), (1, .long l1), (3, .long l2), (5, .int a3)]) (fa_c rfl (fa_c rfl (fa_c rfl (fa_c rfl (fa_n))))) rfl ?_
      exact m182_15_ok  h
end Sm182
section Sm186
variable {V : xmV} {L : List Nat} {Kc Ks : Nat} {Q : List xE}
theorem m186_ok {a0 : Int32} {a1 : Int32} {s : xSt} {q : Bool × xSt} (h : m186 a0 a1 s = some q) : HC V L Kc Ks 186 [.int a0, .int a1] (Q, hpR s) (some (.int (b01 q.1))) (Q, hpR q.2) := by
  unfold m186 at h
  refine hc_of (by decide) rfl ?_
  refine h_it 2 (x' := (3, [(0, .int a0), (1, .int a1)], [.int 16, .int a0], (Q, hpR s))) rfl ?_
  refine h_br (b := decide (a0 = 16)) (t := 34) (f := 6) (lv' := [(0, .int a0), (1, .int a1)]) (st' := []) rfl rfl ?_
  by_cases h1 : a0 = 16
  · replace h := if_y h1 h
    refine h_y h1 ?_
    replace h := Option.some.inj h; subst h
    refine h_it 2 (x' := (39, [(0, .int a0), (1, .int a1)], [.int (b01 true)], (Q, hpR s))) rfl ?_
    exact h_zret rfl rfl
  · replace h := if_n h1 h
    refine h_n h1 ?_
    refine h_it 2 (x' := (9, [(0, .int a0), (1, .int a1)], [.int 17, .int a0], (Q, hpR s))) rfl ?_
    refine h_br (b := decide (a0 = 17)) (t := 34) (f := 12) (lv' := [(0, .int a0), (1, .int a1)]) (st' := []) rfl rfl ?_
    by_cases h2 : a0 = 17
    · replace h := if_y h2 h
      refine h_y h2 ?_
      replace h := Option.some.inj h; subst h
      refine h_it 2 (x' := (39, [(0, .int a0), (1, .int a1)], [.int (b01 true)], (Q, hpR s))) rfl ?_
      exact h_zret rfl rfl
    · replace h := if_n h2 h
      refine h_n h2 ?_
      refine h_it 1 (x' := (13, [(0, .int a0), (1, .int a1)], [.int a1], (Q, hpR s))) rfl ?_
      refine h_br (b := decide (a1 ≤ 0)) (t := 38) (f := 16) (lv' := [(0, .int a0), (1, .int a1)]) (st' := []) rfl rfl ?_
      by_cases h3 : a1 ≤ 0
      · replace h := if_y h3 h
        refine h_y h3 ?_
        replace h := Option.some.inj h; subst h
        refine h_it 1 (x' := (39, [(0, .int a0), (1, .int a1)], [.int (b01 false)], (Q, hpR s))) rfl ?_
        exact h_zret rfl rfl
      · replace h := if_n h3 h
        refine h_n h3 ?_
        refine h_it 2 (x' := (19, [(0, .int a0), (1, .int a1)], [.int 18, .int a0], (Q, hpR s))) rfl ?_
        refine h_br (b := decide (a0 = 18)) (t := 34) (f := 22) (lv' := [(0, .int a0), (1, .int a1)]) (st' := []) rfl rfl ?_
        by_cases h4 : a0 = 18
        · replace h := if_y h4 h
          refine h_y h4 ?_
          replace h := Option.some.inj h; subst h
          refine h_it 2 (x' := (39, [(0, .int a0), (1, .int a1)], [.int (b01 true)], (Q, hpR s))) rfl ?_
          exact h_zret rfl rfl
        · replace h := if_n h4 h
          refine h_n h4 ?_
          refine h_it 2 (x' := (25, [(0, .int a0), (1, .int a1)], [.int 20, .int a0], (Q, hpR s))) rfl ?_
          refine h_br (b := decide (a0 < 20)) (t := 38) (f := 28) (lv' := [(0, .int a0), (1, .int a1)]) (st' := []) rfl rfl ?_
          by_cases h5 : a0 < 20
          · replace h := if_y h5 h
            refine h_y h5 ?_
            replace h := Option.some.inj h; subst h
            refine h_it 1 (x' := (39, [(0, .int a0), (1, .int a1)], [.int (b01 false)], (Q, hpR s))) rfl ?_
            exact h_zret rfl rfl
          · replace h := if_n h5 h
            refine h_n h5 ?_
            refine h_it 2 (x' := (31, [(0, .int a0), (1, .int a1)], [.int 22, .int a0], (Q, hpR s))) rfl ?_
            refine h_br (b := decide (22 < a0)) (t := 38) (f := 34) (lv' := [(0, .int a0), (1, .int a1)]) (st' := []) rfl rfl ?_
            by_cases h6 : 22 < a0
            · replace h := if_y h6 h
              refine h_y h6 ?_
              replace h := Option.some.inj h; subst h
              refine h_it 1 (x' := (39, [(0, .int a0), (1, .int a1)], [.int (b01 false)], (Q, hpR s))) rfl ?_
              exact h_zret rfl rfl
            · replace h := if_n h6 h
              refine h_n h6 ?_
              replace h := Option.some.inj h; subst h
              refine h_it 2 (x' := (39, [(0, .int a0), (1, .int a1)], [.int (b01 true)], (Q, hpR s))) rfl ?_
              exact h_zret rfl rfl
end Sm186
section Sm181
variable {V : xmV} {L : List Nat} {Kc Ks : Nat} {Q : List xE}
theorem m181_216_ok   {x7 : Int32} {x9 : Int32} {x11 : Int32} {y0 : Int32} {y1 : Int32} {s : xSt} {q : Int32 × xSt} (h : m181_216  x7 x9 x11 y0 y1 s = some q) : HE V L Kc Ks 181 (216, [(0, .ref 108), (7, .int x7), (9, .int x9), (11, .int x11)], [.int y0, .int y1, .ref 121], (Q, hpR s)) (some (.int q.1)) (Q, hpR q.2) := by
  unfold m181_216 at h
  obtain ⟨u23, hu23, h⟩ := Option.bind_eq_some_iff.mp h
  refine h_iast rfl rfl hu23 ?_
  show HE V L Kc Ks 181 (217, [(0, .ref 108), (7, .int x7), (9, .int x9), (11, .int x11)], [], (Q, hpR (sR s 25 u23))) _ _
  refine h_it 4 (x' := (225, [(0, .ref 108), (7, .int x7), (9, .int x9), (11, .int x11)], [.int x7, .int x11, .ref 122], (Q, hpR (sR s 25 u23)))) rfl ?_
  obtain ⟨u24, hu24, h⟩ := Option.bind_eq_some_iff.mp h
  refine h_iast rfl rfl hu24 ?_
  show HE V L Kc Ks 181 (226, [(0, .ref 108), (7, .int x7), (9, .int x9), (11, .int x11)], [], (Q, hpR (sR (sR s 25 u23) 26 u24))) _ _
  refine h_it 4 (x' := (233, [(0, .ref 108), (7, .int x7), (9, .int x9), (11, .int x11)], [.int 0, .int x11, .ref 123], (Q, hpR (sR (sR s 25 u23) 26 u24)))) rfl ?_
  obtain ⟨u25, hu25, h⟩ := Option.bind_eq_some_iff.mp h
  refine h_iast rfl rfl hu25 ?_
  show HE V L Kc Ks 181 (234, [(0, .ref 108), (7, .int x7), (9, .int x9), (11, .int x11)], [], (Q, hpR (sR (sR (sR s 25 u23) 26 u24) 27 u25))) _ _
  refine h_it 1 (x' := (236, [(0, .ref 108), (7, .int x7), (9, .int x9), (11, .int x11)], [.int x9], (Q, hpR (sR (sR (sR s 25 u23) 26 u24) 27 u25)))) rfl ?_
  refine h_br (b := decide (x9 < 0)) (t := 250) (f := 239) (lv' := [(0, .ref 108), (7, .int x7), (9, .int x9), (11, .int x11)]) (st' := []) rfl rfl ?_
  by_cases h26 : x9 < 0
  · replace h := if_y h26 h
    refine h_y h26 ?_
    refine h_it 2 (x' := (252, [(0, .ref 108), (7, .int x7), (9, .int x9), (11, .int x11)], [.int (b01 false), .ref 108], (Q, hpR (sR (sR (sR s 25 u23) 26 u24) 27 u25)))) rfl ?_
    refine h_putZ (ty := .boolean) rfl rfl rfl ?_
    show HE V L Kc Ks 181 (255, [(0, .ref 108), (7, .int x7), (9, .int x9), (11, .int x11)], [], (Q, hpR (sZ (sR (sR (sR s 25 u23) 26 u24) 27 u25) 1 false))) _ _
    replace h := Option.some.inj h; subst h
    refine h_it 1 (x' := (257, [(0, .ref 108), (7, .int x7), (9, .int x9), (11, .int x11)], [.int x11], (Q, hpR (sZ (sR (sR (sR s 25 u23) 26 u24) 27 u25) 1 false)))) rfl ?_
    exact h_iret rfl rfl
  · replace h := if_n h26 h
    refine h_n h26 ?_
    refine h_it 4 (x' := (246, [(0, .ref 108), (7, .int x7), (9, .int x9), (11, .int x11)], [.int x9, .ref 123, .int x9, .ref 123], (Q, hpR (sR (sR (sR s 25 u23) 26 u24) 27 u25)))) rfl ?_
    obtain ⟨v27, hv27, h⟩ := Option.bind_eq_some_iff.mp h
    refine h_iald rfl rfl hv27 ?_
    refine h_it 2 (x' := (249, [(0, .ref 108), (7, .int x7), (9, .int x9), (11, .int x11)], [.int (v27 + 1), .int x9, .ref 123], (Q, hpR (sR (sR (sR s 25 u23) 26 u24) 27 u25)))) rfl ?_
    obtain ⟨u28, hu28, h⟩ := Option.bind_eq_some_iff.mp h
    refine h_iast rfl rfl hu28 ?_
    show HE V L Kc Ks 181 (250, [(0, .ref 108), (7, .int x7), (9, .int x9), (11, .int x11)], [], (Q, hpR (sR (sR (sR s 25 u23) 26 u24) 27 u28))) _ _
    refine h_it 2 (x' := (252, [(0, .ref 108), (7, .int x7), (9, .int x9), (11, .int x11)], [.int (b01 false), .ref 108], (Q, hpR (sR (sR (sR s 25 u23) 26 u24) 27 u28)))) rfl ?_
    refine h_putZ (ty := .boolean) rfl rfl rfl ?_
    show HE V L Kc Ks 181 (255, [(0, .ref 108), (7, .int x7), (9, .int x9), (11, .int x11)], [], (Q, hpR (sZ (sR (sR (sR s 25 u23) 26 u24) 27 u28) 1 false))) _ _
    replace h := Option.some.inj h; subst h
    refine h_it 1 (x' := (257, [(0, .ref 108), (7, .int x7), (9, .int x9), (11, .int x11)], [.int x11], (Q, hpR (sZ (sR (sR (sR s 25 u23) 26 u24) 27 u28) 1 false)))) rfl ?_
    exact h_iret rfl rfl
theorem m181_130_ok   {x1 : Int32} {x2 : Int64} {x4 : Int64} {x6 : Int32} {x7 : Int32} {x9 : Int32} {y0 : Bool} {y1 : Int32} {s : xSt} {q : Int32 × xSt} (h : m181_130  x1 x2 x4 x6 x7 x9 y0 y1 s = some q) : HE V L Kc Ks 181 (130, [(0, .ref 108), (1, .int x1), (2, .long x2), (4, .long x4), (6, .int x6), (7, .int x7), (9, .int x9)], [.int (b01 y0), .int y1], (Q, hpR s)) (some (.int q.1)) (Q, hpR q.2) := by
  unfold m181_130 at h
  refine h_br (b := decide (y1 = (b01 y0))) (t := 135) (f := 133) (lv' := [(0, .ref 108), (1, .int x1), (2, .long x2), (4, .long x4), (6, .int x6), (7, .int x7), (9, .int x9)]) (st' := []) rfl rfl ?_
  by_cases h15 : y1 = (b01 y0)
  · replace h := if_y h15 h
    refine h_y h15 ?_
    refine h_it 13 (x' := (158, [(11, .int (gI s 33)), (0, .ref 108), (1, .int x1), (2, .long x2), (4, .long x4), (6, .int x6), (7, .int x7), (9, .int x9)], [.int x1, .int (gI s 33), .ref 116], (Q, hpR (sI s 33 ((gI s 33) + 1))))) rfl ?_
    obtain ⟨u16, hu16, h⟩ := Option.bind_eq_some_iff.mp h
    refine h_iast rfl rfl hu16 ?_
    show HE V L Kc Ks 181 (159, [(11, .int (gI s 33)), (0, .ref 108), (1, .int x1), (2, .long x2), (4, .long x4), (6, .int x6), (7, .int x7), (9, .int x9)], [], (Q, hpR (sR (sI s 33 ((gI s 33) + 1)) 22 u16))) _ _
    refine h_it 4 (x' := (166, [(11, .int (gI s 33)), (0, .ref 108), (1, .int x1), (2, .long x2), (4, .long x4), (6, .int x6), (7, .int x7), (9, .int x9)], [.long x2, .int (gI s 33), .ref 117], (Q, hpR (sR (sI s 33 ((gI s 33) + 1)) 22 u16)))) rfl ?_
    obtain ⟨u17, hu17, h⟩ := Option.bind_eq_some_iff.mp h
    refine h_last rfl rfl hu17 ?_
    show HE V L Kc Ks 181 (167, [(11, .int (gI s 33)), (0, .ref 108), (1, .int x1), (2, .long x2), (4, .long x4), (6, .int x6), (7, .int x7), (9, .int x9)], [], (Q, hpR (sL (sR (sI s 33 ((gI s 33) + 1)) 22 u16) 6 u17))) _ _
    refine h_it 4 (x' := (175, [(11, .int (gI s 33)), (0, .ref 108), (1, .int x1), (2, .long x2), (4, .long x4), (6, .int x6), (7, .int x7), (9, .int x9)], [.long x4, .int (gI s 33), .ref 118], (Q, hpR (sL (sR (sI s 33 ((gI s 33) + 1)) 22 u16) 6 u17)))) rfl ?_
    obtain ⟨u18, hu18, h⟩ := Option.bind_eq_some_iff.mp h
    refine h_last rfl rfl hu18 ?_
    show HE V L Kc Ks 181 (176, [(11, .int (gI s 33)), (0, .ref 108), (1, .int x1), (2, .long x2), (4, .long x4), (6, .int x6), (7, .int x7), (9, .int x9)], [], (Q, hpR (sL (sL (sR (sI s 33 ((gI s 33) + 1)) 22 u16) 6 u17) 7 u18))) _ _
    refine h_it 4 (x' := (184, [(11, .int (gI s 33)), (0, .ref 108), (1, .int x1), (2, .long x2), (4, .long x4), (6, .int x6), (7, .int x7), (9, .int x9)], [.int x6, .int (gI s 33), .ref 119], (Q, hpR (sL (sL (sR (sI s 33 ((gI s 33) + 1)) 22 u16) 6 u17) 7 u18)))) rfl ?_
    obtain ⟨u19, hu19, h⟩ := Option.bind_eq_some_iff.mp h
    refine h_iast rfl rfl hu19 ?_
    show HE V L Kc Ks 181 (185, [(11, .int (gI s 33)), (0, .ref 108), (1, .int x1), (2, .long x2), (4, .long x4), (6, .int x6), (7, .int x7), (9, .int x9)], [], (Q, hpR (sR (sL (sL (sR (sI s 33 ((gI s 33) + 1)) 22 u16) 6 u17) 7 u18) 23 u19))) _ _
    refine h_it 4 (x' := (193, [(11, .int (gI s 33)), (0, .ref 108), (1, .int x1), (2, .long x2), (4, .long x4), (6, .int x6), (7, .int x7), (9, .int x9)], [.int x9, .int (gI s 33), .ref 120], (Q, hpR (sR (sL (sL (sR (sI s 33 ((gI s 33) + 1)) 22 u16) 6 u17) 7 u18) 23 u19)))) rfl ?_
    obtain ⟨u20, hu20, h⟩ := Option.bind_eq_some_iff.mp h
    refine h_iast rfl rfl hu20 ?_
    show HE V L Kc Ks 181 (194, [(11, .int (gI s 33)), (0, .ref 108), (1, .int x1), (2, .long x2), (4, .long x4), (6, .int x6), (7, .int x7), (9, .int x9)], [], (Q, hpR (sR (sR (sL (sL (sR (sI s 33 ((gI s 33) + 1)) 22 u16) 6 u17) 7 u18) 23 u19) 24 u20))) _ _
    refine h_it 4 (x' := (202, [(11, .int (gI s 33)), (0, .ref 108), (1, .int x1), (2, .long x2), (4, .long x4), (6, .int x6), (7, .int x7), (9, .int x9)], [.int x9, .int (gI s 33), .ref 121], (Q, hpR (sR (sR (sL (sL (sR (sI s 33 ((gI s 33) + 1)) 22 u16) 6 u17) 7 u18) 23 u19) 24 u20)))) rfl ?_
    refine h_br (b := decide (0 ≤ x9)) (t := 209) (f := 205) (lv' := [(11, .int (gI s 33)), (0, .ref 108), (1, .int x1), (2, .long x2), (4, .long x4), (6, .int x6), (7, .int x7), (9, .int x9)]) (st' := [.int (gI s 33), .ref 121]) rfl rfl ?_
    by_cases h21 : 0 ≤ x9
    · replace h := if_y h21 h
      refine h_y h21 ?_
      refine h_it 3 (x' := (215, [(11, .int (gI s 33)), (0, .ref 108), (1, .int x1), (2, .long x2), (4, .long x4), (6, .int x6), (7, .int x7), (9, .int x9)], [.int x9, .ref 123, .int (gI s 33), .ref 121], (Q, hpR (sR (sR (sL (sL (sR (sI s 33 ((gI s 33) + 1)) 22 u16) 6 u17) 7 u18) 23 u19) 24 u20)))) rfl ?_
      obtain ⟨v22, hv22, h⟩ := Option.bind_eq_some_iff.mp h
      refine h_iald rfl rfl hv22 ?_
      refine h_lw (lv := [(0, .ref 108), (7, .int x7), (9, .int x9), (11, .int (gI s 33))]) (fa_c rfl (fa_c rfl (fa_c rfl (fa_c rfl (fa_n))))) rfl ?_
      exact m181_216_ok  h
    · replace h := if_n h21 h
      refine h_n h21 ?_
      refine h_it 2 (x' := (216, [(11, .int (gI s 33)), (0, .ref 108), (1, .int x1), (2, .long x2), (4, .long x4), (6, .int x6), (7, .int x7), (9, .int x9)], [.int 0, .int (gI s 33), .ref 121], (Q, hpR (sR (sR (sL (sL (sR (sI s 33 ((gI s 33) + 1)) 22 u16) 6 u17) 7 u18) 23 u19) 24 u20)))) rfl ?_
      refine h_lw (lv := [(0, .ref 108), (7, .int x7), (9, .int x9), (11, .int (gI s 33))]) (fa_c rfl (fa_c rfl (fa_c rfl (fa_c rfl (fa_n))))) rfl ?_
      exact m181_216_ok  h
  · replace h := if_n h15 h
    refine h_n h15 ?_
    replace h := Option.some.inj h; subst h
    refine h_it 1 (x' := (134, [(0, .ref 108), (1, .int x1), (2, .long x2), (4, .long x4), (6, .int x6), (7, .int x7), (9, .int x9)], [.int (-1)], (Q, hpR s))) rfl ?_
    exact h_iret rfl rfl
theorem m181_115_ok   {x1 : Int32} {x2 : Int64} {x4 : Int64} {x6 : Int32} {x7 : Int32} {x9 : Int32} {y0 : Int32} {s : xSt} {q : Int32 × xSt} (h : m181_115  x1 x2 x4 x6 x7 x9 y0 s = some q) : HE V L Kc Ks 181 (115, [(0, .ref 108), (1, .int x1), (2, .long x2), (4, .long x4), (6, .int x6), (7, .int x7), (9, .int x9)], [.int y0], (Q, hpR s)) (some (.int q.1)) (Q, hpR q.2) := by
  unfold m181_115 at h
  refine h_it 4 (x' := (122, [(10, .int y0), (0, .ref 108), (1, .int x1), (2, .long x2), (4, .long x4), (6, .int x6), (7, .int x7), (9, .int x9)], [.int 17, .int x1, .int y0], (Q, hpR s))) rfl ?_
  refine h_br (b := decide (x1 ≤ 17)) (t := 129) (f := 125) (lv' := [(10, .int y0), (0, .ref 108), (1, .int x1), (2, .long x2), (4, .long x4), (6, .int x6), (7, .int x7), (9, .int x9)]) (st' := [.int y0]) rfl rfl ?_
  by_cases h14 : x1 ≤ 17
  · replace h := if_y h14 h
    refine h_y h14 ?_
    refine h_it 1 (x' := (130, [(10, .int y0), (0, .ref 108), (1, .int x1), (2, .long x2), (4, .long x4), (6, .int x6), (7, .int x7), (9, .int x9)], [.int 0, .int y0], (Q, hpR s))) rfl ?_
    refine h_lw (lv := [(0, .ref 108), (1, .int x1), (2, .long x2), (4, .long x4), (6, .int x6), (7, .int x7), (9, .int x9)]) (fa_c rfl (fa_c rfl (fa_c rfl (fa_c rfl (fa_c rfl (fa_c rfl (fa_c rfl (fa_n)))))))) rfl ?_
    exact m181_130_ok  h
  · replace h := if_n h14 h
    refine h_n h14 ?_
    refine h_it 2 (x' := (130, [(10, .int y0), (0, .ref 108), (1, .int x1), (2, .long x2), (4, .long x4), (6, .int x6), (7, .int x7), (9, .int x9)], [.int 1, .int y0], (Q, hpR s))) rfl ?_
    refine h_lw (lv := [(0, .ref 108), (1, .int x1), (2, .long x2), (4, .long x4), (6, .int x6), (7, .int x7), (9, .int x9)]) (fa_c rfl (fa_c rfl (fa_c rfl (fa_c rfl (fa_c rfl (fa_c rfl (fa_c rfl (fa_n)))))))) rfl ?_
    exact m181_130_ok  h
theorem m181_83_ok   {x1 : Int32} {x2 : Int64} {x4 : Int64} {x6 : Int32} {x7 : Int32} {x9 : Int32} {s : xSt} {q : Int32 × xSt} (h : m181_83  x1 x2 x4 x6 x7 x9 s = some q) : HE V L Kc Ks 181 (83, [(0, .ref 108), (1, .int x1), (2, .long x2), (4, .long x4), (6, .int x6), (7, .int x7), (9, .int x9)], [], (Q, hpR s)) (some (.int q.1)) (Q, hpR q.2) := by
  unfold m181_83 at h
  refine h_it 1 (x' := (85, [(0, .ref 108), (1, .int x1), (2, .long x2), (4, .long x4), (6, .int x6), (7, .int x7), (9, .int x9)], [.int x9], (Q, hpR s))) rfl ?_
  refine h_br (b := decide (0 ≤ x9)) (t := 98) (f := 88) (lv' := [(0, .ref 108), (1, .int x1), (2, .long x2), (4, .long x4), (6, .int x6), (7, .int x7), (9, .int x9)]) (st' := []) rfl rfl ?_
  by_cases h10 : 0 ≤ x9
  · replace h := if_y h10 h
    refine h_y h10 ?_
    refine h_it 3 (x' := (104, [(0, .ref 108), (1, .int x1), (2, .long x2), (4, .long x4), (6, .int x6), (7, .int x7), (9, .int x9)], [.int x9, .ref 116], (Q, hpR s))) rfl ?_
    obtain ⟨v11, hv11, h⟩ := Option.bind_eq_some_iff.mp h
    refine h_iald rfl rfl hv11 ?_
    refine h_it 3 (x' := (111, [(0, .ref 108), (1, .int x1), (2, .long x2), (4, .long x4), (6, .int x6), (7, .int x7), (9, .int x9)], [.int x9, .ref 123, .int v11], (Q, hpR s))) rfl ?_
    obtain ⟨v12, hv12, h⟩ := Option.bind_eq_some_iff.mp h
    refine h_iald rfl rfl hv12 ?_
    obtain ⟨q13, hq13, h⟩ := Option.bind_eq_some_iff.mp h
    refine h_callS (av := [.int v11, .int v12]) (r1 := some (.int (b01 q13.1))) (st := []) (H1 := (Q, hpR q13.2)) rfl rfl rfl rfl rfl (m186_ok hq13) ?_
    refine h_lw (lv := [(0, .ref 108), (1, .int x1), (2, .long x2), (4, .long x4), (6, .int x6), (7, .int x7), (9, .int x9)]) (fa_c rfl (fa_c rfl (fa_c rfl (fa_c rfl (fa_c rfl (fa_c rfl (fa_c rfl (fa_n)))))))) rfl ?_
    exact m181_115_ok  h
  · replace h := if_n h10 h
    refine h_n h10 ?_
    refine h_it 3 (x' := (94, [(0, .ref 108), (1, .int x1), (2, .long x2), (4, .long x4), (6, .int x6), (7, .int x7), (9, .int x9)], [.int x7, .ref 109], (Q, hpR s))) rfl ?_
    obtain ⟨v29, hv29, h⟩ := Option.bind_eq_some_iff.mp h
    refine h_bald rfl (Or.inr rfl) rfl hv29 ?_
    refine h_it 1 (x' := (115, [(0, .ref 108), (1, .int x1), (2, .long x2), (4, .long x4), (6, .int x6), (7, .int x7), (9, .int x9)], [.int v29], (Q, hpR s))) rfl ?_
    refine h_lw (lv := [(0, .ref 108), (1, .int x1), (2, .long x2), (4, .long x4), (6, .int x6), (7, .int x7), (9, .int x9)]) (fa_c rfl (fa_c rfl (fa_c rfl (fa_c rfl (fa_c rfl (fa_c rfl (fa_c rfl (fa_n)))))))) rfl ?_
    exact m181_115_ok  h
theorem m181_63_ok   {x1 : Int32} {x2 : Int64} {x4 : Int64} {x6 : Int32} {x7 : Int32} {y0 : Bool} {s : xSt} {q : Int32 × xSt} (h : m181_63  x1 x2 x4 x6 x7 y0 s = some q) : HE V L Kc Ks 181 (63, [(0, .ref 108), (1, .int x1), (2, .long x2), (4, .long x4), (6, .int x6), (7, .int x7)], [.int (b01 y0)], (Q, hpR s)) (some (.int q.1)) (Q, hpR q.2) := by
  unfold m181_63 at h
  refine h_it 2 (x' := (66, [(8, .int (b01 y0)), (0, .ref 108), (1, .int x1), (2, .long x2), (4, .long x4), (6, .int x6), (7, .int x7)], [.ref 108], (Q, hpR s))) rfl ?_
  obtain ⟨q7, hq7, h⟩ := Option.bind_eq_some_iff.mp h
  refine h_callO (As := []) (r1 := some (.int q7.1)) (st := []) (H1 := (Q, hpR q7.2)) rfl rfl rfl rfl rfl rfl (m179_ok hq7) ?_
  refine h_it 2 (x' := (73, [(9, .int q7.1), (8, .int (b01 y0)), (0, .ref 108), (1, .int x1), (2, .long x2), (4, .long x4), (6, .int x6), (7, .int x7)], [.int (b01 y0)], (Q, hpR q7.2))) rfl ?_
  refine h_br (b := decide ((b01 y0) = 0)) (t := 83) (f := 76) (lv' := [(9, .int q7.1), (8, .int (b01 y0)), (0, .ref 108), (1, .int x1), (2, .long x2), (4, .long x4), (6, .int x6), (7, .int x7)]) (st' := []) rfl rfl ?_
  by_cases h8 : y0 = true
  · replace h := if_y h8 h
    refine h_n (b01_1 h8) ?_
    refine h_it 1 (x' := (78, [(9, .int q7.1), (8, .int (b01 y0)), (0, .ref 108), (1, .int x1), (2, .long x2), (4, .long x4), (6, .int x6), (7, .int x7)], [.int q7.1], (Q, hpR q7.2))) rfl ?_
    refine h_br (b := decide (0 ≤ q7.1)) (t := 83) (f := 81) (lv' := [(9, .int q7.1), (8, .int (b01 y0)), (0, .ref 108), (1, .int x1), (2, .long x2), (4, .long x4), (6, .int x6), (7, .int x7)]) (st' := []) rfl rfl ?_
    by_cases h9 : 0 ≤ q7.1
    · replace h := if_y h9 h
      refine h_y h9 ?_
      refine h_lw (lv := [(0, .ref 108), (1, .int x1), (2, .long x2), (4, .long x4), (6, .int x6), (7, .int x7), (9, .int q7.1)]) (fa_c rfl (fa_c rfl (fa_c rfl (fa_c rfl (fa_c rfl (fa_c rfl (fa_c rfl (fa_n)))))))) rfl ?_
      exact m181_83_ok  h
    · replace h := if_n h9 h
      refine h_n h9 ?_
      replace h := Option.some.inj h; subst h
      refine h_it 1 (x' := (82, [(9, .int q7.1), (8, .int (b01 y0)), (0, .ref 108), (1, .int x1), (2, .long x2), (4, .long x4), (6, .int x6), (7, .int x7)], [.int (-1)], (Q, hpR q7.2))) rfl ?_
      exact h_iret rfl rfl
  · replace h := if_n h8 h
    refine h_y (b01_0 h8) ?_
    refine h_lw (lv := [(0, .ref 108), (1, .int x1), (2, .long x2), (4, .long x4), (6, .int x6), (7, .int x7), (9, .int q7.1)]) (fa_c rfl (fa_c rfl (fa_c rfl (fa_c rfl (fa_c rfl (fa_c rfl (fa_c rfl (fa_n)))))))) rfl ?_
    exact m181_83_ok  h
theorem m181_ok {a1 : Int32} {l2 : Int64} {l3 : Int64} {a4 : Int32} {s : xSt} {q : Int32 × xSt} (h : m181 a1 l2 l3 a4 s = some q) : HC V L Kc Ks 181 [.ref 108, .int a1, .long l2, .long l3, .int a4] (Q, hpR s) (some (.int q.1)) (Q, hpR q.2) := by
  unfold m181 at h
  refine hc_of (by decide) rfl ?_
  refine h_it 5 (x' := (9, [(0, .ref 108), (1, .int a1), (2, .long l2), (4, .long l3), (6, .int a4)], [.int (gI s 32)], (Q, hpR (sI s 31 0)))) rfl ?_
  refine h_br (b := decide ((gI s 32) = 0)) (t := 34) (f := 12) (lv' := [(0, .ref 108), (1, .int a1), (2, .long l2), (4, .long l3), (6, .int a4)]) (st' := []) rfl rfl ?_
  by_cases h1 : (gI s 32) = 0
  · replace h := if_y h1 h
    refine h_y h1 ?_
    replace h := Option.some.inj h; subst h
    refine h_it 1 (x' := (35, [(0, .ref 108), (1, .int a1), (2, .long l2), (4, .long l3), (6, .int a4)], [.int (-1)], (Q, hpR (sI s 31 0)))) rfl ?_
    exact h_iret rfl rfl
  · replace h := if_n h1 h
    refine h_n h1 ?_
    refine h_it 3 (x' := (19, [(0, .ref 108), (1, .int a1), (2, .long l2), (4, .long l3), (6, .int a4)], [.int 4096, .int (gI s 33)], (Q, hpR (sI s 31 0)))) rfl ?_
    refine h_br (b := decide ((gI s 33) = 4096)) (t := 34) (f := 22) (lv' := [(0, .ref 108), (1, .int a1), (2, .long l2), (4, .long l3), (6, .int a4)]) (st' := []) rfl rfl ?_
    by_cases h2 : (gI s 33) = 4096
    · replace h := if_y h2 h
      refine h_y h2 ?_
      replace h := Option.some.inj h; subst h
      refine h_it 1 (x' := (35, [(0, .ref 108), (1, .int a1), (2, .long l2), (4, .long l3), (6, .int a4)], [.int (-1)], (Q, hpR (sI s 31 0)))) rfl ?_
      exact h_iret rfl rfl
    · replace h := if_n h2 h
      refine h_n h2 ?_
      refine h_it 4 (x' := (28, [(0, .ref 108), (1, .int a1), (2, .long l2), (4, .long l3), (6, .int a4)], [.int a4, .long l3, .long l2, .int a1], (Q, hpR (sI s 31 0)))) rfl ?_
      obtain ⟨q3, hq3, h⟩ := Option.bind_eq_some_iff.mp h
      refine h_callS (av := [.int a1, .long l2, .long l3, .int a4]) (r1 := some (.int (b01 q3.1))) (st := []) (H1 := (Q, hpR q3.2)) rfl rfl rfl rfl rfl (m182_ok hq3) ?_
      refine h_br (b := decide (¬ (b01 q3.1) = 0)) (t := 36) (f := 34) (lv' := [(0, .ref 108), (1, .int a1), (2, .long l2), (4, .long l3), (6, .int a4)]) (st' := []) rfl rfl ?_
      by_cases h4 : q3.1 = true
      · replace h := if_y h4 h
        refine h_y (b01_1 h4) ?_
        refine h_it 10 (x' := (54, [(7, .int ((gI q3.2 32) - 1)), (0, .ref 108), (1, .int a1), (2, .long l2), (4, .long l3), (6, .int a4)], [.int ((gI q3.2 32) - 1), .ref 115, .int (gI q3.2 33)], (Q, hpR q3.2))) rfl ?_
        obtain ⟨v5, hv5, h⟩ := Option.bind_eq_some_iff.mp h
        refine h_iald rfl rfl hv5 ?_
        refine h_br (b := decide ((gI q3.2 33) ≤ v5)) (t := 62) (f := 58) (lv' := [(7, .int ((gI q3.2 32) - 1)), (0, .ref 108), (1, .int a1), (2, .long l2), (4, .long l3), (6, .int a4)]) (st' := []) rfl rfl ?_
        by_cases h6 : (gI q3.2 33) ≤ v5
        · replace h := if_y h6 h
          refine h_y h6 ?_
          refine h_it 1 (x' := (63, [(7, .int ((gI q3.2 32) - 1)), (0, .ref 108), (1, .int a1), (2, .long l2), (4, .long l3), (6, .int a4)], [.int 0], (Q, hpR q3.2))) rfl ?_
          refine h_lw (lv := [(0, .ref 108), (1, .int a1), (2, .long l2), (4, .long l3), (6, .int a4), (7, .int ((gI q3.2 32) - 1))]) (fa_c rfl (fa_c rfl (fa_c rfl (fa_c rfl (fa_c rfl (fa_c rfl (fa_n))))))) rfl ?_
          exact m181_63_ok  h
        · replace h := if_n h6 h
          refine h_n h6 ?_
          refine h_it 2 (x' := (63, [(7, .int ((gI q3.2 32) - 1)), (0, .ref 108), (1, .int a1), (2, .long l2), (4, .long l3), (6, .int a4)], [.int 1], (Q, hpR q3.2))) rfl ?_
          refine h_lw (lv := [(0, .ref 108), (1, .int a1), (2, .long l2), (4, .long l3), (6, .int a4), (7, .int ((gI q3.2 32) - 1))]) (fa_c rfl (fa_c rfl (fa_c rfl (fa_c rfl (fa_c rfl (fa_c rfl (fa_n))))))) rfl ?_
          exact m181_63_ok  h
      · replace h := if_n h4 h
        refine h_n (fun z => z (b01_0 h4)) ?_
        replace h := Option.some.inj h; subst h
        refine h_it 1 (x' := (35, [(0, .ref 108), (1, .int a1), (2, .long l2), (4, .long l3), (6, .int a4)], [.int (-1)], (Q, hpR q3.2))) rfl ?_
        exact h_iret rfl rfl
end Sm181
section Sm180
variable {V : xmV} {L : List Nat} {Kc Ks : Nat} {Q : List xE}
theorem m180_66_ok   : ∀ (n : Nat) (x1 : Int64) (x3 : Int32) (x4 : Int32) (x5 : Int32) (s : xSt) (q : Int32 × xSt), m180_66  n x1 x3 x4 x5 s = some q → HE V L Kc Ks 180 (66, [(0, .ref 108), (1, .long x1), (3, .int x3), (4, .int x4), (5, .int x5)], [], (Q, hpR s)) (some (.int q.1)) (Q, hpR q.2) := by
  intro n
  induction n with
  | zero => intro x1 x3 x4 x5 s q h; cases h
  | succ n ih =>
    intro x1 x3 x4 x5 s q h
    unfold m180_66 at h
    refine h_it 4 (x' := (74, [(0, .ref 108), (1, .long x1), (3, .int x3), (4, .int x4), (5, .int x5)], [.int x4, .ref 112, .int x5], (Q, hpR s))) rfl ?_
    obtain ⟨v9, hv9, h⟩ := Option.bind_eq_some_iff.mp h
    refine h_iald rfl rfl hv9 ?_
    refine h_br (b := decide (v9 ≤ x5)) (t := 104) (f := 78) (lv' := [(0, .ref 108), (1, .long x1), (3, .int x3), (4, .int x4), (5, .int x5)]) (st' := []) rfl rfl ?_
    by_cases h10 : v9 ≤ x5
    · replace h := if_y h10 h
      refine h_y h10 ?_
      refine h_it 8 (x' := (119, [(0, .ref 108), (1, .long x1), (3, .int x3), (4, .int x4), (5, .int x5)], [.int x4, .ref 112, .int (8 * x4), .ref 113], (Q, hpR s))) rfl ?_
      obtain ⟨v11, hv11, h⟩ := Option.bind_eq_some_iff.mp h
      refine h_iald rfl rfl hv11 ?_
      refine h_it 2 (x' := (122, [(0, .ref 108), (1, .long x1), (3, .int x3), (4, .int x4), (5, .int x5)], [.long x1, .int ((8 * x4) + v11), .ref 113], (Q, hpR s))) rfl ?_
      obtain ⟨u12, hu12, h⟩ := Option.bind_eq_some_iff.mp h
      refine h_last rfl rfl hu12 ?_
      show HE V L Kc Ks 180 (123, [(0, .ref 108), (1, .long x1), (3, .int x3), (4, .int x4), (5, .int x5)], [], (Q, hpR (sL s 5 u12))) _ _
      refine h_it 8 (x' := (138, [(0, .ref 108), (1, .long x1), (3, .int x3), (4, .int x4), (5, .int x5)], [.int x4, .ref 112, .int (8 * x4), .ref 114], (Q, hpR (sL s 5 u12)))) rfl ?_
      obtain ⟨v13, hv13, h⟩ := Option.bind_eq_some_iff.mp h
      refine h_iald rfl rfl hv13 ?_
      refine h_it 2 (x' := (141, [(0, .ref 108), (1, .long x1), (3, .int x3), (4, .int x4), (5, .int x5)], [.int x3, .int ((8 * x4) + v13), .ref 114], (Q, hpR (sL s 5 u12)))) rfl ?_
      obtain ⟨u14, hu14, h⟩ := Option.bind_eq_some_iff.mp h
      refine h_iast rfl rfl hu14 ?_
      show HE V L Kc Ks 180 (142, [(0, .ref 108), (1, .long x1), (3, .int x3), (4, .int x4), (5, .int x5)], [], (Q, hpR (sR (sL s 5 u12) 20 u14))) _ _
      refine h_it 4 (x' := (149, [(0, .ref 108), (1, .long x1), (3, .int x3), (4, .int x4), (5, .int x5)], [.int x4, .ref 112, .int x4, .ref 112], (Q, hpR (sR (sL s 5 u12) 20 u14)))) rfl ?_
      obtain ⟨v15, hv15, h⟩ := Option.bind_eq_some_iff.mp h
      refine h_iald rfl rfl hv15 ?_
      refine h_it 2 (x' := (152, [(0, .ref 108), (1, .long x1), (3, .int x3), (4, .int x4), (5, .int x5)], [.int (v15 + 1), .int x4, .ref 112], (Q, hpR (sR (sL s 5 u12) 20 u14)))) rfl ?_
      obtain ⟨u16, hu16, h⟩ := Option.bind_eq_some_iff.mp h
      refine h_iast rfl rfl hu16 ?_
      show HE V L Kc Ks 180 (153, [(0, .ref 108), (1, .long x1), (3, .int x3), (4, .int x4), (5, .int x5)], [], (Q, hpR (sR (sR (sL s 5 u12) 20 u14) 19 u16))) _ _
      refine h_it 2 (x' := (155, [(0, .ref 108), (1, .long x1), (3, .int x3), (4, .int x4), (5, .int x5)], [.int (b01 false), .ref 108], (Q, hpR (sR (sR (sL s 5 u12) 20 u14) 19 u16)))) rfl ?_
      refine h_putZ (ty := .boolean) rfl rfl rfl ?_
      show HE V L Kc Ks 180 (158, [(0, .ref 108), (1, .long x1), (3, .int x3), (4, .int x4), (5, .int x5)], [], (Q, hpR (sZ (sR (sR (sL s 5 u12) 20 u14) 19 u16) 1 false))) _ _
      refine h_it 3 (x' := (164, [(0, .ref 108), (1, .long x1), (3, .int x3), (4, .int x4), (5, .int x5)], [.int x4, .ref 112], (Q, hpR (sZ (sR (sR (sL s 5 u12) 20 u14) 19 u16) 1 false)))) rfl ?_
      obtain ⟨v17, hv17, h⟩ := Option.bind_eq_some_iff.mp h
      refine h_iald rfl rfl hv17 ?_
      replace h := Option.some.inj h; subst h
      exact h_iret rfl rfl
    · replace h := if_n h10 h
      refine h_n h10 ?_
      refine h_it 7 (x' := (90, [(0, .ref 108), (1, .long x1), (3, .int x3), (4, .int x4), (5, .int x5)], [.int ((8 * x4) + x5), .ref 113], (Q, hpR s))) rfl ?_
      obtain ⟨v18, hv18, h⟩ := Option.bind_eq_some_iff.mp h
      refine h_lald rfl rfl hv18 ?_
      refine h_it 2 (x' := (93, [(0, .ref 108), (1, .long x1), (3, .int x3), (4, .int x4), (5, .int x5)], [.int (lg_cmp v18 x1)], (Q, hpR s))) rfl ?_
      refine h_br (b := decide (¬ (lg_cmp v18 x1) = 0)) (t := 98) (f := 96) (lv' := [(0, .ref 108), (1, .long x1), (3, .int x3), (4, .int x4), (5, .int x5)]) (st' := []) rfl rfl ?_
      by_cases h19 : (lg_cmp v18 x1) = 0
      · replace h := if_y h19 h
        refine h_n (fun z => z h19) ?_
        replace h := Option.some.inj h; subst h
        refine h_it 1 (x' := (97, [(0, .ref 108), (1, .long x1), (3, .int x3), (4, .int x4), (5, .int x5)], [.int (-1)], (Q, hpR s))) rfl ?_
        exact h_iret rfl rfl
      · replace h := if_n h19 h
        refine h_y h19 ?_
        refine h_it 2 (x' := (66, [(5, .int (x5 + 1)), (0, .ref 108), (1, .long x1), (3, .int x3), (4, .int x4)], [], (Q, hpR s))) rfl ?_
        refine h_lw (lv := [(0, .ref 108), (1, .long x1), (3, .int x3), (4, .int x4), (5, .int (x5 + 1))]) (fa_c rfl (fa_c rfl (fa_c rfl (fa_c rfl (fa_c rfl (fa_n)))))) rfl ?_
        exact ih x1 x3 x4 (x5 + 1) s _ h
theorem m180_ok {l1 : Int64} {a2 : Int32} {s : xSt} {q : Int32 × xSt} (h : m180 l1 a2 s = some q) : HC V L Kc Ks 180 [.ref 108, .long l1, .int a2] (Q, hpR s) (some (.int q.1)) (Q, hpR q.2) := by
  unfold m180 at h
  refine hc_of (by decide) rfl ?_
  refine h_it 10 (x' := (17, [(4, .int ((gI s 32) - 1)), (0, .ref 108), (1, .long l1), (3, .int a2)], [.int (gI s 32)], (Q, hpR (sI s 31 0)))) rfl ?_
  refine h_br (b := decide ((gI s 32) = 0)) (t := 61) (f := 20) (lv' := [(4, .int ((gI s 32) - 1)), (0, .ref 108), (1, .long l1), (3, .int a2)]) (st' := []) rfl rfl ?_
  by_cases h1 : (gI s 32) = 0
  · replace h := if_y h1 h
    refine h_y h1 ?_
    replace h := Option.some.inj h; subst h
    refine h_it 1 (x' := (62, [(4, .int ((gI s 32) - 1)), (0, .ref 108), (1, .long l1), (3, .int a2)], [.int (-1)], (Q, hpR (sI s 31 0)))) rfl ?_
    exact h_iret rfl rfl
  · replace h := if_n h1 h
    refine h_n h1 ?_
    refine h_it 3 (x' := (26, [(4, .int ((gI s 32) - 1)), (0, .ref 108), (1, .long l1), (3, .int a2)], [.int ((gI s 32) - 1), .ref 112], (Q, hpR (sI s 31 0)))) rfl ?_
    obtain ⟨v2, hv2, h⟩ := Option.bind_eq_some_iff.mp h
    refine h_iald rfl rfl hv2 ?_
    refine h_it 1 (x' := (29, [(4, .int ((gI s 32) - 1)), (0, .ref 108), (1, .long l1), (3, .int a2)], [.int 8, .int v2], (Q, hpR (sI s 31 0)))) rfl ?_
    refine h_br (b := decide (v2 = 8)) (t := 61) (f := 32) (lv' := [(4, .int ((gI s 32) - 1)), (0, .ref 108), (1, .long l1), (3, .int a2)]) (st' := []) rfl rfl ?_
    by_cases h3 : v2 = 8
    · replace h := if_y h3 h
      refine h_y h3 ?_
      replace h := Option.some.inj h; subst h
      refine h_it 1 (x' := (62, [(4, .int ((gI s 32) - 1)), (0, .ref 108), (1, .long l1), (3, .int a2)], [.int (-1)], (Q, hpR (sI s 31 0)))) rfl ?_
      exact h_iret rfl rfl
    · replace h := if_n h3 h
      refine h_n h3 ?_
      refine h_it 5 (x' := (42, [(4, .int ((gI s 32) - 1)), (0, .ref 108), (1, .long l1), (3, .int a2)], [.int ((gI s 32) - 1), .ref 115, .int (gI s 33)], (Q, hpR (sI s 31 0)))) rfl ?_
      obtain ⟨v4, hv4, h⟩ := Option.bind_eq_some_iff.mp h
      refine h_iald rfl rfl hv4 ?_
      refine h_br (b := decide (v4 < (gI s 33))) (t := 61) (f := 46) (lv' := [(4, .int ((gI s 32) - 1)), (0, .ref 108), (1, .long l1), (3, .int a2)]) (st' := []) rfl rfl ?_
      by_cases h5 : v4 < (gI s 33)
      · replace h := if_y h5 h
        refine h_y h5 ?_
        replace h := Option.some.inj h; subst h
        refine h_it 1 (x' := (62, [(4, .int ((gI s 32) - 1)), (0, .ref 108), (1, .long l1), (3, .int a2)], [.int (-1)], (Q, hpR (sI s 31 0)))) rfl ?_
        exact h_iret rfl rfl
      · replace h := if_n h5 h
        refine h_n h5 ?_
        refine h_it 3 (x' := (49, [(4, .int ((gI s 32) - 1)), (0, .ref 108), (1, .long l1), (3, .int a2)], [.int (lg_cmp l1 0)], (Q, hpR (sI s 31 0)))) rfl ?_
        refine h_br (b := decide ((lg_cmp l1 0) ≤ 0)) (t := 61) (f := 52) (lv' := [(4, .int ((gI s 32) - 1)), (0, .ref 108), (1, .long l1), (3, .int a2)]) (st' := []) rfl rfl ?_
        by_cases h6 : (lg_cmp l1 0) ≤ 0
        · replace h := if_y h6 h
          refine h_y h6 ?_
          replace h := Option.some.inj h; subst h
          refine h_it 1 (x' := (62, [(4, .int ((gI s 32) - 1)), (0, .ref 108), (1, .long l1), (3, .int a2)], [.int (-1)], (Q, hpR (sI s 31 0)))) rfl ?_
          exact h_iret rfl rfl
        · replace h := if_n h6 h
          refine h_n h6 ?_
          refine h_it 1 (x' := (53, [(4, .int ((gI s 32) - 1)), (0, .ref 108), (1, .long l1), (3, .int a2)], [.int a2], (Q, hpR (sI s 31 0)))) rfl ?_
          refine h_br (b := decide (a2 < 0)) (t := 61) (f := 56) (lv' := [(4, .int ((gI s 32) - 1)), (0, .ref 108), (1, .long l1), (3, .int a2)]) (st' := []) rfl rfl ?_
          by_cases h7 : a2 < 0
          · replace h := if_y h7 h
            refine h_y h7 ?_
            replace h := Option.some.inj h; subst h
            refine h_it 1 (x' := (62, [(4, .int ((gI s 32) - 1)), (0, .ref 108), (1, .long l1), (3, .int a2)], [.int (-1)], (Q, hpR (sI s 31 0)))) rfl ?_
            exact h_iret rfl rfl
          · replace h := if_n h7 h
            refine h_n h7 ?_
            refine h_it 2 (x' := (58, [(4, .int ((gI s 32) - 1)), (0, .ref 108), (1, .long l1), (3, .int a2)], [.int 3, .int a2], (Q, hpR (sI s 31 0)))) rfl ?_
            refine h_br (b := decide (a2 ≤ 3)) (t := 63) (f := 61) (lv' := [(4, .int ((gI s 32) - 1)), (0, .ref 108), (1, .long l1), (3, .int a2)]) (st' := []) rfl rfl ?_
            by_cases h8 : a2 ≤ 3
            · replace h := if_y h8 h
              refine h_y h8 ?_
              refine h_it 2 (x' := (66, [(5, .int 0), (4, .int ((gI s 32) - 1)), (0, .ref 108), (1, .long l1), (3, .int a2)], [], (Q, hpR (sI s 31 0)))) rfl ?_
              refine h_lw (lv := [(0, .ref 108), (1, .long l1), (3, .int a2), (4, .int ((gI s 32) - 1)), (5, .int 0)]) (fa_c rfl (fa_c rfl (fa_c rfl (fa_c rfl (fa_c rfl (fa_n)))))) rfl ?_
              exact m180_66_ok  1000000 l1 a2 ((gI s 32) - 1) 0 (sI s 31 0) _ h
            · replace h := if_n h8 h
              refine h_n h8 ?_
              replace h := Option.some.inj h; subst h
              refine h_it 1 (x' := (62, [(4, .int ((gI s 32) - 1)), (0, .ref 108), (1, .long l1), (3, .int a2)], [.int (-1)], (Q, hpR (sI s 31 0)))) rfl ?_
              exact h_iret rfl rfl
end Sm180
section Sm206
variable {V : xmV} {L : List Nat} {Kc Ks : Nat} {Q : List xE}
theorem m206_167_ok {K9 : Int32 → xSt → Option (Int32 × xSt)} (hK9 : ∀ (x1 : Int32) (s : xSt) (q : Int32 × xSt), K9 x1 s = some q → HE V L Kc Ks 206 (9, [(0, .ref 85), (1, .int x1)], [], (Q, hpR s)) (some (.int q.1)) (Q, hpR q.2)) : ∀ (n : Nat) (x1 : Int32) (x3 : Int32) (x4 : Int32) (s : xSt) (q : Int32 × xSt), m206_167 K9 n x1 x3 x4 s = some q → HE V L Kc Ks 206 (167, [(0, .ref 85), (1, .int x1), (3, .int x3), (4, .int x4)], [], (Q, hpR s)) (some (.int q.1)) (Q, hpR q.2) := by
  intro n
  induction n with
  | zero => intro x1 x3 x4 s q h; cases h
  | succ n ih =>
    intro x1 x3 x4 s q h
    unfold m206_167 at h
    refine h_it 2 (x' := (170, [(0, .ref 85), (1, .int x1), (3, .int x3), (4, .int x4)], [.int x3, .int x4], (Q, hpR s))) rfl ?_
    refine h_br (b := decide (x3 ≤ x4)) (t := 223) (f := 173) (lv' := [(0, .ref 85), (1, .int x1), (3, .int x3), (4, .int x4)]) (st' := []) rfl rfl ?_
    by_cases h12 : x3 ≤ x4
    · replace h := if_y h12 h
      refine h_y h12 ?_
      refine h_it 2 (x' := (9, [(1, .int (x1 + 1)), (0, .ref 85), (3, .int x3), (4, .int x4)], [], (Q, hpR s))) rfl ?_
      refine h_lw (lv := [(0, .ref 85), (1, .int (x1 + 1))]) (fa_c rfl (fa_c rfl (fa_n))) rfl ?_
      exact hK9 (x1 + 1) s _ h
    · replace h := if_n h12 h
      refine h_n h12 ?_
      refine h_it 6 (x' := (186, [(0, .ref 85), (1, .int x1), (3, .int x3), (4, .int x4)], [.int x4, .ref 97, .ref 108], (Q, hpR s))) rfl ?_
      obtain ⟨v13, hv13, h⟩ := Option.bind_eq_some_iff.mp h
      refine h_iald rfl rfl hv13 ?_
      refine h_it 4 (x' := (196, [(0, .ref 85), (1, .int x1), (3, .int x3), (4, .int x4)], [.int x4, .ref 104, .int v13, .ref 108], (Q, hpR s))) rfl ?_
      obtain ⟨v14, hv14, h⟩ := Option.bind_eq_some_iff.mp h
      refine h_lald rfl rfl hv14 ?_
      refine h_it 4 (x' := (206, [(0, .ref 85), (1, .int x1), (3, .int x3), (4, .int x4)], [.int x4, .ref 105, .long v14, .int v13, .ref 108], (Q, hpR s))) rfl ?_
      obtain ⟨v15, hv15, h⟩ := Option.bind_eq_some_iff.mp h
      refine h_lald rfl rfl hv15 ?_
      refine h_it 2 (x' := (210, [(0, .ref 85), (1, .int x1), (3, .int x3), (4, .int x4)], [.int x4, .ref 85, .long v15, .long v14, .int v13, .ref 108], (Q, hpR s))) rfl ?_
      obtain ⟨q16, hq16, h⟩ := Option.bind_eq_some_iff.mp h
      refine h_callO (As := [.int x4]) (r1 := some (.int q16.1)) (st := [.long v15, .long v14, .int v13, .ref 108]) (H1 := (Q, hpR q16.2)) rfl rfl rfl rfl rfl rfl (m207_ok hq16) ?_
      obtain ⟨q17, hq17, h⟩ := Option.bind_eq_some_iff.mp h
      refine h_callO (As := [.int v13, .long v14, .long v15, .int q16.1]) (r1 := some (.int q17.1)) (st := []) (H1 := (Q, hpR q17.2)) rfl rfl rfl rfl rfl rfl (m181_ok hq17) ?_
      refine h_it 3 (x' := (167, [(4, .int (x4 + 1)), (2, .int q17.1), (0, .ref 85), (1, .int x1), (3, .int x3)], [], (Q, hpR q17.2))) rfl ?_
      refine h_lw (lv := [(0, .ref 85), (1, .int x1), (3, .int x3), (4, .int (x4 + 1))]) (fa_c rfl (fa_c rfl (fa_c rfl (fa_c rfl (fa_n))))) rfl ?_
      exact ih x1 x3 (x4 + 1) q17.2 _ h
theorem m206_155_ok {K9 : Int32 → xSt → Option (Int32 × xSt)} (hK9 : ∀ (x1 : Int32) (s : xSt) (q : Int32 × xSt), K9 x1 s = some q → HE V L Kc Ks 206 (9, [(0, .ref 85), (1, .int x1)], [], (Q, hpR s)) (some (.int q.1)) (Q, hpR q.2)) {x1 : Int32} {y0 : Int32} {s : xSt} {q : Int32 × xSt} (h : m206_155 K9 x1 y0 s = some q) : HE V L Kc Ks 206 (155, [(0, .ref 85), (1, .int x1)], [.int y0], (Q, hpR s)) (some (.int q.1)) (Q, hpR q.2) := by
  unfold m206_155 at h
  refine h_it 5 (x' := (164, [(3, .int y0), (0, .ref 85), (1, .int x1)], [.int x1, .ref 92], (Q, hpR s))) rfl ?_
  obtain ⟨v11, hv11, h⟩ := Option.bind_eq_some_iff.mp h
  refine h_iald rfl rfl hv11 ?_
  refine h_it 1 (x' := (167, [(4, .int v11), (3, .int y0), (0, .ref 85), (1, .int x1)], [], (Q, hpR s))) rfl ?_
  refine h_lw (lv := [(0, .ref 85), (1, .int x1), (3, .int y0), (4, .int v11)]) (fa_c rfl (fa_c rfl (fa_c rfl (fa_c rfl (fa_n))))) rfl ?_
  exact m206_167_ok hK9 1000000 x1 y0 v11 s _ h
theorem m206_66_ok {K9 : Int32 → xSt → Option (Int32 × xSt)} (hK9 : ∀ (x1 : Int32) (s : xSt) (q : Int32 × xSt), K9 x1 s = some q → HE V L Kc Ks 206 (9, [(0, .ref 85), (1, .int x1)], [], (Q, hpR s)) (some (.int q.1)) (Q, hpR q.2)) : ∀ (n : Nat) (x1 : Int32) (x3 : Int32) (s : xSt) (q : Int32 × xSt), m206_66 K9 n x1 x3 s = some q → HE V L Kc Ks 206 (66, [(0, .ref 85), (1, .int x1), (3, .int x3)], [], (Q, hpR s)) (some (.int q.1)) (Q, hpR q.2) := by
  intro n
  induction n with
  | zero => intro x1 x3 s q h; cases h
  | succ n ih =>
    intro x1 x3 s q h
    unfold m206_66 at h
    refine h_it 5 (x' := (75, [(0, .ref 85), (1, .int x1), (3, .int x3)], [.int x1, .ref 91, .int x3], (Q, hpR s))) rfl ?_
    obtain ⟨v8, hv8, h⟩ := Option.bind_eq_some_iff.mp h
    refine h_iald rfl rfl hv8 ?_
    refine h_br (b := decide (v8 ≤ x3)) (t := 121) (f := 79) (lv' := [(0, .ref 85), (1, .int x1), (3, .int x3)]) (st' := []) rfl rfl ?_
    by_cases h9 : v8 ≤ x3
    · replace h := if_y h9 h
      refine h_y h9 ?_
      refine h_it 6 (x' := (131, [(0, .ref 85), (1, .int x1), (3, .int x3)], [.int (gI s 27), .int (x1 + 1)], (Q, hpR s))) rfl ?_
      refine h_br (b := decide ((gI s 27) ≤ (x1 + 1))) (t := 148) (f := 134) (lv' := [(0, .ref 85), (1, .int x1), (3, .int x3)]) (st' := []) rfl rfl ?_
      by_cases h10 : (gI s 27) ≤ (x1 + 1)
      · replace h := if_y h10 h
        refine h_y h10 ?_
        refine h_it 3 (x' := (155, [(0, .ref 85), (1, .int x1), (3, .int x3)], [.int (gI s 28)], (Q, hpR s))) rfl ?_
        refine h_lw (lv := [(0, .ref 85), (1, .int x1)]) (fa_c rfl (fa_c rfl (fa_n))) rfl ?_
        exact m206_155_ok hK9 h
      · replace h := if_n h10 h
        refine h_n h10 ?_
        refine h_it 6 (x' := (144, [(0, .ref 85), (1, .int x1), (3, .int x3)], [.int (x1 + 1), .ref 92], (Q, hpR s))) rfl ?_
        obtain ⟨v18, hv18, h⟩ := Option.bind_eq_some_iff.mp h
        refine h_iald rfl rfl hv18 ?_
        refine h_it 1 (x' := (155, [(0, .ref 85), (1, .int x1), (3, .int x3)], [.int v18], (Q, hpR s))) rfl ?_
        refine h_lw (lv := [(0, .ref 85), (1, .int x1)]) (fa_c rfl (fa_c rfl (fa_n))) rfl ?_
        exact m206_155_ok hK9 h
    · replace h := if_n h9 h
      refine h_n h9 ?_
      refine h_it 10 (x' := (96, [(0, .ref 85), (1, .int x1), (3, .int x3)], [.int ((8 * x1) + x3), .ref 95, .ref 108], (Q, hpR s))) rfl ?_
      obtain ⟨v19, hv19, h⟩ := Option.bind_eq_some_iff.mp h
      refine h_lald rfl rfl hv19 ?_
      refine h_it 8 (x' := (110, [(0, .ref 85), (1, .int x1), (3, .int x3)], [.int ((8 * x1) + x3), .ref 96, .long v19, .ref 108], (Q, hpR s))) rfl ?_
      obtain ⟨v20, hv20, h⟩ := Option.bind_eq_some_iff.mp h
      refine h_iald rfl rfl hv20 ?_
      obtain ⟨q21, hq21, h⟩ := Option.bind_eq_some_iff.mp h
      refine h_callO (As := [.long v19, .int v20]) (r1 := some (.int q21.1)) (st := []) (H1 := (Q, hpR q21.2)) rfl rfl rfl rfl rfl rfl (m180_ok hq21) ?_
      refine h_it 3 (x' := (66, [(3, .int (x3 + 1)), (2, .int q21.1), (0, .ref 85), (1, .int x1)], [], (Q, hpR q21.2))) rfl ?_
      refine h_lw (lv := [(0, .ref 85), (1, .int x1), (3, .int (x3 + 1))]) (fa_c rfl (fa_c rfl (fa_c rfl (fa_n)))) rfl ?_
      exact ih x1 (x3 + 1) q21.2 _ h
theorem m206_42_ok {K9 : Int32 → xSt → Option (Int32 × xSt)} (hK9 : ∀ (x1 : Int32) (s : xSt) (q : Int32 × xSt), K9 x1 s = some q → HE V L Kc Ks 206 (9, [(0, .ref 85), (1, .int x1)], [], (Q, hpR s)) (some (.int q.1)) (Q, hpR q.2)) {x1 : Int32} {y0 : Bool} {s : xSt} {q : Int32 × xSt} (h : m206_42 K9 x1 y0 s = some q) : HE V L Kc Ks 206 (42, [(0, .ref 85), (1, .int x1)], [.int (b01 y0), .ref 108], (Q, hpR s)) (some (.int q.1)) (Q, hpR q.2) := by
  unfold m206_42 at h
  refine h_it 4 (x' := (50, [(0, .ref 85), (1, .int x1)], [.int x1, .ref 94, .int (b01 y0), .ref 108], (Q, hpR s))) rfl ?_
  obtain ⟨v5, hv5, h⟩ := Option.bind_eq_some_iff.mp h
  refine h_lald rfl rfl hv5 ?_
  refine h_it 4 (x' := (59, [(0, .ref 85), (1, .int x1)], [.int x1, .ref 90, .long v5, .int (b01 y0), .ref 108], (Q, hpR s))) rfl ?_
  obtain ⟨v6, hv6, h⟩ := Option.bind_eq_some_iff.mp h
  refine h_iald rfl rfl hv6 ?_
  obtain ⟨q7, hq7, h⟩ := Option.bind_eq_some_iff.mp h
  refine h_callO (As := [.int (b01 y0), .long v5, .int v6]) (r1 := some (.int q7.1)) (st := []) (H1 := (Q, hpR q7.2)) rfl rfl rfl rfl rfl rfl (m177_ok hq7) ?_
  refine h_it 3 (x' := (66, [(3, .int 0), (2, .int q7.1), (0, .ref 85), (1, .int x1)], [], (Q, hpR q7.2))) rfl ?_
  refine h_lw (lv := [(0, .ref 85), (1, .int x1), (3, .int 0)]) (fa_c rfl (fa_c rfl (fa_c rfl (fa_n)))) rfl ?_
  exact m206_66_ok hK9 1000000 x1 0 q7.2 _ h
theorem m206_9_ok   : ∀ (n : Nat) (x1 : Int32) (s : xSt) (q : Int32 × xSt), m206_9  n x1 s = some q → HE V L Kc Ks 206 (9, [(0, .ref 85), (1, .int x1)], [], (Q, hpR s)) (some (.int q.1)) (Q, hpR q.2) := by
  intro n
  induction n with
  | zero => intro x1 s q h; cases h
  | succ n ih =>
    intro x1 s q h
    unfold m206_9 at h
    refine h_it 4 (x' := (17, [(0, .ref 85), (1, .int x1)], [.int (gI s 27), .int x1], (Q, hpR s))) rfl ?_
    refine h_br (b := decide ((gI s 27) ≤ x1)) (t := 229) (f := 20) (lv' := [(0, .ref 85), (1, .int x1)]) (st' := []) rfl rfl ?_
    by_cases h1 : (gI s 27) ≤ x1
    · replace h := if_y h1 h
      refine h_y h1 ?_
      refine h_it 2 (x' := (233, [(0, .ref 85), (1, .int x1)], [.ref 108], (Q, hpR s))) rfl ?_
      obtain ⟨q2, hq2, h⟩ := Option.bind_eq_some_iff.mp h
      refine h_callO (As := []) (r1 := some (.int q2.1)) (st := []) (H1 := (Q, hpR q2.2)) rfl rfl rfl rfl rfl rfl (m187_ok hq2) ?_
      replace h := Option.some.inj h; subst h
      exact h_iret rfl rfl
    · replace h := if_n h1 h
      refine h_n h1 ?_
      refine h_it 6 (x' := (32, [(0, .ref 85), (1, .int x1)], [.int x1, .ref 89, .ref 108], (Q, hpR s))) rfl ?_
      obtain ⟨v3, hv3, h⟩ := Option.bind_eq_some_iff.mp h
      refine h_iald rfl rfl hv3 ?_
      refine h_it 1 (x' := (34, [(0, .ref 85), (1, .int x1)], [.int 1, .int v3, .ref 108], (Q, hpR s))) rfl ?_
      refine h_br (b := decide (¬ v3 = 1)) (t := 41) (f := 37) (lv' := [(0, .ref 85), (1, .int x1)]) (st' := [.ref 108]) rfl rfl ?_
      by_cases h4 : v3 = 1
      · replace h := if_y h4 h
        refine h_n (fun z => z h4) ?_
        refine h_it 2 (x' := (42, [(0, .ref 85), (1, .int x1)], [.int 1, .ref 108], (Q, hpR s))) rfl ?_
        refine h_lw (lv := [(0, .ref 85), (1, .int x1)]) (fa_c rfl (fa_c rfl (fa_n))) rfl ?_
        exact m206_42_ok ih h
      · replace h := if_n h4 h
        refine h_y h4 ?_
        refine h_it 1 (x' := (42, [(0, .ref 85), (1, .int x1)], [.int 0, .ref 108], (Q, hpR s))) rfl ?_
        refine h_lw (lv := [(0, .ref 85), (1, .int x1)]) (fa_c rfl (fa_c rfl (fa_n))) rfl ?_
        exact m206_42_ok ih h
theorem m206_ok  {s : xSt} {q : Int32 × xSt} (h : m206  s = some q) : HC V L Kc Ks 206 [.ref 85] (Q, hpR s) (some (.int q.1)) (Q, hpR q.2) := by
  unfold m206 at h
  refine hc_of (by decide) rfl ?_
  refine h_it 2 (x' := (4, [(0, .ref 85)], [.ref 108], (Q, hpR s))) rfl ?_
  refine h_callO (As := []) (r1 := none) (st := []) (H1 := (Q, hpR (sI (sI (sZ (sI (sI (sI s 31 0) 32 0) 33 0) 1 false) 34 0) 35 (-1)))) rfl rfl rfl rfl rfl rfl (m176_ok  s) ?_
  refine h_it 2 (x' := (9, [(1, .int 0), (0, .ref 85)], [], (Q, hpR (sI (sI (sZ (sI (sI (sI s 31 0) 32 0) 33 0) 1 false) 34 0) 35 (-1))))) rfl ?_
  refine h_lw (lv := [(0, .ref 85), (1, .int 0)]) (fa_c rfl (fa_c rfl (fa_n))) rfl ?_
  exact m206_9_ok  1000000 0 (sI (sI (sZ (sI (sI (sI s 31 0) 32 0) 33 0) 1 false) 34 0) 35 (-1)) _ h
end Sm206
