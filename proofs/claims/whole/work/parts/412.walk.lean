section Sm195
variable {V : xmV} {L : List Nat} {Kc Ks : Nat} {Q : List xE}
theorem m195_ok {a1 : Int32} {a2 : Int32} {a3 : Int32} {s : xSt} {q : Bool × xSt} (h : m195 a1 a2 a3 s = some q) : HC V L Kc Ks 195 [.ref 108, .int a1, .int a2, .int a3] (Q, hpR s) (some (.int (b01 q.1))) (Q, hpR q.2) := by
  unfold m195 at h
  refine hc_of (by decide) rfl ?_
  refine h_it 2 (x' := (2, [(0, .ref 108), (1, .int a1), (2, .int a2), (3, .int a3)], [.int a3, .int a2], (Q, hpR s))) rfl ?_
  refine h_br (b := decide (a2 = a3)) (t := 15) (f := 5) (lv' := [(0, .ref 108), (1, .int a1), (2, .int a2), (3, .int a3)]) (st' := []) rfl rfl ?_
  by_cases h1 : a2 = a3
  · replace h := if_y h1 h
    refine h_y h1 ?_
    replace h := Option.some.inj h; subst h
    refine h_it 2 (x' := (20, [(0, .ref 108), (1, .int a1), (2, .int a2), (3, .int a3)], [.int (b01 true)], (Q, hpR s))) rfl ?_
    exact h_zret rfl rfl
  · replace h := if_n h1 h
    refine h_n h1 ?_
    refine h_it 3 (x' := (10, [(0, .ref 108), (1, .int a1), (2, .int a2), (3, .int a3)], [.int a2, .ref 120], (Q, hpR s))) rfl ?_
    obtain ⟨v2, hv2, h⟩ := Option.bind_eq_some_iff.mp h
    refine h_iald rfl rfl hv2 ?_
    refine h_it 1 (x' := (12, [(0, .ref 108), (1, .int a1), (2, .int a2), (3, .int a3)], [.int a1, .int v2], (Q, hpR s))) rfl ?_
    refine h_br (b := decide (a1 ≤ v2)) (t := 19) (f := 15) (lv' := [(0, .ref 108), (1, .int a1), (2, .int a2), (3, .int a3)]) (st' := []) rfl rfl ?_
    by_cases h3 : a1 ≤ v2
    · replace h := if_y h3 h
      refine h_y h3 ?_
      replace h := Option.some.inj h; subst h
      refine h_it 1 (x' := (20, [(0, .ref 108), (1, .int a1), (2, .int a2), (3, .int a3)], [.int (b01 false)], (Q, hpR s))) rfl ?_
      exact h_zret rfl rfl
    · replace h := if_n h3 h
      refine h_n h3 ?_
      replace h := Option.some.inj h; subst h
      refine h_it 2 (x' := (20, [(0, .ref 108), (1, .int a1), (2, .int a2), (3, .int a3)], [.int (b01 true)], (Q, hpR s))) rfl ?_
      exact h_zret rfl rfl
end Sm195
section Sm199
variable {V : xmV} {L : List Nat} {Kc Ks : Nat} {Q : List xE}
theorem m199_4_ok   : ∀ (n : Nat) (x1 : Int32) (x2 : Int32) (x3 : Int32) (s : xSt) (q : Int32 × xSt), m199_4  n x1 x2 x3 s = some q → HE V L Kc Ks 199 (4, [(0, .ref 108), (1, .int x1), (2, .int x2), (3, .int x3)], [], (Q, hpR s)) (some (.int q.1)) (Q, hpR q.2) := by
  intro n
  induction n with
  | zero => intro x1 x2 x3 s q h; cases h
  | succ n ih =>
    intro x1 x2 x3 s q h
    unfold m199_4 at h
    refine h_it 3 (x' := (9, [(0, .ref 108), (1, .int x1), (2, .int x2), (3, .int x3)], [.int x3, .ref 120], (Q, hpR s))) rfl ?_
    obtain ⟨v1, hv1, h⟩ := Option.bind_eq_some_iff.mp h
    refine h_iald rfl rfl hv1 ?_
    refine h_it 1 (x' := (11, [(0, .ref 108), (1, .int x1), (2, .int x2), (3, .int x3)], [.int x1, .int v1], (Q, hpR s))) rfl ?_
    refine h_br (b := decide (¬ v1 = x1)) (t := 24) (f := 14) (lv' := [(0, .ref 108), (1, .int x1), (2, .int x2), (3, .int x3)]) (st' := []) rfl rfl ?_
    by_cases h2 : v1 = x1
    · replace h := if_y h2 h
      refine h_n (fun z => z h2) ?_
      refine h_it 3 (x' := (19, [(0, .ref 108), (1, .int x1), (2, .int x2), (3, .int x3)], [.int x3, .ref 121], (Q, hpR s))) rfl ?_
      obtain ⟨v3, hv3, h⟩ := Option.bind_eq_some_iff.mp h
      refine h_iald rfl rfl hv3 ?_
      refine h_it 1 (x' := (21, [(0, .ref 108), (1, .int x1), (2, .int x2), (3, .int x3)], [.int x2, .int v3], (Q, hpR s))) rfl ?_
      refine h_br (b := decide (v3 = x2)) (t := 30) (f := 24) (lv' := [(0, .ref 108), (1, .int x1), (2, .int x2), (3, .int x3)]) (st' := []) rfl rfl ?_
      by_cases h4 : v3 = x2
      · replace h := if_y h4 h
        refine h_y h4 ?_
        replace h := Option.some.inj h; subst h
        refine h_it 1 (x' := (31, [(0, .ref 108), (1, .int x1), (2, .int x2), (3, .int x3)], [.int x3], (Q, hpR s))) rfl ?_
        exact h_iret rfl rfl
      · replace h := if_n h4 h
        refine h_n h4 ?_
        refine h_it 2 (x' := (4, [(3, .int (x3 + 1)), (0, .ref 108), (1, .int x1), (2, .int x2)], [], (Q, hpR s))) rfl ?_
        refine h_lw (lv := [(0, .ref 108), (1, .int x1), (2, .int x2), (3, .int (x3 + 1))]) (fa_c rfl (fa_c rfl (fa_c rfl (fa_c rfl (fa_n))))) rfl ?_
        exact ih x1 x2 (x3 + 1) s _ h
    · replace h := if_n h2 h
      refine h_y h2 ?_
      refine h_it 2 (x' := (4, [(3, .int (x3 + 1)), (0, .ref 108), (1, .int x1), (2, .int x2)], [], (Q, hpR s))) rfl ?_
      refine h_lw (lv := [(0, .ref 108), (1, .int x1), (2, .int x2), (3, .int (x3 + 1))]) (fa_c rfl (fa_c rfl (fa_c rfl (fa_c rfl (fa_n))))) rfl ?_
      exact ih x1 x2 (x3 + 1) s _ h
theorem m199_ok {a1 : Int32} {a2 : Int32} {s : xSt} {q : Int32 × xSt} (h : m199 a1 a2 s = some q) : HC V L Kc Ks 199 [.ref 108, .int a1, .int a2] (Q, hpR s) (some (.int q.1)) (Q, hpR q.2) := by
  unfold m199 at h
  refine hc_of (by decide) rfl ?_
  refine h_it 4 (x' := (4, [(3, .int (a1 + 1)), (0, .ref 108), (1, .int a1), (2, .int a2)], [], (Q, hpR s))) rfl ?_
  refine h_lw (lv := [(0, .ref 108), (1, .int a1), (2, .int a2), (3, .int (a1 + 1))]) (fa_c rfl (fa_c rfl (fa_c rfl (fa_c rfl (fa_n))))) rfl ?_
  exact m199_4_ok  1000000 a1 a2 (a1 + 1) s _ h
end Sm199
section Sm198
variable {V : xmV} {L : List Nat} {Kc Ks : Nat} {Q : List xE}
theorem m198_ok {a1 : Int32} {s : xSt} {q : Int32 × xSt} (h : m198 a1 s = some q) : HC V L Kc Ks 198 [.ref 108, .int a1] (Q, hpR s) (some (.int q.1)) (Q, hpR q.2) := by
  unfold m198 at h
  refine hc_of (by decide) rfl ?_
  refine h_it 3 (x' := (5, [(0, .ref 108), (1, .int a1)], [.int a1, .ref 125], (Q, hpR s))) rfl ?_
  obtain ⟨v1, hv1, h⟩ := Option.bind_eq_some_iff.mp h
  refine h_iald rfl rfl hv1 ?_
  refine h_it 2 (x' := (8, [(2, .int v1), (0, .ref 108), (1, .int a1)], [.int v1], (Q, hpR s))) rfl ?_
  refine h_br (b := decide (0 ≤ v1)) (t := 30) (f := 11) (lv' := [(2, .int v1), (0, .ref 108), (1, .int a1)]) (st' := []) rfl rfl ?_
  by_cases h2 : 0 ≤ v1
  · replace h := if_y h2 h
    refine h_y h2 ?_
    refine h_it 3 (x' := (35, [(2, .int v1), (0, .ref 108), (1, .int a1)], [.int v1, .ref 116], (Q, hpR s))) rfl ?_
    obtain ⟨v3, hv3, h⟩ := Option.bind_eq_some_iff.mp h
    refine h_iald rfl rfl hv3 ?_
    obtain ⟨q4, hq4, h⟩ := Option.bind_eq_some_iff.mp h
    refine h_callS (av := [.int v3]) (r1 := some (.int (b01 q4.1))) (st := []) (H1 := (Q, hpR q4.2)) rfl rfl rfl rfl rfl (m184_ok hq4) ?_
    refine h_br (b := decide ((b01 q4.1) = 0)) (t := 64) (f := 42) (lv' := [(2, .int v1), (0, .ref 108), (1, .int a1)]) (st' := []) rfl rfl ?_
    by_cases h5 : q4.1 = true
    · replace h := if_y h5 h
      refine h_n (b01_1 h5) ?_
      refine h_it 3 (x' := (47, [(2, .int v1), (0, .ref 108), (1, .int a1)], [.int v1, .ref 117], (Q, hpR q4.2))) rfl ?_
      obtain ⟨v6, hv6, h⟩ := Option.bind_eq_some_iff.mp h
      refine h_lald rfl rfl hv6 ?_
      refine h_it 3 (x' := (53, [(2, .int v1), (0, .ref 108), (1, .int a1)], [.int a1, .ref 117, .long v6], (Q, hpR q4.2))) rfl ?_
      obtain ⟨v7, hv7, h⟩ := Option.bind_eq_some_iff.mp h
      refine h_lald rfl rfl hv7 ?_
      refine h_it 1 (x' := (55, [(2, .int v1), (0, .ref 108), (1, .int a1)], [.int (lg_cmp v6 v7)], (Q, hpR q4.2))) rfl ?_
      refine h_br (b := decide (¬ (lg_cmp v6 v7) = 0)) (t := 62) (f := 58) (lv' := [(2, .int v1), (0, .ref 108), (1, .int a1)]) (st' := []) rfl rfl ?_
      by_cases h8 : (lg_cmp v6 v7) = 0
      · replace h := if_y h8 h
        refine h_n (fun z => z h8) ?_
        replace h := Option.some.inj h; subst h
        refine h_it 2 (x' := (63, [(2, .int v1), (0, .ref 108), (1, .int a1)], [.int 0], (Q, hpR q4.2))) rfl ?_
        exact h_iret rfl rfl
      · replace h := if_n h8 h
        refine h_y h8 ?_
        replace h := Option.some.inj h; subst h
        refine h_it 1 (x' := (63, [(2, .int v1), (0, .ref 108), (1, .int a1)], [.int 3], (Q, hpR q4.2))) rfl ?_
        exact h_iret rfl rfl
    · replace h := if_n h5 h
      refine h_y (b01_0 h5) ?_
      refine h_it 5 (x' := (71, [(2, .int v1), (0, .ref 108), (1, .int a1)], [.int 0, .int v1, .ref 108, .ref 124], (Q, hpR q4.2))) rfl ?_
      obtain ⟨q9, hq9, h⟩ := Option.bind_eq_some_iff.mp h
      refine h_callO (As := [.int v1, .int 0]) (r1 := some (.int q9.1)) (st := [.ref 124]) (H1 := (Q, hpR q9.2)) rfl rfl rfl rfl rfl rfl (m199_ok hq9) ?_
      obtain ⟨v10, hv10, h⟩ := Option.bind_eq_some_iff.mp h
      refine h_iald rfl rfl hv10 ?_
      refine h_it 4 (x' := (81, [(3, .int v10), (2, .int v1), (0, .ref 108), (1, .int a1)], [.int v1, .ref 116], (Q, hpR q9.2))) rfl ?_
      obtain ⟨v11, hv11, h⟩ := Option.bind_eq_some_iff.mp h
      refine h_iald rfl rfl hv11 ?_
      refine h_it 1 (x' := (84, [(3, .int v10), (2, .int v1), (0, .ref 108), (1, .int a1)], [.int 18, .int v11], (Q, hpR q9.2))) rfl ?_
      refine h_br (b := decide (¬ v11 = 18)) (t := 100) (f := 87) (lv' := [(3, .int v10), (2, .int v1), (0, .ref 108), (1, .int a1)]) (st' := []) rfl rfl ?_
      by_cases h12 : v11 = 18
      · replace h := if_y h12 h
        refine h_n (fun z => z h12) ?_
        refine h_it 2 (x' := (89, [(3, .int v10), (2, .int v1), (0, .ref 108), (1, .int a1)], [.int 2, .int v10], (Q, hpR q9.2))) rfl ?_
        refine h_br (b := decide (¬ v10 = 2)) (t := 96) (f := 92) (lv' := [(3, .int v10), (2, .int v1), (0, .ref 108), (1, .int a1)]) (st' := []) rfl rfl ?_
        by_cases h13 : v10 = 2
        · replace h := if_y h13 h
          refine h_n (fun z => z h13) ?_
          replace h := Option.some.inj h; subst h
          refine h_it 2 (x' := (101, [(3, .int v10), (2, .int v1), (0, .ref 108), (1, .int a1)], [.int 0], (Q, hpR q9.2))) rfl ?_
          exact h_iret rfl rfl
        · replace h := if_n h13 h
          refine h_y h13 ?_
          replace h := Option.some.inj h; subst h
          refine h_it 2 (x' := (101, [(3, .int v10), (2, .int v1), (0, .ref 108), (1, .int a1)], [.int 1], (Q, hpR q9.2))) rfl ?_
          exact h_iret rfl rfl
      · replace h := if_n h12 h
        refine h_y h12 ?_
        replace h := Option.some.inj h; subst h
        refine h_it 1 (x' := (101, [(3, .int v10), (2, .int v1), (0, .ref 108), (1, .int a1)], [.int v10], (Q, hpR q9.2))) rfl ?_
        exact h_iret rfl rfl
  · replace h := if_n h2 h
    refine h_n h2 ?_
    refine h_it 6 (x' := (22, [(2, .int v1), (0, .ref 108), (1, .int a1)], [.int a1, .ref 122, .int 8, .ref 114], (Q, hpR s))) rfl ?_
    obtain ⟨v14, hv14, h⟩ := Option.bind_eq_some_iff.mp h
    refine h_iald rfl rfl hv14 ?_
    refine h_it 5 (x' := (28, [(2, .int v1), (0, .ref 108), (1, .int a1)], [.int (((8 * v14) - 2) - v1), .ref 114], (Q, hpR s))) rfl ?_
    obtain ⟨v15, hv15, h⟩ := Option.bind_eq_some_iff.mp h
    refine h_iald rfl rfl hv15 ?_
    replace h := Option.some.inj h; subst h
    exact h_iret rfl rfl
end Sm198
section Sm197
variable {V : xmV} {L : List Nat} {Kc Ks : Nat} {Q : List xE}
theorem m197_66_ok   {x1 : Int32} {s : xSt} {q : Int32 × xSt} (h : m197_66  x1 s = some q) : HE V L Kc Ks 197 (66, [(0, .ref 108), (1, .int x1)], [], (Q, hpR s)) (some (.int q.1)) (Q, hpR q.2) := by
  unfold m197_66 at h
  refine h_it 5 (x' := (75, [(0, .ref 108), (1, .int x1)], [.int x1, .ref 126, .ref 111], (Q, hpR s))) rfl ?_
  obtain ⟨v9, hv9, h⟩ := Option.bind_eq_some_iff.mp h
  refine h_iald rfl rfl hv9 ?_
  obtain ⟨v10, hv10, h⟩ := Option.bind_eq_some_iff.mp h
  refine h_iald rfl rfl hv10 ?_
  replace h := Option.some.inj h; subst h
  exact h_iret rfl rfl
theorem m197_35_ok   {x1 : Int32} {x2 : Int32} {s : xSt} {q : Int32 × xSt} (h : m197_35  x1 x2 s = some q) : HE V L Kc Ks 197 (35, [(0, .ref 108), (1, .int x1), (2, .int x2)], [], (Q, hpR s)) (some (.int q.1)) (Q, hpR q.2) := by
  unfold m197_35 at h
  refine h_it 2 (x' := (37, [(0, .ref 108), (1, .int x1), (2, .int x2)], [.int 2, .int x2], (Q, hpR s))) rfl ?_
  refine h_br (b := decide (x2 = 2)) (t := 46) (f := 40) (lv' := [(0, .ref 108), (1, .int x1), (2, .int x2)]) (st' := []) rfl rfl ?_
  by_cases h6 : x2 = 2
  · replace h := if_y h6 h
    refine h_y h6 ?_
    replace h := Option.some.inj h; subst h
    refine h_it 1 (x' := (47, [(0, .ref 108), (1, .int x1), (2, .int x2)], [.int 1], (Q, hpR s))) rfl ?_
    exact h_iret rfl rfl
  · replace h := if_n h6 h
    refine h_n h6 ?_
    refine h_it 2 (x' := (43, [(0, .ref 108), (1, .int x1), (2, .int x2)], [.int 13, .int x2], (Q, hpR s))) rfl ?_
    refine h_br (b := decide (¬ x2 = 13)) (t := 48) (f := 46) (lv' := [(0, .ref 108), (1, .int x1), (2, .int x2)]) (st' := []) rfl rfl ?_
    by_cases h7 : x2 = 13
    · replace h := if_y h7 h
      refine h_n (fun z => z h7) ?_
      replace h := Option.some.inj h; subst h
      refine h_it 1 (x' := (47, [(0, .ref 108), (1, .int x1), (2, .int x2)], [.int 1], (Q, hpR s))) rfl ?_
      exact h_iret rfl rfl
    · replace h := if_n h7 h
      refine h_y h7 ?_
      refine h_it 2 (x' := (51, [(0, .ref 108), (1, .int x1), (2, .int x2)], [.int 14, .int x2], (Q, hpR s))) rfl ?_
      refine h_br (b := decide (x2 = 14)) (t := 66) (f := 54) (lv' := [(0, .ref 108), (1, .int x1), (2, .int x2)]) (st' := []) rfl rfl ?_
      by_cases h8 : x2 = 14
      · replace h := if_y h8 h
        refine h_y h8 ?_
        refine h_lw (lv := [(0, .ref 108), (1, .int x1)]) (fa_c rfl (fa_c rfl (fa_n))) rfl ?_
        exact m197_66_ok  h
      · replace h := if_n h8 h
        refine h_n h8 ?_
        refine h_it 2 (x' := (57, [(0, .ref 108), (1, .int x1), (2, .int x2)], [.int 15, .int x2], (Q, hpR s))) rfl ?_
        refine h_br (b := decide (x2 = 15)) (t := 66) (f := 60) (lv' := [(0, .ref 108), (1, .int x1), (2, .int x2)]) (st' := []) rfl rfl ?_
        by_cases h11 : x2 = 15
        · replace h := if_y h11 h
          refine h_y h11 ?_
          refine h_lw (lv := [(0, .ref 108), (1, .int x1)]) (fa_c rfl (fa_c rfl (fa_n))) rfl ?_
          exact m197_66_ok  h
        · replace h := if_n h11 h
          refine h_n h11 ?_
          refine h_it 2 (x' := (63, [(0, .ref 108), (1, .int x1), (2, .int x2)], [.int 23, .int x2], (Q, hpR s))) rfl ?_
          refine h_br (b := decide (¬ x2 = 23)) (t := 78) (f := 66) (lv' := [(0, .ref 108), (1, .int x1), (2, .int x2)]) (st' := []) rfl rfl ?_
          by_cases h12 : x2 = 23
          · replace h := if_y h12 h
            refine h_n (fun z => z h12) ?_
            refine h_lw (lv := [(0, .ref 108), (1, .int x1)]) (fa_c rfl (fa_c rfl (fa_n))) rfl ?_
            exact m197_66_ok  h
          · replace h := if_n h12 h
            refine h_y h12 ?_
            refine h_it 2 (x' := (81, [(0, .ref 108), (1, .int x1), (2, .int x2)], [.int 16, .int x2], (Q, hpR s))) rfl ?_
            refine h_br (b := decide (¬ x2 = 16)) (t := 88) (f := 84) (lv' := [(0, .ref 108), (1, .int x1), (2, .int x2)]) (st' := []) rfl rfl ?_
            by_cases h13 : x2 = 16
            · replace h := if_y h13 h
              refine h_n (fun z => z h13) ?_
              replace h := Option.some.inj h; subst h
              refine h_it 2 (x' := (116, [(0, .ref 108), (1, .int x1), (2, .int x2)], [.int 2], (Q, hpR s))) rfl ?_
              exact h_iret rfl rfl
            · replace h := if_n h13 h
              refine h_y h13 ?_
              refine h_it 2 (x' := (91, [(0, .ref 108), (1, .int x1), (2, .int x2)], [.int 17, .int x2], (Q, hpR s))) rfl ?_
              refine h_br (b := decide (¬ x2 = 17)) (t := 98) (f := 94) (lv' := [(0, .ref 108), (1, .int x1), (2, .int x2)]) (st' := []) rfl rfl ?_
              by_cases h14 : x2 = 17
              · replace h := if_y h14 h
                refine h_n (fun z => z h14) ?_
                replace h := Option.some.inj h; subst h
                refine h_it 2 (x' := (116, [(0, .ref 108), (1, .int x1), (2, .int x2)], [.int 3], (Q, hpR s))) rfl ?_
                exact h_iret rfl rfl
              · replace h := if_n h14 h
                refine h_y h14 ?_
                refine h_it 7 (x' := (109, [(0, .ref 108), (1, .int x1), (2, .int x2)], [.int x1, .ref 119, .int x1, .ref 108, .ref 124], (Q, hpR s))) rfl ?_
                obtain ⟨v15, hv15, h⟩ := Option.bind_eq_some_iff.mp h
                refine h_iald rfl rfl hv15 ?_
                refine h_it 2 (x' := (112, [(0, .ref 108), (1, .int x1), (2, .int x2)], [.int (v15 - 1), .int x1, .ref 108, .ref 124], (Q, hpR s))) rfl ?_
                obtain ⟨q16, hq16, h⟩ := Option.bind_eq_some_iff.mp h
                refine h_callO (As := [.int x1, .int (v15 - 1)]) (r1 := some (.int q16.1)) (st := [.ref 124]) (H1 := (Q, hpR q16.2)) rfl rfl rfl rfl rfl rfl (m199_ok hq16) ?_
                obtain ⟨v17, hv17, h⟩ := Option.bind_eq_some_iff.mp h
                refine h_iald rfl rfl hv17 ?_
                replace h := Option.some.inj h; subst h
                exact h_iret rfl rfl
theorem m197_ok {a1 : Int32} {s : xSt} {q : Int32 × xSt} (h : m197 a1 s = some q) : HC V L Kc Ks 197 [.ref 108, .int a1] (Q, hpR s) (some (.int q.1)) (Q, hpR q.2) := by
  unfold m197 at h
  refine hc_of (by decide) rfl ?_
  refine h_it 3 (x' := (5, [(0, .ref 108), (1, .int a1)], [.int a1, .ref 116], (Q, hpR s))) rfl ?_
  obtain ⟨v1, hv1, h⟩ := Option.bind_eq_some_iff.mp h
  refine h_iald rfl rfl hv1 ?_
  refine h_it 3 (x' := (9, [(2, .int v1), (0, .ref 108), (1, .int a1)], [.int 1, .int v1], (Q, hpR s))) rfl ?_
  refine h_br (b := decide (¬ v1 = 1)) (t := 18) (f := 12) (lv' := [(2, .int v1), (0, .ref 108), (1, .int a1)]) (st' := []) rfl rfl ?_
  by_cases h2 : v1 = 1
  · replace h := if_y h2 h
    refine h_n (fun z => z h2) ?_
    refine h_it 2 (x' := (14, [(2, .int v1), (0, .ref 108), (1, .int a1)], [.int a1, .ref 108], (Q, hpR s))) rfl ?_
    obtain ⟨q3, hq3, h⟩ := Option.bind_eq_some_iff.mp h
    refine h_callO (As := [.int a1]) (r1 := some (.int q3.1)) (st := []) (H1 := (Q, hpR q3.2)) rfl rfl rfl rfl rfl rfl (m198_ok hq3) ?_
    replace h := Option.some.inj h; subst h
    exact h_iret rfl rfl
  · replace h := if_n h2 h
    refine h_y h2 ?_
    refine h_it 1 (x' := (19, [(2, .int v1), (0, .ref 108), (1, .int a1)], [.int v1], (Q, hpR s))) rfl ?_
    refine h_br (b := decide (v1 = 0)) (t := 33) (f := 22) (lv' := [(2, .int v1), (0, .ref 108), (1, .int a1)]) (st' := []) rfl rfl ?_
    by_cases h4 : v1 = 0
    · replace h := if_y h4 h
      refine h_y h4 ?_
      replace h := Option.some.inj h; subst h
      refine h_it 1 (x' := (34, [(2, .int v1), (0, .ref 108), (1, .int a1)], [.int 0], (Q, hpR s))) rfl ?_
      exact h_iret rfl rfl
    · replace h := if_n h4 h
      refine h_n h4 ?_
      refine h_it 2 (x' := (24, [(2, .int v1), (0, .ref 108), (1, .int a1)], [.int 3, .int v1], (Q, hpR s))) rfl ?_
      refine h_br (b := decide (v1 < 3)) (t := 35) (f := 27) (lv' := [(2, .int v1), (0, .ref 108), (1, .int a1)]) (st' := []) rfl rfl ?_
      by_cases h5 : v1 < 3
      · replace h := if_y h5 h
        refine h_y h5 ?_
        refine h_lw (lv := [(0, .ref 108), (1, .int a1), (2, .int v1)]) (fa_c rfl (fa_c rfl (fa_c rfl (fa_n)))) rfl ?_
        exact m197_35_ok  h
      · replace h := if_n h5 h
        refine h_n h5 ?_
        refine h_it 2 (x' := (30, [(2, .int v1), (0, .ref 108), (1, .int a1)], [.int 9, .int v1], (Q, hpR s))) rfl ?_
        refine h_br (b := decide (9 < v1)) (t := 35) (f := 33) (lv' := [(2, .int v1), (0, .ref 108), (1, .int a1)]) (st' := []) rfl rfl ?_
        by_cases h18 : 9 < v1
        · replace h := if_y h18 h
          refine h_y h18 ?_
          refine h_lw (lv := [(0, .ref 108), (1, .int a1), (2, .int v1)]) (fa_c rfl (fa_c rfl (fa_c rfl (fa_n)))) rfl ?_
          exact m197_35_ok  h
        · replace h := if_n h18 h
          refine h_n h18 ?_
          replace h := Option.some.inj h; subst h
          refine h_it 1 (x' := (34, [(2, .int v1), (0, .ref 108), (1, .int a1)], [.int 0], (Q, hpR s))) rfl ?_
          exact h_iret rfl rfl
end Sm197
section Sm200
variable {V : xmV} {L : List Nat} {Kc Ks : Nat} {Q : List xE}
theorem m200_171_ok   {y0 : Int32} {y1 : Int32} {s : xSt} {q : Bool × xSt} (h : m200_171  y0 y1 s = some q) : HE V L Kc Ks 200 (171, [], [.int y0, .int y1], (Q, hpR s)) (some (.int (b01 q.1))) (Q, hpR q.2) := by
  unfold m200_171 at h
  refine h_br (b := decide (¬ y1 = y0)) (t := 178) (f := 174) (lv' := []) (st' := []) rfl rfl ?_
  by_cases h11 : y1 = y0
  · replace h := if_y h11 h
    refine h_n (fun z => z h11) ?_
    replace h := Option.some.inj h; subst h
    refine h_it 2 (x' := (179, [], [.int (b01 true)], (Q, hpR s))) rfl ?_
    exact h_zret rfl rfl
  · replace h := if_n h11 h
    refine h_y h11 ?_
    replace h := Option.some.inj h; subst h
    refine h_it 1 (x' := (179, [], [.int (b01 false)], (Q, hpR s))) rfl ?_
    exact h_zret rfl rfl
theorem m200_249_ok   {y0 : Bool} {y1 : Int32} {s : xSt} {q : Bool × xSt} (h : m200_249  y0 y1 s = some q) : HE V L Kc Ks 200 (249, [], [.int (b01 y0), .int y1], (Q, hpR s)) (some (.int (b01 q.1))) (Q, hpR q.2) := by
  unfold m200_249 at h
  refine h_br (b := decide (¬ y1 = (b01 y0))) (t := 256) (f := 252) (lv' := []) (st' := []) rfl rfl ?_
  by_cases h24 : y1 = (b01 y0)
  · replace h := if_y h24 h
    refine h_n (fun z => z h24) ?_
    replace h := Option.some.inj h; subst h
    refine h_it 2 (x' := (286, [], [.int (b01 true)], (Q, hpR s))) rfl ?_
    exact h_zret rfl rfl
  · replace h := if_n h24 h
    refine h_y h24 ?_
    replace h := Option.some.inj h; subst h
    refine h_it 2 (x' := (286, [], [.int (b01 false)], (Q, hpR s))) rfl ?_
    exact h_zret rfl rfl
set_option maxHeartbeats 20000000 in
theorem m200_ok {a1 : Int32} {a2 : Int32} {s : xSt} {q : Bool × xSt} (h : m200 a1 a2 s = some q) : HC V L Kc Ks 200 [.ref 108, .int a1, .int a2] (Q, hpR s) (some (.int (b01 q.1))) (Q, hpR q.2) := by
  unfold m200 at h
  refine hc_of (by decide) rfl ?_
  refine h_it 3 (x' := (5, [(0, .ref 108), (1, .int a1), (2, .int a2)], [.int a1, .ref 120], (Q, hpR s))) rfl ?_
  obtain ⟨v1, hv1, h⟩ := Option.bind_eq_some_iff.mp h
  refine h_iald rfl rfl hv1 ?_
  refine h_it 2 (x' := (8, [(3, .int v1), (0, .ref 108), (1, .int a1), (2, .int a2)], [.int v1], (Q, hpR s))) rfl ?_
  refine h_br (b := decide (0 ≤ v1)) (t := 32) (f := 11) (lv' := [(3, .int v1), (0, .ref 108), (1, .int a1), (2, .int a2)]) (st' := []) rfl rfl ?_
  by_cases h2 : 0 ≤ v1
  · replace h := if_y h2 h
    refine h_y h2 ?_
    refine h_it 3 (x' := (37, [(3, .int v1), (0, .ref 108), (1, .int a1), (2, .int a2)], [.int a1, .ref 121], (Q, hpR s))) rfl ?_
    obtain ⟨v3, hv3, h⟩ := Option.bind_eq_some_iff.mp h
    refine h_iald rfl rfl hv3 ?_
    refine h_it 4 (x' := (45, [(4, .int v3), (3, .int v1), (0, .ref 108), (1, .int a1), (2, .int a2)], [.int v1, .ref 116], (Q, hpR s))) rfl ?_
    obtain ⟨v4, hv4, h⟩ := Option.bind_eq_some_iff.mp h
    refine h_iald rfl rfl hv4 ?_
    refine h_it 2 (x' := (50, [(5, .int v4), (4, .int v3), (3, .int v1), (0, .ref 108), (1, .int a1), (2, .int a2)], [.int v4], (Q, hpR s))) rfl ?_
    obtain ⟨q5, hq5, h⟩ := Option.bind_eq_some_iff.mp h
    refine h_callS (av := [.int v4]) (r1 := some (.int q5.1)) (st := []) (H1 := (Q, hpR q5.2)) rfl rfl rfl rfl rfl (m185_ok hq5) ?_
    refine h_br (b := decide (0 ≤ q5.1)) (t := 83) (f := 56) (lv' := [(5, .int v4), (4, .int v3), (3, .int v1), (0, .ref 108), (1, .int a1), (2, .int a2)]) (st' := []) rfl rfl ?_
    by_cases h6 : 0 ≤ q5.1
    · replace h := if_y h6 h
      refine h_y h6 ?_
      refine h_it 2 (x' := (87, [(5, .int v4), (4, .int v3), (3, .int v1), (0, .ref 108), (1, .int a1), (2, .int a2)], [.int 9, .int v4], (Q, hpR q5.2))) rfl ?_
      refine h_br (b := decide (9 < v4)) (t := 100) (f := 90) (lv' := [(5, .int v4), (4, .int v3), (3, .int v1), (0, .ref 108), (1, .int a1), (2, .int a2)]) (st' := []) rfl rfl ?_
      by_cases h7 : 9 < v4
      · replace h := if_y h7 h
        refine h_y h7 ?_
        refine h_it 1 (x' := (102, [(5, .int v4), (4, .int v3), (3, .int v1), (0, .ref 108), (1, .int a1), (2, .int a2)], [.int v4], (Q, hpR q5.2))) rfl ?_
        by_cases h8 : v4 = 11 ∨ v4 = 21
        · replace h := if_y h8 h
          refine h_ts (t := 228) rfl (by rcases h8 with e9 | e9 <;> rw [e9] <;> decide) ?_
          replace h := Option.some.inj h; subst h
          refine h_it 1 (x' := (229, [(5, .int v4), (4, .int v3), (3, .int v1), (0, .ref 108), (1, .int a1), (2, .int a2)], [.int (b01 true)], (Q, hpR q5.2))) rfl ?_
          exact h_zret rfl rfl
        replace h := if_n h8 h
        by_cases h9 : v4 = 13
        · replace h := if_y h9 h
          refine h_ts (t := 160) rfl (by rw [h9]; decide) ?_
          refine h_it 2 (x' := (163, [(5, .int v4), (4, .int v3), (3, .int v1), (0, .ref 108), (1, .int a1), (2, .int a2)], [.int v3, .int a2], (Q, hpR q5.2))) rfl ?_
          refine h_br (b := decide (¬ v3 = 0)) (t := 170) (f := 166) (lv' := [(5, .int v4), (4, .int v3), (3, .int v1), (0, .ref 108), (1, .int a1), (2, .int a2)]) (st' := [.int a2]) rfl rfl ?_
          by_cases h10 : v3 = 0
          · replace h := if_y h10 h
            refine h_n (fun z => z h10) ?_
            refine h_it 2 (x' := (171, [(5, .int v4), (4, .int v3), (3, .int v1), (0, .ref 108), (1, .int a1), (2, .int a2)], [.int 0, .int a2], (Q, hpR q5.2))) rfl ?_
            refine h_lw (lv := []) (fa_n) rfl ?_
            exact m200_171_ok  h
          · replace h := if_n h10 h
            refine h_y h10 ?_
            refine h_it 1 (x' := (171, [(5, .int v4), (4, .int v3), (3, .int v1), (0, .ref 108), (1, .int a1), (2, .int a2)], [.int 3, .int a2], (Q, hpR q5.2))) rfl ?_
            refine h_lw (lv := []) (fa_n) rfl ?_
            exact m200_171_ok  h
        replace h := if_n h9 h
        by_cases h12 : v4 = 16
        · replace h := if_y h12 h
          refine h_ts (t := 180) rfl (by rw [h12]; decide) ?_
          refine h_it 1 (x' := (181, [(5, .int v4), (4, .int v3), (3, .int v1), (0, .ref 108), (1, .int a1), (2, .int a2)], [.int a2], (Q, hpR q5.2))) rfl ?_
          refine h_br (b := decide (¬ a2 = 0)) (t := 188) (f := 184) (lv' := [(5, .int v4), (4, .int v3), (3, .int v1), (0, .ref 108), (1, .int a1), (2, .int a2)]) (st' := []) rfl rfl ?_
          by_cases h13 : a2 = 0
          · replace h := if_y h13 h
            refine h_n (fun z => z h13) ?_
            replace h := Option.some.inj h; subst h
            refine h_it 2 (x' := (189, [(5, .int v4), (4, .int v3), (3, .int v1), (0, .ref 108), (1, .int a1), (2, .int a2)], [.int (b01 true)], (Q, hpR q5.2))) rfl ?_
            exact h_zret rfl rfl
          · replace h := if_n h13 h
            refine h_y h13 ?_
            replace h := Option.some.inj h; subst h
            refine h_it 1 (x' := (189, [(5, .int v4), (4, .int v3), (3, .int v1), (0, .ref 108), (1, .int a1), (2, .int a2)], [.int (b01 false)], (Q, hpR q5.2))) rfl ?_
            exact h_zret rfl rfl
        replace h := if_n h12 h
        by_cases h14 : v4 = 17
        · replace h := if_y h14 h
          refine h_ts (t := 190) rfl (by rw [h14]; decide) ?_
          refine h_it 2 (x' := (192, [(5, .int v4), (4, .int v3), (3, .int v1), (0, .ref 108), (1, .int a1), (2, .int a2)], [.int 1, .int a2], (Q, hpR q5.2))) rfl ?_
          refine h_br (b := decide (¬ a2 = 1)) (t := 199) (f := 195) (lv' := [(5, .int v4), (4, .int v3), (3, .int v1), (0, .ref 108), (1, .int a1), (2, .int a2)]) (st' := []) rfl rfl ?_
          by_cases h15 : a2 = 1
          · replace h := if_y h15 h
            refine h_n (fun z => z h15) ?_
            replace h := Option.some.inj h; subst h
            refine h_it 2 (x' := (200, [(5, .int v4), (4, .int v3), (3, .int v1), (0, .ref 108), (1, .int a1), (2, .int a2)], [.int (b01 true)], (Q, hpR q5.2))) rfl ?_
            exact h_zret rfl rfl
          · replace h := if_n h15 h
            refine h_y h15 ?_
            replace h := Option.some.inj h; subst h
            refine h_it 1 (x' := (200, [(5, .int v4), (4, .int v3), (3, .int v1), (0, .ref 108), (1, .int a1), (2, .int a2)], [.int (b01 false)], (Q, hpR q5.2))) rfl ?_
            exact h_zret rfl rfl
        replace h := if_n h14 h
        by_cases h16 : v4 = 18
        · replace h := if_y h16 h
          refine h_ts (t := 201) rfl (by rw [h16]; decide) ?_
          refine h_it 1 (x' := (203, [(5, .int v4), (4, .int v3), (3, .int v1), (0, .ref 108), (1, .int a1), (2, .int a2)], [.int v3], (Q, hpR q5.2))) rfl ?_
          refine h_br (b := decide (0 < v3)) (t := 211) (f := 206) (lv' := [(5, .int v4), (4, .int v3), (3, .int v1), (0, .ref 108), (1, .int a1), (2, .int a2)]) (st' := []) rfl rfl ?_
          by_cases h17 : 0 < v3
          · replace h := if_y h17 h
            refine h_y h17 ?_
            replace h := Option.some.inj h; subst h
            refine h_it 2 (x' := (216, [(5, .int v4), (4, .int v3), (3, .int v1), (0, .ref 108), (1, .int a1), (2, .int a2)], [.int (b01 true)], (Q, hpR q5.2))) rfl ?_
            exact h_zret rfl rfl
          · replace h := if_n h17 h
            refine h_n h17 ?_
            refine h_it 2 (x' := (208, [(5, .int v4), (4, .int v3), (3, .int v1), (0, .ref 108), (1, .int a1), (2, .int a2)], [.int 1, .int a2], (Q, hpR q5.2))) rfl ?_
            refine h_br (b := decide (a2 ≤ 1)) (t := 215) (f := 211) (lv' := [(5, .int v4), (4, .int v3), (3, .int v1), (0, .ref 108), (1, .int a1), (2, .int a2)]) (st' := []) rfl rfl ?_
            by_cases h18 : a2 ≤ 1
            · replace h := if_y h18 h
              refine h_y h18 ?_
              replace h := Option.some.inj h; subst h
              refine h_it 1 (x' := (216, [(5, .int v4), (4, .int v3), (3, .int v1), (0, .ref 108), (1, .int a1), (2, .int a2)], [.int (b01 false)], (Q, hpR q5.2))) rfl ?_
              exact h_zret rfl rfl
            · replace h := if_n h18 h
              refine h_n h18 ?_
              replace h := Option.some.inj h; subst h
              refine h_it 2 (x' := (216, [(5, .int v4), (4, .int v3), (3, .int v1), (0, .ref 108), (1, .int a1), (2, .int a2)], [.int (b01 true)], (Q, hpR q5.2))) rfl ?_
              exact h_zret rfl rfl
        replace h := if_n h16 h
        by_cases h19 : v4 = 19
        · replace h := if_y h19 h
          refine h_ts (t := 217) rfl (by rw [h19]; decide) ?_
          refine h_it 2 (x' := (219, [(5, .int v4), (4, .int v3), (3, .int v1), (0, .ref 108), (1, .int a1), (2, .int a2)], [.int 2, .int a2], (Q, hpR q5.2))) rfl ?_
          refine h_br (b := decide (2 ≤ a2)) (t := 226) (f := 222) (lv' := [(5, .int v4), (4, .int v3), (3, .int v1), (0, .ref 108), (1, .int a1), (2, .int a2)]) (st' := []) rfl rfl ?_
          by_cases h20 : 2 ≤ a2
          · replace h := if_y h20 h
            refine h_y h20 ?_
            replace h := Option.some.inj h; subst h
            refine h_it 1 (x' := (227, [(5, .int v4), (4, .int v3), (3, .int v1), (0, .ref 108), (1, .int a1), (2, .int a2)], [.int (b01 false)], (Q, hpR q5.2))) rfl ?_
            exact h_zret rfl rfl
          · replace h := if_n h20 h
            refine h_n h20 ?_
            replace h := Option.some.inj h; subst h
            refine h_it 2 (x' := (227, [(5, .int v4), (4, .int v3), (3, .int v1), (0, .ref 108), (1, .int a1), (2, .int a2)], [.int (b01 true)], (Q, hpR q5.2))) rfl ?_
            exact h_zret rfl rfl
        replace h := if_n h19 h
        refine h_ts (t := 230) rfl (ts_d [11, 21, 13, 16, 17, 18, 19] rfl (by decide) (fun v hv => by
            simp only [List.mem_cons, List.not_mem_nil, or_false] at hv
            rcases hv with rfl | rfl | rfl | rfl | rfl | rfl | rfl
            · exact (fun e9 => h8 (Or.inl e9))
            · exact (fun e9 => h8 (Or.inr (e9)))
            · exact h9
            · exact h12
            · exact h14
            · exact h16
            · exact h19)) ?_
        refine h_it 1 (x' := (232, [(5, .int v4), (4, .int v3), (3, .int v1), (0, .ref 108), (1, .int a1), (2, .int a2)], [.int v3], (Q, hpR q5.2))) rfl ?_
        refine h_br (b := decide (¬ v3 = 0)) (t := 260) (f := 235) (lv' := [(5, .int v4), (4, .int v3), (3, .int v1), (0, .ref 108), (1, .int a1), (2, .int a2)]) (st' := []) rfl rfl ?_
        by_cases h21 : v3 = 0
        · replace h := if_y h21 h
          refine h_n (fun z => z h21) ?_
          refine h_it 2 (x' := (238, [(5, .int v4), (4, .int v3), (3, .int v1), (0, .ref 108), (1, .int a1), (2, .int a2)], [.int v4, .int a2], (Q, hpR q5.2))) rfl ?_
          obtain ⟨q22, hq22, h⟩ := Option.bind_eq_some_iff.mp h
          refine h_callS (av := [.int v4]) (r1 := some (.int (b01 q22.1))) (st := [.int a2]) (H1 := (Q, hpR q22.2)) rfl rfl rfl rfl rfl (m184_ok hq22) ?_
          refine h_br (b := decide ((b01 q22.1) = 0)) (t := 248) (f := 244) (lv' := [(5, .int v4), (4, .int v3), (3, .int v1), (0, .ref 108), (1, .int a1), (2, .int a2)]) (st' := [.int a2]) rfl rfl ?_
          by_cases h23 : q22.1 = true
          · replace h := if_y h23 h
            refine h_n (b01_1 h23) ?_
            refine h_it 2 (x' := (249, [(5, .int v4), (4, .int v3), (3, .int v1), (0, .ref 108), (1, .int a1), (2, .int a2)], [.int 1, .int a2], (Q, hpR q22.2))) rfl ?_
            refine h_lw (lv := []) (fa_n) rfl ?_
            exact m200_249_ok  h
          · replace h := if_n h23 h
            refine h_y (b01_0 h23) ?_
            refine h_it 1 (x' := (249, [(5, .int v4), (4, .int v3), (3, .int v1), (0, .ref 108), (1, .int a1), (2, .int a2)], [.int 0, .int a2], (Q, hpR q22.2))) rfl ?_
            refine h_lw (lv := []) (fa_n) rfl ?_
            exact m200_249_ok  h
        · replace h := if_n h21 h
          refine h_y h21 ?_
          refine h_it 2 (x' := (263, [(5, .int v4), (4, .int v3), (3, .int v1), (0, .ref 108), (1, .int a1), (2, .int a2)], [.int 1, .int v3], (Q, hpR q5.2))) rfl ?_
          refine h_br (b := decide (v3 = 1)) (t := 281) (f := 266) (lv' := [(5, .int v4), (4, .int v3), (3, .int v1), (0, .ref 108), (1, .int a1), (2, .int a2)]) (st' := []) rfl rfl ?_
          by_cases h25 : v3 = 1
          · replace h := if_y h25 h
            refine h_y h25 ?_
            replace h := Option.some.inj h; subst h
            refine h_it 2 (x' := (286, [(5, .int v4), (4, .int v3), (3, .int v1), (0, .ref 108), (1, .int a1), (2, .int a2)], [.int (b01 true)], (Q, hpR q5.2))) rfl ?_
            exact h_zret rfl rfl
          · replace h := if_n h25 h
            refine h_n h25 ?_
            refine h_it 6 (x' := (274, [(5, .int v4), (4, .int v3), (3, .int v1), (0, .ref 108), (1, .int a1), (2, .int a2)], [.int 1, .int v1, .ref 108, .ref 124, .int a2], (Q, hpR q5.2))) rfl ?_
            obtain ⟨q26, hq26, h⟩ := Option.bind_eq_some_iff.mp h
            refine h_callO (As := [.int v1, .int 1]) (r1 := some (.int q26.1)) (st := [.ref 124, .int a2]) (H1 := (Q, hpR q26.2)) rfl rfl rfl rfl rfl rfl (m199_ok hq26) ?_
            obtain ⟨v27, hv27, h⟩ := Option.bind_eq_some_iff.mp h
            refine h_iald rfl rfl hv27 ?_
            refine h_br (b := decide (¬ a2 = v27)) (t := 285) (f := 281) (lv' := [(5, .int v4), (4, .int v3), (3, .int v1), (0, .ref 108), (1, .int a1), (2, .int a2)]) (st' := []) rfl rfl ?_
            by_cases h28 : a2 = v27
            · replace h := if_y h28 h
              refine h_n (fun z => z h28) ?_
              replace h := Option.some.inj h; subst h
              refine h_it 2 (x' := (286, [(5, .int v4), (4, .int v3), (3, .int v1), (0, .ref 108), (1, .int a1), (2, .int a2)], [.int (b01 true)], (Q, hpR q26.2))) rfl ?_
              exact h_zret rfl rfl
            · replace h := if_n h28 h
              refine h_y h28 ?_
              replace h := Option.some.inj h; subst h
              refine h_it 1 (x' := (286, [(5, .int v4), (4, .int v3), (3, .int v1), (0, .ref 108), (1, .int a1), (2, .int a2)], [.int (b01 false)], (Q, hpR q26.2))) rfl ?_
              exact h_zret rfl rfl
      · replace h := if_n h7 h
        refine h_n h7 ?_
        refine h_it 1 (x' := (91, [(5, .int v4), (4, .int v3), (3, .int v1), (0, .ref 108), (1, .int a1), (2, .int a2)], [.int a2], (Q, hpR q5.2))) rfl ?_
        refine h_br (b := decide (¬ a2 = 0)) (t := 98) (f := 94) (lv' := [(5, .int v4), (4, .int v3), (3, .int v1), (0, .ref 108), (1, .int a1), (2, .int a2)]) (st' := []) rfl rfl ?_
        by_cases h29 : a2 = 0
        · replace h := if_y h29 h
          refine h_n (fun z => z h29) ?_
          replace h := Option.some.inj h; subst h
          refine h_it 2 (x' := (99, [(5, .int v4), (4, .int v3), (3, .int v1), (0, .ref 108), (1, .int a1), (2, .int a2)], [.int (b01 true)], (Q, hpR q5.2))) rfl ?_
          exact h_zret rfl rfl
        · replace h := if_n h29 h
          refine h_y h29 ?_
          replace h := Option.some.inj h; subst h
          refine h_it 1 (x' := (99, [(5, .int v4), (4, .int v3), (3, .int v1), (0, .ref 108), (1, .int a1), (2, .int a2)], [.int (b01 false)], (Q, hpR q5.2))) rfl ?_
          exact h_zret rfl rfl
    · replace h := if_n h6 h
      refine h_n h6 ?_
      refine h_it 7 (x' := (68, [(5, .int v4), (4, .int v3), (3, .int v1), (0, .ref 108), (1, .int a1), (2, .int a2)], [.int v1, .ref 126, .int 8, .ref 114, .int a2], (Q, hpR q5.2))) rfl ?_
      obtain ⟨v30, hv30, h⟩ := Option.bind_eq_some_iff.mp h
      refine h_iald rfl rfl hv30 ?_
      refine h_it 3 (x' := (73, [(5, .int v4), (4, .int v3), (3, .int v1), (0, .ref 108), (1, .int a1), (2, .int a2)], [.int ((8 * v30) + v3), .ref 114, .int a2], (Q, hpR q5.2))) rfl ?_
      obtain ⟨v31, hv31, h⟩ := Option.bind_eq_some_iff.mp h
      refine h_iald rfl rfl hv31 ?_
      refine h_br (b := decide (¬ a2 = v31)) (t := 81) (f := 77) (lv' := [(5, .int v4), (4, .int v3), (3, .int v1), (0, .ref 108), (1, .int a1), (2, .int a2)]) (st' := []) rfl rfl ?_
      by_cases h32 : a2 = v31
      · replace h := if_y h32 h
        refine h_n (fun z => z h32) ?_
        replace h := Option.some.inj h; subst h
        refine h_it 2 (x' := (82, [(5, .int v4), (4, .int v3), (3, .int v1), (0, .ref 108), (1, .int a1), (2, .int a2)], [.int (b01 true)], (Q, hpR q5.2))) rfl ?_
        exact h_zret rfl rfl
      · replace h := if_n h32 h
        refine h_y h32 ?_
        replace h := Option.some.inj h; subst h
        refine h_it 1 (x' := (82, [(5, .int v4), (4, .int v3), (3, .int v1), (0, .ref 108), (1, .int a1), (2, .int a2)], [.int (b01 false)], (Q, hpR q5.2))) rfl ?_
        exact h_zret rfl rfl
  · replace h := if_n h2 h
    refine h_n h2 ?_
    refine h_it 6 (x' := (21, [(3, .int v1), (0, .ref 108), (1, .int a1), (2, .int a2)], [.int a1, .ref 122, .ref 111, .int a2], (Q, hpR s))) rfl ?_
    obtain ⟨v33, hv33, h⟩ := Option.bind_eq_some_iff.mp h
    refine h_iald rfl rfl hv33 ?_
    obtain ⟨v34, hv34, h⟩ := Option.bind_eq_some_iff.mp h
    refine h_iald rfl rfl hv34 ?_
    refine h_br (b := decide (¬ a2 = v34)) (t := 30) (f := 26) (lv' := [(3, .int v1), (0, .ref 108), (1, .int a1), (2, .int a2)]) (st' := []) rfl rfl ?_
    by_cases h35 : a2 = v34
    · replace h := if_y h35 h
      refine h_n (fun z => z h35) ?_
      replace h := Option.some.inj h; subst h
      refine h_it 2 (x' := (31, [(3, .int v1), (0, .ref 108), (1, .int a1), (2, .int a2)], [.int (b01 true)], (Q, hpR s))) rfl ?_
      exact h_zret rfl rfl
    · replace h := if_n h35 h
      refine h_y h35 ?_
      replace h := Option.some.inj h; subst h
      refine h_it 1 (x' := (31, [(3, .int v1), (0, .ref 108), (1, .int a1), (2, .int a2)], [.int (b01 false)], (Q, hpR s))) rfl ?_
      exact h_zret rfl rfl
end Sm200
section Sm196
variable {V : xmV} {L : List Nat} {Kc Ks : Nat} {Q : List xE}
theorem m196_ok {a1 : Int32} {s : xSt} {q : xSt} (h : m196 a1 s = some q) : HC V L Kc Ks 196 [.ref 108, .int a1] (Q, hpR s) (none) (Q, hpR q) := by
  unfold m196 at h
  refine hc_of (by decide) rfl ?_
  refine h_it 2 (x' := (4, [(0, .ref 108), (1, .int a1)], [.int (gI s 34)], (Q, hpR s))) rfl ?_
  refine h_br (b := decide (¬ (gI s 34) = 0)) (t := 44) (f := 7) (lv' := [(0, .ref 108), (1, .int a1)]) (st' := []) rfl rfl ?_
  by_cases h1 : (gI s 34) = 0
  · replace h := if_y h1 h
    refine h_n (fun z => z h1) ?_
    refine h_it 5 (x' := (14, [(0, .ref 108), (1, .int a1)], [.int a1, .ref 108, .int a1, .ref 124], (Q, hpR s))) rfl ?_
    obtain ⟨q2, hq2, h⟩ := Option.bind_eq_some_iff.mp h
    refine h_callO (As := [.int a1]) (r1 := some (.int q2.1)) (st := [.int a1, .ref 124]) (H1 := (Q, hpR q2.2)) rfl rfl rfl rfl rfl rfl (m197_ok hq2) ?_
    obtain ⟨u3, hu3, h⟩ := Option.bind_eq_some_iff.mp h
    refine h_iast rfl rfl hu3 ?_
    show HE V L Kc Ks 196 (18, [(0, .ref 108), (1, .int a1)], [], (Q, hpR (sR q2.2 28 u3))) _ _
    refine h_it 5 (x' := (25, [(0, .ref 108), (1, .int a1)], [.int a1, .ref 124, .int a1, .ref 108], (Q, hpR (sR q2.2 28 u3)))) rfl ?_
    obtain ⟨v4, hv4, h⟩ := Option.bind_eq_some_iff.mp h
    refine h_iald rfl rfl hv4 ?_
    obtain ⟨q5, hq5, h⟩ := Option.bind_eq_some_iff.mp h
    refine h_callO (As := [.int a1, .int v4]) (r1 := some (.int (b01 q5.1))) (st := []) (H1 := (Q, hpR q5.2)) rfl rfl rfl rfl rfl rfl (m200_ok hq5) ?_
    refine h_br (b := decide ((b01 q5.1) = 0)) (t := 36) (f := 32) (lv' := [(0, .ref 108), (1, .int a1)]) (st' := []) rfl rfl ?_
    by_cases h6 : q5.1 = true
    · replace h := if_y h6 h
      refine h_n (b01_1 h6) ?_
      replace h := Option.some.inj h; subst h
      refine h_it 3 (x' := (44, [(2, .int 0), (0, .ref 108), (1, .int a1)], [], (Q, hpR q5.2))) rfl ?_
      exact h_vret rfl rfl
    · replace h := if_n h6 h
      refine h_y (b01_0 h6) ?_
      refine h_it 3 (x' := (40, [(0, .ref 108), (1, .int a1)], [.int a1, .int 6, .ref 108], (Q, hpR q5.2))) rfl ?_
      obtain ⟨q7, hq7, h⟩ := Option.bind_eq_some_iff.mp h
      refine h_callO (As := [.int 6, .int a1]) (r1 := some (.int q7.1)) (st := []) (H1 := (Q, hpR q7.2)) rfl rfl rfl rfl rfl rfl (m189_ok hq7) ?_
      replace h := Option.some.inj h; subst h
      refine h_it 1 (x' := (44, [(2, .int q7.1), (0, .ref 108), (1, .int a1)], [], (Q, hpR q7.2))) rfl ?_
      exact h_vret rfl rfl
  · replace h := if_n h1 h
    refine h_y h1 ?_
    replace h := Option.some.inj h; subst h
    exact h_vret rfl rfl
end Sm196
section Sm187
variable {V : xmV} {L : List Nat} {Kc Ks : Nat} {Q : List xE}
theorem m187_114_ok    {s : xSt} {q : Int32 × xSt} (h : m187_114   s = some q) : HE V L Kc Ks 187 (114, [(0, .ref 108)], [], (Q, hpR s)) (some (.int q.1)) (Q, hpR q.2) := by
  unfold m187_114 at h
  refine h_it 3 (x' := (119, [(0, .ref 108)], [.int (gI s 34), .ref 108], (Q, hpR s))) rfl ?_
  refine h_br (b := decide (¬ (gI s 34) = 0)) (t := 126) (f := 122) (lv' := [(0, .ref 108)]) (st' := [.ref 108]) rfl rfl ?_
  by_cases h6 : (gI s 34) = 0
  · replace h := if_y h6 h
    refine h_n (fun z => z h6) ?_
    refine h_it 2 (x' := (127, [(0, .ref 108)], [.int (b01 true), .ref 108], (Q, hpR s))) rfl ?_
    refine h_putZ (ty := .boolean) rfl rfl rfl ?_
    show HE V L Kc Ks 187 (130, [(0, .ref 108)], [], (Q, hpR (sZ s 1 true))) _ _
    replace h := Option.some.inj h; subst h
    refine h_it 2 (x' := (134, [(0, .ref 108)], [.int (gI s 34)], (Q, hpR (sZ s 1 true)))) rfl ?_
    exact h_iret rfl rfl
  · replace h := if_n h6 h
    refine h_y h6 ?_
    refine h_it 1 (x' := (127, [(0, .ref 108)], [.int (b01 false), .ref 108], (Q, hpR s))) rfl ?_
    refine h_putZ (ty := .boolean) rfl rfl rfl ?_
    show HE V L Kc Ks 187 (130, [(0, .ref 108)], [], (Q, hpR (sZ s 1 false))) _ _
    replace h := Option.some.inj h; subst h
    refine h_it 2 (x' := (134, [(0, .ref 108)], [.int (gI s 34)], (Q, hpR (sZ s 1 false)))) rfl ?_
    exact h_iret rfl rfl
theorem m187_67_ok {K45 : Int32 → xSt → Option (Int32 × xSt)} (hK45 : ∀ (x1 : Int32) (s : xSt) (q : Int32 × xSt), K45 x1 s = some q → HE V L Kc Ks 187 (45, [(0, .ref 108), (1, .int x1)], [], (Q, hpR s)) (some (.int q.1)) (Q, hpR q.2)) : ∀ (n : Nat) (x1 : Int32) (x2 : Int32) (s : xSt) (q : Int32 × xSt), m187_67 K45 n x1 x2 s = some q → HE V L Kc Ks 187 (67, [(0, .ref 108), (1, .int x1), (2, .int x2)], [], (Q, hpR s)) (some (.int q.1)) (Q, hpR q.2) := by
  intro n
  induction n with
  | zero => intro x1 x2 s q h; cases h
  | succ n ih =>
    intro x1 x2 s q h
    unfold m187_67 at h
    refine h_it 1 (x' := (68, [(0, .ref 108), (1, .int x1), (2, .int x2)], [.int x2], (Q, hpR s))) rfl ?_
    refine h_br (b := decide (x2 < 0)) (t := 108) (f := 71) (lv' := [(0, .ref 108), (1, .int x1), (2, .int x2)]) (st' := []) rfl rfl ?_
    by_cases h9 : x2 < 0
    · replace h := if_y h9 h
      refine h_y h9 ?_
      refine h_it 2 (x' := (45, [(1, .int (x1 + 1)), (0, .ref 108), (2, .int x2)], [], (Q, hpR s))) rfl ?_
      refine h_lw (lv := [(0, .ref 108), (1, .int (x1 + 1))]) (fa_c rfl (fa_c rfl (fa_n))) rfl ?_
      exact hK45 (x1 + 1) s _ h
    · replace h := if_n h9 h
      refine h_n h9 ?_
      refine h_it 2 (x' := (75, [(0, .ref 108), (1, .int x1), (2, .int x2)], [.int (gI s 34)], (Q, hpR s))) rfl ?_
      refine h_br (b := decide (¬ (gI s 34) = 0)) (t := 108) (f := 78) (lv' := [(0, .ref 108), (1, .int x1), (2, .int x2)]) (st' := []) rfl rfl ?_
      by_cases h10 : (gI s 34) = 0
      · replace h := if_y h10 h
        refine h_n (fun z => z h10) ?_
        refine h_it 7 (x' := (87, [(0, .ref 108), (1, .int x1), (2, .int x2)], [.int (gI s 33), .int (x1 + 1), .int x2, .ref 108], (Q, hpR s))) rfl ?_
        obtain ⟨q11, hq11, h⟩ := Option.bind_eq_some_iff.mp h
        refine h_callO (As := [.int x2, .int (x1 + 1), .int (gI s 33)]) (r1 := some (.int (b01 q11.1))) (st := []) (H1 := (Q, hpR q11.2)) rfl rfl rfl rfl rfl rfl (m195_ok hq11) ?_
        refine h_br (b := decide ((b01 q11.1) = 0)) (t := 108) (f := 93) (lv' := [(0, .ref 108), (1, .int x1), (2, .int x2)]) (st' := []) rfl rfl ?_
        by_cases h12 : q11.1 = true
        · replace h := if_y h12 h
          refine h_n (b01_1 h12) ?_
          refine h_it 2 (x' := (95, [(0, .ref 108), (1, .int x1), (2, .int x2)], [.int x2, .ref 108], (Q, hpR q11.2))) rfl ?_
          obtain ⟨q13, hq13, h⟩ := Option.bind_eq_some_iff.mp h
          refine h_callO (As := [.int x2]) (r1 := none) (st := []) (H1 := (Q, hpR q13)) rfl rfl rfl rfl rfl rfl (m196_ok hq13) ?_
          refine h_it 3 (x' := (103, [(0, .ref 108), (1, .int x1), (2, .int x2)], [.int x2, .ref 120], (Q, hpR q13))) rfl ?_
          obtain ⟨v14, hv14, h⟩ := Option.bind_eq_some_iff.mp h
          refine h_iald rfl rfl hv14 ?_
          refine h_it 2 (x' := (67, [(2, .int v14), (0, .ref 108), (1, .int x1)], [], (Q, hpR q13))) rfl ?_
          refine h_lw (lv := [(0, .ref 108), (1, .int x1), (2, .int v14)]) (fa_c rfl (fa_c rfl (fa_c rfl (fa_n)))) rfl ?_
          exact ih x1 v14 q13 _ h
        · replace h := if_n h12 h
          refine h_y (b01_0 h12) ?_
          refine h_it 2 (x' := (45, [(1, .int (x1 + 1)), (0, .ref 108), (2, .int x2)], [], (Q, hpR q11.2))) rfl ?_
          refine h_lw (lv := [(0, .ref 108), (1, .int (x1 + 1))]) (fa_c rfl (fa_c rfl (fa_n))) rfl ?_
          exact hK45 (x1 + 1) q11.2 _ h
      · replace h := if_n h10 h
        refine h_y h10 ?_
        refine h_it 2 (x' := (45, [(1, .int (x1 + 1)), (0, .ref 108), (2, .int x2)], [], (Q, hpR s))) rfl ?_
        refine h_lw (lv := [(0, .ref 108), (1, .int (x1 + 1))]) (fa_c rfl (fa_c rfl (fa_n))) rfl ?_
        exact hK45 (x1 + 1) s _ h
theorem m187_45_ok   : ∀ (n : Nat) (x1 : Int32) (s : xSt) (q : Int32 × xSt), m187_45  n x1 s = some q → HE V L Kc Ks 187 (45, [(0, .ref 108), (1, .int x1)], [], (Q, hpR s)) (some (.int q.1)) (Q, hpR q.2) := by
  intro n
  induction n with
  | zero => intro x1 s q h; cases h
  | succ n ih =>
    intro x1 s q h
    unfold m187_45 at h
    refine h_it 3 (x' := (50, [(0, .ref 108), (1, .int x1)], [.int (gI s 33), .int x1], (Q, hpR s))) rfl ?_
    refine h_br (b := decide ((gI s 33) ≤ x1)) (t := 114) (f := 53) (lv' := [(0, .ref 108), (1, .int x1)]) (st' := []) rfl rfl ?_
    by_cases h5 : (gI s 33) ≤ x1
    · replace h := if_y h5 h
      refine h_y h5 ?_
      refine h_lw (lv := [(0, .ref 108)]) (fa_c rfl (fa_n)) rfl ?_
      exact m187_114_ok  h
    · replace h := if_n h5 h
      refine h_n h5 ?_
      refine h_it 2 (x' := (57, [(0, .ref 108), (1, .int x1)], [.int (gI s 34)], (Q, hpR s))) rfl ?_
      refine h_br (b := decide (¬ (gI s 34) = 0)) (t := 114) (f := 60) (lv' := [(0, .ref 108), (1, .int x1)]) (st' := []) rfl rfl ?_
      by_cases h7 : (gI s 34) = 0
      · replace h := if_y h7 h
        refine h_n (fun z => z h7) ?_
        refine h_it 2 (x' := (62, [(0, .ref 108), (1, .int x1)], [.int x1, .ref 108], (Q, hpR s))) rfl ?_
        obtain ⟨q8, hq8, h⟩ := Option.bind_eq_some_iff.mp h
        refine h_callO (As := [.int x1]) (r1 := none) (st := []) (H1 := (Q, hpR q8)) rfl rfl rfl rfl rfl rfl (m190_ok hq8) ?_
        refine h_it 2 (x' := (67, [(2, .int x1), (0, .ref 108), (1, .int x1)], [], (Q, hpR q8))) rfl ?_
        refine h_lw (lv := [(0, .ref 108), (1, .int x1), (2, .int x1)]) (fa_c rfl (fa_c rfl (fa_c rfl (fa_n)))) rfl ?_
        exact m187_67_ok ih 1000000 x1 x1 q8 _ h
      · replace h := if_n h7 h
        refine h_y h7 ?_
        refine h_lw (lv := [(0, .ref 108)]) (fa_c rfl (fa_n)) rfl ?_
        exact m187_114_ok  h
theorem m187_43_ok    {s : xSt} {q : Int32 × xSt} (h : m187_43   s = some q) : HE V L Kc Ks 187 (43, [(0, .ref 108)], [], (Q, hpR s)) (some (.int q.1)) (Q, hpR q.2) := by
  unfold m187_43 at h
  refine h_it 2 (x' := (45, [(1, .int 0), (0, .ref 108)], [], (Q, hpR s))) rfl ?_
  refine h_lw (lv := [(0, .ref 108), (1, .int 0)]) (fa_c rfl (fa_c rfl (fa_n))) rfl ?_
  exact m187_45_ok  1000000 0 s _ h
theorem m187_ok  {s : xSt} {q : Int32 × xSt} (h : m187  s = some q) : HC V L Kc Ks 187 [.ref 108] (Q, hpR s) (some (.int q.1)) (Q, hpR q.2) := by
  unfold m187 at h
  refine hc_of (by decide) rfl ?_
  refine h_it 4 (x' := (6, [(0, .ref 108)], [.ref 108], (Q, hpR (sI s 31 0)))) rfl ?_
  obtain ⟨q1, hq1, h⟩ := Option.bind_eq_some_iff.mp h
  refine h_callO (As := []) (r1 := some (.int (b01 q1.1))) (st := []) (H1 := (Q, hpR q1.2)) rfl rfl rfl rfl rfl rfl (m178_ok hq1) ?_
  refine h_br (b := decide (¬ (b01 q1.1) = 0)) (t := 14) (f := 12) (lv' := [(0, .ref 108)]) (st' := []) rfl rfl ?_
  by_cases h2 : q1.1 = true
  · replace h := if_y h2 h
    refine h_y (b01_1 h2) ?_
    refine h_it 10 (x' := (30, [(0, .ref 108)], [.ref 108], (Q, hpR (sI (sI (sI q1.2 34 0) 35 (-1)) 36 0)))) rfl ?_
    obtain ⟨q3, hq3, h⟩ := Option.bind_eq_some_iff.mp h
    refine h_callO (As := []) (r1 := some (.int (b01 q3.1))) (st := []) (H1 := (Q, hpR q3.2)) rfl rfl rfl rfl rfl rfl (m188_ok hq3) ?_
    refine h_br (b := decide (¬ (b01 q3.1) = 0)) (t := 43) (f := 36) (lv' := [(0, .ref 108)]) (st' := []) rfl rfl ?_
    by_cases h4 : q3.1 = true
    · replace h := if_y h4 h
      refine h_y (b01_1 h4) ?_
      refine h_lw (lv := [(0, .ref 108)]) (fa_c rfl (fa_n)) rfl ?_
      exact m187_43_ok  h
    · replace h := if_n h4 h
      refine h_n (fun z => z (b01_0 h4)) ?_
      refine h_it 3 (x' := (39, [(0, .ref 108)], [.int (-1), .int 4, .ref 108], (Q, hpR q3.2))) rfl ?_
      obtain ⟨q15, hq15, h⟩ := Option.bind_eq_some_iff.mp h
      refine h_callO (As := [.int 4, .int (-1)]) (r1 := some (.int q15.1)) (st := []) (H1 := (Q, hpR q15.2)) rfl rfl rfl rfl rfl rfl (m189_ok hq15) ?_
      refine h_it 1 (x' := (43, [(0, .ref 108)], [], (Q, hpR q15.2))) rfl ?_
      refine h_lw (lv := [(0, .ref 108)]) (fa_c rfl (fa_n)) rfl ?_
      exact m187_43_ok  h
  · replace h := if_n h2 h
    refine h_n (fun z => z (b01_0 h2)) ?_
    replace h := Option.some.inj h; subst h
    refine h_it 1 (x' := (13, [(0, .ref 108)], [.int (-1)], (Q, hpR q1.2))) rfl ?_
    exact h_iret rfl rfl
end Sm187
section Sm177
variable {V : xmV} {L : List Nat} {Kc Ks : Nat} {Q : List xE}
theorem m177_56_ok   : ∀ (n : Nat) (x1 : Bool) (x2 : Int64) (x4 : Int32) (x5 : Bool) (x6 : Int32) (s : xSt) (q : Int32 × xSt), m177_56  n x1 x2 x4 x5 x6 s = some q → HE V L Kc Ks 177 (56, [(0, .ref 108), (1, .int (b01 x1)), (2, .long x2), (4, .int x4), (5, .int (b01 x5)), (6, .int x6)], [], (Q, hpR s)) (some (.int q.1)) (Q, hpR q.2) := by
  intro n
  induction n with
  | zero => intro x1 x2 x4 x5 x6 s q h; cases h
  | succ n ih =>
    intro x1 x2 x4 x5 x6 s q h
    unfold m177_56 at h
    refine h_it 3 (x' := (62, [(0, .ref 108), (1, .int (b01 x1)), (2, .long x2), (4, .int x4), (5, .int (b01 x5)), (6, .int x6)], [.int (gI s 32), .int x6], (Q, hpR s))) rfl ?_
    refine h_br (b := decide ((gI s 32) ≤ x6)) (t := 95) (f := 65) (lv' := [(0, .ref 108), (1, .int (b01 x1)), (2, .long x2), (4, .int x4), (5, .int (b01 x5)), (6, .int x6)]) (st' := []) rfl rfl ?_
    by_cases h4 : (gI s 32) ≤ x6
    · replace h := if_y h4 h
      refine h_y h4 ?_
      refine h_it 1 (x' := (97, [(0, .ref 108), (1, .int (b01 x1)), (2, .long x2), (4, .int x4), (5, .int (b01 x5)), (6, .int x6)], [.int (b01 x5)], (Q, hpR s))) rfl ?_
      refine h_br (b := decide (¬ (b01 x5) = 0)) (t := 102) (f := 100) (lv' := [(0, .ref 108), (1, .int (b01 x1)), (2, .long x2), (4, .int x4), (5, .int (b01 x5)), (6, .int x6)]) (st' := []) rfl rfl ?_
      by_cases h5 : x5 = true
      · replace h := if_y h5 h
        refine h_y (b01_1 h5) ?_
        refine h_it 5 (x' := (111, [(0, .ref 108), (1, .int (b01 x1)), (2, .long x2), (4, .int x4), (5, .int (b01 x5)), (6, .int x6)], [.int (b01 x1), .int (gI s 32), .ref 109], (Q, hpR s))) rfl ?_
        obtain ⟨u6, hu6, h⟩ := Option.bind_eq_some_iff.mp h
        refine h_zast rfl rfl hu6 ?_
        show HE V L Kc Ks 177 (112, [(0, .ref 108), (1, .int (b01 x1)), (2, .long x2), (4, .int x4), (5, .int (b01 x5)), (6, .int x6)], [], (Q, hpR (sR s 17 u6))) _ _
        refine h_it 5 (x' := (121, [(0, .ref 108), (1, .int (b01 x1)), (2, .long x2), (4, .int x4), (5, .int (b01 x5)), (6, .int x6)], [.long x2, .int (gI s 32), .ref 110], (Q, hpR (sR s 17 u6)))) rfl ?_
        obtain ⟨u7, hu7, h⟩ := Option.bind_eq_some_iff.mp h
        refine h_last rfl rfl hu7 ?_
        show HE V L Kc Ks 177 (122, [(0, .ref 108), (1, .int (b01 x1)), (2, .long x2), (4, .int x4), (5, .int (b01 x5)), (6, .int x6)], [], (Q, hpR (sL (sR s 17 u6) 4 u7))) _ _
        refine h_it 5 (x' := (132, [(0, .ref 108), (1, .int (b01 x1)), (2, .long x2), (4, .int x4), (5, .int (b01 x5)), (6, .int x6)], [.int x4, .int (gI s 32), .ref 111], (Q, hpR (sL (sR s 17 u6) 4 u7)))) rfl ?_
        obtain ⟨u8, hu8, h⟩ := Option.bind_eq_some_iff.mp h
        refine h_iast rfl rfl hu8 ?_
        show HE V L Kc Ks 177 (133, [(0, .ref 108), (1, .int (b01 x1)), (2, .long x2), (4, .int x4), (5, .int (b01 x5)), (6, .int x6)], [], (Q, hpR (sR (sL (sR s 17 u6) 4 u7) 18 u8))) _ _
        refine h_it 5 (x' := (142, [(0, .ref 108), (1, .int (b01 x1)), (2, .long x2), (4, .int x4), (5, .int (b01 x5)), (6, .int x6)], [.int 0, .int (gI s 32), .ref 112], (Q, hpR (sR (sL (sR s 17 u6) 4 u7) 18 u8)))) rfl ?_
        obtain ⟨u9, hu9, h⟩ := Option.bind_eq_some_iff.mp h
        refine h_iast rfl rfl hu9 ?_
        show HE V L Kc Ks 177 (143, [(0, .ref 108), (1, .int (b01 x1)), (2, .long x2), (4, .int x4), (5, .int (b01 x5)), (6, .int x6)], [], (Q, hpR (sR (sR (sL (sR s 17 u6) 4 u7) 18 u8) 19 u9))) _ _
        refine h_it 6 (x' := (155, [(0, .ref 108), (1, .int (b01 x1)), (2, .long x2), (4, .int x4), (5, .int (b01 x5)), (6, .int x6)], [.int (gI s 33), .int (gI s 32), .ref 115], (Q, hpR (sR (sR (sL (sR s 17 u6) 4 u7) 18 u8) 19 u9)))) rfl ?_
        obtain ⟨u10, hu10, h⟩ := Option.bind_eq_some_iff.mp h
        refine h_iast rfl rfl hu10 ?_
        show HE V L Kc Ks 177 (156, [(0, .ref 108), (1, .int (b01 x1)), (2, .long x2), (4, .int x4), (5, .int (b01 x5)), (6, .int x6)], [], (Q, hpR (sR (sR (sR (sL (sR s 17 u6) 4 u7) 18 u8) 19 u9) 21 u10))) _ _
        refine h_it 5 (x' := (163, [(0, .ref 108), (1, .int (b01 x1)), (2, .long x2), (4, .int x4), (5, .int (b01 x5)), (6, .int x6)], [.int ((gI s 32) + 1), .ref 108], (Q, hpR (sR (sR (sR (sL (sR s 17 u6) 4 u7) 18 u8) 19 u9) 21 u10)))) rfl ?_
        refine (show ∀ w : xSt, HE V L Kc Ks 177 (166, [(0, .ref 108), (1, .int (b01 x1)), (2, .long x2), (4, .int x4), (5, .int (b01 x5)), (6, .int x6)], [], (Q, hpR (sI w 32 ((gI s 32) + 1)))) _ _ → HE V L Kc Ks 177 (163, [(0, .ref 108), (1, .int (b01 x1)), (2, .long x2), (4, .int x4), (5, .int (b01 x5)), (6, .int x6)], [.int ((gI s 32) + 1), .ref 108], (Q, hpR w)) _ _ from fun w e => h_it 1 rfl e) (sR (sR (sR (sL (sR s 17 u6) 4 u7) 18 u8) 19 u9) 21 u10) ?_
        show HE V L Kc Ks 177 (166, [(0, .ref 108), (1, .int (b01 x1)), (2, .long x2), (4, .int x4), (5, .int (b01 x5)), (6, .int x6)], [], (Q, hpR (sI (sR (sR (sR (sL (sR s 17 u6) 4 u7) 18 u8) 19 u9) 21 u10) 32 ((gI s 32) + 1)))) _ _
        refine h_it 2 (x' := (168, [(0, .ref 108), (1, .int (b01 x1)), (2, .long x2), (4, .int x4), (5, .int (b01 x5)), (6, .int x6)], [.int (b01 false), .ref 108], (Q, hpR (sI (sR (sR (sR (sL (sR s 17 u6) 4 u7) 18 u8) 19 u9) 21 u10) 32 ((gI s 32) + 1))))) rfl ?_
        refine h_putZ (ty := .boolean) rfl rfl rfl ?_
        show HE V L Kc Ks 177 (171, [(0, .ref 108), (1, .int (b01 x1)), (2, .long x2), (4, .int x4), (5, .int (b01 x5)), (6, .int x6)], [], (Q, hpR (sZ (sI (sR (sR (sR (sL (sR s 17 u6) 4 u7) 18 u8) 19 u9) 21 u10) 32 ((gI s 32) + 1)) 1 false))) _ _
        replace h := Option.some.inj h; subst h
        refine h_it 4 (x' := (177, [(0, .ref 108), (1, .int (b01 x1)), (2, .long x2), (4, .int x4), (5, .int (b01 x5)), (6, .int x6)], [.int (((gI s 32) + 1) - 1)], (Q, hpR (sZ (sI (sR (sR (sR (sL (sR s 17 u6) 4 u7) 18 u8) 19 u9) 21 u10) 32 ((gI s 32) + 1)) 1 false)))) rfl ?_
        exact h_iret rfl rfl
      · replace h := if_n h5 h
        refine h_n (fun z => z (b01_0 h5)) ?_
        replace h := Option.some.inj h; subst h
        refine h_it 1 (x' := (101, [(0, .ref 108), (1, .int (b01 x1)), (2, .long x2), (4, .int x4), (5, .int (b01 x5)), (6, .int x6)], [.int (-1)], (Q, hpR s))) rfl ?_
        exact h_iret rfl rfl
    · replace h := if_n h4 h
      refine h_n h4 ?_
      refine h_it 1 (x' := (67, [(0, .ref 108), (1, .int (b01 x1)), (2, .long x2), (4, .int x4), (5, .int (b01 x5)), (6, .int x6)], [.int (b01 x5)], (Q, hpR s))) rfl ?_
      refine h_br (b := decide ((b01 x5) = 0)) (t := 86) (f := 70) (lv' := [(0, .ref 108), (1, .int (b01 x1)), (2, .long x2), (4, .int x4), (5, .int (b01 x5)), (6, .int x6)]) (st' := []) rfl rfl ?_
      by_cases h11 : x5 = true
      · replace h := if_y h11 h
        refine h_n (b01_1 h11) ?_
        refine h_it 3 (x' := (76, [(0, .ref 108), (1, .int (b01 x1)), (2, .long x2), (4, .int x4), (5, .int (b01 x5)), (6, .int x6)], [.int x6, .ref 110], (Q, hpR s))) rfl ?_
        obtain ⟨v12, hv12, h⟩ := Option.bind_eq_some_iff.mp h
        refine h_lald rfl rfl hv12 ?_
        refine h_it 2 (x' := (79, [(0, .ref 108), (1, .int (b01 x1)), (2, .long x2), (4, .int x4), (5, .int (b01 x5)), (6, .int x6)], [.int (lg_cmp v12 x2)], (Q, hpR s))) rfl ?_
        refine h_br (b := decide ((lg_cmp v12 x2) = 0)) (t := 86) (f := 82) (lv' := [(0, .ref 108), (1, .int (b01 x1)), (2, .long x2), (4, .int x4), (5, .int (b01 x5)), (6, .int x6)]) (st' := []) rfl rfl ?_
        by_cases h13 : (lg_cmp v12 x2) = 0
        · replace h := if_y h13 h
          refine h_y h13 ?_
          refine h_it 4 (x' := (56, [(6, .int (x6 + 1)), (5, .int 0), (0, .ref 108), (1, .int (b01 x1)), (2, .long x2), (4, .int x4)], [], (Q, hpR s))) rfl ?_
          refine h_lw (lv := [(0, .ref 108), (1, .int (b01 x1)), (2, .long x2), (4, .int x4), (5, .int 0), (6, .int (x6 + 1))]) (fa_c rfl (fa_c rfl (fa_c rfl (fa_c rfl (fa_c rfl (fa_c rfl (fa_n))))))) rfl ?_
          exact ih x1 x2 x4 false (x6 + 1) s _ h
        · replace h := if_n h13 h
          refine h_n h13 ?_
          refine h_it 5 (x' := (56, [(6, .int (x6 + 1)), (5, .int 1), (0, .ref 108), (1, .int (b01 x1)), (2, .long x2), (4, .int x4)], [], (Q, hpR s))) rfl ?_
          refine h_lw (lv := [(0, .ref 108), (1, .int (b01 x1)), (2, .long x2), (4, .int x4), (5, .int 1), (6, .int (x6 + 1))]) (fa_c rfl (fa_c rfl (fa_c rfl (fa_c rfl (fa_c rfl (fa_c rfl (fa_n))))))) rfl ?_
          exact ih x1 x2 x4 true (x6 + 1) s _ h
      · replace h := if_n h11 h
        refine h_y (b01_0 h11) ?_
        refine h_it 4 (x' := (56, [(6, .int (x6 + 1)), (5, .int 0), (0, .ref 108), (1, .int (b01 x1)), (2, .long x2), (4, .int x4)], [], (Q, hpR s))) rfl ?_
        refine h_lw (lv := [(0, .ref 108), (1, .int (b01 x1)), (2, .long x2), (4, .int x4), (5, .int 0), (6, .int (x6 + 1))]) (fa_c rfl (fa_c rfl (fa_c rfl (fa_c rfl (fa_c rfl (fa_c rfl (fa_n))))))) rfl ?_
        exact ih x1 x2 x4 false (x6 + 1) s _ h
theorem m177_51_ok   {x1 : Bool} {x2 : Int64} {x4 : Int32} {y0 : Bool} {s : xSt} {q : Int32 × xSt} (h : m177_51  x1 x2 x4 y0 s = some q) : HE V L Kc Ks 177 (51, [(0, .ref 108), (1, .int (b01 x1)), (2, .long x2), (4, .int x4)], [.int (b01 y0)], (Q, hpR s)) (some (.int q.1)) (Q, hpR q.2) := by
  unfold m177_51 at h
  refine h_it 3 (x' := (56, [(6, .int 0), (5, .int (b01 y0)), (0, .ref 108), (1, .int (b01 x1)), (2, .long x2), (4, .int x4)], [], (Q, hpR s))) rfl ?_
  refine h_lw (lv := [(0, .ref 108), (1, .int (b01 x1)), (2, .long x2), (4, .int x4), (5, .int (b01 y0)), (6, .int 0)]) (fa_c rfl (fa_c rfl (fa_c rfl (fa_c rfl (fa_c rfl (fa_c rfl (fa_n))))))) rfl ?_
  exact m177_56_ok  1000000 x1 x2 x4 y0 0 s _ h
theorem m177_50_ok   {x1 : Bool} {x2 : Int64} {x4 : Int32} {s : xSt} {q : Int32 × xSt} (h : m177_50  x1 x2 x4 s = some q) : HE V L Kc Ks 177 (50, [(0, .ref 108), (1, .int (b01 x1)), (2, .long x2), (4, .int x4)], [], (Q, hpR s)) (some (.int q.1)) (Q, hpR q.2) := by
  unfold m177_50 at h
  refine h_it 1 (x' := (51, [(0, .ref 108), (1, .int (b01 x1)), (2, .long x2), (4, .int x4)], [.int 0], (Q, hpR s))) rfl ?_
  refine h_lw (lv := [(0, .ref 108), (1, .int (b01 x1)), (2, .long x2), (4, .int x4)]) (fa_c rfl (fa_c rfl (fa_c rfl (fa_c rfl (fa_n))))) rfl ?_
  exact m177_51_ok  h
theorem m177_43_ok   {x1 : Bool} {x2 : Int64} {x4 : Int32} {y0 : Int32} {y1 : Int32} {s : xSt} {q : Int32 × xSt} (h : m177_43  x1 x2 x4 y0 y1 s = some q) : HE V L Kc Ks 177 (43, [(0, .ref 108), (1, .int (b01 x1)), (2, .long x2), (4, .int x4)], [.int y0, .int y1], (Q, hpR s)) (some (.int q.1)) (Q, hpR q.2) := by
  unfold m177_43 at h
  refine h_br (b := decide (y0 ≤ y1)) (t := 50) (f := 46) (lv' := [(0, .ref 108), (1, .int (b01 x1)), (2, .long x2), (4, .int x4)]) (st' := []) rfl rfl ?_
  by_cases h17 : y0 ≤ y1
  · replace h := if_y h17 h
    refine h_y h17 ?_
    refine h_lw (lv := [(0, .ref 108), (1, .int (b01 x1)), (2, .long x2), (4, .int x4)]) (fa_c rfl (fa_c rfl (fa_c rfl (fa_c rfl (fa_n))))) rfl ?_
    exact m177_50_ok  h
  · replace h := if_n h17 h
    refine h_n h17 ?_
    refine h_it 2 (x' := (51, [(0, .ref 108), (1, .int (b01 x1)), (2, .long x2), (4, .int x4)], [.int 1], (Q, hpR s))) rfl ?_
    refine h_lw (lv := [(0, .ref 108), (1, .int (b01 x1)), (2, .long x2), (4, .int x4)]) (fa_c rfl (fa_c rfl (fa_c rfl (fa_c rfl (fa_n))))) rfl ?_
    exact m177_51_ok  h
theorem m177_ok {b1 : Bool} {l2 : Int64} {a3 : Int32} {s : xSt} {q : Int32 × xSt} (h : m177 b1 l2 a3 s = some q) : HC V L Kc Ks 177 [.ref 108, .int (b01 b1), .long l2, .int a3] (Q, hpR s) (some (.int q.1)) (Q, hpR q.2) := by
  unfold m177 at h
  refine hc_of (by decide) rfl ?_
  refine h_it 4 (x' := (6, [(0, .ref 108), (1, .int (b01 b1)), (2, .long l2), (4, .int a3)], [.ref 108], (Q, hpR (sI s 31 0)))) rfl ?_
  obtain ⟨q1, hq1, h⟩ := Option.bind_eq_some_iff.mp h
  refine h_callO (As := []) (r1 := some (.int (b01 q1.1))) (st := []) (H1 := (Q, hpR q1.2)) rfl rfl rfl rfl rfl rfl (m178_ok hq1) ?_
  refine h_br (b := decide ((b01 q1.1) = 0)) (t := 50) (f := 12) (lv' := [(0, .ref 108), (1, .int (b01 b1)), (2, .long l2), (4, .int a3)]) (st' := []) rfl rfl ?_
  by_cases h2 : q1.1 = true
  · replace h := if_y h2 h
    refine h_n (b01_1 h2) ?_
    refine h_it 3 (x' := (18, [(0, .ref 108), (1, .int (b01 b1)), (2, .long l2), (4, .int a3)], [.int 64, .int (gI q1.2 32)], (Q, hpR q1.2))) rfl ?_
    refine h_br (b := decide (64 ≤ (gI q1.2 32))) (t := 50) (f := 21) (lv' := [(0, .ref 108), (1, .int (b01 b1)), (2, .long l2), (4, .int a3)]) (st' := []) rfl rfl ?_
    by_cases h3 : 64 ≤ (gI q1.2 32)
    · replace h := if_y h3 h
      refine h_y h3 ?_
      refine h_lw (lv := [(0, .ref 108), (1, .int (b01 b1)), (2, .long l2), (4, .int a3)]) (fa_c rfl (fa_c rfl (fa_c rfl (fa_c rfl (fa_n))))) rfl ?_
      exact m177_50_ok  h
    · replace h := if_n h3 h
      refine h_n h3 ?_
      refine h_it 3 (x' := (24, [(0, .ref 108), (1, .int (b01 b1)), (2, .long l2), (4, .int a3)], [.int (lg_cmp l2 0)], (Q, hpR q1.2))) rfl ?_
      refine h_br (b := decide ((lg_cmp l2 0) ≤ 0)) (t := 50) (f := 27) (lv' := [(0, .ref 108), (1, .int (b01 b1)), (2, .long l2), (4, .int a3)]) (st' := []) rfl rfl ?_
      by_cases h14 : (lg_cmp l2 0) ≤ 0
      · replace h := if_y h14 h
        refine h_y h14 ?_
        refine h_lw (lv := [(0, .ref 108), (1, .int (b01 b1)), (2, .long l2), (4, .int a3)]) (fa_c rfl (fa_c rfl (fa_c rfl (fa_c rfl (fa_n))))) rfl ?_
        exact m177_50_ok  h
      · replace h := if_n h14 h
        refine h_n h14 ?_
        refine h_it 1 (x' := (29, [(0, .ref 108), (1, .int (b01 b1)), (2, .long l2), (4, .int a3)], [.int a3], (Q, hpR q1.2))) rfl ?_
        refine h_br (b := decide (a3 < 0)) (t := 50) (f := 32) (lv' := [(0, .ref 108), (1, .int (b01 b1)), (2, .long l2), (4, .int a3)]) (st' := []) rfl rfl ?_
        by_cases h15 : a3 < 0
        · replace h := if_y h15 h
          refine h_y h15 ?_
          refine h_lw (lv := [(0, .ref 108), (1, .int (b01 b1)), (2, .long l2), (4, .int a3)]) (fa_c rfl (fa_c rfl (fa_c rfl (fa_c rfl (fa_n))))) rfl ?_
          exact m177_50_ok  h
        · replace h := if_n h15 h
          refine h_n h15 ?_
          refine h_it 2 (x' := (35, [(0, .ref 108), (1, .int (b01 b1)), (2, .long l2), (4, .int a3)], [.int (b01 b1), .int a3], (Q, hpR q1.2))) rfl ?_
          refine h_br (b := decide ((b01 b1) = 0)) (t := 42) (f := 38) (lv' := [(0, .ref 108), (1, .int (b01 b1)), (2, .long l2), (4, .int a3)]) (st' := [.int a3]) rfl rfl ?_
          by_cases h16 : b1 = true
          · replace h := if_y h16 h
            refine h_n (b01_1 h16) ?_
            refine h_it 2 (x' := (43, [(0, .ref 108), (1, .int (b01 b1)), (2, .long l2), (4, .int a3)], [.int 2, .int a3], (Q, hpR q1.2))) rfl ?_
            refine h_lw (lv := [(0, .ref 108), (1, .int (b01 b1)), (2, .long l2), (4, .int a3)]) (fa_c rfl (fa_c rfl (fa_c rfl (fa_c rfl (fa_n))))) rfl ?_
            exact m177_43_ok  h
          · replace h := if_n h16 h
            refine h_y (b01_0 h16) ?_
            refine h_it 1 (x' := (43, [(0, .ref 108), (1, .int (b01 b1)), (2, .long l2), (4, .int a3)], [.int 4, .int a3], (Q, hpR q1.2))) rfl ?_
            refine h_lw (lv := [(0, .ref 108), (1, .int (b01 b1)), (2, .long l2), (4, .int a3)]) (fa_c rfl (fa_c rfl (fa_c rfl (fa_c rfl (fa_n))))) rfl ?_
            exact m177_43_ok  h
  · replace h := if_n h2 h
    refine h_y (b01_0 h2) ?_
    refine h_lw (lv := [(0, .ref 108), (1, .int (b01 b1)), (2, .long l2), (4, .int a3)]) (fa_c rfl (fa_c rfl (fa_c rfl (fa_c rfl (fa_n))))) rfl ?_
    exact m177_50_ok  h
end Sm177
