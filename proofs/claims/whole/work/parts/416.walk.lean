section Sm232
variable {V : xmV} {L : List Nat} {Kc Ks : Nat} {Q : List xE}
theorem m232_29_ok   {x1 : Int32} {x2 : Bool} {y0 : Bool} {s : xSt} {q : Int32 × xSt} (h : m232_29  x1 x2 y0 s = some q) : HE V L Kc Ks 232 (29, [(0, .ref 85), (1, .int x1), (2, .int (b01 x2))], [.int (b01 y0), .ref 85], (Q, hpR s)) (some (.int q.1)) (Q, hpR q.2) := by
  unfold m232_29 at h
  refine h_it 3 (x' := (36, [(0, .ref 85), (1, .int x1), (2, .int (b01 x2))], [.int (b01 y0)], (Q, hpR (sI s 0 (b01 y0))))) rfl ?_
  refine h_br (b := decide ((b01 y0) ≤ 0)) (t := 43) (f := 39) (lv' := [(0, .ref 85), (1, .int x1), (2, .int (b01 x2))]) (st' := []) rfl rfl ?_
  by_cases h2 : (b01 y0) ≤ 0
  · replace h := if_y h2 h
    refine h_y h2 ?_
    refine h_it 1 (x' := (44, [(0, .ref 85), (1, .int x1), (2, .int (b01 x2))], [.int (b01 x2)], (Q, hpR (sI s 0 (b01 y0))))) rfl ?_
    refine h_br (b := decide ((b01 x2) = 0)) (t := 56) (f := 47) (lv' := [(0, .ref 85), (1, .int x1), (2, .int (b01 x2))]) (st' := []) rfl rfl ?_
    by_cases h3 : x2 = true
    · replace h := if_y h3 h
      refine h_n (b01_1 h3) ?_
      refine h_it 3 (x' := (52, [(0, .ref 85), (1, .int x1), (2, .int (b01 x2))], [.int x1, .ref 142], (Q, hpR (sI s 0 (b01 y0))))) rfl ?_
      obtain ⟨v4, hv4, h⟩ := Option.bind_eq_some_iff.mp h
      refine h_iald rfl rfl hv4 ?_
      replace h := Option.some.inj h; subst h
      refine h_it 1 (x' := (62, [(0, .ref 85), (1, .int x1), (2, .int (b01 x2))], [.int v4], (Q, hpR (sI s 0 (b01 y0))))) rfl ?_
      exact h_iret rfl rfl
    · replace h := if_n h3 h
      refine h_y (b01_0 h3) ?_
      refine h_it 3 (x' := (61, [(0, .ref 85), (1, .int x1), (2, .int (b01 x2))], [.int x1, .ref 141], (Q, hpR (sI s 0 (b01 y0))))) rfl ?_
      obtain ⟨v5, hv5, h⟩ := Option.bind_eq_some_iff.mp h
      refine h_iald rfl rfl hv5 ?_
      replace h := Option.some.inj h; subst h
      exact h_iret rfl rfl
  · replace h := if_n h2 h
    refine h_n h2 ?_
    replace h := Option.some.inj h; subst h
    refine h_it 2 (x' := (62, [(0, .ref 85), (1, .int x1), (2, .int (b01 x2))], [.int 0], (Q, hpR (sI s 0 (b01 y0))))) rfl ?_
    exact h_iret rfl rfl
theorem m232_28_ok   {x1 : Int32} {x2 : Bool} {s : xSt} {q : Int32 × xSt} (h : m232_28  x1 x2 s = some q) : HE V L Kc Ks 232 (28, [(0, .ref 85), (1, .int x1), (2, .int (b01 x2))], [.ref 85], (Q, hpR s)) (some (.int q.1)) (Q, hpR q.2) := by
  unfold m232_28 at h
  refine h_it 1 (x' := (29, [(0, .ref 85), (1, .int x1), (2, .int (b01 x2))], [.int 1, .ref 85], (Q, hpR s))) rfl ?_
  refine h_lw (lv := [(0, .ref 85), (1, .int x1), (2, .int (b01 x2))]) (fa_c rfl (fa_c rfl (fa_c rfl (fa_n)))) rfl ?_
  exact m232_29_ok  h
theorem m232_21_ok   {x1 : Int32} {x2 : Bool} {y0 : Int32} {y1 : Int32} {s : xSt} {q : Int32 × xSt} (h : m232_21  x1 x2 y0 y1 s = some q) : HE V L Kc Ks 232 (21, [(0, .ref 85), (1, .int x1), (2, .int (b01 x2))], [.int y0, .int y1, .ref 85], (Q, hpR s)) (some (.int q.1)) (Q, hpR q.2) := by
  unfold m232_21 at h
  refine h_br (b := decide (y0 ≤ y1)) (t := 28) (f := 24) (lv' := [(0, .ref 85), (1, .int x1), (2, .int (b01 x2))]) (st' := [.ref 85]) rfl rfl ?_
  by_cases h7 : y0 ≤ y1
  · replace h := if_y h7 h
    refine h_y h7 ?_
    refine h_lw (lv := [(0, .ref 85), (1, .int x1), (2, .int (b01 x2))]) (fa_c rfl (fa_c rfl (fa_c rfl (fa_n)))) rfl ?_
    exact m232_28_ok  h
  · replace h := if_n h7 h
    refine h_n h7 ?_
    refine h_it 2 (x' := (29, [(0, .ref 85), (1, .int x1), (2, .int (b01 x2))], [.int 0, .ref 85], (Q, hpR s))) rfl ?_
    refine h_lw (lv := [(0, .ref 85), (1, .int x1), (2, .int (b01 x2))]) (fa_c rfl (fa_c rfl (fa_c rfl (fa_n)))) rfl ?_
    exact m232_29_ok  h
theorem m232_ok {a1 : Int32} {b2 : Bool} {s : xSt} {q : Int32 × xSt} (h : m232 a1 b2 s = some q) : HC V L Kc Ks 232 [.ref 85, .int a1, .int (b01 b2)] (Q, hpR s) (some (.int q.1)) (Q, hpR q.2) := by
  unfold m232 at h
  refine hc_of (by decide) rfl ?_
  refine h_it 2 (x' := (2, [(0, .ref 85), (1, .int a1), (2, .int (b01 b2))], [.int a1, .ref 85], (Q, hpR s))) rfl ?_
  refine h_br (b := decide (a1 < 0)) (t := 28) (f := 5) (lv' := [(0, .ref 85), (1, .int a1), (2, .int (b01 b2))]) (st' := [.ref 85]) rfl rfl ?_
  by_cases h1 : a1 < 0
  · replace h := if_y h1 h
    refine h_y h1 ?_
    refine h_lw (lv := [(0, .ref 85), (1, .int a1), (2, .int (b01 b2))]) (fa_c rfl (fa_c rfl (fa_c rfl (fa_n)))) rfl ?_
    exact m232_28_ok  h
  · replace h := if_n h1 h
    refine h_n h1 ?_
    refine h_it 2 (x' := (7, [(0, .ref 85), (1, .int a1), (2, .int (b01 b2))], [.int (b01 b2), .int a1, .ref 85], (Q, hpR s))) rfl ?_
    refine h_br (b := decide ((b01 b2) = 0)) (t := 17) (f := 10) (lv' := [(0, .ref 85), (1, .int a1), (2, .int (b01 b2))]) (st' := [.int a1, .ref 85]) rfl rfl ?_
    by_cases h6 : b2 = true
    · replace h := if_y h6 h
      refine h_n (b01_1 h6) ?_
      refine h_it 3 (x' := (21, [(0, .ref 85), (1, .int a1), (2, .int (b01 b2))], [.int (gI s 8), .int a1, .ref 85], (Q, hpR s))) rfl ?_
      refine h_lw (lv := [(0, .ref 85), (1, .int a1), (2, .int (b01 b2))]) (fa_c rfl (fa_c rfl (fa_c rfl (fa_n)))) rfl ?_
      exact m232_21_ok  h
    · replace h := if_n h6 h
      refine h_y (b01_0 h6) ?_
      refine h_it 2 (x' := (21, [(0, .ref 85), (1, .int a1), (2, .int (b01 b2))], [.int (gI s 7), .int a1, .ref 85], (Q, hpR s))) rfl ?_
      refine h_lw (lv := [(0, .ref 85), (1, .int a1), (2, .int (b01 b2))]) (fa_c rfl (fa_c rfl (fa_c rfl (fa_n)))) rfl ?_
      exact m232_21_ok  h
end Sm232
section Sm234
variable {V : xmV} {L : List Nat} {Kc Ks : Nat} {Q : List xE}
theorem m234_4_ok   : ∀ (n : Nat) (x1 : Int32) (x2 : Int32) (s : xSt) (q : Int32 × xSt), m234_4  n x1 x2 s = some q → HE V L Kc Ks 234 (4, [(0, .ref 85), (1, .int x1), (2, .int x2)], [], (Q, hpR s)) (some (.int q.1)) (Q, hpR q.2) := by
  intro n
  induction n with
  | zero => intro x1 x2 s q h; cases h
  | succ n ih =>
    intro x1 x2 s q h
    unfold m234_4 at h
    refine h_it 3 (x' := (9, [(0, .ref 85), (1, .int x1), (2, .int x2)], [.int (gI s 10), .int x2], (Q, hpR s))) rfl ?_
    refine h_br (b := decide ((gI s 10) ≤ x2)) (t := 34) (f := 12) (lv' := [(0, .ref 85), (1, .int x1), (2, .int x2)]) (st' := []) rfl rfl ?_
    by_cases h1 : (gI s 10) ≤ x2
    · replace h := if_y h1 h
      refine h_y h1 ?_
      replace h := Option.some.inj h; subst h
      refine h_it 1 (x' := (35, [(0, .ref 85), (1, .int x1), (2, .int x2)], [.int x1], (Q, hpR s))) rfl ?_
      exact h_iret rfl rfl
    · replace h := if_n h1 h
      refine h_n h1 ?_
      refine h_it 2 (x' := (16, [(0, .ref 85), (1, .int x1), (2, .int x2)], [.int (b01 (gZ s 0))], (Q, hpR s))) rfl ?_
      refine h_br (b := decide ((b01 (gZ s 0)) = 0)) (t := 34) (f := 19) (lv' := [(0, .ref 85), (1, .int x1), (2, .int x2)]) (st' := []) rfl rfl ?_
      by_cases h2 : (gZ s 0) = true
      · replace h := if_y h2 h
        refine h_n (b01_1 h2) ?_
        refine h_it 4 (x' := (25, [(0, .ref 85), (1, .int x1), (2, .int x2)], [.int x2, .ref 143, .int x1], (Q, hpR s))) rfl ?_
        obtain ⟨v3, hv3, h⟩ := Option.bind_eq_some_iff.mp h
        refine h_iald rfl rfl hv3 ?_
        refine h_it 4 (x' := (4, [(2, .int (x2 + 1)), (1, .int (x1 + v3)), (0, .ref 85)], [], (Q, hpR s))) rfl ?_
        refine h_lw (lv := [(0, .ref 85), (1, .int (x1 + v3)), (2, .int (x2 + 1))]) (fa_c rfl (fa_c rfl (fa_c rfl (fa_n)))) rfl ?_
        exact ih (x1 + v3) (x2 + 1) s _ h
      · replace h := if_n h2 h
        refine h_y (b01_0 h2) ?_
        replace h := Option.some.inj h; subst h
        refine h_it 1 (x' := (35, [(0, .ref 85), (1, .int x1), (2, .int x2)], [.int x1], (Q, hpR s))) rfl ?_
        exact h_iret rfl rfl
theorem m234_ok  {s : xSt} {q : Int32 × xSt} (h : m234  s = some q) : HC V L Kc Ks 234 [.ref 85] (Q, hpR s) (some (.int q.1)) (Q, hpR q.2) := by
  unfold m234 at h
  refine hc_of (by decide) rfl ?_
  refine h_it 4 (x' := (4, [(2, .int 0), (1, .int 0), (0, .ref 85)], [], (Q, hpR s))) rfl ?_
  refine h_lw (lv := [(0, .ref 85), (1, .int 0), (2, .int 0)]) (fa_c rfl (fa_c rfl (fa_c rfl (fa_n)))) rfl ?_
  exact m234_4_ok  1000000 0 0 s _ h
end Sm234
section Sm233
variable {V : xmV} {L : List Nat} {Kc Ks : Nat} {Q : List xE}
theorem m233_ok {a1 : Int32} {s : xSt} {q : Int32 × xSt} (h : m233 a1 s = some q) : HC V L Kc Ks 233 [.ref 85, .int a1] (Q, hpR s) (some (.int q.1)) (Q, hpR q.2) := by
  unfold m233 at h
  refine hc_of (by decide) rfl ?_
  refine h_it 4 (x' := (6, [(0, .ref 85), (1, .int a1)], [.int a1], (Q, hpR (sI s 0 0)))) rfl ?_
  by_cases h1 : a1 = 0
  · replace h := if_y h1 h
    refine h_ts (t := 64) rfl (by rw [h1]; decide) ?_
    replace h := Option.some.inj h; subst h
    refine h_it 2 (x' := (68, [(0, .ref 85), (1, .int a1)], [.int (gI s 1)], (Q, hpR (sI s 0 0)))) rfl ?_
    exact h_iret rfl rfl
  replace h := if_n h1 h
  by_cases h2 : a1 = 1
  · replace h := if_y h2 h
    refine h_ts (t := 69) rfl (by rw [h2]; decide) ?_
    replace h := Option.some.inj h; subst h
    refine h_it 2 (x' := (73, [(0, .ref 85), (1, .int a1)], [.int (gI s 2)], (Q, hpR (sI s 0 0)))) rfl ?_
    exact h_iret rfl rfl
  replace h := if_n h2 h
  by_cases h3 : a1 = 2
  · replace h := if_y h3 h
    refine h_ts (t := 74) rfl (by rw [h3]; decide) ?_
    replace h := Option.some.inj h; subst h
    refine h_it 2 (x' := (78, [(0, .ref 85), (1, .int a1)], [.int (gI s 3)], (Q, hpR (sI s 0 0)))) rfl ?_
    exact h_iret rfl rfl
  replace h := if_n h3 h
  by_cases h4 : a1 = 3
  · replace h := if_y h4 h
    refine h_ts (t := 79) rfl (by rw [h4]; decide) ?_
    refine h_it 2 (x' := (83, [(0, .ref 85), (1, .int a1)], [.int (b01 (gZ s 0))], (Q, hpR (sI s 0 0)))) rfl ?_
    refine h_br (b := decide ((b01 (gZ s 0)) = 0)) (t := 93) (f := 86) (lv' := [(0, .ref 85), (1, .int a1)]) (st' := []) rfl rfl ?_
    by_cases h5 : (gZ s 0) = true
    · replace h := if_y h5 h
      refine h_n (b01_1 h5) ?_
      replace h := Option.some.inj h; subst h
      refine h_it 3 (x' := (94, [(0, .ref 85), (1, .int a1)], [.int (gI s 5)], (Q, hpR (sI s 0 0)))) rfl ?_
      exact h_iret rfl rfl
    · replace h := if_n h5 h
      refine h_y (b01_0 h5) ?_
      replace h := Option.some.inj h; subst h
      refine h_it 1 (x' := (94, [(0, .ref 85), (1, .int a1)], [.int 0], (Q, hpR (sI s 0 0)))) rfl ?_
      exact h_iret rfl rfl
  replace h := if_n h4 h
  by_cases h6 : a1 = 4
  · replace h := if_y h6 h
    refine h_ts (t := 95) rfl (by rw [h6]; decide) ?_
    replace h := Option.some.inj h; subst h
    refine h_it 2 (x' := (99, [(0, .ref 85), (1, .int a1)], [.int (gI s 7)], (Q, hpR (sI s 0 0)))) rfl ?_
    exact h_iret rfl rfl
  replace h := if_n h6 h
  by_cases h7 : a1 = 5
  · replace h := if_y h7 h
    refine h_ts (t := 100) rfl (by rw [h7]; decide) ?_
    replace h := Option.some.inj h; subst h
    refine h_it 2 (x' := (104, [(0, .ref 85), (1, .int a1)], [.int (gI s 8)], (Q, hpR (sI s 0 0)))) rfl ?_
    exact h_iret rfl rfl
  replace h := if_n h7 h
  by_cases h8 : a1 = 6
  · replace h := if_y h8 h
    refine h_ts (t := 105) rfl (by rw [h8]; decide) ?_
    replace h := Option.some.inj h; subst h
    refine h_it 2 (x' := (109, [(0, .ref 85), (1, .int a1)], [.int (gI s 9)], (Q, hpR (sI s 0 0)))) rfl ?_
    exact h_iret rfl rfl
  replace h := if_n h8 h
  by_cases h9 : a1 = 7
  · replace h := if_y h9 h
    refine h_ts (t := 110) rfl (by rw [h9]; decide) ?_
    refine h_it 2 (x' := (114, [(0, .ref 85), (1, .int a1)], [.int (b01 (gZ s 0))], (Q, hpR (sI s 0 0)))) rfl ?_
    refine h_br (b := decide ((b01 (gZ s 0)) = 0)) (t := 124) (f := 117) (lv' := [(0, .ref 85), (1, .int a1)]) (st' := []) rfl rfl ?_
    by_cases h10 : (gZ s 0) = true
    · replace h := if_y h10 h
      refine h_n (b01_1 h10) ?_
      replace h := Option.some.inj h; subst h
      refine h_it 3 (x' := (125, [(0, .ref 85), (1, .int a1)], [.int (gI s 10)], (Q, hpR (sI s 0 0)))) rfl ?_
      exact h_iret rfl rfl
    · replace h := if_n h10 h
      refine h_y (b01_0 h10) ?_
      replace h := Option.some.inj h; subst h
      refine h_it 1 (x' := (125, [(0, .ref 85), (1, .int a1)], [.int (-1)], (Q, hpR (sI s 0 0)))) rfl ?_
      exact h_iret rfl rfl
  replace h := if_n h9 h
  by_cases h11 : a1 = 8
  · replace h := if_y h11 h
    refine h_ts (t := 126) rfl (by rw [h11]; decide) ?_
    refine h_it 2 (x' := (130, [(0, .ref 85), (1, .int a1)], [.int (b01 (gZ s 0))], (Q, hpR (sI s 0 0)))) rfl ?_
    refine h_br (b := decide ((b01 (gZ s 0)) = 0)) (t := 140) (f := 133) (lv' := [(0, .ref 85), (1, .int a1)]) (st' := []) rfl rfl ?_
    by_cases h12 : (gZ s 0) = true
    · replace h := if_y h12 h
      refine h_n (b01_1 h12) ?_
      replace h := Option.some.inj h; subst h
      refine h_it 3 (x' := (141, [(0, .ref 85), (1, .int a1)], [.int (gI s 11)], (Q, hpR (sI s 0 0)))) rfl ?_
      exact h_iret rfl rfl
    · replace h := if_n h12 h
      refine h_y (b01_0 h12) ?_
      replace h := Option.some.inj h; subst h
      refine h_it 1 (x' := (141, [(0, .ref 85), (1, .int a1)], [.int (-1)], (Q, hpR (sI s 0 0)))) rfl ?_
      exact h_iret rfl rfl
  replace h := if_n h11 h
  by_cases h13 : a1 = 9
  · replace h := if_y h13 h
    refine h_ts (t := 142) rfl (by rw [h13]; decide) ?_
    replace h := Option.some.inj h; subst h
    refine h_it 2 (x' := (146, [(0, .ref 85), (1, .int a1)], [.int (gI s 4)], (Q, hpR (sI s 0 0)))) rfl ?_
    exact h_iret rfl rfl
  replace h := if_n h13 h
  by_cases h14 : a1 = 10
  · replace h := if_y h14 h
    refine h_ts (t := 147) rfl (by rw [h14]; decide) ?_
    refine h_it 1 (x' := (148, [(0, .ref 85), (1, .int a1)], [.ref 85], (Q, hpR (sI s 0 0)))) rfl ?_
    obtain ⟨q15, hq15, h⟩ := Option.bind_eq_some_iff.mp h
    refine h_callO (As := []) (r1 := some (.int q15.1)) (st := []) (H1 := (Q, hpR q15.2)) rfl rfl rfl rfl rfl rfl (m234_ok hq15) ?_
    replace h := Option.some.inj h; subst h
    exact h_iret rfl rfl
  replace h := if_n h14 h
  refine h_ts (t := 152) rfl (ts_d [0, 1, 2, 3, 4, 5, 6, 7, 8, 9, 10] rfl (by decide) (fun v hv => by
      simp only [List.mem_cons, List.not_mem_nil, or_false] at hv
      rcases hv with rfl | rfl | rfl | rfl | rfl | rfl | rfl | rfl | rfl | rfl | rfl
      · exact h1
      · exact h2
      · exact h3
      · exact h4
      · exact h6
      · exact h7
      · exact h8
      · exact h9
      · exact h11
      · exact h13
      · exact h14)) ?_
  replace h := Option.some.inj h; subst h
  refine h_it 1 (x' := (153, [(0, .ref 85), (1, .int a1)], [.int (-1)], (Q, hpR (sI s 0 0)))) rfl ?_
  exact h_iret rfl rfl
end Sm233
