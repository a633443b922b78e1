section Sm149
variable {V : xmV} {L : List Nat} {Kc Ks : Nat} {Q : List xE}
theorem m149_67_ok    {s : xSt} {q : Int32 × xSt} (h : m149_67   s = some q) : HE V L Kc Ks 149 (67, [(0, .ref 87)], [], (Q, hpR s)) (some (.int q.1)) (Q, hpR q.2) := by
  unfold m149_67 at h
  refine h_it 2 (x' := (71, [(0, .ref 87)], [.int (gI s 21)], (Q, hpR s))) rfl ?_
  refine h_br (b := decide ((gI s 21) ≤ 0)) (t := 84) (f := 74) (lv' := [(0, .ref 87)]) (st' := []) rfl rfl ?_
  by_cases h4 : (gI s 21) ≤ 0
  · replace h := if_y h4 h
    refine h_y h4 ?_
    replace h := Option.some.inj h; subst h
    refine h_it 2 (x' := (88, [(0, .ref 87)], [.int (gI s 21)], (Q, hpR s))) rfl ?_
    exact h_iret rfl rfl
  · replace h := if_n h4 h
    refine h_n h4 ?_
    replace h := Option.some.inj h; subst h
    refine h_it 8 (x' := (88, [(0, .ref 87)], [.int (gI s 21)], (Q, hpR (sI (sI s 27 0) 28 0)))) rfl ?_
    exact h_iret rfl rfl
theorem m149_34_ok   : ∀ (n : Nat)  (s : xSt) (q : Int32 × xSt), m149_34  n  s = some q → HE V L Kc Ks 149 (34, [(0, .ref 87)], [], (Q, hpR s)) (some (.int q.1)) (Q, hpR q.2) := by
  intro n
  induction n with
  | zero => intro  s q h; cases h
  | succ n ih =>
    intro  s q h
    unfold m149_34 at h
    refine h_it 2 (x' := (38, [(0, .ref 87)], [.int (gI s 21)], (Q, hpR s))) rfl ?_
    refine h_br (b := decide (¬ (gI s 21) = 0)) (t := 67) (f := 41) (lv' := [(0, .ref 87)]) (st' := []) rfl rfl ?_
    by_cases h2 : (gI s 21) = 0
    · replace h := if_y h2 h
      refine h_n (fun z => z h2) ?_
      refine h_it 3 (x' := (46, [(0, .ref 87)], [.int 4, .int (gI s 24)], (Q, hpR s))) rfl ?_
      refine h_br (b := decide ((gI s 24) = 4)) (t := 67) (f := 49) (lv' := [(0, .ref 87)]) (st' := []) rfl rfl ?_
      by_cases h3 : (gI s 24) = 4
      · replace h := if_y h3 h
        refine h_y h3 ?_
        refine h_lw (lv := [(0, .ref 87)]) (fa_c rfl (fa_n)) rfl ?_
        exact m149_67_ok  h
      · replace h := if_n h3 h
        refine h_n h3 ?_
        refine h_it 1 (x' := (50, [(0, .ref 87)], [.ref 87], (Q, hpR s))) rfl ?_
        obtain ⟨q5, hq5, h⟩ := Option.bind_eq_some_iff.mp h
        refine h_callO (As := []) (r1 := none) (st := []) (H1 := (Q, hpR q5)) rfl rfl rfl rfl rfl rfl (m157_ok hq5) ?_
        refine h_it 2 (x' := (57, [(0, .ref 87)], [.int (gI q5 21)], (Q, hpR q5))) rfl ?_
        refine h_br (b := decide (¬ (gI q5 21) = 0)) (t := 34) (f := 60) (lv' := [(0, .ref 87)]) (st' := []) rfl rfl ?_
        by_cases h6 : (gI q5 21) = 0
        · replace h := if_y h6 h
          refine h_n (fun z => z h6) ?_
          refine h_it 1 (x' := (61, [(0, .ref 87)], [.ref 87], (Q, hpR q5))) rfl ?_
          obtain ⟨q7, hq7, h⟩ := Option.bind_eq_some_iff.mp h
          refine h_callO (As := []) (r1 := none) (st := []) (H1 := (Q, hpR q7)) rfl rfl rfl rfl rfl rfl (m150_ok hq7) ?_
          refine h_it 1 (x' := (34, [(0, .ref 87)], [], (Q, hpR q7))) rfl ?_
          refine h_lw (lv := [(0, .ref 87)]) (fa_c rfl (fa_n)) rfl ?_
          exact ih q7 _ h
        · replace h := if_n h6 h
          refine h_y h6 ?_
          refine h_lw (lv := [(0, .ref 87)]) (fa_c rfl (fa_n)) rfl ?_
          exact ih q5 _ h
    · replace h := if_n h2 h
      refine h_y h2 ?_
      refine h_lw (lv := [(0, .ref 87)]) (fa_c rfl (fa_n)) rfl ?_
      exact m149_67_ok  h
theorem m149_ok  {s : xSt} {q : Int32 × xSt} (h : m149  s = some q) : HC V L Kc Ks 149 [.ref 87] (Q, hpR s) (some (.int q.1)) (Q, hpR q.2) := by
  unfold m149 at h
  refine hc_of (by decide) rfl ?_
  refine h_it 14 (x' := (22, [(0, .ref 87)], [.int 0, .ref 87], (Q, hpR (sI (sI (sI (sI s 19 0) 21 0) 22 (-1)) 27 0)))) rfl ?_
  refine (show ∀ w : xSt, HE V L Kc Ks 149 (25, [(0, .ref 87)], [], (Q, hpR (sI w 28 0))) _ _ → HE V L Kc Ks 149 (22, [(0, .ref 87)], [.int 0, .ref 87], (Q, hpR w)) _ _ from fun w e => h_it 1 rfl e) (sI (sI (sI (sI s 19 0) 21 0) 22 (-1)) 27 0) ?_
  show HE V L Kc Ks 149 (25, [(0, .ref 87)], [], (Q, hpR (sI (sI (sI (sI (sI s 19 0) 21 0) 22 (-1)) 27 0) 28 0))) _ _
  refine h_it 2 (x' := (27, [(0, .ref 87)], [.int 0, .ref 87], (Q, hpR (sI (sI (sI (sI (sI s 19 0) 21 0) 22 (-1)) 27 0) 28 0)))) rfl ?_
  refine (show ∀ w : xSt, HE V L Kc Ks 149 (30, [(0, .ref 87)], [], (Q, hpR (sI w 23 0))) _ _ → HE V L Kc Ks 149 (27, [(0, .ref 87)], [.int 0, .ref 87], (Q, hpR w)) _ _ from fun w e => h_it 1 rfl e) (sI (sI (sI (sI (sI s 19 0) 21 0) 22 (-1)) 27 0) 28 0) ?_
  show HE V L Kc Ks 149 (30, [(0, .ref 87)], [], (Q, hpR (sI (sI (sI (sI (sI (sI s 19 0) 21 0) 22 (-1)) 27 0) 28 0) 23 0))) _ _
  refine h_it 1 (x' := (31, [(0, .ref 87)], [.ref 87], (Q, hpR (sI (sI (sI (sI (sI (sI s 19 0) 21 0) 22 (-1)) 27 0) 28 0) 23 0)))) rfl ?_
  obtain ⟨q1, hq1, h⟩ := Option.bind_eq_some_iff.mp h
  refine h_callO (As := []) (r1 := none) (st := []) (H1 := (Q, hpR q1)) rfl rfl rfl rfl rfl rfl (m150_ok hq1) ?_
  refine h_lw (lv := [(0, .ref 87)]) (fa_c rfl (fa_n)) rfl ?_
  exact m149_34_ok  1000000 q1 _ h
end Sm149
section Sm176
variable {V : xmV} {L : List Nat} {Kc Ks : Nat} {Q : List xE}
theorem m176_ok  (s : xSt) : HC V L Kc Ks 176 [.ref 108] (Q, hpR s) (none) (Q, hpR (sI (sI (sZ (sI (sI (sI s 31 0) 32 0) 33 0) 1 false) 34 0) 35 (-1))) := by
  refine hc_of (by decide) rfl ?_
  refine h_it 11 (x' := (17, [(0, .ref 108)], [.int (b01 false), .ref 108], (Q, hpR (sI (sI (sI s 31 0) 32 0) 33 0)))) rfl ?_
  refine h_putZ (ty := .boolean) rfl rfl rfl ?_
  show HE V L Kc Ks 176 (20, [(0, .ref 108)], [], (Q, hpR (sZ (sI (sI (sI s 31 0) 32 0) 33 0) 1 false))) _ _
  refine h_it 2 (x' := (22, [(0, .ref 108)], [.int 0, .ref 108], (Q, hpR (sZ (sI (sI (sI s 31 0) 32 0) 33 0) 1 false)))) rfl ?_
  refine (show ∀ w : xSt, HE V L Kc Ks 176 (25, [(0, .ref 108)], [], (Q, hpR (sI w 34 0))) _ _ → HE V L Kc Ks 176 (22, [(0, .ref 108)], [.int 0, .ref 108], (Q, hpR w)) _ _ from fun w e => h_it 1 rfl e) (sZ (sI (sI (sI s 31 0) 32 0) 33 0) 1 false) ?_
  show HE V L Kc Ks 176 (25, [(0, .ref 108)], [], (Q, hpR (sI (sZ (sI (sI (sI s 31 0) 32 0) 33 0) 1 false) 34 0))) _ _
  refine h_it 2 (x' := (27, [(0, .ref 108)], [.int (-1), .ref 108], (Q, hpR (sI (sZ (sI (sI (sI s 31 0) 32 0) 33 0) 1 false) 34 0)))) rfl ?_
  refine (show ∀ w : xSt, HE V L Kc Ks 176 (30, [(0, .ref 108)], [], (Q, hpR (sI w 35 (-1)))) _ _ → HE V L Kc Ks 176 (27, [(0, .ref 108)], [.int (-1), .ref 108], (Q, hpR w)) _ _ from fun w e => h_it 1 rfl e) (sI (sZ (sI (sI (sI s 31 0) 32 0) 33 0) 1 false) 34 0) ?_
  show HE V L Kc Ks 176 (30, [(0, .ref 108)], [], (Q, hpR (sI (sI (sZ (sI (sI (sI s 31 0) 32 0) 33 0) 1 false) 34 0) 35 (-1)))) _ _
  exact h_vret rfl rfl
end Sm176
section Sm179
variable {V : xmV} {L : List Nat} {Kc Ks : Nat} {Q : List xE}
theorem m179_36_ok   : ∀ (n : Nat) (x1 : Int32) (s : xSt) (q : Int32 × xSt), m179_36  n x1 s = some q → HE V L Kc Ks 179 (36, [(0, .ref 108), (1, .int x1)], [], (Q, hpR s)) (some (.int q.1)) (Q, hpR q.2) := by
  intro n
  induction n with
  | zero => intro x1 s q h; cases h
  | succ n ih =>
    intro x1 s q h
    unfold m179_36 at h
    refine h_it 1 (x' := (37, [(0, .ref 108), (1, .int x1)], [.int x1], (Q, hpR s))) rfl ?_
    refine h_br (b := decide (x1 < 0)) (t := 65) (f := 40) (lv' := [(0, .ref 108), (1, .int x1)]) (st' := []) rfl rfl ?_
    by_cases h2 : x1 < 0
    · replace h := if_y h2 h
      refine h_y h2 ?_
      replace h := Option.some.inj h; subst h
      refine h_it 1 (x' := (66, [(0, .ref 108), (1, .int x1)], [.int x1], (Q, hpR s))) rfl ?_
      exact h_iret rfl rfl
    · replace h := if_n h2 h
      refine h_n h2 ?_
      refine h_it 3 (x' := (45, [(0, .ref 108), (1, .int x1)], [.int x1, .ref 123], (Q, hpR s))) rfl ?_
      obtain ⟨v3, hv3, h⟩ := Option.bind_eq_some_iff.mp h
      refine h_iald rfl rfl hv3 ?_
      refine h_it 3 (x' := (51, [(0, .ref 108), (1, .int x1)], [.int x1, .ref 119, .int v3], (Q, hpR s))) rfl ?_
      obtain ⟨v4, hv4, h⟩ := Option.bind_eq_some_iff.mp h
      refine h_iald rfl rfl hv4 ?_
      refine h_br (b := decide (¬ v3 = v4)) (t := 65) (f := 55) (lv' := [(0, .ref 108), (1, .int x1)]) (st' := []) rfl rfl ?_
      by_cases h5 : v3 = v4
      · replace h := if_y h5 h
        refine h_n (fun z => z h5) ?_
        refine h_it 3 (x' := (60, [(0, .ref 108), (1, .int x1)], [.int x1, .ref 120], (Q, hpR s))) rfl ?_
        obtain ⟨v6, hv6, h⟩ := Option.bind_eq_some_iff.mp h
        refine h_iald rfl rfl hv6 ?_
        refine h_it 2 (x' := (36, [(1, .int v6), (0, .ref 108)], [], (Q, hpR s))) rfl ?_
        refine h_lw (lv := [(0, .ref 108), (1, .int v6)]) (fa_c rfl (fa_c rfl (fa_n))) rfl ?_
        exact ih v6 s _ h
      · replace h := if_n h5 h
        refine h_y h5 ?_
        replace h := Option.some.inj h; subst h
        refine h_it 1 (x' := (66, [(0, .ref 108), (1, .int x1)], [.int x1], (Q, hpR s))) rfl ?_
        exact h_iret rfl rfl
theorem m179_35_ok   {y0 : Int32} {s : xSt} {q : Int32 × xSt} (h : m179_35  y0 s = some q) : HE V L Kc Ks 179 (35, [(0, .ref 108)], [.int y0], (Q, hpR s)) (some (.int q.1)) (Q, hpR q.2) := by
  unfold m179_35 at h
  refine h_it 1 (x' := (36, [(1, .int y0), (0, .ref 108)], [], (Q, hpR s))) rfl ?_
  refine h_lw (lv := [(0, .ref 108), (1, .int y0)]) (fa_c rfl (fa_c rfl (fa_n))) rfl ?_
  exact m179_36_ok  1000000 y0 s _ h
theorem m179_25_ok    {s : xSt} {q : Int32 × xSt} (h : m179_25   s = some q) : HE V L Kc Ks 179 (25, [(0, .ref 108)], [], (Q, hpR s)) (some (.int q.1)) (Q, hpR q.2) := by
  unfold m179_25 at h
  refine h_it 2 (x' := (35, [(0, .ref 108)], [.int (-1)], (Q, hpR s))) rfl ?_
  refine h_lw (lv := [(0, .ref 108)]) (fa_c rfl (fa_n)) rfl ?_
  exact m179_35_ok  h
theorem m179_ok  {s : xSt} {q : Int32 × xSt} (h : m179  s = some q) : HC V L Kc Ks 179 [.ref 108] (Q, hpR s) (some (.int q.1)) (Q, hpR q.2) := by
  unfold m179 at h
  refine hc_of (by decide) rfl ?_
  refine h_it 2 (x' := (4, [(0, .ref 108)], [.int (gI s 32)], (Q, hpR s))) rfl ?_
  refine h_br (b := decide ((gI s 32) = 0)) (t := 25) (f := 7) (lv' := [(0, .ref 108)]) (st' := []) rfl rfl ?_
  by_cases h1 : (gI s 32) = 0
  · replace h := if_y h1 h
    refine h_y h1 ?_
    refine h_lw (lv := [(0, .ref 108)]) (fa_c rfl (fa_n)) rfl ?_
    exact m179_25_ok  h
  · replace h := if_n h1 h
    refine h_n h1 ?_
    refine h_it 8 (x' := (21, [(0, .ref 108)], [.int ((gI s 32) - 1), .ref 115, .int (gI s 33)], (Q, hpR s))) rfl ?_
    obtain ⟨v7, hv7, h⟩ := Option.bind_eq_some_iff.mp h
    refine h_iald rfl rfl hv7 ?_
    refine h_br (b := decide (¬ (gI s 33) = v7)) (t := 29) (f := 25) (lv' := [(0, .ref 108)]) (st' := []) rfl rfl ?_
    by_cases h8 : (gI s 33) = v7
    · replace h := if_y h8 h
      refine h_n (fun z => z h8) ?_
      refine h_lw (lv := [(0, .ref 108)]) (fa_c rfl (fa_n)) rfl ?_
      exact m179_25_ok  h
    · replace h := if_n h8 h
      refine h_y h8 ?_
      refine h_it 4 (x' := (35, [(0, .ref 108)], [.int ((gI s 33) - 1)], (Q, hpR s))) rfl ?_
      refine h_lw (lv := [(0, .ref 108)]) (fa_c rfl (fa_n)) rfl ?_
      exact m179_35_ok  h
end Sm179
section Sm178
variable {V : xmV} {L : List Nat} {Kc Ks : Nat} {Q : List xE}
theorem m178_ok  {s : xSt} {q : Bool × xSt} (h : m178  s = some q) : HC V L Kc Ks 178 [.ref 108] (Q, hpR s) (some (.int (b01 q.1))) (Q, hpR q.2) := by
  unfold m178 at h
  refine hc_of (by decide) rfl ?_
  refine h_it 2 (x' := (4, [(0, .ref 108)], [.int (gI s 32)], (Q, hpR s))) rfl ?_
  refine h_br (b := decide ((gI s 32) = 0)) (t := 32) (f := 7) (lv' := [(0, .ref 108)]) (st' := []) rfl rfl ?_
  by_cases h1 : (gI s 32) = 0
  · replace h := if_y h1 h
    refine h_y h1 ?_
    replace h := Option.some.inj h; subst h
    refine h_it 2 (x' := (37, [(0, .ref 108)], [.int (b01 true)], (Q, hpR s))) rfl ?_
    exact h_zret rfl rfl
  · replace h := if_n h1 h
    refine h_n h1 ?_
    refine h_it 8 (x' := (21, [(0, .ref 108)], [.int ((gI s 32) - 1), .ref 115, .int (gI s 33)], (Q, hpR s))) rfl ?_
    obtain ⟨v2, hv2, h⟩ := Option.bind_eq_some_iff.mp h
    refine h_iald rfl rfl hv2 ?_
    refine h_br (b := decide ((gI s 33) ≤ v2)) (t := 36) (f := 25) (lv' := [(0, .ref 108)]) (st' := []) rfl rfl ?_
    by_cases h3 : (gI s 33) ≤ v2
    · replace h := if_y h3 h
      refine h_y h3 ?_
      replace h := Option.some.inj h; subst h
      refine h_it 1 (x' := (37, [(0, .ref 108)], [.int (b01 false)], (Q, hpR s))) rfl ?_
      exact h_zret rfl rfl
    · replace h := if_n h3 h
      refine h_n h3 ?_
      refine h_it 1 (x' := (26, [(0, .ref 108)], [.ref 108], (Q, hpR s))) rfl ?_
      obtain ⟨q4, hq4, h⟩ := Option.bind_eq_some_iff.mp h
      refine h_callO (As := []) (r1 := some (.int q4.1)) (st := []) (H1 := (Q, hpR q4.2)) rfl rfl rfl rfl rfl rfl (m179_ok hq4) ?_
      refine h_br (b := decide (0 ≤ q4.1)) (t := 36) (f := 32) (lv' := [(0, .ref 108)]) (st' := []) rfl rfl ?_
      by_cases h5 : 0 ≤ q4.1
      · replace h := if_y h5 h
        refine h_y h5 ?_
        replace h := Option.some.inj h; subst h
        refine h_it 1 (x' := (37, [(0, .ref 108)], [.int (b01 false)], (Q, hpR q4.2))) rfl ?_
        exact h_zret rfl rfl
      · replace h := if_n h5 h
        refine h_n h5 ?_
        replace h := Option.some.inj h; subst h
        refine h_it 2 (x' := (37, [(0, .ref 108)], [.int (b01 true)], (Q, hpR q4.2))) rfl ?_
        exact h_zret rfl rfl
end Sm178
section Sm188
variable {V : xmV} {L : List Nat} {Kc Ks : Nat} {Q : List xE}
theorem m188_44_ok   {x1 : Int32} {y0 : Int32} {s : xSt} {q : Bool × xSt} (h : m188_44  x1 y0 s = some q) : HE V L Kc Ks 188 (44, [(0, .ref 108), (1, .int x1)], [.int y0, .ref 110], (Q, hpR s)) (some (.int (b01 q.1))) (Q, hpR q.2) := by
  unfold m188_44 at h
  obtain ⟨v6, hv6, h⟩ := Option.bind_eq_some_iff.mp h
  refine h_lald rfl rfl hv6 ?_
  refine h_it 2 (x' := (49, [(0, .ref 108), (1, .int x1)], [.int (lg_cmp v6 427310)], (Q, hpR s))) rfl ?_
  refine h_br (b := decide (¬ (lg_cmp v6 427310) = 0)) (t := 89) (f := 52) (lv' := [(0, .ref 108), (1, .int x1)]) (st' := []) rfl rfl ?_
  by_cases h7 : (lg_cmp v6 427310) = 0
  · replace h := if_y h7 h
    refine h_n (fun z => z h7) ?_
    refine h_it 3 (x' := (57, [(0, .ref 108), (1, .int x1)], [.int x1, .ref 112], (Q, hpR s))) rfl ?_
    obtain ⟨v8, hv8, h⟩ := Option.bind_eq_some_iff.mp h
    refine h_iald rfl rfl hv8 ?_
    refine h_it 1 (x' := (59, [(0, .ref 108), (1, .int x1)], [.int 1, .int v8], (Q, hpR s))) rfl ?_
    refine h_br (b := decide (¬ v8 = 1)) (t := 89) (f := 62) (lv' := [(0, .ref 108), (1, .int x1)]) (st' := []) rfl rfl ?_
    by_cases h9 : v8 = 1
    · replace h := if_y h9 h
      refine h_n (fun z => z h9) ?_
      refine h_it 5 (x' := (70, [(0, .ref 108), (1, .int x1)], [.int (8 * x1), .ref 114], (Q, hpR s))) rfl ?_
      obtain ⟨v10, hv10, h⟩ := Option.bind_eq_some_iff.mp h
      refine h_iald rfl rfl hv10 ?_
      refine h_it 1 (x' := (72, [(0, .ref 108), (1, .int x1)], [.int 3, .int v10], (Q, hpR s))) rfl ?_
      refine h_br (b := decide (¬ v10 = 3)) (t := 89) (f := 75) (lv' := [(0, .ref 108), (1, .int x1)]) (st' := []) rfl rfl ?_
      by_cases h11 : v10 = 3
      · replace h := if_y h11 h
        refine h_n (fun z => z h11) ?_
        refine h_it 3 (x' := (80, [(0, .ref 108), (1, .int x1)], [.int x1, .ref 111], (Q, hpR s))) rfl ?_
        obtain ⟨v12, hv12, h⟩ := Option.bind_eq_some_iff.mp h
        refine h_iald rfl rfl hv12 ?_
        refine h_it 1 (x' := (82, [(0, .ref 108), (1, .int x1)], [.int 3, .int v12], (Q, hpR s))) rfl ?_
        refine h_br (b := decide (¬ v12 = 3)) (t := 89) (f := 85) (lv' := [(0, .ref 108), (1, .int x1)]) (st' := []) rfl rfl ?_
        by_cases h13 : v12 = 3
        · replace h := if_y h13 h
          refine h_n (fun z => z h13) ?_
          replace h := Option.some.inj h; subst h
          refine h_it 2 (x' := (90, [(0, .ref 108), (1, .int x1)], [.int (b01 true)], (Q, hpR s))) rfl ?_
          exact h_zret rfl rfl
        · replace h := if_n h13 h
          refine h_y h13 ?_
          replace h := Option.some.inj h; subst h
          refine h_it 1 (x' := (90, [(0, .ref 108), (1, .int x1)], [.int (b01 false)], (Q, hpR s))) rfl ?_
          exact h_zret rfl rfl
      · replace h := if_n h11 h
        refine h_y h11 ?_
        replace h := Option.some.inj h; subst h
        refine h_it 1 (x' := (90, [(0, .ref 108), (1, .int x1)], [.int (b01 false)], (Q, hpR s))) rfl ?_
        exact h_zret rfl rfl
    · replace h := if_n h9 h
      refine h_y h9 ?_
      replace h := Option.some.inj h; subst h
      refine h_it 1 (x' := (90, [(0, .ref 108), (1, .int x1)], [.int (b01 false)], (Q, hpR s))) rfl ?_
      exact h_zret rfl rfl
  · replace h := if_n h7 h
    refine h_y h7 ?_
    replace h := Option.some.inj h; subst h
    refine h_it 1 (x' := (90, [(0, .ref 108), (1, .int x1)], [.int (b01 false)], (Q, hpR s))) rfl ?_
    exact h_zret rfl rfl
theorem m188_27_ok   {x1 : Int32} {y0 : Int32} {s : xSt} {q : Bool × xSt} (h : m188_27  x1 y0 s = some q) : HE V L Kc Ks 188 (27, [(0, .ref 108), (1, .int x1)], [.int y0, .ref 109], (Q, hpR s)) (some (.int (b01 q.1))) (Q, hpR q.2) := by
  unfold m188_27 at h
  obtain ⟨v3, hv3, h⟩ := Option.bind_eq_some_iff.mp h
  refine h_bald rfl (Or.inr rfl) rfl hv3 ?_
  refine h_br (b := decide (¬ v3 = 0)) (t := 89) (f := 31) (lv' := [(0, .ref 108), (1, .int x1)]) (st' := []) rfl rfl ?_
  by_cases h4 : v3 = 0
  · replace h := if_y h4 h
    refine h_n (fun z => z h4) ?_
    refine h_it 3 (x' := (36, [(0, .ref 108), (1, .int x1)], [.int x1, .ref 110], (Q, hpR s))) rfl ?_
    refine h_br (b := decide (0 ≤ x1)) (t := 43) (f := 39) (lv' := [(0, .ref 108), (1, .int x1)]) (st' := [.ref 110]) rfl rfl ?_
    by_cases h5 : 0 ≤ x1
    · replace h := if_y h5 h
      refine h_y h5 ?_
      refine h_it 1 (x' := (44, [(0, .ref 108), (1, .int x1)], [.int x1, .ref 110], (Q, hpR s))) rfl ?_
      refine h_lw (lv := [(0, .ref 108), (1, .int x1)]) (fa_c rfl (fa_c rfl (fa_n))) rfl ?_
      exact m188_44_ok  h
    · replace h := if_n h5 h
      refine h_n h5 ?_
      refine h_it 2 (x' := (44, [(0, .ref 108), (1, .int x1)], [.int 0, .ref 110], (Q, hpR s))) rfl ?_
      refine h_lw (lv := [(0, .ref 108), (1, .int x1)]) (fa_c rfl (fa_c rfl (fa_n))) rfl ?_
      exact m188_44_ok  h
  · replace h := if_n h4 h
    refine h_y h4 ?_
    replace h := Option.some.inj h; subst h
    refine h_it 1 (x' := (90, [(0, .ref 108), (1, .int x1)], [.int (b01 false)], (Q, hpR s))) rfl ?_
    exact h_zret rfl rfl
theorem m188_ok  {s : xSt} {q : Bool × xSt} (h : m188  s = some q) : HC V L Kc Ks 188 [.ref 108] (Q, hpR s) (some (.int (b01 q.1))) (Q, hpR q.2) := by
  unfold m188 at h
  refine hc_of (by decide) rfl ?_
  refine h_it 7 (x' := (11, [(1, .int ((gI s 32) - 1)), (0, .ref 108)], [.int (gI s 32)], (Q, hpR s))) rfl ?_
  refine h_br (b := decide ((gI s 32) ≤ 0)) (t := 89) (f := 14) (lv' := [(1, .int ((gI s 32) - 1)), (0, .ref 108)]) (st' := []) rfl rfl ?_
  by_cases h1 : (gI s 32) ≤ 0
  · replace h := if_y h1 h
    refine h_y h1 ?_
    replace h := Option.some.inj h; subst h
    refine h_it 1 (x' := (90, [(1, .int ((gI s 32) - 1)), (0, .ref 108)], [.int (b01 false)], (Q, hpR s))) rfl ?_
    exact h_zret rfl rfl
  · replace h := if_n h1 h
    refine h_n h1 ?_
    refine h_it 3 (x' := (19, [(1, .int ((gI s 32) - 1)), (0, .ref 108)], [.int ((gI s 32) - 1), .ref 109], (Q, hpR s))) rfl ?_
    refine h_br (b := decide (0 ≤ ((gI s 32) - 1))) (t := 26) (f := 22) (lv' := [(1, .int ((gI s 32) - 1)), (0, .ref 108)]) (st' := [.ref 109]) rfl rfl ?_
    by_cases h2 : 0 ≤ ((gI s 32) - 1)
    · replace h := if_y h2 h
      refine h_y h2 ?_
      refine h_it 1 (x' := (27, [(1, .int ((gI s 32) - 1)), (0, .ref 108)], [.int ((gI s 32) - 1), .ref 109], (Q, hpR s))) rfl ?_
      refine h_lw (lv := [(0, .ref 108), (1, .int ((gI s 32) - 1))]) (fa_c rfl (fa_c rfl (fa_n))) rfl ?_
      exact m188_27_ok  h
    · replace h := if_n h2 h
      refine h_n h2 ?_
      refine h_it 2 (x' := (27, [(1, .int ((gI s 32) - 1)), (0, .ref 108)], [.int 0, .ref 109], (Q, hpR s))) rfl ?_
      refine h_lw (lv := [(0, .ref 108), (1, .int ((gI s 32) - 1))]) (fa_c rfl (fa_c rfl (fa_n))) rfl ?_
      exact m188_27_ok  h
end Sm188
section Sm184
variable {V : xmV} {L : List Nat} {Kc Ks : Nat} {Q : List xE}
theorem m184_ok {a0 : Int32} {s : xSt} {q : Bool × xSt} (h : m184 a0 s = some q) : HC V L Kc Ks 184 [.int a0] (Q, hpR s) (some (.int (b01 q.1))) (Q, hpR q.2) := by
  unfold m184 at h
  refine hc_of (by decide) rfl ?_
  refine h_it 2 (x' := (3, [(0, .int a0)], [.int 12, .int a0], (Q, hpR s))) rfl ?_
  refine h_br (b := decide (a0 = 12)) (t := 12) (f := 6) (lv' := [(0, .int a0)]) (st' := []) rfl rfl ?_
  by_cases h1 : a0 = 12
  · replace h := if_y h1 h
    refine h_y h1 ?_
    replace h := Option.some.inj h; subst h
    refine h_it 2 (x' := (17, [(0, .int a0)], [.int (b01 true)], (Q, hpR s))) rfl ?_
    exact h_zret rfl rfl
  · replace h := if_n h1 h
    refine h_n h1 ?_
    refine h_it 2 (x' := (9, [(0, .int a0)], [.int 22, .int a0], (Q, hpR s))) rfl ?_
    refine h_br (b := decide (¬ a0 = 22)) (t := 16) (f := 12) (lv' := [(0, .int a0)]) (st' := []) rfl rfl ?_
    by_cases h2 : a0 = 22
    · replace h := if_y h2 h
      refine h_n (fun z => z h2) ?_
      replace h := Option.some.inj h; subst h
      refine h_it 2 (x' := (17, [(0, .int a0)], [.int (b01 true)], (Q, hpR s))) rfl ?_
      exact h_zret rfl rfl
    · replace h := if_n h2 h
      refine h_y h2 ?_
      replace h := Option.some.inj h; subst h
      refine h_it 1 (x' := (17, [(0, .int a0)], [.int (b01 false)], (Q, hpR s))) rfl ?_
      exact h_zret rfl rfl
end Sm184
section Sm192
variable {V : xmV} {L : List Nat} {Kc Ks : Nat} {Q : List xE}
theorem m192_30_ok   {x2 : Int32} {x3 : Int32} {s : xSt} {q : Bool × xSt} (h : m192_30  x2 x3 s = some q) : HE V L Kc Ks 192 (30, [(2, .int x2), (3, .int x3)], [], (Q, hpR s)) (some (.int (b01 q.1))) (Q, hpR q.2) := by
  unfold m192_30 at h
  refine h_it 1 (x' := (31, [(2, .int x2), (3, .int x3)], [.int x3], (Q, hpR s))) rfl ?_
  obtain ⟨q4, hq4, h⟩ := Option.bind_eq_some_iff.mp h
  refine h_callS (av := [.int x3]) (r1 := some (.int (b01 q4.1))) (st := []) (H1 := (Q, hpR q4.2)) rfl rfl rfl rfl rfl (m184_ok hq4) ?_
  refine h_br (b := decide ((b01 q4.1) = 0)) (t := 46) (f := 37) (lv' := [(2, .int x2), (3, .int x3)]) (st' := []) rfl rfl ?_
  by_cases h5 : q4.1 = true
  · replace h := if_y h5 h
    refine h_n (b01_1 h5) ?_
    refine h_it 2 (x' := (39, [(2, .int x2), (3, .int x3)], [.int 2, .int x2], (Q, hpR q4.2))) rfl ?_
    refine h_br (b := decide (¬ x2 = 2)) (t := 46) (f := 42) (lv' := [(2, .int x2), (3, .int x3)]) (st' := []) rfl rfl ?_
    by_cases h6 : x2 = 2
    · replace h := if_y h6 h
      refine h_n (fun z => z h6) ?_
      replace h := Option.some.inj h; subst h
      refine h_it 2 (x' := (47, [(2, .int x2), (3, .int x3)], [.int (b01 true)], (Q, hpR q4.2))) rfl ?_
      exact h_zret rfl rfl
    · replace h := if_n h6 h
      refine h_y h6 ?_
      replace h := Option.some.inj h; subst h
      refine h_it 1 (x' := (47, [(2, .int x2), (3, .int x3)], [.int (b01 false)], (Q, hpR q4.2))) rfl ?_
      exact h_zret rfl rfl
  · replace h := if_n h5 h
    refine h_y (b01_0 h5) ?_
    replace h := Option.some.inj h; subst h
    refine h_it 1 (x' := (47, [(2, .int x2), (3, .int x3)], [.int (b01 false)], (Q, hpR q4.2))) rfl ?_
    exact h_zret rfl rfl
theorem m192_25_ok   {x2 : Int32} {x3 : Int32} {s : xSt} {q : Bool × xSt} (h : m192_25  x2 x3 s = some q) : HE V L Kc Ks 192 (25, [(2, .int x2), (3, .int x3)], [], (Q, hpR s)) (some (.int (b01 q.1))) (Q, hpR q.2) := by
  unfold m192_25 at h
  refine h_it 2 (x' := (27, [(2, .int x2), (3, .int x3)], [.int 1, .int x2], (Q, hpR s))) rfl ?_
  refine h_br (b := decide (x2 = 1)) (t := 42) (f := 30) (lv' := [(2, .int x2), (3, .int x3)]) (st' := []) rfl rfl ?_
  by_cases h3 : x2 = 1
  · replace h := if_y h3 h
    refine h_y h3 ?_
    replace h := Option.some.inj h; subst h
    refine h_it 2 (x' := (47, [(2, .int x2), (3, .int x3)], [.int (b01 true)], (Q, hpR s))) rfl ?_
    exact h_zret rfl rfl
  · replace h := if_n h3 h
    refine h_n h3 ?_
    refine h_lw (lv := [(2, .int x2), (3, .int x3)]) (fa_c rfl (fa_c rfl (fa_n))) rfl ?_
    exact m192_30_ok  h
theorem m192_ok {a1 : Int32} {a2 : Int32} {s : xSt} {q : Bool × xSt} (h : m192 a1 a2 s = some q) : HC V L Kc Ks 192 [.ref 108, .int a1, .int a2] (Q, hpR s) (some (.int (b01 q.1))) (Q, hpR q.2) := by
  unfold m192 at h
  refine hc_of (by decide) rfl ?_
  refine h_it 3 (x' := (5, [(0, .ref 108), (1, .int a1), (2, .int a2)], [.int a1, .ref 116], (Q, hpR s))) rfl ?_
  obtain ⟨v1, hv1, h⟩ := Option.bind_eq_some_iff.mp h
  refine h_iald rfl rfl hv1 ?_
  refine h_it 3 (x' := (10, [(3, .int v1), (0, .ref 108), (1, .int a1), (2, .int a2)], [.int 11, .int v1], (Q, hpR s))) rfl ?_
  refine h_br (b := decide (v1 = 11)) (t := 25) (f := 13) (lv' := [(3, .int v1), (0, .ref 108), (1, .int a1), (2, .int a2)]) (st' := []) rfl rfl ?_
  by_cases h2 : v1 = 11
  · replace h := if_y h2 h
    refine h_y h2 ?_
    refine h_lw (lv := [(2, .int a2), (3, .int v1)]) (fa_c rfl (fa_c rfl (fa_n))) rfl ?_
    exact m192_25_ok  h
  · replace h := if_n h2 h
    refine h_n h2 ?_
    refine h_it 2 (x' := (16, [(3, .int v1), (0, .ref 108), (1, .int a1), (2, .int a2)], [.int 21, .int v1], (Q, hpR s))) rfl ?_
    refine h_br (b := decide (v1 = 21)) (t := 25) (f := 19) (lv' := [(3, .int v1), (0, .ref 108), (1, .int a1), (2, .int a2)]) (st' := []) rfl rfl ?_
    by_cases h7 : v1 = 21
    · replace h := if_y h7 h
      refine h_y h7 ?_
      refine h_lw (lv := [(2, .int a2), (3, .int v1)]) (fa_c rfl (fa_c rfl (fa_n))) rfl ?_
      exact m192_25_ok  h
    · replace h := if_n h7 h
      refine h_n h7 ?_
      refine h_it 2 (x' := (22, [(3, .int v1), (0, .ref 108), (1, .int a1), (2, .int a2)], [.int 18, .int v1], (Q, hpR s))) rfl ?_
      refine h_br (b := decide (¬ v1 = 18)) (t := 30) (f := 25) (lv' := [(3, .int v1), (0, .ref 108), (1, .int a1), (2, .int a2)]) (st' := []) rfl rfl ?_
      by_cases h8 : v1 = 18
      · replace h := if_y h8 h
        refine h_n (fun z => z h8) ?_
        refine h_lw (lv := [(2, .int a2), (3, .int v1)]) (fa_c rfl (fa_c rfl (fa_n))) rfl ?_
        exact m192_25_ok  h
      · replace h := if_n h8 h
        refine h_y h8 ?_
        refine h_lw (lv := [(2, .int a2), (3, .int v1)]) (fa_c rfl (fa_c rfl (fa_n))) rfl ?_
        exact m192_30_ok  h
end Sm192
section Sm191
variable {V : xmV} {L : List Nat} {Kc Ks : Nat} {Q : List xE}
theorem m191_69_ok {K14 : Int32 → Int32 → xSt → Option (Int32 × xSt)} (hK14 : ∀ (x2 : Int32) (x3 : Int32) (s : xSt) (q : Int32 × xSt), K14 x2 x3 s = some q → HE V L Kc Ks 191 (14, [(0, .ref 108), (2, .int x2), (3, .int x3)], [], (Q, hpR s)) (some (.int q.1)) (Q, hpR q.2)) {x3 : Int32} {y0 : Int32} {y1 : Int32} {s : xSt} {q : Int32 × xSt} (h : m191_69 K14 x3 y0 y1 s = some q) : HE V L Kc Ks 191 (69, [(0, .ref 108), (3, .int x3)], [.int y0, .int y1], (Q, hpR s)) (some (.int q.1)) (Q, hpR q.2) := by
  unfold m191_69 at h
  refine h_it 5 (x' := (76, [(2, .int (y1 + y0)), (0, .ref 108), (3, .int x3)], [.int x3, .ref 120], (Q, hpR s))) rfl ?_
  obtain ⟨v13, hv13, h⟩ := Option.bind_eq_some_iff.mp h
  refine h_iald rfl rfl hv13 ?_
  refine h_it 2 (x' := (14, [(3, .int v13), (2, .int (y1 + y0)), (0, .ref 108)], [], (Q, hpR s))) rfl ?_
  refine h_lw (lv := [(0, .ref 108), (2, .int (y1 + y0)), (3, .int v13)]) (fa_c rfl (fa_c rfl (fa_c rfl (fa_n)))) rfl ?_
  exact hK14 (y1 + y0) v13 s _ h
theorem m191_14_ok   : ∀ (n : Nat) (x2 : Int32) (x3 : Int32) (s : xSt) (q : Int32 × xSt), m191_14  n x2 x3 s = some q → HE V L Kc Ks 191 (14, [(0, .ref 108), (2, .int x2), (3, .int x3)], [], (Q, hpR s)) (some (.int q.1)) (Q, hpR q.2) := by
  intro n
  induction n with
  | zero => intro x2 x3 s q h; cases h
  | succ n ih =>
    intro x2 x3 s q h
    unfold m191_14 at h
    refine h_it 3 (x' := (19, [(0, .ref 108), (2, .int x2), (3, .int x3)], [.int x3, .ref 120], (Q, hpR s))) rfl ?_
    obtain ⟨v3, hv3, h⟩ := Option.bind_eq_some_iff.mp h
    refine h_iald rfl rfl hv3 ?_
    refine h_br (b := decide (v3 < 0)) (t := 81) (f := 23) (lv' := [(0, .ref 108), (2, .int x2), (3, .int x3)]) (st' := []) rfl rfl ?_
    by_cases h4 : v3 < 0
    · replace h := if_y h4 h
      refine h_y h4 ?_
      replace h := Option.some.inj h; subst h
      refine h_it 1 (x' := (82, [(0, .ref 108), (2, .int x2), (3, .int x3)], [.int x2], (Q, hpR s))) rfl ?_
      exact h_iret rfl rfl
    · replace h := if_n h4 h
      refine h_n h4 ?_
      refine h_it 5 (x' := (30, [(0, .ref 108), (2, .int x2), (3, .int x3)], [.int x3, .ref 120, .ref 108, .int x2], (Q, hpR s))) rfl ?_
      obtain ⟨v5, hv5, h⟩ := Option.bind_eq_some_iff.mp h
      refine h_iald rfl rfl hv5 ?_
      refine h_it 3 (x' := (36, [(0, .ref 108), (2, .int x2), (3, .int x3)], [.int x3, .ref 121, .int v5, .ref 108, .int x2], (Q, hpR s))) rfl ?_
      obtain ⟨v6, hv6, h⟩ := Option.bind_eq_some_iff.mp h
      refine h_iald rfl rfl hv6 ?_
      obtain ⟨q7, hq7, h⟩ := Option.bind_eq_some_iff.mp h
      refine h_callO (As := [.int v5, .int v6]) (r1 := some (.int (b01 q7.1))) (st := [.int x2]) (H1 := (Q, hpR q7.2)) rfl rfl rfl rfl rfl rfl (m192_ok hq7) ?_
      refine h_br (b := decide (¬ (b01 q7.1) = 0)) (t := 47) (f := 43) (lv' := [(0, .ref 108), (2, .int x2), (3, .int x3)]) (st' := [.int x2]) rfl rfl ?_
      by_cases h8 : q7.1 = true
      · replace h := if_y h8 h
        refine h_y (b01_1 h8) ?_
        refine h_it 5 (x' := (56, [(0, .ref 108), (2, .int x2), (3, .int x3)], [.int x3, .ref 120, .ref 116, .int x2], (Q, hpR q7.2))) rfl ?_
        obtain ⟨v9, hv9, h⟩ := Option.bind_eq_some_iff.mp h
        refine h_iald rfl rfl hv9 ?_
        obtain ⟨v10, hv10, h⟩ := Option.bind_eq_some_iff.mp h
        refine h_iald rfl rfl hv10 ?_
        obtain ⟨q11, hq11, h⟩ := Option.bind_eq_some_iff.mp h
        refine h_callS (av := [.int v10]) (r1 := some (.int (b01 q11.1))) (st := [.int x2]) (H1 := (Q, hpR q11.2)) rfl rfl rfl rfl rfl (m184_ok hq11) ?_
        refine h_br (b := decide ((b01 q11.1) = 0)) (t := 68) (f := 64) (lv' := [(0, .ref 108), (2, .int x2), (3, .int x3)]) (st' := [.int x2]) rfl rfl ?_
        by_cases h12 : q11.1 = true
        · replace h := if_y h12 h
          refine h_n (b01_1 h12) ?_
          refine h_it 2 (x' := (69, [(0, .ref 108), (2, .int x2), (3, .int x3)], [.int 2, .int x2], (Q, hpR q11.2))) rfl ?_
          refine h_lw (lv := [(0, .ref 108), (3, .int x3)]) (fa_c rfl (fa_c rfl (fa_n))) rfl ?_
          exact m191_69_ok ih h
        · replace h := if_n h12 h
          refine h_y (b01_0 h12) ?_
          refine h_it 1 (x' := (69, [(0, .ref 108), (2, .int x2), (3, .int x3)], [.int 1, .int x2], (Q, hpR q11.2))) rfl ?_
          refine h_lw (lv := [(0, .ref 108), (3, .int x3)]) (fa_c rfl (fa_c rfl (fa_n))) rfl ?_
          exact m191_69_ok ih h
      · replace h := if_n h8 h
        refine h_n (fun z => z (b01_0 h8)) ?_
        refine h_it 2 (x' := (69, [(0, .ref 108), (2, .int x2), (3, .int x3)], [.int 0, .int x2], (Q, hpR q7.2))) rfl ?_
        refine h_lw (lv := [(0, .ref 108), (3, .int x3)]) (fa_c rfl (fa_c rfl (fa_n))) rfl ?_
        exact m191_69_ok ih h
theorem m191_ok {a1 : Int32} {s : xSt} {q : Int32 × xSt} (h : m191 a1 s = some q) : HC V L Kc Ks 191 [.ref 108, .int a1] (Q, hpR s) (some (.int q.1)) (Q, hpR q.2) := by
  unfold m191 at h
  refine hc_of (by decide) rfl ?_
  refine h_it 5 (x' := (9, [(0, .ref 108), (1, .int a1)], [.int a1, .ref 122, .ref 112], (Q, hpR s))) rfl ?_
  obtain ⟨v1, hv1, h⟩ := Option.bind_eq_some_iff.mp h
  refine h_iald rfl rfl hv1 ?_
  obtain ⟨v2, hv2, h⟩ := Option.bind_eq_some_iff.mp h
  refine h_iald rfl rfl hv2 ?_
  refine h_it 3 (x' := (14, [(3, .int a1), (2, .int v2), (0, .ref 108), (1, .int a1)], [], (Q, hpR s))) rfl ?_
  refine h_lw (lv := [(0, .ref 108), (2, .int v2), (3, .int a1)]) (fa_c rfl (fa_c rfl (fa_c rfl (fa_n)))) rfl ?_
  exact m191_14_ok  1000000 v2 a1 s _ h
end Sm191
section Sm193
variable {V : xmV} {L : List Nat} {Kc Ks : Nat} {Q : List xE}
theorem m193_88_ok   : ∀ (n : Nat) (x2 : Int64) (x4 : Int32) (x5 : Int32) (s : xSt) (q : Int32 × xSt), m193_88  n x2 x4 x5 s = some q → HE V L Kc Ks 193 (88, [(0, .ref 108), (2, .long x2), (4, .int x4), (5, .int x5)], [], (Q, hpR s)) (some (.int q.1)) (Q, hpR q.2) := by
  intro n
  induction n with
  | zero => intro x2 x4 x5 s q h; cases h
  | succ n ih =>
    intro x2 x4 x5 s q h
    unfold m193_88 at h
    refine h_it 4 (x' := (96, [(0, .ref 108), (2, .long x2), (4, .int x4), (5, .int x5)], [.int x4, .ref 112, .int x5], (Q, hpR s))) rfl ?_
    obtain ⟨v4, hv4, h⟩ := Option.bind_eq_some_iff.mp h
    refine h_iald rfl rfl hv4 ?_
    refine h_br (b := decide (v4 ≤ x5)) (t := 130) (f := 100) (lv' := [(0, .ref 108), (2, .long x2), (4, .int x4), (5, .int x5)]) (st' := []) rfl rfl ?_
    by_cases h5 : v4 ≤ x5
    · replace h := if_y h5 h
      refine h_y h5 ?_
      replace h := Option.some.inj h; subst h
      refine h_it 1 (x' := (131, [(0, .ref 108), (2, .long x2), (4, .int x4), (5, .int x5)], [.int (-1)], (Q, hpR s))) rfl ?_
      exact h_iret rfl rfl
    · replace h := if_n h5 h
      refine h_n h5 ?_
      refine h_it 7 (x' := (112, [(0, .ref 108), (2, .long x2), (4, .int x4), (5, .int x5)], [.int ((8 * x4) + x5), .ref 113], (Q, hpR s))) rfl ?_
      obtain ⟨v6, hv6, h⟩ := Option.bind_eq_some_iff.mp h
      refine h_lald rfl rfl hv6 ?_
      refine h_it 2 (x' := (115, [(0, .ref 108), (2, .long x2), (4, .int x4), (5, .int x5)], [.int (lg_cmp v6 x2)], (Q, hpR s))) rfl ?_
      refine h_br (b := decide (¬ (lg_cmp v6 x2) = 0)) (t := 124) (f := 118) (lv' := [(0, .ref 108), (2, .long x2), (4, .int x4), (5, .int x5)]) (st' := []) rfl rfl ?_
      by_cases h7 : (lg_cmp v6 x2) = 0
      · replace h := if_y h7 h
        refine h_n (fun z => z h7) ?_
        replace h := Option.some.inj h; subst h
        refine h_it 3 (x' := (123, [(0, .ref 108), (2, .long x2), (4, .int x4), (5, .int x5)], [.int ((-2) - x5)], (Q, hpR s))) rfl ?_
        exact h_iret rfl rfl
      · replace h := if_n h7 h
        refine h_y h7 ?_
        refine h_it 2 (x' := (88, [(5, .int (x5 + 1)), (0, .ref 108), (2, .long x2), (4, .int x4)], [], (Q, hpR s))) rfl ?_
        refine h_lw (lv := [(0, .ref 108), (2, .long x2), (4, .int x4), (5, .int (x5 + 1))]) (fa_c rfl (fa_c rfl (fa_c rfl (fa_c rfl (fa_n))))) rfl ?_
        exact ih x2 x4 (x5 + 1) s _ h
theorem m193_65_ok {K3 : Int32 → Int64 → Int32 → xSt → Option (Int32 × xSt)} (hK3 : ∀ (x1 : Int32) (x2 : Int64) (x4 : Int32) (s : xSt) (q : Int32 × xSt), K3 x1 x2 x4 s = some q → HE V L Kc Ks 193 (3, [(0, .ref 108), (1, .int x1), (2, .long x2), (4, .int x4)], [], (Q, hpR s)) (some (.int q.1)) (Q, hpR q.2)) {x1 : Int32} {x2 : Int64} {x4 : Int32} {s : xSt} {q : Int32 × xSt} (h : m193_65 K3 x1 x2 x4 s = some q) : HE V L Kc Ks 193 (65, [(0, .ref 108), (1, .int x1), (2, .long x2), (4, .int x4)], [], (Q, hpR s)) (some (.int q.1)) (Q, hpR q.2) := by
  unfold m193_65 at h
  refine h_it 3 (x' := (71, [(0, .ref 108), (1, .int x1), (2, .long x2), (4, .int x4)], [.int x4, .ref 120], (Q, hpR s))) rfl ?_
  obtain ⟨v16, hv16, h⟩ := Option.bind_eq_some_iff.mp h
  refine h_iald rfl rfl hv16 ?_
  refine h_it 2 (x' := (3, [(4, .int v16), (0, .ref 108), (1, .int x1), (2, .long x2)], [], (Q, hpR s))) rfl ?_
  refine h_lw (lv := [(0, .ref 108), (1, .int x1), (2, .long x2), (4, .int v16)]) (fa_c rfl (fa_c rfl (fa_c rfl (fa_c rfl (fa_n))))) rfl ?_
  exact hK3 x1 x2 v16 s _ h
theorem m193_3_ok   : ∀ (n : Nat) (x1 : Int32) (x2 : Int64) (x4 : Int32) (s : xSt) (q : Int32 × xSt), m193_3  n x1 x2 x4 s = some q → HE V L Kc Ks 193 (3, [(0, .ref 108), (1, .int x1), (2, .long x2), (4, .int x4)], [], (Q, hpR s)) (some (.int q.1)) (Q, hpR q.2) := by
  intro n
  induction n with
  | zero => intro x1 x2 x4 s q h; cases h
  | succ n ih =>
    intro x1 x2 x4 s q h
    unfold m193_3 at h
    refine h_it 3 (x' := (9, [(0, .ref 108), (1, .int x1), (2, .long x2), (4, .int x4)], [.int x4, .ref 120], (Q, hpR s))) rfl ?_
    obtain ⟨v1, hv1, h⟩ := Option.bind_eq_some_iff.mp h
    refine h_iald rfl rfl hv1 ?_
    refine h_br (b := decide (v1 < 0)) (t := 77) (f := 13) (lv' := [(0, .ref 108), (1, .int x1), (2, .long x2), (4, .int x4)]) (st' := []) rfl rfl ?_
    by_cases h2 : v1 < 0
    · replace h := if_y h2 h
      refine h_y h2 ?_
      refine h_it 3 (x' := (82, [(0, .ref 108), (1, .int x1), (2, .long x2), (4, .int x4)], [.int x1, .ref 122], (Q, hpR s))) rfl ?_
      obtain ⟨v3, hv3, h⟩ := Option.bind_eq_some_iff.mp h
      refine h_iald rfl rfl hv3 ?_
      refine h_it 3 (x' := (88, [(5, .int 0), (4, .int v3), (0, .ref 108), (1, .int x1), (2, .long x2)], [], (Q, hpR s))) rfl ?_
      refine h_lw (lv := [(0, .ref 108), (2, .long x2), (4, .int v3), (5, .int 0)]) (fa_c rfl (fa_c rfl (fa_c rfl (fa_c rfl (fa_n))))) rfl ?_
      exact m193_88_ok  1000000 x2 v3 0 s _ h
    · replace h := if_n h2 h
      refine h_n h2 ?_
      refine h_it 3 (x' := (19, [(0, .ref 108), (1, .int x1), (2, .long x2), (4, .int x4)], [.int x4, .ref 120], (Q, hpR s))) rfl ?_
      obtain ⟨v8, hv8, h⟩ := Option.bind_eq_some_iff.mp h
      refine h_iald rfl rfl hv8 ?_
      refine h_it 6 (x' := (31, [(5, .int v8), (0, .ref 108), (1, .int x1), (2, .long x2), (4, .int x4)], [.int x4, .ref 121, .int v8, .ref 108], (Q, hpR s))) rfl ?_
      obtain ⟨v9, hv9, h⟩ := Option.bind_eq_some_iff.mp h
      refine h_iald rfl rfl hv9 ?_
      obtain ⟨q10, hq10, h⟩ := Option.bind_eq_some_iff.mp h
      refine h_callO (As := [.int v8, .int v9]) (r1 := some (.int (b01 q10.1))) (st := []) (H1 := (Q, hpR q10.2)) rfl rfl rfl rfl rfl rfl (m192_ok hq10) ?_
      refine h_br (b := decide ((b01 q10.1) = 0)) (t := 65) (f := 38) (lv' := [(5, .int v8), (0, .ref 108), (1, .int x1), (2, .long x2), (4, .int x4)]) (st' := []) rfl rfl ?_
      by_cases h11 : q10.1 = true
      · replace h := if_y h11 h
        refine h_n (b01_1 h11) ?_
        refine h_it 3 (x' := (44, [(5, .int v8), (0, .ref 108), (1, .int x1), (2, .long x2), (4, .int x4)], [.int v8, .ref 117], (Q, hpR q10.2))) rfl ?_
        obtain ⟨v12, hv12, h⟩ := Option.bind_eq_some_iff.mp h
        refine h_lald rfl rfl hv12 ?_
        refine h_it 2 (x' := (47, [(5, .int v8), (0, .ref 108), (1, .int x1), (2, .long x2), (4, .int x4)], [.int (lg_cmp v12 x2)], (Q, hpR q10.2))) rfl ?_
        refine h_br (b := decide ((lg_cmp v12 x2) = 0)) (t := 62) (f := 50) (lv' := [(5, .int v8), (0, .ref 108), (1, .int x1), (2, .long x2), (4, .int x4)]) (st' := []) rfl rfl ?_
        by_cases h13 : (lg_cmp v12 x2) = 0
        · replace h := if_y h13 h
          refine h_y h13 ?_
          replace h := Option.some.inj h; subst h
          refine h_it 1 (x' := (64, [(5, .int v8), (0, .ref 108), (1, .int x1), (2, .long x2), (4, .int x4)], [.int v8], (Q, hpR q10.2))) rfl ?_
          exact h_iret rfl rfl
        · replace h := if_n h13 h
          refine h_n h13 ?_
          refine h_it 3 (x' := (56, [(5, .int v8), (0, .ref 108), (1, .int x1), (2, .long x2), (4, .int x4)], [.int v8, .ref 118], (Q, hpR q10.2))) rfl ?_
          obtain ⟨v14, hv14, h⟩ := Option.bind_eq_some_iff.mp h
          refine h_lald rfl rfl hv14 ?_
          refine h_it 2 (x' := (59, [(5, .int v8), (0, .ref 108), (1, .int x1), (2, .long x2), (4, .int x4)], [.int (lg_cmp v14 x2)], (Q, hpR q10.2))) rfl ?_
          refine h_br (b := decide (¬ (lg_cmp v14 x2) = 0)) (t := 65) (f := 62) (lv' := [(5, .int v8), (0, .ref 108), (1, .int x1), (2, .long x2), (4, .int x4)]) (st' := []) rfl rfl ?_
          by_cases h15 : (lg_cmp v14 x2) = 0
          · replace h := if_y h15 h
            refine h_n (fun z => z h15) ?_
            replace h := Option.some.inj h; subst h
            refine h_it 1 (x' := (64, [(5, .int v8), (0, .ref 108), (1, .int x1), (2, .long x2), (4, .int x4)], [.int v8], (Q, hpR q10.2))) rfl ?_
            exact h_iret rfl rfl
          · replace h := if_n h15 h
            refine h_y h15 ?_
            refine h_lw (lv := [(0, .ref 108), (1, .int x1), (2, .long x2), (4, .int x4)]) (fa_c rfl (fa_c rfl (fa_c rfl (fa_c rfl (fa_n))))) rfl ?_
            exact m193_65_ok ih h
      · replace h := if_n h11 h
        refine h_y (b01_0 h11) ?_
        refine h_lw (lv := [(0, .ref 108), (1, .int x1), (2, .long x2), (4, .int x4)]) (fa_c rfl (fa_c rfl (fa_c rfl (fa_c rfl (fa_n))))) rfl ?_
        exact m193_65_ok ih h
theorem m193_ok {a1 : Int32} {l2 : Int64} {s : xSt} {q : Int32 × xSt} (h : m193 a1 l2 s = some q) : HC V L Kc Ks 193 [.ref 108, .int a1, .long l2] (Q, hpR s) (some (.int q.1)) (Q, hpR q.2) := by
  unfold m193 at h
  refine hc_of (by decide) rfl ?_
  refine h_it 2 (x' := (3, [(4, .int a1), (0, .ref 108), (1, .int a1), (2, .long l2)], [], (Q, hpR s))) rfl ?_
  refine h_lw (lv := [(0, .ref 108), (1, .int a1), (2, .long l2), (4, .int a1)]) (fa_c rfl (fa_c rfl (fa_c rfl (fa_c rfl (fa_n))))) rfl ?_
  exact m193_3_ok  1000000 a1 l2 a1 s _ h
end Sm193
section Sm189
variable {V : xmV} {L : List Nat} {Kc Ks : Nat} {Q : List xE}
theorem m189_ok {a1 : Int32} {a2 : Int32} {s : xSt} {q : Int32 × xSt} (h : m189 a1 a2 s = some q) : HC V L Kc Ks 189 [.ref 108, .int a1, .int a2] (Q, hpR s) (some (.int q.1)) (Q, hpR q.2) := by
  unfold m189 at h
  refine hc_of (by decide) rfl ?_
  refine h_it 2 (x' := (4, [(0, .ref 108), (1, .int a1), (2, .int a2)], [.int (gI s 34)], (Q, hpR s))) rfl ?_
  refine h_br (b := decide (¬ (gI s 34) = 0)) (t := 17) (f := 7) (lv' := [(0, .ref 108), (1, .int a1), (2, .int a2)]) (st' := []) rfl rfl ?_
  by_cases h1 : (gI s 34) = 0
  · replace h := if_y h1 h
    refine h_n (fun z => z h1) ?_
    replace h := Option.some.inj h; subst h
    refine h_it 7 (x' := (18, [(0, .ref 108), (1, .int a1), (2, .int a2)], [.int 0], (Q, hpR (sI (sI s 34 a1) 35 a2)))) rfl ?_
    exact h_iret rfl rfl
  · replace h := if_n h1 h
    refine h_y h1 ?_
    replace h := Option.some.inj h; subst h
    refine h_it 1 (x' := (18, [(0, .ref 108), (1, .int a1), (2, .int a2)], [.int 0], (Q, hpR s))) rfl ?_
    exact h_iret rfl rfl
end Sm189
section Sm185
variable {V : xmV} {L : List Nat} {Kc Ks : Nat} {Q : List xE}
theorem m185_ok {a0 : Int32} {s : xSt} {q : Int32 × xSt} (h : m185 a0 s = some q) : HC V L Kc Ks 185 [.int a0] (Q, hpR s) (some (.int q.1)) (Q, hpR q.2) := by
  unfold m185 at h
  refine hc_of (by decide) rfl ?_
  refine h_it 2 (x' := (3, [(0, .int a0)], [.int 14, .int a0], (Q, hpR s))) rfl ?_
  refine h_br (b := decide (a0 = 14)) (t := 18) (f := 6) (lv' := [(0, .int a0)]) (st' := []) rfl rfl ?_
  by_cases h1 : a0 = 14
  · replace h := if_y h1 h
    refine h_y h1 ?_
    replace h := Option.some.inj h; subst h
    refine h_it 1 (x' := (19, [(0, .int a0)], [.int (-1)], (Q, hpR s))) rfl ?_
    exact h_iret rfl rfl
  · replace h := if_n h1 h
    refine h_n h1 ?_
    refine h_it 2 (x' := (9, [(0, .int a0)], [.int 15, .int a0], (Q, hpR s))) rfl ?_
    refine h_br (b := decide (a0 = 15)) (t := 18) (f := 12) (lv' := [(0, .int a0)]) (st' := []) rfl rfl ?_
    by_cases h2 : a0 = 15
    · replace h := if_y h2 h
      refine h_y h2 ?_
      replace h := Option.some.inj h; subst h
      refine h_it 1 (x' := (19, [(0, .int a0)], [.int (-1)], (Q, hpR s))) rfl ?_
      exact h_iret rfl rfl
    · replace h := if_n h2 h
      refine h_n h2 ?_
      refine h_it 2 (x' := (15, [(0, .int a0)], [.int 23, .int a0], (Q, hpR s))) rfl ?_
      refine h_br (b := decide (¬ a0 = 23)) (t := 20) (f := 18) (lv' := [(0, .int a0)]) (st' := []) rfl rfl ?_
      by_cases h3 : a0 = 23
      · replace h := if_y h3 h
        refine h_n (fun z => z h3) ?_
        replace h := Option.some.inj h; subst h
        refine h_it 1 (x' := (19, [(0, .int a0)], [.int (-1)], (Q, hpR s))) rfl ?_
        exact h_iret rfl rfl
      · replace h := if_n h3 h
        refine h_y h3 ?_
        refine h_it 2 (x' := (22, [(0, .int a0)], [.int 3, .int a0], (Q, hpR s))) rfl ?_
        refine h_br (b := decide (3 ≤ a0)) (t := 27) (f := 25) (lv' := [(0, .int a0)]) (st' := []) rfl rfl ?_
        by_cases h4 : 3 ≤ a0
        · replace h := if_y h4 h
          refine h_y h4 ?_
          refine h_it 2 (x' := (30, [(0, .int a0)], [.int 10, .int a0], (Q, hpR s))) rfl ?_
          refine h_br (b := decide (a0 = 10)) (t := 51) (f := 33) (lv' := [(0, .int a0)]) (st' := []) rfl rfl ?_
          by_cases h5 : a0 = 10
          · replace h := if_y h5 h
            refine h_y h5 ?_
            replace h := Option.some.inj h; subst h
            refine h_it 2 (x' := (78, [(0, .int a0)], [.int 3], (Q, hpR s))) rfl ?_
            exact h_iret rfl rfl
          · replace h := if_n h5 h
            refine h_n h5 ?_
            refine h_it 2 (x' := (36, [(0, .int a0)], [.int 12, .int a0], (Q, hpR s))) rfl ?_
            refine h_br (b := decide (a0 = 12)) (t := 51) (f := 39) (lv' := [(0, .int a0)]) (st' := []) rfl rfl ?_
            by_cases h6 : a0 = 12
            · replace h := if_y h6 h
              refine h_y h6 ?_
              replace h := Option.some.inj h; subst h
              refine h_it 2 (x' := (78, [(0, .int a0)], [.int 3], (Q, hpR s))) rfl ?_
              exact h_iret rfl rfl
            · replace h := if_n h6 h
              refine h_n h6 ?_
              refine h_it 2 (x' := (42, [(0, .int a0)], [.int 20, .int a0], (Q, hpR s))) rfl ?_
              refine h_br (b := decide (a0 = 20)) (t := 51) (f := 45) (lv' := [(0, .int a0)]) (st' := []) rfl rfl ?_
              by_cases h7 : a0 = 20
              · replace h := if_y h7 h
                refine h_y h7 ?_
                replace h := Option.some.inj h; subst h
                refine h_it 2 (x' := (78, [(0, .int a0)], [.int 3], (Q, hpR s))) rfl ?_
                exact h_iret rfl rfl
              · replace h := if_n h7 h
                refine h_n h7 ?_
                refine h_it 2 (x' := (48, [(0, .int a0)], [.int 22, .int a0], (Q, hpR s))) rfl ?_
                refine h_br (b := decide (¬ a0 = 22)) (t := 55) (f := 51) (lv' := [(0, .int a0)]) (st' := []) rfl rfl ?_
                by_cases h8 : a0 = 22
                · replace h := if_y h8 h
                  refine h_n (fun z => z h8) ?_
                  replace h := Option.some.inj h; subst h
                  refine h_it 2 (x' := (78, [(0, .int a0)], [.int 3], (Q, hpR s))) rfl ?_
                  exact h_iret rfl rfl
                · replace h := if_n h8 h
                  refine h_y h8 ?_
                  refine h_it 2 (x' := (58, [(0, .int a0)], [.int 16, .int a0], (Q, hpR s))) rfl ?_
                  refine h_br (b := decide (a0 = 16)) (t := 73) (f := 61) (lv' := [(0, .int a0)]) (st' := []) rfl rfl ?_
                  by_cases h9 : a0 = 16
                  · replace h := if_y h9 h
                    refine h_y h9 ?_
                    replace h := Option.some.inj h; subst h
                    refine h_it 2 (x' := (78, [(0, .int a0)], [.int 1], (Q, hpR s))) rfl ?_
                    exact h_iret rfl rfl
                  · replace h := if_n h9 h
                    refine h_n h9 ?_
                    refine h_it 2 (x' := (64, [(0, .int a0)], [.int 17, .int a0], (Q, hpR s))) rfl ?_
                    refine h_br (b := decide (a0 = 17)) (t := 73) (f := 67) (lv' := [(0, .int a0)]) (st' := []) rfl rfl ?_
                    by_cases h10 : a0 = 17
                    · replace h := if_y h10 h
                      refine h_y h10 ?_
                      replace h := Option.some.inj h; subst h
                      refine h_it 2 (x' := (78, [(0, .int a0)], [.int 1], (Q, hpR s))) rfl ?_
                      exact h_iret rfl rfl
                    · replace h := if_n h10 h
                      refine h_n h10 ?_
                      refine h_it 2 (x' := (70, [(0, .int a0)], [.int 19, .int a0], (Q, hpR s))) rfl ?_
                      refine h_br (b := decide (¬ a0 = 19)) (t := 77) (f := 73) (lv' := [(0, .int a0)]) (st' := []) rfl rfl ?_
                      by_cases h11 : a0 = 19
                      · replace h := if_y h11 h
                        refine h_n (fun z => z h11) ?_
                        replace h := Option.some.inj h; subst h
                        refine h_it 2 (x' := (78, [(0, .int a0)], [.int 1], (Q, hpR s))) rfl ?_
                        exact h_iret rfl rfl
                      · replace h := if_n h11 h
                        refine h_y h11 ?_
                        replace h := Option.some.inj h; subst h
                        refine h_it 1 (x' := (78, [(0, .int a0)], [.int 2], (Q, hpR s))) rfl ?_
                        exact h_iret rfl rfl
        · replace h := if_n h4 h
          refine h_n h4 ?_
          replace h := Option.some.inj h; subst h
          refine h_it 1 (x' := (26, [(0, .int a0)], [.int 0], (Q, hpR s))) rfl ?_
          exact h_iret rfl rfl
end Sm185
section Sm194
variable {V : xmV} {L : List Nat} {Kc Ks : Nat} {Q : List xE}
theorem m194_105_ok   {x2 : Int32} {y0 : Bool} {s : xSt} {q : Int32 × xSt} (h : m194_105  x2 y0 s = some q) : HE V L Kc Ks 194 (105, [(2, .int x2)], [.int (b01 y0)], (Q, hpR s)) (some (.int q.1)) (Q, hpR q.2) := by
  unfold m194_105 at h
  refine h_it 2 (x' := (107, [(3, .int (b01 y0)), (2, .int x2)], [.int (b01 y0)], (Q, hpR s))) rfl ?_
  refine h_br (b := decide ((b01 y0) = 0)) (t := 114) (f := 110) (lv' := [(3, .int (b01 y0)), (2, .int x2)]) (st' := []) rfl rfl ?_
  by_cases h3 : y0 = true
  · replace h := if_y h3 h
    refine h_n (b01_1 h3) ?_
    replace h := Option.some.inj h; subst h
    refine h_it 2 (x' := (115, [(3, .int (b01 y0)), (2, .int x2)], [.int x2], (Q, hpR s))) rfl ?_
    exact h_iret rfl rfl
  · replace h := if_n h3 h
    refine h_y (b01_0 h3) ?_
    replace h := Option.some.inj h; subst h
    refine h_it 1 (x' := (115, [(3, .int (b01 y0)), (2, .int x2)], [.int (-1)], (Q, hpR s))) rfl ?_
    exact h_iret rfl rfl
theorem m194_104_ok   {x2 : Int32} {s : xSt} {q : Int32 × xSt} (h : m194_104  x2 s = some q) : HE V L Kc Ks 194 (104, [(2, .int x2)], [], (Q, hpR s)) (some (.int q.1)) (Q, hpR q.2) := by
  unfold m194_104 at h
  refine h_it 1 (x' := (105, [(2, .int x2)], [.int 0], (Q, hpR s))) rfl ?_
  refine h_lw (lv := [(2, .int x2)]) (fa_c rfl (fa_n)) rfl ?_
  exact m194_105_ok  h
theorem m194_90_ok   {x1 : Int32} {x2 : Int32} {y0 : Int32} {s : xSt} {q : Int32 × xSt} (h : m194_90  x1 x2 y0 s = some q) : HE V L Kc Ks 194 (90, [(0, .ref 108), (1, .int x1), (2, .int x2)], [.int y0, .ref 112], (Q, hpR s)) (some (.int q.1)) (Q, hpR q.2) := by
  unfold m194_90 at h
  obtain ⟨v10, hv10, h⟩ := Option.bind_eq_some_iff.mp h
  refine h_iald rfl rfl hv10 ?_
  refine h_it 3 (x' := (96, [(0, .ref 108), (1, .int x1), (2, .int x2)], [.int x1, .ref 119, .int v10], (Q, hpR s))) rfl ?_
  obtain ⟨v11, hv11, h⟩ := Option.bind_eq_some_iff.mp h
  refine h_iald rfl rfl hv11 ?_
  refine h_br (b := decide (¬ v10 = v11)) (t := 104) (f := 100) (lv' := [(0, .ref 108), (1, .int x1), (2, .int x2)]) (st' := []) rfl rfl ?_
  by_cases h12 : v10 = v11
  · replace h := if_y h12 h
    refine h_n (fun z => z h12) ?_
    refine h_it 2 (x' := (105, [(0, .ref 108), (1, .int x1), (2, .int x2)], [.int 1], (Q, hpR s))) rfl ?_
    refine h_lw (lv := [(2, .int x2)]) (fa_c rfl (fa_n)) rfl ?_
    exact m194_105_ok  h
  · replace h := if_n h12 h
    refine h_y h12 ?_
    refine h_lw (lv := [(2, .int x2)]) (fa_c rfl (fa_n)) rfl ?_
    exact m194_104_ok  h
theorem m194_74_ok   {x1 : Int32} {x2 : Int32} {y0 : Bool} {y1 : Int32} {s : xSt} {q : Int32 × xSt} (h : m194_74  x1 x2 y0 y1 s = some q) : HE V L Kc Ks 194 (74, [(0, .ref 108), (1, .int x1), (2, .int x2)], [.int (b01 y0), .int y1], (Q, hpR s)) (some (.int q.1)) (Q, hpR q.2) := by
  unfold m194_74 at h
  refine h_br (b := decide (¬ y1 = (b01 y0))) (t := 104) (f := 77) (lv' := [(0, .ref 108), (1, .int x1), (2, .int x2)]) (st' := []) rfl rfl ?_
  by_cases h8 : y1 = (b01 y0)
  · replace h := if_y h8 h
    refine h_n (fun z => z h8) ?_
    refine h_it 3 (x' := (82, [(0, .ref 108), (1, .int x1), (2, .int x2)], [.int x2, .ref 112], (Q, hpR s))) rfl ?_
    refine h_br (b := decide (0 ≤ x2)) (t := 89) (f := 85) (lv' := [(0, .ref 108), (1, .int x1), (2, .int x2)]) (st' := [.ref 112]) rfl rfl ?_
    by_cases h9 : 0 ≤ x2
    · replace h := if_y h9 h
      refine h_y h9 ?_
      refine h_it 1 (x' := (90, [(0, .ref 108), (1, .int x1), (2, .int x2)], [.int x2, .ref 112], (Q, hpR s))) rfl ?_
      refine h_lw (lv := [(0, .ref 108), (1, .int x1), (2, .int x2)]) (fa_c rfl (fa_c rfl (fa_c rfl (fa_n)))) rfl ?_
      exact m194_90_ok  h
    · replace h := if_n h9 h
      refine h_n h9 ?_
      refine h_it 2 (x' := (90, [(0, .ref 108), (1, .int x1), (2, .int x2)], [.int 0, .ref 112], (Q, hpR s))) rfl ?_
      refine h_lw (lv := [(0, .ref 108), (1, .int x1), (2, .int x2)]) (fa_c rfl (fa_c rfl (fa_c rfl (fa_n)))) rfl ?_
      exact m194_90_ok  h
  · replace h := if_n h8 h
    refine h_y h8 ?_
    refine h_lw (lv := [(2, .int x2)]) (fa_c rfl (fa_n)) rfl ?_
    exact m194_104_ok  h
theorem m194_57_ok   {x1 : Int32} {x2 : Int32} {y0 : Int32} {s : xSt} {q : Int32 × xSt} (h : m194_57  x1 x2 y0 s = some q) : HE V L Kc Ks 194 (57, [(0, .ref 108), (1, .int x1), (2, .int x2)], [.int y0, .ref 109], (Q, hpR s)) (some (.int q.1)) (Q, hpR q.2) := by
  unfold m194_57 at h
  obtain ⟨v5, hv5, h⟩ := Option.bind_eq_some_iff.mp h
  refine h_bald rfl (Or.inr rfl) rfl hv5 ?_
  refine h_it 3 (x' := (63, [(0, .ref 108), (1, .int x1), (2, .int x2)], [.int x1, .ref 116, .int v5], (Q, hpR s))) rfl ?_
  obtain ⟨v6, hv6, h⟩ := Option.bind_eq_some_iff.mp h
  refine h_iald rfl rfl hv6 ?_
  refine h_it 1 (x' := (66, [(0, .ref 108), (1, .int x1), (2, .int x2)], [.int 23, .int v6, .int v5], (Q, hpR s))) rfl ?_
  refine h_br (b := decide (¬ v6 = 23)) (t := 73) (f := 69) (lv' := [(0, .ref 108), (1, .int x1), (2, .int x2)]) (st' := [.int v5]) rfl rfl ?_
  by_cases h7 : v6 = 23
  · replace h := if_y h7 h
    refine h_n (fun z => z h7) ?_
    refine h_it 2 (x' := (74, [(0, .ref 108), (1, .int x1), (2, .int x2)], [.int 1, .int v5], (Q, hpR s))) rfl ?_
    refine h_lw (lv := [(0, .ref 108), (1, .int x1), (2, .int x2)]) (fa_c rfl (fa_c rfl (fa_c rfl (fa_n)))) rfl ?_
    exact m194_74_ok  h
  · replace h := if_n h7 h
    refine h_y h7 ?_
    refine h_it 1 (x' := (74, [(0, .ref 108), (1, .int x1), (2, .int x2)], [.int 0, .int v5], (Q, hpR s))) rfl ?_
    refine h_lw (lv := [(0, .ref 108), (1, .int x1), (2, .int x2)]) (fa_c rfl (fa_c rfl (fa_c rfl (fa_n)))) rfl ?_
    exact m194_74_ok  h
theorem m194_4_ok   : ∀ (n : Nat) (x1 : Int32) (x2 : Int32) (x3 : Int32) (s : xSt) (q : Int32 × xSt), m194_4  n x1 x2 x3 s = some q → HE V L Kc Ks 194 (4, [(0, .ref 108), (1, .int x1), (2, .int x2), (3, .int x3)], [], (Q, hpR s)) (some (.int q.1)) (Q, hpR q.2) := by
  intro n
  induction n with
  | zero => intro x1 x2 x3 s q h; cases h
  | succ n ih =>
    intro x1 x2 x3 s q h
    unfold m194_4 at h
    refine h_it 3 (x' := (9, [(0, .ref 108), (1, .int x1), (2, .int x2), (3, .int x3)], [.int (gI s 32), .int x3], (Q, hpR s))) rfl ?_
    refine h_br (b := decide ((gI s 32) ≤ x3)) (t := 40) (f := 12) (lv' := [(0, .ref 108), (1, .int x1), (2, .int x2), (3, .int x3)]) (st' := []) rfl rfl ?_
    by_cases h1 : (gI s 32) ≤ x3
    · replace h := if_y h1 h
      refine h_y h1 ?_
      refine h_it 1 (x' := (41, [(0, .ref 108), (1, .int x1), (2, .int x2), (3, .int x3)], [.int x2], (Q, hpR s))) rfl ?_
      refine h_br (b := decide (x2 < 0)) (t := 104) (f := 44) (lv' := [(0, .ref 108), (1, .int x1), (2, .int x2), (3, .int x3)]) (st' := []) rfl rfl ?_
      by_cases h2 : x2 < 0
      · replace h := if_y h2 h
        refine h_y h2 ?_
        refine h_lw (lv := [(2, .int x2)]) (fa_c rfl (fa_n)) rfl ?_
        exact m194_104_ok  h
      · replace h := if_n h2 h
        refine h_n h2 ?_
        refine h_it 3 (x' := (49, [(0, .ref 108), (1, .int x1), (2, .int x2), (3, .int x3)], [.int x2, .ref 109], (Q, hpR s))) rfl ?_
        refine h_br (b := decide (0 ≤ x2)) (t := 56) (f := 52) (lv' := [(0, .ref 108), (1, .int x1), (2, .int x2), (3, .int x3)]) (st' := [.ref 109]) rfl rfl ?_
        by_cases h4 : 0 ≤ x2
        · replace h := if_y h4 h
          refine h_y h4 ?_
          refine h_it 1 (x' := (57, [(0, .ref 108), (1, .int x1), (2, .int x2), (3, .int x3)], [.int x2, .ref 109], (Q, hpR s))) rfl ?_
          refine h_lw (lv := [(0, .ref 108), (1, .int x1), (2, .int x2)]) (fa_c rfl (fa_c rfl (fa_c rfl (fa_n)))) rfl ?_
          exact m194_57_ok  h
        · replace h := if_n h4 h
          refine h_n h4 ?_
          refine h_it 2 (x' := (57, [(0, .ref 108), (1, .int x1), (2, .int x2), (3, .int x3)], [.int 0, .ref 109], (Q, hpR s))) rfl ?_
          refine h_lw (lv := [(0, .ref 108), (1, .int x1), (2, .int x2)]) (fa_c rfl (fa_c rfl (fa_c rfl (fa_n)))) rfl ?_
          exact m194_57_ok  h
    · replace h := if_n h1 h
      refine h_n h1 ?_
      refine h_it 3 (x' := (17, [(0, .ref 108), (1, .int x1), (2, .int x2), (3, .int x3)], [.int x3, .ref 110], (Q, hpR s))) rfl ?_
      obtain ⟨v13, hv13, h⟩ := Option.bind_eq_some_iff.mp h
      refine h_lald rfl rfl hv13 ?_
      refine h_it 3 (x' := (23, [(0, .ref 108), (1, .int x1), (2, .int x2), (3, .int x3)], [.int x1, .ref 117, .long v13], (Q, hpR s))) rfl ?_
      obtain ⟨v14, hv14, h⟩ := Option.bind_eq_some_iff.mp h
      refine h_lald rfl rfl hv14 ?_
      refine h_it 1 (x' := (25, [(0, .ref 108), (1, .int x1), (2, .int x2), (3, .int x3)], [.int (lg_cmp v13 v14)], (Q, hpR s))) rfl ?_
      refine h_br (b := decide (¬ (lg_cmp v13 v14) = 0)) (t := 32) (f := 28) (lv' := [(0, .ref 108), (1, .int x1), (2, .int x2), (3, .int x3)]) (st' := []) rfl rfl ?_
      by_cases h15 : (lg_cmp v13 v14) = 0
      · replace h := if_y h15 h
        refine h_n (fun z => z h15) ?_
        refine h_it 5 (x' := (4, [(3, .int (x3 + 1)), (2, .int x3), (0, .ref 108), (1, .int x1)], [], (Q, hpR s))) rfl ?_
        refine h_lw (lv := [(0, .ref 108), (1, .int x1), (2, .int x3), (3, .int (x3 + 1))]) (fa_c rfl (fa_c rfl (fa_c rfl (fa_c rfl (fa_n))))) rfl ?_
        exact ih x1 x3 (x3 + 1) s _ h
      · replace h := if_n h15 h
        refine h_y h15 ?_
        refine h_it 4 (x' := (4, [(3, .int (x3 + 1)), (2, .int x2), (0, .ref 108), (1, .int x1)], [], (Q, hpR s))) rfl ?_
        refine h_lw (lv := [(0, .ref 108), (1, .int x1), (2, .int x2), (3, .int (x3 + 1))]) (fa_c rfl (fa_c rfl (fa_c rfl (fa_c rfl (fa_n))))) rfl ?_
        exact ih x1 x2 (x3 + 1) s _ h
theorem m194_ok {a1 : Int32} {s : xSt} {q : Int32 × xSt} (h : m194 a1 s = some q) : HC V L Kc Ks 194 [.ref 108, .int a1] (Q, hpR s) (some (.int q.1)) (Q, hpR q.2) := by
  unfold m194 at h
  refine hc_of (by decide) rfl ?_
  refine h_it 4 (x' := (4, [(3, .int 0), (2, .int (-1)), (0, .ref 108), (1, .int a1)], [], (Q, hpR s))) rfl ?_
  refine h_lw (lv := [(0, .ref 108), (1, .int a1), (2, .int (-1)), (3, .int 0)]) (fa_c rfl (fa_c rfl (fa_c rfl (fa_c rfl (fa_n))))) rfl ?_
  exact m194_4_ok  1000000 a1 (-1) 0 s _ h
end Sm194
section Sm190
variable {V : xmV} {L : List Nat} {Kc Ks : Nat} {Q : List xE}
theorem m190_56_ok   {x1 : Int32} {y0 : Int32} {s : xSt} {q : xSt} (h : m190_56  x1 y0 s = some q) : HE V L Kc Ks 190 (56, [(0, .ref 108), (1, .int x1)], [.int y0, .ref 108], (Q, hpR s)) (none) (Q, hpR q) := by
  unfold m190_56 at h
  refine h_it 5 (x' := (65, [(0, .ref 108), (1, .int x1)], [.int (-1), .int x1, .ref 125], (Q, hpR (sI s 36 y0)))) rfl ?_
  obtain ⟨u6, hu6, h⟩ := Option.bind_eq_some_iff.mp h
  refine h_iast rfl rfl hu6 ?_
  show HE V L Kc Ks 190 (66, [(0, .ref 108), (1, .int x1)], [], (Q, hpR (sR (sI s 36 y0) 29 u6))) _ _
  refine h_it 4 (x' := (72, [(0, .ref 108), (1, .int x1)], [.int (-1), .int x1, .ref 126], (Q, hpR (sR (sI s 36 y0) 29 u6)))) rfl ?_
  obtain ⟨u7, hu7, h⟩ := Option.bind_eq_some_iff.mp h
  refine h_iast rfl rfl hu7 ?_
  show HE V L Kc Ks 190 (73, [(0, .ref 108), (1, .int x1)], [], (Q, hpR (sR (sR (sI s 36 y0) 29 u6) 30 u7))) _ _
  refine h_it 3 (x' := (78, [(0, .ref 108), (1, .int x1)], [.int x1, .ref 116], (Q, hpR (sR (sR (sI s 36 y0) 29 u6) 30 u7)))) rfl ?_
  obtain ⟨v8, hv8, h⟩ := Option.bind_eq_some_iff.mp h
  refine h_iald rfl rfl hv8 ?_
  refine h_it 1 (x' := (80, [(0, .ref 108), (1, .int x1)], [.int 1, .int v8], (Q, hpR (sR (sR (sI s 36 y0) 29 u6) 30 u7)))) rfl ?_
  refine h_br (b := decide (¬ v8 = 1)) (t := 125) (f := 83) (lv' := [(0, .ref 108), (1, .int x1)]) (st' := []) rfl rfl ?_
  by_cases h9 : v8 = 1
  · replace h := if_y h9 h
    refine h_n (fun z => z h9) ?_
    refine h_it 8 (x' := (95, [(0, .ref 108), (1, .int x1)], [.int x1, .ref 117, .int x1, .ref 108, .int x1, .ref 125], (Q, hpR (sR (sR (sI s 36 y0) 29 u6) 30 u7)))) rfl ?_
    obtain ⟨v10, hv10, h⟩ := Option.bind_eq_some_iff.mp h
    refine h_lald rfl rfl hv10 ?_
    obtain ⟨q11, hq11, h⟩ := Option.bind_eq_some_iff.mp h
    refine h_callO (As := [.int x1, .long v10]) (r1 := some (.int q11.1)) (st := [.int x1, .ref 125]) (H1 := (Q, hpR q11.2)) rfl rfl rfl rfl rfl rfl (m193_ok hq11) ?_
    obtain ⟨u12, hu12, h⟩ := Option.bind_eq_some_iff.mp h
    refine h_iast rfl rfl hu12 ?_
    show HE V L Kc Ks 190 (100, [(0, .ref 108), (1, .int x1)], [], (Q, hpR (sR q11.2 29 u12))) _ _
    refine h_it 3 (x' := (105, [(0, .ref 108), (1, .int x1)], [.int x1, .ref 125], (Q, hpR (sR q11.2 29 u12)))) rfl ?_
    obtain ⟨v13, hv13, h⟩ := Option.bind_eq_some_iff.mp h
    refine h_iald rfl rfl hv13 ?_
    refine h_it 1 (x' := (107, [(0, .ref 108), (1, .int x1)], [.int (-1), .int v13], (Q, hpR (sR q11.2 29 u12)))) rfl ?_
    refine h_br (b := decide (¬ v13 = (-1))) (t := 119) (f := 110) (lv' := [(0, .ref 108), (1, .int x1)]) (st' := []) rfl rfl ?_
    by_cases h14 : v13 = (-1)
    · replace h := if_y h14 h
      refine h_n (fun z => z h14) ?_
      refine h_it 3 (x' := (113, [(0, .ref 108), (1, .int x1)], [.int x1, .int 5, .ref 108], (Q, hpR (sR q11.2 29 u12)))) rfl ?_
      obtain ⟨q15, hq15, h⟩ := Option.bind_eq_some_iff.mp h
      refine h_callO (As := [.int 5, .int x1]) (r1 := some (.int q15.1)) (st := []) (H1 := (Q, hpR q15.2)) rfl rfl rfl rfl rfl rfl (m189_ok hq15) ?_
      replace h := Option.some.inj h; subst h
      refine h_it 3 (x' := (169, [(4, .int q15.1), (0, .ref 108), (1, .int x1)], [], (Q, hpR q15.2))) rfl ?_
      exact h_vret rfl rfl
    · replace h := if_n h14 h
      refine h_y h14 ?_
      replace h := Option.some.inj h; subst h
      refine h_it 3 (x' := (169, [(4, .int 0), (0, .ref 108), (1, .int x1)], [], (Q, hpR (sR q11.2 29 u12)))) rfl ?_
      exact h_vret rfl rfl
  · replace h := if_n h9 h
    refine h_y h9 ?_
    refine h_it 3 (x' := (130, [(0, .ref 108), (1, .int x1)], [.int x1, .ref 116], (Q, hpR (sR (sR (sI s 36 y0) 29 u6) 30 u7)))) rfl ?_
    obtain ⟨v16, hv16, h⟩ := Option.bind_eq_some_iff.mp h
    refine h_iald rfl rfl hv16 ?_
    obtain ⟨q17, hq17, h⟩ := Option.bind_eq_some_iff.mp h
    refine h_callS (av := [.int v16]) (r1 := some (.int q17.1)) (st := []) (H1 := (Q, hpR q17.2)) rfl rfl rfl rfl rfl (m185_ok hq17) ?_
    refine h_br (b := decide (0 ≤ q17.1)) (t := 169) (f := 137) (lv' := [(0, .ref 108), (1, .int x1)]) (st' := []) rfl rfl ?_
    by_cases h18 : 0 ≤ q17.1
    · replace h := if_y h18 h
      refine h_y h18 ?_
      replace h := Option.some.inj h; subst h
      exact h_vret rfl rfl
    · replace h := if_n h18 h
      refine h_n h18 ?_
      refine h_it 5 (x' := (144, [(0, .ref 108), (1, .int x1)], [.int x1, .ref 108, .int x1, .ref 126], (Q, hpR q17.2))) rfl ?_
      obtain ⟨q19, hq19, h⟩ := Option.bind_eq_some_iff.mp h
      refine h_callO (As := [.int x1]) (r1 := some (.int q19.1)) (st := [.int x1, .ref 126]) (H1 := (Q, hpR q19.2)) rfl rfl rfl rfl rfl rfl (m194_ok hq19) ?_
      obtain ⟨u20, hu20, h⟩ := Option.bind_eq_some_iff.mp h
      refine h_iast rfl rfl hu20 ?_
      show HE V L Kc Ks 190 (148, [(0, .ref 108), (1, .int x1)], [], (Q, hpR (sR q19.2 30 u20))) _ _
      refine h_it 3 (x' := (153, [(0, .ref 108), (1, .int x1)], [.int x1, .ref 126], (Q, hpR (sR q19.2 30 u20)))) rfl ?_
      obtain ⟨v21, hv21, h⟩ := Option.bind_eq_some_iff.mp h
      refine h_iald rfl rfl hv21 ?_
      refine h_br (b := decide (0 ≤ v21)) (t := 166) (f := 157) (lv' := [(0, .ref 108), (1, .int x1)]) (st' := []) rfl rfl ?_
      by_cases h22 : 0 ≤ v21
      · replace h := if_y h22 h
        refine h_y h22 ?_
        replace h := Option.some.inj h; subst h
        refine h_it 2 (x' := (169, [(4, .int 0), (0, .ref 108), (1, .int x1)], [], (Q, hpR (sR q19.2 30 u20)))) rfl ?_
        exact h_vret rfl rfl
      · replace h := if_n h22 h
        refine h_n h22 ?_
        refine h_it 3 (x' := (160, [(0, .ref 108), (1, .int x1)], [.int x1, .int 5, .ref 108], (Q, hpR (sR q19.2 30 u20)))) rfl ?_
        obtain ⟨q23, hq23, h⟩ := Option.bind_eq_some_iff.mp h
        refine h_callO (As := [.int 5, .int x1]) (r1 := some (.int q23.1)) (st := []) (H1 := (Q, hpR q23.2)) rfl rfl rfl rfl rfl rfl (m189_ok hq23) ?_
        replace h := Option.some.inj h; subst h
        refine h_it 2 (x' := (169, [(4, .int q23.1), (0, .ref 108), (1, .int x1)], [], (Q, hpR q23.2))) rfl ?_
        exact h_vret rfl rfl
theorem m190_37_ok   {x1 : Int32} {y0 : Int32} {y1 : Int32} {s : xSt} {q : xSt} (h : m190_37  x1 y0 y1 s = some q) : HE V L Kc Ks 190 (37, [(0, .ref 108), (1, .int x1)], [.int y0, .int y1], (Q, hpR s)) (none) (Q, hpR q) := by
  unfold m190_37 at h
  refine h_it 6 (x' := (45, [(3, .int (y1 + y0)), (0, .ref 108), (1, .int x1)], [.int (gI s 36), .int (y1 + y0), .ref 108], (Q, hpR s))) rfl ?_
  refine h_br (b := decide ((y1 + y0) ≤ (gI s 36))) (t := 52) (f := 48) (lv' := [(3, .int (y1 + y0)), (0, .ref 108), (1, .int x1)]) (st' := [.ref 108]) rfl rfl ?_
  by_cases h5 : (y1 + y0) ≤ (gI s 36)
  · replace h := if_y h5 h
    refine h_y h5 ?_
    refine h_it 2 (x' := (56, [(3, .int (y1 + y0)), (0, .ref 108), (1, .int x1)], [.int (gI s 36), .ref 108], (Q, hpR s))) rfl ?_
    refine h_lw (lv := [(0, .ref 108), (1, .int x1)]) (fa_c rfl (fa_c rfl (fa_n))) rfl ?_
    exact m190_56_ok  h
  · replace h := if_n h5 h
    refine h_n h5 ?_
    refine h_it 2 (x' := (56, [(3, .int (y1 + y0)), (0, .ref 108), (1, .int x1)], [.int (y1 + y0), .ref 108], (Q, hpR s))) rfl ?_
    refine h_lw (lv := [(0, .ref 108), (1, .int x1)]) (fa_c rfl (fa_c rfl (fa_n))) rfl ?_
    exact m190_56_ok  h
theorem m190_ok {a1 : Int32} {s : xSt} {q : xSt} (h : m190 a1 s = some q) : HC V L Kc Ks 190 [.ref 108, .int a1] (Q, hpR s) (none) (Q, hpR q) := by
  unfold m190 at h
  refine hc_of (by decide) rfl ?_
  refine h_it 2 (x' := (2, [(0, .ref 108), (1, .int a1)], [.int a1, .ref 108], (Q, hpR s))) rfl ?_
  obtain ⟨q1, hq1, h⟩ := Option.bind_eq_some_iff.mp h
  refine h_callO (As := [.int a1]) (r1 := some (.int q1.1)) (st := []) (H1 := (Q, hpR q1.2)) rfl rfl rfl rfl rfl rfl (m191_ok hq1) ?_
  refine h_it 5 (x' := (12, [(2, .int q1.1), (0, .ref 108), (1, .int a1)], [.int a1, .ref 116, .int q1.1], (Q, hpR q1.2))) rfl ?_
  obtain ⟨v2, hv2, h⟩ := Option.bind_eq_some_iff.mp h
  refine h_iald rfl rfl hv2 ?_
  obtain ⟨q3, hq3, h⟩ := Option.bind_eq_some_iff.mp h
  refine h_callS (av := [.int v2]) (r1 := some (.int (b01 q3.1))) (st := [.int q1.1]) (H1 := (Q, hpR q3.2)) rfl rfl rfl rfl rfl (m184_ok hq3) ?_
  refine h_br (b := decide ((b01 q3.1) = 0)) (t := 23) (f := 19) (lv' := [(2, .int q1.1), (0, .ref 108), (1, .int a1)]) (st' := [.int q1.1]) rfl rfl ?_
  by_cases h4 : q3.1 = true
  · replace h := if_y h4 h
    refine h_n (b01_1 h4) ?_
    refine h_it 2 (x' := (37, [(2, .int q1.1), (0, .ref 108), (1, .int a1)], [.int 2, .int q1.1], (Q, hpR q3.2))) rfl ?_
    refine h_lw (lv := [(0, .ref 108), (1, .int a1)]) (fa_c rfl (fa_c rfl (fa_n))) rfl ?_
    exact m190_37_ok  h
  · replace h := if_n h4 h
    refine h_y (b01_0 h4) ?_
    refine h_it 3 (x' := (26, [(2, .int q1.1), (0, .ref 108), (1, .int a1)], [.int 1, .int a1, .ref 108, .int q1.1], (Q, hpR q3.2))) rfl ?_
    obtain ⟨q24, hq24, h⟩ := Option.bind_eq_some_iff.mp h
    refine h_callO (As := [.int a1, .int 1]) (r1 := some (.int (b01 q24.1))) (st := [.int q1.1]) (H1 := (Q, hpR q24.2)) rfl rfl rfl rfl rfl rfl (m192_ok hq24) ?_
    refine h_br (b := decide ((b01 q24.1) = 0)) (t := 36) (f := 32) (lv' := [(2, .int q1.1), (0, .ref 108), (1, .int a1)]) (st' := [.int q1.1]) rfl rfl ?_
    by_cases h25 : q24.1 = true
    · replace h := if_y h25 h
      refine h_n (b01_1 h25) ?_
      refine h_it 2 (x' := (37, [(2, .int q1.1), (0, .ref 108), (1, .int a1)], [.int 1, .int q1.1], (Q, hpR q24.2))) rfl ?_
      refine h_lw (lv := [(0, .ref 108), (1, .int a1)]) (fa_c rfl (fa_c rfl (fa_n))) rfl ?_
      exact m190_37_ok  h
    · replace h := if_n h25 h
      refine h_y (b01_0 h25) ?_
      refine h_it 1 (x' := (37, [(2, .int q1.1), (0, .ref 108), (1, .int a1)], [.int 0, .int q1.1], (Q, hpR q24.2))) rfl ?_
      refine h_lw (lv := [(0, .ref 108), (1, .int a1)]) (fa_c rfl (fa_c rfl (fa_n))) rfl ?_
      exact m190_37_ok  h
end Sm190
