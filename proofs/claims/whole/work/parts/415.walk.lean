section Sm214
variable {V : xmV} {L : List Nat} {Kc Ks : Nat} {Q : List xE}
theorem m214_69_ok   {y0 : Int32} {s : xSt} {q : xSt} (h : m214_69  y0 s = some q) : HE V L Kc Ks 214 (69, [(0, .ref 85)], [.int y0, .ref 85], (Q, hpR s)) (none) (Q, hpR q) := by
  unfold m214_69 at h
  obtain ⟨q10, hq10, h⟩ := Option.bind_eq_some_iff.mp h
  refine h_callO (As := [.int y0]) (r1 := none) (st := []) (H1 := (Q, hpR q10)) rfl rfl rfl rfl rfl rfl (m215_ok hq10) ?_
  replace h := Option.some.inj h; subst h
  refine h_it 4 (x' := (110, [(0, .ref 85)], [], (Q, hpR (sI q10 18 (-1))))) rfl ?_
  exact h_vret rfl rfl
theorem m214_ok {a1 : Int32} {s : xSt} {q : xSt} (h : m214 a1 s = some q) : HC V L Kc Ks 214 [.ref 85, .int a1] (Q, hpR s) (none) (Q, hpR q) := by
  unfold m214 at h
  refine hc_of (by decide) rfl ?_
  refine h_it 9 (x' := (15, [(0, .ref 85), (1, .int a1)], [.int a1, .ref 127], (Q, hpR (sI s 17 ((gI s 17) + 1))))) rfl ?_
  obtain ⟨v1, hv1, h⟩ := Option.bind_eq_some_iff.mp h
  refine h_iald rfl rfl hv1 ?_
  refine h_it 1 (x' := (17, [(0, .ref 85), (1, .int a1)], [.int 3, .int v1], (Q, hpR (sI s 17 ((gI s 17) + 1))))) rfl ?_
  refine h_br (b := decide (3 ≤ v1)) (t := 80) (f := 20) (lv' := [(0, .ref 85), (1, .int a1)]) (st' := []) rfl rfl ?_
  by_cases h2 : 3 ≤ v1
  · replace h := if_y h2 h
    refine h_y h2 ?_
    refine h_it 3 (x' := (85, [(0, .ref 85), (1, .int a1)], [.int a1, .ref 129], (Q, hpR (sI s 17 ((gI s 17) + 1))))) rfl ?_
    obtain ⟨v3, hv3, h⟩ := Option.bind_eq_some_iff.mp h
    refine h_iald rfl rfl hv3 ?_
    refine h_br (b := decide (¬ v3 = 0)) (t := 97) (f := 89) (lv' := [(0, .ref 85), (1, .int a1)]) (st' := []) rfl rfl ?_
    by_cases h4 : v3 = 0
    · replace h := if_y h4 h
      refine h_n (fun z => z h4) ?_
      refine h_it 2 (x' := (91, [(0, .ref 85), (1, .int a1)], [.int a1, .ref 85], (Q, hpR (sI s 17 ((gI s 17) + 1))))) rfl ?_
      obtain ⟨q5, hq5, h⟩ := Option.bind_eq_some_iff.mp h
      refine h_callO (As := [.int a1]) (r1 := none) (st := []) (H1 := (Q, hpR q5)) rfl rfl rfl rfl rfl rfl (m216_ok hq5) ?_
      replace h := Option.some.inj h; subst h
      refine h_it 1 (x' := (110, [(0, .ref 85), (1, .int a1)], [], (Q, hpR q5))) rfl ?_
      exact h_vret rfl rfl
    · replace h := if_n h4 h
      refine h_y h4 ?_
      refine h_it 3 (x' := (100, [(0, .ref 85), (1, .int a1)], [.int 0, .int a1, .ref 85], (Q, hpR (sI s 17 ((gI s 17) + 1))))) rfl ?_
      obtain ⟨q6, hq6, h⟩ := Option.bind_eq_some_iff.mp h
      refine h_callO (As := [.int a1, .int 0]) (r1 := none) (st := []) (H1 := (Q, hpR q6)) rfl rfl rfl rfl rfl rfl (m217_ok hq6) ?_
      replace h := Option.some.inj h; subst h
      refine h_it 5 (x' := (110, [(0, .ref 85), (1, .int a1)], [], (Q, hpR (sI q6 18 (a1 + 1))))) rfl ?_
      exact h_vret rfl rfl
  · replace h := if_n h2 h
    refine h_n h2 ?_
    refine h_it 4 (x' := (26, [(0, .ref 85), (1, .int a1)], [.int a1, .ref 127, .ref 85], (Q, hpR (sI s 17 ((gI s 17) + 1))))) rfl ?_
    obtain ⟨v7, hv7, h⟩ := Option.bind_eq_some_iff.mp h
    refine h_iald rfl rfl hv7 ?_
    refine h_br (b := decide (¬ v7 = 0)) (t := 39) (f := 30) (lv' := [(0, .ref 85), (1, .int a1)]) (st' := [.ref 85]) rfl rfl ?_
    by_cases h8 : v7 = 0
    · replace h := if_y h8 h
      refine h_n (fun z => z h8) ?_
      refine h_it 3 (x' := (35, [(0, .ref 85), (1, .int a1)], [.int a1, .ref 130, .ref 85], (Q, hpR (sI s 17 ((gI s 17) + 1))))) rfl ?_
      obtain ⟨v9, hv9, h⟩ := Option.bind_eq_some_iff.mp h
      refine h_iald rfl rfl hv9 ?_
      refine h_it 1 (x' := (69, [(0, .ref 85), (1, .int a1)], [.int v9, .ref 85], (Q, hpR (sI s 17 ((gI s 17) + 1))))) rfl ?_
      refine h_lw (lv := [(0, .ref 85)]) (fa_c rfl (fa_n)) rfl ?_
      exact m214_69_ok  h
    · replace h := if_n h8 h
      refine h_y h8 ?_
      refine h_it 3 (x' := (44, [(0, .ref 85), (1, .int a1)], [.int a1, .ref 127, .ref 85], (Q, hpR (sI s 17 ((gI s 17) + 1))))) rfl ?_
      obtain ⟨v11, hv11, h⟩ := Option.bind_eq_some_iff.mp h
      refine h_iald rfl rfl hv11 ?_
      refine h_it 1 (x' := (46, [(0, .ref 85), (1, .int a1)], [.int 1, .int v11, .ref 85], (Q, hpR (sI s 17 ((gI s 17) + 1))))) rfl ?_
      refine h_br (b := decide (¬ v11 = 1)) (t := 68) (f := 49) (lv' := [(0, .ref 85), (1, .int a1)]) (st' := [.ref 85]) rfl rfl ?_
      by_cases h12 : v11 = 1
      · replace h := if_y h12 h
        refine h_n (fun z => z h12) ?_
        refine h_it 7 (x' := (62, [(0, .ref 85), (1, .int a1)], [.int a1, .ref 131, .int (gI s 14), .ref 147, .ref 85], (Q, hpR (sI s 17 ((gI s 17) + 1))))) rfl ?_
        obtain ⟨v13, hv13, h⟩ := Option.bind_eq_some_iff.mp h
        refine h_iald rfl rfl hv13 ?_
        refine h_it 1 (x' := (64, [(0, .ref 85), (1, .int a1)], [.int ((gI s 14) + v13), .ref 147, .ref 85], (Q, hpR (sI s 17 ((gI s 17) + 1))))) rfl ?_
        obtain ⟨v14, hv14, h⟩ := Option.bind_eq_some_iff.mp h
        refine h_iald rfl rfl hv14 ?_
        refine h_it 1 (x' := (69, [(0, .ref 85), (1, .int a1)], [.int v14, .ref 85], (Q, hpR (sI s 17 ((gI s 17) + 1))))) rfl ?_
        refine h_lw (lv := [(0, .ref 85)]) (fa_c rfl (fa_n)) rfl ?_
        exact m214_69_ok  h
      · replace h := if_n h12 h
        refine h_y h12 ?_
        refine h_it 1 (x' := (69, [(0, .ref 85), (1, .int a1)], [.int 0, .ref 85], (Q, hpR (sI s 17 ((gI s 17) + 1))))) rfl ?_
        refine h_lw (lv := [(0, .ref 85)]) (fa_c rfl (fa_n)) rfl ?_
        exact m214_69_ok  h
end Sm214
section Sm211
variable {V : xmV} {L : List Nat} {Kc Ks : Nat} {Q : List xE}
theorem m211_199_ok    {s : xSt} {q : Bool × xSt} (h : m211_199   s = some q) : HE V L Kc Ks 211 (199, [(0, .ref 85)], [], (Q, hpR s)) (some (.int (b01 q.1))) (Q, hpR q.2) := by
  unfold m211_199 at h
  refine h_it 3 (x' := (206, [(0, .ref 85)], [.int 6000, .int (gI s 17)], (Q, hpR s))) rfl ?_
  refine h_br (b := decide (6000 < (gI s 17))) (t := 213) (f := 209) (lv' := [(0, .ref 85)]) (st' := []) rfl rfl ?_
  by_cases h6 : 6000 < (gI s 17)
  · replace h := if_y h6 h
    refine h_y h6 ?_
    replace h := Option.some.inj h; subst h
    refine h_it 1 (x' := (214, [(0, .ref 85)], [.int (b01 false)], (Q, hpR s))) rfl ?_
    exact h_zret rfl rfl
  · replace h := if_n h6 h
    refine h_n h6 ?_
    replace h := Option.some.inj h; subst h
    refine h_it 2 (x' := (214, [(0, .ref 85)], [.int (b01 true)], (Q, hpR s))) rfl ?_
    exact h_zret rfl rfl
theorem m211_129_ok {K105 : xSt → Option (Bool × xSt)} (hK105 : ∀  (s : xSt) (q : Bool × xSt), K105  s = some q → HE V L Kc Ks 211 (105, [(0, .ref 85)], [], (Q, hpR s)) (some (.int (b01 q.1))) (Q, hpR q.2))  {s : xSt} {q : Bool × xSt} (h : m211_129 K105  s = some q) : HE V L Kc Ks 211 (129, [(0, .ref 85)], [], (Q, hpR s)) (some (.int (b01 q.1))) (Q, hpR q.2) := by
  unfold m211_129 at h
  refine h_it 2 (x' := (133, [(0, .ref 85)], [.int (gI s 18)], (Q, hpR s))) rfl ?_
  refine h_br (b := decide ((gI s 18) < 0)) (t := 147) (f := 136) (lv' := [(0, .ref 85)]) (st' := []) rfl rfl ?_
  by_cases h8 : (gI s 18) < 0
  · replace h := if_y h8 h
    refine h_y h8 ?_
    refine h_it 10 (x' := (165, [(0, .ref 85)], [.int ((gI s 15) - 1), .ref 148], (Q, hpR (sI s 15 ((gI s 15) - 1))))) rfl ?_
    obtain ⟨v9, hv9, h⟩ := Option.bind_eq_some_iff.mp h
    refine h_iald rfl rfl hv9 ?_
    refine h_it 6 (x' := (177, [(4, .int v9), (0, .ref 85)], [.int ((gI s 15) - 1), .ref 150, .ref 85], (Q, hpR (sI s 15 ((gI s 15) - 1))))) rfl ?_
    obtain ⟨v10, hv10, h⟩ := Option.bind_eq_some_iff.mp h
    refine h_iald rfl rfl hv10 ?_
    refine h_it 7 (x' := (192, [(4, .int v9), (0, .ref 85)], [.int ((gI s 15) - 1), .ref 149, .int v9, .ref 85], (Q, hpR (sI (sI s 15 ((gI s 15) - 1)) 14 v10)))) rfl ?_
    obtain ⟨v11, hv11, h⟩ := Option.bind_eq_some_iff.mp h
    refine h_iald rfl rfl hv11 ?_
    obtain ⟨q12, hq12, h⟩ := Option.bind_eq_some_iff.mp h
    refine h_callO (As := [.int v9, .int v11]) (r1 := none) (st := []) (H1 := (Q, hpR q12)) rfl rfl rfl rfl rfl rfl (m219_ok hq12) ?_
    refine h_it 1 (x' := (105, [(4, .int v9), (0, .ref 85)], [], (Q, hpR q12))) rfl ?_
    refine h_lw (lv := [(0, .ref 85)]) (fa_c rfl (fa_n)) rfl ?_
    exact hK105 q12 _ h
  · replace h := if_n h8 h
    refine h_n h8 ?_
    refine h_it 3 (x' := (141, [(0, .ref 85)], [.int (gI s 18), .ref 85], (Q, hpR s))) rfl ?_
    obtain ⟨q13, hq13, h⟩ := Option.bind_eq_some_iff.mp h
    refine h_callO (As := [.int (gI s 18)]) (r1 := none) (st := []) (H1 := (Q, hpR q13)) rfl rfl rfl rfl rfl rfl (m214_ok hq13) ?_
    refine h_it 1 (x' := (105, [(0, .ref 85)], [], (Q, hpR q13))) rfl ?_
    refine h_lw (lv := [(0, .ref 85)]) (fa_c rfl (fa_n)) rfl ?_
    exact hK105 q13 _ h
theorem m211_105_ok   : ∀ (n : Nat)  (s : xSt) (q : Bool × xSt), m211_105  n  s = some q → HE V L Kc Ks 211 (105, [(0, .ref 85)], [], (Q, hpR s)) (some (.int (b01 q.1))) (Q, hpR q.2) := by
  intro n
  induction n with
  | zero => intro  s q h; cases h
  | succ n ih =>
    intro  s q h
    unfold m211_105 at h
    refine h_it 3 (x' := (112, [(0, .ref 85)], [.int 6000, .int (gI s 17)], (Q, hpR s))) rfl ?_
    refine h_br (b := decide (6000 < (gI s 17))) (t := 199) (f := 115) (lv' := [(0, .ref 85)]) (st' := []) rfl rfl ?_
    by_cases h5 : 6000 < (gI s 17)
    · replace h := if_y h5 h
      refine h_y h5 ?_
      refine h_lw (lv := [(0, .ref 85)]) (fa_c rfl (fa_n)) rfl ?_
      exact m211_199_ok  h
    · replace h := if_n h5 h
      refine h_n h5 ?_
      refine h_it 2 (x' := (119, [(0, .ref 85)], [.int (gI s 18)], (Q, hpR s))) rfl ?_
      refine h_br (b := decide (0 ≤ (gI s 18))) (t := 129) (f := 122) (lv' := [(0, .ref 85)]) (st' := []) rfl rfl ?_
      by_cases h7 : 0 ≤ (gI s 18)
      · replace h := if_y h7 h
        refine h_y h7 ?_
        refine h_lw (lv := [(0, .ref 85)]) (fa_c rfl (fa_n)) rfl ?_
        exact m211_129_ok ih h
      · replace h := if_n h7 h
        refine h_n h7 ?_
        refine h_it 2 (x' := (126, [(0, .ref 85)], [.int (gI s 15)], (Q, hpR s))) rfl ?_
        refine h_br (b := decide ((gI s 15) ≤ 0)) (t := 199) (f := 129) (lv' := [(0, .ref 85)]) (st' := []) rfl rfl ?_
        by_cases h14 : (gI s 15) ≤ 0
        · replace h := if_y h14 h
          refine h_y h14 ?_
          refine h_lw (lv := [(0, .ref 85)]) (fa_c rfl (fa_n)) rfl ?_
          exact m211_199_ok  h
        · replace h := if_n h14 h
          refine h_n h14 ?_
          refine h_lw (lv := [(0, .ref 85)]) (fa_c rfl (fa_n)) rfl ?_
          exact m211_129_ok ih h
theorem m211_69_ok {K41 : Bool → Int32 → Int32 → xSt → Option (Bool × xSt)} (hK41 : ∀ (x2 : Bool) (x3 : Int32) (x4 : Int32) (s : xSt) (q : Bool × xSt), K41 x2 x3 x4 s = some q → HE V L Kc Ks 211 (41, [(0, .ref 85), (2, .int (b01 x2)), (3, .int x3), (4, .int x4)], [], (Q, hpR s)) (some (.int (b01 q.1))) (Q, hpR q.2)) {x2 : Bool} {x3 : Int32} {x4 : Int32} {y0 : Int32} {s : xSt} {q : Bool × xSt} (h : m211_69 K41 x2 x3 x4 y0 s = some q) : HE V L Kc Ks 211 (69, [(0, .ref 85), (2, .int (b01 x2)), (3, .int x3), (4, .int x4)], [.int y0, .ref 85, .ref 85], (Q, hpR s)) (some (.int (b01 q.1))) (Q, hpR q.2) := by
  unfold m211_69 at h
  refine h_it 1 (x' := (70, [(0, .ref 85), (2, .int (b01 x2)), (3, .int x3), (4, .int x4)], [.int x3, .int y0, .ref 85, .ref 85], (Q, hpR s))) rfl ?_
  obtain ⟨q17, hq17, h⟩ := Option.bind_eq_some_iff.mp h
  refine h_callO (As := [.int y0, .int x3]) (r1 := some (.int q17.1)) (st := [.ref 85]) (H1 := (Q, hpR q17.2)) rfl rfl rfl rfl rfl rfl (m213_ok hq17) ?_
  obtain ⟨q18, hq18, h⟩ := Option.bind_eq_some_iff.mp h
  refine h_callO (As := [.int q17.1]) (r1 := some (.int q18.1)) (st := []) (H1 := (Q, hpR q18.2)) rfl rfl rfl rfl rfl rfl (m212_ok hq18) ?_
  refine h_it 3 (x' := (41, [(4, .int (x4 + (-1))), (3, .int q18.1), (0, .ref 85), (2, .int (b01 x2))], [], (Q, hpR q18.2))) rfl ?_
  refine h_lw (lv := [(0, .ref 85), (2, .int (b01 x2)), (3, .int q18.1), (4, .int (x4 + (-1)))]) (fa_c rfl (fa_c rfl (fa_c rfl (fa_c rfl (fa_n))))) rfl ?_
  exact hK41 x2 q18.1 (x4 + (-1)) q18.2 _ h
theorem m211_41_ok   : ∀ (n : Nat) (x2 : Bool) (x3 : Int32) (x4 : Int32) (s : xSt) (q : Bool × xSt), m211_41  n x2 x3 x4 s = some q → HE V L Kc Ks 211 (41, [(0, .ref 85), (2, .int (b01 x2)), (3, .int x3), (4, .int x4)], [], (Q, hpR s)) (some (.int (b01 q.1))) (Q, hpR q.2) := by
  intro n
  induction n with
  | zero => intro x2 x3 x4 s q h; cases h
  | succ n ih =>
    intro x2 x3 x4 s q h
    unfold m211_41 at h
    refine h_it 1 (x' := (43, [(0, .ref 85), (2, .int (b01 x2)), (3, .int x3), (4, .int x4)], [.int x4], (Q, hpR s))) rfl ?_
    refine h_br (b := decide (x4 < 0)) (t := 83) (f := 46) (lv' := [(0, .ref 85), (2, .int (b01 x2)), (3, .int x3), (4, .int x4)]) (st' := []) rfl rfl ?_
    by_cases h2 : x4 < 0
    · replace h := if_y h2 h
      refine h_y h2 ?_
      refine h_it 4 (x' := (89, [(0, .ref 85), (2, .int (b01 x2)), (3, .int x3), (4, .int x4)], [.int x3, .int 0, .ref 147], (Q, hpR s))) rfl ?_
      obtain ⟨u3, hu3, h⟩ := Option.bind_eq_some_iff.mp h
      refine h_iast rfl rfl hu3 ?_
      show HE V L Kc Ks 211 (90, [(0, .ref 85), (2, .int (b01 x2)), (3, .int x3), (4, .int x4)], [], (Q, hpR (sR s 51 u3))) _ _
      refine h_it 7 (x' := (101, [(0, .ref 85), (2, .int (b01 x2)), (3, .int x3), (4, .int x4)], [.int ((gI s 5) - 1), .ref 133, .ref 85], (Q, hpR (sR s 51 u3)))) rfl ?_
      obtain ⟨v4, hv4, h⟩ := Option.bind_eq_some_iff.mp h
      refine h_iald rfl rfl hv4 ?_
      refine h_it 1 (x' := (105, [(0, .ref 85), (2, .int (b01 x2)), (3, .int x3), (4, .int x4)], [], (Q, hpR (sI (sR s 51 u3) 18 v4)))) rfl ?_
      refine h_lw (lv := [(0, .ref 85)]) (fa_c rfl (fa_n)) rfl ?_
      exact m211_105_ok  1000000 (sI (sR s 51 u3) 18 v4) _ h
    · replace h := if_n h2 h
      refine h_n h2 ?_
      refine h_it 3 (x' := (49, [(0, .ref 85), (2, .int (b01 x2)), (3, .int x3), (4, .int x4)], [.int (b01 x2), .ref 85, .ref 85], (Q, hpR s))) rfl ?_
      refine h_br (b := decide ((b01 x2) = 0)) (t := 62) (f := 52) (lv' := [(0, .ref 85), (2, .int (b01 x2)), (3, .int x3), (4, .int x4)]) (st' := [.ref 85, .ref 85]) rfl rfl ?_
      by_cases h15 : x2 = true
      · replace h := if_y h15 h
        refine h_n (b01_1 h15) ?_
        refine h_it 3 (x' := (58, [(0, .ref 85), (2, .int (b01 x2)), (3, .int x3), (4, .int x4)], [.int x4, .ref 142, .ref 85, .ref 85], (Q, hpR s))) rfl ?_
        obtain ⟨v16, hv16, h⟩ := Option.bind_eq_some_iff.mp h
        refine h_iald rfl rfl hv16 ?_
        refine h_it 1 (x' := (69, [(0, .ref 85), (2, .int (b01 x2)), (3, .int x3), (4, .int x4)], [.int v16, .ref 85, .ref 85], (Q, hpR s))) rfl ?_
        refine h_lw (lv := [(0, .ref 85), (2, .int (b01 x2)), (3, .int x3), (4, .int x4)]) (fa_c rfl (fa_c rfl (fa_c rfl (fa_c rfl (fa_n))))) rfl ?_
        exact m211_69_ok ih h
      · replace h := if_n h15 h
        refine h_y (b01_0 h15) ?_
        refine h_it 3 (x' := (68, [(0, .ref 85), (2, .int (b01 x2)), (3, .int x3), (4, .int x4)], [.int x4, .ref 141, .ref 85, .ref 85], (Q, hpR s))) rfl ?_
        obtain ⟨v19, hv19, h⟩ := Option.bind_eq_some_iff.mp h
        refine h_iald rfl rfl hv19 ?_
        refine h_lw (lv := [(0, .ref 85), (2, .int (b01 x2)), (3, .int x3), (4, .int x4)]) (fa_c rfl (fa_c rfl (fa_c rfl (fa_c rfl (fa_n))))) rfl ?_
        exact m211_69_ok ih h
theorem m211_ok {a1 : Int32} {b2 : Bool} {s : xSt} {q : Bool × xSt} (h : m211 a1 b2 s = some q) : HC V L Kc Ks 211 [.ref 85, .int a1, .int (b01 b2)] (Q, hpR s) (some (.int (b01 q.1))) (Q, hpR q.2) := by
  unfold m211 at h
  refine hc_of (by decide) rfl ?_
  refine h_it 14 (x' := (22, [(0, .ref 85), (1, .int a1), (2, .int (b01 b2))], [.int 0, .ref 85], (Q, hpR (sI (sI (sI (sI s 12 0) 13 0) 15 0) 16 0)))) rfl ?_
  refine (show ∀ w : xSt, HE V L Kc Ks 211 (25, [(0, .ref 85), (1, .int a1), (2, .int (b01 b2))], [], (Q, hpR (sI w 17 0))) _ _ → HE V L Kc Ks 211 (22, [(0, .ref 85), (1, .int a1), (2, .int (b01 b2))], [.int 0, .ref 85], (Q, hpR w)) _ _ from fun w e => h_it 1 rfl e) (sI (sI (sI (sI s 12 0) 13 0) 15 0) 16 0) ?_
  show HE V L Kc Ks 211 (25, [(0, .ref 85), (1, .int a1), (2, .int (b01 b2))], [], (Q, hpR (sI (sI (sI (sI (sI s 12 0) 13 0) 15 0) 16 0) 17 0))) _ _
  refine h_it 2 (x' := (27, [(0, .ref 85), (1, .int a1), (2, .int (b01 b2))], [.int 0, .ref 85], (Q, hpR (sI (sI (sI (sI (sI s 12 0) 13 0) 15 0) 16 0) 17 0)))) rfl ?_
  refine (show ∀ w : xSt, HE V L Kc Ks 211 (30, [(0, .ref 85), (1, .int a1), (2, .int (b01 b2))], [], (Q, hpR (sI w 14 0))) _ _ → HE V L Kc Ks 211 (27, [(0, .ref 85), (1, .int a1), (2, .int (b01 b2))], [.int 0, .ref 85], (Q, hpR w)) _ _ from fun w e => h_it 1 rfl e) (sI (sI (sI (sI (sI s 12 0) 13 0) 15 0) 16 0) 17 0) ?_
  show HE V L Kc Ks 211 (30, [(0, .ref 85), (1, .int a1), (2, .int (b01 b2))], [], (Q, hpR (sI (sI (sI (sI (sI (sI s 12 0) 13 0) 15 0) 16 0) 17 0) 14 0))) _ _
  refine h_it 2 (x' := (32, [(0, .ref 85), (1, .int a1), (2, .int (b01 b2))], [.int 0, .ref 85], (Q, hpR (sI (sI (sI (sI (sI (sI s 12 0) 13 0) 15 0) 16 0) 17 0) 14 0)))) rfl ?_
  obtain ⟨q1, hq1, h⟩ := Option.bind_eq_some_iff.mp h
  refine h_callO (As := [.int 0]) (r1 := some (.int q1.1)) (st := []) (H1 := (Q, hpR q1.2)) rfl rfl rfl rfl rfl rfl (m212_ok hq1) ?_
  refine h_it 5 (x' := (41, [(4, .int (a1 - 1)), (3, .int q1.1), (0, .ref 85), (1, .int a1), (2, .int (b01 b2))], [], (Q, hpR q1.2))) rfl ?_
  refine h_lw (lv := [(0, .ref 85), (2, .int (b01 b2)), (3, .int q1.1), (4, .int (a1 - 1))]) (fa_c rfl (fa_c rfl (fa_c rfl (fa_c rfl (fa_n))))) rfl ?_
  exact m211_41_ok  1000000 b2 q1.1 (a1 - 1) q1.2 _ h
end Sm211
section Sm223
variable {V : xmV} {L : List Nat} {Kc Ks : Nat} {Q : List xE}
theorem m223_25_ok   : ∀ (n : Nat) (x1 : Int32) (s : xSt) (q : xSt), m223_25  n x1 s = some q → HE V L Kc Ks 223 (25, [(0, .ref 85), (1, .int x1)], [], (Q, hpR s)) (none) (Q, hpR q) := by
  intro n
  induction n with
  | zero => intro x1 s q h; cases h
  | succ n ih =>
    intro x1 s q h
    unfold m223_25 at h
    refine h_it 1 (x' := (26, [(0, .ref 85), (1, .int x1)], [.int x1], (Q, hpR s))) rfl ?_
    refine h_br (b := decide (x1 ≤ 0)) (t := 69) (f := 29) (lv' := [(0, .ref 85), (1, .int x1)]) (st' := []) rfl rfl ?_
    by_cases h3 : x1 ≤ 0
    · replace h := if_y h3 h
      refine h_y h3 ?_
      replace h := Option.some.inj h; subst h
      exact h_vret rfl rfl
    · replace h := if_n h3 h
      refine h_n h3 ?_
      refine h_it 7 (x' := (42, [(0, .ref 85), (1, .int x1)], [.int x1, .ref 144, .int (gI s 10), .ref 143], (Q, hpR s))) rfl ?_
      obtain ⟨v4, hv4, h⟩ := Option.bind_eq_some_iff.mp h
      refine h_iald rfl rfl hv4 ?_
      obtain ⟨u5, hu5, h⟩ := Option.bind_eq_some_iff.mp h
      refine h_iast rfl rfl hu5 ?_
      show HE V L Kc Ks 223 (44, [(0, .ref 85), (1, .int x1)], [], (Q, hpR (sR s 47 u5))) _ _
      refine h_it 11 (x' := (63, [(0, .ref 85), (1, .int x1)], [.int x1, .ref 145, .ref 146], (Q, hpR (sI (sR s 47 u5) 10 ((gI s 10) + 1))))) rfl ?_
      obtain ⟨v6, hv6, h⟩ := Option.bind_eq_some_iff.mp h
      refine h_iald rfl rfl hv6 ?_
      obtain ⟨v7, hv7, h⟩ := Option.bind_eq_some_iff.mp h
      refine h_iald rfl rfl hv7 ?_
      refine h_it 2 (x' := (25, [(1, .int v7), (0, .ref 85)], [], (Q, hpR (sI (sR s 47 u5) 10 ((gI s 10) + 1))))) rfl ?_
      refine h_lw (lv := [(0, .ref 85), (1, .int v7)]) (fa_c rfl (fa_c rfl (fa_n))) rfl ?_
      exact ih v7 (sI (sR s 47 u5) 10 ((gI s 10) + 1)) _ h
theorem m223_ok  {s : xSt} {q : xSt} (h : m223  s = some q) : HC V L Kc Ks 223 [.ref 85] (Q, hpR s) (none) (Q, hpR q) := by
  unfold m223 at h
  refine hc_of (by decide) rfl ?_
  refine h_it 12 (x' := (22, [(0, .ref 85)], [.int 0, .ref 151, .ref 146], (Q, hpR (sI (sI s 11 (gI s 17)) 10 0)))) rfl ?_
  obtain ⟨v1, hv1, h⟩ := Option.bind_eq_some_iff.mp h
  refine h_iald rfl rfl hv1 ?_
  obtain ⟨v2, hv2, h⟩ := Option.bind_eq_some_iff.mp h
  refine h_iald rfl rfl hv2 ?_
  refine h_it 1 (x' := (25, [(1, .int v2), (0, .ref 85)], [], (Q, hpR (sI (sI s 11 (gI s 17)) 10 0)))) rfl ?_
  refine h_lw (lv := [(0, .ref 85), (1, .int v2)]) (fa_c rfl (fa_c rfl (fa_n))) rfl ?_
  exact m223_25_ok  1000000 v2 (sI (sI s 11 (gI s 17)) 10 0) _ h
end Sm223
section Sm222
variable {V : xmV} {L : List Nat} {Kc Ks : Nat} {Q : List xE}
theorem m222_97_ok   : ∀ (n : Nat) (x1 : Int32) (s : xSt) (q : xSt), m222_97  n x1 s = some q → HE V L Kc Ks 222 (97, [(0, .ref 85), (1, .int x1)], [], (Q, hpR s)) (none) (Q, hpR q) := by
  intro n
  induction n with
  | zero => intro x1 s q h; cases h
  | succ n ih =>
    intro x1 s q h
    unfold m222_97 at h
    refine h_it 2 (x' := (100, [(0, .ref 85), (1, .int x1)], [.int 64, .int x1], (Q, hpR s))) rfl ?_
    refine h_br (b := decide (64 ≤ x1)) (t := 121) (f := 103) (lv' := [(0, .ref 85), (1, .int x1)]) (st' := []) rfl rfl ?_
    by_cases h2 : 64 ≤ x1
    · replace h := if_y h2 h
      refine h_y h2 ?_
      replace h := Option.some.inj h; subst h
      exact h_vret rfl rfl
    · replace h := if_n h2 h
      refine h_n h2 ?_
      refine h_it 6 (x' := (113, [(0, .ref 85), (1, .int x1)], [.int x1, .ref 140, .int x1, .ref 133], (Q, hpR s))) rfl ?_
      obtain ⟨v3, hv3, h⟩ := Option.bind_eq_some_iff.mp h
      refine h_iald rfl rfl hv3 ?_
      obtain ⟨u4, hu4, h⟩ := Option.bind_eq_some_iff.mp h
      refine h_iast rfl rfl hu4 ?_
      show HE V L Kc Ks 222 (115, [(0, .ref 85), (1, .int x1)], [], (Q, hpR (sR s 37 u4))) _ _
      refine h_it 2 (x' := (97, [(1, .int (x1 + 1)), (0, .ref 85)], [], (Q, hpR (sR s 37 u4)))) rfl ?_
      refine h_lw (lv := [(0, .ref 85), (1, .int (x1 + 1))]) (fa_c rfl (fa_c rfl (fa_n))) rfl ?_
      exact ih (x1 + 1) (sR s 37 u4) _ h
theorem m222_10_ok   : ∀ (n : Nat) (x1 : Int32) (s : xSt) (q : xSt), m222_10  n x1 s = some q → HE V L Kc Ks 222 (10, [(0, .ref 85), (1, .int x1)], [], (Q, hpR s)) (none) (Q, hpR q) := by
  intro n
  induction n with
  | zero => intro x1 s q h; cases h
  | succ n ih =>
    intro x1 s q h
    unfold m222_10 at h
    refine h_it 2 (x' := (14, [(0, .ref 85), (1, .int x1)], [.int 4200, .int x1], (Q, hpR s))) rfl ?_
    refine h_br (b := decide (4200 ≤ x1)) (t := 95) (f := 17) (lv' := [(0, .ref 85), (1, .int x1)]) (st' := []) rfl rfl ?_
    by_cases h1 : 4200 ≤ x1
    · replace h := if_y h1 h
      refine h_y h1 ?_
      refine h_it 2 (x' := (97, [(1, .int 0), (0, .ref 85)], [], (Q, hpR s))) rfl ?_
      refine h_lw (lv := [(0, .ref 85), (1, .int 0)]) (fa_c rfl (fa_c rfl (fa_n))) rfl ?_
      exact m222_97_ok  1000000 0 s _ h
    · replace h := if_n h1 h
      refine h_n h1 ?_
      refine h_it 6 (x' := (27, [(0, .ref 85), (1, .int x1)], [.int x1, .ref 134, .int x1, .ref 127], (Q, hpR s))) rfl ?_
      obtain ⟨v5, hv5, h⟩ := Option.bind_eq_some_iff.mp h
      refine h_iald rfl rfl hv5 ?_
      obtain ⟨u6, hu6, h⟩ := Option.bind_eq_some_iff.mp h
      refine h_iast rfl rfl hu6 ?_
      show HE V L Kc Ks 222 (29, [(0, .ref 85), (1, .int x1)], [], (Q, hpR (sR s 31 u6))) _ _
      refine h_it 6 (x' := (39, [(0, .ref 85), (1, .int x1)], [.int x1, .ref 135, .int x1, .ref 128], (Q, hpR (sR s 31 u6)))) rfl ?_
      obtain ⟨v7, hv7, h⟩ := Option.bind_eq_some_iff.mp h
      refine h_iald rfl rfl hv7 ?_
      obtain ⟨u8, hu8, h⟩ := Option.bind_eq_some_iff.mp h
      refine h_iast rfl rfl hu8 ?_
      show HE V L Kc Ks 222 (41, [(0, .ref 85), (1, .int x1)], [], (Q, hpR (sR (sR s 31 u6) 32 u8))) _ _
      refine h_it 6 (x' := (51, [(0, .ref 85), (1, .int x1)], [.int x1, .ref 136, .int x1, .ref 129], (Q, hpR (sR (sR s 31 u6) 32 u8)))) rfl ?_
      obtain ⟨v9, hv9, h⟩ := Option.bind_eq_some_iff.mp h
      refine h_iald rfl rfl hv9 ?_
      obtain ⟨u10, hu10, h⟩ := Option.bind_eq_some_iff.mp h
      refine h_iast rfl rfl hu10 ?_
      show HE V L Kc Ks 222 (53, [(0, .ref 85), (1, .int x1)], [], (Q, hpR (sR (sR (sR s 31 u6) 32 u8) 33 u10))) _ _
      refine h_it 6 (x' := (63, [(0, .ref 85), (1, .int x1)], [.int x1, .ref 137, .int x1, .ref 130], (Q, hpR (sR (sR (sR s 31 u6) 32 u8) 33 u10)))) rfl ?_
      obtain ⟨v11, hv11, h⟩ := Option.bind_eq_some_iff.mp h
      refine h_iald rfl rfl hv11 ?_
      obtain ⟨u12, hu12, h⟩ := Option.bind_eq_some_iff.mp h
      refine h_iast rfl rfl hu12 ?_
      show HE V L Kc Ks 222 (65, [(0, .ref 85), (1, .int x1)], [], (Q, hpR (sR (sR (sR (sR s 31 u6) 32 u8) 33 u10) 34 u12))) _ _
      refine h_it 6 (x' := (75, [(0, .ref 85), (1, .int x1)], [.int x1, .ref 138, .int x1, .ref 131], (Q, hpR (sR (sR (sR (sR s 31 u6) 32 u8) 33 u10) 34 u12)))) rfl ?_
      obtain ⟨v13, hv13, h⟩ := Option.bind_eq_some_iff.mp h
      refine h_iald rfl rfl hv13 ?_
      obtain ⟨u14, hu14, h⟩ := Option.bind_eq_some_iff.mp h
      refine h_iast rfl rfl hu14 ?_
      show HE V L Kc Ks 222 (77, [(0, .ref 85), (1, .int x1)], [], (Q, hpR (sR (sR (sR (sR (sR s 31 u6) 32 u8) 33 u10) 34 u12) 35 u14))) _ _
      refine h_it 6 (x' := (87, [(0, .ref 85), (1, .int x1)], [.int x1, .ref 139, .int x1, .ref 132], (Q, hpR (sR (sR (sR (sR (sR s 31 u6) 32 u8) 33 u10) 34 u12) 35 u14)))) rfl ?_
      obtain ⟨v15, hv15, h⟩ := Option.bind_eq_some_iff.mp h
      refine h_iald rfl rfl hv15 ?_
      obtain ⟨u16, hu16, h⟩ := Option.bind_eq_some_iff.mp h
      refine h_iast rfl rfl hu16 ?_
      show HE V L Kc Ks 222 (89, [(0, .ref 85), (1, .int x1)], [], (Q, hpR (sR (sR (sR (sR (sR (sR s 31 u6) 32 u8) 33 u10) 34 u12) 35 u14) 36 u16))) _ _
      refine h_it 2 (x' := (10, [(1, .int (x1 + 1)), (0, .ref 85)], [], (Q, hpR (sR (sR (sR (sR (sR (sR s 31 u6) 32 u8) 33 u10) 34 u12) 35 u14) 36 u16)))) rfl ?_
      refine h_lw (lv := [(0, .ref 85), (1, .int (x1 + 1))]) (fa_c rfl (fa_c rfl (fa_n))) rfl ?_
      exact ih (x1 + 1) (sR (sR (sR (sR (sR (sR s 31 u6) 32 u8) 33 u10) 34 u12) 35 u14) 36 u16) _ h
theorem m222_ok  {s : xSt} {q : xSt} (h : m222  s = some q) : HC V L Kc Ks 222 [.ref 85] (Q, hpR s) (none) (Q, hpR q) := by
  unfold m222 at h
  refine hc_of (by decide) rfl ?_
  refine h_it 6 (x' := (10, [(1, .int 0), (0, .ref 85)], [], (Q, hpR (sI s 5 (gI s 6))))) rfl ?_
  refine h_lw (lv := [(0, .ref 85), (1, .int 0)]) (fa_c rfl (fa_c rfl (fa_n))) rfl ?_
  exact m222_10_ok  1000000 0 (sI s 5 (gI s 6)) _ h
end Sm222
section Sm208
variable {V : xmV} {L : List Nat} {Kc Ks : Nat} {Q : List xE}
theorem m208_ok {a1 : Int32} {s : xSt} {q : Int32 × xSt} (h : m208 a1 s = some q) : HC V L Kc Ks 208 [.ref 85, .int a1] (Q, hpR s) (some (.int q.1)) (Q, hpR q.2) := by
  unfold m208 at h
  refine hc_of (by decide) rfl ?_
  refine h_it 2 (x' := (2, [(0, .ref 85), (1, .int a1)], [.int 4, .int a1], (Q, hpR s))) rfl ?_
  refine h_br (b := decide (¬ a1 = 4)) (t := 43) (f := 5) (lv' := [(0, .ref 85), (1, .int a1)]) (st' := []) rfl rfl ?_
  by_cases h1 : a1 = 4
  · replace h := if_y h1 h
    refine h_n (fun z => z h1) ?_
    refine h_it 3 (x' := (12, [(0, .ref 85), (1, .int a1)], [.int (gI s 27)], (Q, hpR s))) rfl ?_
    refine h_br (b := decide (¬ (gI s 27) = 0)) (t := 25) (f := 15) (lv' := [(0, .ref 85), (1, .int a1)]) (st' := []) rfl rfl ?_
    by_cases h2 : (gI s 27) = 0
    · replace h := if_y h2 h
      refine h_n (fun z => z h2) ?_
      replace h := Option.some.inj h; subst h
      refine h_it 4 (x' := (42, [(0, .ref 85), (1, .int a1)], [.int (gI s 20)], (Q, hpR s))) rfl ?_
      exact h_iret rfl rfl
    · replace h := if_n h2 h
      refine h_y h2 ?_
      refine h_it 8 (x' := (41, [(0, .ref 85), (1, .int a1)], [.int ((gI s 27) - 1), .ref 93], (Q, hpR s))) rfl ?_
      obtain ⟨v3, hv3, h⟩ := Option.bind_eq_some_iff.mp h
      refine h_iald rfl rfl hv3 ?_
      replace h := Option.some.inj h; subst h
      exact h_iret rfl rfl
  · replace h := if_n h1 h
    refine h_y h1 ?_
    refine h_it 2 (x' := (45, [(0, .ref 85), (1, .int a1)], [.int 5, .int a1], (Q, hpR s))) rfl ?_
    refine h_br (b := decide (¬ a1 = 5)) (t := 66) (f := 48) (lv' := [(0, .ref 85), (1, .int a1)]) (st' := []) rfl rfl ?_
    by_cases h4 : a1 = 5
    · replace h := if_y h4 h
      refine h_n (fun z => z h4) ?_
      refine h_it 6 (x' := (62, [(0, .ref 85), (1, .int a1)], [.int (gI s 35), .ref 100], (Q, hpR s))) rfl ?_
      obtain ⟨v5, hv5, h⟩ := Option.bind_eq_some_iff.mp h
      refine h_iald rfl rfl hv5 ?_
      replace h := Option.some.inj h; subst h
      refine h_it 1 (x' := (81, [(0, .ref 85), (1, .int a1)], [.int v5], (Q, hpR s))) rfl ?_
      exact h_iret rfl rfl
    · replace h := if_n h4 h
      refine h_y h4 ?_
      refine h_it 6 (x' := (80, [(0, .ref 85), (1, .int a1)], [.int (gI s 35), .ref 99], (Q, hpR s))) rfl ?_
      obtain ⟨v6, hv6, h⟩ := Option.bind_eq_some_iff.mp h
      refine h_iald rfl rfl hv6 ?_
      replace h := Option.some.inj h; subst h
      exact h_iret rfl rfl
end Sm208
section Sm204
variable {V : xmV} {L : List Nat} {Kc Ks : Nat} {Q : List xE}
theorem m204_86_ok   {y0 : Int32} {s : xSt} {q : Int32 × xSt} (h : m204_86  y0 s = some q) : HE V L Kc Ks 204 (86, [(0, .ref 85)], [.int y0, .ref 85], (Q, hpR s)) (some (.int q.1)) (Q, hpR q.2) := by
  unfold m204_86 at h
  refine h_it 3 (x' := (93, [(0, .ref 85)], [.int (gI s 2)], (Q, hpR (sI s 3 y0)))) rfl ?_
  refine h_br (b := decide ((gI s 2) ≤ 0)) (t := 101) (f := 96) (lv' := [(0, .ref 85)]) (st' := []) rfl rfl ?_
  by_cases h5 : (gI s 2) ≤ 0
  · replace h := if_y h5 h
    refine h_y h5 ?_
    refine h_it 2 (x' := (103, [(0, .ref 85)], [.ref 85, .ref 85], (Q, hpR (sI s 3 y0)))) rfl ?_
    obtain ⟨q6, hq6, h⟩ := Option.bind_eq_some_iff.mp h
    refine h_callO (As := []) (r1 := some (.int q6.1)) (st := [.ref 85]) (H1 := (Q, hpR q6.2)) rfl rfl rfl rfl rfl rfl (m206_ok hq6) ?_
    refine h_it 3 (x' := (113, [(0, .ref 85)], [.int q6.1], (Q, hpR (sI q6.2 2 q6.1)))) rfl ?_
    refine h_br (b := decide (q6.1 ≤ 0)) (t := 133) (f := 116) (lv' := [(0, .ref 85)]) (st' := []) rfl rfl ?_
    by_cases h7 : q6.1 ≤ 0
    · replace h := if_y h7 h
      refine h_y h7 ?_
      refine h_it 1 (x' := (134, [(0, .ref 85)], [.ref 85], (Q, hpR (sI q6.2 2 q6.1)))) rfl ?_
      obtain ⟨q8, hq8, h⟩ := Option.bind_eq_some_iff.mp h
      refine h_callO (As := []) (r1 := none) (st := []) (H1 := (Q, hpR q8)) rfl rfl rfl rfl rfl rfl (m209_ok hq8) ?_
      refine h_it 1 (x' := (138, [(0, .ref 85)], [.ref 85], (Q, hpR q8))) rfl ?_
      obtain ⟨q9, hq9, h⟩ := Option.bind_eq_some_iff.mp h
      refine h_callO (As := []) (r1 := none) (st := []) (H1 := (Q, hpR q9)) rfl rfl rfl rfl rfl rfl (m210_ok hq9) ?_
      refine h_it 4 (x' := (147, [(0, .ref 85)], [.int (b01 false), .int (gI q9 7), .ref 85], (Q, hpR q9))) rfl ?_
      obtain ⟨q10, hq10, h⟩ := Option.bind_eq_some_iff.mp h
      refine h_callO (As := [.int (gI q9 7), .int (b01 false)]) (r1 := some (.int (b01 q10.1))) (st := []) (H1 := (Q, hpR q10.2)) rfl rfl rfl rfl rfl rfl (m211_ok hq10) ?_
      refine h_br (b := decide (¬ (b01 q10.1) = 0)) (t := 168) (f := 153) (lv' := [(0, .ref 85)]) (st' := []) rfl rfl ?_
      by_cases h11 : q10.1 = true
      · replace h := if_y h11 h
        refine h_y (b01_1 h11) ?_
        refine h_it 2 (x' := (170, [(0, .ref 85)], [.int (b01 true), .ref 85], (Q, hpR q10.2))) rfl ?_
        refine h_putZ (ty := .boolean) rfl rfl rfl ?_
        show HE V L Kc Ks 204 (173, [(0, .ref 85)], [], (Q, hpR (sZ q10.2 0 true))) _ _
        refine h_it 1 (x' := (174, [(0, .ref 85)], [.ref 85], (Q, hpR (sZ q10.2 0 true)))) rfl ?_
        obtain ⟨q12, hq12, h⟩ := Option.bind_eq_some_iff.mp h
        refine h_callO (As := []) (r1 := none) (st := []) (H1 := (Q, hpR q12)) rfl rfl rfl rfl rfl rfl (m223_ok hq12) ?_
        replace h := Option.some.inj h; subst h
        refine h_it 1 (x' := (178, [(0, .ref 85)], [.int 0], (Q, hpR q12))) rfl ?_
        exact h_iret rfl rfl
      · replace h := if_n h11 h
        refine h_n (fun z => z (b01_0 h11)) ?_
        refine h_it 1 (x' := (154, [(0, .ref 85)], [.ref 85], (Q, hpR q10.2))) rfl ?_
        obtain ⟨q13, hq13, h⟩ := Option.bind_eq_some_iff.mp h
        refine h_callO (As := []) (r1 := none) (st := []) (H1 := (Q, hpR q13)) rfl rfl rfl rfl rfl rfl (m222_ok hq13) ?_
        replace h := Option.some.inj h; subst h
        refine h_it 5 (x' := (167, [(0, .ref 85)], [.int 7], (Q, hpR (sI q13 2 7)))) rfl ?_
        exact h_iret rfl rfl
    · replace h := if_n h7 h
      refine h_n h7 ?_
      refine h_it 4 (x' := (122, [(0, .ref 85)], [.int q6.1, .ref 85, .ref 85], (Q, hpR (sI q6.2 2 q6.1)))) rfl ?_
      obtain ⟨q14, hq14, h⟩ := Option.bind_eq_some_iff.mp h
      refine h_callO (As := [.int q6.1]) (r1 := some (.int q14.1)) (st := [.ref 85]) (H1 := (Q, hpR q14.2)) rfl rfl rfl rfl rfl rfl (m208_ok hq14) ?_
      replace h := Option.some.inj h; subst h
      refine h_it 3 (x' := (132, [(0, .ref 85)], [.int (gI q14.2 2)], (Q, hpR (sI q14.2 3 q14.1)))) rfl ?_
      exact h_iret rfl rfl
  · replace h := if_n h5 h
    refine h_n h5 ?_
    replace h := Option.some.inj h; subst h
    refine h_it 2 (x' := (100, [(0, .ref 85)], [.int (gI s 2)], (Q, hpR (sI s 3 y0)))) rfl ?_
    exact h_iret rfl rfl
theorem m204_18_ok   : ∀ (n : Nat) (x1 : Int32) (s : xSt) (q : Int32 × xSt), m204_18  n x1 s = some q → HE V L Kc Ks 204 (18, [(0, .ref 85), (1, .int x1)], [], (Q, hpR s)) (some (.int q.1)) (Q, hpR q.2) := by
  intro n
  induction n with
  | zero => intro x1 s q h; cases h
  | succ n ih =>
    intro x1 s q h
    unfold m204_18 at h
    refine h_it 3 (x' := (23, [(0, .ref 85), (1, .int x1)], [.int (gI s 1), .int x1], (Q, hpR s))) rfl ?_
    refine h_br (b := decide ((gI s 1) ≤ x1)) (t := 47) (f := 26) (lv' := [(0, .ref 85), (1, .int x1)]) (st' := []) rfl rfl ?_
    by_cases h1 : (gI s 1) ≤ x1
    · replace h := if_y h1 h
      refine h_y h1 ?_
      refine h_it 4 (x' := (53, [(0, .ref 85), (1, .int x1)], [.ref 85], (Q, hpR (sI s 1 0)))) rfl ?_
      obtain ⟨q2, hq2, h⟩ := Option.bind_eq_some_iff.mp h
      refine h_callO (As := []) (r1 := none) (st := []) (H1 := (Q, hpR q2)) rfl rfl rfl rfl rfl rfl (m205_ok hq2) ?_
      refine h_it 3 (x' := (61, [(0, .ref 85), (1, .int x1)], [.ref 87, .ref 85], (Q, hpR q2))) rfl ?_
      obtain ⟨q3, hq3, h⟩ := Option.bind_eq_some_iff.mp h
      refine h_callO (As := []) (r1 := some (.int q3.1)) (st := [.ref 85]) (H1 := (Q, hpR q3.2)) rfl rfl rfl rfl rfl rfl (m149_ok hq3) ?_
      refine h_it 4 (x' := (72, [(0, .ref 85), (1, .int x1)], [.int q3.1, .ref 85], (Q, hpR (sI q3.2 2 q3.1)))) rfl ?_
      refine h_br (b := decide (q3.1 ≤ 0)) (t := 85) (f := 75) (lv' := [(0, .ref 85), (1, .int x1)]) (st' := [.ref 85]) rfl rfl ?_
      by_cases h4 : q3.1 ≤ 0
      · replace h := if_y h4 h
        refine h_y h4 ?_
        refine h_it 1 (x' := (86, [(0, .ref 85), (1, .int x1)], [.int (-1), .ref 85], (Q, hpR (sI q3.2 2 q3.1)))) rfl ?_
        refine h_lw (lv := [(0, .ref 85)]) (fa_c rfl (fa_n)) rfl ?_
        exact m204_86_ok  h
      · replace h := if_n h4 h
        refine h_n h4 ?_
        refine h_it 4 (x' := (86, [(0, .ref 85), (1, .int x1)], [.int (gI q3.2 22), .ref 85], (Q, hpR (sI q3.2 2 q3.1)))) rfl ?_
        refine h_lw (lv := [(0, .ref 85)]) (fa_c rfl (fa_n)) rfl ?_
        exact m204_86_ok  h
    · replace h := if_n h1 h
      refine h_n h1 ?_
      refine h_it 7 (x' := (39, [(0, .ref 85), (1, .int x1)], [.int x1, .ref 86, .int x1, .ref 88], (Q, hpR s))) rfl ?_
      obtain ⟨v15, hv15, h⟩ := Option.bind_eq_some_iff.mp h
      refine h_bald rfl (Or.inl rfl) rfl hv15 ?_
      obtain ⟨u16, hu16, h⟩ := Option.bind_eq_some_iff.mp h
      refine h_bast rfl rfl hu16 ?_
      show HE V L Kc Ks 204 (41, [(0, .ref 85), (1, .int x1)], [], (Q, hpR (sR s 1 u16))) _ _
      refine h_it 2 (x' := (18, [(1, .int (x1 + 1)), (0, .ref 85)], [], (Q, hpR (sR s 1 u16)))) rfl ?_
      refine h_lw (lv := [(0, .ref 85), (1, .int (x1 + 1))]) (fa_c rfl (fa_c rfl (fa_n))) rfl ?_
      exact ih (x1 + 1) (sR s 1 u16) _ h
theorem m204_ok  {s : xSt} {q : Int32 × xSt} (h : m204  s = some q) : HC V L Kc Ks 204 [.ref 85] (Q, hpR s) (some (.int q.1)) (Q, hpR q.2) := by
  unfold m204 at h
  refine hc_of (by decide) rfl ?_
  refine h_it 10 (x' := (18, [(1, .int 0), (0, .ref 85)], [], (Q, hpR (sI (sI s 0 0) 20 (gI s 1))))) rfl ?_
  refine h_lw (lv := [(0, .ref 85), (1, .int 0)]) (fa_c rfl (fa_c rfl (fa_n))) rfl ?_
  exact m204_18_ok  1000000 0 (sI (sI s 0 0) 20 (gI s 1)) _ h
end Sm204
section Sm224
variable {V : xmV} {L : List Nat} {Kc Ks : Nat} {Q : List xE}
theorem m224_42_ok   : ∀ (n : Nat) (x1 : Int32) (x2 : Int32) (x3 : Int32) (s : xSt) (q : Bool × xSt), m224_42  n x1 x2 x3 s = some q → HE V L Kc Ks 224 (42, [(0, .ref 85), (1, .int x1), (2, .int x2), (3, .int x3)], [], (Q, hpR s)) (some (.int (b01 q.1))) (Q, hpR q.2) := by
  intro n
  induction n with
  | zero => intro x1 x2 x3 s q h; cases h
  | succ n ih =>
    intro x1 x2 x3 s q h
    unfold m224_42 at h
    refine h_it 2 (x' := (44, [(0, .ref 85), (1, .int x1), (2, .int x2), (3, .int x3)], [.int x1, .int x3], (Q, hpR s))) rfl ?_
    refine h_br (b := decide (x3 ≤ x1)) (t := 67) (f := 47) (lv' := [(0, .ref 85), (1, .int x1), (2, .int x2), (3, .int x3)]) (st' := []) rfl rfl ?_
    by_cases h5 : x3 ≤ x1
    · replace h := if_y h5 h
      refine h_y h5 ?_
      refine h_it 4 (x' := (73, [(0, .ref 85), (1, .int x1), (2, .int x2), (3, .int x3)], [.int x2, .int x1, .ref 142], (Q, hpR s))) rfl ?_
      obtain ⟨u6, hu6, h⟩ := Option.bind_eq_some_iff.mp h
      refine h_iast rfl rfl hu6 ?_
      show HE V L Kc Ks 224 (74, [(0, .ref 85), (1, .int x1), (2, .int x2), (3, .int x3)], [], (Q, hpR (sR s 46 u6))) _ _
      replace h := Option.some.inj h; subst h
      refine h_it 13 (x' := (95, [(0, .ref 85), (1, .int x1), (2, .int x2), (3, .int x3)], [.int (b01 true)], (Q, hpR (sI (sI (sR s 46 u6) 8 ((gI s 8) + 1)) 9 ((gI s 9) + 1))))) rfl ?_
      exact h_zret rfl rfl
    · replace h := if_n h5 h
      refine h_n h5 ?_
      refine h_it 8 (x' := (59, [(0, .ref 85), (1, .int x1), (2, .int x2), (3, .int x3)], [.int (x3 - 1), .ref 142, .int x3, .ref 142], (Q, hpR s))) rfl ?_
      obtain ⟨v7, hv7, h⟩ := Option.bind_eq_some_iff.mp h
      refine h_iald rfl rfl hv7 ?_
      obtain ⟨u8, hu8, h⟩ := Option.bind_eq_some_iff.mp h
      refine h_iast rfl rfl hu8 ?_
      show HE V L Kc Ks 224 (61, [(0, .ref 85), (1, .int x1), (2, .int x2), (3, .int x3)], [], (Q, hpR (sR s 46 u8))) _ _
      refine h_it 2 (x' := (42, [(3, .int (x3 + (-1))), (0, .ref 85), (1, .int x1), (2, .int x2)], [], (Q, hpR (sR s 46 u8)))) rfl ?_
      refine h_lw (lv := [(0, .ref 85), (1, .int x1), (2, .int x2), (3, .int (x3 + (-1)))]) (fa_c rfl (fa_c rfl (fa_c rfl (fa_c rfl (fa_n))))) rfl ?_
      exact ih x1 x2 (x3 + (-1)) (sR s 46 u8) _ h
theorem m224_ok {a1 : Int32} {a2 : Int32} {s : xSt} {q : Bool × xSt} (h : m224 a1 a2 s = some q) : HC V L Kc Ks 224 [.ref 85, .int a1, .int a2] (Q, hpR s) (some (.int (b01 q.1))) (Q, hpR q.2) := by
  unfold m224 at h
  refine hc_of (by decide) rfl ?_
  refine h_it 4 (x' := (6, [(0, .ref 85), (1, .int a1), (2, .int a2)], [.int a1], (Q, hpR (sI s 0 0)))) rfl ?_
  refine h_br (b := decide (a1 < 0)) (t := 35) (f := 9) (lv' := [(0, .ref 85), (1, .int a1), (2, .int a2)]) (st' := []) rfl rfl ?_
  by_cases h1 : a1 < 0
  · replace h := if_y h1 h
    refine h_y h1 ?_
    replace h := Option.some.inj h; subst h
    refine h_it 1 (x' := (36, [(0, .ref 85), (1, .int a1), (2, .int a2)], [.int (b01 false)], (Q, hpR (sI s 0 0)))) rfl ?_
    exact h_zret rfl rfl
  · replace h := if_n h1 h
    refine h_n h1 ?_
    refine h_it 3 (x' := (14, [(0, .ref 85), (1, .int a1), (2, .int a2)], [.int (gI s 8), .int a1], (Q, hpR (sI s 0 0)))) rfl ?_
    refine h_br (b := decide ((gI s 8) < a1)) (t := 35) (f := 17) (lv' := [(0, .ref 85), (1, .int a1), (2, .int a2)]) (st' := []) rfl rfl ?_
    by_cases h2 : (gI s 8) < a1
    · replace h := if_y h2 h
      refine h_y h2 ?_
      replace h := Option.some.inj h; subst h
      refine h_it 1 (x' := (36, [(0, .ref 85), (1, .int a1), (2, .int a2)], [.int (b01 false)], (Q, hpR (sI s 0 0)))) rfl ?_
      exact h_zret rfl rfl
    · replace h := if_n h2 h
      refine h_n h2 ?_
      refine h_it 3 (x' := (23, [(0, .ref 85), (1, .int a1), (2, .int a2)], [.int 64, .int (gI s 8)], (Q, hpR (sI s 0 0)))) rfl ?_
      refine h_br (b := decide ((gI s 8) = 64)) (t := 35) (f := 26) (lv' := [(0, .ref 85), (1, .int a1), (2, .int a2)]) (st' := []) rfl rfl ?_
      by_cases h3 : (gI s 8) = 64
      · replace h := if_y h3 h
        refine h_y h3 ?_
        replace h := Option.some.inj h; subst h
        refine h_it 1 (x' := (36, [(0, .ref 85), (1, .int a1), (2, .int a2)], [.int (b01 false)], (Q, hpR (sI s 0 0)))) rfl ?_
        exact h_zret rfl rfl
      · replace h := if_n h3 h
        refine h_n h3 ?_
        refine h_it 3 (x' := (32, [(0, .ref 85), (1, .int a1), (2, .int a2)], [.int 32, .int (gI s 9)], (Q, hpR (sI s 0 0)))) rfl ?_
        refine h_br (b := decide (¬ (gI s 9) = 32)) (t := 37) (f := 35) (lv' := [(0, .ref 85), (1, .int a1), (2, .int a2)]) (st' := []) rfl rfl ?_
        by_cases h4 : (gI s 9) = 32
        · replace h := if_y h4 h
          refine h_n (fun z => z h4) ?_
          replace h := Option.some.inj h; subst h
          refine h_it 1 (x' := (36, [(0, .ref 85), (1, .int a1), (2, .int a2)], [.int (b01 false)], (Q, hpR (sI s 0 0)))) rfl ?_
          exact h_zret rfl rfl
        · replace h := if_n h4 h
          refine h_y h4 ?_
          refine h_it 3 (x' := (42, [(3, .int (gI s 8)), (0, .ref 85), (1, .int a1), (2, .int a2)], [], (Q, hpR (sI s 0 0)))) rfl ?_
          refine h_lw (lv := [(0, .ref 85), (1, .int a1), (2, .int a2), (3, .int (gI s 8))]) (fa_c rfl (fa_c rfl (fa_c rfl (fa_c rfl (fa_n))))) rfl ?_
          exact m224_42_ok  1000000 a1 a2 (gI s 8) (sI s 0 0) _ h
end Sm224
section Sm225
variable {V : xmV} {L : List Nat} {Kc Ks : Nat} {Q : List xE}
theorem m225_ok {a1 : Int32} {a2 : Int32} {s : xSt} {q : Bool × xSt} (h : m225 a1 a2 s = some q) : HC V L Kc Ks 225 [.ref 85, .int a1, .int a2] (Q, hpR s) (some (.int (b01 q.1))) (Q, hpR q.2) := by
  unfold m225 at h
  refine hc_of (by decide) rfl ?_
  refine h_it 4 (x' := (6, [(0, .ref 85), (1, .int a1), (2, .int a2)], [.int a1], (Q, hpR (sI s 0 0)))) rfl ?_
  refine h_br (b := decide (a1 < 0)) (t := 26) (f := 9) (lv' := [(0, .ref 85), (1, .int a1), (2, .int a2)]) (st' := []) rfl rfl ?_
  by_cases h1 : a1 < 0
  · replace h := if_y h1 h
    refine h_y h1 ?_
    replace h := Option.some.inj h; subst h
    refine h_it 1 (x' := (27, [(0, .ref 85), (1, .int a1), (2, .int a2)], [.int (b01 false)], (Q, hpR (sI s 0 0)))) rfl ?_
    exact h_zret rfl rfl
  · replace h := if_n h1 h
    refine h_n h1 ?_
    refine h_it 3 (x' := (14, [(0, .ref 85), (1, .int a1), (2, .int a2)], [.int (gI s 8), .int a1], (Q, hpR (sI s 0 0)))) rfl ?_
    refine h_br (b := decide ((gI s 8) ≤ a1)) (t := 26) (f := 17) (lv' := [(0, .ref 85), (1, .int a1), (2, .int a2)]) (st' := []) rfl rfl ?_
    by_cases h2 : (gI s 8) ≤ a1
    · replace h := if_y h2 h
      refine h_y h2 ?_
      replace h := Option.some.inj h; subst h
      refine h_it 1 (x' := (27, [(0, .ref 85), (1, .int a1), (2, .int a2)], [.int (b01 false)], (Q, hpR (sI s 0 0)))) rfl ?_
      exact h_zret rfl rfl
    · replace h := if_n h2 h
      refine h_n h2 ?_
      refine h_it 3 (x' := (23, [(0, .ref 85), (1, .int a1), (2, .int a2)], [.int 32, .int (gI s 9)], (Q, hpR (sI s 0 0)))) rfl ?_
      refine h_br (b := decide (¬ (gI s 9) = 32)) (t := 28) (f := 26) (lv' := [(0, .ref 85), (1, .int a1), (2, .int a2)]) (st' := []) rfl rfl ?_
      by_cases h3 : (gI s 9) = 32
      · replace h := if_y h3 h
        refine h_n (fun z => z h3) ?_
        replace h := Option.some.inj h; subst h
        refine h_it 1 (x' := (27, [(0, .ref 85), (1, .int a1), (2, .int a2)], [.int (b01 false)], (Q, hpR (sI s 0 0)))) rfl ?_
        exact h_zret rfl rfl
      · replace h := if_n h3 h
        refine h_y h3 ?_
        refine h_it 4 (x' := (34, [(0, .ref 85), (1, .int a1), (2, .int a2)], [.int a2, .int a1, .ref 142], (Q, hpR (sI s 0 0)))) rfl ?_
        obtain ⟨u4, hu4, h⟩ := Option.bind_eq_some_iff.mp h
        refine h_iast rfl rfl hu4 ?_
        show HE V L Kc Ks 225 (35, [(0, .ref 85), (1, .int a1), (2, .int a2)], [], (Q, hpR (sR (sI s 0 0) 46 u4))) _ _
        replace h := Option.some.inj h; subst h
        refine h_it 7 (x' := (46, [(0, .ref 85), (1, .int a1), (2, .int a2)], [.int (b01 true)], (Q, hpR (sI (sR (sI s 0 0) 46 u4) 9 ((gI s 9) + 1))))) rfl ?_
        exact h_zret rfl rfl
end Sm225
section Sm227
variable {V : xmV} {L : List Nat} {Kc Ks : Nat} {Q : List xE}
theorem m227_ok {a1 : Int32} {a2 : Int32} {a3 : Int32} {s : xSt} {q : Bool × xSt} (h : m227 a1 a2 a3 s = some q) : HC V L Kc Ks 227 [.ref 85, .int a1, .int a2, .int a3] (Q, hpR s) (some (.int (b01 q.1))) (Q, hpR q.2) := by
  unfold m227 at h
  refine hc_of (by decide) rfl ?_
  refine h_it 2 (x' := (2, [(0, .ref 85), (1, .int a1), (2, .int a2), (3, .int a3)], [.int a3, .int a2], (Q, hpR s))) rfl ?_
  refine h_br (b := decide (a2 < a3)) (t := 40) (f := 5) (lv' := [(0, .ref 85), (1, .int a1), (2, .int a2), (3, .int a3)]) (st' := []) rfl rfl ?_
  by_cases h1 : a2 < a3
  · replace h := if_y h1 h
    refine h_y h1 ?_
    replace h := Option.some.inj h; subst h
    refine h_it 1 (x' := (41, [(0, .ref 85), (1, .int a1), (2, .int a2), (3, .int a3)], [.int (b01 false)], (Q, hpR s))) rfl ?_
    exact h_zret rfl rfl
  · replace h := if_n h1 h
    refine h_n h1 ?_
    refine h_it 1 (x' := (6, [(0, .ref 85), (1, .int a1), (2, .int a2), (3, .int a3)], [.int a1], (Q, hpR s))) rfl ?_
    refine h_br (b := decide (a1 < 0)) (t := 40) (f := 9) (lv' := [(0, .ref 85), (1, .int a1), (2, .int a2), (3, .int a3)]) (st' := []) rfl rfl ?_
    by_cases h2 : a1 < 0
    · replace h := if_y h2 h
      refine h_y h2 ?_
      replace h := Option.some.inj h; subst h
      refine h_it 1 (x' := (41, [(0, .ref 85), (1, .int a1), (2, .int a2), (3, .int a3)], [.int (b01 false)], (Q, hpR s))) rfl ?_
      exact h_zret rfl rfl
    · replace h := if_n h2 h
      refine h_n h2 ?_
      refine h_it 5 (x' := (16, [(0, .ref 85), (1, .int a1), (2, .int a2), (3, .int a3)], [.int ((gI s 8) - a2), .int a1], (Q, hpR s))) rfl ?_
      refine h_br (b := decide (((gI s 8) - a2) < a1)) (t := 40) (f := 19) (lv' := [(0, .ref 85), (1, .int a1), (2, .int a2), (3, .int a3)]) (st' := []) rfl rfl ?_
      by_cases h3 : ((gI s 8) - a2) < a1
      · replace h := if_y h3 h
        refine h_y h3 ?_
        replace h := Option.some.inj h; subst h
        refine h_it 1 (x' := (41, [(0, .ref 85), (1, .int a1), (2, .int a2), (3, .int a3)], [.int (b01 false)], (Q, hpR s))) rfl ?_
        exact h_zret rfl rfl
      · replace h := if_n h3 h
        refine h_n h3 ?_
        refine h_it 3 (x' := (24, [(0, .ref 85), (1, .int a1), (2, .int a2), (3, .int a3)], [.int (gI s 8), .int a2], (Q, hpR s))) rfl ?_
        refine h_br (b := decide ((gI s 8) < a2)) (t := 40) (f := 27) (lv' := [(0, .ref 85), (1, .int a1), (2, .int a2), (3, .int a3)]) (st' := []) rfl rfl ?_
        by_cases h4 : (gI s 8) < a2
        · replace h := if_y h4 h
          refine h_y h4 ?_
          replace h := Option.some.inj h; subst h
          refine h_it 1 (x' := (41, [(0, .ref 85), (1, .int a1), (2, .int a2), (3, .int a3)], [.int (b01 false)], (Q, hpR s))) rfl ?_
          exact h_zret rfl rfl
        · replace h := if_n h4 h
          refine h_n h4 ?_
          refine h_it 3 (x' := (33, [(0, .ref 85), (1, .int a1), (2, .int a2), (3, .int a3)], [.int 32, .int (gI s 9)], (Q, hpR s))) rfl ?_
          refine h_br (b := decide (32 ≤ (gI s 9))) (t := 40) (f := 36) (lv' := [(0, .ref 85), (1, .int a1), (2, .int a2), (3, .int a3)]) (st' := []) rfl rfl ?_
          by_cases h5 : 32 ≤ (gI s 9)
          · replace h := if_y h5 h
            refine h_y h5 ?_
            replace h := Option.some.inj h; subst h
            refine h_it 1 (x' := (41, [(0, .ref 85), (1, .int a1), (2, .int a2), (3, .int a3)], [.int (b01 false)], (Q, hpR s))) rfl ?_
            exact h_zret rfl rfl
          · replace h := if_n h5 h
            refine h_n h5 ?_
            replace h := Option.some.inj h; subst h
            refine h_it 2 (x' := (41, [(0, .ref 85), (1, .int a1), (2, .int a2), (3, .int a3)], [.int (b01 true)], (Q, hpR s))) rfl ?_
            exact h_zret rfl rfl
end Sm227
section Sm226
variable {V : xmV} {L : List Nat} {Kc Ks : Nat} {Q : List xE}
theorem m226_19_ok   : ∀ (n : Nat) (x2 : Int32) (x3 : Int32) (s : xSt) (q : Bool × xSt), m226_19  n x2 x3 s = some q → HE V L Kc Ks 226 (19, [(0, .ref 85), (2, .int x2), (3, .int x3)], [], (Q, hpR s)) (some (.int (b01 q.1))) (Q, hpR q.2) := by
  intro n
  induction n with
  | zero => intro x2 x3 s q h; cases h
  | succ n ih =>
    intro x2 x3 s q h
    unfold m226_19 at h
    refine h_it 5 (x' := (26, [(0, .ref 85), (2, .int x2), (3, .int x3)], [.int (gI s 8), .int (x3 + x2)], (Q, hpR s))) rfl ?_
    refine h_br (b := decide ((gI s 8) ≤ (x3 + x2))) (t := 49) (f := 29) (lv' := [(0, .ref 85), (2, .int x2), (3, .int x3)]) (st' := []) rfl rfl ?_
    by_cases h3 : (gI s 8) ≤ (x3 + x2)
    · replace h := if_y h3 h
      refine h_y h3 ?_
      replace h := Option.some.inj h; subst h
      refine h_it 13 (x' := (70, [(0, .ref 85), (2, .int x2), (3, .int x3)], [.int (b01 true)], (Q, hpR (sI (sI s 8 ((gI s 8) - x2)) 9 ((gI s 9) + 1))))) rfl ?_
      exact h_zret rfl rfl
    · replace h := if_n h3 h
      refine h_n h3 ?_
      refine h_it 8 (x' := (41, [(0, .ref 85), (2, .int x2), (3, .int x3)], [.int (x3 + x2), .ref 142, .int x3, .ref 142], (Q, hpR s))) rfl ?_
      obtain ⟨v4, hv4, h⟩ := Option.bind_eq_some_iff.mp h
      refine h_iald rfl rfl hv4 ?_
      obtain ⟨u5, hu5, h⟩ := Option.bind_eq_some_iff.mp h
      refine h_iast rfl rfl hu5 ?_
      show HE V L Kc Ks 226 (43, [(0, .ref 85), (2, .int x2), (3, .int x3)], [], (Q, hpR (sR s 46 u5))) _ _
      refine h_it 2 (x' := (19, [(3, .int (x3 + 1)), (0, .ref 85), (2, .int x2)], [], (Q, hpR (sR s 46 u5)))) rfl ?_
      refine h_lw (lv := [(0, .ref 85), (2, .int x2), (3, .int (x3 + 1))]) (fa_c rfl (fa_c rfl (fa_c rfl (fa_n)))) rfl ?_
      exact ih x2 (x3 + 1) (sR s 46 u5) _ h
theorem m226_ok {a1 : Int32} {a2 : Int32} {s : xSt} {q : Bool × xSt} (h : m226 a1 a2 s = some q) : HC V L Kc Ks 226 [.ref 85, .int a1, .int a2] (Q, hpR s) (some (.int (b01 q.1))) (Q, hpR q.2) := by
  unfold m226 at h
  refine hc_of (by decide) rfl ?_
  refine h_it 7 (x' := (9, [(0, .ref 85), (1, .int a1), (2, .int a2)], [.int 1, .int a2, .int a1, .ref 85], (Q, hpR (sI s 0 0)))) rfl ?_
  obtain ⟨q1, hq1, h⟩ := Option.bind_eq_some_iff.mp h
  refine h_callO (As := [.int a1, .int a2, .int 1]) (r1 := some (.int (b01 q1.1))) (st := []) (H1 := (Q, hpR q1.2)) rfl rfl rfl rfl rfl rfl (m227_ok hq1) ?_
  refine h_br (b := decide (¬ (b01 q1.1) = 0)) (t := 17) (f := 15) (lv' := [(0, .ref 85), (1, .int a1), (2, .int a2)]) (st' := []) rfl rfl ?_
  by_cases h2 : q1.1 = true
  · replace h := if_y h2 h
    refine h_y (b01_1 h2) ?_
    refine h_it 2 (x' := (19, [(3, .int a1), (0, .ref 85), (1, .int a1), (2, .int a2)], [], (Q, hpR q1.2))) rfl ?_
    refine h_lw (lv := [(0, .ref 85), (2, .int a2), (3, .int a1)]) (fa_c rfl (fa_c rfl (fa_c rfl (fa_n)))) rfl ?_
    exact m226_19_ok  1000000 a2 a1 q1.2 _ h
  · replace h := if_n h2 h
    refine h_n (fun z => z (b01_0 h2)) ?_
    replace h := Option.some.inj h; subst h
    refine h_it 1 (x' := (16, [(0, .ref 85), (1, .int a1), (2, .int a2)], [.int (b01 false)], (Q, hpR q1.2))) rfl ?_
    exact h_zret rfl rfl
end Sm226
section Sm228
variable {V : xmV} {L : List Nat} {Kc Ks : Nat} {Q : List xE}
theorem m228_19_ok   : ∀ (n : Nat) (x1 : Int32) (x2 : Int32) (x3 : Int32) (s : xSt) (q : Bool × xSt), m228_19  n x1 x2 x3 s = some q → HE V L Kc Ks 228 (19, [(0, .ref 85), (1, .int x1), (2, .int x2), (3, .int x3)], [], (Q, hpR s)) (some (.int (b01 q.1))) (Q, hpR q.2) := by
  intro n
  induction n with
  | zero => intro x1 x2 x3 s q h; cases h
  | succ n ih =>
    intro x1 x2 x3 s q h
    unfold m228_19 at h
    refine h_it 3 (x' := (22, [(0, .ref 85), (1, .int x1), (2, .int x2), (3, .int x3)], [.int 2, .int x2, .int x3], (Q, hpR s))) rfl ?_
    refine h_div rfl (by decide) ?_
    refine h_br (b := decide ((x2 / 2) ≤ x3)) (t := 76) (f := 26) (lv' := [(0, .ref 85), (1, .int x1), (2, .int x2), (3, .int x3)]) (st' := []) rfl rfl ?_
    by_cases h4 : (x2 / 2) ≤ x3
    · replace h := if_y h4 h
      refine h_y h4 ?_
      replace h := Option.some.inj h; subst h
      refine h_it 7 (x' := (87, [(0, .ref 85), (1, .int x1), (2, .int x2), (3, .int x3)], [.int (b01 true)], (Q, hpR (sI s 9 ((gI s 9) + 1))))) rfl ?_
      exact h_zret rfl rfl
    · replace h := if_n h4 h
      refine h_n h4 ?_
      refine h_it 5 (x' := (33, [(0, .ref 85), (1, .int x1), (2, .int x2), (3, .int x3)], [.int (x1 + x3), .ref 142], (Q, hpR s))) rfl ?_
      obtain ⟨v5, hv5, h⟩ := Option.bind_eq_some_iff.mp h
      refine h_iald rfl rfl hv5 ?_
      refine h_it 15 (x' := (54, [(4, .int v5), (0, .ref 85), (1, .int x1), (2, .int x2), (3, .int x3)], [.int (((x1 + x2) - 1) - x3), .ref 142, .int (x1 + x3), .ref 142], (Q, hpR s))) rfl ?_
      obtain ⟨v6, hv6, h⟩ := Option.bind_eq_some_iff.mp h
      refine h_iald rfl rfl hv6 ?_
      obtain ⟨u7, hu7, h⟩ := Option.bind_eq_some_iff.mp h
      refine h_iast rfl rfl hu7 ?_
      show HE V L Kc Ks 228 (56, [(4, .int v5), (0, .ref 85), (1, .int x1), (2, .int x2), (3, .int x3)], [], (Q, hpR (sR s 46 u7))) _ _
      refine h_it 10 (x' := (69, [(4, .int v5), (0, .ref 85), (1, .int x1), (2, .int x2), (3, .int x3)], [.int v5, .int (((x1 + x2) - 1) - x3), .ref 142], (Q, hpR (sR s 46 u7)))) rfl ?_
      obtain ⟨u8, hu8, h⟩ := Option.bind_eq_some_iff.mp h
      refine h_iast rfl rfl hu8 ?_
      show HE V L Kc Ks 228 (70, [(4, .int v5), (0, .ref 85), (1, .int x1), (2, .int x2), (3, .int x3)], [], (Q, hpR (sR s 46 u8))) _ _
      refine h_it 2 (x' := (19, [(3, .int (x3 + 1)), (4, .int v5), (0, .ref 85), (1, .int x1), (2, .int x2)], [], (Q, hpR (sR s 46 u8)))) rfl ?_
      refine h_lw (lv := [(0, .ref 85), (1, .int x1), (2, .int x2), (3, .int (x3 + 1))]) (fa_c rfl (fa_c rfl (fa_c rfl (fa_c rfl (fa_n))))) rfl ?_
      exact ih x1 x2 (x3 + 1) (sR s 46 u8) _ h
theorem m228_ok {a1 : Int32} {a2 : Int32} {s : xSt} {q : Bool × xSt} (h : m228 a1 a2 s = some q) : HC V L Kc Ks 228 [.ref 85, .int a1, .int a2] (Q, hpR s) (some (.int (b01 q.1))) (Q, hpR q.2) := by
  unfold m228 at h
  refine hc_of (by decide) rfl ?_
  refine h_it 7 (x' := (9, [(0, .ref 85), (1, .int a1), (2, .int a2)], [.int 2, .int a2, .int a1, .ref 85], (Q, hpR (sI s 0 0)))) rfl ?_
  obtain ⟨q1, hq1, h⟩ := Option.bind_eq_some_iff.mp h
  refine h_callO (As := [.int a1, .int a2, .int 2]) (r1 := some (.int (b01 q1.1))) (st := []) (H1 := (Q, hpR q1.2)) rfl rfl rfl rfl rfl rfl (m227_ok hq1) ?_
  refine h_br (b := decide (¬ (b01 q1.1) = 0)) (t := 17) (f := 15) (lv' := [(0, .ref 85), (1, .int a1), (2, .int a2)]) (st' := []) rfl rfl ?_
  by_cases h2 : q1.1 = true
  · replace h := if_y h2 h
    refine h_y (b01_1 h2) ?_
    refine h_it 2 (x' := (19, [(3, .int 0), (0, .ref 85), (1, .int a1), (2, .int a2)], [], (Q, hpR q1.2))) rfl ?_
    refine h_lw (lv := [(0, .ref 85), (1, .int a1), (2, .int a2), (3, .int 0)]) (fa_c rfl (fa_c rfl (fa_c rfl (fa_c rfl (fa_n))))) rfl ?_
    exact m228_19_ok  1000000 a1 a2 0 q1.2 _ h
  · replace h := if_n h2 h
    refine h_n (fun z => z (b01_0 h2)) ?_
    replace h := Option.some.inj h; subst h
    refine h_it 1 (x' := (16, [(0, .ref 85), (1, .int a1), (2, .int a2)], [.int (b01 false)], (Q, hpR q1.2))) rfl ?_
    exact h_zret rfl rfl
end Sm228
section Sm230
variable {V : xmV} {L : List Nat} {Kc Ks : Nat} {Q : List xE}
theorem m230_10_ok   : ∀ (n : Nat) (x1 : Int32) (s : xSt) (q : xSt), m230_10  n x1 s = some q → HE V L Kc Ks 230 (10, [(0, .ref 85), (1, .int x1)], [], (Q, hpR s)) (none) (Q, hpR q) := by
  intro n
  induction n with
  | zero => intro x1 s q h; cases h
  | succ n ih =>
    intro x1 s q h
    unfold m230_10 at h
    refine h_it 3 (x' := (15, [(0, .ref 85), (1, .int x1)], [.int (gI s 8), .int x1], (Q, hpR s))) rfl ?_
    refine h_br (b := decide ((gI s 8) ≤ x1)) (t := 36) (f := 18) (lv' := [(0, .ref 85), (1, .int x1)]) (st' := []) rfl rfl ?_
    by_cases h1 : (gI s 8) ≤ x1
    · replace h := if_y h1 h
      refine h_y h1 ?_
      replace h := Option.some.inj h; subst h
      refine h_it 3 (x' := (41, [(0, .ref 85), (1, .int x1)], [], (Q, hpR (sI s 9 0)))) rfl ?_
      exact h_vret rfl rfl
    · replace h := if_n h1 h
      refine h_n h1 ?_
      refine h_it 6 (x' := (28, [(0, .ref 85), (1, .int x1)], [.int x1, .ref 142, .int x1, .ref 141], (Q, hpR s))) rfl ?_
      obtain ⟨v2, hv2, h⟩ := Option.bind_eq_some_iff.mp h
      refine h_iald rfl rfl hv2 ?_
      obtain ⟨u3, hu3, h⟩ := Option.bind_eq_some_iff.mp h
      refine h_iast rfl rfl hu3 ?_
      show HE V L Kc Ks 230 (30, [(0, .ref 85), (1, .int x1)], [], (Q, hpR (sR s 45 u3))) _ _
      refine h_it 2 (x' := (10, [(1, .int (x1 + 1)), (0, .ref 85)], [], (Q, hpR (sR s 45 u3)))) rfl ?_
      refine h_lw (lv := [(0, .ref 85), (1, .int (x1 + 1))]) (fa_c rfl (fa_c rfl (fa_n))) rfl ?_
      exact ih (x1 + 1) (sR s 45 u3) _ h
theorem m230_ok  {s : xSt} {q : xSt} (h : m230  s = some q) : HC V L Kc Ks 230 [.ref 85] (Q, hpR s) (none) (Q, hpR q) := by
  unfold m230 at h
  refine hc_of (by decide) rfl ?_
  refine h_it 6 (x' := (10, [(1, .int 0), (0, .ref 85)], [], (Q, hpR (sI s 7 (gI s 8))))) rfl ?_
  refine h_lw (lv := [(0, .ref 85), (1, .int 0)]) (fa_c rfl (fa_c rfl (fa_n))) rfl ?_
  exact m230_10_ok  1000000 0 (sI s 7 (gI s 8)) _ h
end Sm230
section Sm229
variable {V : xmV} {L : List Nat} {Kc Ks : Nat} {Q : List xE}
theorem m229_ok  {s : xSt} {q : Int32 × xSt} (h : m229  s = some q) : HC V L Kc Ks 229 [.ref 85] (Q, hpR s) (some (.int q.1)) (Q, hpR q.2) := by
  unfold m229 at h
  refine hc_of (by decide) rfl ?_
  refine h_it 5 (x' := (9, [(0, .ref 85)], [.int (b01 (gZ s 0))], (Q, hpR (sI s 0 0)))) rfl ?_
  refine h_br (b := decide (¬ (b01 (gZ s 0)) = 0)) (t := 18) (f := 12) (lv' := [(0, .ref 85)]) (st' := []) rfl rfl ?_
  by_cases h1 : (gZ s 0) = true
  · replace h := if_y h1 h
    refine h_y (b01_1 h1) ?_
    refine h_it 4 (x' := (24, [(0, .ref 85)], [.int (b01 true), .int (gI s 8), .ref 85], (Q, hpR (sI s 0 0)))) rfl ?_
    obtain ⟨q2, hq2, h⟩ := Option.bind_eq_some_iff.mp h
    refine h_callO (As := [.int (gI s 8), .int (b01 true)]) (r1 := some (.int (b01 q2.1))) (st := []) (H1 := (Q, hpR q2.2)) rfl rfl rfl rfl rfl rfl (m211_ok hq2) ?_
    refine h_br (b := decide (¬ (b01 q2.1) = 0)) (t := 33) (f := 30) (lv' := [(0, .ref 85)]) (st' := []) rfl rfl ?_
    by_cases h3 : q2.1 = true
    · replace h := if_y h3 h
      refine h_y (b01_1 h3) ?_
      refine h_it 1 (x' := (34, [(0, .ref 85)], [.ref 85], (Q, hpR q2.2))) rfl ?_
      obtain ⟨q4, hq4, h⟩ := Option.bind_eq_some_iff.mp h
      refine h_callO (As := []) (r1 := none) (st := []) (H1 := (Q, hpR q4)) rfl rfl rfl rfl rfl rfl (m230_ok hq4) ?_
      refine h_it 1 (x' := (38, [(0, .ref 85)], [.ref 85], (Q, hpR q4))) rfl ?_
      obtain ⟨q5, hq5, h⟩ := Option.bind_eq_some_iff.mp h
      refine h_callO (As := []) (r1 := none) (st := []) (H1 := (Q, hpR q5)) rfl rfl rfl rfl rfl rfl (m223_ok hq5) ?_
      replace h := Option.some.inj h; subst h
      refine h_it 8 (x' := (55, [(0, .ref 85)], [.int (gI q5 10)], (Q, hpR (sI q5 4 ((gI q5 4) + 1))))) rfl ?_
      exact h_iret rfl rfl
    · replace h := if_n h3 h
      refine h_n (fun z => z (b01_0 h3)) ?_
      replace h := Option.some.inj h; subst h
      refine h_it 1 (x' := (32, [(0, .ref 85)], [.int (-7)], (Q, hpR q2.2))) rfl ?_
      exact h_iret rfl rfl
  · replace h := if_n h1 h
    refine h_n (fun z => z (b01_0 h1)) ?_
    refine h_it 1 (x' := (13, [(0, .ref 85)], [.ref 85], (Q, hpR (sI s 0 0)))) rfl ?_
    obtain ⟨q6, hq6, h⟩ := Option.bind_eq_some_iff.mp h
    refine h_callO (As := []) (r1 := none) (st := []) (H1 := (Q, hpR q6)) rfl rfl rfl rfl rfl rfl (m230_ok hq6) ?_
    replace h := Option.some.inj h; subst h
    refine h_it 1 (x' := (17, [(0, .ref 85)], [.int (-1)], (Q, hpR q6))) rfl ?_
    exact h_iret rfl rfl
end Sm229
section Sm231
variable {V : xmV} {L : List Nat} {Kc Ks : Nat} {Q : List xE}
theorem m231_25_ok   {x1 : Int32} {y0 : Bool} {s : xSt} {q : Int32 × xSt} (h : m231_25  x1 y0 s = some q) : HE V L Kc Ks 231 (25, [(0, .ref 85), (1, .int x1)], [.int (b01 y0), .ref 85], (Q, hpR s)) (some (.int q.1)) (Q, hpR q.2) := by
  unfold m231_25 at h
  refine h_it 3 (x' := (32, [(0, .ref 85), (1, .int x1)], [.int (b01 y0)], (Q, hpR (sI s 0 (b01 y0))))) rfl ?_
  refine h_br (b := decide ((b01 y0) ≤ 0)) (t := 39) (f := 35) (lv' := [(0, .ref 85), (1, .int x1)]) (st' := []) rfl rfl ?_
  by_cases h3 : (b01 y0) ≤ 0
  · replace h := if_y h3 h
    refine h_y h3 ?_
    refine h_it 3 (x' := (44, [(0, .ref 85), (1, .int x1)], [.int x1, .ref 143], (Q, hpR (sI s 0 (b01 y0))))) rfl ?_
    obtain ⟨v4, hv4, h⟩ := Option.bind_eq_some_iff.mp h
    refine h_iald rfl rfl hv4 ?_
    replace h := Option.some.inj h; subst h
    exact h_iret rfl rfl
  · replace h := if_n h3 h
    refine h_n h3 ?_
    replace h := Option.some.inj h; subst h
    refine h_it 2 (x' := (45, [(0, .ref 85), (1, .int x1)], [.int 0], (Q, hpR (sI s 0 (b01 y0))))) rfl ?_
    exact h_iret rfl rfl
theorem m231_24_ok   {x1 : Int32} {s : xSt} {q : Int32 × xSt} (h : m231_24  x1 s = some q) : HE V L Kc Ks 231 (24, [(0, .ref 85), (1, .int x1)], [.ref 85], (Q, hpR s)) (some (.int q.1)) (Q, hpR q.2) := by
  unfold m231_24 at h
  refine h_it 1 (x' := (25, [(0, .ref 85), (1, .int x1)], [.int 1, .ref 85], (Q, hpR s))) rfl ?_
  refine h_lw (lv := [(0, .ref 85), (1, .int x1)]) (fa_c rfl (fa_c rfl (fa_n))) rfl ?_
  exact m231_25_ok  h
theorem m231_ok {a1 : Int32} {s : xSt} {q : Int32 × xSt} (h : m231 a1 s = some q) : HC V L Kc Ks 231 [.ref 85, .int a1] (Q, hpR s) (some (.int q.1)) (Q, hpR q.2) := by
  unfold m231 at h
  refine hc_of (by decide) rfl ?_
  refine h_it 3 (x' := (5, [(0, .ref 85), (1, .int a1)], [.int (b01 (gZ s 0)), .ref 85], (Q, hpR s))) rfl ?_
  refine h_br (b := decide ((b01 (gZ s 0)) = 0)) (t := 24) (f := 8) (lv' := [(0, .ref 85), (1, .int a1)]) (st' := [.ref 85]) rfl rfl ?_
  by_cases h1 : (gZ s 0) = true
  · replace h := if_y h1 h
    refine h_n (b01_1 h1) ?_
    refine h_it 1 (x' := (9, [(0, .ref 85), (1, .int a1)], [.int a1, .ref 85], (Q, hpR s))) rfl ?_
    refine h_br (b := decide (a1 < 0)) (t := 24) (f := 12) (lv' := [(0, .ref 85), (1, .int a1)]) (st' := [.ref 85]) rfl rfl ?_
    by_cases h2 : a1 < 0
    · replace h := if_y h2 h
      refine h_y h2 ?_
      refine h_lw (lv := [(0, .ref 85), (1, .int a1)]) (fa_c rfl (fa_c rfl (fa_n))) rfl ?_
      exact m231_24_ok  h
    · replace h := if_n h2 h
      refine h_n h2 ?_
      refine h_it 3 (x' := (17, [(0, .ref 85), (1, .int a1)], [.int (gI s 10), .int a1, .ref 85], (Q, hpR s))) rfl ?_
      refine h_br (b := decide ((gI s 10) ≤ a1)) (t := 24) (f := 20) (lv' := [(0, .ref 85), (1, .int a1)]) (st' := [.ref 85]) rfl rfl ?_
      by_cases h5 : (gI s 10) ≤ a1
      · replace h := if_y h5 h
        refine h_y h5 ?_
        refine h_lw (lv := [(0, .ref 85), (1, .int a1)]) (fa_c rfl (fa_c rfl (fa_n))) rfl ?_
        exact m231_24_ok  h
      · replace h := if_n h5 h
        refine h_n h5 ?_
        refine h_it 2 (x' := (25, [(0, .ref 85), (1, .int a1)], [.int 0, .ref 85], (Q, hpR s))) rfl ?_
        refine h_lw (lv := [(0, .ref 85), (1, .int a1)]) (fa_c rfl (fa_c rfl (fa_n))) rfl ?_
        exact m231_25_ok  h
  · replace h := if_n h1 h
    refine h_y (b01_0 h1) ?_
    refine h_lw (lv := [(0, .ref 85), (1, .int a1)]) (fa_c rfl (fa_c rfl (fa_n))) rfl ?_
    exact m231_24_ok  h
end Sm231
