section Sm209
variable {V : xmV} {L : List Nat} {Kc Ks : Nat} {Q : List xE}
theorem m209_97_ok   : ∀ (n : Nat) (x1 : Int32) (s : xSt) (q : xSt), m209_97  n x1 s = some q → HE V L Kc Ks 209 (97, [(0, .ref 85), (1, .int x1)], [], (Q, hpR s)) (none) (Q, hpR q) := by
  intro n
  induction n with
  | zero => intro x1 s q h; cases h
  | succ n ih =>
    intro x1 s q h
    unfold m209_97 at h
    refine h_it 2 (x' := (100, [(0, .ref 85), (1, .int x1)], [.int 64, .int x1], (Q, hpR s))) rfl ?_
    refine h_br (b := decide (64 ≤ x1)) (t := 121) (f := 103) (lv' := [(0, .ref 85), (1, .int x1)]) (st' := []) rfl rfl ?_
    by_cases h2 : 64 ≤ x1
    · replace h := if_y h2 h
      refine h_y h2 ?_
      replace h := Option.some.inj h; subst h
      exact h_vret rfl rfl
    · replace h := if_n h2 h
      refine h_n h2 ?_
      refine h_it 6 (x' := (113, [(0, .ref 85), (1, .int x1)], [.int x1, .ref 133, .int x1, .ref 140], (Q, hpR s))) rfl ?_
      obtain ⟨v3, hv3, h⟩ := Option.bind_eq_some_iff.mp h
      refine h_iald rfl rfl hv3 ?_
      obtain ⟨u4, hu4, h⟩ := Option.bind_eq_some_iff.mp h
      refine h_iast rfl rfl hu4 ?_
      show HE V L Kc Ks 209 (115, [(0, .ref 85), (1, .int x1)], [], (Q, hpR (sR s 44 u4))) _ _
      refine h_it 2 (x' := (97, [(1, .int (x1 + 1)), (0, .ref 85)], [], (Q, hpR (sR s 44 u4)))) rfl ?_
      refine h_lw (lv := [(0, .ref 85), (1, .int (x1 + 1))]) (fa_c rfl (fa_c rfl (fa_n))) rfl ?_
      exact ih (x1 + 1) (sR s 44 u4) _ h
theorem m209_10_ok   : ∀ (n : Nat) (x1 : Int32) (s : xSt) (q : xSt), m209_10  n x1 s = some q → HE V L Kc Ks 209 (10, [(0, .ref 85), (1, .int x1)], [], (Q, hpR s)) (none) (Q, hpR q) := by
  intro n
  induction n with
  | zero => intro x1 s q h; cases h
  | succ n ih =>
    intro x1 s q h
    unfold m209_10 at h
    refine h_it 2 (x' := (14, [(0, .ref 85), (1, .int x1)], [.int 4200, .int x1], (Q, hpR s))) rfl ?_
    refine h_br (b := decide (4200 ≤ x1)) (t := 95) (f := 17) (lv' := [(0, .ref 85), (1, .int x1)]) (st' := []) rfl rfl ?_
    by_cases h1 : 4200 ≤ x1
    · replace h := if_y h1 h
      refine h_y h1 ?_
      refine h_it 2 (x' := (97, [(1, .int 0), (0, .ref 85)], [], (Q, hpR s))) rfl ?_
      refine h_lw (lv := [(0, .ref 85), (1, .int 0)]) (fa_c rfl (fa_c rfl (fa_n))) rfl ?_
      exact m209_97_ok  1000000 0 s _ h
    · replace h := if_n h1 h
      refine h_n h1 ?_
      refine h_it 6 (x' := (27, [(0, .ref 85), (1, .int x1)], [.int x1, .ref 127, .int x1, .ref 134], (Q, hpR s))) rfl ?_
      obtain ⟨v5, hv5, h⟩ := Option.bind_eq_some_iff.mp h
      refine h_iald rfl rfl hv5 ?_
      obtain ⟨u6, hu6, h⟩ := Option.bind_eq_some_iff.mp h
      refine h_iast rfl rfl hu6 ?_
      show HE V L Kc Ks 209 (29, [(0, .ref 85), (1, .int x1)], [], (Q, hpR (sR s 38 u6))) _ _
      refine h_it 6 (x' := (39, [(0, .ref 85), (1, .int x1)], [.int x1, .ref 128, .int x1, .ref 135], (Q, hpR (sR s 38 u6)))) rfl ?_
      obtain ⟨v7, hv7, h⟩ := Option.bind_eq_some_iff.mp h
      refine h_iald rfl rfl hv7 ?_
      obtain ⟨u8, hu8, h⟩ := Option.bind_eq_some_iff.mp h
      refine h_iast rfl rfl hu8 ?_
      show HE V L Kc Ks 209 (41, [(0, .ref 85), (1, .int x1)], [], (Q, hpR (sR (sR s 38 u6) 39 u8))) _ _
      refine h_it 6 (x' := (51, [(0, .ref 85), (1, .int x1)], [.int x1, .ref 129, .int x1, .ref 136], (Q, hpR (sR (sR s 38 u6) 39 u8)))) rfl ?_
      obtain ⟨v9, hv9, h⟩ := Option.bind_eq_some_iff.mp h
      refine h_iald rfl rfl hv9 ?_
      obtain ⟨u10, hu10, h⟩ := Option.bind_eq_some_iff.mp h
      refine h_iast rfl rfl hu10 ?_
      show HE V L Kc Ks 209 (53, [(0, .ref 85), (1, .int x1)], [], (Q, hpR (sR (sR (sR s 38 u6) 39 u8) 40 u10))) _ _
      refine h_it 6 (x' := (63, [(0, .ref 85), (1, .int x1)], [.int x1, .ref 130, .int x1, .ref 137], (Q, hpR (sR (sR (sR s 38 u6) 39 u8) 40 u10)))) rfl ?_
      obtain ⟨v11, hv11, h⟩ := Option.bind_eq_some_iff.mp h
      refine h_iald rfl rfl hv11 ?_
      obtain ⟨u12, hu12, h⟩ := Option.bind_eq_some_iff.mp h
      refine h_iast rfl rfl hu12 ?_
      show HE V L Kc Ks 209 (65, [(0, .ref 85), (1, .int x1)], [], (Q, hpR (sR (sR (sR (sR s 38 u6) 39 u8) 40 u10) 41 u12))) _ _
      refine h_it 6 (x' := (75, [(0, .ref 85), (1, .int x1)], [.int x1, .ref 131, .int x1, .ref 138], (Q, hpR (sR (sR (sR (sR s 38 u6) 39 u8) 40 u10) 41 u12)))) rfl ?_
      obtain ⟨v13, hv13, h⟩ := Option.bind_eq_some_iff.mp h
      refine h_iald rfl rfl hv13 ?_
      obtain ⟨u14, hu14, h⟩ := Option.bind_eq_some_iff.mp h
      refine h_iast rfl rfl hu14 ?_
      show HE V L Kc Ks 209 (77, [(0, .ref 85), (1, .int x1)], [], (Q, hpR (sR (sR (sR (sR (sR s 38 u6) 39 u8) 40 u10) 41 u12) 42 u14))) _ _
      refine h_it 6 (x' := (87, [(0, .ref 85), (1, .int x1)], [.int x1, .ref 132, .int x1, .ref 139], (Q, hpR (sR (sR (sR (sR (sR s 38 u6) 39 u8) 40 u10) 41 u12) 42 u14)))) rfl ?_
      obtain ⟨v15, hv15, h⟩ := Option.bind_eq_some_iff.mp h
      refine h_iald rfl rfl hv15 ?_
      obtain ⟨u16, hu16, h⟩ := Option.bind_eq_some_iff.mp h
      refine h_iast rfl rfl hu16 ?_
      show HE V L Kc Ks 209 (89, [(0, .ref 85), (1, .int x1)], [], (Q, hpR (sR (sR (sR (sR (sR (sR s 38 u6) 39 u8) 40 u10) 41 u12) 42 u14) 43 u16))) _ _
      refine h_it 2 (x' := (10, [(1, .int (x1 + 1)), (0, .ref 85)], [], (Q, hpR (sR (sR (sR (sR (sR (sR s 38 u6) 39 u8) 40 u10) 41 u12) 42 u14) 43 u16)))) rfl ?_
      refine h_lw (lv := [(0, .ref 85), (1, .int (x1 + 1))]) (fa_c rfl (fa_c rfl (fa_n))) rfl ?_
      exact ih (x1 + 1) (sR (sR (sR (sR (sR (sR s 38 u6) 39 u8) 40 u10) 41 u12) 42 u14) 43 u16) _ h
theorem m209_ok  {s : xSt} {q : xSt} (h : m209  s = some q) : HC V L Kc Ks 209 [.ref 85] (Q, hpR s) (none) (Q, hpR q) := by
  unfold m209 at h
  refine hc_of (by decide) rfl ?_
  refine h_it 6 (x' := (10, [(1, .int 0), (0, .ref 85)], [], (Q, hpR (sI s 6 (gI s 5))))) rfl ?_
  refine h_lw (lv := [(0, .ref 85), (1, .int 0)]) (fa_c rfl (fa_c rfl (fa_n))) rfl ?_
  exact m209_10_ok  1000000 0 (sI s 6 (gI s 5)) _ h
end Sm209
section Sm210
variable {V : xmV} {L : List Nat} {Kc Ks : Nat} {Q : List xE}
theorem m210_268_ok {K52 : Int32 → xSt → Option (xSt)} (hK52 : ∀ (x1 : Int32) (s : xSt) (q : xSt), K52 x1 s = some q → HE V L Kc Ks 210 (52, [(0, .ref 85), (1, .int x1)], [], (Q, hpR s)) (none) (Q, hpR q)) {x1 : Int32} {y0 : Int32} {y1 : Int32} {s : xSt} {q : xSt} (h : m210_268 K52 x1 y0 y1 s = some q) : HE V L Kc Ks 210 (268, [(0, .ref 85), (1, .int x1)], [.int y0, .int y1, .ref 131], (Q, hpR s)) (none) (Q, hpR q) := by
  unfold m210_268 at h
  obtain ⟨u22, hu22, h⟩ := Option.bind_eq_some_iff.mp h
  refine h_iast rfl rfl hu22 ?_
  show HE V L Kc Ks 210 (269, [(0, .ref 85), (1, .int x1)], [], (Q, hpR (sR s 35 u22))) _ _
  refine h_it 2 (x' := (52, [(1, .int (x1 + (-1))), (0, .ref 85)], [], (Q, hpR (sR s 35 u22)))) rfl ?_
  refine h_lw (lv := [(0, .ref 85), (1, .int (x1 + (-1)))]) (fa_c rfl (fa_c rfl (fa_n))) rfl ?_
  exact hK52 (x1 + (-1)) (sR s 35 u22) _ h
theorem m210_267_ok {K52 : Int32 → xSt → Option (xSt)} (hK52 : ∀ (x1 : Int32) (s : xSt) (q : xSt), K52 x1 s = some q → HE V L Kc Ks 210 (52, [(0, .ref 85), (1, .int x1)], [], (Q, hpR s)) (none) (Q, hpR q)) {x1 : Int32} {y0 : Bool} {y1 : Int32} {y2 : Int32} {s : xSt} {q : xSt} (h : m210_267 K52 x1 y0 y1 y2 s = some q) : HE V L Kc Ks 210 (267, [(0, .ref 85), (1, .int x1)], [.int (b01 y0), .int y1, .int y2, .ref 131], (Q, hpR s)) (none) (Q, hpR q) := by
  unfold m210_267 at h
  refine h_it 1 (x' := (268, [(0, .ref 85), (1, .int x1)], [.int (y1 + (b01 y0)), .int y2, .ref 131], (Q, hpR s))) rfl ?_
  refine h_lw (lv := [(0, .ref 85), (1, .int x1)]) (fa_c rfl (fa_c rfl (fa_n))) rfl ?_
  exact m210_268_ok hK52 h
theorem m210_180_ok {K52 : Int32 → xSt → Option (xSt)} (hK52 : ∀ (x1 : Int32) (s : xSt) (q : xSt), K52 x1 s = some q → HE V L Kc Ks 210 (52, [(0, .ref 85), (1, .int x1)], [], (Q, hpR s)) (none) (Q, hpR q)) {x1 : Int32} {s : xSt} {q : xSt} (h : m210_180 K52 x1 s = some q) : HE V L Kc Ks 210 (180, [(0, .ref 85), (1, .int x1)], [], (Q, hpR s)) (none) (Q, hpR q) := by
  unfold m210_180 at h
  refine h_it 7 (x' := (193, [(0, .ref 85), (1, .int x1)], [.int x1, .ref 102, .int x1, .ref 131], (Q, hpR s))) rfl ?_
  obtain ⟨v12, hv12, h⟩ := Option.bind_eq_some_iff.mp h
  refine h_iald rfl rfl hv12 ?_
  obtain ⟨u13, hu13, h⟩ := Option.bind_eq_some_iff.mp h
  refine h_iast rfl rfl hu13 ?_
  show HE V L Kc Ks 210 (195, [(0, .ref 85), (1, .int x1)], [], (Q, hpR (sR s 35 u13))) _ _
  refine h_it 3 (x' := (200, [(0, .ref 85), (1, .int x1)], [.int x1, .ref 127], (Q, hpR (sR s 35 u13)))) rfl ?_
  obtain ⟨v14, hv14, h⟩ := Option.bind_eq_some_iff.mp h
  refine h_iald rfl rfl hv14 ?_
  refine h_it 1 (x' := (202, [(0, .ref 85), (1, .int x1)], [.int 1, .int v14], (Q, hpR (sR s 35 u13)))) rfl ?_
  refine h_br (b := decide (¬ v14 = 1)) (t := 269) (f := 205) (lv' := [(0, .ref 85), (1, .int x1)]) (st' := []) rfl rfl ?_
  by_cases h15 : v14 = 1
  · replace h := if_y h15 h
    refine h_n (fun z => z h15) ?_
    refine h_it 4 (x' := (213, [(0, .ref 85), (1, .int x1)], [.int x1, .ref 125], (Q, hpR (sR s 35 u13)))) rfl ?_
    obtain ⟨v16, hv16, h⟩ := Option.bind_eq_some_iff.mp h
    refine h_iald rfl rfl hv16 ?_
    refine h_it 5 (x' := (221, [(3, .int v16), (0, .ref 85), (1, .int x1)], [.int v16, .int x1, .ref 131], (Q, hpR (sR s 35 u13)))) rfl ?_
    refine h_br (b := decide (0 ≤ v16)) (t := 231) (f := 224) (lv' := [(3, .int v16), (0, .ref 85), (1, .int x1)]) (st' := [.int x1, .ref 131]) rfl rfl ?_
    by_cases h17 : 0 ≤ v16
    · replace h := if_y h17 h
      refine h_y h17 ?_
      refine h_it 4 (x' := (239, [(3, .int v16), (0, .ref 85), (1, .int x1)], [.int v16, .ref 102, .int x1, .ref 131], (Q, hpR (sR s 35 u13)))) rfl ?_
      obtain ⟨v18, hv18, h⟩ := Option.bind_eq_some_iff.mp h
      refine h_iald rfl rfl hv18 ?_
      refine h_it 4 (x' := (248, [(3, .int v16), (0, .ref 85), (1, .int x1)], [.int v16, .ref 104, .int v18, .int x1, .ref 131], (Q, hpR (sR s 35 u13)))) rfl ?_
      obtain ⟨v19, hv19, h⟩ := Option.bind_eq_some_iff.mp h
      refine h_lald rfl rfl hv19 ?_
      refine h_it 4 (x' := (257, [(3, .int v16), (0, .ref 85), (1, .int x1)], [.int x1, .ref 104, .long v19, .int v18, .int x1, .ref 131], (Q, hpR (sR s 35 u13)))) rfl ?_
      obtain ⟨v20, hv20, h⟩ := Option.bind_eq_some_iff.mp h
      refine h_lald rfl rfl hv20 ?_
      refine h_it 1 (x' := (259, [(3, .int v16), (0, .ref 85), (1, .int x1)], [.int (lg_cmp v19 v20), .int v18, .int x1, .ref 131], (Q, hpR (sR s 35 u13)))) rfl ?_
      refine h_br (b := decide (¬ (lg_cmp v19 v20) = 0)) (t := 266) (f := 262) (lv' := [(3, .int v16), (0, .ref 85), (1, .int x1)]) (st' := [.int v18, .int x1, .ref 131]) rfl rfl ?_
      by_cases h21 : (lg_cmp v19 v20) = 0
      · replace h := if_y h21 h
        refine h_n (fun z => z h21) ?_
        refine h_it 2 (x' := (267, [(3, .int v16), (0, .ref 85), (1, .int x1)], [.int 0, .int v18, .int x1, .ref 131], (Q, hpR (sR s 35 u13)))) rfl ?_
        refine h_lw (lv := [(0, .ref 85), (1, .int x1)]) (fa_c rfl (fa_c rfl (fa_n))) rfl ?_
        exact m210_267_ok hK52 h
      · replace h := if_n h21 h
        refine h_y h21 ?_
        refine h_it 1 (x' := (267, [(3, .int v16), (0, .ref 85), (1, .int x1)], [.int 1, .int v18, .int x1, .ref 131], (Q, hpR (sR s 35 u13)))) rfl ?_
        refine h_lw (lv := [(0, .ref 85), (1, .int x1)]) (fa_c rfl (fa_c rfl (fa_n))) rfl ?_
        exact m210_267_ok hK52 h
    · replace h := if_n h17 h
      refine h_n h17 ?_
      refine h_it 4 (x' := (268, [(3, .int v16), (0, .ref 85), (1, .int x1)], [.int ((-2) - v16), .int x1, .ref 131], (Q, hpR (sR s 35 u13)))) rfl ?_
      refine h_lw (lv := [(0, .ref 85), (1, .int x1)]) (fa_c rfl (fa_c rfl (fa_n))) rfl ?_
      exact m210_268_ok hK52 h
  · replace h := if_n h15 h
    refine h_y h15 ?_
    refine h_it 2 (x' := (52, [(1, .int (x1 + (-1))), (0, .ref 85)], [], (Q, hpR (sR s 35 u13)))) rfl ?_
    refine h_lw (lv := [(0, .ref 85), (1, .int (x1 + (-1)))]) (fa_c rfl (fa_c rfl (fa_n))) rfl ?_
    exact hK52 (x1 + (-1)) (sR s 35 u13) _ h
theorem m210_119_ok {K52 : Int32 → xSt → Option (xSt)} (hK52 : ∀ (x1 : Int32) (s : xSt) (q : xSt), K52 x1 s = some q → HE V L Kc Ks 210 (52, [(0, .ref 85), (1, .int x1)], [], (Q, hpR s)) (none) (Q, hpR q)) : ∀ (n : Nat) (x1 : Int32) (x2 : Int32) (s : xSt) (q : xSt), m210_119 K52 n x1 x2 s = some q → HE V L Kc Ks 210 (119, [(0, .ref 85), (1, .int x1), (2, .int x2)], [], (Q, hpR s)) (none) (Q, hpR q) := by
  intro n
  induction n with
  | zero => intro x1 x2 s q h; cases h
  | succ n ih =>
    intro x1 x2 s q h
    unfold m210_119 at h
    refine h_it 4 (x' := (127, [(0, .ref 85), (1, .int x1), (2, .int x2)], [.int (gI s 28), .int x2], (Q, hpR s))) rfl ?_
    refine h_br (b := decide ((gI s 28) ≤ x2)) (t := 180) (f := 130) (lv' := [(0, .ref 85), (1, .int x1), (2, .int x2)]) (st' := []) rfl rfl ?_
    by_cases h11 : (gI s 28) ≤ x2
    · replace h := if_y h11 h
      refine h_y h11 ?_
      refine h_lw (lv := [(0, .ref 85), (1, .int x1)]) (fa_c rfl (fa_c rfl (fa_n))) rfl ?_
      exact m210_180_ok hK52 h
    · replace h := if_n h11 h
      refine h_n h11 ?_
      refine h_it 4 (x' := (138, [(0, .ref 85), (1, .int x1), (2, .int x2)], [.int x2, .ref 98], (Q, hpR s))) rfl ?_
      obtain ⟨v23, hv23, h⟩ := Option.bind_eq_some_iff.mp h
      refine h_iald rfl rfl hv23 ?_
      refine h_it 1 (x' := (140, [(0, .ref 85), (1, .int x1), (2, .int x2)], [.int x1, .int v23], (Q, hpR s))) rfl ?_
      refine h_br (b := decide (¬ v23 = x1)) (t := 180) (f := 143) (lv' := [(0, .ref 85), (1, .int x1), (2, .int x2)]) (st' := []) rfl rfl ?_
      by_cases h24 : v23 = x1
      · replace h := if_y h24 h
        refine h_n (fun z => z h24) ?_
        refine h_it 4 (x' := (149, [(0, .ref 85), (1, .int x1), (2, .int x2)], [.int x1, .ref 129, .int x1, .ref 129], (Q, hpR s))) rfl ?_
        obtain ⟨v25, hv25, h⟩ := Option.bind_eq_some_iff.mp h
        refine h_iald rfl rfl hv25 ?_
        refine h_it 2 (x' := (152, [(0, .ref 85), (1, .int x1), (2, .int x2)], [.int (v25 + 1), .int x1, .ref 129], (Q, hpR s))) rfl ?_
        obtain ⟨u26, hu26, h⟩ := Option.bind_eq_some_iff.mp h
        refine h_iast rfl rfl hu26 ?_
        show HE V L Kc Ks 210 (153, [(0, .ref 85), (1, .int x1), (2, .int x2)], [], (Q, hpR (sR s 33 u26))) _ _
        refine h_it 4 (x' := (159, [(0, .ref 85), (1, .int x1), (2, .int x2)], [.int x1, .ref 128, .int x1, .ref 128], (Q, hpR (sR s 33 u26)))) rfl ?_
        obtain ⟨v27, hv27, h⟩ := Option.bind_eq_some_iff.mp h
        refine h_iald rfl rfl hv27 ?_
        refine h_it 3 (x' := (165, [(0, .ref 85), (1, .int x1), (2, .int x2)], [.int x2, .ref 128, .int v27, .int x1, .ref 128], (Q, hpR (sR s 33 u26)))) rfl ?_
        obtain ⟨v28, hv28, h⟩ := Option.bind_eq_some_iff.mp h
        refine h_iald rfl rfl hv28 ?_
        refine h_it 1 (x' := (167, [(0, .ref 85), (1, .int x1), (2, .int x2)], [.int (v27 + v28), .int x1, .ref 128], (Q, hpR (sR s 33 u26)))) rfl ?_
        obtain ⟨u29, hu29, h⟩ := Option.bind_eq_some_iff.mp h
        refine h_iast rfl rfl hu29 ?_
        show HE V L Kc Ks 210 (168, [(0, .ref 85), (1, .int x1), (2, .int x2)], [], (Q, hpR (sR (sR s 33 u26) 32 u29))) _ _
        refine h_it 4 (x' := (174, [(0, .ref 85), (1, .int x1), (2, .int x2)], [.int x2, .ref 128, .int x2], (Q, hpR (sR (sR s 33 u26) 32 u29)))) rfl ?_
        obtain ⟨v30, hv30, h⟩ := Option.bind_eq_some_iff.mp h
        refine h_iald rfl rfl hv30 ?_
        refine h_it 3 (x' := (119, [(2, .int (x2 + v30)), (0, .ref 85), (1, .int x1)], [], (Q, hpR (sR (sR s 33 u26) 32 u29)))) rfl ?_
        refine h_lw (lv := [(0, .ref 85), (1, .int x1), (2, .int (x2 + v30))]) (fa_c rfl (fa_c rfl (fa_c rfl (fa_n)))) rfl ?_
        exact ih x1 (x2 + v30) (sR (sR s 33 u26) 32 u29) _ h
      · replace h := if_n h24 h
        refine h_y h24 ?_
        refine h_lw (lv := [(0, .ref 85), (1, .int x1)]) (fa_c rfl (fa_c rfl (fa_n))) rfl ?_
        exact m210_180_ok hK52 h
theorem m210_52_ok   : ∀ (n : Nat) (x1 : Int32) (s : xSt) (q : xSt), m210_52  n x1 s = some q → HE V L Kc Ks 210 (52, [(0, .ref 85), (1, .int x1)], [], (Q, hpR s)) (none) (Q, hpR q) := by
  intro n
  induction n with
  | zero => intro x1 s q h; cases h
  | succ n ih =>
    intro x1 s q h
    unfold m210_52 at h
    refine h_it 1 (x' := (53, [(0, .ref 85), (1, .int x1)], [.int x1], (Q, hpR s))) rfl ?_
    refine h_br (b := decide (x1 < 0)) (t := 275) (f := 56) (lv' := [(0, .ref 85), (1, .int x1)]) (st' := []) rfl rfl ?_
    by_cases h2 : x1 < 0
    · replace h := if_y h2 h
      refine h_y h2 ?_
      replace h := Option.some.inj h; subst h
      exact h_vret rfl rfl
    · replace h := if_n h2 h
      refine h_n h2 ?_
      refine h_it 7 (x' := (69, [(0, .ref 85), (1, .int x1)], [.int x1, .ref 97, .int x1, .ref 127], (Q, hpR s))) rfl ?_
      obtain ⟨v3, hv3, h⟩ := Option.bind_eq_some_iff.mp h
      refine h_iald rfl rfl hv3 ?_
      obtain ⟨u4, hu4, h⟩ := Option.bind_eq_some_iff.mp h
      refine h_iast rfl rfl hu4 ?_
      show HE V L Kc Ks 210 (71, [(0, .ref 85), (1, .int x1)], [], (Q, hpR (sR s 31 u4))) _ _
      refine h_it 7 (x' := (84, [(0, .ref 85), (1, .int x1)], [.int x1, .ref 103, .int x1, .ref 130], (Q, hpR (sR s 31 u4)))) rfl ?_
      obtain ⟨v5, hv5, h⟩ := Option.bind_eq_some_iff.mp h
      refine h_iald rfl rfl hv5 ?_
      obtain ⟨u6, hu6, h⟩ := Option.bind_eq_some_iff.mp h
      refine h_iast rfl rfl hu6 ?_
      show HE V L Kc Ks 210 (86, [(0, .ref 85), (1, .int x1)], [], (Q, hpR (sR (sR s 31 u4) 34 u6))) _ _
      refine h_it 7 (x' := (99, [(0, .ref 85), (1, .int x1)], [.int x1, .ref 126, .int x1, .ref 132], (Q, hpR (sR (sR s 31 u4) 34 u6)))) rfl ?_
      obtain ⟨v7, hv7, h⟩ := Option.bind_eq_some_iff.mp h
      refine h_iald rfl rfl hv7 ?_
      obtain ⟨u8, hu8, h⟩ := Option.bind_eq_some_iff.mp h
      refine h_iast rfl rfl hu8 ?_
      show HE V L Kc Ks 210 (101, [(0, .ref 85), (1, .int x1)], [], (Q, hpR (sR (sR (sR s 31 u4) 34 u6) 36 u8))) _ _
      refine h_it 4 (x' := (107, [(0, .ref 85), (1, .int x1)], [.int 0, .int x1, .ref 129], (Q, hpR (sR (sR (sR s 31 u4) 34 u6) 36 u8)))) rfl ?_
      obtain ⟨u9, hu9, h⟩ := Option.bind_eq_some_iff.mp h
      refine h_iast rfl rfl hu9 ?_
      show HE V L Kc Ks 210 (108, [(0, .ref 85), (1, .int x1)], [], (Q, hpR (sR (sR (sR (sR s 31 u4) 34 u6) 36 u8) 33 u9))) _ _
      refine h_it 4 (x' := (114, [(0, .ref 85), (1, .int x1)], [.int 1, .int x1, .ref 128], (Q, hpR (sR (sR (sR (sR s 31 u4) 34 u6) 36 u8) 33 u9)))) rfl ?_
      obtain ⟨u10, hu10, h⟩ := Option.bind_eq_some_iff.mp h
      refine h_iast rfl rfl hu10 ?_
      show HE V L Kc Ks 210 (115, [(0, .ref 85), (1, .int x1)], [], (Q, hpR (sR (sR (sR (sR (sR s 31 u4) 34 u6) 36 u8) 33 u9) 32 u10))) _ _
      refine h_it 4 (x' := (119, [(2, .int (x1 + 1)), (0, .ref 85), (1, .int x1)], [], (Q, hpR (sR (sR (sR (sR (sR s 31 u4) 34 u6) 36 u8) 33 u9) 32 u10)))) rfl ?_
      refine h_lw (lv := [(0, .ref 85), (1, .int x1), (2, .int (x1 + 1))]) (fa_c rfl (fa_c rfl (fa_c rfl (fa_n)))) rfl ?_
      exact m210_119_ok ih 1000000 x1 (x1 + 1) (sR (sR (sR (sR (sR s 31 u4) 34 u6) 36 u8) 33 u9) 32 u10) _ h
theorem m210_13_ok   : ∀ (n : Nat) (x1 : Int32) (s : xSt) (q : xSt), m210_13  n x1 s = some q → HE V L Kc Ks 210 (13, [(0, .ref 85), (1, .int x1)], [], (Q, hpR s)) (none) (Q, hpR q) := by
  intro n
  induction n with
  | zero => intro x1 s q h; cases h
  | succ n ih =>
    intro x1 s q h
    unfold m210_13 at h
    refine h_it 3 (x' := (18, [(0, .ref 85), (1, .int x1)], [.int (gI s 5), .int x1], (Q, hpR s))) rfl ?_
    refine h_br (b := decide ((gI s 5) ≤ x1)) (t := 42) (f := 21) (lv' := [(0, .ref 85), (1, .int x1)]) (st' := []) rfl rfl ?_
    by_cases h1 : (gI s 5) ≤ x1
    · replace h := if_y h1 h
      refine h_y h1 ?_
      refine h_it 6 (x' := (52, [(1, .int ((gI s 28) - 1)), (0, .ref 85)], [], (Q, hpR s))) rfl ?_
      refine h_lw (lv := [(0, .ref 85), (1, .int ((gI s 28) - 1))]) (fa_c rfl (fa_c rfl (fa_n))) rfl ?_
      exact m210_52_ok  1000000 ((gI s 28) - 1) s _ h
    · replace h := if_n h1 h
      refine h_n h1 ?_
      refine h_it 7 (x' := (34, [(0, .ref 85), (1, .int x1)], [.int x1, .ref 92, .int x1, .ref 133], (Q, hpR s))) rfl ?_
      obtain ⟨v31, hv31, h⟩ := Option.bind_eq_some_iff.mp h
      refine h_iald rfl rfl hv31 ?_
      obtain ⟨u32, hu32, h⟩ := Option.bind_eq_some_iff.mp h
      refine h_iast rfl rfl hu32 ?_
      show HE V L Kc Ks 210 (36, [(0, .ref 85), (1, .int x1)], [], (Q, hpR (sR s 37 u32))) _ _
      refine h_it 2 (x' := (13, [(1, .int (x1 + 1)), (0, .ref 85)], [], (Q, hpR (sR s 37 u32)))) rfl ?_
      refine h_lw (lv := [(0, .ref 85), (1, .int (x1 + 1))]) (fa_c rfl (fa_c rfl (fa_n))) rfl ?_
      exact ih (x1 + 1) (sR s 37 u32) _ h
theorem m210_ok  {s : xSt} {q : xSt} (h : m210  s = some q) : HC V L Kc Ks 210 [.ref 85] (Q, hpR s) (none) (Q, hpR q) := by
  unfold m210 at h
  refine hc_of (by decide) rfl ?_
  refine h_it 7 (x' := (13, [(1, .int 0), (0, .ref 85)], [], (Q, hpR (sI s 5 (gI s 27))))) rfl ?_
  refine h_lw (lv := [(0, .ref 85), (1, .int 0)]) (fa_c rfl (fa_c rfl (fa_n))) rfl ?_
  exact m210_13_ok  1000000 0 (sI s 5 (gI s 27)) _ h
end Sm210
section Sm212
variable {V : xmV} {L : List Nat} {Kc Ks : Nat} {Q : List xE}
theorem m212_ok {a1 : Int32} {s : xSt} {q : Int32 × xSt} (h : m212 a1 s = some q) : HC V L Kc Ks 212 [.ref 85, .int a1] (Q, hpR s) (some (.int q.1)) (Q, hpR q.2) := by
  unfold m212 at h
  refine hc_of (by decide) rfl ?_
  refine h_it 11 (x' := (19, [(0, .ref 85), (1, .int a1)], [.int a1, .int ((gI s 13) + 1), .ref 146], (Q, hpR (sI s 13 ((gI s 13) + 1))))) rfl ?_
  obtain ⟨u1, hu1, h⟩ := Option.bind_eq_some_iff.mp h
  refine h_iast rfl rfl hu1 ?_
  show HE V L Kc Ks 212 (20, [(0, .ref 85), (1, .int a1)], [], (Q, hpR (sR (sI s 13 ((gI s 13) + 1)) 50 u1))) _ _
  replace h := Option.some.inj h; subst h
  refine h_it 2 (x' := (24, [(0, .ref 85), (1, .int a1)], [.int ((gI s 13) + 1)], (Q, hpR (sR (sI s 13 ((gI s 13) + 1)) 50 u1)))) rfl ?_
  exact h_iret rfl rfl
end Sm212
section Sm217
variable {V : xmV} {L : List Nat} {Kc Ks : Nat} {Q : List xE}
theorem m217_ok {a1 : Int32} {a2 : Int32} {s : xSt} {q : xSt} (h : m217 a1 a2 s = some q) : HC V L Kc Ks 217 [.ref 85, .int a1, .int a2] (Q, hpR s) (none) (Q, hpR q) := by
  unfold m217 at h
  refine hc_of (by decide) rfl ?_
  refine h_it 5 (x' := (9, [(0, .ref 85), (1, .int a1), (2, .int a2)], [.int a1, .int (gI s 15), .ref 148], (Q, hpR s))) rfl ?_
  obtain ⟨u1, hu1, h⟩ := Option.bind_eq_some_iff.mp h
  refine h_iast rfl rfl hu1 ?_
  show HE V L Kc Ks 217 (10, [(0, .ref 85), (1, .int a1), (2, .int a2)], [], (Q, hpR (sR s 52 u1))) _ _
  refine h_it 5 (x' := (19, [(0, .ref 85), (1, .int a1), (2, .int a2)], [.int a2, .int (gI s 15), .ref 149], (Q, hpR (sR s 52 u1)))) rfl ?_
  obtain ⟨u2, hu2, h⟩ := Option.bind_eq_some_iff.mp h
  refine h_iast rfl rfl hu2 ?_
  show HE V L Kc Ks 217 (20, [(0, .ref 85), (1, .int a1), (2, .int a2)], [], (Q, hpR (sR (sR s 52 u1) 53 u2))) _ _
  refine h_it 6 (x' := (32, [(0, .ref 85), (1, .int a1), (2, .int a2)], [.int (gI s 14), .int (gI s 15), .ref 150], (Q, hpR (sR (sR s 52 u1) 53 u2)))) rfl ?_
  obtain ⟨u3, hu3, h⟩ := Option.bind_eq_some_iff.mp h
  refine h_iast rfl rfl hu3 ?_
  show HE V L Kc Ks 217 (33, [(0, .ref 85), (1, .int a1), (2, .int a2)], [], (Q, hpR (sR (sR (sR s 52 u1) 53 u2) 54 u3))) _ _
  replace h := Option.some.inj h; subst h
  refine h_it 6 (x' := (43, [(0, .ref 85), (1, .int a1), (2, .int a2)], [], (Q, hpR (sI (sR (sR (sR s 52 u1) 53 u2) 54 u3) 15 ((gI s 15) + 1))))) rfl ?_
  exact h_vret rfl rfl
end Sm217
section Sm218
variable {V : xmV} {L : List Nat} {Kc Ks : Nat} {Q : List xE}
theorem m218_ok  {s : xSt} {q : Int32 × xSt} (h : m218  s = some q) : HC V L Kc Ks 218 [.ref 85] (Q, hpR s) (some (.int q.1)) (Q, hpR q.2) := by
  unfold m218 at h
  refine hc_of (by decide) rfl ?_
  refine h_it 10 (x' := (18, [(0, .ref 85)], [.int ((gI s 16) - 1), .ref 151], (Q, hpR (sI s 16 ((gI s 16) - 1))))) rfl ?_
  obtain ⟨v1, hv1, h⟩ := Option.bind_eq_some_iff.mp h
  refine h_iald rfl rfl hv1 ?_
  replace h := Option.some.inj h; subst h
  exact h_iret rfl rfl
end Sm218
section Sm216
variable {V : xmV} {L : List Nat} {Kc Ks : Nat} {Q : List xE}
theorem m216_26_ok   : ∀ (n : Nat) (x1 : Int32) (x3 : Int32) (x4 : Int32) (s : xSt) (q : xSt), m216_26  n x1 x3 x4 s = some q → HE V L Kc Ks 216 (26, [(0, .ref 85), (1, .int x1), (3, .int x3), (4, .int x4)], [], (Q, hpR s)) (none) (Q, hpR q) := by
  intro n
  induction n with
  | zero => intro x1 x3 x4 s q h; cases h
  | succ n ih =>
    intro x1 x3 x4 s q h
    unfold m216_26 at h
    refine h_it 1 (x' := (28, [(0, .ref 85), (1, .int x1), (3, .int x3), (4, .int x4)], [.int x4], (Q, hpR s))) rfl ?_
    refine h_br (b := decide (x4 < 0)) (t := 50) (f := 31) (lv' := [(0, .ref 85), (1, .int x1), (3, .int x3), (4, .int x4)]) (st' := []) rfl rfl ?_
    by_cases h3 : x4 < 0
    · replace h := if_y h3 h
      refine h_y h3 ?_
      refine h_it 9 (x' := (65, [(0, .ref 85), (1, .int x1), (3, .int x3), (4, .int x4)], [.int x1, .ref 132, .ref 133, .ref 85], (Q, hpR (sI s 14 x3)))) rfl ?_
      obtain ⟨v4, hv4, h⟩ := Option.bind_eq_some_iff.mp h
      refine h_iald rfl rfl hv4 ?_
      obtain ⟨v5, hv5, h⟩ := Option.bind_eq_some_iff.mp h
      refine h_iald rfl rfl hv5 ?_
      replace h := Option.some.inj h; subst h
      refine h_it 1 (x' := (70, [(0, .ref 85), (1, .int x1), (3, .int x3), (4, .int x4)], [], (Q, hpR (sI (sI s 14 x3) 18 v5)))) rfl ?_
      exact h_vret rfl rfl
    · replace h := if_n h3 h
      refine h_n h3 ?_
      refine h_it 6 (x' := (40, [(0, .ref 85), (1, .int x1), (3, .int x3), (4, .int x4)], [.ref 85, .int (x3 + x4), .ref 147], (Q, hpR s))) rfl ?_
      obtain ⟨q6, hq6, h⟩ := Option.bind_eq_some_iff.mp h
      refine h_callO (As := []) (r1 := some (.int q6.1)) (st := [.int (x3 + x4), .ref 147]) (H1 := (Q, hpR q6.2)) rfl rfl rfl rfl rfl rfl (m218_ok hq6) ?_
      obtain ⟨u7, hu7, h⟩ := Option.bind_eq_some_iff.mp h
      refine h_iast rfl rfl hu7 ?_
      show HE V L Kc Ks 216 (44, [(0, .ref 85), (1, .int x1), (3, .int x3), (4, .int x4)], [], (Q, hpR (sR q6.2 51 u7))) _ _
      refine h_it 2 (x' := (26, [(4, .int (x4 + (-1))), (0, .ref 85), (1, .int x1), (3, .int x3)], [], (Q, hpR (sR q6.2 51 u7)))) rfl ?_
      refine h_lw (lv := [(0, .ref 85), (1, .int x1), (3, .int x3), (4, .int (x4 + (-1)))]) (fa_c rfl (fa_c rfl (fa_c rfl (fa_c rfl (fa_n))))) rfl ?_
      exact ih x1 x3 (x4 + (-1)) (sR q6.2 51 u7) _ h
theorem m216_ok {a1 : Int32} {s : xSt} {q : xSt} (h : m216 a1 s = some q) : HC V L Kc Ks 216 [.ref 85, .int a1] (Q, hpR s) (none) (Q, hpR q) := by
  unfold m216 at h
  refine hc_of (by decide) rfl ?_
  refine h_it 3 (x' := (5, [(0, .ref 85), (1, .int a1)], [.int a1, .ref 129], (Q, hpR s))) rfl ?_
  obtain ⟨v1, hv1, h⟩ := Option.bind_eq_some_iff.mp h
  refine h_iald rfl rfl hv1 ?_
  refine h_it 4 (x' := (10, [(2, .int v1), (0, .ref 85), (1, .int a1)], [.int v1, .int a1, .ref 85], (Q, hpR s))) rfl ?_
  obtain ⟨q2, hq2, h⟩ := Option.bind_eq_some_iff.mp h
  refine h_callO (As := [.int a1, .int v1]) (r1 := none) (st := []) (H1 := (Q, hpR q2)) rfl rfl rfl rfl rfl rfl (m217_ok hq2) ?_
  refine h_it 9 (x' := (26, [(4, .int (v1 - 1)), (3, .int ((gI q2 14) + 24)), (2, .int v1), (0, .ref 85), (1, .int a1)], [], (Q, hpR q2))) rfl ?_
  refine h_lw (lv := [(0, .ref 85), (1, .int a1), (3, .int ((gI q2 14) + 24)), (4, .int (v1 - 1))]) (fa_c rfl (fa_c rfl (fa_c rfl (fa_c rfl (fa_n))))) rfl ?_
  exact m216_26_ok  1000000 a1 ((gI q2 14) + 24) (v1 - 1) q2 _ h
end Sm216
section Sm220
variable {V : xmV} {L : List Nat} {Kc Ks : Nat} {Q : List xE}
theorem m220_7_ok   : ∀ (n : Nat) (x2 : Int32) (x3 : Int32) (x4 : Int32) (s : xSt) (q : Int32 × xSt), m220_7  n x2 x3 x4 s = some q → HE V L Kc Ks 220 (7, [(0, .ref 85), (2, .int x2), (3, .int x3), (4, .int x4)], [], (Q, hpR s)) (some (.int q.1)) (Q, hpR q.2) := by
  intro n
  induction n with
  | zero => intro x2 x3 x4 s q h; cases h
  | succ n ih =>
    intro x2 x3 x4 s q h
    unfold m220_7 at h
    refine h_it 2 (x' := (10, [(0, .ref 85), (2, .int x2), (3, .int x3), (4, .int x4)], [.int x2, .int x4], (Q, hpR s))) rfl ?_
    refine h_br (b := decide (x2 ≤ x4)) (t := 28) (f := 13) (lv' := [(0, .ref 85), (2, .int x2), (3, .int x3), (4, .int x4)]) (st' := []) rfl rfl ?_
    by_cases h1 : x2 ≤ x4
    · replace h := if_y h1 h
      refine h_y h1 ?_
      replace h := Option.some.inj h; subst h
      refine h_it 1 (x' := (29, [(0, .ref 85), (2, .int x2), (3, .int x3), (4, .int x4)], [.int x3], (Q, hpR s))) rfl ?_
      exact h_iret rfl rfl
    · replace h := if_n h1 h
      refine h_n h1 ?_
      refine h_it 4 (x' := (19, [(0, .ref 85), (2, .int x2), (3, .int x3), (4, .int x4)], [.int x3, .ref 128, .int x3], (Q, hpR s))) rfl ?_
      obtain ⟨v2, hv2, h⟩ := Option.bind_eq_some_iff.mp h
      refine h_iald rfl rfl hv2 ?_
      refine h_it 4 (x' := (7, [(4, .int (x4 + 1)), (3, .int (x3 + v2)), (0, .ref 85), (2, .int x2)], [], (Q, hpR s))) rfl ?_
      refine h_lw (lv := [(0, .ref 85), (2, .int x2), (3, .int (x3 + v2)), (4, .int (x4 + 1))]) (fa_c rfl (fa_c rfl (fa_c rfl (fa_c rfl (fa_n))))) rfl ?_
      exact ih x2 (x3 + v2) (x4 + 1) s _ h
theorem m220_ok {a1 : Int32} {a2 : Int32} {s : xSt} {q : Int32 × xSt} (h : m220 a1 a2 s = some q) : HC V L Kc Ks 220 [.ref 85, .int a1, .int a2] (Q, hpR s) (some (.int q.1)) (Q, hpR q.2) := by
  unfold m220 at h
  refine hc_of (by decide) rfl ?_
  refine h_it 6 (x' := (7, [(4, .int 0), (3, .int (a1 + 1)), (0, .ref 85), (1, .int a1), (2, .int a2)], [], (Q, hpR s))) rfl ?_
  refine h_lw (lv := [(0, .ref 85), (2, .int a2), (3, .int (a1 + 1)), (4, .int 0)]) (fa_c rfl (fa_c rfl (fa_c rfl (fa_c rfl (fa_n))))) rfl ?_
  exact m220_7_ok  1000000 a2 (a1 + 1) 0 s _ h
end Sm220
section Sm213
variable {V : xmV} {L : List Nat} {Kc Ks : Nat} {Q : List xE}
theorem m213_ok {a1 : Int32} {a2 : Int32} {s : xSt} {q : Int32 × xSt} (h : m213 a1 a2 s = some q) : HC V L Kc Ks 213 [.ref 85, .int a1, .int a2] (Q, hpR s) (some (.int q.1)) (Q, hpR q.2) := by
  unfold m213 at h
  refine hc_of (by decide) rfl ?_
  refine h_it 11 (x' := (19, [(0, .ref 85), (1, .int a1), (2, .int a2)], [.int a1, .int ((gI s 12) + 1), .ref 144], (Q, hpR (sI s 12 ((gI s 12) + 1))))) rfl ?_
  obtain ⟨u1, hu1, h⟩ := Option.bind_eq_some_iff.mp h
  refine h_iast rfl rfl hu1 ?_
  show HE V L Kc Ks 213 (20, [(0, .ref 85), (1, .int a1), (2, .int a2)], [], (Q, hpR (sR (sI s 12 ((gI s 12) + 1)) 48 u1))) _ _
  refine h_it 5 (x' := (29, [(0, .ref 85), (1, .int a1), (2, .int a2)], [.int a2, .int ((gI s 12) + 1), .ref 145], (Q, hpR (sR (sI s 12 ((gI s 12) + 1)) 48 u1)))) rfl ?_
  obtain ⟨u2, hu2, h⟩ := Option.bind_eq_some_iff.mp h
  refine h_iast rfl rfl hu2 ?_
  show HE V L Kc Ks 213 (30, [(0, .ref 85), (1, .int a1), (2, .int a2)], [], (Q, hpR (sR (sR (sI s 12 ((gI s 12) + 1)) 48 u1) 49 u2))) _ _
  replace h := Option.some.inj h; subst h
  refine h_it 2 (x' := (34, [(0, .ref 85), (1, .int a1), (2, .int a2)], [.int ((gI s 12) + 1)], (Q, hpR (sR (sR (sI s 12 ((gI s 12) + 1)) 48 u1) 49 u2)))) rfl ?_
  exact h_iret rfl rfl
end Sm213
section Sm215
variable {V : xmV} {L : List Nat} {Kc Ks : Nat} {Q : List xE}
theorem m215_ok {a1 : Int32} {s : xSt} {q : xSt} (h : m215 a1 s = some q) : HC V L Kc Ks 215 [.ref 85, .int a1] (Q, hpR s) (none) (Q, hpR q) := by
  unfold m215 at h
  refine hc_of (by decide) rfl ?_
  refine h_it 5 (x' := (9, [(0, .ref 85), (1, .int a1)], [.int a1, .int (gI s 16), .ref 151], (Q, hpR s))) rfl ?_
  obtain ⟨u1, hu1, h⟩ := Option.bind_eq_some_iff.mp h
  refine h_iast rfl rfl hu1 ?_
  show HE V L Kc Ks 215 (10, [(0, .ref 85), (1, .int a1)], [], (Q, hpR (sR s 55 u1))) _ _
  replace h := Option.some.inj h; subst h
  refine h_it 6 (x' := (20, [(0, .ref 85), (1, .int a1)], [], (Q, hpR (sI (sR s 55 u1) 16 ((gI s 16) + 1))))) rfl ?_
  exact h_vret rfl rfl
end Sm215
section Sm221
variable {V : xmV} {L : List Nat} {Kc Ks : Nat} {Q : List xE}
theorem m221_ok {a0 : Int32} {a1 : Int32} {a2 : Int32} {s : xSt} {q : Int32 × xSt} (h : m221 a0 a1 a2 s = some q) : HC V L Kc Ks 221 [.int a0, .int a1, .int a2] (Q, hpR s) (some (.int q.1)) (Q, hpR q.2) := by
  unfold m221 at h
  refine hc_of (by decide) rfl ?_
  refine h_it 1 (x' := (1, [(0, .int a0), (1, .int a1), (2, .int a2)], [.int a0], (Q, hpR s))) rfl ?_
  by_cases h1 : a0 = 3
  · replace h := if_y h1 h
    refine h_ts (t := 40) rfl (by rw [h1]; decide) ?_
    replace h := Option.some.inj h; subst h
    refine h_it 3 (x' := (43, [(0, .int a0), (1, .int a1), (2, .int a2)], [.int (a1 + a2)], (Q, hpR s))) rfl ?_
    exact h_iret rfl rfl
  replace h := if_n h1 h
  by_cases h2 : a0 = 4
  · replace h := if_y h2 h
    refine h_ts (t := 44) rfl (by rw [h2]; decide) ?_
    replace h := Option.some.inj h; subst h
    refine h_it 3 (x' := (47, [(0, .int a0), (1, .int a1), (2, .int a2)], [.int (a1 - a2)], (Q, hpR s))) rfl ?_
    exact h_iret rfl rfl
  replace h := if_n h2 h
  by_cases h3 : a0 = 5
  · replace h := if_y h3 h
    refine h_ts (t := 48) rfl (by rw [h3]; decide) ?_
    replace h := Option.some.inj h; subst h
    refine h_it 3 (x' := (51, [(0, .int a0), (1, .int a1), (2, .int a2)], [.int (a1 * a2)], (Q, hpR s))) rfl ?_
    exact h_iret rfl rfl
  replace h := if_n h3 h
  by_cases h4 : a0 = 6
  · replace h := if_y h4 h
    refine h_ts (t := 52) rfl (by rw [h4]; decide) ?_
    refine h_it 1 (x' := (53, [(0, .int a0), (1, .int a1), (2, .int a2)], [.int a2], (Q, hpR s))) rfl ?_
    refine h_br (b := decide (¬ a2 = 0)) (t := 60) (f := 56) (lv' := [(0, .int a0), (1, .int a1), (2, .int a2)]) (st' := []) rfl rfl ?_
    by_cases h5 : a2 = 0
    · replace h := if_y h5 h
      refine h_n (fun z => z h5) ?_
      replace h := Option.some.inj h; subst h
      refine h_it 2 (x' := (63, [(0, .int a0), (1, .int a1), (2, .int a2)], [.int 0], (Q, hpR s))) rfl ?_
      exact h_iret rfl rfl
    · replace h := if_n h5 h
      refine h_y h5 ?_
      refine h_it 2 (x' := (62, [(0, .int a0), (1, .int a1), (2, .int a2)], [.int a2, .int a1], (Q, hpR s))) rfl ?_
      by_cases h6 : a2 = 0
      · replace h := if_y h6 h
        cases h
      replace h := if_n h6 h
      refine h_div rfl h6 ?_
      replace h := Option.some.inj h; subst h
      exact h_iret rfl rfl
  replace h := if_n h4 h
  by_cases h7 : a0 = 7
  · replace h := if_y h7 h
    refine h_ts (t := 64) rfl (by rw [h7]; decide) ?_
    refine h_it 1 (x' := (65, [(0, .int a0), (1, .int a1), (2, .int a2)], [.int a2], (Q, hpR s))) rfl ?_
    refine h_br (b := decide (¬ a2 = 0)) (t := 72) (f := 68) (lv' := [(0, .int a0), (1, .int a1), (2, .int a2)]) (st' := []) rfl rfl ?_
    by_cases h8 : a2 = 0
    · replace h := if_y h8 h
      refine h_n (fun z => z h8) ?_
      replace h := Option.some.inj h; subst h
      refine h_it 2 (x' := (75, [(0, .int a0), (1, .int a1), (2, .int a2)], [.int a1], (Q, hpR s))) rfl ?_
      exact h_iret rfl rfl
    · replace h := if_n h8 h
      refine h_y h8 ?_
      refine h_it 2 (x' := (74, [(0, .int a0), (1, .int a1), (2, .int a2)], [.int a2, .int a1], (Q, hpR s))) rfl ?_
      by_cases h9 : a2 = 0
      · replace h := if_y h9 h
        cases h
      replace h := if_n h9 h
      refine h_rem rfl h9 ?_
      replace h := Option.some.inj h; subst h
      exact h_iret rfl rfl
  replace h := if_n h7 h
  by_cases h10 : a0 = 8
  · replace h := if_y h10 h
    refine h_ts (t := 76) rfl (by rw [h10]; decide) ?_
    refine h_it 2 (x' := (78, [(0, .int a0), (1, .int a1), (2, .int a2)], [.int a2, .int a1], (Q, hpR s))) rfl ?_
    refine h_br (b := decide (a2 ≤ a1)) (t := 85) (f := 81) (lv' := [(0, .int a0), (1, .int a1), (2, .int a2)]) (st' := []) rfl rfl ?_
    by_cases h11 : a2 ≤ a1
    · replace h := if_y h11 h
      refine h_y h11 ?_
      replace h := Option.some.inj h; subst h
      refine h_it 1 (x' := (86, [(0, .int a0), (1, .int a1), (2, .int a2)], [.int 0], (Q, hpR s))) rfl ?_
      exact h_iret rfl rfl
    · replace h := if_n h11 h
      refine h_n h11 ?_
      replace h := Option.some.inj h; subst h
      refine h_it 2 (x' := (86, [(0, .int a0), (1, .int a1), (2, .int a2)], [.int 1], (Q, hpR s))) rfl ?_
      exact h_iret rfl rfl
  replace h := if_n h10 h
  refine h_ts (t := 87) rfl (ts_d [3, 4, 5, 6, 7, 8] rfl (by decide) (fun v hv => by
      simp only [List.mem_cons, List.not_mem_nil, or_false] at hv
      rcases hv with rfl | rfl | rfl | rfl | rfl | rfl
      · exact h1
      · exact h2
      · exact h3
      · exact h4
      · exact h7
      · exact h10)) ?_
  refine h_it 2 (x' := (89, [(0, .int a0), (1, .int a1), (2, .int a2)], [.int a2, .int a1], (Q, hpR s))) rfl ?_
  refine h_br (b := decide (¬ a1 = a2)) (t := 96) (f := 92) (lv' := [(0, .int a0), (1, .int a1), (2, .int a2)]) (st' := []) rfl rfl ?_
  by_cases h12 : a1 = a2
  · replace h := if_y h12 h
    refine h_n (fun z => z h12) ?_
    replace h := Option.some.inj h; subst h
    refine h_it 2 (x' := (97, [(0, .int a0), (1, .int a1), (2, .int a2)], [.int 1], (Q, hpR s))) rfl ?_
    exact h_iret rfl rfl
  · replace h := if_n h12 h
    refine h_y h12 ?_
    replace h := Option.some.inj h; subst h
    refine h_it 1 (x' := (97, [(0, .int a0), (1, .int a1), (2, .int a2)], [.int 0], (Q, hpR s))) rfl ?_
    exact h_iret rfl rfl
end Sm221
section Sm219
variable {V : xmV} {L : List Nat} {Kc Ks : Nat} {Q : List xE}
theorem m219_163_ok   {y0 : Int32} {s : xSt} {q : xSt} (h : m219_163  y0 s = some q) : HE V L Kc Ks 219 (163, [], [.int y0, .ref 85], (Q, hpR s)) (none) (Q, hpR q) := by
  unfold m219_163 at h
  obtain ⟨q19, hq19, h⟩ := Option.bind_eq_some_iff.mp h
  refine h_callO (As := [.int y0]) (r1 := none) (st := []) (H1 := (Q, hpR q19)) rfl rfl rfl rfl rfl rfl (m215_ok hq19) ?_
  replace h := Option.some.inj h; subst h
  exact h_vret rfl rfl
theorem m219_102_ok   {x1 : Int32} {x2 : Int32} {x3 : Int32} {s : xSt} {q : xSt} (h : m219_102  x1 x2 x3 s = some q) : HE V L Kc Ks 219 (102, [(0, .ref 85), (1, .int x1), (2, .int x2), (3, .int x3)], [], (Q, hpR s)) (none) (Q, hpR q) := by
  unfold m219_102 at h
  refine h_it 1 (x' := (103, [(0, .ref 85), (1, .int x1), (2, .int x2), (3, .int x3)], [.int x2], (Q, hpR s))) rfl ?_
  refine h_br (b := decide (¬ x2 = 0)) (t := 125) (f := 106) (lv' := [(0, .ref 85), (1, .int x1), (2, .int x2), (3, .int x3)]) (st' := []) rfl rfl ?_
  by_cases h12 : x2 = 0
  · replace h := if_y h12 h
    refine h_n (fun z => z h12) ?_
    refine h_it 3 (x' := (109, [(0, .ref 85), (1, .int x1), (2, .int x2), (3, .int x3)], [.int 1, .int x1, .ref 85], (Q, hpR s))) rfl ?_
    obtain ⟨q13, hq13, h⟩ := Option.bind_eq_some_iff.mp h
    refine h_callO (As := [.int x1, .int 1]) (r1 := none) (st := []) (H1 := (Q, hpR q13)) rfl rfl rfl rfl rfl rfl (m217_ok hq13) ?_
    refine h_it 4 (x' := (116, [(0, .ref 85), (1, .int x1), (2, .int x2), (3, .int x3)], [.int 1, .int x1, .ref 85, .ref 85], (Q, hpR q13))) rfl ?_
    obtain ⟨q14, hq14, h⟩ := Option.bind_eq_some_iff.mp h
    refine h_callO (As := [.int x1, .int 1]) (r1 := some (.int q14.1)) (st := [.ref 85]) (H1 := (Q, hpR q14.2)) rfl rfl rfl rfl rfl rfl (m220_ok hq14) ?_
    replace h := Option.some.inj h; subst h
    refine h_it 2 (x' := (166, [(0, .ref 85), (1, .int x1), (2, .int x2), (3, .int x3)], [], (Q, hpR (sI q14.2 18 q14.1)))) rfl ?_
    exact h_vret rfl rfl
  · replace h := if_n h12 h
    refine h_y h12 ?_
    refine h_it 1 (x' := (126, [(0, .ref 85), (1, .int x1), (2, .int x2), (3, .int x3)], [.ref 85], (Q, hpR s))) rfl ?_
    obtain ⟨q15, hq15, h⟩ := Option.bind_eq_some_iff.mp h
    refine h_callO (As := []) (r1 := some (.int q15.1)) (st := []) (H1 := (Q, hpR q15.2)) rfl rfl rfl rfl rfl rfl (m218_ok hq15) ?_
    refine h_it 2 (x' := (132, [(5, .int q15.1), (0, .ref 85), (1, .int x1), (2, .int x2), (3, .int x3)], [.ref 85], (Q, hpR q15.2))) rfl ?_
    obtain ⟨q16, hq16, h⟩ := Option.bind_eq_some_iff.mp h
    refine h_callO (As := []) (r1 := some (.int q16.1)) (st := []) (H1 := (Q, hpR q16.2)) rfl rfl rfl rfl rfl rfl (m218_ok hq16) ?_
    refine h_it 4 (x' := (141, [(6, .int q16.1), (5, .int q15.1), (0, .ref 85), (1, .int x1), (2, .int x2), (3, .int x3)], [.int 13, .int x3, .ref 85], (Q, hpR q16.2))) rfl ?_
    refine h_br (b := decide (¬ x3 = 13)) (t := 155) (f := 144) (lv' := [(6, .int q16.1), (5, .int q15.1), (0, .ref 85), (1, .int x1), (2, .int x2), (3, .int x3)]) (st' := [.ref 85]) rfl rfl ?_
    by_cases h17 : x3 = 13
    · replace h := if_y h17 h
      refine h_n (fun z => z h17) ?_
      refine h_it 3 (x' := (149, [(6, .int q16.1), (5, .int q15.1), (0, .ref 85), (1, .int x1), (2, .int x2), (3, .int x3)], [.int q15.1, .int q16.1, .ref 85, .ref 85], (Q, hpR q16.2))) rfl ?_
      obtain ⟨q18, hq18, h⟩ := Option.bind_eq_some_iff.mp h
      refine h_callO (As := [.int q16.1, .int q15.1]) (r1 := some (.int q18.1)) (st := [.ref 85]) (H1 := (Q, hpR q18.2)) rfl rfl rfl rfl rfl rfl (m213_ok hq18) ?_
      refine h_it 1 (x' := (163, [(6, .int q16.1), (5, .int q15.1), (0, .ref 85), (1, .int x1), (2, .int x2), (3, .int x3)], [.int q18.1, .ref 85], (Q, hpR q18.2))) rfl ?_
      refine h_lw (lv := []) (fa_n) rfl ?_
      exact m219_163_ok  h
    · replace h := if_n h17 h
      refine h_y h17 ?_
      refine h_it 3 (x' := (160, [(6, .int q16.1), (5, .int q15.1), (0, .ref 85), (1, .int x1), (2, .int x2), (3, .int x3)], [.int q15.1, .int q16.1, .int x3, .ref 85], (Q, hpR q16.2))) rfl ?_
      obtain ⟨q20, hq20, h⟩ := Option.bind_eq_some_iff.mp h
      refine h_callS (av := [.int x3, .int q16.1, .int q15.1]) (r1 := some (.int q20.1)) (st := [.ref 85]) (H1 := (Q, hpR q20.2)) rfl rfl rfl rfl rfl (m221_ok hq20) ?_
      refine h_lw (lv := []) (fa_n) rfl ?_
      exact m219_163_ok  h
theorem m219_179_ok    {s : xSt} {q : xSt} (h : m219_179   s = some q) : HE V L Kc Ks 219 (179, [(0, .ref 85)], [], (Q, hpR s)) (none) (Q, hpR q) := by
  unfold m219_179 at h
  refine h_it 3 (x' := (182, [(0, .ref 85)], [.ref 85, .ref 85, .ref 85], (Q, hpR s))) rfl ?_
  obtain ⟨q23, hq23, h⟩ := Option.bind_eq_some_iff.mp h
  refine h_callO (As := []) (r1 := some (.int q23.1)) (st := [.ref 85, .ref 85]) (H1 := (Q, hpR q23.2)) rfl rfl rfl rfl rfl rfl (m218_ok hq23) ?_
  obtain ⟨q24, hq24, h⟩ := Option.bind_eq_some_iff.mp h
  refine h_callO (As := [.int q23.1]) (r1 := some (.int q24.1)) (st := [.ref 85]) (H1 := (Q, hpR q24.2)) rfl rfl rfl rfl rfl rfl (m212_ok hq24) ?_
  obtain ⟨q25, hq25, h⟩ := Option.bind_eq_some_iff.mp h
  refine h_callO (As := [.int q24.1]) (r1 := none) (st := []) (H1 := (Q, hpR q25)) rfl rfl rfl rfl rfl rfl (m215_ok hq25) ?_
  replace h := Option.some.inj h; subst h
  refine h_it 1 (x' := (404, [(0, .ref 85)], [], (Q, hpR q25))) rfl ?_
  exact h_vret rfl rfl
theorem m219_221_ok   {y0 : Int32} {y1 : Int32} {s : xSt} {q : xSt} (h : m219_221  y0 y1 s = some q) : HE V L Kc Ks 219 (221, [], [.int y0, .int y1, .ref 85, .ref 85], (Q, hpR s)) (none) (Q, hpR q) := by
  unfold m219_221 at h
  obtain ⟨q30, hq30, h⟩ := Option.bind_eq_some_iff.mp h
  refine h_callO (As := [.int y1, .int y0]) (r1 := some (.int q30.1)) (st := [.ref 85]) (H1 := (Q, hpR q30.2)) rfl rfl rfl rfl rfl rfl (m220_ok hq30) ?_
  replace h := Option.some.inj h; subst h
  refine h_it 2 (x' := (404, [], [], (Q, hpR (sI q30.2 18 q30.1)))) rfl ?_
  exact h_vret rfl rfl
theorem m219_206_ok   {x1 : Int32} {s : xSt} {q : xSt} (h : m219_206  x1 s = some q) : HE V L Kc Ks 219 (206, [(0, .ref 85), (1, .int x1)], [], (Q, hpR s)) (none) (Q, hpR q) := by
  unfold m219_206 at h
  refine h_it 4 (x' := (210, [(0, .ref 85), (1, .int x1)], [.ref 85, .int x1, .ref 85, .ref 85], (Q, hpR s))) rfl ?_
  obtain ⟨q28, hq28, h⟩ := Option.bind_eq_some_iff.mp h
  refine h_callO (As := []) (r1 := some (.int q28.1)) (st := [.int x1, .ref 85, .ref 85]) (H1 := (Q, hpR q28.2)) rfl rfl rfl rfl rfl rfl (m218_ok hq28) ?_
  refine h_br (b := decide (q28.1 = 0)) (t := 220) (f := 216) (lv' := [(0, .ref 85), (1, .int x1)]) (st' := [.int x1, .ref 85, .ref 85]) rfl rfl ?_
  by_cases h29 : q28.1 = 0
  · replace h := if_y h29 h
    refine h_y h29 ?_
    refine h_it 1 (x' := (221, [(0, .ref 85), (1, .int x1)], [.int 2, .int x1, .ref 85, .ref 85], (Q, hpR q28.2))) rfl ?_
    refine h_lw (lv := []) (fa_n) rfl ?_
    exact m219_221_ok  h
  · replace h := if_n h29 h
    refine h_n h29 ?_
    refine h_it 2 (x' := (221, [(0, .ref 85), (1, .int x1)], [.int 1, .int x1, .ref 85, .ref 85], (Q, hpR q28.2))) rfl ?_
    refine h_lw (lv := []) (fa_n) rfl ?_
    exact m219_221_ok  h
theorem m219_242_ok   {x1 : Int32} {s : xSt} {q : xSt} (h : m219_242  x1 s = some q) : HE V L Kc Ks 219 (242, [(0, .ref 85), (1, .int x1)], [], (Q, hpR s)) (none) (Q, hpR q) := by
  unfold m219_242 at h
  refine h_it 7 (x' := (255, [(0, .ref 85), (1, .int x1)], [.int x1, .ref 131, .int (gI s 14), .ref 147], (Q, hpR s))) rfl ?_
  obtain ⟨v33, hv33, h⟩ := Option.bind_eq_some_iff.mp h
  refine h_iald rfl rfl hv33 ?_
  refine h_it 2 (x' := (258, [(0, .ref 85), (1, .int x1)], [.ref 85, .int ((gI s 14) + v33), .ref 147], (Q, hpR s))) rfl ?_
  obtain ⟨q34, hq34, h⟩ := Option.bind_eq_some_iff.mp h
  refine h_callO (As := []) (r1 := some (.int q34.1)) (st := [.int ((gI s 14) + v33), .ref 147]) (H1 := (Q, hpR q34.2)) rfl rfl rfl rfl rfl rfl (m218_ok hq34) ?_
  obtain ⟨u35, hu35, h⟩ := Option.bind_eq_some_iff.mp h
  refine h_iast rfl rfl hu35 ?_
  show HE V L Kc Ks 219 (262, [(0, .ref 85), (1, .int x1)], [], (Q, hpR (sR q34.2 51 u35))) _ _
  refine h_it 4 (x' := (266, [(0, .ref 85), (1, .int x1)], [.int 1, .int x1, .ref 85, .ref 85], (Q, hpR (sR q34.2 51 u35)))) rfl ?_
  obtain ⟨q36, hq36, h⟩ := Option.bind_eq_some_iff.mp h
  refine h_callO (As := [.int x1, .int 1]) (r1 := some (.int q36.1)) (st := [.ref 85]) (H1 := (Q, hpR q36.2)) rfl rfl rfl rfl rfl rfl (m220_ok hq36) ?_
  replace h := Option.some.inj h; subst h
  refine h_it 2 (x' := (404, [(0, .ref 85), (1, .int x1)], [], (Q, hpR (sI q36.2 18 q36.1)))) rfl ?_
  exact h_vret rfl rfl
theorem m219_354_ok   {y0 : Int32} {y1 : Int32} {s : xSt} {q : xSt} (h : m219_354  y0 y1 s = some q) : HE V L Kc Ks 219 (354, [], [.int y0, .int y1, .ref 85, .ref 85], (Q, hpR s)) (none) (Q, hpR q) := by
  unfold m219_354 at h
  obtain ⟨q47, hq47, h⟩ := Option.bind_eq_some_iff.mp h
  refine h_callO (As := [.int y1, .int y0]) (r1 := some (.int q47.1)) (st := [.ref 85]) (H1 := (Q, hpR q47.2)) rfl rfl rfl rfl rfl rfl (m220_ok hq47) ?_
  replace h := Option.some.inj h; subst h
  refine h_it 2 (x' := (404, [], [], (Q, hpR (sI q47.2 18 q47.1)))) rfl ?_
  exact h_vret rfl rfl
theorem m219_287_ok   {x1 : Int32} {s : xSt} {q : xSt} (h : m219_287  x1 s = some q) : HE V L Kc Ks 219 (287, [(0, .ref 85), (1, .int x1)], [], (Q, hpR s)) (none) (Q, hpR q) := by
  unfold m219_287 at h
  refine h_it 1 (x' := (288, [(0, .ref 85), (1, .int x1)], [.ref 85], (Q, hpR s))) rfl ?_
  obtain ⟨q39, hq39, h⟩ := Option.bind_eq_some_iff.mp h
  refine h_callO (As := []) (r1 := some (.int q39.1)) (st := []) (H1 := (Q, hpR q39.2)) rfl rfl rfl rfl rfl rfl (m218_ok hq39) ?_
  refine h_it 8 (x' := (306, [(5, .int q39.1), (0, .ref 85), (1, .int x1)], [.int x1, .ref 131, .int (gI q39.2 14), .ref 147], (Q, hpR q39.2))) rfl ?_
  obtain ⟨v40, hv40, h⟩ := Option.bind_eq_some_iff.mp h
  refine h_iald rfl rfl hv40 ?_
  refine h_it 4 (x' := (314, [(5, .int q39.1), (0, .ref 85), (1, .int x1)], [.int q39.1, .ref 144, .int ((gI q39.2 14) + v40), .ref 147], (Q, hpR q39.2))) rfl ?_
  obtain ⟨v41, hv41, h⟩ := Option.bind_eq_some_iff.mp h
  refine h_iald rfl rfl hv41 ?_
  obtain ⟨u42, hu42, h⟩ := Option.bind_eq_some_iff.mp h
  refine h_iast rfl rfl hu42 ?_
  show HE V L Kc Ks 219 (316, [(5, .int q39.1), (0, .ref 85), (1, .int x1)], [], (Q, hpR (sR q39.2 51 u42))) _ _
  refine h_it 7 (x' := (329, [(5, .int q39.1), (0, .ref 85), (1, .int x1)], [.int x1, .ref 131, .int (gI q39.2 14), .ref 147], (Q, hpR (sR q39.2 51 u42)))) rfl ?_
  obtain ⟨v43, hv43, h⟩ := Option.bind_eq_some_iff.mp h
  refine h_iald rfl rfl hv43 ?_
  refine h_it 6 (x' := (339, [(5, .int q39.1), (0, .ref 85), (1, .int x1)], [.int q39.1, .ref 145, .int (((gI q39.2 14) + v43) + 1), .ref 147], (Q, hpR (sR q39.2 51 u42)))) rfl ?_
  obtain ⟨v44, hv44, h⟩ := Option.bind_eq_some_iff.mp h
  refine h_iald rfl rfl hv44 ?_
  obtain ⟨u45, hu45, h⟩ := Option.bind_eq_some_iff.mp h
  refine h_iast rfl rfl hu45 ?_
  show HE V L Kc Ks 219 (341, [(5, .int q39.1), (0, .ref 85), (1, .int x1)], [], (Q, hpR (sR q39.2 51 u45))) _ _
  refine h_it 4 (x' := (346, [(5, .int q39.1), (0, .ref 85), (1, .int x1)], [.int q39.1, .int x1, .ref 85, .ref 85], (Q, hpR (sR q39.2 51 u45)))) rfl ?_
  refine h_br (b := decide (¬ q39.1 = 0)) (t := 353) (f := 349) (lv' := [(5, .int q39.1), (0, .ref 85), (1, .int x1)]) (st' := [.int x1, .ref 85, .ref 85]) rfl rfl ?_
  by_cases h46 : q39.1 = 0
  · replace h := if_y h46 h
    refine h_n (fun z => z h46) ?_
    refine h_it 2 (x' := (354, [(5, .int q39.1), (0, .ref 85), (1, .int x1)], [.int 1, .int x1, .ref 85, .ref 85], (Q, hpR (sR q39.2 51 u45)))) rfl ?_
    refine h_lw (lv := []) (fa_n) rfl ?_
    exact m219_354_ok  h
  · replace h := if_n h46 h
    refine h_y h46 ?_
    refine h_it 1 (x' := (354, [(5, .int q39.1), (0, .ref 85), (1, .int x1)], [.int 2, .int x1, .ref 85, .ref 85], (Q, hpR (sR q39.2 51 u45)))) rfl ?_
    refine h_lw (lv := []) (fa_n) rfl ?_
    exact m219_354_ok  h
theorem m219_30_ok   {x1 : Int32} {x2 : Int32} {x3 : Int32} {y0 : Bool} {s : xSt} {q : xSt} (h : m219_30  x1 x2 x3 y0 s = some q) : HE V L Kc Ks 219 (30, [(0, .ref 85), (1, .int x1), (2, .int x2), (3, .int x3)], [.int (b01 y0)], (Q, hpR s)) (none) (Q, hpR q) := by
  unfold m219_30 at h
  refine h_it 2 (x' := (34, [(4, .int (b01 y0)), (0, .ref 85), (1, .int x1), (2, .int x2), (3, .int x3)], [.int (b01 y0)], (Q, hpR s))) rfl ?_
  refine h_br (b := decide ((b01 y0) = 0)) (t := 90) (f := 37) (lv' := [(4, .int (b01 y0)), (0, .ref 85), (1, .int x1), (2, .int x2), (3, .int x3)]) (st' := []) rfl rfl ?_
  by_cases h3 : y0 = true
  · replace h := if_y h3 h
    refine h_n (b01_1 h3) ?_
    refine h_it 6 (x' := (45, [(4, .int (b01 y0)), (0, .ref 85), (1, .int x1), (2, .int x2), (3, .int x3)], [.int x1, .ref 129, .int (x2 + 1)], (Q, hpR s))) rfl ?_
    obtain ⟨v4, hv4, h⟩ := Option.bind_eq_some_iff.mp h
    refine h_iald rfl rfl hv4 ?_
    refine h_br (b := decide (v4 ≤ (x2 + 1))) (t := 72) (f := 49) (lv' := [(4, .int (b01 y0)), (0, .ref 85), (1, .int x1), (2, .int x2), (3, .int x3)]) (st' := []) rfl rfl ?_
    by_cases h5 : v4 ≤ (x2 + 1)
    · replace h := if_y h5 h
      refine h_y h5 ?_
      refine h_it 6 (x' := (80, [(4, .int (b01 y0)), (0, .ref 85), (1, .int x1), (2, .int x2), (3, .int x3)], [.int x1, .ref 129, .int (x2 + 1)], (Q, hpR s))) rfl ?_
      obtain ⟨v6, hv6, h⟩ := Option.bind_eq_some_iff.mp h
      refine h_iald rfl rfl hv6 ?_
      refine h_br (b := decide (¬ (x2 + 1) = v6)) (t := 89) (f := 84) (lv' := [(4, .int (b01 y0)), (0, .ref 85), (1, .int x1), (2, .int x2), (3, .int x3)]) (st' := []) rfl rfl ?_
      by_cases h7 : (x2 + 1) = v6
      · replace h := if_y h7 h
        refine h_n (fun z => z h7) ?_
        refine h_it 2 (x' := (86, [(4, .int (b01 y0)), (0, .ref 85), (1, .int x1), (2, .int x2), (3, .int x3)], [.int x1, .ref 85], (Q, hpR s))) rfl ?_
        obtain ⟨q8, hq8, h⟩ := Option.bind_eq_some_iff.mp h
        refine h_callO (As := [.int x1]) (r1 := none) (st := []) (H1 := (Q, hpR q8)) rfl rfl rfl rfl rfl rfl (m216_ok hq8) ?_
        replace h := Option.some.inj h; subst h
        exact h_vret rfl rfl
      · replace h := if_n h7 h
        refine h_y h7 ?_
        replace h := Option.some.inj h; subst h
        exact h_vret rfl rfl
    · replace h := if_n h5 h
      refine h_n h5 ?_
      refine h_it 5 (x' := (54, [(4, .int (b01 y0)), (0, .ref 85), (1, .int x1), (2, .int x2), (3, .int x3)], [.int (x2 + 1), .int x1, .ref 85], (Q, hpR s))) rfl ?_
      obtain ⟨q9, hq9, h⟩ := Option.bind_eq_some_iff.mp h
      refine h_callO (As := [.int x1, .int (x2 + 1)]) (r1 := none) (st := []) (H1 := (Q, hpR q9)) rfl rfl rfl rfl rfl rfl (m217_ok hq9) ?_
      refine h_it 6 (x' := (63, [(4, .int (b01 y0)), (0, .ref 85), (1, .int x1), (2, .int x2), (3, .int x3)], [.int (x2 + 1), .int x1, .ref 85, .ref 85], (Q, hpR q9))) rfl ?_
      obtain ⟨q10, hq10, h⟩ := Option.bind_eq_some_iff.mp h
      refine h_callO (As := [.int x1, .int (x2 + 1)]) (r1 := some (.int q10.1)) (st := [.ref 85]) (H1 := (Q, hpR q10.2)) rfl rfl rfl rfl rfl rfl (m220_ok hq10) ?_
      replace h := Option.some.inj h; subst h
      refine h_it 2 (x' := (89, [(4, .int (b01 y0)), (0, .ref 85), (1, .int x1), (2, .int x2), (3, .int x3)], [], (Q, hpR (sI q10.2 18 q10.1)))) rfl ?_
      exact h_vret rfl rfl
  · replace h := if_n h3 h
    refine h_y (b01_0 h3) ?_
    refine h_it 2 (x' := (93, [(4, .int (b01 y0)), (0, .ref 85), (1, .int x1), (2, .int x2), (3, .int x3)], [.int 10, .int x3], (Q, hpR s))) rfl ?_
    refine h_br (b := decide (x3 < 10)) (t := 102) (f := 96) (lv' := [(4, .int (b01 y0)), (0, .ref 85), (1, .int x1), (2, .int x2), (3, .int x3)]) (st' := []) rfl rfl ?_
    by_cases h11 : x3 < 10
    · replace h := if_y h11 h
      refine h_y h11 ?_
      refine h_lw (lv := [(0, .ref 85), (1, .int x1), (2, .int x2), (3, .int x3)]) (fa_c rfl (fa_c rfl (fa_c rfl (fa_c rfl (fa_n))))) rfl ?_
      exact m219_102_ok  h
    · replace h := if_n h11 h
      refine h_n h11 ?_
      refine h_it 2 (x' := (99, [(4, .int (b01 y0)), (0, .ref 85), (1, .int x1), (2, .int x2), (3, .int x3)], [.int 13, .int x3], (Q, hpR s))) rfl ?_
      refine h_br (b := decide (¬ x3 = 13)) (t := 167) (f := 102) (lv' := [(4, .int (b01 y0)), (0, .ref 85), (1, .int x1), (2, .int x2), (3, .int x3)]) (st' := []) rfl rfl ?_
      by_cases h21 : x3 = 13
      · replace h := if_y h21 h
        refine h_n (fun z => z h21) ?_
        refine h_lw (lv := [(0, .ref 85), (1, .int x1), (2, .int x2), (3, .int x3)]) (fa_c rfl (fa_c rfl (fa_c rfl (fa_c rfl (fa_n))))) rfl ?_
        exact m219_102_ok  h
      · replace h := if_n h21 h
        refine h_y h21 ?_
        refine h_it 2 (x' := (170, [(4, .int (b01 y0)), (0, .ref 85), (1, .int x1), (2, .int x2), (3, .int x3)], [.int 16, .int x3], (Q, hpR s))) rfl ?_
        refine h_br (b := decide (x3 = 16)) (t := 179) (f := 173) (lv' := [(4, .int (b01 y0)), (0, .ref 85), (1, .int x1), (2, .int x2), (3, .int x3)]) (st' := []) rfl rfl ?_
        by_cases h22 : x3 = 16
        · replace h := if_y h22 h
          refine h_y h22 ?_
          refine h_lw (lv := [(0, .ref 85)]) (fa_c rfl (fa_n)) rfl ?_
          exact m219_179_ok  h
        · replace h := if_n h22 h
          refine h_n h22 ?_
          refine h_it 2 (x' := (176, [(4, .int (b01 y0)), (0, .ref 85), (1, .int x1), (2, .int x2), (3, .int x3)], [.int 17, .int x3], (Q, hpR s))) rfl ?_
          refine h_br (b := decide (¬ x3 = 17)) (t := 194) (f := 179) (lv' := [(4, .int (b01 y0)), (0, .ref 85), (1, .int x1), (2, .int x2), (3, .int x3)]) (st' := []) rfl rfl ?_
          by_cases h26 : x3 = 17
          · replace h := if_y h26 h
            refine h_n (fun z => z h26) ?_
            refine h_lw (lv := [(0, .ref 85)]) (fa_c rfl (fa_n)) rfl ?_
            exact m219_179_ok  h
          · replace h := if_n h26 h
            refine h_y h26 ?_
            refine h_it 2 (x' := (197, [(4, .int (b01 y0)), (0, .ref 85), (1, .int x1), (2, .int x2), (3, .int x3)], [.int 10, .int x3], (Q, hpR s))) rfl ?_
            refine h_br (b := decide (x3 = 10)) (t := 206) (f := 200) (lv' := [(4, .int (b01 y0)), (0, .ref 85), (1, .int x1), (2, .int x2), (3, .int x3)]) (st' := []) rfl rfl ?_
            by_cases h27 : x3 = 10
            · replace h := if_y h27 h
              refine h_y h27 ?_
              refine h_lw (lv := [(0, .ref 85), (1, .int x1)]) (fa_c rfl (fa_c rfl (fa_n))) rfl ?_
              exact m219_206_ok  h
            · replace h := if_n h27 h
              refine h_n h27 ?_
              refine h_it 2 (x' := (203, [(4, .int (b01 y0)), (0, .ref 85), (1, .int x1), (2, .int x2), (3, .int x3)], [.int 20, .int x3], (Q, hpR s))) rfl ?_
              refine h_br (b := decide (¬ x3 = 20)) (t := 230) (f := 206) (lv' := [(4, .int (b01 y0)), (0, .ref 85), (1, .int x1), (2, .int x2), (3, .int x3)]) (st' := []) rfl rfl ?_
              by_cases h31 : x3 = 20
              · replace h := if_y h31 h
                refine h_n (fun z => z h31) ?_
                refine h_lw (lv := [(0, .ref 85), (1, .int x1)]) (fa_c rfl (fa_c rfl (fa_n))) rfl ?_
                exact m219_206_ok  h
              · replace h := if_n h31 h
                refine h_y h31 ?_
                refine h_it 2 (x' := (233, [(4, .int (b01 y0)), (0, .ref 85), (1, .int x1), (2, .int x2), (3, .int x3)], [.int 11, .int x3], (Q, hpR s))) rfl ?_
                refine h_br (b := decide (x3 = 11)) (t := 242) (f := 236) (lv' := [(4, .int (b01 y0)), (0, .ref 85), (1, .int x1), (2, .int x2), (3, .int x3)]) (st' := []) rfl rfl ?_
                by_cases h32 : x3 = 11
                · replace h := if_y h32 h
                  refine h_y h32 ?_
                  refine h_lw (lv := [(0, .ref 85), (1, .int x1)]) (fa_c rfl (fa_c rfl (fa_n))) rfl ?_
                  exact m219_242_ok  h
                · replace h := if_n h32 h
                  refine h_n h32 ?_
                  refine h_it 2 (x' := (239, [(4, .int (b01 y0)), (0, .ref 85), (1, .int x1), (2, .int x2), (3, .int x3)], [.int 21, .int x3], (Q, hpR s))) rfl ?_
                  refine h_br (b := decide (¬ x3 = 21)) (t := 275) (f := 242) (lv' := [(4, .int (b01 y0)), (0, .ref 85), (1, .int x1), (2, .int x2), (3, .int x3)]) (st' := []) rfl rfl ?_
                  by_cases h37 : x3 = 21
                  · replace h := if_y h37 h
                    refine h_n (fun z => z h37) ?_
                    refine h_lw (lv := [(0, .ref 85), (1, .int x1)]) (fa_c rfl (fa_c rfl (fa_n))) rfl ?_
                    exact m219_242_ok  h
                  · replace h := if_n h37 h
                    refine h_y h37 ?_
                    refine h_it 2 (x' := (278, [(4, .int (b01 y0)), (0, .ref 85), (1, .int x1), (2, .int x2), (3, .int x3)], [.int 12, .int x3], (Q, hpR s))) rfl ?_
                    refine h_br (b := decide (x3 = 12)) (t := 287) (f := 281) (lv' := [(4, .int (b01 y0)), (0, .ref 85), (1, .int x1), (2, .int x2), (3, .int x3)]) (st' := []) rfl rfl ?_
                    by_cases h38 : x3 = 12
                    · replace h := if_y h38 h
                      refine h_y h38 ?_
                      refine h_lw (lv := [(0, .ref 85), (1, .int x1)]) (fa_c rfl (fa_c rfl (fa_n))) rfl ?_
                      exact m219_287_ok  h
                    · replace h := if_n h38 h
                      refine h_n h38 ?_
                      refine h_it 2 (x' := (284, [(4, .int (b01 y0)), (0, .ref 85), (1, .int x1), (2, .int x2), (3, .int x3)], [.int 22, .int x3], (Q, hpR s))) rfl ?_
                      refine h_br (b := decide (¬ x3 = 22)) (t := 363) (f := 287) (lv' := [(4, .int (b01 y0)), (0, .ref 85), (1, .int x1), (2, .int x2), (3, .int x3)]) (st' := []) rfl rfl ?_
                      by_cases h48 : x3 = 22
                      · replace h := if_y h48 h
                        refine h_n (fun z => z h48) ?_
                        refine h_lw (lv := [(0, .ref 85), (1, .int x1)]) (fa_c rfl (fa_c rfl (fa_n))) rfl ?_
                        exact m219_287_ok  h
                      · replace h := if_n h48 h
                        refine h_y h48 ?_
                        refine h_it 2 (x' := (366, [(4, .int (b01 y0)), (0, .ref 85), (1, .int x1), (2, .int x2), (3, .int x3)], [.int 18, .int x3], (Q, hpR s))) rfl ?_
                        refine h_br (b := decide (¬ x3 = 18)) (t := 404) (f := 369) (lv' := [(4, .int (b01 y0)), (0, .ref 85), (1, .int x1), (2, .int x2), (3, .int x3)]) (st' := []) rfl rfl ?_
                        by_cases h49 : x3 = 18
                        · replace h := if_y h49 h
                          refine h_n (fun z => z h49) ?_
                          refine h_it 7 (x' := (382, [(4, .int (b01 y0)), (0, .ref 85), (1, .int x1), (2, .int x2), (3, .int x3)], [.int x1, .ref 131, .int (gI s 14), .ref 147], (Q, hpR s))) rfl ?_
                          obtain ⟨v50, hv50, h⟩ := Option.bind_eq_some_iff.mp h
                          refine h_iald rfl rfl hv50 ?_
                          refine h_it 4 (x' := (389, [(4, .int (b01 y0)), (0, .ref 85), (1, .int x1), (2, .int x2), (3, .int x3)], [.ref 85, .ref 146, .int ((gI s 14) + v50), .ref 147], (Q, hpR s))) rfl ?_
                          obtain ⟨q51, hq51, h⟩ := Option.bind_eq_some_iff.mp h
                          refine h_callO (As := []) (r1 := some (.int q51.1)) (st := [.ref 146, .int ((gI s 14) + v50), .ref 147]) (H1 := (Q, hpR q51.2)) rfl rfl rfl rfl rfl rfl (m218_ok hq51) ?_
                          obtain ⟨v52, hv52, h⟩ := Option.bind_eq_some_iff.mp h
                          refine h_iald rfl rfl hv52 ?_
                          obtain ⟨u53, hu53, h⟩ := Option.bind_eq_some_iff.mp h
                          refine h_iast rfl rfl hu53 ?_
                          show HE V L Kc Ks 219 (394, [(4, .int (b01 y0)), (0, .ref 85), (1, .int x1), (2, .int x2), (3, .int x3)], [], (Q, hpR (sR q51.2 51 u53))) _ _
                          refine h_it 4 (x' := (398, [(4, .int (b01 y0)), (0, .ref 85), (1, .int x1), (2, .int x2), (3, .int x3)], [.int 1, .int x1, .ref 85, .ref 85], (Q, hpR (sR q51.2 51 u53)))) rfl ?_
                          obtain ⟨q54, hq54, h⟩ := Option.bind_eq_some_iff.mp h
                          refine h_callO (As := [.int x1, .int 1]) (r1 := some (.int q54.1)) (st := [.ref 85]) (H1 := (Q, hpR q54.2)) rfl rfl rfl rfl rfl rfl (m220_ok hq54) ?_
                          replace h := Option.some.inj h; subst h
                          refine h_it 1 (x' := (404, [(4, .int (b01 y0)), (0, .ref 85), (1, .int x1), (2, .int x2), (3, .int x3)], [], (Q, hpR (sI q54.2 18 q54.1)))) rfl ?_
                          exact h_vret rfl rfl
                        · replace h := if_n h49 h
                          refine h_y h49 ?_
                          replace h := Option.some.inj h; subst h
                          exact h_vret rfl rfl
theorem m219_25_ok   {x1 : Int32} {x2 : Int32} {x3 : Int32} {s : xSt} {q : xSt} (h : m219_25  x1 x2 x3 s = some q) : HE V L Kc Ks 219 (25, [(0, .ref 85), (1, .int x1), (2, .int x2), (3, .int x3)], [], (Q, hpR s)) (none) (Q, hpR q) := by
  unfold m219_25 at h
  refine h_it 2 (x' := (30, [(0, .ref 85), (1, .int x1), (2, .int x2), (3, .int x3)], [.int 1], (Q, hpR s))) rfl ?_
  refine h_lw (lv := [(0, .ref 85), (1, .int x1), (2, .int x2), (3, .int x3)]) (fa_c rfl (fa_c rfl (fa_c rfl (fa_c rfl (fa_n))))) rfl ?_
  exact m219_30_ok  h
theorem m219_ok {a1 : Int32} {a2 : Int32} {s : xSt} {q : xSt} (h : m219 a1 a2 s = some q) : HC V L Kc Ks 219 [.ref 85, .int a1, .int a2] (Q, hpR s) (none) (Q, hpR q) := by
  unfold m219 at h
  refine hc_of (by decide) rfl ?_
  refine h_it 3 (x' := (5, [(0, .ref 85), (1, .int a1), (2, .int a2)], [.int a1, .ref 127], (Q, hpR s))) rfl ?_
  obtain ⟨v1, hv1, h⟩ := Option.bind_eq_some_iff.mp h
  refine h_iald rfl rfl hv1 ?_
  refine h_it 3 (x' := (10, [(3, .int v1), (0, .ref 85), (1, .int a1), (2, .int a2)], [.int 14, .int v1], (Q, hpR s))) rfl ?_
  refine h_br (b := decide (v1 = 14)) (t := 25) (f := 13) (lv' := [(3, .int v1), (0, .ref 85), (1, .int a1), (2, .int a2)]) (st' := []) rfl rfl ?_
  by_cases h2 : v1 = 14
  · replace h := if_y h2 h
    refine h_y h2 ?_
    refine h_lw (lv := [(0, .ref 85), (1, .int a1), (2, .int a2), (3, .int v1)]) (fa_c rfl (fa_c rfl (fa_c rfl (fa_c rfl (fa_n))))) rfl ?_
    exact m219_25_ok  h
  · replace h := if_n h2 h
    refine h_n h2 ?_
    refine h_it 2 (x' := (16, [(3, .int v1), (0, .ref 85), (1, .int a1), (2, .int a2)], [.int 15, .int v1], (Q, hpR s))) rfl ?_
    refine h_br (b := decide (v1 = 15)) (t := 25) (f := 19) (lv' := [(3, .int v1), (0, .ref 85), (1, .int a1), (2, .int a2)]) (st' := []) rfl rfl ?_
    by_cases h55 : v1 = 15
    · replace h := if_y h55 h
      refine h_y h55 ?_
      refine h_lw (lv := [(0, .ref 85), (1, .int a1), (2, .int a2), (3, .int v1)]) (fa_c rfl (fa_c rfl (fa_c rfl (fa_c rfl (fa_n))))) rfl ?_
      exact m219_25_ok  h
    · replace h := if_n h55 h
      refine h_n h55 ?_
      refine h_it 2 (x' := (22, [(3, .int v1), (0, .ref 85), (1, .int a1), (2, .int a2)], [.int 23, .int v1], (Q, hpR s))) rfl ?_
      refine h_br (b := decide (¬ v1 = 23)) (t := 29) (f := 25) (lv' := [(3, .int v1), (0, .ref 85), (1, .int a1), (2, .int a2)]) (st' := []) rfl rfl ?_
      by_cases h56 : v1 = 23
      · replace h := if_y h56 h
        refine h_n (fun z => z h56) ?_
        refine h_lw (lv := [(0, .ref 85), (1, .int a1), (2, .int a2), (3, .int v1)]) (fa_c rfl (fa_c rfl (fa_c rfl (fa_c rfl (fa_n))))) rfl ?_
        exact m219_25_ok  h
      · replace h := if_n h56 h
        refine h_y h56 ?_
        refine h_it 1 (x' := (30, [(3, .int v1), (0, .ref 85), (1, .int a1), (2, .int a2)], [.int 0], (Q, hpR s))) rfl ?_
        refine h_lw (lv := [(0, .ref 85), (1, .int a1), (2, .int a2), (3, .int v1)]) (fa_c rfl (fa_c rfl (fa_c rfl (fa_c rfl (fa_n))))) rfl ?_
        exact m219_30_ok  h
end Sm219
