section Sm173
variable {V : xmV} {L : List Nat} {Kc Ks : Nat} {Q : List xE}
theorem m173_15_ok   {x1 : Int32} {y0 : Bool} {s : xSt} {q : xSt} (h : m173_15  x1 y0 s = some q) : HE V L Kc Ks 173 (15, [(0, .ref 87), (1, .int x1)], [.int (b01 y0), .ref 87], (Q, hpR s)) (none) (Q, hpR q) := by
  unfold m173_15 at h
  obtain ⟨q2, hq2, h⟩ := Option.bind_eq_some_iff.mp h
  refine h_callO (As := [.int (b01 y0)]) (r1 := some (.int (b01 q2.1))) (st := []) (H1 := (Q, hpR q2.2)) rfl rfl rfl rfl rfl rfl (m158_ok hq2) ?_
  refine h_br (b := decide ((b01 q2.1) = 0)) (t := 34) (f := 21) (lv' := [(0, .ref 87), (1, .int x1)]) (st' := []) rfl rfl ?_
  by_cases h3 : q2.1 = true
  · replace h := if_y h3 h
    refine h_n (b01_1 h3) ?_
    refine h_it 3 (x' := (25, [(0, .ref 87), (1, .int x1)], [.int x1, .int 10, .ref 87], (Q, hpR q2.2))) rfl ?_
    obtain ⟨q4, hq4, h⟩ := Option.bind_eq_some_iff.mp h
    refine h_callO (As := [.int 10, .int x1]) (r1 := none) (st := []) (H1 := (Q, hpR q4)) rfl rfl rfl rfl rfl rfl (m167_ok hq4) ?_
    refine h_it 3 (x' := (31, [(0, .ref 87), (1, .int x1)], [.int x1, .int 1, .ref 87], (Q, hpR q4))) rfl ?_
    obtain ⟨q5, hq5, h⟩ := Option.bind_eq_some_iff.mp h
    refine h_callO (As := [.int 1, .int x1]) (r1 := none) (st := []) (H1 := (Q, hpR q5)) rfl rfl rfl rfl rfl rfl (m167_ok hq5) ?_
    replace h := Option.some.inj h; subst h
    exact h_vret rfl rfl
  · replace h := if_n h3 h
    refine h_y (b01_0 h3) ?_
    replace h := Option.some.inj h; subst h
    exact h_vret rfl rfl
theorem m173_ok {a1 : Int32} {s : xSt} {q : xSt} (h : m173 a1 s = some q) : HC V L Kc Ks 173 [.ref 87, .int a1] (Q, hpR s) (none) (Q, hpR q) := by
  unfold m173 at h
  refine hc_of (by decide) rfl ?_
  refine h_it 4 (x' := (7, [(0, .ref 87), (1, .int a1)], [.int 24, .int (gI s 30), .ref 87], (Q, hpR s))) rfl ?_
  refine h_br (b := decide (24 ≤ (gI s 30))) (t := 14) (f := 10) (lv' := [(0, .ref 87), (1, .int a1)]) (st' := [.ref 87]) rfl rfl ?_
  by_cases h1 : 24 ≤ (gI s 30)
  · replace h := if_y h1 h
    refine h_y h1 ?_
    refine h_it 1 (x' := (15, [(0, .ref 87), (1, .int a1)], [.int 0, .ref 87], (Q, hpR s))) rfl ?_
    refine h_lw (lv := [(0, .ref 87), (1, .int a1)]) (fa_c rfl (fa_c rfl (fa_n))) rfl ?_
    exact m173_15_ok  h
  · replace h := if_n h1 h
    refine h_n h1 ?_
    refine h_it 2 (x' := (15, [(0, .ref 87), (1, .int a1)], [.int 1, .ref 87], (Q, hpR s))) rfl ?_
    refine h_lw (lv := [(0, .ref 87), (1, .int a1)]) (fa_c rfl (fa_c rfl (fa_n))) rfl ?_
    exact m173_15_ok  h
end Sm173
section Sm174
variable {V : xmV} {L : List Nat} {Kc Ks : Nat} {Q : List xE}
theorem m174_15_ok   {y0 : Bool} {s : xSt} {q : xSt} (h : m174_15  y0 s = some q) : HE V L Kc Ks 174 (15, [(0, .ref 87)], [.int (b01 y0), .ref 87], (Q, hpR s)) (none) (Q, hpR q) := by
  unfold m174_15 at h
  obtain ⟨q2, hq2, h⟩ := Option.bind_eq_some_iff.mp h
  refine h_callO (As := [.int (b01 y0)]) (r1 := some (.int (b01 q2.1))) (st := []) (H1 := (Q, hpR q2.2)) rfl rfl rfl rfl rfl rfl (m158_ok hq2) ?_
  refine h_br (b := decide ((b01 q2.1) = 0)) (t := 31) (f := 21) (lv' := [(0, .ref 87)]) (st' := []) rfl rfl ?_
  by_cases h3 : q2.1 = true
  · replace h := if_y h3 h
    refine h_n (b01_1 h3) ?_
    replace h := Option.some.inj h; subst h
    refine h_it 6 (x' := (31, [(0, .ref 87)], [], (Q, hpR (sI q2.2 30 ((gI q2.2 30) + 1))))) rfl ?_
    exact h_vret rfl rfl
  · replace h := if_n h3 h
    refine h_y (b01_0 h3) ?_
    replace h := Option.some.inj h; subst h
    exact h_vret rfl rfl
theorem m174_ok  {s : xSt} {q : xSt} (h : m174  s = some q) : HC V L Kc Ks 174 [.ref 87] (Q, hpR s) (none) (Q, hpR q) := by
  unfold m174 at h
  refine hc_of (by decide) rfl ?_
  refine h_it 4 (x' := (7, [(0, .ref 87)], [.int 24, .int (gI s 30), .ref 87], (Q, hpR s))) rfl ?_
  refine h_br (b := decide (24 ≤ (gI s 30))) (t := 14) (f := 10) (lv' := [(0, .ref 87)]) (st' := [.ref 87]) rfl rfl ?_
  by_cases h1 : 24 ≤ (gI s 30)
  · replace h := if_y h1 h
    refine h_y h1 ?_
    refine h_it 1 (x' := (15, [(0, .ref 87)], [.int 0, .ref 87], (Q, hpR s))) rfl ?_
    refine h_lw (lv := [(0, .ref 87)]) (fa_c rfl (fa_n)) rfl ?_
    exact m174_15_ok  h
  · replace h := if_n h1 h
    refine h_n h1 ?_
    refine h_it 2 (x' := (15, [(0, .ref 87)], [.int 1, .ref 87], (Q, hpR s))) rfl ?_
    refine h_lw (lv := [(0, .ref 87)]) (fa_c rfl (fa_n)) rfl ?_
    exact m174_15_ok  h
end Sm174
section Sm168
variable {V : xmV} {L : List Nat} {Kc Ks : Nat} {Q : List xE}
theorem m168_139_ok   {x2 : Int32} {y0 : Bool} {s : xSt} {q : xSt} (h : m168_139  x2 y0 s = some q) : HE V L Kc Ks 168 (139, [(2, .int x2)], [.int (b01 y0), .ref 87], (Q, hpR s)) (none) (Q, hpR q) := by
  unfold m168_139 at h
  refine h_it 1 (x' := (140, [(2, .int x2)], [.int x2, .int (b01 y0), .ref 87], (Q, hpR s))) rfl ?_
  obtain ⟨q12, hq12, h⟩ := Option.bind_eq_some_iff.mp h
  refine h_callO (As := [.int (b01 y0), .int x2]) (r1 := none) (st := []) (H1 := (Q, hpR q12)) rfl rfl rfl rfl rfl rfl (m169_ok hq12) ?_
  replace h := Option.some.inj h; subst h
  refine h_it 1 (x' := (353, [(2, .int x2)], [], (Q, hpR q12))) rfl ?_
  exact h_vret rfl rfl
theorem m168_160_ok   {y0 : Bool} {s : xSt} {q : xSt} (h : m168_160  y0 s = some q) : HE V L Kc Ks 168 (160, [], [.int (b01 y0), .ref 87], (Q, hpR s)) (none) (Q, hpR q) := by
  unfold m168_160 at h
  obtain ⟨q15, hq15, h⟩ := Option.bind_eq_some_iff.mp h
  refine h_callO (As := [.int (b01 y0)]) (r1 := some (.int (b01 q15.1))) (st := []) (H1 := (Q, hpR q15.2)) rfl rfl rfl rfl rfl rfl (m158_ok hq15) ?_
  replace h := Option.some.inj h; subst h
  refine h_it 2 (x' := (353, [], [], (Q, hpR q15.2))) rfl ?_
  exact h_vret rfl rfl
theorem m168_180_ok   {y0 : Bool} {s : xSt} {q : xSt} (h : m168_180  y0 s = some q) : HE V L Kc Ks 168 (180, [], [.int (b01 y0), .ref 87], (Q, hpR s)) (none) (Q, hpR q) := by
  unfold m168_180 at h
  obtain ⟨q18, hq18, h⟩ := Option.bind_eq_some_iff.mp h
  refine h_callO (As := [.int (b01 y0)]) (r1 := some (.int (b01 q18.1))) (st := []) (H1 := (Q, hpR q18.2)) rfl rfl rfl rfl rfl rfl (m158_ok hq18) ?_
  replace h := Option.some.inj h; subst h
  refine h_it 2 (x' := (353, [], [], (Q, hpR q18.2))) rfl ?_
  exact h_vret rfl rfl
theorem m168_225_ok   {x2 : Int32} {s : xSt} {q : xSt} (h : m168_225  x2 s = some q) : HE V L Kc Ks 168 (225, [(0, .ref 87), (2, .int x2)], [], (Q, hpR s)) (none) (Q, hpR q) := by
  unfold m168_225 at h
  refine h_it 2 (x' := (227, [(0, .ref 87), (2, .int x2)], [.int x2, .ref 87], (Q, hpR s))) rfl ?_
  obtain ⟨q26, hq26, h⟩ := Option.bind_eq_some_iff.mp h
  refine h_callO (As := [.int x2]) (r1 := none) (st := []) (H1 := (Q, hpR q26)) rfl rfl rfl rfl rfl rfl (m173_ok hq26) ?_
  replace h := Option.some.inj h; subst h
  refine h_it 1 (x' := (353, [(0, .ref 87), (2, .int x2)], [], (Q, hpR q26))) rfl ?_
  exact h_vret rfl rfl
theorem m168_267_ok   {x2 : Int32} {y0 : Bool} {s : xSt} {q : xSt} (h : m168_267  x2 y0 s = some q) : HE V L Kc Ks 168 (267, [(0, .ref 87), (2, .int x2)], [.int (b01 y0), .ref 87], (Q, hpR s)) (none) (Q, hpR q) := by
  unfold m168_267 at h
  obtain ⟨q35, hq35, h⟩ := Option.bind_eq_some_iff.mp h
  refine h_callO (As := [.int (b01 y0)]) (r1 := some (.int (b01 q35.1))) (st := []) (H1 := (Q, hpR q35.2)) rfl rfl rfl rfl rfl rfl (m158_ok hq35) ?_
  refine h_br (b := decide ((b01 q35.1) = 0)) (t := 353) (f := 273) (lv' := [(0, .ref 87), (2, .int x2)]) (st' := []) rfl rfl ?_
  by_cases h36 : q35.1 = true
  · replace h := if_y h36 h
    refine h_n (b01_1 h36) ?_
    refine h_it 5 (x' := (282, [(0, .ref 87), (2, .int x2)], [.long (gJ q35.2 0), .int x2, .ref 105], (Q, hpR q35.2))) rfl ?_
    obtain ⟨u37, hu37, h⟩ := Option.bind_eq_some_iff.mp h
    refine h_last rfl rfl hu37 ?_
    show HE V L Kc Ks 168 (283, [(0, .ref 87), (2, .int x2)], [], (Q, hpR (sL q35.2 3 u37))) _ _
    refine h_it 5 (x' := (292, [(0, .ref 87), (2, .int x2)], [.int (gI q35.2 25), .int x2, .ref 101], (Q, hpR (sL q35.2 3 u37)))) rfl ?_
    obtain ⟨u38, hu38, h⟩ := Option.bind_eq_some_iff.mp h
    refine h_iast rfl rfl hu38 ?_
    show HE V L Kc Ks 168 (293, [(0, .ref 87), (2, .int x2)], [], (Q, hpR (sR (sL q35.2 3 u37) 12 u38))) _ _
    refine h_it 1 (x' := (294, [(0, .ref 87), (2, .int x2)], [.ref 87], (Q, hpR (sR (sL q35.2 3 u37) 12 u38)))) rfl ?_
    obtain ⟨q39, hq39, h⟩ := Option.bind_eq_some_iff.mp h
    refine h_callO (As := []) (r1 := none) (st := []) (H1 := (Q, hpR q39)) rfl rfl rfl rfl rfl rfl (m174_ok hq39) ?_
    replace h := Option.some.inj h; subst h
    refine h_it 1 (x' := (353, [(0, .ref 87), (2, .int x2)], [], (Q, hpR q39))) rfl ?_
    exact h_vret rfl rfl
  · replace h := if_n h36 h
    refine h_y (b01_0 h36) ?_
    replace h := Option.some.inj h; subst h
    exact h_vret rfl rfl
theorem m168_266_ok   {x2 : Int32} {s : xSt} {q : xSt} (h : m168_266  x2 s = some q) : HE V L Kc Ks 168 (266, [(0, .ref 87), (2, .int x2)], [.ref 87], (Q, hpR s)) (none) (Q, hpR q) := by
  unfold m168_266 at h
  refine h_it 1 (x' := (267, [(0, .ref 87), (2, .int x2)], [.int 0, .ref 87], (Q, hpR s))) rfl ?_
  refine h_lw (lv := [(0, .ref 87), (2, .int x2)]) (fa_c rfl (fa_c rfl (fa_n))) rfl ?_
  exact m168_267_ok  h
set_option maxHeartbeats 20000000 in
theorem m168_ok  {s : xSt} {q : xSt} (h : m168  s = some q) : HC V L Kc Ks 168 [.ref 87] (Q, hpR s) (none) (Q, hpR q) := by
  unfold m168 at h
  refine hc_of (by decide) rfl ?_
  refine h_it 10 (x' := (18, [(0, .ref 87)], [.int ((gI s 29) - 1), .ref 106], (Q, hpR (sI s 29 ((gI s 29) - 1))))) rfl ?_
  obtain ⟨v1, hv1, h⟩ := Option.bind_eq_some_iff.mp h
  refine h_bald rfl (Or.inl rfl) rfl hv1 ?_
  refine h_it 5 (x' := (28, [(1, .int v1), (0, .ref 87)], [.int ((gI s 29) - 1), .ref 107], (Q, hpR (sI s 29 ((gI s 29) - 1))))) rfl ?_
  obtain ⟨v2, hv2, h⟩ := Option.bind_eq_some_iff.mp h
  refine h_iald rfl rfl hv2 ?_
  refine h_it 3 (x' := (33, [(2, .int v2), (1, .int v1), (0, .ref 87)], [.int 8, .int v1], (Q, hpR (sI s 29 ((gI s 29) - 1))))) rfl ?_
  refine h_br (b := decide (¬ v1 = 8)) (t := 73) (f := 36) (lv' := [(2, .int v2), (1, .int v1), (0, .ref 87)]) (st' := []) rfl rfl ?_
  by_cases h3 : v1 = 8
  · replace h := if_y h3 h
    refine h_n (fun z => z h3) ?_
    refine h_it 6 (x' := (46, [(2, .int v2), (1, .int v1), (0, .ref 87)], [.int v2, .ref 97, .int (gI s 30), .ref 87], (Q, hpR (sI s 29 ((gI s 29) - 1))))) rfl ?_
    obtain ⟨v4, hv4, h⟩ := Option.bind_eq_some_iff.mp h
    refine h_iald rfl rfl hv4 ?_
    refine h_it 1 (x' := (49, [(2, .int v2), (1, .int v1), (0, .ref 87)], [.int 12, .int v4, .int (gI s 30), .ref 87], (Q, hpR (sI s 29 ((gI s 29) - 1))))) rfl ?_
    refine h_br (b := decide (v4 = 12)) (t := 63) (f := 52) (lv' := [(2, .int v2), (1, .int v1), (0, .ref 87)]) (st' := [.int (gI s 30), .ref 87]) rfl rfl ?_
    by_cases h5 : v4 = 12
    · replace h := if_y h5 h
      refine h_y h5 ?_
      replace h := Option.some.inj h; subst h
      refine h_it 4 (x' := (72, [(2, .int v2), (1, .int v1), (0, .ref 87)], [], (Q, hpR (sI (sI s 29 ((gI s 29) - 1)) 30 ((gI s 30) - 2))))) rfl ?_
      exact h_vret rfl rfl
    · replace h := if_n h5 h
      refine h_n h5 ?_
      refine h_it 3 (x' := (57, [(2, .int v2), (1, .int v1), (0, .ref 87)], [.int v2, .ref 97, .int (gI s 30), .ref 87], (Q, hpR (sI s 29 ((gI s 29) - 1))))) rfl ?_
      obtain ⟨v6, hv6, h⟩ := Option.bind_eq_some_iff.mp h
      refine h_iald rfl rfl hv6 ?_
      refine h_it 1 (x' := (60, [(2, .int v2), (1, .int v1), (0, .ref 87)], [.int 22, .int v6, .int (gI s 30), .ref 87], (Q, hpR (sI s 29 ((gI s 29) - 1))))) rfl ?_
      refine h_br (b := decide (¬ v6 = 22)) (t := 67) (f := 63) (lv' := [(2, .int v2), (1, .int v1), (0, .ref 87)]) (st' := [.int (gI s 30), .ref 87]) rfl rfl ?_
      by_cases h7 : v6 = 22
      · replace h := if_y h7 h
        refine h_n (fun z => z h7) ?_
        replace h := Option.some.inj h; subst h
        refine h_it 4 (x' := (72, [(2, .int v2), (1, .int v1), (0, .ref 87)], [], (Q, hpR (sI (sI s 29 ((gI s 29) - 1)) 30 ((gI s 30) - 2))))) rfl ?_
        exact h_vret rfl rfl
      · replace h := if_n h7 h
        refine h_y h7 ?_
        replace h := Option.some.inj h; subst h
        refine h_it 3 (x' := (72, [(2, .int v2), (1, .int v1), (0, .ref 87)], [], (Q, hpR (sI (sI s 29 ((gI s 29) - 1)) 30 ((gI s 30) - 1))))) rfl ?_
        exact h_vret rfl rfl
  · replace h := if_n h3 h
    refine h_y h3 ?_
    refine h_it 1 (x' := (74, [(2, .int v2), (1, .int v1), (0, .ref 87)], [.ref 87], (Q, hpR (sI s 29 ((gI s 29) - 1))))) rfl ?_
    obtain ⟨q8, hq8, h⟩ := Option.bind_eq_some_iff.mp h
    refine h_callO (As := []) (r1 := none) (st := []) (H1 := (Q, hpR q8)) rfl rfl rfl rfl rfl rfl (m150_ok hq8) ?_
    refine h_it 2 (x' := (81, [(2, .int v2), (1, .int v1), (0, .ref 87)], [.int (gI q8 21)], (Q, hpR q8))) rfl ?_
    refine h_br (b := decide ((gI q8 21) ≤ 0)) (t := 85) (f := 84) (lv' := [(2, .int v2), (1, .int v1), (0, .ref 87)]) (st' := []) rfl rfl ?_
    by_cases h9 : (gI q8 21) ≤ 0
    · replace h := if_y h9 h
      refine h_y h9 ?_
      refine h_it 1 (x' := (86, [(2, .int v2), (1, .int v1), (0, .ref 87)], [.int v1], (Q, hpR q8))) rfl ?_
      by_cases h10 : v1 = 1 ∨ v1 = 2
      · replace h := if_y h10 h
        refine h_ts (t := 128) rfl (by rcases h10 with e9 | e9 <;> rw [e9] <;> decide) ?_
        refine h_it 3 (x' := (131, [(2, .int v2), (1, .int v1), (0, .ref 87)], [.int 1, .int v1, .ref 87], (Q, hpR q8))) rfl ?_
        refine h_br (b := decide (¬ v1 = 1)) (t := 138) (f := 134) (lv' := [(2, .int v2), (1, .int v1), (0, .ref 87)]) (st' := [.ref 87]) rfl rfl ?_
        by_cases h11 : v1 = 1
        · replace h := if_y h11 h
          refine h_n (fun z => z h11) ?_
          refine h_it 2 (x' := (139, [(2, .int v2), (1, .int v1), (0, .ref 87)], [.int 1, .ref 87], (Q, hpR q8))) rfl ?_
          refine h_lw (lv := [(2, .int v2)]) (fa_c rfl (fa_n)) rfl ?_
          exact m168_139_ok  h
        · replace h := if_n h11 h
          refine h_y h11 ?_
          refine h_it 1 (x' := (139, [(2, .int v2), (1, .int v1), (0, .ref 87)], [.int 0, .ref 87], (Q, hpR q8))) rfl ?_
          refine h_lw (lv := [(2, .int v2)]) (fa_c rfl (fa_n)) rfl ?_
          exact m168_139_ok  h
      replace h := if_n h10 h
      by_cases h13 : v1 = 3
      · replace h := if_y h13 h
        refine h_ts (t := 146) rfl (by rw [h13]; decide) ?_
        refine h_it 4 (x' := (152, [(2, .int v2), (1, .int v1), (0, .ref 87)], [.int 1, .int (gI q8 24), .ref 87], (Q, hpR q8))) rfl ?_
        refine h_br (b := decide (¬ (gI q8 24) = 1)) (t := 159) (f := 155) (lv' := [(2, .int v2), (1, .int v1), (0, .ref 87)]) (st' := [.ref 87]) rfl rfl ?_
        by_cases h14 : (gI q8 24) = 1
        · replace h := if_y h14 h
          refine h_n (fun z => z h14) ?_
          refine h_it 2 (x' := (160, [(2, .int v2), (1, .int v1), (0, .ref 87)], [.int 1, .ref 87], (Q, hpR q8))) rfl ?_
          refine h_lw (lv := []) (fa_n) rfl ?_
          exact m168_160_ok  h
        · replace h := if_n h14 h
          refine h_y h14 ?_
          refine h_it 1 (x' := (160, [(2, .int v2), (1, .int v1), (0, .ref 87)], [.int 0, .ref 87], (Q, hpR q8))) rfl ?_
          refine h_lw (lv := []) (fa_n) rfl ?_
          exact m168_160_ok  h
      replace h := if_n h13 h
      by_cases h16 : v1 = 4
      · replace h := if_y h16 h
        refine h_ts (t := 167) rfl (by rw [h16]; decide) ?_
        refine h_it 3 (x' := (172, [(2, .int v2), (1, .int v1), (0, .ref 87)], [.int (gI q8 24), .ref 87], (Q, hpR q8))) rfl ?_
        refine h_br (b := decide (¬ (gI q8 24) = 0)) (t := 179) (f := 175) (lv' := [(2, .int v2), (1, .int v1), (0, .ref 87)]) (st' := [.ref 87]) rfl rfl ?_
        by_cases h17 : (gI q8 24) = 0
        · replace h := if_y h17 h
          refine h_n (fun z => z h17) ?_
          refine h_it 2 (x' := (180, [(2, .int v2), (1, .int v1), (0, .ref 87)], [.int 1, .ref 87], (Q, hpR q8))) rfl ?_
          refine h_lw (lv := []) (fa_n) rfl ?_
          exact m168_180_ok  h
        · replace h := if_n h17 h
          refine h_y h17 ?_
          refine h_it 1 (x' := (180, [(2, .int v2), (1, .int v1), (0, .ref 87)], [.int 0, .ref 87], (Q, hpR q8))) rfl ?_
          refine h_lw (lv := []) (fa_n) rfl ?_
          exact m168_180_ok  h
      replace h := if_n h16 h
      by_cases h19 : v1 = 5
      · replace h := if_y h19 h
        refine h_ts (t := 187) rfl (by rw [h19]; decide) ?_
        refine h_it 2 (x' := (189, [(2, .int v2), (1, .int v1), (0, .ref 87)], [.ref 87, .ref 87], (Q, hpR q8))) rfl ?_
        obtain ⟨q20, hq20, h⟩ := Option.bind_eq_some_iff.mp h
        refine h_callO (As := []) (r1 := some (.int (b01 q20.1))) (st := [.ref 87]) (H1 := (Q, hpR q20.2)) rfl rfl rfl rfl rfl rfl (m160_ok hq20) ?_
        obtain ⟨q21, hq21, h⟩ := Option.bind_eq_some_iff.mp h
        refine h_callO (As := [.int (b01 q20.1)]) (r1 := some (.int (b01 q21.1))) (st := []) (H1 := (Q, hpR q21.2)) rfl rfl rfl rfl rfl rfl (m158_ok hq21) ?_
        refine h_br (b := decide ((b01 q21.1) = 0)) (t := 353) (f := 198) (lv' := [(2, .int v2), (1, .int v1), (0, .ref 87)]) (st' := []) rfl rfl ?_
        by_cases h22 : q21.1 = true
        · replace h := if_y h22 h
          refine h_n (b01_1 h22) ?_
          refine h_it 2 (x' := (200, [(2, .int v2), (1, .int v1), (0, .ref 87)], [.int v2, .ref 87], (Q, hpR q21.2))) rfl ?_
          obtain ⟨q23, hq23, h⟩ := Option.bind_eq_some_iff.mp h
          refine h_callO (As := [.int v2]) (r1 := none) (st := []) (H1 := (Q, hpR q23)) rfl rfl rfl rfl rfl rfl (m171_ok hq23) ?_
          refine h_it 3 (x' := (208, [(2, .int v2), (1, .int v1), (0, .ref 87)], [.int v2, .ref 97], (Q, hpR q23))) rfl ?_
          obtain ⟨v24, hv24, h⟩ := Option.bind_eq_some_iff.mp h
          refine h_iald rfl rfl hv24 ?_
          refine h_it 1 (x' := (211, [(2, .int v2), (1, .int v1), (0, .ref 87)], [.int 11, .int v24], (Q, hpR q23))) rfl ?_
          refine h_br (b := decide (v24 = 11)) (t := 225) (f := 214) (lv' := [(2, .int v2), (1, .int v1), (0, .ref 87)]) (st' := []) rfl rfl ?_
          by_cases h25 : v24 = 11
          · replace h := if_y h25 h
            refine h_y h25 ?_
            refine h_lw (lv := [(0, .ref 87), (2, .int v2)]) (fa_c rfl (fa_c rfl (fa_n))) rfl ?_
            exact m168_225_ok  h
          · replace h := if_n h25 h
            refine h_n h25 ?_
            refine h_it 3 (x' := (219, [(2, .int v2), (1, .int v1), (0, .ref 87)], [.int v2, .ref 97], (Q, hpR q23))) rfl ?_
            obtain ⟨v27, hv27, h⟩ := Option.bind_eq_some_iff.mp h
            refine h_iald rfl rfl hv27 ?_
            refine h_it 1 (x' := (222, [(2, .int v2), (1, .int v1), (0, .ref 87)], [.int 21, .int v27], (Q, hpR q23))) rfl ?_
            refine h_br (b := decide (¬ v27 = 21)) (t := 233) (f := 225) (lv' := [(2, .int v2), (1, .int v1), (0, .ref 87)]) (st' := []) rfl rfl ?_
            by_cases h28 : v27 = 21
            · replace h := if_y h28 h
              refine h_n (fun z => z h28) ?_
              refine h_lw (lv := [(0, .ref 87), (2, .int v2)]) (fa_c rfl (fa_c rfl (fa_n))) rfl ?_
              exact m168_225_ok  h
            · replace h := if_n h28 h
              refine h_y h28 ?_
              refine h_it 1 (x' := (234, [(2, .int v2), (1, .int v1), (0, .ref 87)], [.ref 87], (Q, hpR q23))) rfl ?_
              obtain ⟨q29, hq29, h⟩ := Option.bind_eq_some_iff.mp h
              refine h_callO (As := []) (r1 := none) (st := []) (H1 := (Q, hpR q29)) rfl rfl rfl rfl rfl rfl (m174_ok hq29) ?_
              replace h := Option.some.inj h; subst h
              refine h_it 1 (x' := (353, [(2, .int v2), (1, .int v1), (0, .ref 87)], [], (Q, hpR q29))) rfl ?_
              exact h_vret rfl rfl
        · replace h := if_n h22 h
          refine h_y (b01_0 h22) ?_
          replace h := Option.some.inj h; subst h
          exact h_vret rfl rfl
      replace h := if_n h19 h
      by_cases h30 : v1 = 6
      · replace h := if_y h30 h
        refine h_ts (t := 240) rfl (by rw [h30]; decide) ?_
        refine h_it 2 (x' := (242, [(2, .int v2), (1, .int v1), (0, .ref 87)], [.ref 87, .ref 87], (Q, hpR q8))) rfl ?_
        obtain ⟨q31, hq31, h⟩ := Option.bind_eq_some_iff.mp h
        refine h_callO (As := []) (r1 := some (.int (b01 q31.1))) (st := [.ref 87]) (H1 := (Q, hpR q31.2)) rfl rfl rfl rfl rfl rfl (m160_ok hq31) ?_
        refine h_br (b := decide ((b01 q31.1) = 0)) (t := 266) (f := 248) (lv' := [(2, .int v2), (1, .int v1), (0, .ref 87)]) (st' := [.ref 87]) rfl rfl ?_
        by_cases h32 : q31.1 = true
        · replace h := if_y h32 h
          refine h_n (b01_1 h32) ?_
          refine h_it 5 (x' := (257, [(2, .int v2), (1, .int v1), (0, .ref 87)], [.int v2, .ref 104, .long (gJ q31.2 0), .ref 87], (Q, hpR q31.2))) rfl ?_
          obtain ⟨v33, hv33, h⟩ := Option.bind_eq_some_iff.mp h
          refine h_lald rfl rfl hv33 ?_
          refine h_it 1 (x' := (259, [(2, .int v2), (1, .int v1), (0, .ref 87)], [.int (lg_cmp (gJ q31.2 0) v33), .ref 87], (Q, hpR q31.2))) rfl ?_
          refine h_br (b := decide ((lg_cmp (gJ q31.2 0) v33) = 0)) (t := 266) (f := 262) (lv' := [(2, .int v2), (1, .int v1), (0, .ref 87)]) (st' := [.ref 87]) rfl rfl ?_
          by_cases h34 : (lg_cmp (gJ q31.2 0) v33) = 0
          · replace h := if_y h34 h
            refine h_y h34 ?_
            refine h_lw (lv := [(0, .ref 87), (2, .int v2)]) (fa_c rfl (fa_c rfl (fa_n))) rfl ?_
            exact m168_266_ok  h
          · replace h := if_n h34 h
            refine h_n h34 ?_
            refine h_it 2 (x' := (267, [(2, .int v2), (1, .int v1), (0, .ref 87)], [.int 1, .ref 87], (Q, hpR q31.2))) rfl ?_
            refine h_lw (lv := [(0, .ref 87), (2, .int v2)]) (fa_c rfl (fa_c rfl (fa_n))) rfl ?_
            exact m168_267_ok  h
        · replace h := if_n h32 h
          refine h_y (b01_0 h32) ?_
          refine h_lw (lv := [(0, .ref 87), (2, .int v2)]) (fa_c rfl (fa_c rfl (fa_n))) rfl ?_
          exact m168_266_ok  h
      replace h := if_n h30 h
      by_cases h40 : v1 = 7
      · replace h := if_y h40 h
        refine h_ts (t := 300) rfl (by rw [h40]; decide) ?_
        refine h_it 3 (x' := (305, [(2, .int v2), (1, .int v1), (0, .ref 87)], [.int 1, .int (gI q8 24)], (Q, hpR q8))) rfl ?_
        refine h_br (b := decide ((gI q8 24) = 1)) (t := 324) (f := 308) (lv' := [(2, .int v2), (1, .int v1), (0, .ref 87)]) (st' := []) rfl rfl ?_
        by_cases h41 : (gI q8 24) = 1
        · replace h := if_y h41 h
          refine h_y h41 ?_
          replace h := Option.some.inj h; subst h
          refine h_it 7 (x' := (353, [(2, .int v2), (1, .int v1), (0, .ref 87)], [], (Q, hpR (sI q8 29 ((gI q8 29) - 1))))) rfl ?_
          exact h_vret rfl rfl
        · replace h := if_n h41 h
          refine h_n h41 ?_
          refine h_it 3 (x' := (312, [(2, .int v2), (1, .int v1), (0, .ref 87)], [.int v2, .int 7, .ref 87], (Q, hpR q8))) rfl ?_
          obtain ⟨q42, hq42, h⟩ := Option.bind_eq_some_iff.mp h
          refine h_callO (As := [.int 7, .int v2]) (r1 := none) (st := []) (H1 := (Q, hpR q42)) rfl rfl rfl rfl rfl rfl (m167_ok hq42) ?_
          refine h_it 3 (x' := (318, [(2, .int v2), (1, .int v1), (0, .ref 87)], [.int v2, .int (b01 true), .ref 87], (Q, hpR q42))) rfl ?_
          obtain ⟨q43, hq43, h⟩ := Option.bind_eq_some_iff.mp h
          refine h_callO (As := [.int (b01 true), .int v2]) (r1 := none) (st := []) (H1 := (Q, hpR q43)) rfl rfl rfl rfl rfl rfl (m169_ok hq43) ?_
          replace h := Option.some.inj h; subst h
          refine h_it 1 (x' := (353, [(2, .int v2), (1, .int v1), (0, .ref 87)], [], (Q, hpR q43))) rfl ?_
          exact h_vret rfl rfl
      replace h := if_n h40 h
      refine h_ts (t := 337) rfl (ts_d [1, 2, 3, 4, 5, 6, 7] rfl (by decide) (fun v hv => by
          simp only [List.mem_cons, List.not_mem_nil, or_false] at hv
          rcases hv with rfl | rfl | rfl | rfl | rfl | rfl | rfl
          · exact (fun e9 => h10 (Or.inl e9))
          · exact (fun e9 => h10 (Or.inr (e9)))
          · exact h13
          · exact h16
          · exact h19
          · exact h30
          · exact h40)) ?_
      refine h_it 2 (x' := (339, [(2, .int v2), (1, .int v1), (0, .ref 87)], [.ref 87, .ref 87], (Q, hpR q8))) rfl ?_
      obtain ⟨q44, hq44, h⟩ := Option.bind_eq_some_iff.mp h
      refine h_callO (As := []) (r1 := some (.int (b01 q44.1))) (st := [.ref 87]) (H1 := (Q, hpR q44.2)) rfl rfl rfl rfl rfl rfl (m160_ok hq44) ?_
      obtain ⟨q45, hq45, h⟩ := Option.bind_eq_some_iff.mp h
      refine h_callO (As := [.int (b01 q44.1)]) (r1 := some (.int (b01 q45.1))) (st := []) (H1 := (Q, hpR q45.2)) rfl rfl rfl rfl rfl rfl (m158_ok hq45) ?_
      refine h_br (b := decide ((b01 q45.1) = 0)) (t := 353) (f := 348) (lv' := [(2, .int v2), (1, .int v1), (0, .ref 87)]) (st' := []) rfl rfl ?_
      by_cases h46 : q45.1 = true
      · replace h := if_y h46 h
        refine h_n (b01_1 h46) ?_
        refine h_it 2 (x' := (350, [(2, .int v2), (1, .int v1), (0, .ref 87)], [.int v2, .ref 87], (Q, hpR q45.2))) rfl ?_
        obtain ⟨q47, hq47, h⟩ := Option.bind_eq_some_iff.mp h
        refine h_callO (As := [.int v2]) (r1 := none) (st := []) (H1 := (Q, hpR q47)) rfl rfl rfl rfl rfl rfl (m171_ok hq47) ?_
        replace h := Option.some.inj h; subst h
        exact h_vret rfl rfl
      · replace h := if_n h46 h
        refine h_y (b01_0 h46) ?_
        replace h := Option.some.inj h; subst h
        exact h_vret rfl rfl
    · replace h := if_n h9 h
      refine h_n h9 ?_
      replace h := Option.some.inj h; subst h
      exact h_vret rfl rfl
end Sm168
section Sm166
variable {V : xmV} {L : List Nat} {Kc Ks : Nat} {Q : List xE}
theorem m166_19_ok   : ∀ (n : Nat)  (s : xSt) (q : xSt), m166_19  n  s = some q → HE V L Kc Ks 166 (19, [(0, .ref 87)], [], (Q, hpR s)) (none) (Q, hpR q) := by
  intro n
  induction n with
  | zero => intro  s q h; cases h
  | succ n ih =>
    intro  s q h
    unfold m166_19 at h
    refine h_it 2 (x' := (23, [(0, .ref 87)], [.int (gI s 29)], (Q, hpR s))) rfl ?_
    refine h_br (b := decide ((gI s 29) ≤ 0)) (t := 79) (f := 26) (lv' := [(0, .ref 87)]) (st' := []) rfl rfl ?_
    by_cases h3 : (gI s 29) ≤ 0
    · replace h := if_y h3 h
      refine h_y h3 ?_
      replace h := Option.some.inj h; subst h
      exact h_vret rfl rfl
    · replace h := if_n h3 h
      refine h_n h3 ?_
      refine h_it 2 (x' := (30, [(0, .ref 87)], [.int (gI s 21)], (Q, hpR s))) rfl ?_
      refine h_br (b := decide (¬ (gI s 21) = 0)) (t := 79) (f := 33) (lv' := [(0, .ref 87)]) (st' := []) rfl rfl ?_
      by_cases h4 : (gI s 21) = 0
      · replace h := if_y h4 h
        refine h_n (fun z => z h4) ?_
        refine h_it 6 (x' := (43, [(0, .ref 87)], [.int ((gI s 29) - 1), .ref 106], (Q, hpR s))) rfl ?_
        obtain ⟨v5, hv5, h⟩ := Option.bind_eq_some_iff.mp h
        refine h_bald rfl (Or.inl rfl) rfl hv5 ?_
        refine h_it 1 (x' := (46, [(0, .ref 87)], [.int 10, .int v5], (Q, hpR s))) rfl ?_
        refine h_br (b := decide (¬ v5 = 10)) (t := 72) (f := 49) (lv' := [(0, .ref 87)]) (st' := []) rfl rfl ?_
        by_cases h6 : v5 = 10
        · replace h := if_y h6 h
          refine h_n (fun z => z h6) ?_
          refine h_it 13 (x' := (19, [(0, .ref 87)], [], (Q, hpR (sI (sI s 29 ((gI s 29) - 1)) 30 ((gI s 30) + 1))))) rfl ?_
          refine h_lw (lv := [(0, .ref 87)]) (fa_c rfl (fa_n)) rfl ?_
          exact ih (sI (sI s 29 ((gI s 29) - 1)) 30 ((gI s 30) + 1)) _ h
        · replace h := if_n h6 h
          refine h_y h6 ?_
          refine h_it 1 (x' := (73, [(0, .ref 87)], [.ref 87], (Q, hpR s))) rfl ?_
          obtain ⟨q7, hq7, h⟩ := Option.bind_eq_some_iff.mp h
          refine h_callO (As := []) (r1 := none) (st := []) (H1 := (Q, hpR q7)) rfl rfl rfl rfl rfl rfl (m168_ok hq7) ?_
          refine h_it 1 (x' := (19, [(0, .ref 87)], [], (Q, hpR q7))) rfl ?_
          refine h_lw (lv := [(0, .ref 87)]) (fa_c rfl (fa_n)) rfl ?_
          exact ih q7 _ h
      · replace h := if_n h4 h
        refine h_y h4 ?_
        replace h := Option.some.inj h; subst h
        exact h_vret rfl rfl
theorem m166_15_ok   {y0 : Int32} {s : xSt} {q : xSt} (h : m166_15  y0 s = some q) : HE V L Kc Ks 166 (15, [(0, .ref 87)], [.int y0, .ref 87], (Q, hpR s)) (none) (Q, hpR q) := by
  unfold m166_15 at h
  refine h_it 1 (x' := (16, [(0, .ref 87)], [.int (-1), .int y0, .ref 87], (Q, hpR s))) rfl ?_
  obtain ⟨q2, hq2, h⟩ := Option.bind_eq_some_iff.mp h
  refine h_callO (As := [.int y0, .int (-1)]) (r1 := none) (st := []) (H1 := (Q, hpR q2)) rfl rfl rfl rfl rfl rfl (m167_ok hq2) ?_
  refine h_lw (lv := [(0, .ref 87)]) (fa_c rfl (fa_n)) rfl ?_
  exact m166_19_ok  1000000 q2 _ h
theorem m166_ok {b1 : Bool} {s : xSt} {q : xSt} (h : m166 b1 s = some q) : HC V L Kc Ks 166 [.ref 87, .int (b01 b1)] (Q, hpR s) (none) (Q, hpR q) := by
  unfold m166 at h
  refine hc_of (by decide) rfl ?_
  refine h_it 5 (x' := (7, [(0, .ref 87), (1, .int (b01 b1))], [.int (b01 b1), .ref 87], (Q, hpR (sI s 29 0)))) rfl ?_
  refine h_br (b := decide ((b01 b1) = 0)) (t := 14) (f := 10) (lv' := [(0, .ref 87), (1, .int (b01 b1))]) (st' := [.ref 87]) rfl rfl ?_
  by_cases h1 : b1 = true
  · replace h := if_y h1 h
    refine h_n (b01_1 h1) ?_
    refine h_it 2 (x' := (15, [(0, .ref 87), (1, .int (b01 b1))], [.int 1, .ref 87], (Q, hpR (sI s 29 0)))) rfl ?_
    refine h_lw (lv := [(0, .ref 87)]) (fa_c rfl (fa_n)) rfl ?_
    exact m166_15_ok  h
  · replace h := if_n h1 h
    refine h_y (b01_0 h1) ?_
    refine h_it 1 (x' := (15, [(0, .ref 87), (1, .int (b01 b1))], [.int 2, .ref 87], (Q, hpR (sI s 29 0)))) rfl ?_
    refine h_lw (lv := [(0, .ref 87)]) (fa_c rfl (fa_n)) rfl ?_
    exact m166_15_ok  h
end Sm166
section Sm157
variable {V : xmV} {L : List Nat} {Kc Ks : Nat} {Q : List xE}
theorem m157_292_ok {K240 : Int32 → Bool → xSt → Option (xSt)} (hK240 : ∀ (x1 : Int32) (x3 : Bool) (s : xSt) (q : xSt), K240 x1 x3 s = some q → HE V L Kc Ks 157 (240, [(0, .ref 87), (1, .int x1), (3, .int (b01 x3))], [], (Q, hpR s)) (none) (Q, hpR q)) {x1 : Int32} {y0 : Bool} {s : xSt} {q : xSt} (h : m157_292 K240 x1 y0 s = some q) : HE V L Kc Ks 157 (292, [(0, .ref 87), (1, .int x1)], [.int (b01 y0)], (Q, hpR s)) (none) (Q, hpR q) := by
  unfold m157_292 at h
  refine h_it 2 (x' := (294, [(3, .int (b01 y0)), (0, .ref 87), (1, .int x1)], [.int (b01 y0)], (Q, hpR s))) rfl ?_
  refine h_br (b := decide ((b01 y0) = 0)) (t := 240) (f := 297) (lv' := [(3, .int (b01 y0)), (0, .ref 87), (1, .int x1)]) (st' := []) rfl rfl ?_
  by_cases h30 : y0 = true
  · replace h := if_y h30 h
    refine h_n (b01_1 h30) ?_
    refine h_it 2 (x' := (301, [(3, .int (b01 y0)), (0, .ref 87), (1, .int x1)], [.int (gI s 21)], (Q, hpR s))) rfl ?_
    refine h_br (b := decide (¬ (gI s 21) = 0)) (t := 240) (f := 304) (lv' := [(3, .int (b01 y0)), (0, .ref 87), (1, .int x1)]) (st' := []) rfl rfl ?_
    by_cases h31 : (gI s 21) = 0
    · replace h := if_y h31 h
      refine h_n (fun z => z h31) ?_
      refine h_it 2 (x' := (306, [(3, .int (b01 y0)), (0, .ref 87), (1, .int x1)], [.int x1, .ref 87], (Q, hpR s))) rfl ?_
      obtain ⟨q32, hq32, h⟩ := Option.bind_eq_some_iff.mp h
      refine h_callO (As := [.int x1]) (r1 := none) (st := []) (H1 := (Q, hpR q32)) rfl rfl rfl rfl rfl rfl (m165_ok hq32) ?_
      refine h_it 1 (x' := (240, [(3, .int (b01 y0)), (0, .ref 87), (1, .int x1)], [], (Q, hpR q32))) rfl ?_
      refine h_lw (lv := [(0, .ref 87), (1, .int x1), (3, .int (b01 y0))]) (fa_c rfl (fa_c rfl (fa_c rfl (fa_n)))) rfl ?_
      exact hK240 x1 y0 q32 _ h
    · replace h := if_n h31 h
      refine h_y h31 ?_
      refine h_lw (lv := [(0, .ref 87), (1, .int x1), (3, .int (b01 y0))]) (fa_c rfl (fa_c rfl (fa_c rfl (fa_n)))) rfl ?_
      exact hK240 x1 y0 s _ h
  · replace h := if_n h30 h
    refine h_y (b01_0 h30) ?_
    refine h_lw (lv := [(0, .ref 87), (1, .int x1), (3, .int (b01 y0))]) (fa_c rfl (fa_c rfl (fa_c rfl (fa_n)))) rfl ?_
    exact hK240 x1 y0 s _ h
theorem m157_276_ok {K240 : Int32 → Bool → xSt → Option (xSt)} (hK240 : ∀ (x1 : Int32) (x3 : Bool) (s : xSt) (q : xSt), K240 x1 x3 s = some q → HE V L Kc Ks 157 (240, [(0, .ref 87), (1, .int x1), (3, .int (b01 x3))], [], (Q, hpR s)) (none) (Q, hpR q)) {x1 : Int32} {y0 : Bool} {s : xSt} {q : xSt} (h : m157_276 K240 x1 y0 s = some q) : HE V L Kc Ks 157 (276, [(0, .ref 87), (1, .int x1)], [.int (b01 y0), .ref 87], (Q, hpR s)) (none) (Q, hpR q) := by
  unfold m157_276 at h
  obtain ⟨q28, hq28, h⟩ := Option.bind_eq_some_iff.mp h
  refine h_callO (As := [.int (b01 y0)]) (r1 := some (.int (b01 q28.1))) (st := []) (H1 := (Q, hpR q28.2)) rfl rfl rfl rfl rfl rfl (m158_ok hq28) ?_
  refine h_it 3 (x' := (284, [(0, .ref 87), (1, .int x1)], [.int (gI q28.2 24)], (Q, hpR q28.2))) rfl ?_
  refine h_br (b := decide (¬ (gI q28.2 24) = 0)) (t := 291) (f := 287) (lv' := [(0, .ref 87), (1, .int x1)]) (st' := []) rfl rfl ?_
  by_cases h29 : (gI q28.2 24) = 0
  · replace h := if_y h29 h
    refine h_n (fun z => z h29) ?_
    refine h_it 2 (x' := (292, [(0, .ref 87), (1, .int x1)], [.int 1], (Q, hpR q28.2))) rfl ?_
    refine h_lw (lv := [(0, .ref 87), (1, .int x1)]) (fa_c rfl (fa_c rfl (fa_n))) rfl ?_
    exact m157_292_ok hK240 h
  · replace h := if_n h29 h
    refine h_y h29 ?_
    refine h_it 1 (x' := (292, [(0, .ref 87), (1, .int x1)], [.int 0], (Q, hpR q28.2))) rfl ?_
    refine h_lw (lv := [(0, .ref 87), (1, .int x1)]) (fa_c rfl (fa_c rfl (fa_n))) rfl ?_
    exact m157_292_ok hK240 h
theorem m157_271_ok {K240 : Int32 → Bool → xSt → Option (xSt)} (hK240 : ∀ (x1 : Int32) (x3 : Bool) (s : xSt) (q : xSt), K240 x1 x3 s = some q → HE V L Kc Ks 157 (240, [(0, .ref 87), (1, .int x1), (3, .int (b01 x3))], [], (Q, hpR s)) (none) (Q, hpR q)) {x1 : Int32} {s : xSt} {q : xSt} (h : m157_271 K240 x1 s = some q) : HE V L Kc Ks 157 (271, [(0, .ref 87), (1, .int x1)], [.ref 87], (Q, hpR s)) (none) (Q, hpR q) := by
  unfold m157_271 at h
  refine h_it 2 (x' := (276, [(0, .ref 87), (1, .int x1)], [.int 1, .ref 87], (Q, hpR s))) rfl ?_
  refine h_lw (lv := [(0, .ref 87), (1, .int x1)]) (fa_c rfl (fa_c rfl (fa_n))) rfl ?_
  exact m157_276_ok hK240 h
theorem m157_455_ok   {y0 : Bool} {s : xSt} {q : xSt} (h : m157_455  y0 s = some q) : HE V L Kc Ks 157 (455, [(0, .ref 87)], [.int (b01 y0), .ref 87], (Q, hpR s)) (none) (Q, hpR q) := by
  unfold m157_455 at h
  obtain ⟨q50, hq50, h⟩ := Option.bind_eq_some_iff.mp h
  refine h_callO (As := [.int (b01 y0)]) (r1 := some (.int (b01 q50.1))) (st := []) (H1 := (Q, hpR q50.2)) rfl rfl rfl rfl rfl rfl (m158_ok hq50) ?_
  replace h := Option.some.inj h; subst h
  refine h_it 7 (x' := (469, [(0, .ref 87)], [], (Q, hpR (sI q50.2 27 ((gI q50.2 27) + 1))))) rfl ?_
  exact h_vret rfl rfl
theorem m157_430_ok    {s : xSt} {q : xSt} (h : m157_430   s = some q) : HE V L Kc Ks 157 (430, [(0, .ref 87)], [], (Q, hpR s)) (none) (Q, hpR q) := by
  unfold m157_430 at h
  refine h_it 2 (x' := (434, [(0, .ref 87)], [.int (gI s 21)], (Q, hpR s))) rfl ?_
  refine h_br (b := decide (¬ (gI s 21) = 0)) (t := 459) (f := 437) (lv' := [(0, .ref 87)]) (st' := []) rfl rfl ?_
  by_cases h47 : (gI s 21) = 0
  · replace h := if_y h47 h
    refine h_n (fun z => z h47) ?_
    refine h_it 1 (x' := (438, [(0, .ref 87)], [.ref 87], (Q, hpR s))) rfl ?_
    obtain ⟨q48, hq48, h⟩ := Option.bind_eq_some_iff.mp h
    refine h_callO (As := []) (r1 := none) (st := []) (H1 := (Q, hpR q48)) rfl rfl rfl rfl rfl rfl (m150_ok hq48) ?_
    refine h_it 4 (x' := (447, [(0, .ref 87)], [.int 1, .int (gI q48 24), .ref 87], (Q, hpR q48))) rfl ?_
    refine h_br (b := decide (¬ (gI q48 24) = 1)) (t := 454) (f := 450) (lv' := [(0, .ref 87)]) (st' := [.ref 87]) rfl rfl ?_
    by_cases h49 : (gI q48 24) = 1
    · replace h := if_y h49 h
      refine h_n (fun z => z h49) ?_
      refine h_it 2 (x' := (455, [(0, .ref 87)], [.int 1, .ref 87], (Q, hpR q48))) rfl ?_
      refine h_lw (lv := [(0, .ref 87)]) (fa_c rfl (fa_n)) rfl ?_
      exact m157_455_ok  h
    · replace h := if_n h49 h
      refine h_y h49 ?_
      refine h_it 1 (x' := (455, [(0, .ref 87)], [.int 0, .ref 87], (Q, hpR q48))) rfl ?_
      refine h_lw (lv := [(0, .ref 87)]) (fa_c rfl (fa_n)) rfl ?_
      exact m157_455_ok  h
  · replace h := if_n h47 h
    refine h_y h47 ?_
    replace h := Option.some.inj h; subst h
    refine h_it 6 (x' := (469, [(0, .ref 87)], [], (Q, hpR (sI s 27 ((gI s 27) + 1))))) rfl ?_
    exact h_vret rfl rfl
theorem m157_427_ok   {y0 : Bool} {s : xSt} {q : xSt} (h : m157_427  y0 s = some q) : HE V L Kc Ks 157 (427, [(0, .ref 87)], [.int (b01 y0), .ref 87], (Q, hpR s)) (none) (Q, hpR q) := by
  unfold m157_427 at h
  obtain ⟨q46, hq46, h⟩ := Option.bind_eq_some_iff.mp h
  refine h_callO (As := [.int (b01 y0)]) (r1 := none) (st := []) (H1 := (Q, hpR q46)) rfl rfl rfl rfl rfl rfl (m166_ok hq46) ?_
  refine h_lw (lv := [(0, .ref 87)]) (fa_c rfl (fa_n)) rfl ?_
  exact m157_430_ok  h
theorem m157_385_ok   {x1 : Int32} {s : xSt} {q : xSt} (h : m157_385  x1 s = some q) : HE V L Kc Ks 157 (385, [(0, .ref 87), (1, .int x1)], [], (Q, hpR s)) (none) (Q, hpR q) := by
  unfold m157_385 at h
  refine h_it 5 (x' := (394, [(0, .ref 87), (1, .int x1)], [.int (gI s 28), .int x1, .ref 92], (Q, hpR s))) rfl ?_
  obtain ⟨u41, hu41, h⟩ := Option.bind_eq_some_iff.mp h
  refine h_iast rfl rfl hu41 ?_
  show HE V L Kc Ks 157 (395, [(0, .ref 87), (1, .int x1)], [], (Q, hpR (sR s 5 u41))) _ _
  refine h_it 4 (x' := (401, [(0, .ref 87), (1, .int x1)], [.int x1, .ref 91, .ref 87], (Q, hpR (sR s 5 u41)))) rfl ?_
  obtain ⟨v42, hv42, h⟩ := Option.bind_eq_some_iff.mp h
  refine h_iald rfl rfl hv42 ?_
  refine h_it 3 (x' := (409, [(0, .ref 87), (1, .int x1)], [.int (gI s 21)], (Q, hpR (sI (sR s 5 u41) 30 v42)))) rfl ?_
  refine h_br (b := decide (¬ (gI s 21) = 0)) (t := 430) (f := 412) (lv' := [(0, .ref 87), (1, .int x1)]) (st' := []) rfl rfl ?_
  by_cases h43 : (gI s 21) = 0
  · replace h := if_y h43 h
    refine h_n (fun z => z h43) ?_
    refine h_it 4 (x' := (418, [(0, .ref 87), (1, .int x1)], [.int x1, .ref 89, .ref 87], (Q, hpR (sI (sR s 5 u41) 30 v42)))) rfl ?_
    obtain ⟨v44, hv44, h⟩ := Option.bind_eq_some_iff.mp h
    refine h_iald rfl rfl hv44 ?_
    refine h_br (b := decide (¬ v44 = 0)) (t := 426) (f := 422) (lv' := [(0, .ref 87), (1, .int x1)]) (st' := [.ref 87]) rfl rfl ?_
    by_cases h45 : v44 = 0
    · replace h := if_y h45 h
      refine h_n (fun z => z h45) ?_
      refine h_it 2 (x' := (427, [(0, .ref 87), (1, .int x1)], [.int 1, .ref 87], (Q, hpR (sI (sR s 5 u41) 30 v42)))) rfl ?_
      refine h_lw (lv := [(0, .ref 87)]) (fa_c rfl (fa_n)) rfl ?_
      exact m157_427_ok  h
    · replace h := if_n h45 h
      refine h_y h45 ?_
      refine h_it 1 (x' := (427, [(0, .ref 87), (1, .int x1)], [.int 0, .ref 87], (Q, hpR (sI (sR s 5 u41) 30 v42)))) rfl ?_
      refine h_lw (lv := [(0, .ref 87)]) (fa_c rfl (fa_n)) rfl ?_
      exact m157_427_ok  h
  · replace h := if_n h43 h
    refine h_y h43 ?_
    refine h_lw (lv := [(0, .ref 87)]) (fa_c rfl (fa_n)) rfl ?_
    exact m157_430_ok  h
theorem m157_384_ok   {x1 : Int32} {y0 : Int32} {y1 : Int32} {s : xSt} {q : xSt} (h : m157_384  x1 y0 y1 s = some q) : HE V L Kc Ks 157 (384, [(0, .ref 87), (1, .int x1)], [.int y0, .int y1, .ref 90], (Q, hpR s)) (none) (Q, hpR q) := by
  unfold m157_384 at h
  obtain ⟨u40, hu40, h⟩ := Option.bind_eq_some_iff.mp h
  refine h_iast rfl rfl hu40 ?_
  show HE V L Kc Ks 157 (385, [(0, .ref 87), (1, .int x1)], [], (Q, hpR (sR s 3 u40))) _ _
  refine h_lw (lv := [(0, .ref 87), (1, .int x1)]) (fa_c rfl (fa_c rfl (fa_n))) rfl ?_
  exact m157_385_ok  h
theorem m157_360_ok   {x1 : Int32} {y0 : Bool} {s : xSt} {q : xSt} (h : m157_360  x1 y0 s = some q) : HE V L Kc Ks 157 (360, [(0, .ref 87), (1, .int x1)], [.int (b01 y0), .ref 87], (Q, hpR s)) (none) (Q, hpR q) := by
  unfold m157_360 at h
  obtain ⟨q37, hq37, h⟩ := Option.bind_eq_some_iff.mp h
  refine h_callO (As := [.int (b01 y0)]) (r1 := some (.int (b01 q37.1))) (st := []) (H1 := (Q, hpR q37.2)) rfl rfl rfl rfl rfl rfl (m158_ok hq37) ?_
  refine h_it 6 (x' := (373, [(0, .ref 87), (1, .int x1)], [.int (gI q37.2 21), .int x1, .ref 90], (Q, hpR q37.2))) rfl ?_
  refine h_br (b := decide ((gI q37.2 21) ≤ 0)) (t := 380) (f := 376) (lv' := [(0, .ref 87), (1, .int x1)]) (st' := [.int x1, .ref 90]) rfl rfl ?_
  by_cases h38 : (gI q37.2 21) ≤ 0
  · replace h := if_y h38 h
    refine h_y h38 ?_
    refine h_it 1 (x' := (381, [(0, .ref 87), (1, .int x1)], [.ref 87, .int x1, .ref 90], (Q, hpR q37.2))) rfl ?_
    obtain ⟨q39, hq39, h⟩ := Option.bind_eq_some_iff.mp h
    refine h_callO (As := []) (r1 := some (.int q39.1)) (st := [.int x1, .ref 90]) (H1 := (Q, hpR q39.2)) rfl rfl rfl rfl rfl rfl (m161_ok hq39) ?_
    refine h_lw (lv := [(0, .ref 87), (1, .int x1)]) (fa_c rfl (fa_c rfl (fa_n))) rfl ?_
    exact m157_384_ok  h
  · replace h := if_n h38 h
    refine h_n h38 ?_
    refine h_it 2 (x' := (384, [(0, .ref 87), (1, .int x1)], [.int 0, .int x1, .ref 90], (Q, hpR q37.2))) rfl ?_
    refine h_lw (lv := [(0, .ref 87), (1, .int x1)]) (fa_c rfl (fa_c rfl (fa_n))) rfl ?_
    exact m157_384_ok  h
theorem m157_355_ok   {x1 : Int32} {s : xSt} {q : xSt} (h : m157_355  x1 s = some q) : HE V L Kc Ks 157 (355, [(0, .ref 87), (1, .int x1)], [.ref 87], (Q, hpR s)) (none) (Q, hpR q) := by
  unfold m157_355 at h
  refine h_it 2 (x' := (360, [(0, .ref 87), (1, .int x1)], [.int 1, .ref 87], (Q, hpR s))) rfl ?_
  refine h_lw (lv := [(0, .ref 87), (1, .int x1)]) (fa_c rfl (fa_c rfl (fa_n))) rfl ?_
  exact m157_360_ok  h
theorem m157_359_ok   {x1 : Int32} {s : xSt} {q : xSt} (h : m157_359  x1 s = some q) : HE V L Kc Ks 157 (359, [(0, .ref 87), (1, .int x1)], [.ref 87], (Q, hpR s)) (none) (Q, hpR q) := by
  unfold m157_359 at h
  refine h_it 1 (x' := (360, [(0, .ref 87), (1, .int x1)], [.int 0, .ref 87], (Q, hpR s))) rfl ?_
  refine h_lw (lv := [(0, .ref 87), (1, .int x1)]) (fa_c rfl (fa_c rfl (fa_n))) rfl ?_
  exact m157_360_ok  h
theorem m157_312_ok   {x1 : Int32} {s : xSt} {q : xSt} (h : m157_312  x1 s = some q) : HE V L Kc Ks 157 (312, [(0, .ref 87), (1, .int x1)], [], (Q, hpR s)) (none) (Q, hpR q) := by
  unfold m157_312 at h
  refine h_it 2 (x' := (316, [(0, .ref 87), (1, .int x1)], [.int (gI s 21)], (Q, hpR s))) rfl ?_
  refine h_br (b := decide (¬ (gI s 21) = 0)) (t := 385) (f := 319) (lv' := [(0, .ref 87), (1, .int x1)]) (st' := []) rfl rfl ?_
  by_cases h34 : (gI s 21) = 0
  · replace h := if_y h34 h
    refine h_n (fun z => z h34) ?_
    refine h_it 1 (x' := (320, [(0, .ref 87), (1, .int x1)], [.ref 87], (Q, hpR s))) rfl ?_
    obtain ⟨q35, hq35, h⟩ := Option.bind_eq_some_iff.mp h
    refine h_callO (As := []) (r1 := none) (st := []) (H1 := (Q, hpR q35)) rfl rfl rfl rfl rfl rfl (m150_ok hq35) ?_
    refine h_it 3 (x' := (328, [(0, .ref 87), (1, .int x1)], [.int (gI q35 21), .ref 87], (Q, hpR q35))) rfl ?_
    refine h_br (b := decide (0 < (gI q35 21))) (t := 355) (f := 331) (lv' := [(0, .ref 87), (1, .int x1)]) (st' := [.ref 87]) rfl rfl ?_
    by_cases h36 : 0 < (gI q35 21)
    · replace h := if_y h36 h
      refine h_y h36 ?_
      refine h_lw (lv := [(0, .ref 87), (1, .int x1)]) (fa_c rfl (fa_c rfl (fa_n))) rfl ?_
      exact m157_355_ok  h
    · replace h := if_n h36 h
      refine h_n h36 ?_
      refine h_it 1 (x' := (332, [(0, .ref 87), (1, .int x1)], [.ref 87, .ref 87], (Q, hpR q35))) rfl ?_
      obtain ⟨q51, hq51, h⟩ := Option.bind_eq_some_iff.mp h
      refine h_callO (As := []) (r1 := some (.int q51.1)) (st := [.ref 87]) (H1 := (Q, hpR q51.2)) rfl rfl rfl rfl rfl rfl (m161_ok hq51) ?_
      refine h_br (b := decide (q51.1 < 0)) (t := 359) (f := 338) (lv' := [(0, .ref 87), (1, .int x1)]) (st' := [.ref 87]) rfl rfl ?_
      by_cases h52 : q51.1 < 0
      · replace h := if_y h52 h
        refine h_y h52 ?_
        refine h_lw (lv := [(0, .ref 87), (1, .int x1)]) (fa_c rfl (fa_c rfl (fa_n))) rfl ?_
        exact m157_359_ok  h
      · replace h := if_n h52 h
        refine h_n h52 ?_
        refine h_it 3 (x' := (343, [(0, .ref 87), (1, .int x1)], [.int x1, .ref 89, .ref 87], (Q, hpR q51.2))) rfl ?_
        obtain ⟨v53, hv53, h⟩ := Option.bind_eq_some_iff.mp h
        refine h_iald rfl rfl hv53 ?_
        refine h_br (b := decide (v53 = 0)) (t := 355) (f := 347) (lv' := [(0, .ref 87), (1, .int x1)]) (st' := [.ref 87]) rfl rfl ?_
        by_cases h54 : v53 = 0
        · replace h := if_y h54 h
          refine h_y h54 ?_
          refine h_lw (lv := [(0, .ref 87), (1, .int x1)]) (fa_c rfl (fa_c rfl (fa_n))) rfl ?_
          exact m157_355_ok  h
        · replace h := if_n h54 h
          refine h_n h54 ?_
          refine h_it 1 (x' := (348, [(0, .ref 87), (1, .int x1)], [.ref 87, .ref 87], (Q, hpR q51.2))) rfl ?_
          obtain ⟨q55, hq55, h⟩ := Option.bind_eq_some_iff.mp h
          refine h_callO (As := []) (r1 := some (.int q55.1)) (st := [.ref 87]) (H1 := (Q, hpR q55.2)) rfl rfl rfl rfl rfl rfl (m161_ok hq55) ?_
          refine h_it 1 (x' := (352, [(0, .ref 87), (1, .int x1)], [.int 2, .int q55.1, .ref 87], (Q, hpR q55.2))) rfl ?_
          refine h_br (b := decide (2 ≤ q55.1)) (t := 359) (f := 355) (lv' := [(0, .ref 87), (1, .int x1)]) (st' := [.ref 87]) rfl rfl ?_
          by_cases h56 : 2 ≤ q55.1
          · replace h := if_y h56 h
            refine h_y h56 ?_
            refine h_lw (lv := [(0, .ref 87), (1, .int x1)]) (fa_c rfl (fa_c rfl (fa_n))) rfl ?_
            exact m157_359_ok  h
          · replace h := if_n h56 h
            refine h_n h56 ?_
            refine h_lw (lv := [(0, .ref 87), (1, .int x1)]) (fa_c rfl (fa_c rfl (fa_n))) rfl ?_
            exact m157_355_ok  h
  · replace h := if_n h34 h
    refine h_y h34 ?_
    refine h_lw (lv := [(0, .ref 87), (1, .int x1)]) (fa_c rfl (fa_c rfl (fa_n))) rfl ?_
    exact m157_385_ok  h
theorem m157_240_ok   : ∀ (n : Nat) (x1 : Int32) (x3 : Bool) (s : xSt) (q : xSt), m157_240  n x1 x3 s = some q → HE V L Kc Ks 157 (240, [(0, .ref 87), (1, .int x1), (3, .int (b01 x3))], [], (Q, hpR s)) (none) (Q, hpR q) := by
  intro n
  induction n with
  | zero => intro x1 x3 s q h; cases h
  | succ n ih =>
    intro x1 x3 s q h
    unfold m157_240 at h
    refine h_it 1 (x' := (241, [(0, .ref 87), (1, .int x1), (3, .int (b01 x3))], [.int (b01 x3)], (Q, hpR s))) rfl ?_
    refine h_br (b := decide ((b01 x3) = 0)) (t := 312) (f := 244) (lv' := [(0, .ref 87), (1, .int x1), (3, .int (b01 x3))]) (st' := []) rfl rfl ?_
    by_cases h24 : x3 = true
    · replace h := if_y h24 h
      refine h_n (b01_1 h24) ?_
      refine h_it 2 (x' := (248, [(0, .ref 87), (1, .int x1), (3, .int (b01 x3))], [.int (gI s 21)], (Q, hpR s))) rfl ?_
      refine h_br (b := decide (¬ (gI s 21) = 0)) (t := 312) (f := 251) (lv' := [(0, .ref 87), (1, .int x1), (3, .int (b01 x3))]) (st' := []) rfl rfl ?_
      by_cases h25 : (gI s 21) = 0
      · replace h := if_y h25 h
        refine h_n (fun z => z h25) ?_
        refine h_it 1 (x' := (252, [(0, .ref 87), (1, .int x1), (3, .int (b01 x3))], [.ref 87], (Q, hpR s))) rfl ?_
        obtain ⟨q26, hq26, h⟩ := Option.bind_eq_some_iff.mp h
        refine h_callO (As := []) (r1 := none) (st := []) (H1 := (Q, hpR q26)) rfl rfl rfl rfl rfl rfl (m150_ok hq26) ?_
        refine h_it 3 (x' := (260, [(0, .ref 87), (1, .int x1), (3, .int (b01 x3))], [.int (gI q26 24), .ref 87], (Q, hpR q26))) rfl ?_
        refine h_br (b := decide ((gI q26 24) = 0)) (t := 271) (f := 263) (lv' := [(0, .ref 87), (1, .int x1), (3, .int (b01 x3))]) (st' := [.ref 87]) rfl rfl ?_
        by_cases h27 : (gI q26 24) = 0
        · replace h := if_y h27 h
          refine h_y h27 ?_
          refine h_lw (lv := [(0, .ref 87), (1, .int x1)]) (fa_c rfl (fa_c rfl (fa_n))) rfl ?_
          exact m157_271_ok ih h
        · replace h := if_n h27 h
          refine h_n h27 ?_
          refine h_it 3 (x' := (268, [(0, .ref 87), (1, .int x1), (3, .int (b01 x3))], [.int 1, .int (gI q26 24), .ref 87], (Q, hpR q26))) rfl ?_
          refine h_br (b := decide (¬ (gI q26 24) = 1)) (t := 275) (f := 271) (lv' := [(0, .ref 87), (1, .int x1), (3, .int (b01 x3))]) (st' := [.ref 87]) rfl rfl ?_
          by_cases h33 : (gI q26 24) = 1
          · replace h := if_y h33 h
            refine h_n (fun z => z h33) ?_
            refine h_lw (lv := [(0, .ref 87), (1, .int x1)]) (fa_c rfl (fa_c rfl (fa_n))) rfl ?_
            exact m157_271_ok ih h
          · replace h := if_n h33 h
            refine h_y h33 ?_
            refine h_it 1 (x' := (276, [(0, .ref 87), (1, .int x1), (3, .int (b01 x3))], [.int 0, .ref 87], (Q, hpR q26))) rfl ?_
            refine h_lw (lv := [(0, .ref 87), (1, .int x1)]) (fa_c rfl (fa_c rfl (fa_n))) rfl ?_
            exact m157_276_ok ih h
      · replace h := if_n h25 h
        refine h_y h25 ?_
        refine h_lw (lv := [(0, .ref 87), (1, .int x1)]) (fa_c rfl (fa_c rfl (fa_n))) rfl ?_
        exact m157_312_ok  h
    · replace h := if_n h24 h
      refine h_y (b01_0 h24) ?_
      refine h_lw (lv := [(0, .ref 87), (1, .int x1)]) (fa_c rfl (fa_c rfl (fa_n))) rfl ?_
      exact m157_312_ok  h
theorem m157_238_ok   {x1 : Int32} {s : xSt} {q : xSt} (h : m157_238  x1 s = some q) : HE V L Kc Ks 157 (238, [(0, .ref 87), (1, .int x1)], [], (Q, hpR s)) (none) (Q, hpR q) := by
  unfold m157_238 at h
  refine h_it 2 (x' := (240, [(3, .int 1), (0, .ref 87), (1, .int x1)], [], (Q, hpR s))) rfl ?_
  refine h_lw (lv := [(0, .ref 87), (1, .int x1), (3, .int 1)]) (fa_c rfl (fa_c rfl (fa_c rfl (fa_n)))) rfl ?_
  exact m157_240_ok  1000000 x1 true s _ h
theorem m157_234_ok   {x1 : Int32} {y0 : Bool} {s : xSt} {q : xSt} (h : m157_234  x1 y0 s = some q) : HE V L Kc Ks 157 (234, [(0, .ref 87), (1, .int x1)], [.int (b01 y0), .ref 87], (Q, hpR s)) (none) (Q, hpR q) := by
  unfold m157_234 at h
  obtain ⟨q23, hq23, h⟩ := Option.bind_eq_some_iff.mp h
  refine h_callO (As := [.int (b01 y0)]) (r1 := some (.int (b01 q23.1))) (st := []) (H1 := (Q, hpR q23.2)) rfl rfl rfl rfl rfl rfl (m158_ok hq23) ?_
  refine h_it 1 (x' := (238, [(0, .ref 87), (1, .int x1)], [], (Q, hpR q23.2))) rfl ?_
  refine h_lw (lv := [(0, .ref 87), (1, .int x1)]) (fa_c rfl (fa_c rfl (fa_n))) rfl ?_
  exact m157_238_ok  h
theorem m157_179_ok   {x1 : Int32} {y0 : Bool} {s : xSt} {q : xSt} (h : m157_179  x1 y0 s = some q) : HE V L Kc Ks 157 (179, [(0, .ref 87), (1, .int x1)], [.int (b01 y0), .ref 87], (Q, hpR s)) (none) (Q, hpR q) := by
  unfold m157_179 at h
  obtain ⟨q16, hq16, h⟩ := Option.bind_eq_some_iff.mp h
  refine h_callO (As := [.int (b01 y0)]) (r1 := some (.int (b01 q16.1))) (st := []) (H1 := (Q, hpR q16.2)) rfl rfl rfl rfl rfl rfl (m158_ok hq16) ?_
  refine h_it 6 (x' := (192, [(0, .ref 87), (1, .int x1)], [.long (gJ q16.2 0), .int x1, .ref 94], (Q, hpR q16.2))) rfl ?_
  obtain ⟨u17, hu17, h⟩ := Option.bind_eq_some_iff.mp h
  refine h_last rfl rfl hu17 ?_
  show HE V L Kc Ks 157 (193, [(0, .ref 87), (1, .int x1)], [], (Q, hpR (sL q16.2 0 u17))) _ _
  refine h_it 5 (x' := (202, [(0, .ref 87), (1, .int x1)], [.int (gI q16.2 25), .int x1, .ref 93], (Q, hpR (sL q16.2 0 u17)))) rfl ?_
  obtain ⟨u18, hu18, h⟩ := Option.bind_eq_some_iff.mp h
  refine h_iast rfl rfl hu18 ?_
  show HE V L Kc Ks 157 (203, [(0, .ref 87), (1, .int x1)], [], (Q, hpR (sR (sL q16.2 0 u17) 6 u18))) _ _
  refine h_it 4 (x' := (209, [(0, .ref 87), (1, .int x1)], [.int 0, .int x1, .ref 91], (Q, hpR (sR (sL q16.2 0 u17) 6 u18)))) rfl ?_
  obtain ⟨u19, hu19, h⟩ := Option.bind_eq_some_iff.mp h
  refine h_iast rfl rfl hu19 ?_
  show HE V L Kc Ks 157 (210, [(0, .ref 87), (1, .int x1)], [], (Q, hpR (sR (sR (sL q16.2 0 u17) 6 u18) 4 u19))) _ _
  refine h_it 2 (x' := (214, [(0, .ref 87), (1, .int x1)], [.int (gI q16.2 21)], (Q, hpR (sR (sR (sL q16.2 0 u17) 6 u18) 4 u19)))) rfl ?_
  refine h_br (b := decide (¬ (gI q16.2 21) = 0)) (t := 238) (f := 217) (lv' := [(0, .ref 87), (1, .int x1)]) (st' := []) rfl rfl ?_
  by_cases h20 : (gI q16.2 21) = 0
  · replace h := if_y h20 h
    refine h_n (fun z => z h20) ?_
    refine h_it 1 (x' := (218, [(0, .ref 87), (1, .int x1)], [.ref 87], (Q, hpR (sR (sR (sL q16.2 0 u17) 6 u18) 4 u19)))) rfl ?_
    obtain ⟨q21, hq21, h⟩ := Option.bind_eq_some_iff.mp h
    refine h_callO (As := []) (r1 := none) (st := []) (H1 := (Q, hpR q21)) rfl rfl rfl rfl rfl rfl (m150_ok hq21) ?_
    refine h_it 3 (x' := (226, [(0, .ref 87), (1, .int x1)], [.int (gI q21 24), .ref 87], (Q, hpR q21))) rfl ?_
    refine h_br (b := decide (¬ (gI q21 24) = 0)) (t := 233) (f := 229) (lv' := [(0, .ref 87), (1, .int x1)]) (st' := [.ref 87]) rfl rfl ?_
    by_cases h22 : (gI q21 24) = 0
    · replace h := if_y h22 h
      refine h_n (fun z => z h22) ?_
      refine h_it 2 (x' := (234, [(0, .ref 87), (1, .int x1)], [.int 1, .ref 87], (Q, hpR q21))) rfl ?_
      refine h_lw (lv := [(0, .ref 87), (1, .int x1)]) (fa_c rfl (fa_c rfl (fa_n))) rfl ?_
      exact m157_234_ok  h
    · replace h := if_n h22 h
      refine h_y h22 ?_
      refine h_it 1 (x' := (234, [(0, .ref 87), (1, .int x1)], [.int 0, .ref 87], (Q, hpR q21))) rfl ?_
      refine h_lw (lv := [(0, .ref 87), (1, .int x1)]) (fa_c rfl (fa_c rfl (fa_n))) rfl ?_
      exact m157_234_ok  h
  · replace h := if_n h20 h
    refine h_y h20 ?_
    refine h_lw (lv := [(0, .ref 87), (1, .int x1)]) (fa_c rfl (fa_c rfl (fa_n))) rfl ?_
    exact m157_238_ok  h
theorem m157_174_ok   {x1 : Int32} {s : xSt} {q : xSt} (h : m157_174  x1 s = some q) : HE V L Kc Ks 157 (174, [(0, .ref 87), (1, .int x1)], [.ref 87], (Q, hpR s)) (none) (Q, hpR q) := by
  unfold m157_174 at h
  refine h_it 2 (x' := (179, [(0, .ref 87), (1, .int x1)], [.int 1, .ref 87], (Q, hpR s))) rfl ?_
  refine h_lw (lv := [(0, .ref 87), (1, .int x1)]) (fa_c rfl (fa_c rfl (fa_n))) rfl ?_
  exact m157_179_ok  h
theorem m157_178_ok   {x1 : Int32} {s : xSt} {q : xSt} (h : m157_178  x1 s = some q) : HE V L Kc Ks 157 (178, [(0, .ref 87), (1, .int x1)], [.ref 87], (Q, hpR s)) (none) (Q, hpR q) := by
  unfold m157_178 at h
  refine h_it 1 (x' := (179, [(0, .ref 87), (1, .int x1)], [.int 0, .ref 87], (Q, hpR s))) rfl ?_
  refine h_lw (lv := [(0, .ref 87), (1, .int x1)]) (fa_c rfl (fa_c rfl (fa_n))) rfl ?_
  exact m157_179_ok  h
theorem m157_120_ok   : ∀ (n : Nat) (x1 : Int32) (x2 : Bool) (x3 : Int32) (s : xSt) (q : xSt), m157_120  n x1 x2 x3 s = some q → HE V L Kc Ks 157 (120, [(0, .ref 87), (1, .int x1), (2, .int (b01 x2)), (3, .int x3)], [], (Q, hpR s)) (none) (Q, hpR q) := by
  intro n
  induction n with
  | zero => intro x1 x2 x3 s q h; cases h
  | succ n ih =>
    intro x1 x2 x3 s q h
    unfold m157_120 at h
    refine h_it 2 (x' := (122, [(0, .ref 87), (1, .int x1), (2, .int (b01 x2)), (3, .int x3)], [.int x1, .int x3], (Q, hpR s))) rfl ?_
    refine h_br (b := decide (x1 ≤ x3)) (t := 155) (f := 125) (lv' := [(0, .ref 87), (1, .int x1), (2, .int (b01 x2)), (3, .int x3)]) (st' := []) rfl rfl ?_
    by_cases h14 : x1 ≤ x3
    · replace h := if_y h14 h
      refine h_y h14 ?_
      refine h_it 3 (x' := (160, [(0, .ref 87), (1, .int x1), (2, .int (b01 x2)), (3, .int x3)], [.int (gI s 21), .ref 87], (Q, hpR s))) rfl ?_
      refine h_br (b := decide (0 < (gI s 21))) (t := 174) (f := 163) (lv' := [(0, .ref 87), (1, .int x1), (2, .int (b01 x2)), (3, .int x3)]) (st' := [.ref 87]) rfl rfl ?_
      by_cases h15 : 0 < (gI s 21)
      · replace h := if_y h15 h
        refine h_y h15 ?_
        refine h_lw (lv := [(0, .ref 87), (1, .int x1)]) (fa_c rfl (fa_c rfl (fa_n))) rfl ?_
        exact m157_174_ok  h
      · replace h := if_n h15 h
        refine h_n h15 ?_
        refine h_it 1 (x' := (164, [(0, .ref 87), (1, .int x1), (2, .int (b01 x2)), (3, .int x3)], [.ref 87, .ref 87], (Q, hpR s))) rfl ?_
        obtain ⟨q57, hq57, h⟩ := Option.bind_eq_some_iff.mp h
        refine h_callO (As := []) (r1 := some (.int (b01 q57.1))) (st := [.ref 87]) (H1 := (Q, hpR q57.2)) rfl rfl rfl rfl rfl rfl (m160_ok hq57) ?_
        refine h_br (b := decide ((b01 q57.1) = 0)) (t := 178) (f := 170) (lv' := [(0, .ref 87), (1, .int x1), (2, .int (b01 x2)), (3, .int x3)]) (st' := [.ref 87]) rfl rfl ?_
        by_cases h58 : q57.1 = true
        · replace h := if_y h58 h
          refine h_n (b01_1 h58) ?_
          refine h_it 1 (x' := (171, [(0, .ref 87), (1, .int x1), (2, .int (b01 x2)), (3, .int x3)], [.int (b01 x2), .ref 87], (Q, hpR q57.2))) rfl ?_
          refine h_br (b := decide (¬ (b01 x2) = 0)) (t := 178) (f := 174) (lv' := [(0, .ref 87), (1, .int x1), (2, .int (b01 x2)), (3, .int x3)]) (st' := [.ref 87]) rfl rfl ?_
          by_cases h59 : x2 = true
          · replace h := if_y h59 h
            refine h_y (b01_1 h59) ?_
            refine h_lw (lv := [(0, .ref 87), (1, .int x1)]) (fa_c rfl (fa_c rfl (fa_n))) rfl ?_
            exact m157_178_ok  h
          · replace h := if_n h59 h
            refine h_n (fun z => z (b01_0 h59)) ?_
            refine h_lw (lv := [(0, .ref 87), (1, .int x1)]) (fa_c rfl (fa_c rfl (fa_n))) rfl ?_
            exact m157_174_ok  h
        · replace h := if_n h58 h
          refine h_y (b01_0 h58) ?_
          refine h_lw (lv := [(0, .ref 87), (1, .int x1)]) (fa_c rfl (fa_c rfl (fa_n))) rfl ?_
          exact m157_178_ok  h
    · replace h := if_n h14 h
      refine h_n h14 ?_
      refine h_it 1 (x' := (126, [(0, .ref 87), (1, .int x1), (2, .int (b01 x2)), (3, .int x3)], [.int (b01 x2)], (Q, hpR s))) rfl ?_
      refine h_br (b := decide (¬ (b01 x2) = 0)) (t := 143) (f := 129) (lv' := [(0, .ref 87), (1, .int x1), (2, .int (b01 x2)), (3, .int x3)]) (st' := []) rfl rfl ?_
      by_cases h60 : x2 = true
      · replace h := if_y h60 h
        refine h_y (b01_1 h60) ?_
        refine h_it 5 (x' := (120, [(3, .int (x3 + 1)), (2, .int 1), (0, .ref 87), (1, .int x1)], [], (Q, hpR s))) rfl ?_
        refine h_lw (lv := [(0, .ref 87), (1, .int x1), (2, .int 1), (3, .int (x3 + 1))]) (fa_c rfl (fa_c rfl (fa_c rfl (fa_c rfl (fa_n))))) rfl ?_
        exact ih x1 true (x3 + 1) s _ h
      · replace h := if_n h60 h
        refine h_n (fun z => z (b01_0 h60)) ?_
        refine h_it 3 (x' := (134, [(0, .ref 87), (1, .int x1), (2, .int (b01 x2)), (3, .int x3)], [.int x3, .ref 94], (Q, hpR s))) rfl ?_
        obtain ⟨v61, hv61, h⟩ := Option.bind_eq_some_iff.mp h
        refine h_lald rfl rfl hv61 ?_
        refine h_it 3 (x' := (140, [(0, .ref 87), (1, .int x1), (2, .int (b01 x2)), (3, .int x3)], [.int (lg_cmp v61 (gJ s 0))], (Q, hpR s))) rfl ?_
        refine h_br (b := decide (¬ (lg_cmp v61 (gJ s 0)) = 0)) (t := 147) (f := 143) (lv' := [(0, .ref 87), (1, .int x1), (2, .int (b01 x2)), (3, .int x3)]) (st' := []) rfl rfl ?_
        by_cases h62 : (lg_cmp v61 (gJ s 0)) = 0
        · replace h := if_y h62 h
          refine h_n (fun z => z h62) ?_
          refine h_it 5 (x' := (120, [(3, .int (x3 + 1)), (2, .int 1), (0, .ref 87), (1, .int x1)], [], (Q, hpR s))) rfl ?_
          refine h_lw (lv := [(0, .ref 87), (1, .int x1), (2, .int 1), (3, .int (x3 + 1))]) (fa_c rfl (fa_c rfl (fa_c rfl (fa_c rfl (fa_n))))) rfl ?_
          exact ih x1 true (x3 + 1) s _ h
        · replace h := if_n h62 h
          refine h_y h62 ?_
          refine h_it 4 (x' := (120, [(3, .int (x3 + 1)), (2, .int 0), (0, .ref 87), (1, .int x1)], [], (Q, hpR s))) rfl ?_
          refine h_lw (lv := [(0, .ref 87), (1, .int x1), (2, .int 0), (3, .int (x3 + 1))]) (fa_c rfl (fa_c rfl (fa_c rfl (fa_c rfl (fa_n))))) rfl ?_
          exact ih x1 false (x3 + 1) s _ h
theorem m157_116_ok   {x1 : Int32} {s : xSt} {q : xSt} (h : m157_116  x1 s = some q) : HE V L Kc Ks 157 (116, [(0, .ref 87), (1, .int x1)], [], (Q, hpR s)) (none) (Q, hpR q) := by
  unfold m157_116 at h
  refine h_it 4 (x' := (120, [(3, .int 0), (2, .int 0), (0, .ref 87), (1, .int x1)], [], (Q, hpR s))) rfl ?_
  refine h_lw (lv := [(0, .ref 87), (1, .int x1), (2, .int 0), (3, .int 0)]) (fa_c rfl (fa_c rfl (fa_c rfl (fa_c rfl (fa_n))))) rfl ?_
  exact m157_120_ok  1000000 x1 false 0 s _ h
theorem m157_104_ok   {x1 : Int32} {y0 : Bool} {y1 : Int32} {s : xSt} {q : xSt} (h : m157_104  x1 y0 y1 s = some q) : HE V L Kc Ks 157 (104, [(0, .ref 87), (1, .int x1)], [.int (b01 y0), .int y1, .ref 89], (Q, hpR s)) (none) (Q, hpR q) := by
  unfold m157_104 at h
  obtain ⟨u11, hu11, h⟩ := Option.bind_eq_some_iff.mp h
  refine h_iast rfl rfl hu11 ?_
  show HE V L Kc Ks 157 (105, [(0, .ref 87), (1, .int x1)], [], (Q, hpR (sR s 2 u11))) _ _
  refine h_it 2 (x' := (109, [(0, .ref 87), (1, .int x1)], [.int (gI s 21)], (Q, hpR (sR s 2 u11)))) rfl ?_
  refine h_br (b := decide (¬ (gI s 21) = 0)) (t := 116) (f := 112) (lv' := [(0, .ref 87), (1, .int x1)]) (st' := []) rfl rfl ?_
  by_cases h12 : (gI s 21) = 0
  · replace h := if_y h12 h
    refine h_n (fun z => z h12) ?_
    refine h_it 1 (x' := (113, [(0, .ref 87), (1, .int x1)], [.ref 87], (Q, hpR (sR s 2 u11)))) rfl ?_
    obtain ⟨q13, hq13, h⟩ := Option.bind_eq_some_iff.mp h
    refine h_callO (As := []) (r1 := none) (st := []) (H1 := (Q, hpR q13)) rfl rfl rfl rfl rfl rfl (m150_ok hq13) ?_
    refine h_lw (lv := [(0, .ref 87), (1, .int x1)]) (fa_c rfl (fa_c rfl (fa_n))) rfl ?_
    exact m157_116_ok  h
  · replace h := if_n h12 h
    refine h_y h12 ?_
    refine h_lw (lv := [(0, .ref 87), (1, .int x1)]) (fa_c rfl (fa_c rfl (fa_n))) rfl ?_
    exact m157_116_ok  h
theorem m157_103_ok   {x1 : Int32} {y0 : Int32} {s : xSt} {q : xSt} (h : m157_103  x1 y0 s = some q) : HE V L Kc Ks 157 (103, [(0, .ref 87), (1, .int x1)], [.int y0, .ref 89], (Q, hpR s)) (none) (Q, hpR q) := by
  unfold m157_103 at h
  refine h_it 1 (x' := (104, [(0, .ref 87), (1, .int x1)], [.int 0, .int y0, .ref 89], (Q, hpR s))) rfl ?_
  refine h_lw (lv := [(0, .ref 87), (1, .int x1)]) (fa_c rfl (fa_c rfl (fa_n))) rfl ?_
  exact m157_104_ok  h
theorem m157_74_ok   {x1 : Int32} {y0 : Bool} {s : xSt} {q : xSt} (h : m157_74  x1 y0 s = some q) : HE V L Kc Ks 157 (74, [(0, .ref 87), (1, .int x1)], [.int (b01 y0), .ref 87], (Q, hpR s)) (none) (Q, hpR q) := by
  unfold m157_74 at h
  obtain ⟨q7, hq7, h⟩ := Option.bind_eq_some_iff.mp h
  refine h_callO (As := [.int (b01 y0)]) (r1 := some (.int (b01 q7.1))) (st := []) (H1 := (Q, hpR q7.2)) rfl rfl rfl rfl rfl rfl (m158_ok hq7) ?_
  refine h_it 6 (x' := (87, [(0, .ref 87), (1, .int x1)], [.int (gI q7.2 21), .int x1, .ref 89], (Q, hpR q7.2))) rfl ?_
  refine h_br (b := decide (¬ (gI q7.2 21) = 0)) (t := 103) (f := 90) (lv' := [(0, .ref 87), (1, .int x1)]) (st' := [.int x1, .ref 89]) rfl rfl ?_
  by_cases h8 : (gI q7.2 21) = 0
  · replace h := if_y h8 h
    refine h_n (fun z => z h8) ?_
    refine h_it 2 (x' := (93, [(0, .ref 87), (1, .int x1)], [.retAddr 13, .ref 87, .int x1, .ref 89], (Q, hpR q7.2))) rfl ?_
    obtain ⟨q9, hq9, h⟩ := Option.bind_eq_some_iff.mp h
    refine h_callO (As := [.retAddr 13]) (r1 := some (.int (b01 q9.1))) (st := [.int x1, .ref 89]) (H1 := (Q, hpR q9.2)) rfl rfl rfl rfl rfl rfl (m159_ok hq9) ?_
    refine h_br (b := decide ((b01 q9.1) = 0)) (t := 103) (f := 99) (lv' := [(0, .ref 87), (1, .int x1)]) (st' := [.int x1, .ref 89]) rfl rfl ?_
    by_cases h10 : q9.1 = true
    · replace h := if_y h10 h
      refine h_n (b01_1 h10) ?_
      refine h_it 2 (x' := (104, [(0, .ref 87), (1, .int x1)], [.int 1, .int x1, .ref 89], (Q, hpR q9.2))) rfl ?_
      refine h_lw (lv := [(0, .ref 87), (1, .int x1)]) (fa_c rfl (fa_c rfl (fa_n))) rfl ?_
      exact m157_104_ok  h
    · replace h := if_n h10 h
      refine h_y (b01_0 h10) ?_
      refine h_lw (lv := [(0, .ref 87), (1, .int x1)]) (fa_c rfl (fa_c rfl (fa_n))) rfl ?_
      exact m157_103_ok  h
  · replace h := if_n h8 h
    refine h_y h8 ?_
    refine h_lw (lv := [(0, .ref 87), (1, .int x1)]) (fa_c rfl (fa_c rfl (fa_n))) rfl ?_
    exact m157_103_ok  h
theorem m157_69_ok   {x1 : Int32} {s : xSt} {q : xSt} (h : m157_69  x1 s = some q) : HE V L Kc Ks 157 (69, [(0, .ref 87), (1, .int x1)], [.ref 87], (Q, hpR s)) (none) (Q, hpR q) := by
  unfold m157_69 at h
  refine h_it 2 (x' := (74, [(0, .ref 87), (1, .int x1)], [.int 1, .ref 87], (Q, hpR s))) rfl ?_
  refine h_lw (lv := [(0, .ref 87), (1, .int x1)]) (fa_c rfl (fa_c rfl (fa_n))) rfl ?_
  exact m157_74_ok  h
theorem m157_22_ok   {y0 : Bool} {s : xSt} {q : xSt} (h : m157_22  y0 s = some q) : HE V L Kc Ks 157 (22, [(0, .ref 87)], [.int (b01 y0), .ref 87], (Q, hpR s)) (none) (Q, hpR q) := by
  unfold m157_22 at h
  obtain ⟨q3, hq3, h⟩ := Option.bind_eq_some_iff.mp h
  refine h_callO (As := [.int (b01 y0)]) (r1 := some (.int (b01 q3.1))) (st := []) (H1 := (Q, hpR q3.2)) rfl rfl rfl rfl rfl rfl (m158_ok hq3) ?_
  refine h_it 3 (x' := (30, [(0, .ref 87)], [.int (gI q3.2 21)], (Q, hpR q3.2))) rfl ?_
  refine h_br (b := decide ((gI q3.2 21) ≤ 0)) (t := 34) (f := 33) (lv' := [(0, .ref 87)]) (st' := []) rfl rfl ?_
  by_cases h4 : (gI q3.2 21) ≤ 0
  · replace h := if_y h4 h
    refine h_y h4 ?_
    refine h_it 4 (x' := (40, [(1, .int (gI q3.2 27)), (0, .ref 87)], [.ref 87], (Q, hpR q3.2))) rfl ?_
    obtain ⟨q5, hq5, h⟩ := Option.bind_eq_some_iff.mp h
    refine h_callO (As := []) (r1 := none) (st := []) (H1 := (Q, hpR q5)) rfl rfl rfl rfl rfl rfl (m150_ok hq5) ?_
    refine h_it 3 (x' := (48, [(1, .int (gI q3.2 27)), (0, .ref 87)], [.int (gI q5 21), .ref 87], (Q, hpR q5))) rfl ?_
    refine h_br (b := decide (0 < (gI q5 21))) (t := 69) (f := 51) (lv' := [(1, .int (gI q3.2 27)), (0, .ref 87)]) (st' := [.ref 87]) rfl rfl ?_
    by_cases h6 : 0 < (gI q5 21)
    · replace h := if_y h6 h
      refine h_y h6 ?_
      refine h_lw (lv := [(0, .ref 87), (1, .int (gI q3.2 27))]) (fa_c rfl (fa_c rfl (fa_n))) rfl ?_
      exact m157_69_ok  h
    · replace h := if_n h6 h
      refine h_n h6 ?_
      refine h_it 2 (x' := (54, [(1, .int (gI q3.2 27)), (0, .ref 87)], [.retAddr 12, .ref 87, .ref 87], (Q, hpR q5))) rfl ?_
      obtain ⟨q63, hq63, h⟩ := Option.bind_eq_some_iff.mp h
      refine h_callO (As := [.retAddr 12]) (r1 := some (.int (b01 q63.1))) (st := [.ref 87]) (H1 := (Q, hpR q63.2)) rfl rfl rfl rfl rfl rfl (m159_ok hq63) ?_
      refine h_br (b := decide (¬ (b01 q63.1) = 0)) (t := 69) (f := 60) (lv' := [(1, .int (gI q3.2 27)), (0, .ref 87)]) (st' := [.ref 87]) rfl rfl ?_
      by_cases h64 : q63.1 = true
      · replace h := if_y h64 h
        refine h_y (b01_1 h64) ?_
        refine h_lw (lv := [(0, .ref 87), (1, .int (gI q3.2 27))]) (fa_c rfl (fa_c rfl (fa_n))) rfl ?_
        exact m157_69_ok  h
      · replace h := if_n h64 h
        refine h_n (fun z => z (b01_0 h64)) ?_
        refine h_it 2 (x' := (63, [(1, .int (gI q3.2 27)), (0, .ref 87)], [.retAddr 13, .ref 87, .ref 87], (Q, hpR q63.2))) rfl ?_
        obtain ⟨q65, hq65, h⟩ := Option.bind_eq_some_iff.mp h
        refine h_callO (As := [.retAddr 13]) (r1 := some (.int (b01 q65.1))) (st := [.ref 87]) (H1 := (Q, hpR q65.2)) rfl rfl rfl rfl rfl rfl (m159_ok hq65) ?_
        refine h_br (b := decide ((b01 q65.1) = 0)) (t := 73) (f := 69) (lv' := [(1, .int (gI q3.2 27)), (0, .ref 87)]) (st' := [.ref 87]) rfl rfl ?_
        by_cases h66 : q65.1 = true
        · replace h := if_y h66 h
          refine h_n (b01_1 h66) ?_
          refine h_lw (lv := [(0, .ref 87), (1, .int (gI q3.2 27))]) (fa_c rfl (fa_c rfl (fa_n))) rfl ?_
          exact m157_69_ok  h
        · replace h := if_n h66 h
          refine h_y (b01_0 h66) ?_
          refine h_it 1 (x' := (74, [(1, .int (gI q3.2 27)), (0, .ref 87)], [.int 0, .ref 87], (Q, hpR q65.2))) rfl ?_
          refine h_lw (lv := [(0, .ref 87), (1, .int (gI q3.2 27))]) (fa_c rfl (fa_c rfl (fa_n))) rfl ?_
          exact m157_74_ok  h
  · replace h := if_n h4 h
    refine h_n h4 ?_
    replace h := Option.some.inj h; subst h
    exact h_vret rfl rfl
theorem m157_21_ok    {s : xSt} {q : xSt} (h : m157_21   s = some q) : HE V L Kc Ks 157 (21, [(0, .ref 87)], [.ref 87], (Q, hpR s)) (none) (Q, hpR q) := by
  unfold m157_21 at h
  refine h_it 1 (x' := (22, [(0, .ref 87)], [.int 0, .ref 87], (Q, hpR s))) rfl ?_
  refine h_lw (lv := [(0, .ref 87)]) (fa_c rfl (fa_n)) rfl ?_
  exact m157_22_ok  h
theorem m157_ok  {s : xSt} {q : xSt} (h : m157  s = some q) : HC V L Kc Ks 157 [.ref 87] (Q, hpR s) (none) (Q, hpR q) := by
  unfold m157 at h
  refine hc_of (by decide) rfl ?_
  refine h_it 3 (x' := (5, [(0, .ref 87)], [.int (gI s 24), .ref 87], (Q, hpR s))) rfl ?_
  refine h_br (b := decide (¬ (gI s 24) = 0)) (t := 21) (f := 8) (lv' := [(0, .ref 87)]) (st' := [.ref 87]) rfl rfl ?_
  by_cases h1 : (gI s 24) = 0
  · replace h := if_y h1 h
    refine h_n (fun z => z h1) ?_
    refine h_it 3 (x' := (14, [(0, .ref 87)], [.int 64, .int (gI s 27), .ref 87], (Q, hpR s))) rfl ?_
    refine h_br (b := decide (64 ≤ (gI s 27))) (t := 21) (f := 17) (lv' := [(0, .ref 87)]) (st' := [.ref 87]) rfl rfl ?_
    by_cases h2 : 64 ≤ (gI s 27)
    · replace h := if_y h2 h
      refine h_y h2 ?_
      refine h_lw (lv := [(0, .ref 87)]) (fa_c rfl (fa_n)) rfl ?_
      exact m157_21_ok  h
    · replace h := if_n h2 h
      refine h_n h2 ?_
      refine h_it 2 (x' := (22, [(0, .ref 87)], [.int 1, .ref 87], (Q, hpR s))) rfl ?_
      refine h_lw (lv := [(0, .ref 87)]) (fa_c rfl (fa_n)) rfl ?_
      exact m157_22_ok  h
  · replace h := if_n h1 h
    refine h_y h1 ?_
    refine h_lw (lv := [(0, .ref 87)]) (fa_c rfl (fa_n)) rfl ?_
    exact m157_21_ok  h
end Sm157
