section Sm202
variable {V : xmV} {L : List Nat} {Kc Ks : Nat} {Q : List xE}
theorem m202_ok  (s : xSt) : HC V L Kc Ks 202 [.ref 85] (Q, hpR s) (some (.int (gI s 0))) (Q, hpR s) := by
  refine hc_of (by decide) rfl ?_
  refine h_it 2 (x' := (4, [(0, .ref 85)], [.int (gI s 0)], (Q, hpR s))) rfl ?_
  exact h_iret rfl rfl
end Sm202
section Sm203
variable {V : xmV} {L : List Nat} {Kc Ks : Nat} {Q : List xE}
theorem m203_35_ok   : ∀ (n : Nat) (x1 : Int64) (x4 : Int32) (s : xSt) (q : Bool × xSt), m203_35  n x1 x4 s = some q → HE V L Kc Ks 203 (35, [(0, .ref 85), (1, .long x1), (4, .int x4)], [], (Q, hpR s)) (some (.int (b01 q.1))) (Q, hpR q.2) := by
  intro n
  induction n with
  | zero => intro x1 x4 s q h; cases h
  | succ n ih =>
    intro x1 x4 s q h
    unfold m203_35 at h
    refine h_it 1 (x' := (37, [(0, .ref 85), (1, .long x1), (4, .int x4)], [.int x4], (Q, hpR s))) rfl ?_
    refine h_br (b := decide (x4 < 0)) (t := 74) (f := 40) (lv' := [(0, .ref 85), (1, .long x1), (4, .int x4)]) (st' := []) rfl rfl ?_
    by_cases h4 : x4 < 0
    · replace h := if_y h4 h
      refine h_y h4 ?_
      replace h := Option.some.inj h; subst h
      refine h_it 1 (x' := (75, [(0, .ref 85), (1, .long x1), (4, .int x4)], [.int (b01 true)], (Q, hpR s))) rfl ?_
      exact h_zret rfl rfl
    · replace h := if_n h4 h
      refine h_n h4 ?_
      refine h_it 11 (x' := (57, [(0, .ref 85), (1, .long x1), (4, .int x4)], [.int (Int8.toInt32 (Int32.toInt8 (Int64.toInt32 (x1 >>> ((Int32.toInt64 (8 * x4)) &&& 63))))), .int (gI s 1), .ref 86], (Q, hpR s))) rfl ?_
      obtain ⟨u5, hu5, h⟩ := Option.bind_eq_some_iff.mp h
      refine h_bast rfl rfl hu5 ?_
      show HE V L Kc Ks 203 (58, [(0, .ref 85), (1, .long x1), (4, .int x4)], [], (Q, hpR (sR s 0 u5))) _ _
      refine h_it 8 (x' := (35, [(4, .int (x4 + (-1))), (0, .ref 85), (1, .long x1)], [], (Q, hpR (sI (sR s 0 u5) 1 ((gI s 1) + 1))))) rfl ?_
      refine h_lw (lv := [(0, .ref 85), (1, .long x1), (4, .int (x4 + (-1)))]) (fa_c rfl (fa_c rfl (fa_c rfl (fa_n)))) rfl ?_
      exact ih x1 (x4 + (-1)) (sI (sR s 0 u5) 1 ((gI s 1) + 1)) _ h
theorem m203_ok {l1 : Int64} {a2 : Int32} {s : xSt} {q : Bool × xSt} (h : m203 l1 a2 s = some q) : HC V L Kc Ks 203 [.ref 85, .long l1, .int a2] (Q, hpR s) (some (.int (b01 q.1))) (Q, hpR q.2) := by
  unfold m203 at h
  refine hc_of (by decide) rfl ?_
  refine h_it 5 (x' := (7, [(0, .ref 85), (1, .long l1), (3, .int a2)], [.int 1, .int a2], (Q, hpR (sI s 0 0)))) rfl ?_
  refine h_br (b := decide (a2 < 1)) (t := 28) (f := 10) (lv' := [(0, .ref 85), (1, .long l1), (3, .int a2)]) (st' := []) rfl rfl ?_
  by_cases h1 : a2 < 1
  · replace h := if_y h1 h
    refine h_y h1 ?_
    replace h := Option.some.inj h; subst h
    refine h_it 1 (x' := (29, [(0, .ref 85), (1, .long l1), (3, .int a2)], [.int (b01 false)], (Q, hpR (sI s 0 0)))) rfl ?_
    exact h_zret rfl rfl
  · replace h := if_n h1 h
    refine h_n h1 ?_
    refine h_it 2 (x' := (13, [(0, .ref 85), (1, .long l1), (3, .int a2)], [.int 8, .int a2], (Q, hpR (sI s 0 0)))) rfl ?_
    refine h_br (b := decide (8 < a2)) (t := 28) (f := 16) (lv' := [(0, .ref 85), (1, .long l1), (3, .int a2)]) (st' := []) rfl rfl ?_
    by_cases h2 : 8 < a2
    · replace h := if_y h2 h
      refine h_y h2 ?_
      replace h := Option.some.inj h; subst h
      refine h_it 1 (x' := (29, [(0, .ref 85), (1, .long l1), (3, .int a2)], [.int (b01 false)], (Q, hpR (sI s 0 0)))) rfl ?_
      exact h_zret rfl rfl
    · replace h := if_n h2 h
      refine h_n h2 ?_
      refine h_it 5 (x' := (25, [(0, .ref 85), (1, .long l1), (3, .int a2)], [.int 8192, .int ((gI s 1) + a2)], (Q, hpR (sI s 0 0)))) rfl ?_
      refine h_br (b := decide (((gI s 1) + a2) ≤ 8192)) (t := 30) (f := 28) (lv' := [(0, .ref 85), (1, .long l1), (3, .int a2)]) (st' := []) rfl rfl ?_
      by_cases h3 : ((gI s 1) + a2) ≤ 8192
      · replace h := if_y h3 h
        refine h_y h3 ?_
        refine h_it 4 (x' := (35, [(4, .int (a2 - 1)), (0, .ref 85), (1, .long l1), (3, .int a2)], [], (Q, hpR (sI s 0 0)))) rfl ?_
        refine h_lw (lv := [(0, .ref 85), (1, .long l1), (4, .int (a2 - 1))]) (fa_c rfl (fa_c rfl (fa_c rfl (fa_n)))) rfl ?_
        exact m203_35_ok  1000000 l1 (a2 - 1) (sI s 0 0) _ h
      · replace h := if_n h3 h
        refine h_n h3 ?_
        replace h := Option.some.inj h; subst h
        refine h_it 1 (x' := (29, [(0, .ref 85), (1, .long l1), (3, .int a2)], [.int (b01 false)], (Q, hpR (sI s 0 0)))) rfl ?_
        exact h_zret rfl rfl
end Sm203
section Sm205
variable {V : xmV} {L : List Nat} {Kc Ks : Nat} {Q : List xE}
theorem m205_15_ok   : ∀ (n : Nat) (x1 : Int32) (s : xSt) (q : xSt), m205_15  n x1 s = some q → HE V L Kc Ks 205 (15, [(0, .ref 85), (1, .int x1)], [], (Q, hpR s)) (none) (Q, hpR q) := by
  intro n
  induction n with
  | zero => intro x1 s q h; cases h
  | succ n ih =>
    intro x1 s q h
    unfold m205_15 at h
    refine h_it 3 (x' := (20, [(0, .ref 85), (1, .int x1)], [.int (gI s 7), .int x1], (Q, hpR s))) rfl ?_
    refine h_br (b := decide ((gI s 7) ≤ x1)) (t := 41) (f := 23) (lv' := [(0, .ref 85), (1, .int x1)]) (st' := []) rfl rfl ?_
    by_cases h1 : (gI s 7) ≤ x1
    · replace h := if_y h1 h
      refine h_y h1 ?_
      replace h := Option.some.inj h; subst h
      refine h_it 3 (x' := (46, [(0, .ref 85), (1, .int x1)], [], (Q, hpR (sI s 9 0)))) rfl ?_
      exact h_vret rfl rfl
    · replace h := if_n h1 h
      refine h_n h1 ?_
      refine h_it 6 (x' := (33, [(0, .ref 85), (1, .int x1)], [.int x1, .ref 141, .int x1, .ref 142], (Q, hpR s))) rfl ?_
      obtain ⟨v2, hv2, h⟩ := Option.bind_eq_some_iff.mp h
      refine h_iald rfl rfl hv2 ?_
      obtain ⟨u3, hu3, h⟩ := Option.bind_eq_some_iff.mp h
      refine h_iast rfl rfl hu3 ?_
      show HE V L Kc Ks 205 (35, [(0, .ref 85), (1, .int x1)], [], (Q, hpR (sR s 46 u3))) _ _
      refine h_it 2 (x' := (15, [(1, .int (x1 + 1)), (0, .ref 85)], [], (Q, hpR (sR s 46 u3)))) rfl ?_
      refine h_lw (lv := [(0, .ref 85), (1, .int (x1 + 1))]) (fa_c rfl (fa_c rfl (fa_n))) rfl ?_
      exact ih (x1 + 1) (sR s 46 u3) _ h
theorem m205_ok  {s : xSt} {q : xSt} (h : m205  s = some q) : HC V L Kc Ks 205 [.ref 85] (Q, hpR s) (none) (Q, hpR q) := by
  unfold m205 at h
  refine hc_of (by decide) rfl ?_
  refine h_it 9 (x' := (15, [(1, .int 0), (0, .ref 85)], [], (Q, hpR (sI (sI s 0 0) 8 (gI s 7))))) rfl ?_
  refine h_lw (lv := [(0, .ref 85), (1, .int 0)]) (fa_c rfl (fa_c rfl (fa_n))) rfl ?_
  exact m205_15_ok  1000000 0 (sI (sI s 0 0) 8 (gI s 7)) _ h
end Sm205
section Sm152
variable {V : xmV} {L : List Nat} {Kc Ks : Nat} {Q : List xE}
theorem m152_ok {a0 : Int32} {s : xSt} {q : Bool × xSt} (h : m152 a0 s = some q) : HC V L Kc Ks 152 [.int a0] (Q, hpR s) (some (.int (b01 q.1))) (Q, hpR q.2) := by
  unfold m152 at h
  refine hc_of (by decide) rfl ?_
  refine h_it 2 (x' := (3, [(0, .int a0)], [.int 97, .int a0], (Q, hpR s))) rfl ?_
  refine h_br (b := decide (a0 < 97)) (t := 16) (f := 6) (lv' := [(0, .int a0)]) (st' := []) rfl rfl ?_
  by_cases h1 : a0 < 97
  · replace h := if_y h1 h
    refine h_y h1 ?_
    replace h := Option.some.inj h; subst h
    refine h_it 1 (x' := (17, [(0, .int a0)], [.int (b01 false)], (Q, hpR s))) rfl ?_
    exact h_zret rfl rfl
  · replace h := if_n h1 h
    refine h_n h1 ?_
    refine h_it 2 (x' := (9, [(0, .int a0)], [.int 122, .int a0], (Q, hpR s))) rfl ?_
    refine h_br (b := decide (122 < a0)) (t := 16) (f := 12) (lv' := [(0, .int a0)]) (st' := []) rfl rfl ?_
    by_cases h2 : 122 < a0
    · replace h := if_y h2 h
      refine h_y h2 ?_
      replace h := Option.some.inj h; subst h
      refine h_it 1 (x' := (17, [(0, .int a0)], [.int (b01 false)], (Q, hpR s))) rfl ?_
      exact h_zret rfl rfl
    · replace h := if_n h2 h
      refine h_n h2 ?_
      replace h := Option.some.inj h; subst h
      refine h_it 2 (x' := (17, [(0, .int a0)], [.int (b01 true)], (Q, hpR s))) rfl ?_
      exact h_zret rfl rfl
end Sm152
section Sm153
variable {V : xmV} {L : List Nat} {Kc Ks : Nat} {Q : List xE}
theorem m153_ok {a0 : Int32} {s : xSt} {q : Bool × xSt} (h : m153 a0 s = some q) : HC V L Kc Ks 153 [.int a0] (Q, hpR s) (some (.int (b01 q.1))) (Q, hpR q.2) := by
  unfold m153 at h
  refine hc_of (by decide) rfl ?_
  refine h_it 2 (x' := (3, [(0, .int a0)], [.int 48, .int a0], (Q, hpR s))) rfl ?_
  refine h_br (b := decide (a0 < 48)) (t := 16) (f := 6) (lv' := [(0, .int a0)]) (st' := []) rfl rfl ?_
  by_cases h1 : a0 < 48
  · replace h := if_y h1 h
    refine h_y h1 ?_
    replace h := Option.some.inj h; subst h
    refine h_it 1 (x' := (17, [(0, .int a0)], [.int (b01 false)], (Q, hpR s))) rfl ?_
    exact h_zret rfl rfl
  · replace h := if_n h1 h
    refine h_n h1 ?_
    refine h_it 2 (x' := (9, [(0, .int a0)], [.int 57, .int a0], (Q, hpR s))) rfl ?_
    refine h_br (b := decide (57 < a0)) (t := 16) (f := 12) (lv' := [(0, .int a0)]) (st' := []) rfl rfl ?_
    by_cases h2 : 57 < a0
    · replace h := if_y h2 h
      refine h_y h2 ?_
      replace h := Option.some.inj h; subst h
      refine h_it 1 (x' := (17, [(0, .int a0)], [.int (b01 false)], (Q, hpR s))) rfl ?_
      exact h_zret rfl rfl
    · replace h := if_n h2 h
      refine h_n h2 ?_
      replace h := Option.some.inj h; subst h
      refine h_it 2 (x' := (17, [(0, .int a0)], [.int (b01 true)], (Q, hpR s))) rfl ?_
      exact h_zret rfl rfl
end Sm153
section Sm151
variable {V : xmV} {L : List Nat} {Kc Ks : Nat} {Q : List xE}
theorem m151_ok {a1 : Int32} {s : xSt} {q : Bool × xSt} (h : m151 a1 s = some q) : HC V L Kc Ks 151 [.ref 87, .int a1] (Q, hpR s) (some (.int (b01 q.1))) (Q, hpR q.2) := by
  unfold m151 at h
  refine hc_of (by decide) rfl ?_
  refine h_it 3 (x' := (5, [(0, .ref 87), (1, .int a1)], [.int (gI s 20), .int a1], (Q, hpR s))) rfl ?_
  refine h_br (b := decide ((gI s 20) ≤ a1)) (t := 47) (f := 8) (lv' := [(0, .ref 87), (1, .int a1)]) (st' := []) rfl rfl ?_
  by_cases h1 : (gI s 20) ≤ a1
  · replace h := if_y h1 h
    refine h_y h1 ?_
    replace h := Option.some.inj h; subst h
    refine h_it 1 (x' := (48, [(0, .ref 87), (1, .int a1)], [.int (b01 false)], (Q, hpR s))) rfl ?_
    exact h_zret rfl rfl
  · replace h := if_n h1 h
    refine h_n h1 ?_
    refine h_it 3 (x' := (13, [(0, .ref 87), (1, .int a1)], [.int a1, .ref 88], (Q, hpR s))) rfl ?_
    obtain ⟨v2, hv2, h⟩ := Option.bind_eq_some_iff.mp h
    refine h_bald rfl (Or.inl rfl) rfl hv2 ?_
    obtain ⟨q3, hq3, h⟩ := Option.bind_eq_some_iff.mp h
    refine h_callS (av := [.int v2]) (r1 := some (.int (b01 q3.1))) (st := []) (H1 := (Q, hpR q3.2)) rfl rfl rfl rfl rfl (m152_ok hq3) ?_
    refine h_br (b := decide (¬ (b01 q3.1) = 0)) (t := 43) (f := 20) (lv' := [(0, .ref 87), (1, .int a1)]) (st' := []) rfl rfl ?_
    by_cases h4 : q3.1 = true
    · replace h := if_y h4 h
      refine h_y (b01_1 h4) ?_
      replace h := Option.some.inj h; subst h
      refine h_it 2 (x' := (48, [(0, .ref 87), (1, .int a1)], [.int (b01 true)], (Q, hpR q3.2))) rfl ?_
      exact h_zret rfl rfl
    · replace h := if_n h4 h
      refine h_n (fun z => z (b01_0 h4)) ?_
      refine h_it 3 (x' := (25, [(0, .ref 87), (1, .int a1)], [.int a1, .ref 88], (Q, hpR q3.2))) rfl ?_
      obtain ⟨v5, hv5, h⟩ := Option.bind_eq_some_iff.mp h
      refine h_bald rfl (Or.inl rfl) rfl hv5 ?_
      obtain ⟨q6, hq6, h⟩ := Option.bind_eq_some_iff.mp h
      refine h_callS (av := [.int v5]) (r1 := some (.int (b01 q6.1))) (st := []) (H1 := (Q, hpR q6.2)) rfl rfl rfl rfl rfl (m153_ok hq6) ?_
      refine h_br (b := decide (¬ (b01 q6.1) = 0)) (t := 43) (f := 32) (lv' := [(0, .ref 87), (1, .int a1)]) (st' := []) rfl rfl ?_
      by_cases h7 : q6.1 = true
      · replace h := if_y h7 h
        refine h_y (b01_1 h7) ?_
        replace h := Option.some.inj h; subst h
        refine h_it 2 (x' := (48, [(0, .ref 87), (1, .int a1)], [.int (b01 true)], (Q, hpR q6.2))) rfl ?_
        exact h_zret rfl rfl
      · replace h := if_n h7 h
        refine h_n (fun z => z (b01_0 h7)) ?_
        refine h_it 3 (x' := (37, [(0, .ref 87), (1, .int a1)], [.int a1, .ref 88], (Q, hpR q6.2))) rfl ?_
        obtain ⟨v8, hv8, h⟩ := Option.bind_eq_some_iff.mp h
        refine h_bald rfl (Or.inl rfl) rfl hv8 ?_
        refine h_it 1 (x' := (40, [(0, .ref 87), (1, .int a1)], [.int 45, .int v8], (Q, hpR q6.2))) rfl ?_
        refine h_br (b := decide (¬ v8 = 45)) (t := 47) (f := 43) (lv' := [(0, .ref 87), (1, .int a1)]) (st' := []) rfl rfl ?_
        by_cases h9 : v8 = 45
        · replace h := if_y h9 h
          refine h_n (fun z => z h9) ?_
          replace h := Option.some.inj h; subst h
          refine h_it 2 (x' := (48, [(0, .ref 87), (1, .int a1)], [.int (b01 true)], (Q, hpR q6.2))) rfl ?_
          exact h_zret rfl rfl
        · replace h := if_n h9 h
          refine h_y h9 ?_
          replace h := Option.some.inj h; subst h
          refine h_it 1 (x' := (48, [(0, .ref 87), (1, .int a1)], [.int (b01 false)], (Q, hpR q6.2))) rfl ?_
          exact h_zret rfl rfl
end Sm151
section Sm154
variable {V : xmV} {L : List Nat} {Kc Ks : Nat} {Q : List xE}
theorem m154_ok {a1 : Int32} {a2 : Int32} {s : xSt} {q : xSt} (h : m154 a1 a2 s = some q) : HC V L Kc Ks 154 [.ref 87, .int a1, .int a2] (Q, hpR s) (none) (Q, hpR q) := by
  unfold m154 at h
  refine hc_of (by decide) rfl ?_
  refine h_it 2 (x' := (4, [(0, .ref 87), (1, .int a1), (2, .int a2)], [.int (gI s 21)], (Q, hpR s))) rfl ?_
  refine h_br (b := decide (¬ (gI s 21) = 0)) (t := 17) (f := 7) (lv' := [(0, .ref 87), (1, .int a1), (2, .int a2)]) (st' := []) rfl rfl ?_
  by_cases h1 : (gI s 21) = 0
  · replace h := if_y h1 h
    refine h_n (fun z => z h1) ?_
    replace h := Option.some.inj h; subst h
    refine h_it 6 (x' := (17, [(0, .ref 87), (1, .int a1), (2, .int a2)], [], (Q, hpR (sI (sI s 21 a1) 22 a2)))) rfl ?_
    exact h_vret rfl rfl
  · replace h := if_n h1 h
    refine h_y h1 ?_
    replace h := Option.some.inj h; subst h
    exact h_vret rfl rfl
end Sm154
section Sm155
variable {V : xmV} {L : List Nat} {Kc Ks : Nat} {Q : List xE}
theorem m155_64_ok {K35 : Bool → Int32 → xSt → Option (xSt)} (hK35 : ∀ (x1 : Bool) (x2 : Int32) (s : xSt) (q : xSt), K35 x1 x2 s = some q → HE V L Kc Ks 155 (35, [(0, .ref 87), (1, .int (b01 x1)), (2, .int x2)], [], (Q, hpR s)) (none) (Q, hpR q)) {x2 : Int32} {y0 : Bool} {s : xSt} {q : xSt} (h : m155_64 K35 x2 y0 s = some q) : HE V L Kc Ks 155 (64, [(0, .ref 87), (2, .int x2)], [.int (b01 y0)], (Q, hpR s)) (none) (Q, hpR q) := by
  unfold m155_64 at h
  refine h_it 9 (x' := (79, [(1, .int (b01 y0)), (0, .ref 87), (2, .int x2)], [.int x2, .ref 88, .long (32 * (gJ s 0)), .ref 87], (Q, hpR s))) rfl ?_
  obtain ⟨v9, hv9, h⟩ := Option.bind_eq_some_iff.mp h
  refine h_bald rfl (Or.inl rfl) rfl hv9 ?_
  refine h_it 9 (x' := (35, [(2, .int (x2 + 1)), (1, .int (b01 y0)), (0, .ref 87)], [], (Q, hpR (sJ s 0 ((32 * (gJ s 0)) + (Int32.toInt64 ((v9 - 97) + 1))))))) rfl ?_
  refine h_lw (lv := [(0, .ref 87), (1, .int (b01 y0)), (2, .int (x2 + 1))]) (fa_c rfl (fa_c rfl (fa_c rfl (fa_n)))) rfl ?_
  exact hK35 y0 (x2 + 1) (sJ s 0 ((32 * (gJ s 0)) + (Int32.toInt64 ((v9 - 97) + 1)))) _ h
theorem m155_63_ok {K35 : Bool → Int32 → xSt → Option (xSt)} (hK35 : ∀ (x1 : Bool) (x2 : Int32) (s : xSt) (q : xSt), K35 x1 x2 s = some q → HE V L Kc Ks 155 (35, [(0, .ref 87), (1, .int (b01 x1)), (2, .int x2)], [], (Q, hpR s)) (none) (Q, hpR q)) {x2 : Int32} {s : xSt} {q : xSt} (h : m155_63 K35 x2 s = some q) : HE V L Kc Ks 155 (63, [(0, .ref 87), (2, .int x2)], [], (Q, hpR s)) (none) (Q, hpR q) := by
  unfold m155_63 at h
  refine h_it 1 (x' := (64, [(0, .ref 87), (2, .int x2)], [.int 0], (Q, hpR s))) rfl ?_
  refine h_lw (lv := [(0, .ref 87), (2, .int x2)]) (fa_c rfl (fa_c rfl (fa_n))) rfl ?_
  exact m155_64_ok hK35 h
theorem m155_35_ok   : ∀ (n : Nat) (x1 : Bool) (x2 : Int32) (s : xSt) (q : xSt), m155_35  n x1 x2 s = some q → HE V L Kc Ks 155 (35, [(0, .ref 87), (1, .int (b01 x1)), (2, .int x2)], [], (Q, hpR s)) (none) (Q, hpR q) := by
  intro n
  induction n with
  | zero => intro x1 x2 s q h; cases h
  | succ n ih =>
    intro x1 x2 s q h
    unfold m155_35 at h
    refine h_it 3 (x' := (40, [(0, .ref 87), (1, .int (b01 x1)), (2, .int x2)], [.int (gI s 23), .int x2], (Q, hpR s))) rfl ?_
    refine h_br (b := decide ((gI s 23) ≤ x2)) (t := 96) (f := 43) (lv' := [(0, .ref 87), (1, .int (b01 x1)), (2, .int x2)]) (st' := []) rfl rfl ?_
    by_cases h2 : (gI s 23) ≤ x2
    · replace h := if_y h2 h
      refine h_y h2 ?_
      refine h_it 1 (x' := (97, [(0, .ref 87), (1, .int (b01 x1)), (2, .int x2)], [.int (b01 x1)], (Q, hpR s))) rfl ?_
      refine h_br (b := decide (¬ (b01 x1) = 0)) (t := 109) (f := 100) (lv' := [(0, .ref 87), (1, .int (b01 x1)), (2, .int x2)]) (st' := []) rfl rfl ?_
      by_cases h3 : x1 = true
      · replace h := if_y h3 h
        refine h_y (b01_1 h3) ?_
        replace h := Option.some.inj h; subst h
        exact h_vret rfl rfl
      · replace h := if_n h3 h
        refine h_n (fun z => z (b01_0 h3)) ?_
        refine h_it 4 (x' := (106, [(0, .ref 87), (1, .int (b01 x1)), (2, .int x2)], [.int (gI s 25), .int 1, .ref 87], (Q, hpR s))) rfl ?_
        obtain ⟨q4, hq4, h⟩ := Option.bind_eq_some_iff.mp h
        refine h_callO (As := [.int 1, .int (gI s 25)]) (r1 := none) (st := []) (H1 := (Q, hpR q4)) rfl rfl rfl rfl rfl rfl (m154_ok hq4) ?_
        replace h := Option.some.inj h; subst h
        exact h_vret rfl rfl
    · replace h := if_n h2 h
      refine h_n h2 ?_
      refine h_it 1 (x' := (44, [(0, .ref 87), (1, .int (b01 x1)), (2, .int x2)], [.int (b01 x1)], (Q, hpR s))) rfl ?_
      refine h_br (b := decide ((b01 x1) = 0)) (t := 63) (f := 47) (lv' := [(0, .ref 87), (1, .int (b01 x1)), (2, .int x2)]) (st' := []) rfl rfl ?_
      by_cases h5 : x1 = true
      · replace h := if_y h5 h
        refine h_n (b01_1 h5) ?_
        refine h_it 3 (x' := (52, [(0, .ref 87), (1, .int (b01 x1)), (2, .int x2)], [.int x2, .ref 88], (Q, hpR s))) rfl ?_
        obtain ⟨v6, hv6, h⟩ := Option.bind_eq_some_iff.mp h
        refine h_bald rfl (Or.inl rfl) rfl hv6 ?_
        obtain ⟨q7, hq7, h⟩ := Option.bind_eq_some_iff.mp h
        refine h_callS (av := [.int v6]) (r1 := some (.int (b01 q7.1))) (st := []) (H1 := (Q, hpR q7.2)) rfl rfl rfl rfl rfl (m152_ok hq7) ?_
        refine h_br (b := decide ((b01 q7.1) = 0)) (t := 63) (f := 59) (lv' := [(0, .ref 87), (1, .int (b01 x1)), (2, .int x2)]) (st' := []) rfl rfl ?_
        by_cases h8 : q7.1 = true
        · replace h := if_y h8 h
          refine h_n (b01_1 h8) ?_
          refine h_it 2 (x' := (64, [(0, .ref 87), (1, .int (b01 x1)), (2, .int x2)], [.int 1], (Q, hpR q7.2))) rfl ?_
          refine h_lw (lv := [(0, .ref 87), (2, .int x2)]) (fa_c rfl (fa_c rfl (fa_n))) rfl ?_
          exact m155_64_ok ih h
        · replace h := if_n h8 h
          refine h_y (b01_0 h8) ?_
          refine h_lw (lv := [(0, .ref 87), (2, .int x2)]) (fa_c rfl (fa_c rfl (fa_n))) rfl ?_
          exact m155_63_ok ih h
      · replace h := if_n h5 h
        refine h_y (b01_0 h5) ?_
        refine h_lw (lv := [(0, .ref 87), (2, .int x2)]) (fa_c rfl (fa_c rfl (fa_n))) rfl ?_
        exact m155_63_ok ih h
theorem m155_29_ok   {y0 : Bool} {s : xSt} {q : xSt} (h : m155_29  y0 s = some q) : HE V L Kc Ks 155 (29, [(0, .ref 87)], [.int (b01 y0)], (Q, hpR s)) (none) (Q, hpR q) := by
  unfold m155_29 at h
  refine h_it 4 (x' := (35, [(2, .int (gI s 25)), (1, .int (b01 y0)), (0, .ref 87)], [], (Q, hpR s))) rfl ?_
  refine h_lw (lv := [(0, .ref 87), (1, .int (b01 y0)), (2, .int (gI s 25))]) (fa_c rfl (fa_c rfl (fa_c rfl (fa_n)))) rfl ?_
  exact m155_35_ok  1000000 y0 (gI s 25) s _ h
theorem m155_ok  {s : xSt} {q : xSt} (h : m155  s = some q) : HC V L Kc Ks 155 [.ref 87] (Q, hpR s) (none) (Q, hpR q) := by
  unfold m155 at h
  refine hc_of (by decide) rfl ?_
  refine h_it 12 (x' := (21, [(0, .ref 87)], [.int 12, .int ((gI s 23) - (gI s 25))], (Q, hpR (sJ (sI s 24 2) 0 0)))) rfl ?_
  refine h_br (b := decide (12 < ((gI s 23) - (gI s 25)))) (t := 28) (f := 24) (lv' := [(0, .ref 87)]) (st' := []) rfl rfl ?_
  by_cases h1 : 12 < ((gI s 23) - (gI s 25))
  · replace h := if_y h1 h
    refine h_y h1 ?_
    refine h_it 1 (x' := (29, [(0, .ref 87)], [.int 0], (Q, hpR (sJ (sI s 24 2) 0 0)))) rfl ?_
    refine h_lw (lv := [(0, .ref 87)]) (fa_c rfl (fa_n)) rfl ?_
    exact m155_29_ok  h
  · replace h := if_n h1 h
    refine h_n h1 ?_
    refine h_it 2 (x' := (29, [(0, .ref 87)], [.int 1], (Q, hpR (sJ (sI s 24 2) 0 0)))) rfl ?_
    refine h_lw (lv := [(0, .ref 87)]) (fa_c rfl (fa_n)) rfl ?_
    exact m155_29_ok  h
end Sm155
section Sm156
variable {V : xmV} {L : List Nat} {Kc Ks : Nat} {Q : List xE}
theorem m156_155_ok   {x3 : Int64} {s : xSt} {q : xSt} (h : m156_155  x3 s = some q) : HE V L Kc Ks 156 (155, [(0, .ref 87), (3, .long x3)], [], (Q, hpR s)) (none) (Q, hpR q) := by
  unfold m156_155 at h
  refine h_it 4 (x' := (161, [(0, .ref 87), (3, .long x3)], [.int (gI s 25), .int 1, .ref 87], (Q, hpR s))) rfl ?_
  obtain ⟨q8, hq8, h⟩ := Option.bind_eq_some_iff.mp h
  refine h_callO (As := [.int 1, .int (gI s 25)]) (r1 := none) (st := []) (H1 := (Q, hpR q8)) rfl rfl rfl rfl rfl rfl (m154_ok hq8) ?_
  replace h := Option.some.inj h; subst h
  refine h_it 4 (x' := (170, [(0, .ref 87), (3, .long x3)], [], (Q, hpR (sI q8 26 (Int64.toInt32 x3))))) rfl ?_
  exact h_vret rfl rfl
theorem m156_134_ok   {x2 : Bool} {y0 : Int64} {s : xSt} {q : xSt} (h : m156_134  x2 y0 s = some q) : HE V L Kc Ks 156 (134, [(0, .ref 87), (2, .int (b01 x2))], [.long y0], (Q, hpR s)) (none) (Q, hpR q) := by
  unfold m156_134 at h
  refine h_it 2 (x' := (136, [(3, .long y0), (0, .ref 87), (2, .int (b01 x2))], [.int (b01 x2)], (Q, hpR s))) rfl ?_
  refine h_br (b := decide ((b01 x2) = 0)) (t := 155) (f := 139) (lv' := [(3, .long y0), (0, .ref 87), (2, .int (b01 x2))]) (st' := []) rfl rfl ?_
  by_cases h6 : x2 = true
  · replace h := if_y h6 h
    refine h_n (b01_1 h6) ?_
    refine h_it 3 (x' := (144, [(3, .long y0), (0, .ref 87), (2, .int (b01 x2))], [.int (lg_cmp y0 (-2147483648))], (Q, hpR s))) rfl ?_
    refine h_br (b := decide ((lg_cmp y0 (-2147483648)) < 0)) (t := 155) (f := 147) (lv' := [(3, .long y0), (0, .ref 87), (2, .int (b01 x2))]) (st' := []) rfl rfl ?_
    by_cases h7 : (lg_cmp y0 (-2147483648)) < 0
    · replace h := if_y h7 h
      refine h_y h7 ?_
      refine h_lw (lv := [(0, .ref 87), (3, .long y0)]) (fa_c rfl (fa_c rfl (fa_n))) rfl ?_
      exact m156_155_ok  h
    · replace h := if_n h7 h
      refine h_n h7 ?_
      refine h_it 3 (x' := (152, [(3, .long y0), (0, .ref 87), (2, .int (b01 x2))], [.int (lg_cmp y0 2147483647)], (Q, hpR s))) rfl ?_
      refine h_br (b := decide ((lg_cmp y0 2147483647) ≤ 0)) (t := 164) (f := 155) (lv' := [(3, .long y0), (0, .ref 87), (2, .int (b01 x2))]) (st' := []) rfl rfl ?_
      by_cases h9 : (lg_cmp y0 2147483647) ≤ 0
      · replace h := if_y h9 h
        refine h_y h9 ?_
        replace h := Option.some.inj h; subst h
        refine h_it 4 (x' := (170, [(3, .long y0), (0, .ref 87), (2, .int (b01 x2))], [], (Q, hpR (sI s 26 (Int64.toInt32 y0))))) rfl ?_
        exact h_vret rfl rfl
      · replace h := if_n h9 h
        refine h_n h9 ?_
        refine h_lw (lv := [(0, .ref 87), (3, .long y0)]) (fa_c rfl (fa_c rfl (fa_n))) rfl ?_
        exact m156_155_ok  h
  · replace h := if_n h6 h
    refine h_y (b01_0 h6) ?_
    refine h_lw (lv := [(0, .ref 87), (3, .long y0)]) (fa_c rfl (fa_c rfl (fa_n))) rfl ?_
    exact m156_155_ok  h
theorem m156_83_ok {K52 : Int32 → Bool → Int64 → Int32 → xSt → Option (xSt)} (hK52 : ∀ (x1 : Int32) (x2 : Bool) (x3 : Int64) (x5 : Int32) (s : xSt) (q : xSt), K52 x1 x2 x3 x5 s = some q → HE V L Kc Ks 156 (52, [(0, .ref 87), (1, .int x1), (2, .int (b01 x2)), (3, .long x3), (5, .int x5)], [], (Q, hpR s)) (none) (Q, hpR q)) {x1 : Int32} {x3 : Int64} {x5 : Int32} {y0 : Bool} {s : xSt} {q : xSt} (h : m156_83 K52 x1 x3 x5 y0 s = some q) : HE V L Kc Ks 156 (83, [(0, .ref 87), (1, .int x1), (3, .long x3), (5, .int x5)], [.int (b01 y0)], (Q, hpR s)) (none) (Q, hpR q) := by
  unfold m156_83 at h
  refine h_it 4 (x' := (89, [(2, .int (b01 y0)), (0, .ref 87), (1, .int x1), (3, .long x3), (5, .int x5)], [.int (lg_cmp x3 99999999999)], (Q, hpR s))) rfl ?_
  refine h_br (b := decide ((lg_cmp x3 99999999999) ≤ 0)) (t := 96) (f := 92) (lv' := [(2, .int (b01 y0)), (0, .ref 87), (1, .int x1), (3, .long x3), (5, .int x5)]) (st' := []) rfl rfl ?_
  by_cases h14 : (lg_cmp x3 99999999999) ≤ 0
  · replace h := if_y h14 h
    refine h_y h14 ?_
    refine h_it 6 (x' := (107, [(2, .int (b01 y0)), (0, .ref 87), (1, .int x1), (3, .long x3), (5, .int x5)], [.int x5, .ref 88, .long (10 * x3)], (Q, hpR s))) rfl ?_
    obtain ⟨v15, hv15, h⟩ := Option.bind_eq_some_iff.mp h
    refine h_bald rfl (Or.inl rfl) rfl hv15 ?_
    refine h_it 7 (x' := (52, [(5, .int (x5 + 1)), (3, .long ((10 * x3) + (Int32.toInt64 (v15 - 48)))), (2, .int (b01 y0)), (0, .ref 87), (1, .int x1)], [], (Q, hpR s))) rfl ?_
    refine h_lw (lv := [(0, .ref 87), (1, .int x1), (2, .int (b01 y0)), (3, .long ((10 * x3) + (Int32.toInt64 (v15 - 48)))), (5, .int (x5 + 1))]) (fa_c rfl (fa_c rfl (fa_c rfl (fa_c rfl (fa_c rfl (fa_n)))))) rfl ?_
    exact hK52 x1 y0 ((10 * x3) + (Int32.toInt64 (v15 - 48))) (x5 + 1) s _ h
  · replace h := if_n h14 h
    refine h_n h14 ?_
    refine h_it 5 (x' := (52, [(5, .int (x5 + 1)), (3, .long x3), (2, .int (b01 y0)), (0, .ref 87), (1, .int x1)], [], (Q, hpR s))) rfl ?_
    refine h_lw (lv := [(0, .ref 87), (1, .int x1), (2, .int (b01 y0)), (3, .long x3), (5, .int (x5 + 1))]) (fa_c rfl (fa_c rfl (fa_c rfl (fa_c rfl (fa_c rfl (fa_n)))))) rfl ?_
    exact hK52 x1 y0 x3 (x5 + 1) s _ h
theorem m156_82_ok {K52 : Int32 → Bool → Int64 → Int32 → xSt → Option (xSt)} (hK52 : ∀ (x1 : Int32) (x2 : Bool) (x3 : Int64) (x5 : Int32) (s : xSt) (q : xSt), K52 x1 x2 x3 x5 s = some q → HE V L Kc Ks 156 (52, [(0, .ref 87), (1, .int x1), (2, .int (b01 x2)), (3, .long x3), (5, .int x5)], [], (Q, hpR s)) (none) (Q, hpR q)) {x1 : Int32} {x3 : Int64} {x5 : Int32} {s : xSt} {q : xSt} (h : m156_82 K52 x1 x3 x5 s = some q) : HE V L Kc Ks 156 (82, [(0, .ref 87), (1, .int x1), (3, .long x3), (5, .int x5)], [], (Q, hpR s)) (none) (Q, hpR q) := by
  unfold m156_82 at h
  refine h_it 1 (x' := (83, [(0, .ref 87), (1, .int x1), (3, .long x3), (5, .int x5)], [.int 0], (Q, hpR s))) rfl ?_
  refine h_lw (lv := [(0, .ref 87), (1, .int x1), (3, .long x3), (5, .int x5)]) (fa_c rfl (fa_c rfl (fa_c rfl (fa_c rfl (fa_n))))) rfl ?_
  exact m156_83_ok hK52 h
theorem m156_52_ok   : ∀ (n : Nat) (x1 : Int32) (x2 : Bool) (x3 : Int64) (x5 : Int32) (s : xSt) (q : xSt), m156_52  n x1 x2 x3 x5 s = some q → HE V L Kc Ks 156 (52, [(0, .ref 87), (1, .int x1), (2, .int (b01 x2)), (3, .long x3), (5, .int x5)], [], (Q, hpR s)) (none) (Q, hpR q) := by
  intro n
  induction n with
  | zero => intro x1 x2 x3 x5 s q h; cases h
  | succ n ih =>
    intro x1 x2 x3 x5 s q h
    unfold m156_52 at h
    refine h_it 3 (x' := (58, [(0, .ref 87), (1, .int x1), (2, .int (b01 x2)), (3, .long x3), (5, .int x5)], [.int (gI s 23), .int x5], (Q, hpR s))) rfl ?_
    refine h_br (b := decide ((gI s 23) ≤ x5)) (t := 120) (f := 61) (lv' := [(0, .ref 87), (1, .int x1), (2, .int (b01 x2)), (3, .long x3), (5, .int x5)]) (st' := []) rfl rfl ?_
    by_cases h4 : (gI s 23) ≤ x5
    · replace h := if_y h4 h
      refine h_y h4 ?_
      refine h_it 3 (x' := (125, [(0, .ref 87), (1, .int x1), (2, .int (b01 x2)), (3, .long x3), (5, .int x5)], [.int (gI s 25), .int x1], (Q, hpR s))) rfl ?_
      refine h_br (b := decide (x1 ≤ (gI s 25))) (t := 133) (f := 128) (lv' := [(0, .ref 87), (1, .int x1), (2, .int (b01 x2)), (3, .long x3), (5, .int x5)]) (st' := []) rfl rfl ?_
      by_cases h5 : x1 ≤ (gI s 25)
      · replace h := if_y h5 h
        refine h_y h5 ?_
        refine h_it 1 (x' := (134, [(0, .ref 87), (1, .int x1), (2, .int (b01 x2)), (3, .long x3), (5, .int x5)], [.long x3], (Q, hpR s))) rfl ?_
        refine h_lw (lv := [(0, .ref 87), (2, .int (b01 x2))]) (fa_c rfl (fa_c rfl (fa_n))) rfl ?_
        exact m156_134_ok  h
      · replace h := if_n h5 h
        refine h_n h5 ?_
        refine h_it 3 (x' := (134, [(0, .ref 87), (1, .int x1), (2, .int (b01 x2)), (3, .long x3), (5, .int x5)], [.long (-x3)], (Q, hpR s))) rfl ?_
        refine h_lw (lv := [(0, .ref 87), (2, .int (b01 x2))]) (fa_c rfl (fa_c rfl (fa_n))) rfl ?_
        exact m156_134_ok  h
    · replace h := if_n h4 h
      refine h_n h4 ?_
      refine h_it 1 (x' := (62, [(0, .ref 87), (1, .int x1), (2, .int (b01 x2)), (3, .long x3), (5, .int x5)], [.int (b01 x2)], (Q, hpR s))) rfl ?_
      refine h_br (b := decide ((b01 x2) = 0)) (t := 82) (f := 65) (lv' := [(0, .ref 87), (1, .int x1), (2, .int (b01 x2)), (3, .long x3), (5, .int x5)]) (st' := []) rfl rfl ?_
      by_cases h10 : x2 = true
      · replace h := if_y h10 h
        refine h_n (b01_1 h10) ?_
        refine h_it 3 (x' := (71, [(0, .ref 87), (1, .int x1), (2, .int (b01 x2)), (3, .long x3), (5, .int x5)], [.int x5, .ref 88], (Q, hpR s))) rfl ?_
        obtain ⟨v11, hv11, h⟩ := Option.bind_eq_some_iff.mp h
        refine h_bald rfl (Or.inl rfl) rfl hv11 ?_
        obtain ⟨q12, hq12, h⟩ := Option.bind_eq_some_iff.mp h
        refine h_callS (av := [.int v11]) (r1 := some (.int (b01 q12.1))) (st := []) (H1 := (Q, hpR q12.2)) rfl rfl rfl rfl rfl (m153_ok hq12) ?_
        refine h_br (b := decide ((b01 q12.1) = 0)) (t := 82) (f := 78) (lv' := [(0, .ref 87), (1, .int x1), (2, .int (b01 x2)), (3, .long x3), (5, .int x5)]) (st' := []) rfl rfl ?_
        by_cases h13 : q12.1 = true
        · replace h := if_y h13 h
          refine h_n (b01_1 h13) ?_
          refine h_it 2 (x' := (83, [(0, .ref 87), (1, .int x1), (2, .int (b01 x2)), (3, .long x3), (5, .int x5)], [.int 1], (Q, hpR q12.2))) rfl ?_
          refine h_lw (lv := [(0, .ref 87), (1, .int x1), (3, .long x3), (5, .int x5)]) (fa_c rfl (fa_c rfl (fa_c rfl (fa_c rfl (fa_n))))) rfl ?_
          exact m156_83_ok ih h
        · replace h := if_n h13 h
          refine h_y (b01_0 h13) ?_
          refine h_lw (lv := [(0, .ref 87), (1, .int x1), (3, .long x3), (5, .int x5)]) (fa_c rfl (fa_c rfl (fa_c rfl (fa_c rfl (fa_n))))) rfl ?_
          exact m156_82_ok ih h
      · replace h := if_n h10 h
        refine h_y (b01_0 h10) ?_
        refine h_lw (lv := [(0, .ref 87), (1, .int x1), (3, .long x3), (5, .int x5)]) (fa_c rfl (fa_c rfl (fa_c rfl (fa_c rfl (fa_n))))) rfl ?_
        exact m156_82_ok ih h
theorem m156_46_ok   {x1 : Int32} {y0 : Bool} {s : xSt} {q : xSt} (h : m156_46  x1 y0 s = some q) : HE V L Kc Ks 156 (46, [(0, .ref 87), (1, .int x1)], [.int (b01 y0)], (Q, hpR s)) (none) (Q, hpR q) := by
  unfold m156_46 at h
  refine h_it 5 (x' := (52, [(5, .int x1), (3, .long 0), (2, .int (b01 y0)), (0, .ref 87), (1, .int x1)], [], (Q, hpR s))) rfl ?_
  refine h_lw (lv := [(0, .ref 87), (1, .int x1), (2, .int (b01 y0)), (3, .long 0), (5, .int x1)]) (fa_c rfl (fa_c rfl (fa_c rfl (fa_c rfl (fa_c rfl (fa_n)))))) rfl ?_
  exact m156_52_ok  1000000 x1 y0 0 x1 s _ h
theorem m156_32_ok   {y0 : Int32} {s : xSt} {q : xSt} (h : m156_32  y0 s = some q) : HE V L Kc Ks 156 (32, [(0, .ref 87)], [.int y0], (Q, hpR s)) (none) (Q, hpR q) := by
  unfold m156_32 at h
  refine h_it 4 (x' := (38, [(1, .int y0), (0, .ref 87)], [.int (gI s 23), .int y0], (Q, hpR s))) rfl ?_
  refine h_br (b := decide ((gI s 23) ≤ y0)) (t := 45) (f := 41) (lv' := [(1, .int y0), (0, .ref 87)]) (st' := []) rfl rfl ?_
  by_cases h3 : (gI s 23) ≤ y0
  · replace h := if_y h3 h
    refine h_y h3 ?_
    refine h_it 1 (x' := (46, [(1, .int y0), (0, .ref 87)], [.int 0], (Q, hpR s))) rfl ?_
    refine h_lw (lv := [(0, .ref 87), (1, .int y0)]) (fa_c rfl (fa_c rfl (fa_n))) rfl ?_
    exact m156_46_ok  h
  · replace h := if_n h3 h
    refine h_n h3 ?_
    refine h_it 2 (x' := (46, [(1, .int y0), (0, .ref 87)], [.int 1], (Q, hpR s))) rfl ?_
    refine h_lw (lv := [(0, .ref 87), (1, .int y0)]) (fa_c rfl (fa_c rfl (fa_n))) rfl ?_
    exact m156_46_ok  h
theorem m156_ok  {s : xSt} {q : xSt} (h : m156  s = some q) : HC V L Kc Ks 156 [.ref 87] (Q, hpR s) (none) (Q, hpR q) := by
  unfold m156 at h
  refine hc_of (by decide) rfl ?_
  refine h_it 7 (x' := (13, [(0, .ref 87)], [.int (gI s 25), .ref 88], (Q, hpR (sI s 24 3)))) rfl ?_
  obtain ⟨v1, hv1, h⟩ := Option.bind_eq_some_iff.mp h
  refine h_bald rfl (Or.inl rfl) rfl hv1 ?_
  refine h_it 1 (x' := (16, [(0, .ref 87)], [.int 45, .int v1], (Q, hpR (sI s 24 3)))) rfl ?_
  refine h_br (b := decide (¬ v1 = 45)) (t := 28) (f := 19) (lv' := [(0, .ref 87)]) (st' := []) rfl rfl ?_
  by_cases h2 : v1 = 45
  · replace h := if_y h2 h
    refine h_n (fun z => z h2) ?_
    refine h_it 5 (x' := (32, [(0, .ref 87)], [.int ((gI s 25) + 1)], (Q, hpR (sI s 24 3)))) rfl ?_
    refine h_lw (lv := [(0, .ref 87)]) (fa_c rfl (fa_n)) rfl ?_
    exact m156_32_ok  h
  · replace h := if_n h2 h
    refine h_y h2 ?_
    refine h_it 2 (x' := (32, [(0, .ref 87)], [.int (gI s 25)], (Q, hpR (sI s 24 3)))) rfl ?_
    refine h_lw (lv := [(0, .ref 87)]) (fa_c rfl (fa_n)) rfl ?_
    exact m156_32_ok  h
end Sm156
section Sm150
variable {V : xmV} {L : List Nat} {Kc Ks : Nat} {Q : List xE}
theorem m150_105_ok    {s : xSt} {q : xSt} (h : m150_105   s = some q) : HE V L Kc Ks 150 (105, [(0, .ref 87)], [], (Q, hpR s)) (none) (Q, hpR q) := by
  unfold m150_105 at h
  refine h_it 5 (x' := (114, [(0, .ref 87)], [.int (gI s 23), .ref 88, .ref 87], (Q, hpR s))) rfl ?_
  obtain ⟨v5, hv5, h⟩ := Option.bind_eq_some_iff.mp h
  refine h_bald rfl (Or.inl rfl) rfl hv5 ?_
  refine h_it 1 (x' := (117, [(0, .ref 87)], [.int 40, .int v5, .ref 87], (Q, hpR s))) rfl ?_
  refine h_br (b := decide (¬ v5 = 40)) (t := 124) (f := 120) (lv' := [(0, .ref 87)]) (st' := [.ref 87]) rfl rfl ?_
  by_cases h6 : v5 = 40
  · replace h := if_y h6 h
    refine h_n (fun z => z h6) ?_
    replace h := Option.some.inj h; subst h
    refine h_it 9 (x' := (138, [(0, .ref 87)], [], (Q, hpR (sI (sI s 24 0) 23 ((gI s 23) + 1))))) rfl ?_
    exact h_vret rfl rfl
  · replace h := if_n h6 h
    refine h_y h6 ?_
    replace h := Option.some.inj h; subst h
    refine h_it 8 (x' := (138, [(0, .ref 87)], [], (Q, hpR (sI (sI s 24 1) 23 ((gI s 23) + 1))))) rfl ?_
    exact h_vret rfl rfl
theorem m150_139_ok   : ∀ (n : Nat)  (s : xSt) (q : xSt), m150_139  n  s = some q → HE V L Kc Ks 150 (139, [(0, .ref 87)], [], (Q, hpR s)) (none) (Q, hpR q) := by
  intro n
  induction n with
  | zero => intro  s q h; cases h
  | succ n ih =>
    intro  s q h
    unfold m150_139 at h
    refine h_it 3 (x' := (144, [(0, .ref 87)], [.int (gI s 23), .ref 87], (Q, hpR s))) rfl ?_
    obtain ⟨q9, hq9, h⟩ := Option.bind_eq_some_iff.mp h
    refine h_callO (As := [.int (gI s 23)]) (r1 := some (.int (b01 q9.1))) (st := []) (H1 := (Q, hpR q9.2)) rfl rfl rfl rfl rfl rfl (m151_ok hq9) ?_
    refine h_br (b := decide ((b01 q9.1) = 0)) (t := 163) (f := 150) (lv' := [(0, .ref 87)]) (st' := []) rfl rfl ?_
    by_cases h10 : q9.1 = true
    · replace h := if_y h10 h
      refine h_n (b01_1 h10) ?_
      refine h_it 7 (x' := (139, [(0, .ref 87)], [], (Q, hpR (sI q9.2 23 ((gI q9.2 23) + 1))))) rfl ?_
      refine h_lw (lv := [(0, .ref 87)]) (fa_c rfl (fa_n)) rfl ?_
      exact ih (sI q9.2 23 ((gI q9.2 23) + 1)) _ h
    · replace h := if_n h10 h
      refine h_y (b01_0 h10) ?_
      refine h_it 4 (x' := (171, [(0, .ref 87)], [.int (gI q9.2 25), .int (gI q9.2 23)], (Q, hpR q9.2))) rfl ?_
      refine h_br (b := decide (¬ (gI q9.2 23) = (gI q9.2 25))) (t := 184) (f := 174) (lv' := [(0, .ref 87)]) (st' := []) rfl rfl ?_
      by_cases h11 : (gI q9.2 23) = (gI q9.2 25)
      · replace h := if_y h11 h
        refine h_n (fun z => z h11) ?_
        refine h_it 4 (x' := (180, [(0, .ref 87)], [.int (gI q9.2 25), .int 1, .ref 87], (Q, hpR q9.2))) rfl ?_
        obtain ⟨q12, hq12, h⟩ := Option.bind_eq_some_iff.mp h
        refine h_callO (As := [.int 1, .int (gI q9.2 25)]) (r1 := none) (st := []) (H1 := (Q, hpR q12)) rfl rfl rfl rfl rfl rfl (m154_ok hq12) ?_
        replace h := Option.some.inj h; subst h
        exact h_vret rfl rfl
      · replace h := if_n h11 h
        refine h_y h11 ?_
        refine h_it 4 (x' := (192, [(0, .ref 87)], [.int (gI q9.2 25), .ref 88], (Q, hpR q9.2))) rfl ?_
        obtain ⟨v13, hv13, h⟩ := Option.bind_eq_some_iff.mp h
        refine h_bald rfl (Or.inl rfl) rfl hv13 ?_
        obtain ⟨q14, hq14, h⟩ := Option.bind_eq_some_iff.mp h
        refine h_callS (av := [.int v13]) (r1 := some (.int (b01 q14.1))) (st := []) (H1 := (Q, hpR q14.2)) rfl rfl rfl rfl rfl (m152_ok hq14) ?_
        refine h_br (b := decide ((b01 q14.1) = 0)) (t := 206) (f := 199) (lv' := [(0, .ref 87)]) (st' := []) rfl rfl ?_
        by_cases h15 : q14.1 = true
        · replace h := if_y h15 h
          refine h_n (b01_1 h15) ?_
          refine h_it 1 (x' := (200, [(0, .ref 87)], [.ref 87], (Q, hpR q14.2))) rfl ?_
          obtain ⟨q16, hq16, h⟩ := Option.bind_eq_some_iff.mp h
          refine h_callO (As := []) (r1 := none) (st := []) (H1 := (Q, hpR q16)) rfl rfl rfl rfl rfl rfl (m155_ok hq16) ?_
          replace h := Option.some.inj h; subst h
          refine h_it 1 (x' := (210, [(0, .ref 87)], [], (Q, hpR q16))) rfl ?_
          exact h_vret rfl rfl
        · replace h := if_n h15 h
          refine h_y (b01_0 h15) ?_
          refine h_it 1 (x' := (207, [(0, .ref 87)], [.ref 87], (Q, hpR q14.2))) rfl ?_
          obtain ⟨q17, hq17, h⟩ := Option.bind_eq_some_iff.mp h
          refine h_callO (As := []) (r1 := none) (st := []) (H1 := (Q, hpR q17)) rfl rfl rfl rfl rfl rfl (m156_ok hq17) ?_
          replace h := Option.some.inj h; subst h
          exact h_vret rfl rfl
theorem m150_52_ok    {s : xSt} {q : xSt} (h : m150_52   s = some q) : HE V L Kc Ks 150 (52, [(0, .ref 87)], [], (Q, hpR s)) (none) (Q, hpR q) := by
  unfold m150_52 at h
  refine h_it 8 (x' := (68, [(0, .ref 87)], [.int (gI s 20), .int (gI s 23)], (Q, hpR (sI s 25 (gI s 23))))) rfl ?_
  refine h_br (b := decide (¬ (gI s 23) = (gI s 20))) (t := 77) (f := 71) (lv' := [(0, .ref 87)]) (st' := []) rfl rfl ?_
  by_cases h2 : (gI s 23) = (gI s 20)
  · replace h := if_y h2 h
    refine h_n (fun z => z h2) ?_
    replace h := Option.some.inj h; subst h
    refine h_it 3 (x' := (76, [(0, .ref 87)], [], (Q, hpR (sI (sI s 25 (gI s 23)) 24 4)))) rfl ?_
    exact h_vret rfl rfl
  · replace h := if_n h2 h
    refine h_y h2 ?_
    refine h_it 4 (x' := (85, [(0, .ref 87)], [.int (gI s 23), .ref 88], (Q, hpR (sI s 25 (gI s 23))))) rfl ?_
    obtain ⟨v3, hv3, h⟩ := Option.bind_eq_some_iff.mp h
    refine h_bald rfl (Or.inl rfl) rfl hv3 ?_
    refine h_it 1 (x' := (88, [(0, .ref 87)], [.int 40, .int v3], (Q, hpR (sI s 25 (gI s 23))))) rfl ?_
    refine h_br (b := decide (v3 = 40)) (t := 105) (f := 91) (lv' := [(0, .ref 87)]) (st' := []) rfl rfl ?_
    by_cases h4 : v3 = 40
    · replace h := if_y h4 h
      refine h_y h4 ?_
      refine h_lw (lv := [(0, .ref 87)]) (fa_c rfl (fa_n)) rfl ?_
      exact m150_105_ok  h
    · replace h := if_n h4 h
      refine h_n h4 ?_
      refine h_it 4 (x' := (99, [(0, .ref 87)], [.int (gI s 23), .ref 88], (Q, hpR (sI s 25 (gI s 23))))) rfl ?_
      obtain ⟨v7, hv7, h⟩ := Option.bind_eq_some_iff.mp h
      refine h_bald rfl (Or.inl rfl) rfl hv7 ?_
      refine h_it 1 (x' := (102, [(0, .ref 87)], [.int 41, .int v7], (Q, hpR (sI s 25 (gI s 23))))) rfl ?_
      refine h_br (b := decide (¬ v7 = 41)) (t := 139) (f := 105) (lv' := [(0, .ref 87)]) (st' := []) rfl rfl ?_
      by_cases h8 : v7 = 41
      · replace h := if_y h8 h
        refine h_n (fun z => z h8) ?_
        refine h_lw (lv := [(0, .ref 87)]) (fa_c rfl (fa_n)) rfl ?_
        exact m150_105_ok  h
      · replace h := if_n h8 h
        refine h_y h8 ?_
        refine h_lw (lv := [(0, .ref 87)]) (fa_c rfl (fa_n)) rfl ?_
        exact m150_139_ok  1000000 (sI s 25 (gI s 23)) _ h
theorem m150_0_ok   : ∀ (n : Nat)  (s : xSt) (q : xSt), m150_0  n  s = some q → HE V L Kc Ks 150 (0, [(0, .ref 87)], [], (Q, hpR s)) (none) (Q, hpR q) := by
  intro n
  induction n with
  | zero => intro  s q h; cases h
  | succ n ih =>
    intro  s q h
    unfold m150_0 at h
    refine h_it 4 (x' := (8, [(0, .ref 87)], [.int (gI s 20), .int (gI s 23)], (Q, hpR s))) rfl ?_
    refine h_br (b := decide ((gI s 20) ≤ (gI s 23))) (t := 52) (f := 11) (lv' := [(0, .ref 87)]) (st' := []) rfl rfl ?_
    by_cases h1 : (gI s 20) ≤ (gI s 23)
    · replace h := if_y h1 h
      refine h_y h1 ?_
      refine h_lw (lv := [(0, .ref 87)]) (fa_c rfl (fa_n)) rfl ?_
      exact m150_52_ok  h
    · replace h := if_n h1 h
      refine h_n h1 ?_
      refine h_it 4 (x' := (19, [(0, .ref 87)], [.int (gI s 23), .ref 88], (Q, hpR s))) rfl ?_
      obtain ⟨v18, hv18, h⟩ := Option.bind_eq_some_iff.mp h
      refine h_bald rfl (Or.inl rfl) rfl hv18 ?_
      refine h_it 1 (x' := (22, [(0, .ref 87)], [.int 32, .int v18], (Q, hpR s))) rfl ?_
      refine h_br (b := decide (v18 = 32)) (t := 39) (f := 25) (lv' := [(0, .ref 87)]) (st' := []) rfl rfl ?_
      by_cases h19 : v18 = 32
      · replace h := if_y h19 h
        refine h_y h19 ?_
        refine h_it 7 (x' := (0, [(0, .ref 87)], [], (Q, hpR (sI s 23 ((gI s 23) + 1))))) rfl ?_
        refine h_lw (lv := [(0, .ref 87)]) (fa_c rfl (fa_n)) rfl ?_
        exact ih (sI s 23 ((gI s 23) + 1)) _ h
      · replace h := if_n h19 h
        refine h_n h19 ?_
        refine h_it 4 (x' := (33, [(0, .ref 87)], [.int (gI s 23), .ref 88], (Q, hpR s))) rfl ?_
        obtain ⟨v20, hv20, h⟩ := Option.bind_eq_some_iff.mp h
        refine h_bald rfl (Or.inl rfl) rfl hv20 ?_
        refine h_it 1 (x' := (36, [(0, .ref 87)], [.int 10, .int v20], (Q, hpR s))) rfl ?_
        refine h_br (b := decide (¬ v20 = 10)) (t := 52) (f := 39) (lv' := [(0, .ref 87)]) (st' := []) rfl rfl ?_
        by_cases h21 : v20 = 10
        · replace h := if_y h21 h
          refine h_n (fun z => z h21) ?_
          refine h_it 7 (x' := (0, [(0, .ref 87)], [], (Q, hpR (sI s 23 ((gI s 23) + 1))))) rfl ?_
          refine h_lw (lv := [(0, .ref 87)]) (fa_c rfl (fa_n)) rfl ?_
          exact ih (sI s 23 ((gI s 23) + 1)) _ h
        · replace h := if_n h21 h
          refine h_y h21 ?_
          refine h_lw (lv := [(0, .ref 87)]) (fa_c rfl (fa_n)) rfl ?_
          exact m150_52_ok  h
theorem m150_ok  {s : xSt} {q : xSt} (h : m150  s = some q) : HC V L Kc Ks 150 [.ref 87] (Q, hpR s) (none) (Q, hpR q) := by
  unfold m150 at h
  refine hc_of (by decide) rfl ?_
  refine h_lw (lv := [(0, .ref 87)]) (fa_c rfl (fa_n)) rfl ?_
  exact m150_0_ok  1000000 s _ h
end Sm150
section Sm158
variable {V : xmV} {L : List Nat} {Kc Ks : Nat} {Q : List xE}
theorem m158_44_ok    {s : xSt} {q : Bool × xSt} (h : m158_44   s = some q) : HE V L Kc Ks 158 (44, [(0, .ref 87)], [], (Q, hpR s)) (some (.int (b01 q.1))) (Q, hpR q.2) := by
  unfold m158_44 at h
  refine h_it 2 (x' := (48, [(0, .ref 87)], [.int (gI s 21)], (Q, hpR s))) rfl ?_
  refine h_br (b := decide (¬ (gI s 21) = 0)) (t := 55) (f := 51) (lv' := [(0, .ref 87)]) (st' := []) rfl rfl ?_
  by_cases h6 : (gI s 21) = 0
  · replace h := if_y h6 h
    refine h_n (fun z => z h6) ?_
    replace h := Option.some.inj h; subst h
    refine h_it 2 (x' := (56, [(0, .ref 87)], [.int (b01 true)], (Q, hpR s))) rfl ?_
    exact h_zret rfl rfl
  · replace h := if_n h6 h
    refine h_y h6 ?_
    replace h := Option.some.inj h; subst h
    refine h_it 1 (x' := (56, [(0, .ref 87)], [.int (b01 false)], (Q, hpR s))) rfl ?_
    exact h_zret rfl rfl
theorem m158_24_ok   {x1 : Bool} {s : xSt} {q : Bool × xSt} (h : m158_24  x1 s = some q) : HE V L Kc Ks 158 (24, [(0, .ref 87), (1, .int (b01 x1))], [], (Q, hpR s)) (some (.int (b01 q.1))) (Q, hpR q.2) := by
  unfold m158_24 at h
  refine h_it 2 (x' := (28, [(0, .ref 87), (1, .int (b01 x1))], [.int (gI s 21)], (Q, hpR s))) rfl ?_
  refine h_br (b := decide (¬ (gI s 21) = 0)) (t := 44) (f := 31) (lv' := [(0, .ref 87), (1, .int (b01 x1))]) (st' := []) rfl rfl ?_
  by_cases h4 : (gI s 21) = 0
  · replace h := if_y h4 h
    refine h_n (fun z => z h4) ?_
    refine h_it 1 (x' := (32, [(0, .ref 87), (1, .int (b01 x1))], [.int (b01 x1)], (Q, hpR s))) rfl ?_
    refine h_br (b := decide (¬ (b01 x1) = 0)) (t := 44) (f := 35) (lv' := [(0, .ref 87), (1, .int (b01 x1))]) (st' := []) rfl rfl ?_
    by_cases h5 : x1 = true
    · replace h := if_y h5 h
      refine h_y (b01_1 h5) ?_
      refine h_lw (lv := [(0, .ref 87)]) (fa_c rfl (fa_n)) rfl ?_
      exact m158_44_ok  h
    · replace h := if_n h5 h
      refine h_n (fun z => z (b01_0 h5)) ?_
      refine h_it 4 (x' := (41, [(0, .ref 87), (1, .int (b01 x1))], [.int (gI s 25), .int 2, .ref 87], (Q, hpR s))) rfl ?_
      obtain ⟨q7, hq7, h⟩ := Option.bind_eq_some_iff.mp h
      refine h_callO (As := [.int 2, .int (gI s 25)]) (r1 := none) (st := []) (H1 := (Q, hpR q7)) rfl rfl rfl rfl rfl rfl (m154_ok hq7) ?_
      refine h_lw (lv := [(0, .ref 87)]) (fa_c rfl (fa_n)) rfl ?_
      exact m158_44_ok  h
  · replace h := if_n h4 h
    refine h_y h4 ?_
    refine h_lw (lv := [(0, .ref 87)]) (fa_c rfl (fa_n)) rfl ?_
    exact m158_44_ok  h
theorem m158_ok {b1 : Bool} {s : xSt} {q : Bool × xSt} (h : m158 b1 s = some q) : HC V L Kc Ks 158 [.ref 87, .int (b01 b1)] (Q, hpR s) (some (.int (b01 q.1))) (Q, hpR q.2) := by
  unfold m158 at h
  refine hc_of (by decide) rfl ?_
  refine h_it 2 (x' := (4, [(0, .ref 87), (1, .int (b01 b1))], [.int (gI s 21)], (Q, hpR s))) rfl ?_
  refine h_br (b := decide (¬ (gI s 21) = 0)) (t := 24) (f := 7) (lv' := [(0, .ref 87), (1, .int (b01 b1))]) (st' := []) rfl rfl ?_
  by_cases h1 : (gI s 21) = 0
  · replace h := if_y h1 h
    refine h_n (fun z => z h1) ?_
    refine h_it 3 (x' := (12, [(0, .ref 87), (1, .int (b01 b1))], [.int 4, .int (gI s 24)], (Q, hpR s))) rfl ?_
    refine h_br (b := decide (¬ (gI s 24) = 4)) (t := 24) (f := 15) (lv' := [(0, .ref 87), (1, .int (b01 b1))]) (st' := []) rfl rfl ?_
    by_cases h2 : (gI s 24) = 4
    · replace h := if_y h2 h
      refine h_n (fun z => z h2) ?_
      refine h_it 4 (x' := (21, [(0, .ref 87), (1, .int (b01 b1))], [.int (gI s 20), .int 3, .ref 87], (Q, hpR s))) rfl ?_
      obtain ⟨q3, hq3, h⟩ := Option.bind_eq_some_iff.mp h
      refine h_callO (As := [.int 3, .int (gI s 20)]) (r1 := none) (st := []) (H1 := (Q, hpR q3)) rfl rfl rfl rfl rfl rfl (m154_ok hq3) ?_
      refine h_lw (lv := [(0, .ref 87), (1, .int (b01 b1))]) (fa_c rfl (fa_c rfl (fa_n))) rfl ?_
      exact m158_24_ok  h
    · replace h := if_n h2 h
      refine h_y h2 ?_
      refine h_lw (lv := [(0, .ref 87), (1, .int (b01 b1))]) (fa_c rfl (fa_c rfl (fa_n))) rfl ?_
      exact m158_24_ok  h
  · replace h := if_n h1 h
    refine h_y h1 ?_
    refine h_lw (lv := [(0, .ref 87), (1, .int (b01 b1))]) (fa_c rfl (fa_c rfl (fa_n))) rfl ?_
    exact m158_24_ok  h
end Sm158
section Sm159
variable {V : xmV} {L : List Nat} {Kc Ks : Nat} {Q : List xE}
theorem m159_30_ok   : ∀ (n : Nat) (x1 : Nat) (x2 : Bool) (x3 : Int32) (s : xSt) (q : Bool × xSt), m159_30  n x1 x2 x3 s = some q → HE V L Kc Ks 159 (30, [(0, .ref 87), (1, .retAddr x1), (2, .int (b01 x2)), (3, .int x3)], [], (Q, hpR s)) (some (.int (b01 q.1))) (Q, hpR q.2) := by
  intro n
  induction n with
  | zero => intro x1 x2 x3 s q h; cases h
  | succ n ih =>
    intro x1 x2 x3 s q h
    unfold m159_30 at h
    refine h_it 2 (x' := (32, [(0, .ref 87), (1, .retAddr x1), (2, .int (b01 x2)), (3, .int x3)], [.retAddr x1, .int x3], (Q, hpR s))) rfl ?_
    obtain ⟨v4, hv4, h⟩ := Option.bind_eq_some_iff.mp h
    refine h_callT (As := []) (r1 := some (.int v4)) (st := [.int x3]) rfl rfl (xt_ltL hv4) rfl rfl rfl (xt_len_ok hv4) ?_
    refine h_br (b := decide (v4 ≤ x3)) (t := 73) (f := 38) (lv' := [(0, .ref 87), (1, .retAddr x1), (2, .int (b01 x2)), (3, .int x3)]) (st' := []) rfl rfl ?_
    by_cases h5 : v4 ≤ x3
    · replace h := if_y h5 h
      refine h_y h5 ?_
      replace h := Option.some.inj h; subst h
      refine h_it 1 (x' := (74, [(0, .ref 87), (1, .retAddr x1), (2, .int (b01 x2)), (3, .int x3)], [.int (b01 x2)], (Q, hpR s))) rfl ?_
      exact h_zret rfl rfl
    · replace h := if_n h5 h
      refine h_n h5 ?_
      refine h_it 1 (x' := (39, [(0, .ref 87), (1, .retAddr x1), (2, .int (b01 x2)), (3, .int x3)], [.int (b01 x2)], (Q, hpR s))) rfl ?_
      refine h_br (b := decide ((b01 x2) = 0)) (t := 65) (f := 42) (lv' := [(0, .ref 87), (1, .retAddr x1), (2, .int (b01 x2)), (3, .int x3)]) (st' := []) rfl rfl ?_
      by_cases h6 : x2 = true
      · replace h := if_y h6 h
        refine h_n (b01_1 h6) ?_
        refine h_it 6 (x' := (52, [(0, .ref 87), (1, .retAddr x1), (2, .int (b01 x2)), (3, .int x3)], [.int ((gI s 25) + x3), .ref 88], (Q, hpR s))) rfl ?_
        obtain ⟨v7, hv7, h⟩ := Option.bind_eq_some_iff.mp h
        refine h_bald rfl (Or.inl rfl) rfl hv7 ?_
        refine h_it 2 (x' := (55, [(0, .ref 87), (1, .retAddr x1), (2, .int (b01 x2)), (3, .int x3)], [.int x3, .retAddr x1, .int v7], (Q, hpR s))) rfl ?_
        obtain ⟨v8, hv8, h⟩ := Option.bind_eq_some_iff.mp h
        refine h_callT (As := [.int x3]) (r1 := some (.int v8)) (st := [.int v7]) rfl rfl (xt_ltA hv8) rfl rfl rfl (xt_at_ok hv8) ?_
        refine h_br (b := decide (¬ v7 = v8)) (t := 65) (f := 61) (lv' := [(0, .ref 87), (1, .retAddr x1), (2, .int (b01 x2)), (3, .int x3)]) (st' := []) rfl rfl ?_
        by_cases h9 : v7 = v8
        · replace h := if_y h9 h
          refine h_n (fun z => z h9) ?_
          refine h_it 5 (x' := (30, [(3, .int (x3 + 1)), (2, .int 1), (0, .ref 87), (1, .retAddr x1)], [], (Q, hpR s))) rfl ?_
          refine h_lw (lv := [(0, .ref 87), (1, .retAddr x1), (2, .int 1), (3, .int (x3 + 1))]) (fa_c rfl (fa_c rfl (fa_c rfl (fa_c rfl (fa_n))))) rfl ?_
          exact ih x1 true (x3 + 1) s _ h
        · replace h := if_n h9 h
          refine h_y h9 ?_
          refine h_it 4 (x' := (30, [(3, .int (x3 + 1)), (2, .int 0), (0, .ref 87), (1, .retAddr x1)], [], (Q, hpR s))) rfl ?_
          refine h_lw (lv := [(0, .ref 87), (1, .retAddr x1), (2, .int 0), (3, .int (x3 + 1))]) (fa_c rfl (fa_c rfl (fa_c rfl (fa_c rfl (fa_n))))) rfl ?_
          exact ih x1 false (x3 + 1) s _ h
      · replace h := if_n h6 h
        refine h_y (b01_0 h6) ?_
        refine h_it 4 (x' := (30, [(3, .int (x3 + 1)), (2, .int 0), (0, .ref 87), (1, .retAddr x1)], [], (Q, hpR s))) rfl ?_
        refine h_lw (lv := [(0, .ref 87), (1, .retAddr x1), (2, .int 0), (3, .int (x3 + 1))]) (fa_c rfl (fa_c rfl (fa_c rfl (fa_c rfl (fa_n))))) rfl ?_
        exact ih x1 false (x3 + 1) s _ h
theorem m159_ok {t1 : Nat} {s : xSt} {q : Bool × xSt} (h : m159 t1 s = some q) : HC V L Kc Ks 159 [.ref 87, .retAddr t1] (Q, hpR s) (some (.int (b01 q.1))) (Q, hpR q.2) := by
  unfold m159 at h
  refine hc_of (by decide) rfl ?_
  refine h_it 3 (x' := (5, [(0, .ref 87), (1, .retAddr t1)], [.int 2, .int (gI s 24)], (Q, hpR s))) rfl ?_
  refine h_br (b := decide (¬ (gI s 24) = 2)) (t := 24) (f := 8) (lv' := [(0, .ref 87), (1, .retAddr t1)]) (st' := []) rfl rfl ?_
  by_cases h1 : (gI s 24) = 2
  · replace h := if_y h1 h
    refine h_n (fun z => z h1) ?_
    refine h_it 6 (x' := (18, [(0, .ref 87), (1, .retAddr t1)], [.retAddr t1, .int ((gI s 23) - (gI s 25))], (Q, hpR s))) rfl ?_
    obtain ⟨v2, hv2, h⟩ := Option.bind_eq_some_iff.mp h
    refine h_callT (As := []) (r1 := some (.int v2)) (st := [.int ((gI s 23) - (gI s 25))]) rfl rfl (xt_ltL hv2) rfl rfl rfl (xt_len_ok hv2) ?_
    refine h_br (b := decide (((gI s 23) - (gI s 25)) = v2)) (t := 26) (f := 24) (lv' := [(0, .ref 87), (1, .retAddr t1)]) (st' := []) rfl rfl ?_
    by_cases h3 : ((gI s 23) - (gI s 25)) = v2
    · replace h := if_y h3 h
      refine h_y h3 ?_
      refine h_it 4 (x' := (30, [(3, .int 0), (2, .int 1), (0, .ref 87), (1, .retAddr t1)], [], (Q, hpR s))) rfl ?_
      refine h_lw (lv := [(0, .ref 87), (1, .retAddr t1), (2, .int 1), (3, .int 0)]) (fa_c rfl (fa_c rfl (fa_c rfl (fa_c rfl (fa_n))))) rfl ?_
      exact m159_30_ok  1000000 t1 true 0 s _ h
    · replace h := if_n h3 h
      refine h_n h3 ?_
      replace h := Option.some.inj h; subst h
      refine h_it 1 (x' := (25, [(0, .ref 87), (1, .retAddr t1)], [.int (b01 false)], (Q, hpR s))) rfl ?_
      exact h_zret rfl rfl
  · replace h := if_n h1 h
    refine h_y h1 ?_
    replace h := Option.some.inj h; subst h
    refine h_it 1 (x' := (25, [(0, .ref 87), (1, .retAddr t1)], [.int (b01 false)], (Q, hpR s))) rfl ?_
    exact h_zret rfl rfl
end Sm159
section Sm161
variable {V : xmV} {L : List Nat} {Kc Ks : Nat} {Q : List xE}
theorem m161_ok  {s : xSt} {q : Int32 × xSt} (h : m161  s = some q) : HC V L Kc Ks 161 [.ref 87] (Q, hpR s) (some (.int q.1)) (Q, hpR q.2) := by
  unfold m161 at h
  refine hc_of (by decide) rfl ?_
  refine h_it 2 (x' := (3, [(0, .ref 87)], [.retAddr 14, .ref 87], (Q, hpR s))) rfl ?_
  obtain ⟨q1, hq1, h⟩ := Option.bind_eq_some_iff.mp h
  refine h_callO (As := [.retAddr 14]) (r1 := some (.int (b01 q1.1))) (st := []) (H1 := (Q, hpR q1.2)) rfl rfl rfl rfl rfl rfl (m159_ok hq1) ?_
  refine h_br (b := decide ((b01 q1.1) = 0)) (t := 13) (f := 9) (lv' := [(0, .ref 87)]) (st' := []) rfl rfl ?_
  by_cases h2 : q1.1 = true
  · replace h := if_y h2 h
    refine h_n (b01_1 h2) ?_
    replace h := Option.some.inj h; subst h
    refine h_it 2 (x' := (53, [(0, .ref 87)], [.int 0], (Q, hpR q1.2))) rfl ?_
    exact h_iret rfl rfl
  · replace h := if_n h2 h
    refine h_y (b01_0 h2) ?_
    refine h_it 2 (x' := (16, [(0, .ref 87)], [.retAddr 15, .ref 87], (Q, hpR q1.2))) rfl ?_
    obtain ⟨q3, hq3, h⟩ := Option.bind_eq_some_iff.mp h
    refine h_callO (As := [.retAddr 15]) (r1 := some (.int (b01 q3.1))) (st := []) (H1 := (Q, hpR q3.2)) rfl rfl rfl rfl rfl rfl (m159_ok hq3) ?_
    refine h_br (b := decide ((b01 q3.1) = 0)) (t := 26) (f := 22) (lv' := [(0, .ref 87)]) (st' := []) rfl rfl ?_
    by_cases h4 : q3.1 = true
    · replace h := if_y h4 h
      refine h_n (b01_1 h4) ?_
      replace h := Option.some.inj h; subst h
      refine h_it 2 (x' := (53, [(0, .ref 87)], [.int 1], (Q, hpR q3.2))) rfl ?_
      exact h_iret rfl rfl
    · replace h := if_n h4 h
      refine h_y (b01_0 h4) ?_
      refine h_it 2 (x' := (29, [(0, .ref 87)], [.retAddr 16, .ref 87], (Q, hpR q3.2))) rfl ?_
      obtain ⟨q5, hq5, h⟩ := Option.bind_eq_some_iff.mp h
      refine h_callO (As := [.retAddr 16]) (r1 := some (.int (b01 q5.1))) (st := []) (H1 := (Q, hpR q5.2)) rfl rfl rfl rfl rfl rfl (m159_ok hq5) ?_
      refine h_br (b := decide ((b01 q5.1) = 0)) (t := 39) (f := 35) (lv' := [(0, .ref 87)]) (st' := []) rfl rfl ?_
      by_cases h6 : q5.1 = true
      · replace h := if_y h6 h
        refine h_n (b01_1 h6) ?_
        replace h := Option.some.inj h; subst h
        refine h_it 2 (x' := (53, [(0, .ref 87)], [.int 2], (Q, hpR q5.2))) rfl ?_
        exact h_iret rfl rfl
      · replace h := if_n h6 h
        refine h_y (b01_0 h6) ?_
        refine h_it 2 (x' := (42, [(0, .ref 87)], [.retAddr 17, .ref 87], (Q, hpR q5.2))) rfl ?_
        obtain ⟨q7, hq7, h⟩ := Option.bind_eq_some_iff.mp h
        refine h_callO (As := [.retAddr 17]) (r1 := some (.int (b01 q7.1))) (st := []) (H1 := (Q, hpR q7.2)) rfl rfl rfl rfl rfl rfl (m159_ok hq7) ?_
        refine h_br (b := decide ((b01 q7.1) = 0)) (t := 52) (f := 48) (lv' := [(0, .ref 87)]) (st' := []) rfl rfl ?_
        by_cases h8 : q7.1 = true
        · replace h := if_y h8 h
          refine h_n (b01_1 h8) ?_
          replace h := Option.some.inj h; subst h
          refine h_it 2 (x' := (53, [(0, .ref 87)], [.int 3], (Q, hpR q7.2))) rfl ?_
          exact h_iret rfl rfl
        · replace h := if_n h8 h
          refine h_y (b01_0 h8) ?_
          replace h := Option.some.inj h; subst h
          refine h_it 1 (x' := (53, [(0, .ref 87)], [.int (-1)], (Q, hpR q7.2))) rfl ?_
          exact h_iret rfl rfl
end Sm161
section Sm163
variable {V : xmV} {L : List Nat} {Kc Ks : Nat} {Q : List xE}
theorem m163_ok  {s : xSt} {q : Int32 × xSt} (h : m163  s = some q) : HC V L Kc Ks 163 [.ref 87] (Q, hpR s) (some (.int q.1)) (Q, hpR q.2) := by
  unfold m163 at h
  refine hc_of (by decide) rfl ?_
  refine h_it 2 (x' := (3, [(0, .ref 87)], [.retAddr 18, .ref 87], (Q, hpR s))) rfl ?_
  obtain ⟨q1, hq1, h⟩ := Option.bind_eq_some_iff.mp h
  refine h_callO (As := [.retAddr 18]) (r1 := some (.int (b01 q1.1))) (st := []) (H1 := (Q, hpR q1.2)) rfl rfl rfl rfl rfl rfl (m159_ok hq1) ?_
  refine h_br (b := decide ((b01 q1.1) = 0)) (t := 13) (f := 9) (lv' := [(0, .ref 87)]) (st' := []) rfl rfl ?_
  by_cases h2 : q1.1 = true
  · replace h := if_y h2 h
    refine h_n (b01_1 h2) ?_
    replace h := Option.some.inj h; subst h
    refine h_it 2 (x' := (96, [(0, .ref 87)], [.int 3], (Q, hpR q1.2))) rfl ?_
    exact h_iret rfl rfl
  · replace h := if_n h2 h
    refine h_y (b01_0 h2) ?_
    refine h_it 2 (x' := (16, [(0, .ref 87)], [.retAddr 19, .ref 87], (Q, hpR q1.2))) rfl ?_
    obtain ⟨q3, hq3, h⟩ := Option.bind_eq_some_iff.mp h
    refine h_callO (As := [.retAddr 19]) (r1 := some (.int (b01 q3.1))) (st := []) (H1 := (Q, hpR q3.2)) rfl rfl rfl rfl rfl rfl (m159_ok hq3) ?_
    refine h_br (b := decide ((b01 q3.1) = 0)) (t := 26) (f := 22) (lv' := [(0, .ref 87)]) (st' := []) rfl rfl ?_
    by_cases h4 : q3.1 = true
    · replace h := if_y h4 h
      refine h_n (b01_1 h4) ?_
      replace h := Option.some.inj h; subst h
      refine h_it 2 (x' := (96, [(0, .ref 87)], [.int 4], (Q, hpR q3.2))) rfl ?_
      exact h_iret rfl rfl
    · replace h := if_n h4 h
      refine h_y (b01_0 h4) ?_
      refine h_it 2 (x' := (29, [(0, .ref 87)], [.retAddr 20, .ref 87], (Q, hpR q3.2))) rfl ?_
      obtain ⟨q5, hq5, h⟩ := Option.bind_eq_some_iff.mp h
      refine h_callO (As := [.retAddr 20]) (r1 := some (.int (b01 q5.1))) (st := []) (H1 := (Q, hpR q5.2)) rfl rfl rfl rfl rfl rfl (m159_ok hq5) ?_
      refine h_br (b := decide ((b01 q5.1) = 0)) (t := 39) (f := 35) (lv' := [(0, .ref 87)]) (st' := []) rfl rfl ?_
      by_cases h6 : q5.1 = true
      · replace h := if_y h6 h
        refine h_n (b01_1 h6) ?_
        replace h := Option.some.inj h; subst h
        refine h_it 2 (x' := (96, [(0, .ref 87)], [.int 5], (Q, hpR q5.2))) rfl ?_
        exact h_iret rfl rfl
      · replace h := if_n h6 h
        refine h_y (b01_0 h6) ?_
        refine h_it 2 (x' := (42, [(0, .ref 87)], [.retAddr 21, .ref 87], (Q, hpR q5.2))) rfl ?_
        obtain ⟨q7, hq7, h⟩ := Option.bind_eq_some_iff.mp h
        refine h_callO (As := [.retAddr 21]) (r1 := some (.int (b01 q7.1))) (st := []) (H1 := (Q, hpR q7.2)) rfl rfl rfl rfl rfl rfl (m159_ok hq7) ?_
        refine h_br (b := decide ((b01 q7.1) = 0)) (t := 53) (f := 48) (lv' := [(0, .ref 87)]) (st' := []) rfl rfl ?_
        by_cases h8 : q7.1 = true
        · replace h := if_y h8 h
          refine h_n (b01_1 h8) ?_
          replace h := Option.some.inj h; subst h
          refine h_it 2 (x' := (96, [(0, .ref 87)], [.int 6], (Q, hpR q7.2))) rfl ?_
          exact h_iret rfl rfl
        · replace h := if_n h8 h
          refine h_y (b01_0 h8) ?_
          refine h_it 2 (x' := (56, [(0, .ref 87)], [.retAddr 22, .ref 87], (Q, hpR q7.2))) rfl ?_
          obtain ⟨q9, hq9, h⟩ := Option.bind_eq_some_iff.mp h
          refine h_callO (As := [.retAddr 22]) (r1 := some (.int (b01 q9.1))) (st := []) (H1 := (Q, hpR q9.2)) rfl rfl rfl rfl rfl rfl (m159_ok hq9) ?_
          refine h_br (b := decide ((b01 q9.1) = 0)) (t := 67) (f := 62) (lv' := [(0, .ref 87)]) (st' := []) rfl rfl ?_
          by_cases h10 : q9.1 = true
          · replace h := if_y h10 h
            refine h_n (b01_1 h10) ?_
            replace h := Option.some.inj h; subst h
            refine h_it 2 (x' := (96, [(0, .ref 87)], [.int 7], (Q, hpR q9.2))) rfl ?_
            exact h_iret rfl rfl
          · replace h := if_n h10 h
            refine h_y (b01_0 h10) ?_
            refine h_it 2 (x' := (70, [(0, .ref 87)], [.retAddr 23, .ref 87], (Q, hpR q9.2))) rfl ?_
            obtain ⟨q11, hq11, h⟩ := Option.bind_eq_some_iff.mp h
            refine h_callO (As := [.retAddr 23]) (r1 := some (.int (b01 q11.1))) (st := []) (H1 := (Q, hpR q11.2)) rfl rfl rfl rfl rfl rfl (m159_ok hq11) ?_
            refine h_br (b := decide ((b01 q11.1) = 0)) (t := 81) (f := 76) (lv' := [(0, .ref 87)]) (st' := []) rfl rfl ?_
            by_cases h12 : q11.1 = true
            · replace h := if_y h12 h
              refine h_n (b01_1 h12) ?_
              replace h := Option.some.inj h; subst h
              refine h_it 2 (x' := (96, [(0, .ref 87)], [.int 8], (Q, hpR q11.2))) rfl ?_
              exact h_iret rfl rfl
            · replace h := if_n h12 h
              refine h_y (b01_0 h12) ?_
              refine h_it 2 (x' := (84, [(0, .ref 87)], [.retAddr 24, .ref 87], (Q, hpR q11.2))) rfl ?_
              obtain ⟨q13, hq13, h⟩ := Option.bind_eq_some_iff.mp h
              refine h_callO (As := [.retAddr 24]) (r1 := some (.int (b01 q13.1))) (st := []) (H1 := (Q, hpR q13.2)) rfl rfl rfl rfl rfl rfl (m159_ok hq13) ?_
              refine h_br (b := decide ((b01 q13.1) = 0)) (t := 95) (f := 90) (lv' := [(0, .ref 87)]) (st' := []) rfl rfl ?_
              by_cases h14 : q13.1 = true
              · replace h := if_y h14 h
                refine h_n (b01_1 h14) ?_
                replace h := Option.some.inj h; subst h
                refine h_it 2 (x' := (96, [(0, .ref 87)], [.int 9], (Q, hpR q13.2))) rfl ?_
                exact h_iret rfl rfl
              · replace h := if_n h14 h
                refine h_y (b01_0 h14) ?_
                replace h := Option.some.inj h; subst h
                refine h_it 1 (x' := (96, [(0, .ref 87)], [.int (-1)], (Q, hpR q13.2))) rfl ?_
                exact h_iret rfl rfl
end Sm163
