section Sm60
variable {V : xmV} {L : List Nat} {Kc Ks : Nat} {Q : List xE}
theorem m60f_2_ok   : ∀ (n : Nat) (x1 : Int64) (x3 : Int32) (s : xSt) (q : Int32 × xSt), m60f_2  n x1 x3 s = some q → HE V L Kc Ks 60 (2, [(0, .ref (pa false)), (1, .long x1), (3, .int x3)], [], (hpC s, Q)) (some (.int q.1)) (hpC q.2, Q) := by
  intro n
  induction n with
  | zero => intro x1 x3 s q h; cases h
  | succ n ih =>
    intro x1 x3 s q h
    unfold m60f_2 at h
    refine h_it 4 (x' := (10, [(0, .ref (pa false)), (1, .long x1), (3, .int x3)], [.int (nI ((gP s false 6)).length), .int x3], (hpC s, Q))) rfl ?_
    refine h_br (b := decide ((nI ((gP s false 6)).length) ≤ x3)) (t := 41) (f := 13) (lv' := [(0, .ref (pa false)), (1, .long x1), (3, .int x3)]) (st' := []) rfl rfl ?_
    by_cases h1 : (nI ((gP s false 6)).length) ≤ x3
    · replace h := if_y h1 h
      refine h_y h1 ?_
      replace h := Option.some.inj h; subst h
      refine h_it 1 (x' := (42, [(0, .ref (pa false)), (1, .long x1), (3, .int x3)], [.int (-1)], (hpC s, Q))) rfl ?_
      exact h_iret rfl rfl
    · replace h := if_n h1 h
      refine h_n h1 ?_
      refine h_it 3 (x' := (18, [(0, .ref (pa false)), (1, .long x1), (3, .int x3)], [.ref 12, .int x3], (hpC s, Q))) rfl ?_
      refine h_llen rfl rfl ?_
      refine h_br (b := decide ((nI ((gN s false)).length) ≤ x3)) (t := 41) (f := 22) (lv' := [(0, .ref (pa false)), (1, .long x1), (3, .int x3)]) (st' := []) rfl rfl ?_
      by_cases h2 : (nI ((gN s false)).length) ≤ x3
      · replace h := if_y h2 h
        refine h_y h2 ?_
        replace h := Option.some.inj h; subst h
        refine h_it 1 (x' := (42, [(0, .ref (pa false)), (1, .long x1), (3, .int x3)], [.int (-1)], (hpC s, Q))) rfl ?_
        exact h_iret rfl rfl
      · replace h := if_n h2 h
        refine h_n h2 ?_
        refine h_it 3 (x' := (27, [(0, .ref (pa false)), (1, .long x1), (3, .int x3)], [.int x3, .ref 12], (hpC s, Q))) rfl ?_
        obtain ⟨v3, hv3, h⟩ := Option.bind_eq_some_iff.mp h
        refine h_lald rfl rfl hv3 ?_
        refine h_it 2 (x' := (30, [(0, .ref (pa false)), (1, .long x1), (3, .int x3)], [.int (lg_cmp v3 x1)], (hpC s, Q))) rfl ?_
        refine h_br (b := decide (¬ (lg_cmp v3 x1) = 0)) (t := 35) (f := 33) (lv' := [(0, .ref (pa false)), (1, .long x1), (3, .int x3)]) (st' := []) rfl rfl ?_
        by_cases h4 : (lg_cmp v3 x1) = 0
        · replace h := if_y h4 h
          refine h_n (fun z => z h4) ?_
          replace h := Option.some.inj h; subst h
          refine h_it 1 (x' := (34, [(0, .ref (pa false)), (1, .long x1), (3, .int x3)], [.int x3], (hpC s, Q))) rfl ?_
          exact h_iret rfl rfl
        · replace h := if_n h4 h
          refine h_y h4 ?_
          refine h_it 2 (x' := (2, [(3, .int (x3 + 1)), (0, .ref (pa false)), (1, .long x1)], [], (hpC s, Q))) rfl ?_
          refine h_lw (lv := [(0, .ref (pa false)), (1, .long x1), (3, .int (x3 + 1))]) (fa_c rfl (fa_c rfl (fa_c rfl (fa_n)))) rfl ?_
          exact ih x1 (x3 + 1) s _ h
theorem m60f_ok {l1 : Int64} {s : xSt} {q : Int32 × xSt} (h : m60f l1 s = some q) : HC V L Kc Ks 60 [.ref (pa false), .long l1] (hpC s, Q) (some (.int q.1)) (hpC q.2, Q) := by
  unfold m60f at h
  refine hc_of (by decide) rfl ?_
  refine h_it 2 (x' := (2, [(3, .int 0), (0, .ref (pa false)), (1, .long l1)], [], (hpC s, Q))) rfl ?_
  refine h_lw (lv := [(0, .ref (pa false)), (1, .long l1), (3, .int 0)]) (fa_c rfl (fa_c rfl (fa_c rfl (fa_n)))) rfl ?_
  exact m60f_2_ok  1000000 l1 0 s _ h
theorem m60t_2_ok   : ∀ (n : Nat) (x1 : Int64) (x3 : Int32) (s : xSt) (q : Int32 × xSt), m60t_2  n x1 x3 s = some q → HE V L Kc Ks 60 (2, [(0, .ref (pa true)), (1, .long x1), (3, .int x3)], [], (hpC s, Q)) (some (.int q.1)) (hpC q.2, Q) := by
  intro n
  induction n with
  | zero => intro x1 x3 s q h; cases h
  | succ n ih =>
    intro x1 x3 s q h
    unfold m60t_2 at h
    refine h_it 4 (x' := (10, [(0, .ref (pa true)), (1, .long x1), (3, .int x3)], [.int (nI ((gP s true 6)).length), .int x3], (hpC s, Q))) rfl ?_
    refine h_br (b := decide ((nI ((gP s true 6)).length) ≤ x3)) (t := 41) (f := 13) (lv' := [(0, .ref (pa true)), (1, .long x1), (3, .int x3)]) (st' := []) rfl rfl ?_
    by_cases h1 : (nI ((gP s true 6)).length) ≤ x3
    · replace h := if_y h1 h
      refine h_y h1 ?_
      replace h := Option.some.inj h; subst h
      refine h_it 1 (x' := (42, [(0, .ref (pa true)), (1, .long x1), (3, .int x3)], [.int (-1)], (hpC s, Q))) rfl ?_
      exact h_iret rfl rfl
    · replace h := if_n h1 h
      refine h_n h1 ?_
      refine h_it 3 (x' := (18, [(0, .ref (pa true)), (1, .long x1), (3, .int x3)], [.ref 34, .int x3], (hpC s, Q))) rfl ?_
      refine h_llen rfl rfl ?_
      refine h_br (b := decide ((nI ((gN s true)).length) ≤ x3)) (t := 41) (f := 22) (lv' := [(0, .ref (pa true)), (1, .long x1), (3, .int x3)]) (st' := []) rfl rfl ?_
      by_cases h2 : (nI ((gN s true)).length) ≤ x3
      · replace h := if_y h2 h
        refine h_y h2 ?_
        replace h := Option.some.inj h; subst h
        refine h_it 1 (x' := (42, [(0, .ref (pa true)), (1, .long x1), (3, .int x3)], [.int (-1)], (hpC s, Q))) rfl ?_
        exact h_iret rfl rfl
      · replace h := if_n h2 h
        refine h_n h2 ?_
        refine h_it 3 (x' := (27, [(0, .ref (pa true)), (1, .long x1), (3, .int x3)], [.int x3, .ref 34], (hpC s, Q))) rfl ?_
        obtain ⟨v3, hv3, h⟩ := Option.bind_eq_some_iff.mp h
        refine h_lald rfl rfl hv3 ?_
        refine h_it 2 (x' := (30, [(0, .ref (pa true)), (1, .long x1), (3, .int x3)], [.int (lg_cmp v3 x1)], (hpC s, Q))) rfl ?_
        refine h_br (b := decide (¬ (lg_cmp v3 x1) = 0)) (t := 35) (f := 33) (lv' := [(0, .ref (pa true)), (1, .long x1), (3, .int x3)]) (st' := []) rfl rfl ?_
        by_cases h4 : (lg_cmp v3 x1) = 0
        · replace h := if_y h4 h
          refine h_n (fun z => z h4) ?_
          replace h := Option.some.inj h; subst h
          refine h_it 1 (x' := (34, [(0, .ref (pa true)), (1, .long x1), (3, .int x3)], [.int x3], (hpC s, Q))) rfl ?_
          exact h_iret rfl rfl
        · replace h := if_n h4 h
          refine h_y h4 ?_
          refine h_it 2 (x' := (2, [(3, .int (x3 + 1)), (0, .ref (pa true)), (1, .long x1)], [], (hpC s, Q))) rfl ?_
          refine h_lw (lv := [(0, .ref (pa true)), (1, .long x1), (3, .int (x3 + 1))]) (fa_c rfl (fa_c rfl (fa_c rfl (fa_n)))) rfl ?_
          exact ih x1 (x3 + 1) s _ h
theorem m60t_ok {l1 : Int64} {s : xSt} {q : Int32 × xSt} (h : m60t l1 s = some q) : HC V L Kc Ks 60 [.ref (pa true), .long l1] (hpC s, Q) (some (.int q.1)) (hpC q.2, Q) := by
  unfold m60t at h
  refine hc_of (by decide) rfl ?_
  refine h_it 2 (x' := (2, [(3, .int 0), (0, .ref (pa true)), (1, .long l1)], [], (hpC s, Q))) rfl ?_
  refine h_lw (lv := [(0, .ref (pa true)), (1, .long l1), (3, .int 0)]) (fa_c rfl (fa_c rfl (fa_c rfl (fa_n)))) rfl ?_
  exact m60t_2_ok  1000000 l1 0 s _ h
theorem m60_ok {z0 : Bool} {l1 : Int64} {s : xSt} {q : Int32 × xSt} (h : m60 z0 l1 s = some q) : HC V L Kc Ks 60 [.ref (pa z0), .long l1] (hpC s, Q) (some (.int q.1)) (hpC q.2, Q) := by
  cases z0
  · exact m60f_ok h
  · exact m60t_ok h
end Sm60
section Sm61
variable {V : xmV} {L : List Nat} {Kc Ks : Nat} {Q : List xE}
theorem m61f_64_ok   : ∀ (n : Nat) (x6 : Int32) (s : xSt) (q : xSt), m61f_64  n x6 s = some q → HE V L Kc Ks 61 (64, [(0, .ref (pa false)), (6, .int x6)], [], (hpC s, Q)) (none) (hpC q, Q) := by
  intro n
  induction n with
  | zero => intro x6 s q h; cases h
  | succ n ih =>
    intro x6 s q h
    unfold m61f_64 at h
    refine h_it 2 (x' := (68, [(0, .ref (pa false)), (6, .int x6)], [.int 8, .int x6], (hpC s, Q))) rfl ?_
    refine h_br (b := decide (8 ≤ x6)) (t := 85) (f := 71) (lv' := [(0, .ref (pa false)), (6, .int x6)]) (st' := []) rfl rfl ?_
    by_cases h3 : 8 ≤ x6
    · replace h := if_y h3 h
      refine h_y h3 ?_
      replace h := Option.some.inj h; subst h
      exact h_vret rfl rfl
    · replace h := if_n h3 h
      refine h_n h3 ?_
      refine h_it 6 (x' := (64, [(6, .int (x6 + 1)), (0, .ref (pa false))], [], (hpC (sP s false 9 (xsPush 512 (gP s false 9) 0)), Q))) rfl ?_
      refine h_lw (lv := [(0, .ref (pa false)), (6, .int (x6 + 1))]) (fa_c rfl (fa_c rfl (fa_n))) rfl ?_
      exact ih (x6 + 1) (sP s false 9 (xsPush 512 (gP s false 9) 0)) _ h
theorem m61f_ok {l1 : Int64} {a2 : Int32} {a3 : Int32} {s : xSt} {q : xSt} (h : m61f l1 a2 a3 s = some q) : HC V L Kc Ks 61 [.ref (pa false), .long l1, .int a2, .int a3] (hpC s, Q) (none) (hpC q, Q) := by
  unfold m61f at h
  refine hc_of (by decide) rfl ?_
  refine h_it 7 (x' := (15, [(5, .int (nI ((gP s false 6)).length)), (0, .ref (pa false)), (1, .long l1), (3, .int a2), (4, .int a3)], [.ref 12, .int (nI ((gP s false 6)).length)], (hpC s, Q))) rfl ?_
  refine h_llen rfl rfl ?_
  refine h_br (b := decide ((nI ((gP s false 6)).length) < (nI ((gN s false)).length))) (t := 20) (f := 19) (lv' := [(5, .int (nI ((gP s false 6)).length)), (0, .ref (pa false)), (1, .long l1), (3, .int a2), (4, .int a3)]) (st' := []) rfl rfl ?_
  by_cases h1 : (nI ((gP s false 6)).length) < (nI ((gN s false)).length)
  · replace h := if_y h1 h
    refine h_y h1 ?_
    refine h_it 4 (x' := (27, [(5, .int (nI ((gP s false 6)).length)), (0, .ref (pa false)), (1, .long l1), (3, .int a2), (4, .int a3)], [.long l1, .int (nI ((gP s false 6)).length), .ref 12], (hpC s, Q))) rfl ?_
    obtain ⟨u2, hu2, h⟩ := Option.bind_eq_some_iff.mp h
    refine h_last rfl rfl hu2 ?_
    show HE V L Kc Ks 61 (28, [(5, .int (nI ((gP s false 6)).length)), (0, .ref (pa false)), (1, .long l1), (3, .int a2), (4, .int a3)], [], (hpC (sN s false u2), Q)) _ _
    refine h_it 15 (x' := (58, [(5, .int (nI ((gP s false 6)).length)), (0, .ref (pa false)), (1, .long l1), (3, .int a2), (4, .int a3)], [.int 0, .ref 19], (hpC (sP (sP (sP (sN s false u2) false 5 (xsPush 64 (gP s false 5) a2)) false 6 (xsPush 64 (gP s false 6) a3)) false 7 (xsPush 64 (gP s false 7) 0)), Q))) rfl ?_
    refine (show ∀ w : xSt, HE V L Kc Ks 61 (61, [(5, .int (nI ((gP s false 6)).length)), (0, .ref (pa false)), (1, .long l1), (3, .int a2), (4, .int a3)], [], (hpC (sP w false 8 (xsPush 64 (gP w false 8) 0)), Q)) _ _ → HE V L Kc Ks 61 (58, [(5, .int (nI ((gP s false 6)).length)), (0, .ref (pa false)), (1, .long l1), (3, .int a2), (4, .int a3)], [.int 0, .ref 19], (hpC w, Q)) _ _ from fun w e => h_it 1 rfl e) (sP (sP (sP (sN s false u2) false 5 (xsPush 64 (gP s false 5) a2)) false 6 (xsPush 64 (gP s false 6) a3)) false 7 (xsPush 64 (gP s false 7) 0)) ?_
    show HE V L Kc Ks 61 (61, [(5, .int (nI ((gP s false 6)).length)), (0, .ref (pa false)), (1, .long l1), (3, .int a2), (4, .int a3)], [], (hpC (sP (sP (sP (sP (sN s false u2) false 5 (xsPush 64 (gP s false 5) a2)) false 6 (xsPush 64 (gP s false 6) a3)) false 7 (xsPush 64 (gP s false 7) 0)) false 8 (xsPush 64 (gP s false 8) 0)), Q)) _ _
    refine h_it 2 (x' := (64, [(6, .int 0), (5, .int (nI ((gP s false 6)).length)), (0, .ref (pa false)), (1, .long l1), (3, .int a2), (4, .int a3)], [], (hpC (sP (sP (sP (sP (sN s false u2) false 5 (xsPush 64 (gP s false 5) a2)) false 6 (xsPush 64 (gP s false 6) a3)) false 7 (xsPush 64 (gP s false 7) 0)) false 8 (xsPush 64 (gP s false 8) 0)), Q))) rfl ?_
    refine h_lw (lv := [(0, .ref (pa false)), (6, .int 0)]) (fa_c rfl (fa_c rfl (fa_n))) rfl ?_
    exact m61f_64_ok  1000000 0 (sP (sP (sP (sP (sN s false u2) false 5 (xsPush 64 (gP s false 5) a2)) false 6 (xsPush 64 (gP s false 6) a3)) false 7 (xsPush 64 (gP s false 7) 0)) false 8 (xsPush 64 (gP s false 8) 0)) _ h
  · replace h := if_n h1 h
    refine h_n h1 ?_
    replace h := Option.some.inj h; subst h
    exact h_vret rfl rfl
theorem m61t_64_ok   : ∀ (n : Nat) (x6 : Int32) (s : xSt) (q : xSt), m61t_64  n x6 s = some q → HE V L Kc Ks 61 (64, [(0, .ref (pa true)), (6, .int x6)], [], (hpC s, Q)) (none) (hpC q, Q) := by
  intro n
  induction n with
  | zero => intro x6 s q h; cases h
  | succ n ih =>
    intro x6 s q h
    unfold m61t_64 at h
    refine h_it 2 (x' := (68, [(0, .ref (pa true)), (6, .int x6)], [.int 8, .int x6], (hpC s, Q))) rfl ?_
    refine h_br (b := decide (8 ≤ x6)) (t := 85) (f := 71) (lv' := [(0, .ref (pa true)), (6, .int x6)]) (st' := []) rfl rfl ?_
    by_cases h3 : 8 ≤ x6
    · replace h := if_y h3 h
      refine h_y h3 ?_
      replace h := Option.some.inj h; subst h
      exact h_vret rfl rfl
    · replace h := if_n h3 h
      refine h_n h3 ?_
      refine h_it 6 (x' := (64, [(6, .int (x6 + 1)), (0, .ref (pa true))], [], (hpC (sP s true 9 (xsPush 512 (gP s true 9) 0)), Q))) rfl ?_
      refine h_lw (lv := [(0, .ref (pa true)), (6, .int (x6 + 1))]) (fa_c rfl (fa_c rfl (fa_n))) rfl ?_
      exact ih (x6 + 1) (sP s true 9 (xsPush 512 (gP s true 9) 0)) _ h
theorem m61t_ok {l1 : Int64} {a2 : Int32} {a3 : Int32} {s : xSt} {q : xSt} (h : m61t l1 a2 a3 s = some q) : HC V L Kc Ks 61 [.ref (pa true), .long l1, .int a2, .int a3] (hpC s, Q) (none) (hpC q, Q) := by
  unfold m61t at h
  refine hc_of (by decide) rfl ?_
  refine h_it 7 (x' := (15, [(5, .int (nI ((gP s true 6)).length)), (0, .ref (pa true)), (1, .long l1), (3, .int a2), (4, .int a3)], [.ref 34, .int (nI ((gP s true 6)).length)], (hpC s, Q))) rfl ?_
  refine h_llen rfl rfl ?_
  refine h_br (b := decide ((nI ((gP s true 6)).length) < (nI ((gN s true)).length))) (t := 20) (f := 19) (lv' := [(5, .int (nI ((gP s true 6)).length)), (0, .ref (pa true)), (1, .long l1), (3, .int a2), (4, .int a3)]) (st' := []) rfl rfl ?_
  by_cases h1 : (nI ((gP s true 6)).length) < (nI ((gN s true)).length)
  · replace h := if_y h1 h
    refine h_y h1 ?_
    refine h_it 4 (x' := (27, [(5, .int (nI ((gP s true 6)).length)), (0, .ref (pa true)), (1, .long l1), (3, .int a2), (4, .int a3)], [.long l1, .int (nI ((gP s true 6)).length), .ref 34], (hpC s, Q))) rfl ?_
    obtain ⟨u2, hu2, h⟩ := Option.bind_eq_some_iff.mp h
    refine h_last rfl rfl hu2 ?_
    show HE V L Kc Ks 61 (28, [(5, .int (nI ((gP s true 6)).length)), (0, .ref (pa true)), (1, .long l1), (3, .int a2), (4, .int a3)], [], (hpC (sN s true u2), Q)) _ _
    refine h_it 15 (x' := (58, [(5, .int (nI ((gP s true 6)).length)), (0, .ref (pa true)), (1, .long l1), (3, .int a2), (4, .int a3)], [.int 0, .ref 41], (hpC (sP (sP (sP (sN s true u2) true 5 (xsPush 64 (gP s true 5) a2)) true 6 (xsPush 64 (gP s true 6) a3)) true 7 (xsPush 64 (gP s true 7) 0)), Q))) rfl ?_
    refine (show ∀ w : xSt, HE V L Kc Ks 61 (61, [(5, .int (nI ((gP s true 6)).length)), (0, .ref (pa true)), (1, .long l1), (3, .int a2), (4, .int a3)], [], (hpC (sP w true 8 (xsPush 64 (gP w true 8) 0)), Q)) _ _ → HE V L Kc Ks 61 (58, [(5, .int (nI ((gP s true 6)).length)), (0, .ref (pa true)), (1, .long l1), (3, .int a2), (4, .int a3)], [.int 0, .ref 41], (hpC w, Q)) _ _ from fun w e => h_it 1 rfl e) (sP (sP (sP (sN s true u2) true 5 (xsPush 64 (gP s true 5) a2)) true 6 (xsPush 64 (gP s true 6) a3)) true 7 (xsPush 64 (gP s true 7) 0)) ?_
    show HE V L Kc Ks 61 (61, [(5, .int (nI ((gP s true 6)).length)), (0, .ref (pa true)), (1, .long l1), (3, .int a2), (4, .int a3)], [], (hpC (sP (sP (sP (sP (sN s true u2) true 5 (xsPush 64 (gP s true 5) a2)) true 6 (xsPush 64 (gP s true 6) a3)) true 7 (xsPush 64 (gP s true 7) 0)) true 8 (xsPush 64 (gP s true 8) 0)), Q)) _ _
    refine h_it 2 (x' := (64, [(6, .int 0), (5, .int (nI ((gP s true 6)).length)), (0, .ref (pa true)), (1, .long l1), (3, .int a2), (4, .int a3)], [], (hpC (sP (sP (sP (sP (sN s true u2) true 5 (xsPush 64 (gP s true 5) a2)) true 6 (xsPush 64 (gP s true 6) a3)) true 7 (xsPush 64 (gP s true 7) 0)) true 8 (xsPush 64 (gP s true 8) 0)), Q))) rfl ?_
    refine h_lw (lv := [(0, .ref (pa true)), (6, .int 0)]) (fa_c rfl (fa_c rfl (fa_n))) rfl ?_
    exact m61t_64_ok  1000000 0 (sP (sP (sP (sP (sN s true u2) true 5 (xsPush 64 (gP s true 5) a2)) true 6 (xsPush 64 (gP s true 6) a3)) true 7 (xsPush 64 (gP s true 7) 0)) true 8 (xsPush 64 (gP s true 8) 0)) _ h
  · replace h := if_n h1 h
    refine h_n h1 ?_
    replace h := Option.some.inj h; subst h
    exact h_vret rfl rfl
theorem m61_ok {z0 : Bool} {l1 : Int64} {a2 : Int32} {a3 : Int32} {s : xSt} {q : xSt} (h : m61 z0 l1 a2 a3 s = some q) : HC V L Kc Ks 61 [.ref (pa z0), .long l1, .int a2, .int a3] (hpC s, Q) (none) (hpC q, Q) := by
  cases z0
  · exact m61f_ok h
  · exact m61t_ok h
end Sm61
section Sm94
variable {V : xmV} {L : List Nat} {Kc Ks : Nat} {Q : List xE}
theorem m94_31_ok   {y0 : Bool} {s : xSt} {q : xSt} (h : m94_31  y0 s = some q) : HE V L Kc Ks 94 (31, [(0, .ref 49)], [.int (b01 y0), .ref 49], (hpC s, Q)) (none) (hpC q, Q) := by
  unfold m94_31 at h
  obtain ⟨q5, hq5, h⟩ := Option.bind_eq_some_iff.mp h
  refine h_callO (As := [.int (b01 y0)]) (r1 := some (.int (b01 q5.1))) (st := []) (H1 := (hpC q5.2, Q)) rfl rfl rfl rfl rfl rfl (m84_ok hq5) ?_
  refine h_br (b := decide ((b01 q5.1) = 0)) (t := 65) (f := 37) (lv' := [(0, .ref 49)]) (st' := []) rfl rfl ?_
  by_cases h6 : q5.1 = true
  · replace h := if_y h6 h
    refine h_n (b01_1 h6) ?_
    refine h_it 4 (x' := (45, [(0, .ref 49)], [.ref 48, .ref (pa (gZ q5.2 3))], (hpC q5.2, Q))) rfl ?_
    refine h_callO (As := []) (r1 := some (.long (gJ q5.2 0))) (st := [.ref (pa (gZ q5.2 3))]) (H1 := (hpC q5.2, Q)) rfl rfl rfl rfl rfl rfl (m50_ok  q5.2) ?_
    refine h_it 2 (x' := (52, [(0, .ref 49)], [.ref 48, .long (gJ q5.2 0), .ref (pa (gZ q5.2 3))], (hpC q5.2, Q))) rfl ?_
    refine h_callO (As := []) (r1 := some (.int (gI q5.2 6))) (st := [.long (gJ q5.2 0), .ref (pa (gZ q5.2 3))]) (H1 := (hpC q5.2, Q)) rfl rfl rfl rfl rfl rfl (m47_ok  q5.2) ?_
    refine h_it 3 (x' := (62, [(0, .ref 49)], [.int (xsTop (gR q5.2 1)), .int (gI q5.2 6), .long (gJ q5.2 0), .ref (pa (gZ q5.2 3))], (hpC q5.2, Q))) rfl ?_
    obtain ⟨q7, hq7, h⟩ := Option.bind_eq_some_iff.mp h
    refine h_callO (As := [.long (gJ q5.2 0), .int (gI q5.2 6), .int (xsTop (gR q5.2 1))]) (r1 := none) (st := []) (H1 := (hpC q7, Q)) rfl rfl rfl rfl rfl hp_pa (m61_ok hq7) ?_
    replace h := Option.some.inj h; subst h
    exact h_vret rfl rfl
  · replace h := if_n h6 h
    refine h_y (b01_0 h6) ?_
    replace h := Option.some.inj h; subst h
    exact h_vret rfl rfl
theorem m94_ok  {s : xSt} {q : xSt} (h : m94  s = some q) : HC V L Kc Ks 94 [.ref 49] (hpC s, Q) (none) (hpC q, Q) := by
  unfold m94 at h
  refine hc_of (by decide) rfl ?_
  refine h_it 1 (x' := (1, [(0, .ref 49)], [.ref 49], (hpC s, Q))) rfl ?_
  obtain ⟨q1, hq1, h⟩ := Option.bind_eq_some_iff.mp h
  refine h_callO (As := []) (r1 := some (.int (b01 q1.1))) (st := []) (H1 := (hpC q1.2, Q)) rfl rfl rfl rfl rfl rfl (m90_ok hq1) ?_
  refine h_br (b := decide ((b01 q1.1) = 0)) (t := 65) (f := 7) (lv' := [(0, .ref 49)]) (st' := []) rfl rfl ?_
  by_cases h2 : q1.1 = true
  · replace h := if_y h2 h
    refine h_n (b01_1 h2) ?_
    refine h_it 5 (x' := (16, [(0, .ref 49)], [.ref 48, .ref (pa (gZ q1.2 3)), .ref 49], (hpC q1.2, Q))) rfl ?_
    refine h_callO (As := []) (r1 := some (.long (gJ q1.2 0))) (st := [.ref (pa (gZ q1.2 3)), .ref 49]) (H1 := (hpC q1.2, Q)) rfl rfl rfl rfl rfl rfl (m50_ok  q1.2) ?_
    obtain ⟨q3, hq3, h⟩ := Option.bind_eq_some_iff.mp h
    refine h_callO (As := [.long (gJ q1.2 0)]) (r1 := some (.int q3.1)) (st := [.ref 49]) (H1 := (hpC q3.2, Q)) rfl rfl rfl rfl rfl hp_pa (m60_ok hq3) ?_
    refine h_it 1 (x' := (23, [(0, .ref 49)], [.int (-1), .int q3.1, .ref 49], (hpC q3.2, Q))) rfl ?_
    refine h_br (b := decide (¬ q3.1 = (-1))) (t := 30) (f := 26) (lv' := [(0, .ref 49)]) (st' := [.ref 49]) rfl rfl ?_
    by_cases h4 : q3.1 = (-1)
    · replace h := if_y h4 h
      refine h_n (fun z => z h4) ?_
      refine h_it 2 (x' := (31, [(0, .ref 49)], [.int 1, .ref 49], (hpC q3.2, Q))) rfl ?_
      refine h_lw (lv := [(0, .ref 49)]) (fa_c rfl (fa_n)) rfl ?_
      exact m94_31_ok  h
    · replace h := if_n h4 h
      refine h_y h4 ?_
      refine h_it 1 (x' := (31, [(0, .ref 49)], [.int 0, .ref 49], (hpC q3.2, Q))) rfl ?_
      refine h_lw (lv := [(0, .ref 49)]) (fa_c rfl (fa_n)) rfl ?_
      exact m94_31_ok  h
  · replace h := if_n h2 h
    refine h_y (b01_0 h2) ?_
    replace h := Option.some.inj h; subst h
    exact h_vret rfl rfl
end Sm94
section Sm62
variable {V : xmV} {L : List Nat} {Kc Ks : Nat} {Q : List xE}
theorem m62_okf (a1 : Int32) (a2 : Int32) (s : xSt) : HC V L Kc Ks 62 [.ref (pa false), .int a1, .int a2] (hpC s, Q) (none) (hpC (sP s false 2 (xsSet (gP s false 2) a1 a2)), Q) := by
  refine hc_of (by decide) rfl ?_
  refine h_it 5 (x' := (9, [(0, .ref (pa false)), (1, .int a1), (2, .int a2)], [], (hpC (sP s false 2 (xsSet (gP s false 2) a1 a2)), Q))) rfl ?_
  exact h_vret rfl rfl
theorem m62_okt (a1 : Int32) (a2 : Int32) (s : xSt) : HC V L Kc Ks 62 [.ref (pa true), .int a1, .int a2] (hpC s, Q) (none) (hpC (sP s true 2 (xsSet (gP s true 2) a1 a2)), Q) := by
  refine hc_of (by decide) rfl ?_
  refine h_it 5 (x' := (9, [(0, .ref (pa true)), (1, .int a1), (2, .int a2)], [], (hpC (sP s true 2 (xsSet (gP s true 2) a1 a2)), Q))) rfl ?_
  exact h_vret rfl rfl
theorem m62_ok (z0 : Bool) (a1 : Int32) (a2 : Int32) (s : xSt) : HC V L Kc Ks 62 [.ref (pa z0), .int a1, .int a2] (hpC s, Q) (none) (hpC (sP s z0 2 (xsSet (gP s z0 2) a1 a2)), Q) := by
  cases z0
  · exact m62_okf a1 a2 s
  · exact m62_okt a1 a2 s
end Sm62
section Sm95
variable {V : xmV} {L : List Nat} {Kc Ks : Nat} {Q : List xE}
theorem m95_ok  {s : xSt} {q : xSt} (h : m95  s = some q) : HC V L Kc Ks 95 [.ref 49] (hpC s, Q) (none) (hpC q, Q) := by
  unfold m95 at h
  refine hc_of (by decide) rfl ?_
  refine h_it 1 (x' := (1, [(0, .ref 49)], [.ref 49], (hpC s, Q))) rfl ?_
  obtain ⟨q1, hq1, h⟩ := Option.bind_eq_some_iff.mp h
  refine h_callO (As := []) (r1 := some (.int (b01 q1.1))) (st := []) (H1 := (hpC q1.2, Q)) rfl rfl rfl rfl rfl rfl (m90_ok hq1) ?_
  refine h_br (b := decide ((b01 q1.1) = 0)) (t := 28) (f := 7) (lv' := [(0, .ref 49)]) (st' := []) rfl rfl ?_
  by_cases h2 : q1.1 = true
  · replace h := if_y h2 h
    refine h_n (b01_1 h2) ?_
    refine h_it 7 (x' := (22, [(0, .ref 49)], [.ref 48, .int (xsTop (gR q1.2 1)), .ref (pa (gZ q1.2 3))], (hpC q1.2, Q))) rfl ?_
    refine h_callO (As := []) (r1 := some (.int (gI q1.2 6))) (st := [.int (xsTop (gR q1.2 1)), .ref (pa (gZ q1.2 3))]) (H1 := (hpC q1.2, Q)) rfl rfl rfl rfl rfl rfl (m47_ok  q1.2) ?_
    refine h_callO (As := [.int (xsTop (gR q1.2 1)), .int (gI q1.2 6)]) (r1 := none) (st := []) (H1 := (hpC (sP q1.2 (gZ q1.2 3) 2 (xsSet (gP q1.2 (gZ q1.2 3) 2) (xsTop (gR q1.2 1)) (gI q1.2 6))), Q)) rfl rfl rfl rfl rfl hp_pa (m62_ok (gZ q1.2 3) (xsTop (gR q1.2 1)) (gI q1.2 6) q1.2) ?_
    replace h := Option.some.inj h; subst h
    exact h_vret rfl rfl
  · replace h := if_n h2 h
    refine h_y (b01_0 h2) ?_
    replace h := Option.some.inj h; subst h
    exact h_vret rfl rfl
end Sm95
section Sm96
variable {V : xmV} {L : List Nat} {Kc Ks : Nat} {Q : List xE}
theorem m96_57_ok   {y0 : Bool} {s : xSt} {q : xSt} (h : m96_57  y0 s = some q) : HE V L Kc Ks 96 (57, [], [.int (b01 y0), .ref 49], (hpC s, Q)) (none) (hpC q, Q) := by
  unfold m96_57 at h
  obtain ⟨q6, hq6, h⟩ := Option.bind_eq_some_iff.mp h
  refine h_callO (As := [.int (b01 y0)]) (r1 := some (.int (b01 q6.1))) (st := []) (H1 := (hpC q6.2, Q)) rfl rfl rfl rfl rfl rfl (m84_ok hq6) ?_
  replace h := Option.some.inj h; subst h
  refine h_it 1 (x' := (61, [], [], (hpC q6.2, Q))) rfl ?_
  exact h_vret rfl rfl
theorem m96_56_ok    {s : xSt} {q : xSt} (h : m96_56   s = some q) : HE V L Kc Ks 96 (56, [], [.ref 49], (hpC s, Q)) (none) (hpC q, Q) := by
  unfold m96_56 at h
  refine h_it 1 (x' := (57, [], [.int 0, .ref 49], (hpC s, Q))) rfl ?_
  refine h_lw (lv := []) (fa_n) rfl ?_
  exact m96_57_ok  h
theorem m96_ok  {s : xSt} {q : xSt} (h : m96  s = some q) : HC V L Kc Ks 96 [.ref 49] (hpC s, Q) (none) (hpC q, Q) := by
  unfold m96 at h
  refine hc_of (by decide) rfl ?_
  refine h_it 2 (x' := (4, [(0, .ref 49)], [.ref 48], (hpC s, Q))) rfl ?_
  refine h_callO (As := []) (r1 := some (.int (gI s 5))) (st := []) (H1 := (hpC s, Q)) rfl rfl rfl rfl rfl rfl (m46_ok  s) ?_
  refine h_it 1 (x' := (8, [(0, .ref 49)], [.int 3, .int (gI s 5)], (hpC s, Q))) rfl ?_
  refine h_br (b := decide (¬ (gI s 5) = 3)) (t := 31) (f := 11) (lv' := [(0, .ref 49)]) (st' := []) rfl rfl ?_
  by_cases h1 : (gI s 5) = 3
  · replace h := if_y h1 h
    refine h_n (fun z => z h1) ?_
    refine h_it 3 (x' := (17, [(0, .ref 49)], [.int 22, .ref 53], (hpC s, Q))) rfl ?_
    obtain ⟨q2, hq2, h⟩ := Option.bind_eq_some_iff.mp h
    refine h_callS (av := [.int 22]) (r1 := some (.retAddr q2.1)) (st := [.ref 53]) (H1 := (hpC q2.2, Q)) rfl rfl rfl rfl rfl (m79_ok hq2) ?_
    refine h_it 1 (x' := (22, [(0, .ref 49)], [.int 82, .retAddr q2.1, .ref 53], (hpC q2.2, Q))) rfl ?_
    obtain ⟨v3, hv3, h⟩ := Option.bind_eq_some_iff.mp h
    refine h_callT (As := [.int 82]) (r1 := some (.int v3)) (st := [.ref 53]) rfl rfl (xt_ltI hv3) rfl rfl rfl (xt_idx_ok hv3) ?_
    replace h := Option.some.inj h; subst h
    refine h_it 2 (x' := (61, [(0, .ref 49)], [], (hpC (sR q2.2 2 (xsSetTop (gR q2.2 2) v3)), Q))) rfl ?_
    exact h_vret rfl rfl
  · replace h := if_n h1 h
    refine h_y h1 ?_
    refine h_it 3 (x' := (36, [(0, .ref 49)], [.ref 48, .ref 49], (hpC s, Q))) rfl ?_
    refine h_callO (As := []) (r1 := some (.int (gI s 5))) (st := [.ref 49]) (H1 := (hpC s, Q)) rfl rfl rfl rfl rfl rfl (m46_ok  s) ?_
    refine h_it 1 (x' := (40, [(0, .ref 49)], [.int 2, .int (gI s 5), .ref 49], (hpC s, Q))) rfl ?_
    refine h_br (b := decide (¬ (gI s 5) = 2)) (t := 56) (f := 43) (lv' := [(0, .ref 49)]) (st' := [.ref 49]) rfl rfl ?_
    by_cases h4 : (gI s 5) = 2
    · replace h := if_y h4 h
      refine h_n (fun z => z h4) ?_
      refine h_it 3 (x' := (49, [(0, .ref 49)], [.int 8, .int (gI s 11), .ref 49], (hpC s, Q))) rfl ?_
      refine h_br (b := decide (8 ≤ (gI s 11))) (t := 56) (f := 52) (lv' := [(0, .ref 49)]) (st' := [.ref 49]) rfl rfl ?_
      by_cases h5 : 8 ≤ (gI s 11)
      · replace h := if_y h5 h
        refine h_y h5 ?_
        refine h_lw (lv := []) (fa_n) rfl ?_
        exact m96_56_ok  h
      · replace h := if_n h5 h
        refine h_n h5 ?_
        refine h_it 2 (x' := (57, [(0, .ref 49)], [.int 1, .ref 49], (hpC s, Q))) rfl ?_
        refine h_lw (lv := []) (fa_n) rfl ?_
        exact m96_57_ok  h
    · replace h := if_n h4 h
      refine h_y h4 ?_
      refine h_lw (lv := []) (fa_n) rfl ?_
      exact m96_56_ok  h
end Sm96
section Sm21
variable {V : xmV} {L : List Nat} {Kc Ks : Nat} {Q : List xE}
theorem m21_ok {a0 : Int32} {s : xSt} {q : Bool × xSt} (h : m21 a0 s = some q) : HC V L Kc Ks 21 [.int a0] (hpC s, Q) (some (.int (b01 q.1))) (hpC q.2, Q) := by
  unfold m21 at h
  refine hc_of (by decide) rfl ?_
  refine h_it 2 (x' := (3, [(0, .int a0)], [.int 20, .int a0], (hpC s, Q))) rfl ?_
  refine h_br (b := decide (a0 = 20)) (t := 24) (f := 6) (lv' := [(0, .int a0)]) (st' := []) rfl rfl ?_
  by_cases h1 : a0 = 20
  · replace h := if_y h1 h
    refine h_y h1 ?_
    replace h := Option.some.inj h; subst h
    refine h_it 2 (x' := (29, [(0, .int a0)], [.int (b01 true)], (hpC s, Q))) rfl ?_
    exact h_zret rfl rfl
  · replace h := if_n h1 h
    refine h_n h1 ?_
    refine h_it 2 (x' := (9, [(0, .int a0)], [.int 21, .int a0], (hpC s, Q))) rfl ?_
    refine h_br (b := decide (a0 = 21)) (t := 24) (f := 12) (lv' := [(0, .int a0)]) (st' := []) rfl rfl ?_
    by_cases h2 : a0 = 21
    · replace h := if_y h2 h
      refine h_y h2 ?_
      replace h := Option.some.inj h; subst h
      refine h_it 2 (x' := (29, [(0, .int a0)], [.int (b01 true)], (hpC s, Q))) rfl ?_
      exact h_zret rfl rfl
    · replace h := if_n h2 h
      refine h_n h2 ?_
      refine h_it 2 (x' := (15, [(0, .int a0)], [.int 14, .int a0], (hpC s, Q))) rfl ?_
      refine h_br (b := decide (a0 = 14)) (t := 24) (f := 18) (lv' := [(0, .int a0)]) (st' := []) rfl rfl ?_
      by_cases h3 : a0 = 14
      · replace h := if_y h3 h
        refine h_y h3 ?_
        replace h := Option.some.inj h; subst h
        refine h_it 2 (x' := (29, [(0, .int a0)], [.int (b01 true)], (hpC s, Q))) rfl ?_
        exact h_zret rfl rfl
      · replace h := if_n h3 h
        refine h_n h3 ?_
        refine h_it 2 (x' := (21, [(0, .int a0)], [.int 15, .int a0], (hpC s, Q))) rfl ?_
        refine h_br (b := decide (¬ a0 = 15)) (t := 28) (f := 24) (lv' := [(0, .int a0)]) (st' := []) rfl rfl ?_
        by_cases h4 : a0 = 15
        · replace h := if_y h4 h
          refine h_n (fun z => z h4) ?_
          replace h := Option.some.inj h; subst h
          refine h_it 2 (x' := (29, [(0, .int a0)], [.int (b01 true)], (hpC s, Q))) rfl ?_
          exact h_zret rfl rfl
        · replace h := if_n h4 h
          refine h_y h4 ?_
          replace h := Option.some.inj h; subst h
          refine h_it 1 (x' := (29, [(0, .int a0)], [.int (b01 false)], (hpC s, Q))) rfl ?_
          exact h_zret rfl rfl
end Sm21
section Sm64
variable {V : xmV} {L : List Nat} {Kc Ks : Nat} {Q : List xE}
theorem m64_okf (a1 : Int32) (s : xSt) : HC V L Kc Ks 64 [.ref (pa false), .int a1] (hpC s, Q) (none) (hpC (sP s false 7 (xsSetTop (gP s false 7) a1)), Q) := by
  refine hc_of (by decide) rfl ?_
  refine h_it 4 (x' := (8, [(0, .ref (pa false)), (1, .int a1)], [], (hpC (sP s false 7 (xsSetTop (gP s false 7) a1)), Q))) rfl ?_
  exact h_vret rfl rfl
theorem m64_okt (a1 : Int32) (s : xSt) : HC V L Kc Ks 64 [.ref (pa true), .int a1] (hpC s, Q) (none) (hpC (sP s true 7 (xsSetTop (gP s true 7) a1)), Q) := by
  refine hc_of (by decide) rfl ?_
  refine h_it 4 (x' := (8, [(0, .ref (pa true)), (1, .int a1)], [], (hpC (sP s true 7 (xsSetTop (gP s true 7) a1)), Q))) rfl ?_
  exact h_vret rfl rfl
theorem m64_ok (z0 : Bool) (a1 : Int32) (s : xSt) : HC V L Kc Ks 64 [.ref (pa z0), .int a1] (hpC s, Q) (none) (hpC (sP s z0 7 (xsSetTop (gP s z0 7) a1)), Q) := by
  cases z0
  · exact m64_okf a1 s
  · exact m64_okt a1 s
end Sm64
section Sm97
variable {V : xmV} {L : List Nat} {Kc Ks : Nat} {Q : List xE}
theorem m97_45_ok   {x1 : Int32} {y0 : Bool} {s : xSt} {q : xSt} (h : m97_45  x1 y0 s = some q) : HE V L Kc Ks 97 (45, [(0, .ref 49), (1, .int x1)], [.int (b01 y0), .ref 49], (hpC s, Q)) (none) (hpC q, Q) := by
  unfold m97_45 at h
  obtain ⟨q4, hq4, h⟩ := Option.bind_eq_some_iff.mp h
  refine h_callO (As := [.int (b01 y0)]) (r1 := some (.int (b01 q4.1))) (st := []) (H1 := (hpC q4.2, Q)) rfl rfl rfl rfl rfl rfl (m84_ok hq4) ?_
  refine h_br (b := decide ((b01 q4.1) = 0)) (t := 59) (f := 51) (lv' := [(0, .ref 49), (1, .int x1)]) (st' := []) rfl rfl ?_
  by_cases h5 : q4.1 = true
  · replace h := if_y h5 h
    refine h_n (b01_1 h5) ?_
    refine h_it 3 (x' := (56, [(0, .ref 49), (1, .int x1)], [.int x1, .ref (pa (gZ q4.2 3))], (hpC q4.2, Q))) rfl ?_
    refine h_callO (As := [.int x1]) (r1 := none) (st := []) (H1 := (hpC (sP q4.2 (gZ q4.2 3) 7 (xsSetTop (gP q4.2 (gZ q4.2 3) 7) x1)), Q)) rfl rfl rfl rfl rfl hp_pa (m64_ok (gZ q4.2 3) x1 q4.2) ?_
    replace h := Option.some.inj h; subst h
    exact h_vret rfl rfl
  · replace h := if_n h5 h
    refine h_y (b01_0 h5) ?_
    replace h := Option.some.inj h; subst h
    exact h_vret rfl rfl
theorem m97_25_ok   {x1 : Int32} {y0 : Bool} {s : xSt} {q : xSt} (h : m97_25  x1 y0 s = some q) : HE V L Kc Ks 97 (25, [(0, .ref 49), (1, .int x1)], [.int (b01 y0)], (hpC s, Q)) (none) (hpC q, Q) := by
  unfold m97_25 at h
  refine h_it 5 (x' := (34, [(2, .int (b01 y0)), (0, .ref 49), (1, .int x1)], [.int (xsTop (gR s 3)), .ref 49], (hpC s, Q))) rfl ?_
  refine h_br (b := decide (¬ (xsTop (gR s 3)) = 0)) (t := 44) (f := 37) (lv' := [(2, .int (b01 y0)), (0, .ref 49), (1, .int x1)]) (st' := [.ref 49]) rfl rfl ?_
  by_cases h2 : (xsTop (gR s 3)) = 0
  · replace h := if_y h2 h
    refine h_n (fun z => z h2) ?_
    refine h_it 1 (x' := (38, [(2, .int (b01 y0)), (0, .ref 49), (1, .int x1)], [.int x1, .ref 49], (hpC s, Q))) rfl ?_
    obtain ⟨q3, hq3, h⟩ := Option.bind_eq_some_iff.mp h
    refine h_callS (av := [.int x1]) (r1 := some (.int (b01 q3.1))) (st := [.ref 49]) (H1 := (hpC q3.2, Q)) rfl rfl rfl rfl rfl (m21_ok hq3) ?_
    refine h_it 1 (x' := (45, [(2, .int (b01 y0)), (0, .ref 49), (1, .int x1)], [.int (b01 q3.1), .ref 49], (hpC q3.2, Q))) rfl ?_
    refine h_lw (lv := [(0, .ref 49), (1, .int x1)]) (fa_c rfl (fa_c rfl (fa_n))) rfl ?_
    exact m97_45_ok  h
  · replace h := if_n h2 h
    refine h_y h2 ?_
    refine h_it 1 (x' := (45, [(2, .int (b01 y0)), (0, .ref 49), (1, .int x1)], [.int (b01 y0), .ref 49], (hpC s, Q))) rfl ?_
    refine h_lw (lv := [(0, .ref 49), (1, .int x1)]) (fa_c rfl (fa_c rfl (fa_n))) rfl ?_
    exact m97_45_ok  h
theorem m97_20_ok   {x1 : Int32} {s : xSt} {q : xSt} (h : m97_20  x1 s = some q) : HE V L Kc Ks 97 (20, [(0, .ref 49), (1, .int x1)], [], (hpC s, Q)) (none) (hpC q, Q) := by
  unfold m97_20 at h
  refine h_it 2 (x' := (25, [(0, .ref 49), (1, .int x1)], [.int 1], (hpC s, Q))) rfl ?_
  refine h_lw (lv := [(0, .ref 49), (1, .int x1)]) (fa_c rfl (fa_c rfl (fa_n))) rfl ?_
  exact m97_25_ok  h
theorem m97_ok  {s : xSt} {q : xSt} (h : m97  s = some q) : HC V L Kc Ks 97 [.ref 49] (hpC s, Q) (none) (hpC q, Q) := by
  unfold m97 at h
  refine hc_of (by decide) rfl ?_
  refine h_it 2 (x' := (4, [(0, .ref 49)], [.ref 48], (hpC s, Q))) rfl ?_
  refine h_callO (As := []) (r1 := some (.int (gI s 8))) (st := []) (H1 := (hpC s, Q)) rfl rfl rfl rfl rfl rfl (m48_ok  s) ?_
  refine h_it 3 (x' := (11, [(1, .int (gI s 8)), (0, .ref 49)], [.int 20, .int (gI s 8)], (hpC s, Q))) rfl ?_
  refine h_br (b := decide ((gI s 8) = 20)) (t := 20) (f := 14) (lv' := [(1, .int (gI s 8)), (0, .ref 49)]) (st' := []) rfl rfl ?_
  by_cases h1 : (gI s 8) = 20
  · replace h := if_y h1 h
    refine h_y h1 ?_
    refine h_lw (lv := [(0, .ref 49), (1, .int (gI s 8))]) (fa_c rfl (fa_c rfl (fa_n))) rfl ?_
    exact m97_20_ok  h
  · replace h := if_n h1 h
    refine h_n h1 ?_
    refine h_it 2 (x' := (17, [(1, .int (gI s 8)), (0, .ref 49)], [.int 21, .int (gI s 8)], (hpC s, Q))) rfl ?_
    refine h_br (b := decide (¬ (gI s 8) = 21)) (t := 24) (f := 20) (lv' := [(1, .int (gI s 8)), (0, .ref 49)]) (st' := []) rfl rfl ?_
    by_cases h6 : (gI s 8) = 21
    · replace h := if_y h6 h
      refine h_n (fun z => z h6) ?_
      refine h_lw (lv := [(0, .ref 49), (1, .int (gI s 8))]) (fa_c rfl (fa_c rfl (fa_n))) rfl ?_
      exact m97_20_ok  h
    · replace h := if_n h6 h
      refine h_y h6 ?_
      refine h_it 1 (x' := (25, [(1, .int (gI s 8)), (0, .ref 49)], [.int 0], (hpC s, Q))) rfl ?_
      refine h_lw (lv := [(0, .ref 49), (1, .int (gI s 8))]) (fa_c rfl (fa_c rfl (fa_n))) rfl ?_
      exact m97_25_ok  h
end Sm97
section Sm63
variable {V : xmV} {L : List Nat} {Kc Ks : Nat} {Q : List xE}
theorem m63_okf (a1 : Int32) (s : xSt) : HC V L Kc Ks 63 [.ref (pa false), .int a1] (hpC s, Q) (none) (hpC (sP (sP s false 9 (xsSet (gP s false 9) ((((nI ((gP s false 6)).length) - 1) * 8) + (xsTop (gP s false 8))) a1)) false 8 (xsSetTop (gP s false 8) ((xsTop (gP s false 8)) + 1))), Q) := by
  refine hc_of (by decide) rfl ?_
  refine h_it 23 (x' := (40, [(2, .int (xsTop (gP s false 8))), (0, .ref (pa false)), (1, .int a1)], [], (hpC (sP (sP s false 9 (xsSet (gP s false 9) ((((nI ((gP s false 6)).length) - 1) * 8) + (xsTop (gP s false 8))) a1)) false 8 (xsSetTop (gP s false 8) ((xsTop (gP s false 8)) + 1))), Q))) rfl ?_
  exact h_vret rfl rfl
theorem m63_okt (a1 : Int32) (s : xSt) : HC V L Kc Ks 63 [.ref (pa true), .int a1] (hpC s, Q) (none) (hpC (sP (sP s true 9 (xsSet (gP s true 9) ((((nI ((gP s true 6)).length) - 1) * 8) + (xsTop (gP s true 8))) a1)) true 8 (xsSetTop (gP s true 8) ((xsTop (gP s true 8)) + 1))), Q) := by
  refine hc_of (by decide) rfl ?_
  refine h_it 23 (x' := (40, [(2, .int (xsTop (gP s true 8))), (0, .ref (pa true)), (1, .int a1)], [], (hpC (sP (sP s true 9 (xsSet (gP s true 9) ((((nI ((gP s true 6)).length) - 1) * 8) + (xsTop (gP s true 8))) a1)) true 8 (xsSetTop (gP s true 8) ((xsTop (gP s true 8)) + 1))), Q))) rfl ?_
  exact h_vret rfl rfl
theorem m63_ok (z0 : Bool) (a1 : Int32) (s : xSt) : HC V L Kc Ks 63 [.ref (pa z0), .int a1] (hpC s, Q) (none) (hpC (sP (sP s z0 9 (xsSet (gP s z0 9) ((((nI ((gP s z0 6)).length) - 1) * 8) + (xsTop (gP s z0 8))) a1)) z0 8 (xsSetTop (gP s z0 8) ((xsTop (gP s z0 8)) + 1))), Q) := by
  cases z0
  · exact m63_okf a1 s
  · exact m63_okt a1 s
end Sm63
section Sm98
variable {V : xmV} {L : List Nat} {Kc Ks : Nat} {Q : List xE}
theorem m98_114_ok   {y0 : Bool} {s : xSt} {q : xSt} (h : m98_114  y0 s = some q) : HE V L Kc Ks 98 (114, [(0, .ref 49)], [.int (b01 y0), .ref 49], (hpC s, Q)) (none) (hpC q, Q) := by
  unfold m98_114 at h
  obtain ⟨q11, hq11, h⟩ := Option.bind_eq_some_iff.mp h
  refine h_callO (As := [.int (b01 y0)]) (r1 := some (.int (b01 q11.1))) (st := []) (H1 := (hpC q11.2, Q)) rfl rfl rfl rfl rfl rfl (m84_ok hq11) ?_
  refine h_br (b := decide ((b01 q11.1) = 0)) (t := 131) (f := 120) (lv' := [(0, .ref 49)]) (st' := []) rfl rfl ?_
  by_cases h12 : q11.1 = true
  · replace h := if_y h12 h
    refine h_n (b01_1 h12) ?_
    refine h_it 3 (x' := (125, [(0, .ref 49)], [.ref 48, .ref 49], (hpC q11.2, Q))) rfl ?_
    refine h_callO (As := []) (r1 := some (.long (gJ q11.2 0))) (st := [.ref 49]) (H1 := (hpC q11.2, Q)) rfl rfl rfl rfl rfl rfl (m50_ok  q11.2) ?_
    obtain ⟨q13, hq13, h⟩ := Option.bind_eq_some_iff.mp h
    refine h_callO (As := [.long (gJ q11.2 0)]) (r1 := none) (st := []) (H1 := (hpC q13, Q)) rfl rfl rfl rfl rfl rfl (m80_ok hq13) ?_
    replace h := Option.some.inj h; subst h
    exact h_vret rfl rfl
  · replace h := if_n h12 h
    refine h_y (b01_0 h12) ?_
    replace h := Option.some.inj h; subst h
    exact h_vret rfl rfl
theorem m98_73_ok   {x1 : Int32} {y0 : Bool} {s : xSt} {q : xSt} (h : m98_73  x1 y0 s = some q) : HE V L Kc Ks 98 (73, [(0, .ref 49), (1, .int x1)], [.int (b01 y0)], (hpC s, Q)) (none) (hpC q, Q) := by
  unfold m98_73 at h
  refine h_it 3 (x' := (77, [(3, .int (b01 y0)), (0, .ref 49), (1, .int x1)], [.int 88, .int x1], (hpC s, Q))) rfl ?_
  refine h_br (b := decide (¬ x1 = 88)) (t := 104) (f := 80) (lv' := [(3, .int (b01 y0)), (0, .ref 49), (1, .int x1)]) (st' := []) rfl rfl ?_
  by_cases h9 : x1 = 88
  · replace h := if_y h9 h
    refine h_n (fun z => z h9) ?_
    refine h_it 7 (x' := (95, [(3, .int (b01 y0)), (0, .ref 49), (1, .int x1)], [.ref 48, .int (xsTop (gR s 1)), .ref (pa (gZ s 3))], (hpC s, Q))) rfl ?_
    refine h_callO (As := []) (r1 := some (.int (gI s 6))) (st := [.int (xsTop (gR s 1)), .ref (pa (gZ s 3))]) (H1 := (hpC s, Q)) rfl rfl rfl rfl rfl rfl (m47_ok  s) ?_
    refine h_callO (As := [.int (xsTop (gR s 1)), .int (gI s 6)]) (r1 := none) (st := []) (H1 := (hpC (sP s (gZ s 3) 2 (xsSet (gP s (gZ s 3) 2) (xsTop (gR s 1)) (gI s 6))), Q)) rfl rfl rfl rfl rfl hp_pa (m62_ok (gZ s 3) (xsTop (gR s 1)) (gI s 6) s) ?_
    replace h := Option.some.inj h; subst h
    refine h_it 1 (x' := (131, [(3, .int (b01 y0)), (0, .ref 49), (1, .int x1)], [], (hpC (sP s (gZ s 3) 2 (xsSet (gP s (gZ s 3) 2) (xsTop (gR s 1)) (gI s 6))), Q))) rfl ?_
    exact h_vret rfl rfl
  · replace h := if_n h9 h
    refine h_y h9 ?_
    refine h_it 2 (x' := (106, [(3, .int (b01 y0)), (0, .ref 49), (1, .int x1)], [.int (b01 y0), .ref 49], (hpC s, Q))) rfl ?_
    refine h_br (b := decide (¬ (b01 y0) = 0)) (t := 113) (f := 109) (lv' := [(3, .int (b01 y0)), (0, .ref 49), (1, .int x1)]) (st' := [.ref 49]) rfl rfl ?_
    by_cases h10 : y0 = true
    · replace h := if_y h10 h
      refine h_y (b01_1 h10) ?_
      refine h_it 1 (x' := (114, [(3, .int (b01 y0)), (0, .ref 49), (1, .int x1)], [.int 0, .ref 49], (hpC s, Q))) rfl ?_
      refine h_lw (lv := [(0, .ref 49)]) (fa_c rfl (fa_n)) rfl ?_
      exact m98_114_ok  h
    · replace h := if_n h10 h
      refine h_n (fun z => z (b01_0 h10)) ?_
      refine h_it 2 (x' := (114, [(3, .int (b01 y0)), (0, .ref 49), (1, .int x1)], [.int 1, .ref 49], (hpC s, Q))) rfl ?_
      refine h_lw (lv := [(0, .ref 49)]) (fa_c rfl (fa_n)) rfl ?_
      exact m98_114_ok  h
theorem m98_68_ok   {x1 : Int32} {s : xSt} {q : xSt} (h : m98_68  x1 s = some q) : HE V L Kc Ks 98 (68, [(0, .ref 49), (1, .int x1)], [], (hpC s, Q)) (none) (hpC q, Q) := by
  unfold m98_68 at h
  refine h_it 2 (x' := (73, [(0, .ref 49), (1, .int x1)], [.int 1], (hpC s, Q))) rfl ?_
  refine h_lw (lv := [(0, .ref 49), (1, .int x1)]) (fa_c rfl (fa_c rfl (fa_n))) rfl ?_
  exact m98_73_ok  h
theorem m98_72_ok   {x1 : Int32} {s : xSt} {q : xSt} (h : m98_72  x1 s = some q) : HE V L Kc Ks 98 (72, [(0, .ref 49), (1, .int x1)], [], (hpC s, Q)) (none) (hpC q, Q) := by
  unfold m98_72 at h
  refine h_it 1 (x' := (73, [(0, .ref 49), (1, .int x1)], [.int 0], (hpC s, Q))) rfl ?_
  refine h_lw (lv := [(0, .ref 49), (1, .int x1)]) (fa_c rfl (fa_c rfl (fa_n))) rfl ?_
  exact m98_73_ok  h
theorem m98_57_ok   {x1 : Int32} {x2 : Int32} {s : xSt} {q : xSt} (h : m98_57  x1 x2 s = some q) : HE V L Kc Ks 98 (57, [(0, .ref 49), (1, .int x1), (2, .int x2)], [], (hpC s, Q)) (none) (hpC q, Q) := by
  unfold m98_57 at h
  refine h_it 2 (x' := (60, [(0, .ref 49), (1, .int x1), (2, .int x2)], [.int 78, .int x1], (hpC s, Q))) rfl ?_
  refine h_br (b := decide (¬ x1 = 78)) (t := 72) (f := 63) (lv' := [(0, .ref 49), (1, .int x1), (2, .int x2)]) (st' := []) rfl rfl ?_
  by_cases h14 : x1 = 78
  · replace h := if_y h14 h
    refine h_n (fun z => z h14) ?_
    refine h_it 2 (x' := (65, [(0, .ref 49), (1, .int x1), (2, .int x2)], [.int (-1), .int x2], (hpC s, Q))) rfl ?_
    refine h_br (b := decide (x2 = (-1))) (t := 72) (f := 68) (lv' := [(0, .ref 49), (1, .int x1), (2, .int x2)]) (st' := []) rfl rfl ?_
    by_cases h15 : x2 = (-1)
    · replace h := if_y h15 h
      refine h_y h15 ?_
      refine h_lw (lv := [(0, .ref 49), (1, .int x1)]) (fa_c rfl (fa_c rfl (fa_n))) rfl ?_
      exact m98_72_ok  h
    · replace h := if_n h15 h
      refine h_n h15 ?_
      refine h_lw (lv := [(0, .ref 49), (1, .int x1)]) (fa_c rfl (fa_c rfl (fa_n))) rfl ?_
      exact m98_68_ok  h
  · replace h := if_n h14 h
    refine h_y h14 ?_
    refine h_lw (lv := [(0, .ref 49), (1, .int x1)]) (fa_c rfl (fa_c rfl (fa_n))) rfl ?_
    exact m98_72_ok  h
theorem m98_22_ok   {x1 : Int32} {y0 : Bool} {s : xSt} {q : xSt} (h : m98_22  x1 y0 s = some q) : HE V L Kc Ks 98 (22, [(0, .ref 49), (1, .int x1)], [.int (b01 y0), .ref 49], (hpC s, Q)) (none) (hpC q, Q) := by
  unfold m98_22 at h
  obtain ⟨q4, hq4, h⟩ := Option.bind_eq_some_iff.mp h
  refine h_callO (As := [.int (b01 y0)]) (r1 := some (.int (b01 q4.1))) (st := []) (H1 := (hpC q4.2, Q)) rfl rfl rfl rfl rfl rfl (m84_ok hq4) ?_
  refine h_br (b := decide (¬ (b01 q4.1) = 0)) (t := 29) (f := 28) (lv' := [(0, .ref 49), (1, .int x1)]) (st' := []) rfl rfl ?_
  by_cases h5 : q4.1 = true
  · replace h := if_y h5 h
    refine h_y (b01_1 h5) ?_
    refine h_it 3 (x' := (34, [(0, .ref 49), (1, .int x1)], [.ref 48, .ref 49], (hpC q4.2, Q))) rfl ?_
    refine h_callO (As := []) (r1 := some (.long (gJ q4.2 0))) (st := [.ref 49]) (H1 := (hpC q4.2, Q)) rfl rfl rfl rfl rfl rfl (m50_ok  q4.2) ?_
    obtain ⟨q6, hq6, h⟩ := Option.bind_eq_some_iff.mp h
    refine h_callO (As := [.long (gJ q4.2 0)]) (r1 := some (.int q6.1)) (st := []) (H1 := (hpC q6.2, Q)) rfl rfl rfl rfl rfl rfl (m91_ok hq6) ?_
    refine h_it 3 (x' := (44, [(2, .int q6.1), (0, .ref 49), (1, .int x1)], [.int 84, .int x1], (hpC q6.2, Q))) rfl ?_
    refine h_br (b := decide (¬ x1 = 84)) (t := 57) (f := 47) (lv' := [(2, .int q6.1), (0, .ref 49), (1, .int x1)]) (st' := []) rfl rfl ?_
    by_cases h7 : x1 = 84
    · replace h := if_y h7 h
      refine h_n (fun z => z h7) ?_
      refine h_it 5 (x' := (54, [(2, .int q6.1), (0, .ref 49), (1, .int x1)], [.int ((gI q6.2 11) - 1), .int q6.1], (hpC q6.2, Q))) rfl ?_
      refine h_br (b := decide (q6.1 = ((gI q6.2 11) - 1))) (t := 68) (f := 57) (lv' := [(2, .int q6.1), (0, .ref 49), (1, .int x1)]) (st' := []) rfl rfl ?_
      by_cases h8 : q6.1 = ((gI q6.2 11) - 1)
      · replace h := if_y h8 h
        refine h_y h8 ?_
        refine h_lw (lv := [(0, .ref 49), (1, .int x1)]) (fa_c rfl (fa_c rfl (fa_n))) rfl ?_
        exact m98_68_ok  h
      · replace h := if_n h8 h
        refine h_n h8 ?_
        refine h_lw (lv := [(0, .ref 49), (1, .int x1), (2, .int q6.1)]) (fa_c rfl (fa_c rfl (fa_c rfl (fa_n)))) rfl ?_
        exact m98_57_ok  h
    · replace h := if_n h7 h
      refine h_y h7 ?_
      refine h_lw (lv := [(0, .ref 49), (1, .int x1), (2, .int q6.1)]) (fa_c rfl (fa_c rfl (fa_c rfl (fa_n)))) rfl ?_
      exact m98_57_ok  h
  · replace h := if_n h5 h
    refine h_n (fun z => z (b01_0 h5)) ?_
    replace h := Option.some.inj h; subst h
    exact h_vret rfl rfl
theorem m98_ok {a1 : Int32} {s : xSt} {q : xSt} (h : m98 a1 s = some q) : HC V L Kc Ks 98 [.ref 49, .int a1] (hpC s, Q) (none) (hpC q, Q) := by
  unfold m98 at h
  refine hc_of (by decide) rfl ?_
  refine h_it 1 (x' := (1, [(0, .ref 49), (1, .int a1)], [.ref 49], (hpC s, Q))) rfl ?_
  obtain ⟨q1, hq1, h⟩ := Option.bind_eq_some_iff.mp h
  refine h_callO (As := []) (r1 := some (.int (b01 q1.1))) (st := []) (H1 := (hpC q1.2, Q)) rfl rfl rfl rfl rfl rfl (m90_ok hq1) ?_
  refine h_br (b := decide ((b01 q1.1) = 0)) (t := 28) (f := 7) (lv' := [(0, .ref 49), (1, .int a1)]) (st' := []) rfl rfl ?_
  by_cases h2 : q1.1 = true
  · replace h := if_y h2 h
    refine h_n (b01_1 h2) ?_
    refine h_it 4 (x' := (14, [(0, .ref 49), (1, .int a1)], [.int 24, .int (gI q1.2 11), .ref 49], (hpC q1.2, Q))) rfl ?_
    refine h_br (b := decide (24 ≤ (gI q1.2 11))) (t := 21) (f := 17) (lv' := [(0, .ref 49), (1, .int a1)]) (st' := [.ref 49]) rfl rfl ?_
    by_cases h3 : 24 ≤ (gI q1.2 11)
    · replace h := if_y h3 h
      refine h_y h3 ?_
      refine h_it 1 (x' := (22, [(0, .ref 49), (1, .int a1)], [.int 0, .ref 49], (hpC q1.2, Q))) rfl ?_
      refine h_lw (lv := [(0, .ref 49), (1, .int a1)]) (fa_c rfl (fa_c rfl (fa_n))) rfl ?_
      exact m98_22_ok  h
    · replace h := if_n h3 h
      refine h_n h3 ?_
      refine h_it 2 (x' := (22, [(0, .ref 49), (1, .int a1)], [.int 1, .ref 49], (hpC q1.2, Q))) rfl ?_
      refine h_lw (lv := [(0, .ref 49), (1, .int a1)]) (fa_c rfl (fa_c rfl (fa_n))) rfl ?_
      exact m98_22_ok  h
  · replace h := if_n h2 h
    refine h_y (b01_0 h2) ?_
    replace h := Option.some.inj h; subst h
    exact h_vret rfl rfl
end Sm98
section Sm93
variable {V : xmV} {L : List Nat} {Kc Ks : Nat} {Q : List xE}
theorem m93_132_ok   {y0 : Bool} {s : xSt} {q : xSt} (h : m93_132  y0 s = some q) : HE V L Kc Ks 93 (132, [(0, .ref 49)], [.int (b01 y0), .ref 49], (hpC s, Q)) (none) (hpC q, Q) := by
  unfold m93_132 at h
  obtain ⟨q9, hq9, h⟩ := Option.bind_eq_some_iff.mp h
  refine h_callO (As := [.int (b01 y0)]) (r1 := some (.int (b01 q9.1))) (st := []) (H1 := (hpC q9.2, Q)) rfl rfl rfl rfl rfl rfl (m84_ok hq9) ?_
  refine h_it 4 (x' := (142, [(0, .ref 49)], [.int 22, .ref 53], (hpC q9.2, Q))) rfl ?_
  obtain ⟨q10, hq10, h⟩ := Option.bind_eq_some_iff.mp h
  refine h_callS (av := [.int 22]) (r1 := some (.retAddr q10.1)) (st := [.ref 53]) (H1 := (hpC q10.2, Q)) rfl rfl rfl rfl rfl (m79_ok hq10) ?_
  refine h_it 1 (x' := (147, [(0, .ref 49)], [.int 80, .retAddr q10.1, .ref 53], (hpC q10.2, Q))) rfl ?_
  obtain ⟨v11, hv11, h⟩ := Option.bind_eq_some_iff.mp h
  refine h_callT (As := [.int 80]) (r1 := some (.int v11)) (st := [.ref 53]) rfl rfl (xt_ltI hv11) rfl rfl rfl (xt_idx_ok hv11) ?_
  replace h := Option.some.inj h; subst h
  refine h_it 2 (x' := (168, [(0, .ref 49)], [], (hpC (sR q10.2 2 (xsSetTop (gR q10.2 2) v11)), Q))) rfl ?_
  exact h_vret rfl rfl
theorem m93_ok {a1 : Int32} {s : xSt} {q : xSt} (h : m93 a1 s = some q) : HC V L Kc Ks 93 [.ref 49, .int a1] (hpC s, Q) (none) (hpC q, Q) := by
  unfold m93 at h
  refine hc_of (by decide) rfl ?_
  refine h_it 1 (x' := (1, [(0, .ref 49), (1, .int a1)], [.int a1], (hpC s, Q))) rfl ?_
  by_cases h1 : a1 = 68
  · replace h := if_y h1 h
    refine h_ls (t := 60) rfl (by rw [h1]; decide) ?_
    refine h_it 1 (x' := (61, [(0, .ref 49), (1, .int a1)], [.ref 49], (hpC s, Q))) rfl ?_
    obtain ⟨q2, hq2, h⟩ := Option.bind_eq_some_iff.mp h
    refine h_callO (As := []) (r1 := none) (st := []) (H1 := (hpC q2, Q)) rfl rfl rfl rfl rfl rfl (m94_ok hq2) ?_
    replace h := Option.some.inj h; subst h
    refine h_it 1 (x' := (168, [(0, .ref 49), (1, .int a1)], [], (hpC q2, Q))) rfl ?_
    exact h_vret rfl rfl
  replace h := if_n h1 h
  by_cases h3 : a1 = 70
  · replace h := if_y h3 h
    refine h_ls (t := 67) rfl (by rw [h3]; decide) ?_
    refine h_it 1 (x' := (68, [(0, .ref 49), (1, .int a1)], [.ref 49], (hpC s, Q))) rfl ?_
    obtain ⟨q4, hq4, h⟩ := Option.bind_eq_some_iff.mp h
    refine h_callO (As := []) (r1 := none) (st := []) (H1 := (hpC q4, Q)) rfl rfl rfl rfl rfl rfl (m95_ok hq4) ?_
    replace h := Option.some.inj h; subst h
    refine h_it 1 (x' := (168, [(0, .ref 49), (1, .int a1)], [], (hpC q4, Q))) rfl ?_
    exact h_vret rfl rfl
  replace h := if_n h3 h
  by_cases h5 : a1 = 80
  · replace h := if_y h5 h
    refine h_ls (t := 74) rfl (by rw [h5]; decide) ?_
    refine h_it 1 (x' := (75, [(0, .ref 49), (1, .int a1)], [.ref 49], (hpC s, Q))) rfl ?_
    obtain ⟨q6, hq6, h⟩ := Option.bind_eq_some_iff.mp h
    refine h_callO (As := []) (r1 := none) (st := []) (H1 := (hpC q6, Q)) rfl rfl rfl rfl rfl rfl (m96_ok hq6) ?_
    replace h := Option.some.inj h; subst h
    refine h_it 1 (x' := (168, [(0, .ref 49), (1, .int a1)], [], (hpC q6, Q))) rfl ?_
    exact h_vret rfl rfl
  replace h := if_n h5 h
  by_cases h7 : a1 = 81
  · replace h := if_y h7 h
    refine h_ls (t := 115) rfl (by rw [h7]; decide) ?_
    refine h_it 3 (x' := (120, [(0, .ref 49), (1, .int a1)], [.ref 48, .ref 49], (hpC s, Q))) rfl ?_
    refine h_callO (As := []) (r1 := some (.int (gI s 5))) (st := [.ref 49]) (H1 := (hpC s, Q)) rfl rfl rfl rfl rfl rfl (m46_ok  s) ?_
    refine h_it 1 (x' := (124, [(0, .ref 49), (1, .int a1)], [.int 3, .int (gI s 5), .ref 49], (hpC s, Q))) rfl ?_
    refine h_br (b := decide (¬ (gI s 5) = 3)) (t := 131) (f := 127) (lv' := [(0, .ref 49), (1, .int a1)]) (st' := [.ref 49]) rfl rfl ?_
    by_cases h8 : (gI s 5) = 3
    · replace h := if_y h8 h
      refine h_n (fun z => z h8) ?_
      refine h_it 2 (x' := (132, [(0, .ref 49), (1, .int a1)], [.int 1, .ref 49], (hpC s, Q))) rfl ?_
      refine h_lw (lv := [(0, .ref 49)]) (fa_c rfl (fa_n)) rfl ?_
      exact m93_132_ok  h
    · replace h := if_n h8 h
      refine h_y h8 ?_
      refine h_it 1 (x' := (132, [(0, .ref 49), (1, .int a1)], [.int 0, .ref 49], (hpC s, Q))) rfl ?_
      refine h_lw (lv := [(0, .ref 49)]) (fa_c rfl (fa_n)) rfl ?_
      exact m93_132_ok  h
  replace h := if_n h7 h
  by_cases h12 : a1 = 82
  · replace h := if_y h12 h
    refine h_ls (t := 156) rfl (by rw [h12]; decide) ?_
    refine h_it 1 (x' := (157, [(0, .ref 49), (1, .int a1)], [.ref 49], (hpC s, Q))) rfl ?_
    obtain ⟨q13, hq13, h⟩ := Option.bind_eq_some_iff.mp h
    refine h_callO (As := []) (r1 := none) (st := []) (H1 := (hpC q13, Q)) rfl rfl rfl rfl rfl rfl (m97_ok hq13) ?_
    replace h := Option.some.inj h; subst h
    refine h_it 1 (x' := (168, [(0, .ref 49), (1, .int a1)], [], (hpC q13, Q))) rfl ?_
    exact h_vret rfl rfl
  replace h := if_n h12 h
  by_cases h14 : a1 = 89
  · replace h := if_y h14 h
    refine h_ls (t := 81) rfl (by rw [h14]; decide) ?_
    refine h_it 3 (x' := (86, [(0, .ref 49), (1, .int a1)], [.ref 48, .ref 49], (hpC s, Q))) rfl ?_
    refine h_callO (As := []) (r1 := some (.int (gI s 8))) (st := [.ref 49]) (H1 := (hpC s, Q)) rfl rfl rfl rfl rfl rfl (m48_ok  s) ?_
    obtain ⟨q15, hq15, h⟩ := Option.bind_eq_some_iff.mp h
    refine h_callS (av := [.int (gI s 8)]) (r1 := some (.int (b01 q15.1))) (st := [.ref 49]) (H1 := (hpC q15.2, Q)) rfl rfl rfl rfl rfl (m21_ok hq15) ?_
    obtain ⟨q16, hq16, h⟩ := Option.bind_eq_some_iff.mp h
    refine h_callO (As := [.int (b01 q15.1)]) (r1 := some (.int (b01 q16.1))) (st := []) (H1 := (hpC q16.2, Q)) rfl rfl rfl rfl rfl rfl (m84_ok hq16) ?_
    refine h_br (b := decide ((b01 q16.1) = 0)) (t := 168) (f := 98) (lv' := [(0, .ref 49), (1, .int a1)]) (st' := []) rfl rfl ?_
    by_cases h17 : q16.1 = true
    · replace h := if_y h17 h
      refine h_n (b01_1 h17) ?_
      refine h_it 4 (x' := (106, [(0, .ref 49), (1, .int a1)], [.ref 48, .ref (pa (gZ q16.2 3))], (hpC q16.2, Q))) rfl ?_
      refine h_callO (As := []) (r1 := some (.int (gI q16.2 8))) (st := [.ref (pa (gZ q16.2 3))]) (H1 := (hpC q16.2, Q)) rfl rfl rfl rfl rfl rfl (m48_ok  q16.2) ?_
      refine h_callO (As := [.int (gI q16.2 8)]) (r1 := none) (st := []) (H1 := (hpC (sP (sP q16.2 (gZ q16.2 3) 9 (xsSet (gP q16.2 (gZ q16.2 3) 9) ((((nI ((gP q16.2 (gZ q16.2 3) 6)).length) - 1) * 8) + (xsTop (gP q16.2 (gZ q16.2 3) 8))) (gI q16.2 8))) (gZ q16.2 3) 8 (xsSetTop (gP q16.2 (gZ q16.2 3) 8) ((xsTop (gP q16.2 (gZ q16.2 3) 8)) + 1))), Q)) rfl rfl rfl rfl rfl hp_pa (m63_ok (gZ q16.2 3) (gI q16.2 8) q16.2) ?_
      replace h := Option.some.inj h; subst h
      refine h_it 1 (x' := (168, [(0, .ref 49), (1, .int a1)], [], (hpC (sP (sP q16.2 (gZ q16.2 3) 9 (xsSet (gP q16.2 (gZ q16.2 3) 9) ((((nI ((gP q16.2 (gZ q16.2 3) 6)).length) - 1) * 8) + (xsTop (gP q16.2 (gZ q16.2 3) 8))) (gI q16.2 8))) (gZ q16.2 3) 8 (xsSetTop (gP q16.2 (gZ q16.2 3) 8) ((xsTop (gP q16.2 (gZ q16.2 3) 8)) + 1))), Q))) rfl ?_
      exact h_vret rfl rfl
    · replace h := if_n h17 h
      refine h_y (b01_0 h17) ?_
      replace h := Option.some.inj h; subst h
      exact h_vret rfl rfl
  replace h := if_n h14 h
  refine h_ls (t := 163) rfl (ls_d [68, 70, 80, 81, 82, 89] rfl (by decide) (fun v hv => by
      simp only [List.mem_cons, List.not_mem_nil, or_false] at hv
      rcases hv with rfl | rfl | rfl | rfl | rfl | rfl
      · exact h1
      · exact h3
      · exact h5
      · exact h7
      · exact h12
      · exact h14)) ?_
  refine h_it 2 (x' := (165, [(0, .ref 49), (1, .int a1)], [.int a1, .ref 49], (hpC s, Q))) rfl ?_
  obtain ⟨q18, hq18, h⟩ := Option.bind_eq_some_iff.mp h
  refine h_callO (As := [.int a1]) (r1 := none) (st := []) (H1 := (hpC q18, Q)) rfl rfl rfl rfl rfl rfl (m98_ok hq18) ?_
  replace h := Option.some.inj h; subst h
  exact h_vret rfl rfl
end Sm93
section Sm83
variable {V : xmV} {L : List Nat} {Kc Ks : Nat} {Q : List xE}
theorem m83_171_ok   {y0 : Bool} {s : xSt} {q : xSt} (h : m83_171  y0 s = some q) : HE V L Kc Ks 83 (171, [], [.int (b01 y0), .ref 49], (hpC s, Q)) (none) (hpC q, Q) := by
  unfold m83_171 at h
  obtain ⟨q3, hq3, h⟩ := Option.bind_eq_some_iff.mp h
  refine h_callO (As := [.int (b01 y0)]) (r1 := some (.int (b01 q3.1))) (st := []) (H1 := (hpC q3.2, Q)) rfl rfl rfl rfl rfl rfl (m84_ok hq3) ?_
  replace h := Option.some.inj h; subst h
  refine h_it 2 (x' := (214, [], [], (hpC q3.2, Q))) rfl ?_
  exact h_vret rfl rfl
theorem m83_103_ok   {y0 : Bool} {s : xSt} {q : xSt} (h : m83_103  y0 s = some q) : HE V L Kc Ks 83 (103, [(0, .ref 49)], [.int (b01 y0), .ref 49], (hpC s, Q)) (none) (hpC q, Q) := by
  unfold m83_103 at h
  obtain ⟨q10, hq10, h⟩ := Option.bind_eq_some_iff.mp h
  refine h_callO (As := [.int (b01 y0)]) (r1 := some (.int (b01 q10.1))) (st := []) (H1 := (hpC q10.2, Q)) rfl rfl rfl rfl rfl rfl (m84_ok hq10) ?_
  refine h_br (b := decide ((b01 q10.1) = 0)) (t := 214) (f := 109) (lv' := [(0, .ref 49)]) (st' := []) rfl rfl ?_
  by_cases h11 : q10.1 = true
  · replace h := if_y h11 h
    refine h_n (b01_1 h11) ?_
    refine h_it 2 (x' := (111, [(0, .ref 49)], [.int 2, .ref 49], (hpC q10.2, Q))) rfl ?_
    refine h_callO (As := [.int 2]) (r1 := none) (st := []) (H1 := (hpC (sI (sI q10.2 9 (gI q10.2 6)) 10 2), Q)) rfl rfl rfl rfl rfl rfl (m85_ok 2 q10.2) ?_
    replace h := Option.some.inj h; subst h
    refine h_it 1 (x' := (214, [(0, .ref 49)], [], (hpC (sI (sI q10.2 9 (gI q10.2 6)) 10 2), Q))) rfl ?_
    exact h_vret rfl rfl
  · replace h := if_n h11 h
    refine h_y (b01_0 h11) ?_
    replace h := Option.some.inj h; subst h
    exact h_vret rfl rfl
theorem m83_102_ok    {s : xSt} {q : xSt} (h : m83_102   s = some q) : HE V L Kc Ks 83 (102, [(0, .ref 49)], [.ref 49], (hpC s, Q)) (none) (hpC q, Q) := by
  unfold m83_102 at h
  refine h_it 1 (x' := (103, [(0, .ref 49)], [.int 0, .ref 49], (hpC s, Q))) rfl ?_
  refine h_lw (lv := [(0, .ref 49)]) (fa_c rfl (fa_n)) rfl ?_
  exact m83_103_ok  h
theorem m83_195_ok   {y0 : Bool} {s : xSt} {q : xSt} (h : m83_195  y0 s = some q) : HE V L Kc Ks 83 (195, [], [.int (b01 y0), .ref 49], (hpC s, Q)) (none) (hpC q, Q) := by
  unfold m83_195 at h
  obtain ⟨q20, hq20, h⟩ := Option.bind_eq_some_iff.mp h
  refine h_callO (As := [.int (b01 y0)]) (r1 := some (.int (b01 q20.1))) (st := []) (H1 := (hpC q20.2, Q)) rfl rfl rfl rfl rfl rfl (m84_ok hq20) ?_
  replace h := Option.some.inj h; subst h
  refine h_it 2 (x' := (214, [], [], (hpC q20.2, Q))) rfl ?_
  exact h_vret rfl rfl
theorem m83_ok {a1 : Int32} {s : xSt} {q : xSt} (h : m83 a1 s = some q) : HC V L Kc Ks 83 [.ref 49, .int a1] (hpC s, Q) (none) (hpC q, Q) := by
  unfold m83 at h
  refine hc_of (by decide) rfl ?_
  refine h_it 1 (x' := (1, [(0, .ref 49), (1, .int a1)], [.int a1], (hpC s, Q))) rfl ?_
  by_cases h1 : a1 = 40
  · replace h := if_y h1 h
    refine h_ls (t := 154) rfl (by rw [h1]; decide) ?_
    refine h_it 3 (x' := (159, [(0, .ref 49), (1, .int a1)], [.ref 48, .ref 49], (hpC s, Q))) rfl ?_
    refine h_callO (As := []) (r1 := some (.int (gI s 5))) (st := [.ref 49]) (H1 := (hpC s, Q)) rfl rfl rfl rfl rfl rfl (m46_ok  s) ?_
    refine h_it 1 (x' := (163, [(0, .ref 49), (1, .int a1)], [.int 2, .int (gI s 5), .ref 49], (hpC s, Q))) rfl ?_
    refine h_br (b := decide (¬ (gI s 5) = 2)) (t := 170) (f := 166) (lv' := [(0, .ref 49), (1, .int a1)]) (st' := [.ref 49]) rfl rfl ?_
    by_cases h2 : (gI s 5) = 2
    · replace h := if_y h2 h
      refine h_n (fun z => z h2) ?_
      refine h_it 2 (x' := (171, [(0, .ref 49), (1, .int a1)], [.int 1, .ref 49], (hpC s, Q))) rfl ?_
      refine h_lw (lv := []) (fa_n) rfl ?_
      exact m83_171_ok  h
    · replace h := if_n h2 h
      refine h_y h2 ?_
      refine h_it 1 (x' := (171, [(0, .ref 49), (1, .int a1)], [.int 0, .ref 49], (hpC s, Q))) rfl ?_
      refine h_lw (lv := []) (fa_n) rfl ?_
      exact m83_171_ok  h
  replace h := if_n h1 h
  by_cases h4 : a1 = 41
  · replace h := if_y h4 h
    refine h_ls (t := 202) rfl (by rw [h4]; decide) ?_
    refine h_it 1 (x' := (203, [(0, .ref 49), (1, .int a1)], [.ref 49], (hpC s, Q))) rfl ?_
    obtain ⟨q5, hq5, h⟩ := Option.bind_eq_some_iff.mp h
    refine h_callO (As := []) (r1 := none) (st := []) (H1 := (hpC q5, Q)) rfl rfl rfl rfl rfl rfl (m92_ok hq5) ?_
    replace h := Option.some.inj h; subst h
    refine h_it 1 (x' := (214, [(0, .ref 49), (1, .int a1)], [], (hpC q5, Q))) rfl ?_
    exact h_vret rfl rfl
  replace h := if_n h4 h
  by_cases h6 : a1 = 65
  · replace h := if_y h6 h
    refine h_ls (t := 76) rfl (by rw [h6]; decide) ?_
    refine h_it 3 (x' := (81, [(0, .ref 49), (1, .int a1)], [.ref 48, .ref 49], (hpC s, Q))) rfl ?_
    refine h_callO (As := []) (r1 := some (.int (gI s 5))) (st := [.ref 49]) (H1 := (hpC s, Q)) rfl rfl rfl rfl rfl rfl (m46_ok  s) ?_
    refine h_it 1 (x' := (85, [(0, .ref 49), (1, .int a1)], [.int 2, .int (gI s 5), .ref 49], (hpC s, Q))) rfl ?_
    refine h_br (b := decide (¬ (gI s 5) = 2)) (t := 102) (f := 88) (lv' := [(0, .ref 49), (1, .int a1)]) (st' := [.ref 49]) rfl rfl ?_
    by_cases h7 : (gI s 5) = 2
    · replace h := if_y h7 h
      refine h_n (fun z => z h7) ?_
      refine h_it 2 (x' := (92, [(0, .ref 49), (1, .int a1)], [.ref (pa (gZ s 3)), .ref 49], (hpC s, Q))) rfl ?_
      obtain ⟨q8, hq8, h⟩ := Option.bind_eq_some_iff.mp h
      refine h_callO (As := []) (r1 := some (.int (b01 q8.1))) (st := [.ref 49]) (H1 := (hpC q8.2, Q)) rfl rfl rfl rfl rfl hp_pa (m56_ok hq8) ?_
      refine h_br (b := decide (¬ (b01 q8.1) = 0)) (t := 102) (f := 98) (lv' := [(0, .ref 49), (1, .int a1)]) (st' := [.ref 49]) rfl rfl ?_
      by_cases h9 : q8.1 = true
      · replace h := if_y h9 h
        refine h_y (b01_1 h9) ?_
        refine h_lw (lv := [(0, .ref 49)]) (fa_c rfl (fa_n)) rfl ?_
        exact m83_102_ok  h
      · replace h := if_n h9 h
        refine h_n (fun z => z (b01_0 h9)) ?_
        refine h_it 2 (x' := (103, [(0, .ref 49), (1, .int a1)], [.int 1, .ref 49], (hpC q8.2, Q))) rfl ?_
        refine h_lw (lv := [(0, .ref 49)]) (fa_c rfl (fa_n)) rfl ?_
        exact m83_103_ok  h
    · replace h := if_n h7 h
      refine h_y h7 ?_
      refine h_lw (lv := [(0, .ref 49)]) (fa_c rfl (fa_n)) rfl ?_
      exact m83_102_ok  h
  replace h := if_n h6 h
  by_cases h12 : a1 = 67
  · replace h := if_y h12 h
    refine h_ls (t := 132) rfl (by rw [h12]; decide) ?_
    refine h_it 2 (x' := (134, [(0, .ref 49), (1, .int a1)], [.int 1, .ref 49], (hpC s, Q))) rfl ?_
    obtain ⟨q13, hq13, h⟩ := Option.bind_eq_some_iff.mp h
    refine h_callO (As := [.int 1]) (r1 := none) (st := []) (H1 := (hpC q13, Q)) rfl rfl rfl rfl rfl rfl (m88_ok hq13) ?_
    replace h := Option.some.inj h; subst h
    refine h_it 1 (x' := (214, [(0, .ref 49), (1, .int a1)], [], (hpC q13, Q))) rfl ?_
    exact h_vret rfl rfl
  replace h := if_n h12 h
  by_cases h14 : a1 = 69
  · replace h := if_y h14 h
    refine h_ls (t := 124) rfl (by rw [h14]; decide) ?_
    refine h_it 2 (x' := (126, [(0, .ref 49), (1, .int a1)], [.int 0, .ref 49], (hpC s, Q))) rfl ?_
    obtain ⟨q15, hq15, h⟩ := Option.bind_eq_some_iff.mp h
    refine h_callO (As := [.int 0]) (r1 := none) (st := []) (H1 := (hpC q15, Q)) rfl rfl rfl rfl rfl rfl (m88_ok hq15) ?_
    replace h := Option.some.inj h; subst h
    refine h_it 1 (x' := (214, [(0, .ref 49), (1, .int a1)], [], (hpC q15, Q))) rfl ?_
    exact h_vret rfl rfl
  replace h := if_n h14 h
  by_cases h16 : a1 = 72
  · replace h := if_y h16 h
    refine h_ls (t := 117) rfl (by rw [h16]; decide) ?_
    refine h_it 1 (x' := (118, [(0, .ref 49), (1, .int a1)], [.ref 49], (hpC s, Q))) rfl ?_
    obtain ⟨q17, hq17, h⟩ := Option.bind_eq_some_iff.mp h
    refine h_callO (As := []) (r1 := none) (st := []) (H1 := (hpC q17, Q)) rfl rfl rfl rfl rfl rfl (m86_ok hq17) ?_
    replace h := Option.some.inj h; subst h
    refine h_it 1 (x' := (214, [(0, .ref 49), (1, .int a1)], [], (hpC q17, Q))) rfl ?_
    exact h_vret rfl rfl
  replace h := if_n h16 h
  by_cases h18 : a1 = 73
  · replace h := if_y h18 h
    refine h_ls (t := 178) rfl (by rw [h18]; decide) ?_
    refine h_it 3 (x' := (183, [(0, .ref 49), (1, .int a1)], [.ref 48, .ref 49], (hpC s, Q))) rfl ?_
    refine h_callO (As := []) (r1 := some (.int (gI s 5))) (st := [.ref 49]) (H1 := (hpC s, Q)) rfl rfl rfl rfl rfl rfl (m46_ok  s) ?_
    refine h_it 1 (x' := (187, [(0, .ref 49), (1, .int a1)], [.int 3, .int (gI s 5), .ref 49], (hpC s, Q))) rfl ?_
    refine h_br (b := decide (¬ (gI s 5) = 3)) (t := 194) (f := 190) (lv' := [(0, .ref 49), (1, .int a1)]) (st' := [.ref 49]) rfl rfl ?_
    by_cases h19 : (gI s 5) = 3
    · replace h := if_y h19 h
      refine h_n (fun z => z h19) ?_
      refine h_it 2 (x' := (195, [(0, .ref 49), (1, .int a1)], [.int 1, .ref 49], (hpC s, Q))) rfl ?_
      refine h_lw (lv := []) (fa_n) rfl ?_
      exact m83_195_ok  h
    · replace h := if_n h19 h
      refine h_y h19 ?_
      refine h_it 1 (x' := (195, [(0, .ref 49), (1, .int a1)], [.int 0, .ref 49], (hpC s, Q))) rfl ?_
      refine h_lw (lv := []) (fa_n) rfl ?_
      exact m83_195_ok  h
  replace h := if_n h18 h
  by_cases h21 : a1 = 83
  · replace h := if_y h21 h
    refine h_ls (t := 140) rfl (by rw [h21]; decide) ?_
    refine h_it 4 (x' := (148, [(0, .ref 49), (1, .int a1)], [.int (xsTop (gR s 3)), .ref 49], (hpC s, Q))) rfl ?_
    obtain ⟨q22, hq22, h⟩ := Option.bind_eq_some_iff.mp h
    refine h_callO (As := [.int (xsTop (gR s 3))]) (r1 := none) (st := []) (H1 := (hpC q22, Q)) rfl rfl rfl rfl rfl rfl (m88_ok hq22) ?_
    replace h := Option.some.inj h; subst h
    refine h_it 1 (x' := (214, [(0, .ref 49), (1, .int a1)], [], (hpC q22, Q))) rfl ?_
    exact h_vret rfl rfl
  replace h := if_n h21 h
  refine h_ls (t := 209) rfl (ls_d [40, 41, 65, 67, 69, 72, 73, 83] rfl (by decide) (fun v hv => by
      simp only [List.mem_cons, List.not_mem_nil, or_false] at hv
      rcases hv with rfl | rfl | rfl | rfl | rfl | rfl | rfl | rfl
      · exact h1
      · exact h4
      · exact h6
      · exact h12
      · exact h14
      · exact h16
      · exact h18
      · exact h21)) ?_
  refine h_it 2 (x' := (211, [(0, .ref 49), (1, .int a1)], [.int a1, .ref 49], (hpC s, Q))) rfl ?_
  obtain ⟨q23, hq23, h⟩ := Option.bind_eq_some_iff.mp h
  refine h_callO (As := [.int a1]) (r1 := none) (st := []) (H1 := (hpC q23, Q)) rfl rfl rfl rfl rfl rfl (m93_ok hq23) ?_
  replace h := Option.some.inj h; subst h
  exact h_vret rfl rfl
end Sm83
