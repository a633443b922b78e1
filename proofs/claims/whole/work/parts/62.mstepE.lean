/-! every node -/
section SimS
variable {σ : xG} {s t : xSt} {n0 n : Nat}
theorem ck_mod {r : Nat} (h : r = 16 ∨ r = 17 ∨ r = 19) : ck r = 14 ∨ ck r = 15 ∨ ck r = 17 := by
  rcases h with rfl | rfl | rfl <;> decide
theorem ck_tail {k : Nat} (h : yTail σ k) : ck (yk σ k) = 8 ∨ ck (yk σ k) = 9 ∨ ck (yk σ k) = 10 ∨ ck (yk σ k) = 16 := by
  rcases h with (h | h) | (h | h) | (h | h) | h <;> rw [h] <;> decide
theorem ck_col {k : Nat} (h : yCol σ k) : ck (yk σ k) ≤ 7 ∨ ck (yk σ k) = 11 ∨ ck (yk σ k) = 12 ∨ ck (yk σ k) = 13 ∨ ck (yk σ k) = 18 := by
  rcases h with h | h | h | h | h
  · obtain ⟨h1, h2⟩ := h
    unfold ck
    repeat' split
    all_goals omega
  · rw [h]; decide
  · rw [h]; decide
  · rw [h]; decide
  · rw [h]; decide
theorem ye_part {k i : Nat} (hP : SP σ) (hk : k < yN σ) (h : yCol σ k) (hi : i < yn σ k) : ye σ (yo σ k i) = ye σ k := by
  have hs := hP.1 k hk
  rcases h with h | h | h
  · have := hs.2.2.2.2.1 h
    exact (this.2.2 i (by omega)).2
  · have := hs.2.2.2.2.2.2.2.2.1 h
    exact this.2.2.2.2 i (by omega)
  · exact ((hs.2.2.2.2.2.2.2.2.2.1 h).2.2.2 i hi).2
theorem ye_tail {k : Nat} (hP : SP σ) (hk : k < yN σ) (h : yTail σ k) : ye σ (yo σ k 0) = ye σ k ∧ 2 ≤ yn σ k := by
  have hs := hP.1 k hk
  rcases h with h | h | h | h
  · have := hs.2.2.2.2.2.1 h
    exact ⟨this.2.2.2.2 0 (by omega), by omega⟩
  · have := hs.2.2.2.2.2.2.1 h
    exact ⟨this.2.2.2.1, by omega⟩
  · have := hs.2.2.2.2.2.2.2.1 h
    exact ⟨this.2.2.2.2.2.1, by omega⟩
  · have := hs.2.2.2.2.2.2.2.2.2.2.2.2.1 h
    exact ⟨this.2.2.2.2.1, by omega⟩
theorem ye_mod {k : Nat} (hP : SP σ) (hk : k < yN σ) (h : yMod σ k) : ye σ (yo σ k 0) = ye σ k ∧ yn σ k = 1 := by
  have hs := hP.1 k hk
  rcases h with h | h | h
  · have := hs.2.2.2.2.2.2.2.2.2.2.1 h
    exact ⟨this.2.2.2, this.1⟩
  · have := hs.2.2.2.2.2.2.2.2.2.2.2.1 h
    exact ⟨this.2.2.2, this.1⟩
  · have := hs.2.2.2.2.2.2.2.2.2.2.2.2.2 h
    exact ⟨this.2.2, this.1⟩
theorem stepE (hP : SP σ) (hC : SC σ s (gZ s 6)) (hR : SR σ t) (hn0 : n0 ≤ 64) (hE : IHE σ s t n0 n) (hV : IHV σ s t n0 n) : IHE σ s t n0 (n + 1) := by
  intro k w ns ps vs os Sl Hd Tl hds tls hd vars wn wp wb ops cb rb cl md L LR st F X hf hh ha hn h1 h2 h3
  have hf' := hf
  have ha' := ha
  have hn' := hn
  obtain ⟨f1, f2, f3, f4, f5, f6⟩ := hf'
  obtain ⟨g1, g2, g3, g4, g5, g6, g7⟩ := ha'
  obtain ⟨q1, q2, q3, q4, q5, q6, q7, q8, q9, q10, q11, q12⟩ := hn'
  have hyf := yf_lt hP f1
  have hN := hP.2.2.2.2.2.1
  have hs := hP.1 k f1
  have h24 := hs.1.2.2.2.1
  have hck2 : ck (yk σ k) < 100 := by
    rcases ck_lt (yk σ k) with h | h
    · exact h
    · have := hs.1.1
      omega
  have hkd := sc_kind hP hC f1
  by_cases c0 : yk σ k = 0
  · refine e_leaf hP hn0 hV hf hh ha hn h1 h2 h3 (v := yv σ k) (r := yv σ k) ?_ ?_ ?_
    · unfold vr
      rw [hs.2.1 c0, if_pos rfl]
    · rw [c0] at hkd
      rw [mc120 (κ := 24) (by omega) (by omega) (by omega) hkd, if_neg (by decide : ¬ 24 = 19), if_pos rfl, xsAt_n (by omega), (hC.1 k f1).2.2.2.1 c0]
    · exact mr214_0 hP hR f1 (by omega) g7 c0
  by_cases c1 : yk σ k = 1
  · obtain ⟨v1, v2⟩ := hs.2.2.1 c1
    refine e_leaf hP hn0 hV hf hh ha hn h1 h2 h3 (v := Sl.getD (cb + yl σ k) 0) (r := vars.getD (rb + yl σ k) 0) ?_ ?_ ?_
    · rw [v2]
      exact f3 _ v1
    · rw [c1] at hkd
      rw [mc120 (κ := 25) (by omega) (by omega) (by omega) hkd, if_neg (by decide : ¬ 25 = 19), if_neg (by decide : ¬ 25 = 24), if_pos rfl, xsAt_n (xs := gP s (gZ s 6) 2) (by omega), (hC.1 k f1).2.2.2.2.1 c1, nI_add, xsAt_n (by omega)]
    · exact mr214_1 hP hR f1 (by omega) g7 c1 (by omega) g3
  by_cases c2 : yk σ k = 2
  · refine e_leaf hP hn0 hV hf hh ha hn h1 h2 h3 (v := 0) (r := 0) ?_ ?_ ?_
    · unfold vr
      rw [hs.2.2.2.1 c2, if_neg (by decide), if_pos rfl]
      exact ⟨0, by omega, rfl, rfl⟩
    · rw [c2] at hkd
      rw [mc120 (κ := 19) (by omega) (by omega) (by omega) hkd, if_pos rfl]
    · exact mr214_2 hP hR f1 (by omega) g7 c2
  by_cases cm : yMod σ k
  · obtain ⟨m1, m2⟩ := ye_mod hP f1 cm
    have hcm := ck_mod cm
    refine e_node hP hC hR hn0 hE hf hh ha hn h1 h2 h3 (ns2 := ns) (ps2 := ps) (by omega) (by omega) m1 ?_ ?_ (by omega) q8
    · rw [mc121 (by omega) (by omega) (by omega) hck2 hkd, if_neg (by omega), if_pos hcm]
    · exact ⟨⟨f1, f2⟩, cb, f3, by omega, by omega, Or.inl ⟨cm, rfl, rfl, rfl, by rw [← f4, ← f5]; exact f6⟩⟩
  by_cases ct : yTail σ k
  · obtain ⟨m1, m2⟩ := ye_tail hP f1 ct
    have hct := ck_tail ct
    have hk1 := (hs.1.2.2.2.2 0 (by omega)).1
    have hp := yf_part hP f1 (i := 0) (by omega)
    have hp' : yf σ (yo σ k 0) = yf σ k + 1 := by rw [hp, show yo σ k 0 = k + 1 from rfl]; omega
    have hen := sc_end hP hC hk1
    rw [hp'] at hen
    refine e_node hP hC hR hn0 hE hf hh ha hn h1 h2 h3 (ns2 := nI (yf σ k) :: ns) (ps2 := nI (yf σ k + (yo σ k 1 - k)) :: ps) (by omega) (by omega) m1 ?_ ?_ (by rw [List.length_cons]; omega) (by rw [List.length_cons, List.length_cons, q8])
    · rw [mc121 (by omega) (by omega) (by omega) hck2 hkd, if_pos hct, if_pos rfl, hen, show yf σ k + (yo σ k 1 - k) = yf σ k + 1 + yz σ (yo σ k 0) from by show yf σ k + (k + 1 + yz σ (k + 1) - k) = yf σ k + 1 + yz σ (k + 1); omega]
    · exact ⟨⟨f1, f2⟩, cb, f3, by omega, by omega, Or.inr ⟨ns, ps, rfl, Or.inl ⟨ct, rfl, rfl, rfl, rfl, by rw [← f4, ← f5]; exact f6⟩⟩⟩
  have cc : yCol σ k := by
    have := hs.1.1
    by_cases z1 : yOp σ k
    · exact Or.inl z1
    by_cases z2 : yk σ k = 13
    · exact Or.inr (Or.inl z2)
    refine Or.inr (Or.inr ?_)
    unfold yMod at cm
    unfold yTail yIf yLet yCase at ct
    unfold yOp at z1
    unfold yCall
    omega
  by_cases cn : yn σ k = 0
  · have cl0 : yCall σ k := by
      rcases cc with c | c | c
      · have := (hs.2.2.2.2.1 c).1
        omega
      · have := (hs.2.2.2.2.2.2.2.2.1 c).1
        omega
      · exact c
    exact e_call0 hP hC hR hn0 hE hf hh ha hn h1 h2 h3 cl0 cn
  · have hcc := ck_col cc
    have hk1 := (hs.1.2.2.2.2 0 (by omega)).1
    have hp := yf_part hP f1 (i := 0) (by omega)
    have hp' : yf σ (yo σ k 0) = yf σ k + 1 := by rw [hp, show yo σ k 0 = k + 1 from rfl]; omega
    have hen := sc_end hP hC hk1
    rw [hp'] at hen
    have hyz : 2 ≤ yz σ k := by
      have e1 := yo_ge hP f1 (yn σ k) (Nat.le_refl _)
      have e2 := hs.1.2.2.1
      omega
    have hyz2 : yz σ k < 2 ^ 20 := by
      have e2 := hP.2.2.2.2.2.2.2 k f1
      omega
    refine e_node hP hC hR hn0 hE hf hh ha hn h1 h2 h3 (ns2 := nI (yf σ k) :: ns) (ps2 := nI (yf σ k + (yo σ k 1 - k)) :: ps) (by rcases cc with c | c | c; exact c.1; omega; rcases c with c | c | c <;> omega) cn (ye_part hP f1 cc (by omega)) ?_ ?_ (by rw [List.length_cons]; omega) (by rw [List.length_cons, List.length_cons, q8])
    · rw [mc121 (by omega) (by omega) (by omega) hck2 hkd, if_neg (by omega), if_neg (by omega), if_neg (by rw [nI_ne1 (by omega)]; exact id), sc_end hP hC f1, if_neg (by rw [leN (by omega) (by omega)]; omega), hen, show yf σ k + (yo σ k 1 - k) = yf σ k + 1 + yz σ (yo σ k 0) from by show yf σ k + (k + 1 + yz σ (k + 1) - k) = yf σ k + 1 + yz σ (k + 1); omega]
    · exact ⟨⟨f1, f2⟩, cb, f3, by omega, by omega, Or.inr ⟨ns, ps, rfl, Or.inr (Or.inl ⟨cc, by omega, rfl, rfl, rfl, vs, os, ⟨rfl, rfl⟩, by rw [← f4, ← f5]; exact f6⟩)⟩⟩
end SimS
