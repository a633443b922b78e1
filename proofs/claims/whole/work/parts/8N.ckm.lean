/-! our checker: come and leave, method by method -/
section CkM
variable {T : List Int32} {σ : Nat → Nd} {δ : Nat → Dd} {N K M k d f D o i p e c r : Nat} {s : xSt} {z : Bool} {g : Nat → List Int32} {nn : List Int64} {r4 r5 r6 r7 : List Int32} {i2 i3 : Int32} {S : xSt}
theorem ck13_0 : m13 (ckC s z g nn r4 r5 r6 r7 0 i3) = some (false, (ckC s z g nn r4 r5 r6 r7 0 i3)) := by
  unfold m13
  rw [ckC_i2, if_pos rfl]
theorem ck13_f (h : ¬ i2 = 0) : m13 (ckC s z g nn r4 r5 r6 r7 i2 i3) = some (true, (ckC s z g nn r4 r5 r6 r7 i2 i3)) := by
  unfold m13
  rw [ckC_i2, if_neg h]
theorem ck14 {a b : Int32} : m14 a b (ckC s z g nn r4 r5 r6 r7 0 i3) = some (ckC s z g nn r4 r5 r6 r7 a b) := by
  unfold m14
  rw [ckC_i2, if_pos rfl, ckC_si2, ckC_si3]
theorem m102_85_eq {a b l : List Int32} {x : Int32} (h4 : a.length < 4097) (h5 : b.length < 4097) (h6 : l.length < 4097) : m102_85 x (ckC s z g nn a.reverse b.reverse l.reverse r7 i2 i3) = some (ckC s z g nn ((x :: a).reverse) (((0 : Int32) :: b).reverse) (((0 : Int32) :: l).reverse) r7 i2 i3) := by
  unfold m102_85
  rw [ckC_r4, ckC_r5, ckC_r6, xsPush_r h4, xsPush_r h5, xsPush_r h6, ckC_sr4, ckC_sr5, ckC_sr6]
theorem ckAt {j : Nat} (hz : gZ s 5 = z) (hc : c < 2 ^ 30) : xsAt (gP (ckC s z g nn r4 r5 r6 r7 i2 i3) (gZ (ckC s z g nn r4 r5 r6 r7 i2 i3) 5) j) (nI c) = (g j).getD c 0 := by
  rw [ckC_oz5, hz, ckC_gP, xsAt_n (by omega)]
theorem m23_eq (hr : r < 100) : m23 (nI r) S = some (decide (r = 12 ∨ r = 13 ∨ r = 18), S) := by
  unfold m23
  simp (disch := omega) only [eqL_12, eqL_13, eqL_18]
  by_cases c1 : r = 12
  · rw [if_pos c1, decide_eq_true (Or.inl c1)]
  · rw [if_neg c1]
    by_cases c2 : r = 13
    · rw [if_pos c2, decide_eq_true (Or.inr (Or.inl c2))]
    · rw [if_neg c2]
      by_cases c3 : r = 18
      · rw [if_pos c3, decide_eq_true (Or.inr (Or.inr c3))]
      · rw [if_neg c3, decide_eq_false (by omega)]
theorem ck_tbl : ∀ r, r < 24 → ¬ ck r = 22 ∧ ¬ ck r = 23 ∧ (ck r = 25 → r = 1) ∧ ck r ≤ 25 ∧ decide (ck r = 12 ∨ ck r = 13 ∨ ck r = 18) = kc r ∧ (ck r = 18 ↔ r = 23) := by decide +kernel
theorem enter_leaf (hz : gZ s 5 = z) (hc : c < 2 ^ 30) (hr : r ≤ 23) (hk : (g 0).getD c 0 = nI (ck r)) (hkc : kc r = false) (h1 : r = 1 → ¬ (g 2).getD c 0 = -1) : m102 (nI c) (ckC s z g nn r4 r5 r6 r7 i2 i3) = m102_85 (nI c) (ckC s z g nn r4 r5 r6 r7 i2 i3) := by
  obtain ⟨t1, t2, t3, t4, t5, t6⟩ := ck_tbl r (by omega)
  have h46 : m102_46 (nI c) (nI (ck r)) (ckC s z g nn r4 r5 r6 r7 i2 i3) = m102_85 (nI c) (ckC s z g nn r4 r5 r6 r7 i2 i3) := by
    unfold m102_46
    rw [m23_eq (by omega), bs, t5, hkc, if_neg ff, if_neg (by rw [eqL_22 (by omega)]; exact t1), if_neg (by rw [eqL_23 (by omega)]; exact t2)]
  unfold m102
  rw [ckAt (j := 0) hz hc, ckAt (j := 2) hz hc, hk, h46]
  by_cases c1 : r = 1
  · rw [if_neg (h1 c1), ite_self]
  · rw [if_neg (by rw [eqL_25 (by omega)]; exact fun q => c1 (t3 q))]
theorem enter_bad (hz : gZ s 5 = z) (hc : c < 2 ^ 30) (hk : (g 0).getD c 0 = nI (ck 1)) (h1 : (g 2).getD c 0 = -1) : m102 (nI c) (ckC s z g nn r4 r5 r6 r7 0 i3) = m102_85 (nI c) (ckC s z g nn r4 r5 r6 r7 5 ((g 1).getD c 0)) := by
  unfold m102
  rw [ckAt (j := 0) hz hc, ckAt (j := 2) hz hc, ckAt (j := 1) hz hc, hk, h1, if_pos (by decide), if_pos rfl, ck14, bs]
theorem enter_call (hz : gZ s 5 = z) (hc : c < 2 ^ 30) (hr : r ≤ 23) (hk : (g 0).getD c 0 = nI (ck r)) (hkc : kc r = true) : m102 (nI c) (ckC s z g nn r4 r5 r6 r7 i2 i3) = (m103 (nI c) (ckC s z g nn r4 r5 r6 r7 i2 i3)).bind fun q => m102_85 (nI c) q := by
  obtain ⟨t1, t2, t3, t4, t5, t6⟩ := ck_tbl r (by omega)
  have hr1 : ¬ r = 1 := fun q => by rw [q] at hkc; exact absurd hkc (by decide)
  unfold m102
  rw [ckAt (j := 0) hz hc, hk, if_neg (by rw [eqL_25 (by omega)]; exact fun q => hr1 (t3 q))]
  unfold m102_46
  rw [m23_eq (by omega), bs, t5, hkc, if_pos rfl]
theorem enter_def (hz : gZ s 5 = z) (hc : c < 2 ^ 30) {b : Bool} (hk : (g 0).getD c 0 = nI (if b = true then 23 else 22)) : m102 (nI c) (ckC s z g nn r4 r5 r6 r7 i2 i3) = (m105 ((g 2).getD c 0) (ckC s z g nn r4 r5 r6 r7 i2 i3)).bind fun q => m102_85 (nI c) q := by
  unfold m102
  rw [ckAt (j := 0) hz hc, hk, if_neg (by cases b <;> decide)]
  unfold m102_46 m102_73
  rw [m23_eq (by cases b <;> decide), bs, if_neg (show ¬ decide ((if b = true then 23 else 22) = 12 ∨ (if b = true then 23 else 22) = 13 ∨ (if b = true then 23 else 22) = 18) = true by cases b <;> decide)]
  rw [ckAt (j := 2) hz hc]
  cases b
  · rw [if_pos (by decide)]
  · rw [if_neg (by decide), if_pos (by decide)]
theorem m60_gen {y : Int64} {b : Bool} (hD : (gP S b 6).length = D) (hD64 : D ≤ 64) (hnn : (gN S b).length = 64) : m60 b y S = some (dfx (gN S b) y 0 D, S) := by
  have hg : ∀ (m i f : Nat), i + m = D → m < f → (b = true → m60t_2 f y (nI i) S = some (dfx (gN S b) y i m, S)) ∧ (b = false → m60f_2 f y (nI i) S = some (dfx (gN S b) y i m, S)) := by
    intro m
    induction m with
    | zero =>
      intro i f hi hf
      obtain ⟨f, rfl⟩ : ∃ f', f = f' + 1 := ⟨f - 1, by omega⟩
      constructor
      · intro hb
        subst hb
        unfold m60t_2
        rw [hD, if_pos (by rw [leN (by omega) (by omega)]; omega)]
        rfl
      · intro hb
        subst hb
        unfold m60f_2
        rw [hD, if_pos (by rw [leN (by omega) (by omega)]; omega)]
        rfl
    | succ m ih =>
      intro i f hi hf
      obtain ⟨f, rfl⟩ : ∃ f', f = f' + 1 := ⟨f - 1, by omega⟩
      obtain ⟨t1, t2⟩ := ih (i + 1) f (by omega) (by omega)
      have e : dfx (gN S b) y i (m + 1) = if (gN S b).getD i 0 = y then nI i else dfx (gN S b) y (i + 1) m := rfl
      constructor
      · intro hb
        rw [e]
        have t1 := t1 hb
        subst hb
        unfold m60t_2
        rw [hD, hnn, if_neg (by rw [leN (by omega) (by omega)]; omega), if_neg (by rw [leN (by decide) (by omega)]; omega), xlGet_d (by omega) (by omega), bs, nI_1, t1]
        by_cases c : (gN S true).getD i 0 = y
        · rw [if_pos c, if_pos ((lg_cmp_eq _ _).mpr c)]
        · rw [if_neg c, if_neg (fun q => c ((lg_cmp_eq _ _).mp q))]
      · intro hb
        rw [e]
        have t2 := t2 hb
        subst hb
        unfold m60f_2
        rw [hD, hnn, if_neg (by rw [leN (by omega) (by omega)]; omega), if_neg (by rw [leN (by decide) (by omega)]; omega), xlGet_d (by omega) (by omega), bs, nI_1, t2]
        by_cases c : (gN S false).getD i 0 = y
        · rw [if_pos c, if_pos ((lg_cmp_eq _ _).mpr c)]
        · rw [if_neg c, if_neg (fun q => c ((lg_cmp_eq _ _).mp q))]
  unfold m60
  cases b
  · show m60f y _ = _
    unfold m60f
    exact (hg D 0 1000000 (by omega) (by omega)).2 rfl
  · show m60t y _ = _
    unfold m60t
    exact (hg D 0 1000000 (by omega) (by omega)).1 rfl
theorem m103_81_eq {x : Int32} : m103_81 x (ckC s z g nn r4 r5 r6 r7 0 i3) = some (ckC s z g nn r4 r5 r6 r7 5 x) := by
  unfold m103_81
  rw [ck14, bs]
/-- a definition is looked up -/
theorem res_ok (hz : gZ s 5 = z) (hT : gR s 0 = T) (wf : WF 0 T σ N [] [] 0) (hN : N < 4096) (hD : D ≤ 64) (hk : k < N) (hkc : kc (nK (σ k)) = true) (hd : d < 64) (h0 : (g 0).getD (k + d + 1) 0 = nI (ck (nK (σ k)))) (h2 : (g 2).getD (k + d + 1) 0 = nQ (σ k)) (hdk : ∀ j, k ≤ j → j < k + nZ (σ k) → nD (σ j) = d) (h4 : ∀ j, k ≤ j → j < k + nZ (σ k) → (g 4).getD (j + d + 1) 0 = nI (j + d + 1 + nZ (σ j))) (h6 : (g 6).length = D) (hnn : nn.length = 64) (hdc : ∀ e, e < D → DC1 (δ e) e g nn ∧ (dP (δ e)).length ≤ 8 ∧ dF (δ e) + e < 8192) (hw : ∀ e, e < D → Dh δ e) : (∃ e, e < D ∧ dN (δ e) = nA (σ k) ∧ dH (δ e) = decide (nK (σ k) = 23) ∧ (dP (δ e)).length = pcnt (pr σ) k N ∧ m103 (nI (k + d + 1)) (ckC s z g nn r4 r5 r6 r7 0 i3) = some (ckC s z (bUp g 2 ((g 2).set (k + d + 1) (nI e))) nn r4 r5 r6 r7 0 i3)) ∨ ((∀ e, e < D → dN (δ e) = nA (σ k) → ¬ (dH (δ e) = decide (nK (σ k) = 23) ∧ (dP (δ e)).length = pcnt (pr σ) k N)) ∧ m103 (nI (k + d + 1)) (ckC s z g nn r4 r5 r6 r7 0 i3) = some (ckC s z g nn r4 r5 r6 r7 5 (nQ (σ k)))) := by
  have hno := (wf.2.1 k hk).1
  have hcl := (wf.2.2.1 k hk (by simp)).1
  have hr := hno.1
  obtain ⟨t1, t2, t3, t4, t5, t6⟩ := ck_tbl (nK (σ k)) (by omega)
  have hna := (hno.2.2.2.2.2.2 (by rw [hcl]; exact (kc_tbl _ (by omega) hkc).2.2.2.2.2.2.2.2.2.2.2.2.2.2.1)).1
  have h37 := hna (ckC s z g nn r4 r5 r6 r7 0 i3) (by rw [ckC_or0]; exact hT)
  have h60 := m60_gen (S := (ckC s z g nn r4 r5 r6 r7 0 i3)) (b := z) (y := nA (σ k)) (D := D) (by rw [ckC_gP]; exact h6) hD (by rw [ckC_gN]; exact hnn)
  rw [ckC_gN] at h60
  have hpl := pcnt_le (pr σ) k N
  have hgo : m103 (nI (k + d + 1)) (ckC s z g nn r4 r5 r6 r7 0 i3) = m103_45 (nI (k + d + 1)) (nQ (σ k)) (dfx nn (nA (σ k)) 0 D) (if nK (σ k) = 23 then 23 else 22) (ckC s z g nn r4 r5 r6 r7 0 i3) := by
    unfold m103
    rw [ckAt (j := 2) hz (by omega), h2, h37, bs, ckC_oz5, hz, h60, bs, ckAt (j := 0) hz (by omega), h0]
    by_cases c : nK (σ k) = 23
    · rw [if_pos (by rw [eqL_18 (by omega)]; exact t6.mpr c), if_pos c]
    · rw [if_neg (by rw [eqL_18 (by omega)]; exact fun q => c (t6.mp q)), if_neg c]
  rw [hgo]
  rcases dfx_spec nn (nA (σ k)) D 0 with ⟨e1, e2⟩ | ⟨e, -, e2, e3, e4⟩
  · refine Or.inr ⟨fun e he hq => ?_, ?_⟩
    · refine absurd ?_ (e2 e (by omega) (by omega))
      rw [(hdc e he).1.2.2.2.2.1]
      exact hq
    · rw [e1]
      unfold m103_45
      rw [if_pos rfl, m103_81_eq]
  · have heD : e < D := by omega
    obtain ⟨⟨c1, c2, c3, c4, c5, c6, c7⟩, c8, c9⟩ := hdc e heD
    have hN' : dN (δ e) = nA (σ k) := by rw [← c5]; exact e4
    have huni : ∀ e', e' < D → dN (δ e') = nA (σ k) → e' = e := fun e' he' hq => by
      by_cases q1 : e' < e
      · exact absurd (hq.trans hN'.symm) ((hw e heD).2 e' q1)
      · by_cases q2 : e < e'
        · exact absurd (hN'.trans hq.symm) ((hw e' he').2 e q2)
        · omega
    obtain ⟨c, m1, m2⟩ := m104_eq (s := s) (z := z) (g := g) (nn := nn) (r4 := r4) (r5 := r5) (r6 := r6) (r7 := r7) (i2 := 0) (i3 := i3) (d := d) hz wf hN hD hk hdk hd h4
    have h45 : m103_45 (nI (k + d + 1)) (nQ (σ k)) (nI e) (if nK (σ k) = 23 then 23 else 22) (ckC s z g nn r4 r5 r6 r7 0 i3) = if dH (δ e) = decide (nK (σ k) = 23) ∧ (dP (δ e)).length = pcnt (pr σ) k N then some (ckC s z (bUp g 2 ((g 2).set (k + d + 1) (nI e))) nn r4 r5 r6 r7 0 i3) else some (ckC s z g nn r4 r5 r6 r7 5 (nQ (σ k))) := by
      unfold m103_45
      rw [if_neg (by rw [nI_ne1 (by omega)]; exact id), ckAt (j := 6) hz (by omega), c2, ckAt (j := 0) hz (by omega), c6, ckAt (j := 8) hz (by omega), c3]
      by_cases q1 : dH (δ e) = decide (nK (σ k) = 23)
      · rw [if_pos (by
          rw [q1]
          by_cases q : nK (σ k) = 23
          · rw [if_pos q, decide_eq_true q]; rfl
          · rw [if_neg q, decide_eq_false q]; rfl), m1, bs]
        by_cases q2 : (dP (δ e)).length = pcnt (pr σ) k N
        · rw [if_pos (show nI (dP (δ e)).length = nI c by rw [eqN (by omega) (by omega)]; omega), if_pos ⟨q1, q2⟩]
          rw [ckC_oz5, hz, ckC_gP, xsSet_n (by omega), ckC_sP]
        · rw [if_neg (show ¬ nI (dP (δ e)).length = nI c by rw [eqN (by omega) (by omega)]; omega), if_neg (fun q => q2 q.2), m103_81_eq]
      · have hne : ¬ nI (if dH (δ e) = true then 23 else 22) = (if nK (σ k) = 23 then 23 else 22) := by
          intro q
          apply q1
          revert q
          by_cases q : nK (σ k) = 23
          · rw [if_pos q, decide_eq_true q]
            cases dH (δ e) <;> decide
          · rw [if_neg q, decide_eq_false q]
            cases dH (δ e) <;> decide
        rw [if_neg hne, if_neg (fun q => q1 q.1), m103_81_eq]
    rw [e3, h45]
    by_cases q : dH (δ e) = decide (nK (σ k) = 23) ∧ (dP (δ e)).length = pcnt (pr σ) k N
    · rw [if_pos q]
      exact Or.inl ⟨e, heD, hN', q.1, q.2, rfl⟩
    · rw [if_neg q]
      exact Or.inr ⟨fun e' he' hq => by rw [huni e' he' hq]; exact q, rfl⟩
theorem m107_eq {a : Nat} {st : List Int32} (hz : gZ s 5 = z) (ha : a < 2 ^ 30) (he : e < 2 ^ 30) (hc : c < 2 ^ 30) (hl : st.length < 2 ^ 30) (h4 : (g 4).getD a 0 = nI e) : m107 (nI c) (ckC s z g nn ((nI a :: st).reverse) r5 r6 r7 i2 i3) = some (decide (e = c + 1), (ckC s z g nn ((nI a :: st).reverse) r5 r6 r7 i2 i3)) := by
  unfold m107
  rw [ckC_oz5, hz, ckC_gP, ckC_r4, xsTop_r (by omega), xsAt_n (by omega), h4, nI_1]
  by_cases q : e = c + 1
  · rw [if_pos (by rw [q]), decide_eq_true q]
  · rw [if_neg (by rw [eqN (by omega) (by omega)]; exact q), decide_eq_false q]
end CkM
