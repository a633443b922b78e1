/-! the types are filled -/
/-- what the reference has read -/
def RdT (σ : Nat → Nd) (δ : Nat → Dd) (D N : Nat) (t : xSt) : Prop := (gI t 27 = nI D ∧ gI t 28 = nI N) ∧ RA σ N (gR t 8) (gR t 9) (gR t 10) (gR t 11) (gR t 13) (gR t 14) (gL t 2) (gL t 3) ∧ (∀ d, d < D → DR1 (δ d) d (gR t 2) (gR t 4) (gR t 6) (gR t 7) (gL t 0) (gL t 1) ∧ DR2 (δ d) d (gR t 3) (gR t 5)) ∧ ((gR t 2).length = 64 ∧ (gR t 3).length = 64 ∧ (gR t 4).length = 64 ∧ (gR t 5).length = 64 ∧ (gR t 6).length = 64 ∧ (gR t 7).length = 512 ∧ (gL t 0).length = 64 ∧ (gL t 1).length = 512) ∧ ((gR t 8).length = 8192 ∧ (gR t 9).length = 8192 ∧ (gR t 10).length = 8192 ∧ (gR t 11).length = 8192 ∧ (gR t 13).length = 8192 ∧ (gR t 14).length = 8192 ∧ (gL t 2).length = 8192 ∧ (gL t 3).length = 8192)
section Look3
variable {T : List Int32} {σ : Nat → Nd} {δ : Nat → Dd} {N K M k d f D : Nat} {S : xSt} {K9 : Int32 → xSt → Option (Int32 × xSt)} {t : xSt} {qr17 qr18 qr19 qr20 qr21 qr22 qr23 qr24 qr25 qr26 qr27 qr28 qr29 qr30 : List Int32} {qi31 qi32 qi33 qi34 qi35 qi36 : Int32} {ql4 ql5 ql6 ql7 : List Int64} {qz1 : Bool}
theorem nf_tbl : ∀ r, r < 24 → nf r 100 = hf r ∧ ng r 100 = kz r := by decide +kernel
theorem nd_eq {F E : Nat} {ps : List Int64} {lv : Int32} (hN : E ≤ N) (hnt : ∀ k, k < N → NdT σ k) (rt : Rt σ E F d ps lv) : ∀ k, F ≤ k → k < E → nD (σ k) = d := by
  intro k
  induction k using Nat.strongRecOn with
  | _ k ih =>
    intro h1 h2
    by_cases c : k = F
    · rw [c]; exact rt.2.2.1
    · have hp := rt.2.2.2.2 k (by omega) h2
      rcases hnt k (by omega) with q | ⟨j, q1, q2, q3, -⟩
      · omega
      · rw [q3]
        exact ih j q2 (by omega) (by omega)
theorem nodes_go (hr : RdT σ δ D N t) (wf : WF 0 T σ N [] [] 0) (hN : N < 4096) (hM : M < D) (hD : D ≤ 64) (hw : Dw δ σ D N M) : ∀ (m K f : Nat) (qr22 qr23 qr24 qr25 qr26 qr27 : List Int32) (ql6 ql7 : List Int64), K + m = dE (δ M) → dF (δ M) ≤ K → m < f → qr17.length = 64 → qr21.length = 65 → qr22.length = 4096 → qr23.length = 4096 → qr24.length = 4096 → qr25.length = 4096 → qr26.length = 4096 → qr27.length = 4096 → ql6.length = 4096 → ql7.length = 4096 → qr17.getD M 0 = lvl (dH (δ M)) → qr21.getD M 0 = nI (dF (δ M)) → TN σ N K qr22 qr23 qr24 qr25 qr26 qr27 ql6 ql7 → ∃ q22 q23 q24 q25 q26 q27 v6 v7, m206_167 K9 f (nI M) (nI (dE (δ M))) (nI K) (tyR t qr17 qr18 qr19 qr20 qr21 qr22 qr23 qr24 qr25 qr26 qr27 qr28 qr29 qr30 0 (nI (M + 1)) (nI K) qi34 qi35 qi36 ql4 ql5 ql6 ql7 false) = K9 (nI M + 1) (tyR t qr17 qr18 qr19 qr20 qr21 q22 q23 q24 q25 q26 q27 qr28 qr29 qr30 0 (nI (M + 1)) (nI (dE (δ M))) qi34 qi35 qi36 ql4 ql5 v6 v7 false) ∧ (q22.length = 4096 ∧ q23.length = 4096 ∧ q24.length = 4096 ∧ q25.length = 4096 ∧ q26.length = 4096 ∧ q27.length = 4096 ∧ v6.length = 4096 ∧ v7.length = 4096) ∧ TN σ N (dE (δ M)) q22 q23 q24 q25 q26 q27 v6 v7 := by
  obtain ⟨⟨e27, e28⟩, ra, rd, ⟨l2, l3, l4, l5, l6, l7, ll0, ll1⟩, ⟨l8, l9, l10, l11, l13, l14, ll2, ll3⟩⟩ := hr
  obtain ⟨⟨w1, w2, w3, w4, w5⟩, w6, w7, w8, rt⟩ := hw
  intro m
  induction m with
  | zero =>
    intro K f qr22 qr23 qr24 qr25 qr26 qr27 ql6 ql7 hK hF hf h17 h21 h22 h23 h24 h25 h26 h27 h6 h7 hv17 hv21 hn
    obtain ⟨f, rfl⟩ : ∃ f', f = f' + 1 := ⟨f - 1, by omega⟩
    have hKE : K = dE (δ M) := by omega
    subst hKE
    refine ⟨qr22, qr23, qr24, qr25, qr26, qr27, ql6, ql7, ?_, ⟨h22, h23, h24, h25, h26, h27, h6, h7⟩, hn⟩
    unfold m206_167
    rw [if_pos (by rw [leN (by omega) (by omega)]; omega)]
  | succ m ih =>
    intro K f qr22 qr23 qr24 qr25 qr26 qr27 ql6 ql7 hK hF hf h17 h21 h22 h23 h24 h25 h26 h27 h6 h7 hv17 hv21 hn
    obtain ⟨f, rfl⟩ : ∃ f', f = f' + 1 := ⟨f - 1, by omega⟩
    have hKN : K < N := by omega
    obtain ⟨r1, r2, r3, r4, r5, r6, r7, r8⟩ := ra K hKN
    obtain ⟨p1, p2, p3, p4, p5, p6⟩ := wf
    obtain ⟨no, nt, nc⟩ := p2 K hKN
    obtain ⟨o1, o2, o3, o4, o5, o6, o7⟩ := no
    have hcl := p3 K hKN (by simp)
    have hS := hcl.1
    obtain ⟨tb1, tb2⟩ := nf_tbl (nK (σ K)) (by omega)
    have hcnt : kc (nK (σ K)) = false → pcnt (pr σ) K N = ct (nK (σ K)) 100 := fun q => by
      have e := nc q
      rw [ite_self, hS] at e
      exact e
    obtain ⟨q22, q23, q24, q25, q26, q27, v6, v7, n1, n2, n3, n4, n5, n6, n7, n8, n9, n10⟩ := node_eq (t := t) (qr17 := qr17) (qr18 := qr18) (qr19 := qr19) (qr20 := qr20) (qr21 := qr21) (qr22 := qr22) (qr23 := qr23) (qr24 := qr24) (qr25 := qr25) (qr26 := qr26) (qr27 := qr27) (qr28 := qr28) (qr29 := qr29) (qr30 := qr30) (qi31 := 0) (qi34 := qi34) (qi35 := qi35) (qi36 := qi36) (ql4 := ql4) (ql5 := ql5) (ql6 := ql6) (ql7 := ql7) (qz1 := false) (M := M) h17 h21 h22 h23 h24 h25 h26 h27 h6 h7 p1 hN hKN (by omega) hn hv21 hF hv17 (fun k hk => (p2 k hk).1.1) (fun q => o3 (by rw [hS, tb1]; exact q)) o4 (fun q => o5 (by rw [hS, tb2]; exact q)) o6 hcnt (fun q => by
      rw [q]
      refine ⟨rt.1, ?_⟩
      rw [rt.2.2.2.1]
      cases dH (δ M) <;> rfl) (fun q => by
      have hp := rt.2.2.2.2 K (by omega) (by omega)
      rcases nt with q' | ⟨j, j1, j2, j3, j4, j5⟩
      · omega
      · exact ⟨j, j1, j2, j5⟩)
    have hD' : nD (σ K) = M := nd_eq (N := N) w2 (fun k hk => (p2 k hk).2.1) rt K hF (by omega)
    obtain ⟨u22, u23, u24, u25, u26, u27, x6, x7, z1, z2, z3⟩ := ih (K + 1) f q22 q23 q24 q25 q26 q27 v6 v7 (by omega) (by omega) (by omega) h17 h21 n2 n3 n4 n5 n6 n7 n8 n9 hv17 hv21 (n10 hD')
    refine ⟨u22, u23, u24, u25, u26, u27, x6, x7, ?_, z2, z3⟩
    have h207 := m207_eq (S := (tyR t qr17 qr18 qr19 qr20 qr21 qr22 qr23 qr24 qr25 qr26 qr27 qr28 qr29 qr30 0 (nI (M + 1)) (nI K) qi34 qi35 qi36 ql4 ql5 ql6 ql7 false)) (k := K) p1 (by omega) hKN (by rw [tyR_oi28]; exact e28) (by rw [tyR_or9]; exact l9) (fun j hj => by rw [tyR_or9]; exact (ra j hj).2.1)
    unfold m206_167
    rw [if_neg (by rw [leN (by omega) (by omega)]; omega), tyR_or8, xsGet_d (by omega) (by omega), bs, tyR_ol2, xlGet_d (by omega) (by omega), bs, tyR_ol3, xlGet_d (by omega) (by omega), bs, h207, bs, r1, r7, r8, n1, bs, nI_1, z1]
theorem params_go (hr : RdT σ δ D N t) (hN : N < 4096) (hM : M < D) (hD : D ≤ 64) (hw : Dw δ σ D N M) (hK : dF (δ M) = K) : ∀ (m i f : Nat) (qr19 qr20 : List Int32) (ql5 : List Int64), i + m = (dP (δ M)).length → m < f → qr19.length = 64 → qr20.length = 512 → ql5.length = 512 → qr21.length = 65 → qr19.getD M 0 = nI i → qr21.getD M 0 = nI K → (∀ e, e < i → ql5.getD (8 * M + e) 0 = (dP (δ M)).getD e 0 ∧ qr20.getD (8 * M + e) 0 = nI ((dT (δ M)).getD e 0)) → qr17.length = 64 → qr18.length = 64 → qr22.length = 4096 → qr23.length = 4096 → qr24.length = 4096 → qr25.length = 4096 → qr26.length = 4096 → qr27.length = 4096 → ql4.length = 64 → ql6.length = 4096 → ql7.length = 4096 → ∃ q19 q20 v5, m206_66 K9 f (nI M) (nI i) (tyR t qr17 qr18 qr19 qr20 qr21 qr22 qr23 qr24 qr25 qr26 qr27 qr28 qr29 qr30 0 (nI (M + 1)) (nI K) qi34 qi35 qi36 ql4 ql5 ql6 ql7 false) = m206_155 K9 (nI M) (nI (dE (δ M))) (tyR t qr17 qr18 q19 q20 qr21 qr22 qr23 qr24 qr25 qr26 qr27 qr28 qr29 qr30 0 (nI (M + 1)) (nI K) qi34 qi35 qi36 ql4 v5 ql6 ql7 false) ∧ (q19.length = 64 ∧ q20.length = 512 ∧ v5.length = 512) ∧ q19.getD M 0 = nI (dP (δ M)).length ∧ (∀ e, e < (dP (δ M)).length → v5.getD (8 * M + e) 0 = (dP (δ M)).getD e 0 ∧ q20.getD (8 * M + e) 0 = nI ((dT (δ M)).getD e 0)) ∧ (∀ d, ¬ d = M → q19.getD d 0 = qr19.getD d 0) ∧ ∀ j, (j < 8 * M ∨ 8 * M + 8 ≤ j) → v5.getD j 0 = ql5.getD j 0 ∧ q20.getD j 0 = qr20.getD j 0 := by
  obtain ⟨⟨e27, e28⟩, ra, rd, ⟨l2, l3, l4, l5, l6, l7, ll0, ll1⟩, ⟨l8, l9, l10, l11, l13, l14, ll2, ll3⟩⟩ := hr
  obtain ⟨⟨w1, w2, w3, w4, w5⟩, ⟨g1, g2, g3, g4⟩, w7, w8, rt⟩ := hw
  obtain ⟨r1, r2⟩ := rd M hM
  intro m
  induction m with
  | zero =>
    intro i f qr19 qr20 ql5 hi hf h19 h20 h5 h21 hv19 hv21 he h17 h18 h22 h23 h24 h25 h26 h27 h4 h6 h7
    obtain ⟨f, rfl⟩ : ∃ f', f = f' + 1 := ⟨f - 1, by omega⟩
    refine ⟨qr19, qr20, ql5, ?_, ⟨h19, h20, h5⟩, by rw [hv19, show i = (dP (δ M)).length by omega], fun e h => he e (by omega), fun d _ => rfl, fun j _ => ⟨rfl, rfl⟩⟩
    unfold m206_66
    rw [tyR_or4, xsGet_d (by omega) (by omega), bs, r1.2.1, if_pos (by rw [leN (by omega) (by omega)]; omega), tyR_oi27, e27, nI_1, tyR_oi28, e28]
    by_cases c : M + 1 = D
    · rw [if_pos (by rw [leN (by omega) (by omega)]; omega), w4 c]
    · rw [if_neg (by rw [leN (by omega) (by omega)]; omega), tyR_or5, xsGet_d (by omega) (by omega), bs, (rd (M + 1) (by omega)).2.2, w3 (by omega)]
  | succ m ih =>
    intro i f qr19 qr20 ql5 hi hf h19 h20 h5 h21 hv19 hv21 he h17 h18 h22 h23 h24 h25 h26 h27 h4 h6 h7
    obtain ⟨f, rfl⟩ : ∃ f', f = f' + 1 := ⟨f - 1, by omega⟩
    obtain ⟨y1, y2⟩ := r1.2.2.2.2 i (by omega)
    obtain ⟨y3, y4⟩ := g3 i (by omega)
    have hp := param_eq (t := t) (qr17 := qr17) (qr18 := qr18) (qr19 := qr19) (qr20 := qr20) (qr21 := qr21) (qr22 := qr22) (qr23 := qr23) (qr24 := qr24) (qr25 := qr25) (qr26 := qr26) (qr27 := qr27) (qr28 := qr28) (qr29 := qr29) (qr30 := qr30) (qi31 := 0) (qi34 := qi34) (qi35 := qi35) (qi36 := qi36) (ql4 := ql4) (ql5 := ql5) (ql6 := ql6) (ql7 := ql7) (qz1 := false) (y := (dP (δ M)).getD i 0) (ty := (dT (δ M)).getD i 0) (P := i) (M := M) (K := K) (by omega) (by omega) (by omega) h17 h18 h19 h20 h21 h22 h23 h24 h25 h26 h27 h4 h5 h6 h7 hv19 hv21 (fun e h q => g4 e i h (by omega) (by rw [← (he e h).1]; exact q)) y4 y3
    obtain ⟨q19, q20, v5, z1, z2, z3, z4, z5, z6⟩ := ih (i + 1) f (qr19.set M (nI (i + 1))) (qr20.set (8 * M + i) (nI ((dT (δ M)).getD i 0))) (ql5.set (8 * M + i) ((dP (δ M)).getD i 0)) (by omega) (by omega) (by rw [List.length_set]; exact h19) (by rw [List.length_set]; exact h20) (by rw [List.length_set]; exact h5) h21 (by rw [getD_setn (by omega), if_pos rfl]) hv21 (fun e h => by
      rw [getD_setn (by omega), getD_setn (by omega)]
      by_cases c : e = i
      · rw [if_pos (by omega), if_pos (by omega), c]
        exact ⟨rfl, rfl⟩
      · rw [if_neg (by omega), if_neg (by omega)]
        exact he e (by omega)) h17 h18 h22 h23 h24 h25 h26 h27 h4 h6 h7
    refine ⟨q19, q20, v5, ?_, z2, z3, z4, fun d hd => ?_, fun j hj => ?_⟩
    · unfold m206_66
      rw [tyR_or4, xsGet_d (by omega) (by omega), bs, r1.2.1, if_neg (by rw [leN (by omega) (by omega)]; omega), nI_8x, tyR_ol1, xlGet_d (by omega) (by omega), bs, tyR_or7, xsGet_d (by omega) (by omega), bs, y1, y2, hp, bs, nI_1, z1]
    · rw [z5 d hd, getD_setn (by omega), if_neg hd]
    · rw [(z6 j hj).1, (z6 j hj).2, getD_setn (by omega), getD_setn (by omega), if_neg (by omega), if_neg (by omega)]
      exact ⟨rfl, rfl⟩
end Look3
