/-! the types are filled, a definition at a time -/
section Look4
variable {T : List Int32} {σ : Nat → Nd} {δ : Nat → Dd} {N K M k d f D : Nat} {S : xSt} {t : xSt} {qr28 qr29 qr30 : List Int32} {qi34 qi35 qi36 : Int32}
/-- where definition M begins -/
def bgn (δ : Nat → Dd) (N M : Nat) : Nat := if M = 0 then 0 else dE (δ (M - 1))
theorem bgn_eq (hw : ∀ d, d < D → Dw δ σ D N d) (hM : M < D) : bgn δ N M = dF (δ M) := by
  unfold bgn
  by_cases c : M = 0
  · rw [if_pos c]
    exact ((hw M hM).1.2.2.2.2 c).symm
  · rw [if_neg c, (hw (M - 1) (by omega)).1.2.2.1 (by omega)]
    congr 2
    omega
theorem looks_go (hr : RdT σ δ D N t) (wf : WF 0 T σ N [] [] 0) (hN : N < 4096) (hD : D ≤ 64) (h0 : D = 0 → N = 0) (hw : ∀ d, d < D → Dw δ σ D N d) : ∀ (m M f : Nat) (qr17 qr18 qr19 qr20 qr21 qr22 qr23 qr24 qr25 qr26 qr27 : List Int32) (ql4 ql5 ql6 ql7 : List Int64) (qz1 : Bool), M + m = D → m < f → (qr17.length = 64 ∧ qr18.length = 64 ∧ qr19.length = 64 ∧ qr20.length = 512 ∧ qr21.length = 65 ∧ qr22.length = 4096 ∧ qr23.length = 4096 ∧ qr24.length = 4096 ∧ qr25.length = 4096 ∧ qr26.length = 4096 ∧ qr27.length = 4096 ∧ ql4.length = 64 ∧ ql5.length = 512 ∧ ql6.length = 4096 ∧ ql7.length = 4096) → TD δ M qr17 qr18 qr19 qr20 qr21 ql4 ql5 → TN σ N (bgn δ N M) qr22 qr23 qr24 qr25 qr26 qr27 ql6 ql7 → ∃ q17 q18 q19 q20 q21 q22 q23 q24 q25 q26 q27 v4 v5 v6 v7 y1, m206_9 f (nI M) (tyR t qr17 qr18 qr19 qr20 qr21 qr22 qr23 qr24 qr25 qr26 qr27 qr28 qr29 qr30 0 (nI M) (nI (bgn δ N M)) qi34 qi35 qi36 ql4 ql5 ql6 ql7 qz1) = (m187 (tyR t q17 q18 q19 q20 q21 q22 q23 q24 q25 q26 q27 qr28 qr29 qr30 0 (nI D) (nI N) qi34 qi35 qi36 v4 v5 v6 v7 y1)) ∧ (q17.length = 64 ∧ q18.length = 64 ∧ q19.length = 64 ∧ q20.length = 512 ∧ q21.length = 65 ∧ q22.length = 4096 ∧ q23.length = 4096 ∧ q24.length = 4096 ∧ q25.length = 4096 ∧ q26.length = 4096 ∧ q27.length = 4096 ∧ v4.length = 64 ∧ v5.length = 512 ∧ v6.length = 4096 ∧ v7.length = 4096) ∧ TD δ D q17 q18 q19 q20 q21 v4 v5 ∧ TN σ N N q22 q23 q24 q25 q26 q27 v6 v7 := by
  have hr' := hr
  obtain ⟨⟨e27, e28⟩, ra, rd, ⟨l2, l3, l4, l5, l6, l7, ll0, ll1⟩, ⟨l8, l9, l10, l11, l13, l14, ll2, ll3⟩⟩ := hr
  intro m
  induction m with
  | zero =>
    intro M f qr17 qr18 qr19 qr20 qr21 qr22 qr23 qr24 qr25 qr26 qr27 ql4 ql5 ql6 ql7 qz1 hM hf hl td tn
    obtain ⟨f, rfl⟩ : ∃ f', f = f' + 1 := ⟨f - 1, by omega⟩
    have hMD : M = D := by omega
    subst hMD
    have hbN : bgn δ N M = N := by
      unfold bgn
      by_cases c : M = 0
      · rw [if_pos c]
        exact (h0 c).symm
      · rw [if_neg c]
        exact (hw (M - 1) (by omega)).1.2.2.2.1 (by omega)
    rw [hbN] at tn ⊢
    refine ⟨qr17, qr18, qr19, qr20, qr21, qr22, qr23, qr24, qr25, qr26, qr27, ql4, ql5, ql6, ql7, qz1, ?_, hl, td, tn⟩
    unfold m206_9
    rw [tyR_oi27, e27, if_pos (by rw [leN (by omega) (by omega)]; omega)]
    have e : ∀ o : Option (Int32 × xSt), (o.bind fun q2 => some (q2.1, q2.2)) = o := fun o => by cases o <;> rfl
    exact e _
  | succ m ih =>
    intro M f qr17 qr18 qr19 qr20 qr21 qr22 qr23 qr24 qr25 qr26 qr27 ql4 ql5 ql6 ql7 qz1 hM hf hl td tn
    obtain ⟨f, rfl⟩ : ∃ f', f = f' + 1 := ⟨f - 1, by omega⟩
    obtain ⟨h17, h18, h19, h20, h21, h22, h23, h24, h25, h26, h27, h4, h5, h6, h7⟩ := hl
    have hMD : M < D := by omega
    have hwM := hw M hMD
    obtain ⟨⟨w1, w2, w3, w4, w5⟩, w6, ⟨w7, w7b⟩, w8, rt⟩ := hw M hMD
    have hbM := bgn_eq hw hMD
    rw [hbM] at tn ⊢
    obtain ⟨d1, d2⟩ := rd M hMD
    have hdef := define_eq (t := t) (qr17 := qr17) (qr18 := qr18) (qr19 := qr19) (qr20 := qr20) (qr21 := qr21) (qr22 := qr22) (qr23 := qr23) (qr24 := qr24) (qr25 := qr25) (qr26 := qr26) (qr27 := qr27) (qr28 := qr28) (qr29 := qr29) (qr30 := qr30) (qi31 := 0) (qi34 := qi34) (qi35 := qi35) (qi36 := qi36) (ql4 := ql4) (ql5 := ql5) (ql6 := ql6) (ql7 := ql7) (qz1 := qz1) (M := M) (K := dF (δ M)) (b := dH (δ M)) (y := dN (δ M)) (ty := dR (δ M)) wf.1 (by omega) (by omega : dF (δ M) ≤ N) (by omega) h17 h18 h19 h20 h21 h22 h23 h24 h25 h26 h27 h4 h5 h6 h7 tn (fun hp => by
      refine ⟨dF (δ (M - 1)), (td (M - 1) (by omega)).2.2.2.1, ?_⟩
      have hq := (hw (M - 1) (by omega)).1
      have := hq.2.2.1 (by omega)
      rw [show M - 1 + 1 = M by omega] at this
      omega) (by
      unfold tgt
      rw [if_pos (by omega)]
      exact rt.1) (fun e he q => w8.2 e he (by rw [← (td e he).2.2.2.2.1]; exact q)) w8.1 w7 w7b
    have hb01 : b01 (dH (δ M)) &&& 1 = lvl (dH (δ M)) := by cases dH (δ M) <;> decide
    rw [hb01] at hdef
    obtain ⟨p19, p20, u5, a1, ⟨a2, a3, a4⟩, a5, a6, a7, a8⟩ := params_go (t := t) (qr17 := qr17.set M (lvl (dH (δ M)))) (qr18 := qr18.set M (nI (dR (δ M)))) (qr21 := qr21.set M (nI (dF (δ M)))) (qr22 := qr22) (qr23 := qr23) (qr24 := qr24) (qr25 := qr25) (qr26 := qr26) (qr27 := qr27) (qr28 := qr28) (qr29 := qr29) (qr30 := qr30) (qi34 := qi34) (qi35 := qi35) (qi36 := qi36) (ql4 := ql4.set M (dN (δ M))) (ql6 := ql6) (ql7 := ql7) (K9 := m206_9 f) hr' hN hMD hD hwM rfl (dP (δ M)).length 0 1000000 (qr19.set M 0) qr20 ql5 (by omega) (by have := w6.1; omega) (by (try simp only [List.length_set]); first | assumption | omega) h20 h5 (by (try simp only [List.length_set]); first | assumption | omega) (by rw [getD_setn (by omega), if_pos rfl]; rfl) (by rw [getD_setn (by omega), if_pos rfl]) (fun e he => by omega) (by (try simp only [List.length_set]); first | assumption | omega) (by (try simp only [List.length_set]); first | assumption | omega) h22 h23 h24 h25 h26 h27 (by (try simp only [List.length_set]); first | assumption | omega) h6 h7
    obtain ⟨q22, q23, q24, q25, q26, q27, v6, v7, b1, b2, b3⟩ := nodes_go (t := t) (qr17 := qr17.set M (lvl (dH (δ M)))) (qr18 := qr18.set M (nI (dR (δ M)))) (qr19 := p19) (qr20 := p20) (qr21 := qr21.set M (nI (dF (δ M)))) (qr28 := qr28) (qr29 := qr29) (qr30 := qr30) (qi34 := qi34) (qi35 := qi35) (qi36 := qi36) (ql4 := ql4.set M (dN (δ M))) (ql5 := u5) (K9 := m206_9 f) hr' wf hN hMD hD hwM (dE (δ M) - dF (δ M)) (dF (δ M)) 1000000 qr22 qr23 qr24 qr25 qr26 qr27 ql6 ql7 (by omega) (Nat.le_refl _) (by omega) (by (try simp only [List.length_set]); first | assumption | omega) (by (try simp only [List.length_set]); first | assumption | omega) h22 h23 h24 h25 h26 h27 h6 h7 (by rw [getD_setn (by omega), if_pos rfl]) (by rw [getD_setn (by omega), if_pos rfl]) tn
    have hbn : bgn δ N (M + 1) = dE (δ M) := by
      unfold bgn
      rw [if_neg (by omega)]
      rfl
    have td2 : TD δ (M + 1) (qr17.set M (lvl (dH (δ M)))) (qr18.set M (nI (dR (δ M)))) p19 p20 (qr21.set M (nI (dF (δ M)))) (ql4.set M (dN (δ M))) u5 := by
      intro d hd
      by_cases c : d = M
      · subst c
        rw [getD_setn (by omega), getD_setn (by omega), getD_setn (by omega), getD_setn (by omega)]
        simp only [if_true]
        exact ⟨trivial, trivial, a5, trivial, trivial, a6⟩
      · obtain ⟨t1, t2, t3, t4, t5, t6⟩ := td d (by omega)
        rw [getD_setn (by omega), getD_setn (by omega), getD_setn (by omega), getD_setn (by omega)]
        simp only [if_neg c]
        refine ⟨t1, t2, by rw [a7 d c, getD_setn (by omega), if_neg c]; exact t3, t4, t5, fun i hi => ?_⟩
        have h8 := (hw d (by omega)).2.1.1
        rw [(a8 (8 * d + i) (Or.inl (by omega))).1, (a8 (8 * d + i) (Or.inl (by omega))).2]
        exact t6 i hi
    rw [← hbn] at b3
    obtain ⟨z17, z18, z19, z20, z21, z22, z23, z24, z25, z26, z27, y4, y5, y6, y7, y1, c1, c2, c3, c4⟩ := ih (M + 1) f (qr17.set M (lvl (dH (δ M)))) (qr18.set M (nI (dR (δ M)))) p19 p20 (qr21.set M (nI (dF (δ M)))) q22 q23 q24 q25 q26 q27 (ql4.set M (dN (δ M))) u5 v6 v7 false (by omega) (by omega) ⟨(by (try simp only [List.length_set]); first | assumption | omega), (by (try simp only [List.length_set]); first | assumption | omega), a2, a3, (by (try simp only [List.length_set]); first | assumption | omega), b2.1, b2.2.1, b2.2.2.1, b2.2.2.2.1, b2.2.2.2.2.1, b2.2.2.2.2.2.1, (by (try simp only [List.length_set]); first | assumption | omega), a4, b2.2.2.2.2.2.2.1, b2.2.2.2.2.2.2.2⟩ td2 b3
    refine ⟨z17, z18, z19, z20, z21, z22, z23, z24, z25, z26, z27, y4, y5, y6, y7, y1, ?_, c2, c3, c4⟩
    unfold m206_9 m206_42
    rw [tyR_oi27, e27, if_neg (by rw [leN (by omega) (by omega)]; omega), tyR_or2, xsGet_d (by omega) (by omega), bs, d1.1, tyR_ol0, xlGet_d (by omega) (by omega), bs, tyR_or3, xsGet_d (by omega) (by omega), bs, d1.2.2.2.1, d2.1]
    have hsel : (if lvl (dH (δ M)) = 1 then ((m177 true (dN (δ M)) (nI (dR (δ M))) (tyR t qr17 qr18 qr19 qr20 qr21 qr22 qr23 qr24 qr25 qr26 qr27 qr28 qr29 qr30 0 (nI M) (nI (dF (δ M))) qi34 qi35 qi36 ql4 ql5 ql6 ql7 qz1)).bind fun q7 => m206_66 (m206_9 f) 1000000 (nI M) 0 q7.2) else ((m177 false (dN (δ M)) (nI (dR (δ M))) (tyR t qr17 qr18 qr19 qr20 qr21 qr22 qr23 qr24 qr25 qr26 qr27 qr28 qr29 qr30 0 (nI M) (nI (dF (δ M))) qi34 qi35 qi36 ql4 ql5 ql6 ql7 qz1)).bind fun q7 => m206_66 (m206_9 f) 1000000 (nI M) 0 q7.2)) = (m177 (dH (δ M)) (dN (δ M)) (nI (dR (δ M))) (tyR t qr17 qr18 qr19 qr20 qr21 qr22 qr23 qr24 qr25 qr26 qr27 qr28 qr29 qr30 0 (nI M) (nI (dF (δ M))) qi34 qi35 qi36 ql4 ql5 ql6 ql7 qz1)).bind fun q7 => m206_66 (m206_9 f) 1000000 (nI M) 0 q7.2 := by
      cases dH (δ M)
      · rw [if_neg (by decide)]
      · rw [if_pos (by decide)]
    rw [bs, bs, hsel, hdef, bs]
    refine Eq.trans ?_ c1
    refine a1.trans ?_
    unfold m206_155
    rw [tyR_or5, xsGet_d (by omega) (by omega), bs, d2.2]
    refine b1.trans ?_
    rw [nI_1, hbn]
end Look4
