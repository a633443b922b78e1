/-! one node comes to the types -/
section Look1
variable {T : List Int32} {σ : Nat → Nd} {δ : Nat → Dd} {N K M k d f r c i : Nat} {S : xSt} {t : xSt} {qr17 qr18 qr19 qr20 qr21 qr22 qr23 qr24 qr25 qr26 qr27 qr28 qr29 qr30 : List Int32} {qi31 qi32 qi33 qi34 qi35 qi36 : Int32} {ql4 ql5 ql6 ql7 : List Int64} {qz1 : Bool}
theorem m183_eq (hr : r ≤ 23) : m183 (nI r) S = some (hf r, S) := by
  have hcc : r = 0 ∨ r = 1 ∨ r = 2 ∨ r = 3 ∨ r = 4 ∨ r = 5 ∨ r = 6 ∨ r = 7 ∨ r = 8 ∨ r = 9 ∨ r = 10 ∨ r = 11 ∨ r = 12 ∨ r = 13 ∨ r = 14 ∨ r = 15 ∨ r = 16 ∨ r = 17 ∨ r = 18 ∨ r = 19 ∨ r = 20 ∨ r = 21 ∨ r = 22 ∨ r = 23 := by omega
  rcases hcc with rfl | rfl | rfl | rfl | rfl | rfl | rfl | rfl | rfl | rfl | rfl | rfl | rfl | rfl | rfl | rfl | rfl | rfl | rfl | rfl | rfl | rfl | rfl | rfl <;> rfl
theorem m184_eq (hr : r ≤ 23) : m184 (nI r) S = some (kz r, S) := by
  have hcc : r = 0 ∨ r = 1 ∨ r = 2 ∨ r = 3 ∨ r = 4 ∨ r = 5 ∨ r = 6 ∨ r = 7 ∨ r = 8 ∨ r = 9 ∨ r = 10 ∨ r = 11 ∨ r = 12 ∨ r = 13 ∨ r = 14 ∨ r = 15 ∨ r = 16 ∨ r = 17 ∨ r = 18 ∨ r = 19 ∨ r = 20 ∨ r = 21 ∨ r = 22 ∨ r = 23 := by omega
  rcases hcc with rfl | rfl | rfl | rfl | rfl | rfl | rfl | rfl | rfl | rfl | rfl | rfl | rfl | rfl | rfl | rfl | rfl | rfl | rfl | rfl | rfl | rfl | rfl | rfl <;> rfl
theorem m185_eq (hr : r ≤ 23) : m185 (nI r) S = some (if kc r = true then -1 else nI (ct r 100), S) := by
  have hcc : r = 0 ∨ r = 1 ∨ r = 2 ∨ r = 3 ∨ r = 4 ∨ r = 5 ∨ r = 6 ∨ r = 7 ∨ r = 8 ∨ r = 9 ∨ r = 10 ∨ r = 11 ∨ r = 12 ∨ r = 13 ∨ r = 14 ∨ r = 15 ∨ r = 16 ∨ r = 17 ∨ r = 18 ∨ r = 19 ∨ r = 20 ∨ r = 21 ∨ r = 22 ∨ r = 23 := by omega
  rcases hcc with rfl | rfl | rfl | rfl | rfl | rfl | rfl | rfl | rfl | rfl | rfl | rfl | rfl | rfl | rfl | rfl | rfl | rfl | rfl | rfl | rfl | rfl | rfl | rfl <;> rfl
theorem m186_eq (hr : r ≤ 23) (hi : i < 10000) : m186 (nI r) (nI i) S = some (chp r i, S) := by
  have h0 : (nI i ≤ 0) = (i = 0) := by
    rw [leL_0 (by omega)]
    exact propext ⟨fun q => by omega, fun q => by omega⟩
  have hcc : r = 0 ∨ r = 1 ∨ r = 2 ∨ r = 3 ∨ r = 4 ∨ r = 5 ∨ r = 6 ∨ r = 7 ∨ r = 8 ∨ r = 9 ∨ r = 10 ∨ r = 11 ∨ r = 12 ∨ r = 13 ∨ r = 14 ∨ r = 15 ∨ r = 16 ∨ r = 17 ∨ r = 18 ∨ r = 19 ∨ r = 20 ∨ r = 21 ∨ r = 22 ∨ r = 23 := by omega
  unfold m186 chp
  simp only [h0]
  by_cases c : i = 0
  · rw [show decide (0 < i) = false from decide_eq_false (by omega), if_pos c]
    rcases hcc with rfl | rfl | rfl | rfl | rfl | rfl | rfl | rfl | rfl | rfl | rfl | rfl | rfl | rfl | rfl | rfl | rfl | rfl | rfl | rfl | rfl | rfl | rfl | rfl <;> rfl
  · rw [show decide (0 < i) = true from decide_eq_true (by omega), if_neg c]
    rcases hcc with rfl | rfl | rfl | rfl | rfl | rfl | rfl | rfl | rfl | rfl | rfl | rfl | rfl | rfl | rfl | rfl | rfl | rfl | rfl | rfl | rfl | rfl | rfl | rfl <;> rfl
theorem m182_eq {a b : Int64} (hr : r ≤ 23) (hc2 : c < 10000) (ha : hf r = true → 0 < a) (ha0 : hf r = false → a = 0) (hb : kz r = true → 0 < b ∧ b ≠ a) (hb0 : kz r = false → b = 0) (hc : kc r = false → c = ct r 100) : m182 (nI r) a b (nI c) S = some (true, S) := by
  have h72 : m182_72 (nI r) (nI c) S = some (true, S) := by
    unfold m182_72 m182_77
    rw [if_pos rfl, m185_eq hr, bs]
    cases hk : kc r
    · rw [if_neg ff, if_pos (nI_pos' (by have := hc hk; omega)), m185_eq hr, bs, hk, if_neg ff, if_pos (by rw [hc hk])]
    · rw [if_pos rfl, if_neg (show ¬ (0 : Int32) ≤ -1 by decide), if_neg (nI_pos (by omega))]
  have h44 : m182_44 (nI r) a b (nI c) S = some (true, S) := by
    unfold m182_44
    rw [m184_eq hr, bs]
    cases hz : kz r
    · rw [if_neg ff, if_pos ((lg_cmp_eq _ _).mpr (hb0 hz))]; exact h72
    · rw [if_pos rfl, if_neg (by rw [lg_cmp_le]; exact Int64.not_le.mpr (hb hz).1), if_neg (fun q => (hb hz).2 ((lg_cmp_eq _ _).mp q))]; exact h72
  unfold m182
  rw [if_neg (nI_pos (by omega)), if_neg (by rw [gtL_23 (by omega)]; omega)]
  unfold m182_15
  rw [if_pos rfl, m183_eq hr, bs]
  cases hh : hf r
  · rw [if_neg ff, if_pos ((lg_cmp_eq _ _).mpr (ha0 hh))]; exact h44
  · rw [if_pos rfl, if_neg (by rw [lg_cmp_le]; exact Int64.not_le.mpr (ha hh))]; exact h44
/-- the state with one more node -/
theorem node_eq (h17 : qr17.length = 64) (h21 : qr21.length = 65) (h22 : qr22.length = 4096) (h23 : qr23.length = 4096) (h24 : qr24.length = 4096) (h25 : qr25.length = 4096) (h26 : qr26.length = 4096) (h27 : qr27.length = 4096) (h6 : ql6.length = 4096) (h7 : ql7.length = 4096) (hPP : PP (pr σ) N) (hN : N < 4096) (hK : K < N) (hM : M < 64) (hn : TN σ N K qr22 qr23 qr24 qr25 qr26 qr27 ql6 ql7) (hb : qr21.getD M 0 = nI d) (hd : d ≤ K) (h17v : qr17.getD M 0 = lvl (dH (δ M))) (hr : ∀ k, k < N → nK (σ k) ≤ 23) (ha : hf (nK (σ K)) = true → 0 < nA (σ K)) (ha0 : hf (nK (σ K)) = false → nA (σ K) = 0) (hb1 : kz (nK (σ K)) = true → 0 < nB (σ K) ∧ nB (σ K) ≠ nA (σ K)) (hb0 : kz (nK (σ K)) = false → nB (σ K) = 0) (hc : kc (nK (σ K)) = false → pcnt (pr σ) K N = ct (nK (σ K)) 100) (hroot : K = d → nP (σ K) = -1 ∧ decide (18 ≤ nK (σ K)) = dH (δ M)) (hpart : ¬ K = d → ∃ q : Nat, nP (σ K) = (q : Int) ∧ q < K ∧ decide (18 ≤ nK (σ K)) = chp (nK (σ q)) (pcnt (pr σ) q K)) : ∃ q22 q23 q24 q25 q26 q27 v6 v7, m181 (nI (nK (σ K))) (nA (σ K)) (nB (σ K)) (nI (pcnt (pr σ) K N)) (tyR t qr17 qr18 qr19 qr20 qr21 qr22 qr23 qr24 qr25 qr26 qr27 qr28 qr29 qr30 qi31 (nI (M + 1)) (nI K) qi34 qi35 qi36 ql4 ql5 ql6 ql7 qz1) = some (nI K, (tyR t qr17 qr18 qr19 qr20 qr21 q22 q23 q24 q25 q26 q27 qr28 qr29 qr30 0 (nI (M + 1)) (nI (K + 1)) qi34 qi35 qi36 ql4 ql5 v6 v7 false)) ∧ q22.length = 4096 ∧ q23.length = 4096 ∧ q24.length = 4096 ∧ q25.length = 4096 ∧ q26.length = 4096 ∧ q27.length = 4096 ∧ v6.length = 4096 ∧ v7.length = 4096 ∧ ((nD (σ K) = M) → TN σ N (K + 1) q22 q23 q24 q25 q26 q27 v6 v7) := by
  have hrK := hr K hK
  have hcl := pcnt_le (pr σ) K N
  have h182 : ∀ S : xSt, m182 (nI (nK (σ K))) (nA (σ K)) (nB (σ K)) (nI (pcnt (pr σ) K N)) S = some (true, S) := fun S => m182_eq hrK (by omega) ha ha0 hb1 hb0 hc
  have h179 := m179_eq (t := t) (qr17 := qr17) (qr18 := qr18) (qr19 := qr19) (qr20 := qr20) (qr21 := qr21) (qr22 := qr22) (qr23 := qr23) (qr24 := qr24) (qr25 := qr25) (qr26 := qr26) (qr27 := qr27) (qr28 := qr28) (qr29 := qr29) (qr30 := qr30) (qi31 := 0) (qi34 := qi34) (qi35 := qi35) (qi36 := qi36) (ql4 := ql4) (ql5 := ql5) (ql6 := ql6) (ql7 := ql7) (qz1 := qz1) (M := M) hPP (by omega) (by omega : K ≤ N) hM hn h21 h23 h24 h27 hb hd
  have h18 : ∀ x9 v S, m181_115 (nI (nK (σ K))) (nA (σ K)) (nB (σ K)) (nI (pcnt (pr σ) K N)) (nI M) x9 v S = m181_130 (nI (nK (σ K))) (nA (σ K)) (nB (σ K)) (nI (pcnt (pr σ) K N)) (nI M) x9 (decide (18 ≤ nK (σ K))) v S := fun x9 v S => by
    unfold m181_115
    by_cases c : nK (σ K) ≤ 17
    · rw [if_pos (by rw [leL_17 (by omega)]; exact c), decide_eq_false (by omega)]
    · rw [if_neg (by rw [leL_17 (by omega)]; exact c), decide_eq_true (by omega)]
  have hpre : ∀ b S, (m181_63 (nI (nK (σ K))) (nA (σ K)) (nB (σ K)) (nI (pcnt (pr σ) K N)) (nI M) b (tyR t qr17 qr18 qr19 qr20 qr21 qr22 qr23 qr24 qr25 qr26 qr27 qr28 qr29 qr30 0 (nI (M + 1)) (nI K) qi34 qi35 qi36 ql4 ql5 ql6 ql7 qz1) = S) → b = decide (d < K) → m181 (nI (nK (σ K))) (nA (σ K)) (nB (σ K)) (nI (pcnt (pr σ) K N)) (tyR t qr17 qr18 qr19 qr20 qr21 qr22 qr23 qr24 qr25 qr26 qr27 qr28 qr29 qr30 qi31 (nI (M + 1)) (nI K) qi34 qi35 qi36 ql4 ql5 ql6 ql7 qz1) = S := fun b S hS hbd => by
    unfold m181
    rw [tyR_i32, if_neg (by rw [eqL_0 (by omega)]; omega), tyR_i33, if_neg (by rw [show (4096 : Int32) = nI 4096 from rfl, eqN (by omega) (by omega)]; omega), tyR_si31, h182, bs, if_pos rfl, tyR_r21, tyR_i32, nI_pred, xsGet_d (by omega) (by omega), bs, hb, tyR_i33]
    by_cases c : K ≤ d
    · rw [if_pos (by rw [leN (by omega) (by omega)]; exact c)]
      rw [hbd, decide_eq_false (by omega)] at hS
      exact hS
    · rw [if_neg (by rw [leN (by omega) (by omega)]; exact c)]
      rw [hbd, decide_eq_true (by omega)] at hS
      exact hS
  by_cases c : K = d
  · obtain ⟨r1, r2⟩ := hroot c
    have hx : m181_63 (nI (nK (σ K))) (nA (σ K)) (nB (σ K)) (nI (pcnt (pr σ) K N)) (nI M) (decide (d < K)) (tyR t qr17 qr18 qr19 qr20 qr21 qr22 qr23 qr24 qr25 qr26 qr27 qr28 qr29 qr30 0 (nI (M + 1)) (nI K) qi34 qi35 qi36 ql4 ql5 ql6 ql7 qz1) = some (nI K, (tyR t qr17 qr18 qr19 qr20 qr21 (qr22.set K (nI (nK (σ K)))) (qr23.set K (nI (pcnt (pr σ) K N))) (qr24.set K (-1)) (qr25.set K 0) (qr26.set K (nI M)) (qr27.set K 0) qr28 qr29 qr30 0 (nI (M + 1)) (nI (K + 1)) qi34 qi35 qi36 ql4 ql5 (ql6.set K (nA (σ K))) (ql7.set K (nB (σ K))) false)) := by
      unfold m181_63 m181_83
      rw [h179, bs, decide_eq_false (by omega), if_neg ff, if_pos c, if_neg (show ¬ (0 : Int32) ≤ -1 by decide), tyR_r17, xsGet_d (by omega) (by omega), bs, h17v, h18, r2]
      unfold m181_130
      rw [if_pos (by cases dH (δ M) <;> rfl), tyR_r22, tyR_i33, xsPut_n (by omega) (by omega), bs, tyR_l6, xlPut_n (by omega) (by omega), bs, tyR_l7, xlPut_n (by omega) (by omega), bs, tyR_r23, xsPut_n (by omega) (by omega), bs, tyR_r24, xsPut_n (by omega) (by omega), bs, if_neg (show ¬ (0 : Int32) ≤ -1 by decide), nI_1]
      unfold m181_216
      simp only [tyR_si33, tyR_sr22, tyR_sl6, tyR_sl7, tyR_sr23, tyR_sr24, tyR_r25, tyR_r26, tyR_r27]
      rw [xsPut_n (by omega) (by omega), bs, xsPut_n (by omega) (by omega), bs, xsPut_n (by omega) (by omega), bs, if_pos (show (-1 : Int32) < 0 by decide), tyR_sr25, tyR_sr26, tyR_sr27, tyR_sz1]
    refine ⟨_, _, _, _, _, _, _, _, hpre _ _ hx rfl, (by (try simp only [List.length_set]); first | assumption | omega), (by (try simp only [List.length_set]); first | assumption | omega), (by (try simp only [List.length_set]); first | assumption | omega), (by (try simp only [List.length_set]); first | assumption | omega), (by (try simp only [List.length_set]); first | assumption | omega), (by (try simp only [List.length_set]); first | assumption | omega), (by (try simp only [List.length_set]); first | assumption | omega), (by (try simp only [List.length_set]); first | assumption | omega), fun hDM => ?_⟩
    intro j hj
    rw [getD_setn (by omega), getD_setn (by omega), getD_setn (by omega), getD_setn (by omega), getD_setn (by omega), getD_setn (by omega), getD_setn (by omega), getD_setn (by omega)]
    have hPPK : pcnt (pr σ) K (K + 1) = 0 := pcnt_0 hPP (by omega) (Nat.le_refl _)
    by_cases y : j = K
    · subst y
      simp only [if_true]
      refine ⟨trivial, trivial, by rw [r1]; rfl, ?_, by rw [hDM], by rw [hPPK]; rfl, trivial, trivial⟩
      unfold pq
      rw [if_pos (by rw [r1]; decide)]
      rfl
    · simp only [if_neg y]
      obtain ⟨t1, t2, t3, t4, t5, t6, t7, t8⟩ := hn j (by omega)
      refine ⟨t1, t2, t3, t4, t5, ?_, t7, t8⟩
      rw [t6]
      show nI (pcnt (pr σ) j K) = nI (pcnt (pr σ) j K + if pr σ K = (j : Int) then 1 else 0)
      rw [if_neg (by have e : pr σ K = -1 := r1; omega)]
      rfl
  · obtain ⟨q, r1, rq, r2⟩ := hpart c
    have htg : tgt σ N K = (q : Int) := by
      unfold tgt
      rw [if_pos hK]
      exact r1
    obtain ⟨t1, t2, t3, t4, t5, t6, t7, t8⟩ := hn q rq
    have hql := pcnt_le (pr σ) q K
    have hx : m181_63 (nI (nK (σ K))) (nA (σ K)) (nB (σ K)) (nI (pcnt (pr σ) K N)) (nI M) (decide (d < K)) (tyR t qr17 qr18 qr19 qr20 qr21 qr22 qr23 qr24 qr25 qr26 qr27 qr28 qr29 qr30 0 (nI (M + 1)) (nI K) qi34 qi35 qi36 ql4 ql5 ql6 ql7 qz1) = some (nI K, (tyR t qr17 qr18 qr19 qr20 qr21 (qr22.set K (nI (nK (σ K)))) (qr23.set K (nI (pcnt (pr σ) K N))) (qr24.set K (nI q)) (qr25.set K (nI (pcnt (pr σ) q K))) (qr26.set K (nI M)) ((qr27.set K 0).set q (nI (pcnt (pr σ) q K + 1))) qr28 qr29 qr30 0 (nI (M + 1)) (nI (K + 1)) qi34 qi35 qi36 ql4 ql5 (ql6.set K (nA (σ K))) (ql7.set K (nB (σ K))) false)) := by
      unfold m181_63 m181_83
      rw [h179, bs, decide_eq_true (by omega), if_pos rfl, if_neg c, htg, pI_k, if_pos (nI_pos' (by omega)), if_pos (nI_pos' (by omega)), tyR_r22, xsGet_d (by omega) (by omega), bs, tyR_r27, xsGet_d (by omega) (by omega), bs, t1, t6, m186_eq (hr q (by omega)) (by omega), bs, h18, r2]
      unfold m181_130
      rw [if_pos rfl, tyR_r22, tyR_i33, xsPut_n (by omega) (by omega), bs, tyR_l6, xlPut_n (by omega) (by omega), bs, tyR_l7, xlPut_n (by omega) (by omega), bs, tyR_r23, xsPut_n (by omega) (by omega), bs, tyR_r24, xsPut_n (by omega) (by omega), bs, if_pos (nI_pos' (by omega)), tyR_r27, xsGet_d (by omega) (by omega), bs, t6, nI_1]
      unfold m181_216
      simp only [tyR_si33, tyR_sr22, tyR_sl6, tyR_sl7, tyR_sr23, tyR_sr24, tyR_r25, tyR_r26, tyR_r27]
      rw [xsPut_n (by omega) (by omega), bs, xsPut_n (by omega) (by omega), bs, xsPut_n (by omega) (by omega), bs, if_neg (nI_pos (by omega)), xsGet_d (by omega) (by rw [List.length_set]; omega), bs, getD_setn (by omega), if_neg (by omega), t6, nI_1, xsPut_n (by omega) (by rw [List.length_set]; omega), bs, tyR_sr25, tyR_sr26, tyR_sr27, tyR_sz1]
    refine ⟨_, _, _, _, _, _, _, _, hpre _ _ hx rfl, (by (try simp only [List.length_set]); first | assumption | omega), (by (try simp only [List.length_set]); first | assumption | omega), (by (try simp only [List.length_set]); first | assumption | omega), (by (try simp only [List.length_set]); first | assumption | omega), (by (try simp only [List.length_set]); first | assumption | omega), (by (try simp only [List.length_set]); first | assumption | omega), (by (try simp only [List.length_set]); first | assumption | omega), (by (try simp only [List.length_set]); first | assumption | omega), fun hDM => ?_⟩
    intro j hj
    rw [getD_setn (by omega), getD_setn (by omega), getD_setn (by omega), getD_setn (by omega), getD_setn (by omega), getD_setn (by rw [List.length_set]; omega), getD_setn (by omega), getD_setn (by omega), getD_setn (by omega)]
    have hPPK : pcnt (pr σ) K (K + 1) = 0 := pcnt_0 hPP (by omega) (Nat.le_refl _)
    by_cases y : j = K
    · subst y
      simp only [if_true, if_neg (by omega : ¬ j = q)]
      refine ⟨trivial, trivial, by rw [r1, pI_k], ?_, by rw [hDM], by rw [hPPK]; rfl, trivial, trivial⟩
      unfold pq
      rw [if_neg (by rw [r1]; omega), r1, Int.toNat_natCast]
    · simp only [if_neg y]
      obtain ⟨u1, u2, u3, u4, u5, u6, u7, u8⟩ := hn j (by omega)
      refine ⟨u1, u2, u3, u4, u5, ?_, u7, u8⟩
      have epq : pcnt (pr σ) j (K + 1) = pcnt (pr σ) j K + if pr σ K = (j : Int) then 1 else 0 := rfl
      have e : pr σ K = (q : Int) := r1
      rw [epq]
      by_cases yq : j = q
      · rw [if_pos yq, if_pos (by rw [yq]; exact e), yq]
      · rw [if_neg yq, if_neg (by rw [e]; omega), u6]
        rfl
end Look1
