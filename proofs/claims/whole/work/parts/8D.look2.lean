/-! definitions come to the types -/
section Look2
variable {T : List Int32} {σ : Nat → Nd} {δ : Nat → Dd} {N K M k d f D : Nat} {S : xSt} {t : xSt} {qr17 qr18 qr19 qr20 qr21 qr22 qr23 qr24 qr25 qr26 qr27 qr28 qr29 qr30 : List Int32} {qi31 qi32 qi33 qi34 qi35 qi36 : Int32} {ql4 ql5 ql6 ql7 : List Int64} {qz1 : Bool}
theorem m178_eq (hPP : PP (pr σ) N) (hN : N ≤ 4096) (hK : K ≤ N) (hM : M ≤ 64) (hn : TN σ N K qr22 qr23 qr24 qr25 qr26 qr27 ql6 ql7) (h21 : qr21.length = 65) (h23 : qr23.length = 4096) (h24 : qr24.length = 4096) (h27 : qr27.length = 4096) (hb : 0 < M → ∃ d, qr21.getD (M - 1) 0 = nI d ∧ d < K) (ht : tgt σ N K = -1) : m178 (tyR t qr17 qr18 qr19 qr20 qr21 qr22 qr23 qr24 qr25 qr26 qr27 qr28 qr29 qr30 qi31 (nI M) (nI K) qi34 qi35 qi36 ql4 ql5 ql6 ql7 qz1) = some (true, (tyR t qr17 qr18 qr19 qr20 qr21 qr22 qr23 qr24 qr25 qr26 qr27 qr28 qr29 qr30 qi31 (nI M) (nI K) qi34 qi35 qi36 ql4 ql5 ql6 ql7 qz1)) := by
  unfold m178
  rw [tyR_i32]
  by_cases c : M = 0
  · rw [if_pos (by rw [c]; rfl)]
  · obtain ⟨d, b1, b2⟩ := hb (by omega)
    obtain ⟨M, rfl⟩ : ∃ M', M = M' + 1 := ⟨M - 1, by omega⟩
    rw [Nat.add_sub_cancel] at b1
    rw [if_neg (by rw [eqL_0 (by omega)]; omega), nI_pred, tyR_r21, xsGet_d (by omega) (by omega), bs, tyR_i33, b1, if_neg (by rw [leN (by omega) (by omega)]; omega), m179_eq hPP hN hK (by omega) hn h21 h23 h24 h27 b1 (by omega), if_neg (show ¬ K = d by omega), ht, show pI (-1) = -1 from rfl, bs, if_neg (show ¬ (0 : Int32) ≤ -1 by decide)]
theorem m177_go {b : Bool} {y : Int64} {ty : Int32} (hM : M < 64) (h17 : qr17.length = 64) (h18 : qr18.length = 64) (h19 : qr19.length = 64) (h20 : qr20.length = 512) (h21 : qr21.length = 65) (h22 : qr22.length = 4096) (h23 : qr23.length = 4096) (h24 : qr24.length = 4096) (h25 : qr25.length = 4096) (h26 : qr26.length = 4096) (h27 : qr27.length = 4096) (h4 : ql4.length = 64) (h5 : ql5.length = 512) (h6 : ql6.length = 4096) (h7 : ql7.length = 4096) (hd : ∀ e, e < M → ¬ ql4.getD e 0 = y) : ∀ (m i f : Nat), i + m = M → m < f → m177_56 f b y ty true (nI i) (tyR t qr17 qr18 qr19 qr20 qr21 qr22 qr23 qr24 qr25 qr26 qr27 qr28 qr29 qr30 qi31 (nI M) (nI K) qi34 qi35 qi36 ql4 ql5 ql6 ql7 qz1) = some (nI M, (tyR t (qr17.set M (b01 b &&& 1)) (qr18.set M ty) (qr19.set M 0) qr20 (qr21.set M (nI K)) qr22 qr23 qr24 qr25 qr26 qr27 qr28 qr29 qr30 qi31 (nI (M + 1)) (nI K) qi34 qi35 qi36 (ql4.set M y) ql5 ql6 ql7 false)) := by
  intro m
  induction m with
  | zero =>
    intro i f hi hf
    obtain ⟨f, rfl⟩ : ∃ f', f = f' + 1 := ⟨f - 1, by omega⟩
    unfold m177_56
    rw [tyR_i32, if_pos (by rw [leN (by omega) (by omega)]; omega), if_pos rfl, tyR_r17, xsPut_n (by omega) (by omega), bs, tyR_l4, xlPut_n (by omega) (by omega), bs, tyR_r18, xsPut_n (by omega) (by omega), bs, tyR_r19, xsPut_n (by omega) (by omega), bs, tyR_r21, tyR_i33, xsPut_n (by omega) (by omega), bs, nI_1, nI_pred]
    simp only [tyR_sr17, tyR_sl4, tyR_sr18, tyR_sr19, tyR_sr21, tyR_si32, tyR_sz1]
  | succ m ih =>
    intro i f hi hf
    obtain ⟨f, rfl⟩ : ∃ f', f = f' + 1 := ⟨f - 1, by omega⟩
    unfold m177_56
    rw [tyR_i32, if_neg (by rw [leN (by omega) (by omega)]; omega), if_pos rfl, tyR_l4, xlGet_d (by omega) (by omega), bs, if_neg (fun q => hd i (by omega) ((lg_cmp_eq _ _).mp q)), nI_1]
    exact ih (i + 1) f (by omega) (by omega)
theorem define_eq {b : Bool} {y : Int64} {ty : Nat} (hPP : PP (pr σ) N) (hN : N ≤ 4096) (hK : K ≤ N) (hM : M < 64) (h17 : qr17.length = 64) (h18 : qr18.length = 64) (h19 : qr19.length = 64) (h20 : qr20.length = 512) (h21 : qr21.length = 65) (h22 : qr22.length = 4096) (h23 : qr23.length = 4096) (h24 : qr24.length = 4096) (h25 : qr25.length = 4096) (h26 : qr26.length = 4096) (h27 : qr27.length = 4096) (h4 : ql4.length = 64) (h5 : ql5.length = 512) (h6 : ql6.length = 4096) (h7 : ql7.length = 4096) (hn : TN σ N K qr22 qr23 qr24 qr25 qr26 qr27 ql6 ql7) (hb : 0 < M → ∃ d, qr21.getD (M - 1) 0 = nI d ∧ d < K) (ht : tgt σ N K = -1) (hd : ∀ e, e < M → ¬ ql4.getD e 0 = y) (hy : 0 < y) (hty : ty ≤ 3) (htb : b = true → ty < 2) : m177 b y (nI ty) (tyR t qr17 qr18 qr19 qr20 qr21 qr22 qr23 qr24 qr25 qr26 qr27 qr28 qr29 qr30 qi31 (nI M) (nI K) qi34 qi35 qi36 ql4 ql5 ql6 ql7 qz1) = some (nI M, (tyR t (qr17.set M (b01 b &&& 1)) (qr18.set M (nI ty)) (qr19.set M 0) qr20 (qr21.set M (nI K)) qr22 qr23 qr24 qr25 qr26 qr27 qr28 qr29 qr30 0 (nI (M + 1)) (nI K) qi34 qi35 qi36 (ql4.set M y) ql5 ql6 ql7 false)) := by
  have h51 : m177_51 b y (nI ty) true (tyR t qr17 qr18 qr19 qr20 qr21 qr22 qr23 qr24 qr25 qr26 qr27 qr28 qr29 qr30 0 (nI M) (nI K) qi34 qi35 qi36 ql4 ql5 ql6 ql7 qz1) = some (nI M, (tyR t (qr17.set M (b01 b &&& 1)) (qr18.set M (nI ty)) (qr19.set M 0) qr20 (qr21.set M (nI K)) qr22 qr23 qr24 qr25 qr26 qr27 qr28 qr29 qr30 0 (nI (M + 1)) (nI K) qi34 qi35 qi36 (ql4.set M y) ql5 ql6 ql7 false)) := by
    unfold m177_51
    exact m177_go hM h17 h18 h19 h20 h21 h22 h23 h24 h25 h26 h27 h4 h5 h6 h7 hd M 0 1000000 (by omega) (by omega)
  unfold m177 m177_43
  rw [tyR_si31, m178_eq hPP hN hK (by omega) hn h21 h23 h24 h27 hb ht, bs, if_pos rfl, tyR_i32, if_neg (by rw [geL_64 (by omega)]; omega), if_neg (by rw [lg_cmp_le]; exact Int64.not_le.mpr hy), if_neg (nI_pos (by omega))]
  cases b
  · rw [if_neg ff, if_neg (by rw [show (4 : Int32) = nI 4 from rfl, leN (by omega) (by omega)]; omega)]
    exact h51
  · have := htb rfl
    rw [if_pos rfl, if_neg (by rw [geL_2 (by omega)]; omega)]
    exact h51
theorem m180_go {y : Int64} {ty : Int32} {P : Nat} (hM : M < 64) (hP : P < 8) (h17 : qr17.length = 64) (h18 : qr18.length = 64) (h19 : qr19.length = 64) (h20 : qr20.length = 512) (h21 : qr21.length = 65) (h22 : qr22.length = 4096) (h23 : qr23.length = 4096) (h24 : qr24.length = 4096) (h25 : qr25.length = 4096) (h26 : qr26.length = 4096) (h27 : qr27.length = 4096) (h4 : ql4.length = 64) (h5 : ql5.length = 512) (h6 : ql6.length = 4096) (h7 : ql7.length = 4096) (h19v : qr19.getD M 0 = nI P) (hd : ∀ e, e < P → ¬ ql5.getD (8 * M + e) 0 = y) : ∀ (m i f : Nat), i + m = P → m < f → m180_66 f y ty (nI M) (nI i) (tyR t qr17 qr18 qr19 qr20 qr21 qr22 qr23 qr24 qr25 qr26 qr27 qr28 qr29 qr30 qi31 qi32 qi33 qi34 qi35 qi36 ql4 ql5 ql6 ql7 qz1) = some (nI (P + 1), (tyR t qr17 qr18 (qr19.set M (nI (P + 1))) (qr20.set (8 * M + P) ty) qr21 qr22 qr23 qr24 qr25 qr26 qr27 qr28 qr29 qr30 qi31 qi32 qi33 qi34 qi35 qi36 ql4 (ql5.set (8 * M + P) y) ql6 ql7 false)) := by
  intro m
  induction m with
  | zero =>
    intro i f hi hf
    obtain ⟨f, rfl⟩ : ∃ f', f = f' + 1 := ⟨f - 1, by omega⟩
    unfold m180_66
    rw [tyR_r19, xsGet_d (by omega) (by omega), bs, bs, h19v, if_pos (by rw [leN (by omega) (by omega)]; omega), tyR_l5, nI_8x, xlPut_n (by omega) (by omega), bs, bs, nI_8x, tyR_r20, xsPut_n (by omega) (by omega), bs, bs, nI_1, xsPut_n (by omega) (by omega), bs, xsGet_d (by omega) (by rw [List.length_set]; omega), bs, getD_setn (by omega), if_pos rfl]
    simp only [tyR_sl5, tyR_sr20, tyR_sr19, tyR_sz1]
  | succ m ih =>
    intro i f hi hf
    obtain ⟨f, rfl⟩ : ∃ f', f = f' + 1 := ⟨f - 1, by omega⟩
    unfold m180_66
    rw [tyR_r19, xsGet_d (by omega) (by omega), bs, h19v, if_neg (by rw [leN (by omega) (by omega)]; omega), tyR_l5, nI_8x, xlGet_d (by omega) (by omega), bs, if_neg (fun q => hd i (by omega) ((lg_cmp_eq _ _).mp q)), nI_1]
    exact ih (i + 1) f (by omega) (by omega)
theorem param_eq {y : Int64} {ty P : Nat} (hM : M < 64) (hK : K ≤ 4096) (hP : P < 8) (h17 : qr17.length = 64) (h18 : qr18.length = 64) (h19 : qr19.length = 64) (h20 : qr20.length = 512) (h21 : qr21.length = 65) (h22 : qr22.length = 4096) (h23 : qr23.length = 4096) (h24 : qr24.length = 4096) (h25 : qr25.length = 4096) (h26 : qr26.length = 4096) (h27 : qr27.length = 4096) (h4 : ql4.length = 64) (h5 : ql5.length = 512) (h6 : ql6.length = 4096) (h7 : ql7.length = 4096) (h19v : qr19.getD M 0 = nI P) (h21v : qr21.getD M 0 = nI K) (hd : ∀ e, e < P → ¬ ql5.getD (8 * M + e) 0 = y) (hy : 0 < y) (hty : ty ≤ 3) : m180 y (nI ty) (tyR t qr17 qr18 qr19 qr20 qr21 qr22 qr23 qr24 qr25 qr26 qr27 qr28 qr29 qr30 qi31 (nI (M + 1)) (nI K) qi34 qi35 qi36 ql4 ql5 ql6 ql7 qz1) = some (nI (P + 1), (tyR t qr17 qr18 (qr19.set M (nI (P + 1))) (qr20.set (8 * M + P) (nI ty)) qr21 qr22 qr23 qr24 qr25 qr26 qr27 qr28 qr29 qr30 0 (nI (M + 1)) (nI K) qi34 qi35 qi36 ql4 (ql5.set (8 * M + P) y) ql6 ql7 false)) := by
  unfold m180
  rw [tyR_i32, if_neg (by rw [eqL_0 (by omega)]; omega), nI_pred, tyR_r19, xsGet_d (by omega) (by omega), bs, h19v, if_neg (by rw [eqL_8 (by omega)]; omega), tyR_r21, xsGet_d (by omega) (by omega), bs, h21v, tyR_i33, if_neg (by rw [ltN (by omega) (by omega)]; omega), if_neg (by rw [lg_cmp_le]; exact Int64.not_le.mpr hy), if_neg (nI_pos (by omega)), if_pos (by rw [leL_3 (by omega)]; exact hty), tyR_si31]
  exact m180_go hM hP h17 h18 h19 h20 h21 h22 h23 h24 h25 h26 h27 h4 h5 h6 h7 h19v hd P 0 1000000 (by omega) (by omega)
end Look2
