/-! the reference goes on behind a part -/
section MR3
variable {σ : xG} {t : xSt} {hds tls hd vars wn wp wb ops : List Int32} {cl md rb wt om ct nw : Int32}
theorem mr220r (hP : SP σ) (hR : SR σ t) {k i : Nat} (hk : k < yN σ) (hi : i ≤ yn σ k) : m220 (nI k) (nI i) (rS t hds tls hd vars wn wp wb ops cl md rb wt om ct nw) = some (nI (yo σ k i), rS t hds tls hd vars wn wp wb ops cl md rb wt om ct nw) := mr220 hP hR hk hi rfl
theorem rp_next (hP : SP σ) (hR : SR σ t) {k i W : Nat} (hk : k < yN σ) (hc : yCol σ k) (hi : i + 1 < yn σ k) (hW : W < 12100) (h1 : wn.length = 12100) (h2 : wp.length = 12100) (h3 : wb.length = 12100) : m219 (nI k) (nI i) (rS t hds tls hd vars wn wp wb ops cl md rb (nI W) om ct nw) = some (rS t hds tls hd vars (wn.set W (nI k)) (wp.set W (nI (i + 1))) (wb.set W rb) ops cl md rb (nI (W + 1)) om ct (nI (yo σ k (i + 1)))) := by
  have hN := hP.2.2.2.2.2.1
  have hn2 := yn_le hP hk
  have h23 := (hP.1 k hk).1.1
  have hsn := hP.1 k hk
  unfold m219
  simp only [rS_g48, rS_g49, rS_g50, rS_g51, rS_g52, rS_g53, rS_g54, rS_g55, rS_i12, rS_i13, rS_i14, rS_i15, rS_i16, rS_i17, rS_i18, rS_o31, rS_o32, rS_o33, rS_o34, rS_o35, rS_o36, rS_o37, rS_o45, rS_o46, rS_o47, rS_p5, rS_p7, rS_p8, rS_p10, rS_p11, rS_P, rS_Z, rS_L, rS_J, rS_N, rS_s48, rS_s49, rS_s50, rS_s51, rS_s52, rS_s53, rS_s54, rS_s55, rS_t12, rS_t13, rS_t14, rS_t15, rS_t16, rS_t17, rS_t18]
  rw [sr_kind hR hk hN]
  simp (disch := omega) only [Option.bind_some, eqL_0, eqL_1, eqL_2, eqL_3, eqL_4, eqL_5, eqL_6, eqL_7, eqL_8, eqL_9, eqL_10, eqL_11, eqL_12, eqL_13, eqL_14, eqL_15, eqL_16, eqL_17, eqL_18, eqL_19, eqL_20, eqL_21, eqL_22, eqL_23, eqL_24, eqL_25, eqL_26, eqL_27, eqL_28, eqL_29, eqL_30, eqL_31, eqL_32, leL_0, geL_0, ltL_0, gtL_0, leL_1, geL_1, ltL_1, gtL_1, leL_2, geL_2, ltL_2, gtL_2, leL_3, geL_3, ltL_3, gtL_3, leL_8, geL_8, ltL_8, gtL_8, leL_9, geL_9, ltL_9, gtL_9, leL_10, geL_10, ltL_10, gtL_10, leL_11, geL_11, ltL_11, gtL_11, leL_12, geL_12, ltL_12, gtL_12, leL_17, geL_17, ltL_17, gtL_17, leL_18, geL_18, ltL_18, gtL_18, leL_23, geL_23, ltL_23, gtL_23, leL_24, geL_24, ltL_24, gtL_24, leL_26, geL_26, ltL_26, gtL_26, leL_31, geL_31, ltL_31, gtL_31, leL_32, geL_32, ltL_32, gtL_32, leL_48, geL_48, ltL_48, gtL_48, leL_57, geL_57, ltL_57, gtL_57, leL_63, geL_63, ltL_63, gtL_63, leL_64, geL_64, ltL_64, gtL_64, leL_97, geL_97, ltL_97, gtL_97, leL_122, geL_122, ltL_122, gtL_122, leL_4096, geL_4096, ltL_4096, gtL_4096, leL_6000, geL_6000, ltL_6000, gtL_6000, leL_8192, geL_8192, ltL_8192, gtL_8192, leL_1000000, geL_1000000, ltL_1000000, gtL_1000000, eqN, leN, ltN, nI_ne1, m1_ne]
  by_cases c1 : yCall σ k
  · have e : m219_25 (nI k) (nI i) (nI (yk σ k)) (rS t hds tls hd vars wn wp wb ops cl md rb (nI W) om ct nw) = some (rS t hds tls hd vars (wn.set W (nI k)) (wp.set W (nI (i + 1))) (wb.set W rb) ops cl md rb (nI (W + 1)) om ct (nI (yo σ k (i + 1)))) := by
      unfold m219_25 m219_30
      simp only [rS_g48, rS_g49, rS_g50, rS_g51, rS_g52, rS_g53, rS_g54, rS_g55, rS_i12, rS_i13, rS_i14, rS_i15, rS_i16, rS_i17, rS_i18, rS_o31, rS_o32, rS_o33, rS_o34, rS_o35, rS_o36, rS_o37, rS_o45, rS_o46, rS_o47, rS_p5, rS_p7, rS_p8, rS_p10, rS_p11, rS_P, rS_Z, rS_L, rS_J, rS_N, rS_s48, rS_s49, rS_s50, rS_s51, rS_s52, rS_s53, rS_s54, rS_s55, rS_t12, rS_t13, rS_t14, rS_t15, rS_t16, rS_t17, rS_t18, reduceIte]
      rw [sr_parts hR hk hN]
      simp (disch := omega) only [Option.bind_some, nI_1, eqL_0, eqL_1, eqL_2, eqL_3, eqL_4, eqL_5, eqL_6, eqL_7, eqL_8, eqL_9, eqL_10, eqL_11, eqL_12, eqL_13, eqL_14, eqL_15, eqL_16, eqL_17, eqL_18, eqL_19, eqL_20, eqL_21, eqL_22, eqL_23, eqL_24, eqL_25, eqL_26, eqL_27, eqL_28, eqL_29, eqL_30, eqL_31, eqL_32, leL_0, geL_0, ltL_0, gtL_0, leL_1, geL_1, ltL_1, gtL_1, leL_2, geL_2, ltL_2, gtL_2, leL_3, geL_3, ltL_3, gtL_3, leL_8, geL_8, ltL_8, gtL_8, leL_9, geL_9, ltL_9, gtL_9, leL_10, geL_10, ltL_10, gtL_10, leL_11, geL_11, ltL_11, gtL_11, leL_12, geL_12, ltL_12, gtL_12, leL_17, geL_17, ltL_17, gtL_17, leL_18, geL_18, ltL_18, gtL_18, leL_23, geL_23, ltL_23, gtL_23, leL_24, geL_24, ltL_24, gtL_24, leL_26, geL_26, ltL_26, gtL_26, leL_31, geL_31, ltL_31, gtL_31, leL_32, geL_32, ltL_32, gtL_32, leL_48, geL_48, ltL_48, gtL_48, leL_57, geL_57, ltL_57, gtL_57, leL_63, geL_63, ltL_63, gtL_63, leL_64, geL_64, ltL_64, gtL_64, leL_97, geL_97, ltL_97, gtL_97, leL_122, geL_122, ltL_122, gtL_122, leL_4096, geL_4096, ltL_4096, gtL_4096, leL_6000, geL_6000, ltL_6000, gtL_6000, leL_8192, geL_8192, ltL_8192, gtL_8192, leL_1000000, geL_1000000, ltL_1000000, gtL_1000000, eqN, leN, ltN, nI_ne1, m1_ne]
      rw [if_neg (by omega), mr217 hW h1 h2 h3]
      simp only [Option.bind_some]
      rw [mr220r (i := i + 1) hP hR hk (by omega)]
      simp only [Option.bind_some, rS_g48, rS_g49, rS_g50, rS_g51, rS_g52, rS_g53, rS_g54, rS_g55, rS_i12, rS_i13, rS_i14, rS_i15, rS_i16, rS_i17, rS_i18, rS_o31, rS_o32, rS_o33, rS_o34, rS_o35, rS_o36, rS_o37, rS_o45, rS_o46, rS_o47, rS_p5, rS_p7, rS_p8, rS_p10, rS_p11, rS_P, rS_Z, rS_L, rS_J, rS_N, rS_s48, rS_s49, rS_s50, rS_s51, rS_s52, rS_s53, rS_s54, rS_s55, rS_t12, rS_t13, rS_t14, rS_t15, rS_t16, rS_t17, rS_t18]
    rcases c1 with c | c | c
    · rw [if_pos c]; exact e
    · rw [if_neg (by omega), if_pos c]; exact e
    · rw [if_neg (by omega), if_neg (by omega), if_pos c]; exact e
  · have c2 : ¬ yk σ k = 14 ∧ ¬ yk σ k = 15 ∧ ¬ yk σ k = 23 := ⟨fun e => c1 (Or.inl e), fun e => c1 (Or.inr (Or.inl e)), fun e => c1 (Or.inr (Or.inr e))⟩
    rw [if_neg c2.1, if_neg c2.2.1, if_neg c2.2.2]
    have c3 : (yOp σ k ∨ yk σ k = 13) := by
      rcases hc with c | c | c
      · exact Or.inl c
      · exact Or.inr c
      · exact absurd c c1
    have c4 : yn σ k = 2 := by
      rcases c3 with c | c
      · exact (hsn.2.2.2.2.1 c).1
      · exact (hsn.2.2.2.2.2.2.2.2.1 c).1
    obtain rfl : i = 0 := by omega
    have e : m219_102 (nI k) (nI 0) (nI (yk σ k)) (rS t hds tls hd vars wn wp wb ops cl md rb (nI W) om ct nw) = some (rS t hds tls hd vars (wn.set W (nI k)) (wp.set W (nI (0 + 1))) (wb.set W rb) ops cl md rb (nI (W + 1)) om ct (nI (yo σ k (0 + 1)))) := by
      unfold m219_102
      rw [if_pos (by decide), mr217 hW h1 h2 h3]
      simp only [Option.bind_some]
      rw [show (1 : Int32) = nI 1 from rfl, mr220r (i := 1) hP hR hk (by omega)]
      simp only [Option.bind_some, rS_g48, rS_g49, rS_g50, rS_g51, rS_g52, rS_g53, rS_g54, rS_g55, rS_i12, rS_i13, rS_i14, rS_i15, rS_i16, rS_i17, rS_i18, rS_o31, rS_o32, rS_o33, rS_o34, rS_o35, rS_o36, rS_o37, rS_o45, rS_o46, rS_o47, rS_p5, rS_p7, rS_p8, rS_p10, rS_p11, rS_P, rS_Z, rS_L, rS_J, rS_N, rS_s48, rS_s49, rS_s50, rS_s51, rS_s52, rS_s53, rS_s54, rS_s55, rS_t12, rS_t13, rS_t14, rS_t15, rS_t16, rS_t17, rS_t18]
    unfold m219_30
    rw [if_neg (by decide : ¬ false = true)]
    rcases c3 with c | c
    · rw [if_pos (show nI (yk σ k) < 10 by rw [ltL_10 (by omega)]; have := c.2; omega)]; exact e
    · rw [if_neg (show ¬ nI (yk σ k) < 10 by rw [ltL_10 (by omega)]; omega), if_pos (show nI (yk σ k) = 13 by rw [eqL_13 (by omega)]; exact c)]; exact e
theorem rp_op (hP : SP σ) (hR : SR σ t) {k O : Nat} (hk : k < yN σ) (hc : yOp σ k) {x : Int32} (hO : O < 90000) (hops : ops.length = 100000) (hx : ∀ T, m221 (nI (yk σ k)) (ops.getD O 0) (ops.getD (O + 1) 0) T = some (x, T)) : m219 (nI k) (nI 1) (rS t hds tls hd vars wn wp wb ops cl md rb wt (nI (O + 2)) ct nw) = some (rS t hds tls hd vars wn wp wb (ops.set O x) cl md rb wt (nI (O + 1)) ct nw) := by
  have hN := hP.2.2.2.2.2.1
  have h9 := hc.2
  have h3 := hc.1
  unfold m219
  simp only [rS_g48, rS_g49, rS_g50, rS_g51, rS_g52, rS_g53, rS_g54, rS_g55, rS_i12, rS_i13, rS_i14, rS_i15, rS_i16, rS_i17, rS_i18, rS_o31, rS_o32, rS_o33, rS_o34, rS_o35, rS_o36, rS_o37, rS_o45, rS_o46, rS_o47, rS_p5, rS_p7, rS_p8, rS_p10, rS_p11, rS_P, rS_Z, rS_L, rS_J, rS_N, rS_s48, rS_s49, rS_s50, rS_s51, rS_s52, rS_s53, rS_s54, rS_s55, rS_t12, rS_t13, rS_t14, rS_t15, rS_t16, rS_t17, rS_t18]
  rw [sr_kind hR hk hN]
  simp (disch := omega) only [Option.bind_some, eqL_0, eqL_1, eqL_2, eqL_3, eqL_4, eqL_5, eqL_6, eqL_7, eqL_8, eqL_9, eqL_10, eqL_11, eqL_12, eqL_13, eqL_14, eqL_15, eqL_16, eqL_17, eqL_18, eqL_19, eqL_20, eqL_21, eqL_22, eqL_23, eqL_24, eqL_25, eqL_26, eqL_27, eqL_28, eqL_29, eqL_30, eqL_31, eqL_32, leL_0, geL_0, ltL_0, gtL_0, leL_1, geL_1, ltL_1, gtL_1, leL_2, geL_2, ltL_2, gtL_2, leL_3, geL_3, ltL_3, gtL_3, leL_8, geL_8, ltL_8, gtL_8, leL_9, geL_9, ltL_9, gtL_9, leL_10, geL_10, ltL_10, gtL_10, leL_11, geL_11, ltL_11, gtL_11, leL_12, geL_12, ltL_12, gtL_12, leL_17, geL_17, ltL_17, gtL_17, leL_18, geL_18, ltL_18, gtL_18, leL_23, geL_23, ltL_23, gtL_23, leL_24, geL_24, ltL_24, gtL_24, leL_26, geL_26, ltL_26, gtL_26, leL_31, geL_31, ltL_31, gtL_31, leL_32, geL_32, ltL_32, gtL_32, leL_48, geL_48, ltL_48, gtL_48, leL_57, geL_57, ltL_57, gtL_57, leL_63, geL_63, ltL_63, gtL_63, leL_64, geL_64, ltL_64, gtL_64, leL_97, geL_97, ltL_97, gtL_97, leL_122, geL_122, ltL_122, gtL_122, leL_4096, geL_4096, ltL_4096, gtL_4096, leL_6000, geL_6000, ltL_6000, gtL_6000, leL_8192, geL_8192, ltL_8192, gtL_8192, leL_1000000, geL_1000000, ltL_1000000, gtL_1000000, eqN, leN, ltN, nI_ne1, m1_ne]
  rw [if_neg (by omega), if_neg (by omega), if_neg (by omega)]
  unfold m219_30
  rw [if_neg (by decide : ¬ false = true), if_pos (show nI (yk σ k) < 10 by rw [ltL_10 (by omega)]; omega)]
  unfold m219_102
  rw [if_neg (by decide), mr218 (by omega) hops]
  simp only [Option.bind_some]
  rw [mr218 (by omega) hops]
  simp (disch := omega) only [Option.bind_some, eqL_0, eqL_1, eqL_2, eqL_3, eqL_4, eqL_5, eqL_6, eqL_7, eqL_8, eqL_9, eqL_10, eqL_11, eqL_12, eqL_13, eqL_14, eqL_15, eqL_16, eqL_17, eqL_18, eqL_19, eqL_20, eqL_21, eqL_22, eqL_23, eqL_24, eqL_25, eqL_26, eqL_27, eqL_28, eqL_29, eqL_30, eqL_31, eqL_32, leL_0, geL_0, ltL_0, gtL_0, leL_1, geL_1, ltL_1, gtL_1, leL_2, geL_2, ltL_2, gtL_2, leL_3, geL_3, ltL_3, gtL_3, leL_8, geL_8, ltL_8, gtL_8, leL_9, geL_9, ltL_9, gtL_9, leL_10, geL_10, ltL_10, gtL_10, leL_11, geL_11, ltL_11, gtL_11, leL_12, geL_12, ltL_12, gtL_12, leL_17, geL_17, ltL_17, gtL_17, leL_18, geL_18, ltL_18, gtL_18, leL_23, geL_23, ltL_23, gtL_23, leL_24, geL_24, ltL_24, gtL_24, leL_26, geL_26, ltL_26, gtL_26, leL_31, geL_31, ltL_31, gtL_31, leL_32, geL_32, ltL_32, gtL_32, leL_48, geL_48, ltL_48, gtL_48, leL_57, geL_57, ltL_57, gtL_57, leL_63, geL_63, ltL_63, gtL_63, leL_64, geL_64, ltL_64, gtL_64, leL_97, geL_97, ltL_97, gtL_97, leL_122, geL_122, ltL_122, gtL_122, leL_4096, geL_4096, ltL_4096, gtL_4096, leL_6000, geL_6000, ltL_6000, gtL_6000, leL_8192, geL_8192, ltL_8192, gtL_8192, leL_1000000, geL_1000000, ltL_1000000, gtL_1000000, eqN, leN, ltN, nI_ne1, m1_ne]
  rw [if_neg (by omega), hx]
  simp only [Option.bind_some, m219_163]
  rw [mr215 (by omega) hops]
  rfl
theorem rp_cons (hP : SP σ) (hR : SR σ t) {k O : Nat} (hk : k < yN σ) (hc : yk σ k = 13) {a : Nat} (ha : a + 1 < 12200) (h1 : hds.length = 12200) (h2 : tls.length = 12200) (hO : O < 90000) (hops : ops.length = 100000) : m219 (nI k) (nI 1) (rS t hds tls hd vars wn wp wb ops (nI a) md rb wt (nI (O + 2)) ct nw) = some (rS t (hds.set (a + 1) (ops.getD O 0)) (tls.set (a + 1) (ops.getD (O + 1) 0)) hd vars wn wp wb (ops.set O (nI (a + 1))) (nI (a + 1)) md rb wt (nI (O + 1)) ct nw) := by
  have hN := hP.2.2.2.2.2.1
  unfold m219
  simp only [rS_g48, rS_g49, rS_g50, rS_g51, rS_g52, rS_g53, rS_g54, rS_g55, rS_i12, rS_i13, rS_i14, rS_i15, rS_i16, rS_i17, rS_i18, rS_o31, rS_o32, rS_o33, rS_o34, rS_o35, rS_o36, rS_o37, rS_o45, rS_o46, rS_o47, rS_p5, rS_p7, rS_p8, rS_p10, rS_p11, rS_P, rS_Z, rS_L, rS_J, rS_N, rS_s48, rS_s49, rS_s50, rS_s51, rS_s52, rS_s53, rS_s54, rS_s55, rS_t12, rS_t13, rS_t14, rS_t15, rS_t16, rS_t17, rS_t18]
  rw [sr_kind hR hk hN, hc]
  simp only [Option.bind_some]
  rw [if_neg (by decide), if_neg (by decide), if_neg (by decide)]
  unfold m219_30
  rw [if_neg (by decide : ¬ false = true)]
  rw [if_neg (by decide), if_pos (by decide)]
  unfold m219_102
  rw [if_neg (by decide), mr218 (by omega) hops]
  simp only [Option.bind_some]
  rw [mr218 (by omega) hops]
  simp only [Option.bind_some]
  rw [if_pos (by decide), mr213 ha h1 h2]
  simp only [Option.bind_some, m219_163]
  rw [mr215 (by omega) hops]
  rfl
theorem rp_call (hP : SP σ) (hR : SR σ t) {k i : Nat} (hk : k < yN σ) (hc : yCall σ k) (hi : i + 1 = yn σ k) (T : xSt) (hT : gR T 31 = gR t 31) (hT2 : gR T 33 = gR t 33) : m219 (nI k) (nI i) T = m216 (nI k) T := by
  have hN := hP.2.2.2.2.2.1
  have hn2 := yn_le hP hk
  have h23 := (hP.1 k hk).1.1
  have e : m219_25 (nI k) (nI i) (nI (yk σ k)) T = m216 (nI k) T := by
    unfold m219_25 m219_30
    simp only [reduceIte]
    rw [hT2, sr_parts hR hk hN]
    simp (disch := omega) only [Option.bind_some, nI_1, eqL_0, eqL_1, eqL_2, eqL_3, eqL_4, eqL_5, eqL_6, eqL_7, eqL_8, eqL_9, eqL_10, eqL_11, eqL_12, eqL_13, eqL_14, eqL_15, eqL_16, eqL_17, eqL_18, eqL_19, eqL_20, eqL_21, eqL_22, eqL_23, eqL_24, eqL_25, eqL_26, eqL_27, eqL_28, eqL_29, eqL_30, eqL_31, eqL_32, leL_0, geL_0, ltL_0, gtL_0, leL_1, geL_1, ltL_1, gtL_1, leL_2, geL_2, ltL_2, gtL_2, leL_3, geL_3, ltL_3, gtL_3, leL_8, geL_8, ltL_8, gtL_8, leL_9, geL_9, ltL_9, gtL_9, leL_10, geL_10, ltL_10, gtL_10, leL_11, geL_11, ltL_11, gtL_11, leL_12, geL_12, ltL_12, gtL_12, leL_17, geL_17, ltL_17, gtL_17, leL_18, geL_18, ltL_18, gtL_18, leL_23, geL_23, ltL_23, gtL_23, leL_24, geL_24, ltL_24, gtL_24, leL_26, geL_26, ltL_26, gtL_26, leL_31, geL_31, ltL_31, gtL_31, leL_32, geL_32, ltL_32, gtL_32, leL_48, geL_48, ltL_48, gtL_48, leL_57, geL_57, ltL_57, gtL_57, leL_63, geL_63, ltL_63, gtL_63, leL_64, geL_64, ltL_64, gtL_64, leL_97, geL_97, ltL_97, gtL_97, leL_122, geL_122, ltL_122, gtL_122, leL_4096, geL_4096, ltL_4096, gtL_4096, leL_6000, geL_6000, ltL_6000, gtL_6000, leL_8192, geL_8192, ltL_8192, gtL_8192, leL_1000000, geL_1000000, ltL_1000000, gtL_1000000, eqN, leN, ltN, nI_ne1, m1_ne]
    rw [if_pos (by omega), if_pos hi]
    exact bind_id _
  unfold m219
  rw [hT, sr_kind hR hk hN]
  simp (disch := omega) only [Option.bind_some, eqL_0, eqL_1, eqL_2, eqL_3, eqL_4, eqL_5, eqL_6, eqL_7, eqL_8, eqL_9, eqL_10, eqL_11, eqL_12, eqL_13, eqL_14, eqL_15, eqL_16, eqL_17, eqL_18, eqL_19, eqL_20, eqL_21, eqL_22, eqL_23, eqL_24, eqL_25, eqL_26, eqL_27, eqL_28, eqL_29, eqL_30, eqL_31, eqL_32, leL_0, geL_0, ltL_0, gtL_0, leL_1, geL_1, ltL_1, gtL_1, leL_2, geL_2, ltL_2, gtL_2, leL_3, geL_3, ltL_3, gtL_3, leL_8, geL_8, ltL_8, gtL_8, leL_9, geL_9, ltL_9, gtL_9, leL_10, geL_10, ltL_10, gtL_10, leL_11, geL_11, ltL_11, gtL_11, leL_12, geL_12, ltL_12, gtL_12, leL_17, geL_17, ltL_17, gtL_17, leL_18, geL_18, ltL_18, gtL_18, leL_23, geL_23, ltL_23, gtL_23, leL_24, geL_24, ltL_24, gtL_24, leL_26, geL_26, ltL_26, gtL_26, leL_31, geL_31, ltL_31, gtL_31, leL_32, geL_32, ltL_32, gtL_32, leL_48, geL_48, ltL_48, gtL_48, leL_57, geL_57, ltL_57, gtL_57, leL_63, geL_63, ltL_63, gtL_63, leL_64, geL_64, ltL_64, gtL_64, leL_97, geL_97, ltL_97, gtL_97, leL_122, geL_122, ltL_122, gtL_122, leL_4096, geL_4096, ltL_4096, gtL_4096, leL_6000, geL_6000, ltL_6000, gtL_6000, leL_8192, geL_8192, ltL_8192, gtL_8192, leL_1000000, geL_1000000, ltL_1000000, gtL_1000000, eqN, leN, ltN, nI_ne1, m1_ne]
  rcases hc with c | c | c
  · rw [if_pos c]; exact e
  · rw [if_neg (by omega), if_pos c]; exact e
  · rw [if_neg (by omega), if_neg (by omega), if_pos c]; exact e
theorem rp_ret (hP : SP σ) (hR : SR σ t) {k : Nat} (hk : k < yN σ) (hc : yCall σ k) (T : xSt) (hT : gR T 31 = gR t 31) (hT2 : gR T 33 = gR t 33) : m219 (nI k) (nI (yn σ k)) T = some T := by
  have hN := hP.2.2.2.2.2.1
  have hn2 := yn_le hP hk
  have h23 := (hP.1 k hk).1.1
  have e : m219_25 (nI k) (nI (yn σ k)) (nI (yk σ k)) T = some T := by
    unfold m219_25 m219_30
    simp only [reduceIte]
    rw [hT2, sr_parts hR hk hN]
    simp (disch := omega) only [Option.bind_some, nI_1, eqL_0, eqL_1, eqL_2, eqL_3, eqL_4, eqL_5, eqL_6, eqL_7, eqL_8, eqL_9, eqL_10, eqL_11, eqL_12, eqL_13, eqL_14, eqL_15, eqL_16, eqL_17, eqL_18, eqL_19, eqL_20, eqL_21, eqL_22, eqL_23, eqL_24, eqL_25, eqL_26, eqL_27, eqL_28, eqL_29, eqL_30, eqL_31, eqL_32, leL_0, geL_0, ltL_0, gtL_0, leL_1, geL_1, ltL_1, gtL_1, leL_2, geL_2, ltL_2, gtL_2, leL_3, geL_3, ltL_3, gtL_3, leL_8, geL_8, ltL_8, gtL_8, leL_9, geL_9, ltL_9, gtL_9, leL_10, geL_10, ltL_10, gtL_10, leL_11, geL_11, ltL_11, gtL_11, leL_12, geL_12, ltL_12, gtL_12, leL_17, geL_17, ltL_17, gtL_17, leL_18, geL_18, ltL_18, gtL_18, leL_23, geL_23, ltL_23, gtL_23, leL_24, geL_24, ltL_24, gtL_24, leL_26, geL_26, ltL_26, gtL_26, leL_31, geL_31, ltL_31, gtL_31, leL_32, geL_32, ltL_32, gtL_32, leL_48, geL_48, ltL_48, gtL_48, leL_57, geL_57, ltL_57, gtL_57, leL_63, geL_63, ltL_63, gtL_63, leL_64, geL_64, ltL_64, gtL_64, leL_97, geL_97, ltL_97, gtL_97, leL_122, geL_122, ltL_122, gtL_122, leL_4096, geL_4096, ltL_4096, gtL_4096, leL_6000, geL_6000, ltL_6000, gtL_6000, leL_8192, geL_8192, ltL_8192, gtL_8192, leL_1000000, geL_1000000, ltL_1000000, gtL_1000000, eqN, leN, ltN, nI_ne1, m1_ne]
    rw [if_pos (by omega), if_neg (by omega)]
  unfold m219
  rw [hT, sr_kind hR hk hN]
  simp (disch := omega) only [Option.bind_some, eqL_0, eqL_1, eqL_2, eqL_3, eqL_4, eqL_5, eqL_6, eqL_7, eqL_8, eqL_9, eqL_10, eqL_11, eqL_12, eqL_13, eqL_14, eqL_15, eqL_16, eqL_17, eqL_18, eqL_19, eqL_20, eqL_21, eqL_22, eqL_23, eqL_24, eqL_25, eqL_26, eqL_27, eqL_28, eqL_29, eqL_30, eqL_31, eqL_32, leL_0, geL_0, ltL_0, gtL_0, leL_1, geL_1, ltL_1, gtL_1, leL_2, geL_2, ltL_2, gtL_2, leL_3, geL_3, ltL_3, gtL_3, leL_8, geL_8, ltL_8, gtL_8, leL_9, geL_9, ltL_9, gtL_9, leL_10, geL_10, ltL_10, gtL_10, leL_11, geL_11, ltL_11, gtL_11, leL_12, geL_12, ltL_12, gtL_12, leL_17, geL_17, ltL_17, gtL_17, leL_18, geL_18, ltL_18, gtL_18, leL_23, geL_23, ltL_23, gtL_23, leL_24, geL_24, ltL_24, gtL_24, leL_26, geL_26, ltL_26, gtL_26, leL_31, geL_31, ltL_31, gtL_31, leL_32, geL_32, ltL_32, gtL_32, leL_48, geL_48, ltL_48, gtL_48, leL_57, geL_57, ltL_57, gtL_57, leL_63, geL_63, ltL_63, gtL_63, leL_64, geL_64, ltL_64, gtL_64, leL_97, geL_97, ltL_97, gtL_97, leL_122, geL_122, ltL_122, gtL_122, leL_4096, geL_4096, ltL_4096, gtL_4096, leL_6000, geL_6000, ltL_6000, gtL_6000, leL_8192, geL_8192, ltL_8192, gtL_8192, leL_1000000, geL_1000000, ltL_1000000, gtL_1000000, eqN, leN, ltN, nI_ne1, m1_ne]
  rcases hc with c | c | c
  · rw [if_pos c]; exact e
  · rw [if_neg (by omega), if_pos c]; exact e
  · rw [if_neg (by omega), if_neg (by omega), if_pos c]; exact e
/-- not a call: the kinds by number -/
theorem rp_kind (hP : SP σ) (hR : SR σ t) {k : Nat} (hk : k < yN σ) {r : Nat} (hr : yk σ k = r) (hr1 : r ≠ 14) (hr2 : r ≠ 15) (hr3 : r ≠ 23) (h23 : r < 24) (a2 : Int32) (T : xSt) (hT : gR T 31 = gR t 31) : m219 (nI k) a2 T = m219_30 (nI k) a2 (nI r) false T := by
  have hN := hP.2.2.2.2.2.1
  unfold m219
  rw [hT, sr_kind hR hk hN, hr]
  simp (disch := omega) only [Option.bind_some, eqL_0, eqL_1, eqL_2, eqL_3, eqL_4, eqL_5, eqL_6, eqL_7, eqL_8, eqL_9, eqL_10, eqL_11, eqL_12, eqL_13, eqL_14, eqL_15, eqL_16, eqL_17, eqL_18, eqL_19, eqL_20, eqL_21, eqL_22, eqL_23, eqL_24, eqL_25, eqL_26, eqL_27, eqL_28, eqL_29, eqL_30, eqL_31, eqL_32, leL_0, geL_0, ltL_0, gtL_0, leL_1, geL_1, ltL_1, gtL_1, leL_2, geL_2, ltL_2, gtL_2, leL_3, geL_3, ltL_3, gtL_3, leL_8, geL_8, ltL_8, gtL_8, leL_9, geL_9, ltL_9, gtL_9, leL_10, geL_10, ltL_10, gtL_10, leL_11, geL_11, ltL_11, gtL_11, leL_12, geL_12, ltL_12, gtL_12, leL_17, geL_17, ltL_17, gtL_17, leL_18, geL_18, ltL_18, gtL_18, leL_23, geL_23, ltL_23, gtL_23, leL_24, geL_24, ltL_24, gtL_24, leL_26, geL_26, ltL_26, gtL_26, leL_31, geL_31, ltL_31, gtL_31, leL_32, geL_32, ltL_32, gtL_32, leL_48, geL_48, ltL_48, gtL_48, leL_57, geL_57, ltL_57, gtL_57, leL_63, geL_63, ltL_63, gtL_63, leL_64, geL_64, ltL_64, gtL_64, leL_97, geL_97, ltL_97, gtL_97, leL_122, geL_122, ltL_122, gtL_122, leL_4096, geL_4096, ltL_4096, gtL_4096, leL_6000, geL_6000, ltL_6000, gtL_6000, leL_8192, geL_8192, ltL_8192, gtL_8192, leL_1000000, geL_1000000, ltL_1000000, gtL_1000000, eqN, leN, ltN, nI_ne1, m1_ne]
  rw [if_neg hr1, if_neg hr2, if_neg hr3]
theorem rp_kindR (hP : SP σ) (hR : SR σ t) {k : Nat} (hk : k < yN σ) {r : Nat} (hr : yk σ k = r) (hr1 : r ≠ 14) (hr2 : r ≠ 15) (hr3 : r ≠ 23) (h23 : r < 24) {a2 : Int32} : m219 (nI k) a2 (rS t hds tls hd vars wn wp wb ops cl md rb wt om ct nw) = m219_30 (nI k) a2 (nI r) false (rS t hds tls hd vars wn wp wb ops cl md rb wt om ct nw) := rp_kind hP hR hk hr hr1 hr2 hr3 h23 _ _ rfl
theorem rp_mod (hP : SP σ) (hR : SR σ t) {k O : Nat} (hk : k < yN σ) (hc : yk σ k = 16 ∨ yk σ k = 17) {m : Nat} (hm : m + 1 < 12400) (hh : hd.length = 12400) (hO : O < 90000) (hops : ops.length = 100000) : m219 (nI k) (nI 0) (rS t hds tls hd vars wn wp wb ops cl (nI m) rb wt (nI (O + 1)) ct nw) = some (rS t hds tls (hd.set (m + 1) (ops.getD O 0)) vars wn wp wb (ops.set O (nI (m + 1))) cl (nI (m + 1)) rb wt (nI (O + 1)) ct nw) := by
  have e : m219_179 (rS t hds tls hd vars wn wp wb ops cl (nI m) rb wt (nI (O + 1)) ct nw) = some (rS t hds tls (hd.set (m + 1) (ops.getD O 0)) vars wn wp wb (ops.set O (nI (m + 1))) cl (nI (m + 1)) rb wt (nI (O + 1)) ct nw) := by
    unfold m219_179
    rw [mr218 (by omega) hops]
    simp only [Option.bind_some]
    rw [mr212 hm hh]
    simp only [Option.bind_some]
    rw [mr215 (by omega) hops]
    rfl
  rcases hc with c | c
  · rw [rp_kindR hP hR hk c (by decide) (by decide) (by decide) (by decide)]
    unfold m219_30
    rw [if_neg (by decide : ¬ false = true)]
    rw [if_neg (by decide), if_neg (by decide), if_pos (by decide)]
    exact e
  · rw [rp_kindR hP hR hk c (by decide) (by decide) (by decide) (by decide)]
    unfold m219_30
    rw [if_neg (by decide : ¬ false = true)]
    rw [if_neg (by decide), if_neg (by decide), if_neg (by decide), if_pos (by decide)]
    exact e
theorem rp_wr (hP : SP σ) (hR : SR σ t) {k : Nat} (hk : k < yN σ) (hc : yk σ k = 19) (T : xSt) (hT : gR T 31 = gR t 31) (a2 : Int32) : m219 (nI k) a2 T = some T := by
  rw [rp_kind hP hR hk hc (by decide) (by decide) (by decide) (by decide) _ _ hT]
  unfold m219_30
  rw [if_neg (by decide : ¬ false = true)]
  rw [if_neg (by decide), if_neg (by decide), if_neg (by decide), if_neg (by decide), if_neg (by decide), if_neg (by decide), if_neg (by decide), if_neg (by decide), if_neg (by decide), if_neg (by decide), if_neg (by decide)]
theorem rp_if (hP : SP σ) (hR : SR σ t) {k O : Nat} (hk : k < yN σ) (hc : yIf σ k) (hO : O < 90000) (hops : ops.length = 100000) (a2 : Int32) : m219 (nI k) a2 (rS t hds tls hd vars wn wp wb ops cl md rb wt (nI (O + 1)) ct nw) = some (rS t hds tls hd vars wn wp wb ops cl md rb wt (nI O) ct (nI (yo σ k (if ops.getD O 0 = 0 then 2 else 1)))) := by
  have h3 := ((hP.1 k hk).2.2.2.2.2.1 hc).1
  have e : m219_206 (nI k) (rS t hds tls hd vars wn wp wb ops cl md rb wt (nI (O + 1)) ct nw) = some (rS t hds tls hd vars wn wp wb ops cl md rb wt (nI O) ct (nI (yo σ k (if ops.getD O 0 = 0 then 2 else 1)))) := by
    unfold m219_206
    rw [mr218 (by omega) hops]
    simp only [Option.bind_some, m219_221]
    by_cases z : ops.getD O 0 = 0
    · rw [if_pos z, if_pos z, show (2 : Int32) = nI 2 from rfl, mr220r (i := 2) hP hR hk (by omega)]
      simp only [Option.bind_some, rS_g48, rS_g49, rS_g50, rS_g51, rS_g52, rS_g53, rS_g54, rS_g55, rS_i12, rS_i13, rS_i14, rS_i15, rS_i16, rS_i17, rS_i18, rS_o31, rS_o32, rS_o33, rS_o34, rS_o35, rS_o36, rS_o37, rS_o45, rS_o46, rS_o47, rS_p5, rS_p7, rS_p8, rS_p10, rS_p11, rS_P, rS_Z, rS_L, rS_J, rS_N, rS_s48, rS_s49, rS_s50, rS_s51, rS_s52, rS_s53, rS_s54, rS_s55, rS_t12, rS_t13, rS_t14, rS_t15, rS_t16, rS_t17, rS_t18]
    · rw [if_neg z, if_neg z, show (1 : Int32) = nI 1 from rfl, mr220r (i := 1) hP hR hk (by omega)]
      simp only [Option.bind_some, rS_g48, rS_g49, rS_g50, rS_g51, rS_g52, rS_g53, rS_g54, rS_g55, rS_i12, rS_i13, rS_i14, rS_i15, rS_i16, rS_i17, rS_i18, rS_o31, rS_o32, rS_o33, rS_o34, rS_o35, rS_o36, rS_o37, rS_o45, rS_o46, rS_o47, rS_p5, rS_p7, rS_p8, rS_p10, rS_p11, rS_P, rS_Z, rS_L, rS_J, rS_N, rS_s48, rS_s49, rS_s50, rS_s51, rS_s52, rS_s53, rS_s54, rS_s55, rS_t12, rS_t13, rS_t14, rS_t15, rS_t16, rS_t17, rS_t18]
  rcases hc with c | c
  · rw [rp_kindR hP hR hk c (by decide) (by decide) (by decide) (by decide)]
    unfold m219_30
    rw [if_neg (by decide : ¬ false = true)]
    rw [if_neg (by decide), if_neg (by decide), if_neg (by decide), if_neg (by decide), if_pos (by decide)]
    exact e
  · rw [rp_kindR hP hR hk c (by decide) (by decide) (by decide) (by decide)]
    unfold m219_30
    rw [if_neg (by decide : ¬ false = true)]
    rw [if_neg (by decide), if_neg (by decide), if_neg (by decide), if_neg (by decide), if_neg (by decide), if_pos (by decide)]
    exact e
theorem rp_let (hP : SP σ) (hR : SR σ t) {k O : Nat} (hk : k < yN σ) (hc : yLet σ k) {rv : Nat} (hrv : rv + yl σ k < 290000) (hv : vars.length = 290000) (hO : O < 90000) (hops : ops.length = 100000) (a2 : Int32) : m219 (nI k) a2 (rS t hds tls hd vars wn wp wb ops cl md (nI rv) wt (nI (O + 1)) ct nw) = some (rS t hds tls hd (vars.set (rv + yl σ k) (ops.getD O 0)) wn wp wb ops cl md (nI rv) wt (nI O) ct (nI (yo σ k 1))) := by
  have hN := hP.2.2.2.2.2.1
  have h3 := ((hP.1 k hk).2.2.2.2.2.2.1 hc).1
  have e : m219_242 (nI k) (rS t hds tls hd vars wn wp wb ops cl md (nI rv) wt (nI (O + 1)) ct nw) = some (rS t hds tls hd (vars.set (rv + yl σ k) (ops.getD O 0)) wn wp wb ops cl md (nI rv) wt (nI O) ct (nI (yo σ k 1))) := by
    unfold m219_242
    simp only [rS_g48, rS_g49, rS_g50, rS_g51, rS_g52, rS_g53, rS_g54, rS_g55, rS_i12, rS_i13, rS_i14, rS_i15, rS_i16, rS_i17, rS_i18, rS_o31, rS_o32, rS_o33, rS_o34, rS_o35, rS_o36, rS_o37, rS_o45, rS_o46, rS_o47, rS_p5, rS_p7, rS_p8, rS_p10, rS_p11, rS_P, rS_Z, rS_L, rS_J, rS_N, rS_s48, rS_s49, rS_s50, rS_s51, rS_s52, rS_s53, rS_s54, rS_s55, rS_t12, rS_t13, rS_t14, rS_t15, rS_t16, rS_t17, rS_t18]
    rw [sr_slot hR hk hN (Or.inr (Or.inl hc))]
    simp only [Option.bind_some]
    rw [mr218 (by omega) hops]
    simp only [Option.bind_some, rS_g48, rS_g49, rS_g50, rS_g51, rS_g52, rS_g53, rS_g54, rS_g55, rS_i12, rS_i13, rS_i14, rS_i15, rS_i16, rS_i17, rS_i18, rS_o31, rS_o32, rS_o33, rS_o34, rS_o35, rS_o36, rS_o37, rS_o45, rS_o46, rS_o47, rS_p5, rS_p7, rS_p8, rS_p10, rS_p11, rS_P, rS_Z, rS_L, rS_J, rS_N, rS_s48, rS_s49, rS_s50, rS_s51, rS_s52, rS_s53, rS_s54, rS_s55, rS_t12, rS_t13, rS_t14, rS_t15, rS_t16, rS_t17, rS_t18, nI_add]
    rw [xsPut_n (by omega) (by omega)]
    simp only [Option.bind_some, rS_g48, rS_g49, rS_g50, rS_g51, rS_g52, rS_g53, rS_g54, rS_g55, rS_i12, rS_i13, rS_i14, rS_i15, rS_i16, rS_i17, rS_i18, rS_o31, rS_o32, rS_o33, rS_o34, rS_o35, rS_o36, rS_o37, rS_o45, rS_o46, rS_o47, rS_p5, rS_p7, rS_p8, rS_p10, rS_p11, rS_P, rS_Z, rS_L, rS_J, rS_N, rS_s48, rS_s49, rS_s50, rS_s51, rS_s52, rS_s53, rS_s54, rS_s55, rS_t12, rS_t13, rS_t14, rS_t15, rS_t16, rS_t17, rS_t18]
    rw [show (1 : Int32) = nI 1 from rfl, mr220r (i := 1) hP hR hk (by omega)]
    simp only [Option.bind_some, rS_g48, rS_g49, rS_g50, rS_g51, rS_g52, rS_g53, rS_g54, rS_g55, rS_i12, rS_i13, rS_i14, rS_i15, rS_i16, rS_i17, rS_i18, rS_o31, rS_o32, rS_o33, rS_o34, rS_o35, rS_o36, rS_o37, rS_o45, rS_o46, rS_o47, rS_p5, rS_p7, rS_p8, rS_p10, rS_p11, rS_P, rS_Z, rS_L, rS_J, rS_N, rS_s48, rS_s49, rS_s50, rS_s51, rS_s52, rS_s53, rS_s54, rS_s55, rS_t12, rS_t13, rS_t14, rS_t15, rS_t16, rS_t17, rS_t18]
  rcases hc with c | c
  · rw [rp_kindR hP hR hk c (by decide) (by decide) (by decide) (by decide)]
    unfold m219_30
    rw [if_neg (by decide : ¬ false = true)]
    rw [if_neg (by decide), if_neg (by decide), if_neg (by decide), if_neg (by decide), if_neg (by decide), if_neg (by decide), if_pos (by decide)]
    exact e
  · rw [rp_kindR hP hR hk c (by decide) (by decide) (by decide) (by decide)]
    unfold m219_30
    rw [if_neg (by decide : ¬ false = true)]
    rw [if_neg (by decide), if_neg (by decide), if_neg (by decide), if_neg (by decide), if_neg (by decide), if_neg (by decide), if_neg (by decide), if_pos (by decide)]
    exact e
theorem rp_read (hP : SP σ) (hR : SR σ t) {k O : Nat} (hk : k < yN σ) (hc : yk σ k = 18) {rv m : Nat} (hrv : rv + yl σ k < 290000) (hv : vars.length = 290000) (hh : hd.length = 12400) (hm : m < 12400) (hO : O < 90000) (hops : ops.length = 100000) (ho : ops.getD O 0 = nI m) (a2 : Int32) : m219 (nI k) a2 (rS t hds tls hd vars wn wp wb ops cl md (nI rv) wt (nI (O + 1)) ct nw) = some (rS t hds tls hd (vars.set (rv + yl σ k) (hd.getD m 0)) wn wp wb ops cl md (nI rv) wt (nI O) ct (nI (yo σ k 1))) := by
  have hN := hP.2.2.2.2.2.1
  have h3 := ((hP.1 k hk).2.2.2.2.2.2.2.2.2.2.2.2.1 hc).1
  rw [rp_kindR hP hR hk hc (by decide) (by decide) (by decide) (by decide)]
  unfold m219_30
  rw [if_neg (by decide : ¬ false = true)]
  rw [if_neg (by decide), if_neg (by decide), if_neg (by decide), if_neg (by decide), if_neg (by decide), if_neg (by decide), if_neg (by decide), if_neg (by decide), if_neg (by decide), if_neg (by decide), if_pos (by decide)]
  simp only [rS_g48, rS_g49, rS_g50, rS_g51, rS_g52, rS_g53, rS_g54, rS_g55, rS_i12, rS_i13, rS_i14, rS_i15, rS_i16, rS_i17, rS_i18, rS_o31, rS_o32, rS_o33, rS_o34, rS_o35, rS_o36, rS_o37, rS_o45, rS_o46, rS_o47, rS_p5, rS_p7, rS_p8, rS_p10, rS_p11, rS_P, rS_Z, rS_L, rS_J, rS_N, rS_s48, rS_s49, rS_s50, rS_s51, rS_s52, rS_s53, rS_s54, rS_s55, rS_t12, rS_t13, rS_t14, rS_t15, rS_t16, rS_t17, rS_t18]
  rw [sr_slot hR hk hN (Or.inr (Or.inr (Or.inr hc)))]
  simp only [Option.bind_some]
  rw [mr218 (by omega) hops, ho]
  simp only [Option.bind_some, rS_g48, rS_g49, rS_g50, rS_g51, rS_g52, rS_g53, rS_g54, rS_g55, rS_i12, rS_i13, rS_i14, rS_i15, rS_i16, rS_i17, rS_i18, rS_o31, rS_o32, rS_o33, rS_o34, rS_o35, rS_o36, rS_o37, rS_o45, rS_o46, rS_o47, rS_p5, rS_p7, rS_p8, rS_p10, rS_p11, rS_P, rS_Z, rS_L, rS_J, rS_N, rS_s48, rS_s49, rS_s50, rS_s51, rS_s52, rS_s53, rS_s54, rS_s55, rS_t12, rS_t13, rS_t14, rS_t15, rS_t16, rS_t17, rS_t18, nI_add]
  rw [xsGet_d (by omega) (by omega)]
  simp only [Option.bind_some]
  rw [xsPut_n (by omega) (by omega)]
  simp only [Option.bind_some, rS_g48, rS_g49, rS_g50, rS_g51, rS_g52, rS_g53, rS_g54, rS_g55, rS_i12, rS_i13, rS_i14, rS_i15, rS_i16, rS_i17, rS_i18, rS_o31, rS_o32, rS_o33, rS_o34, rS_o35, rS_o36, rS_o37, rS_o45, rS_o46, rS_o47, rS_p5, rS_p7, rS_p8, rS_p10, rS_p11, rS_P, rS_Z, rS_L, rS_J, rS_N, rS_s48, rS_s49, rS_s50, rS_s51, rS_s52, rS_s53, rS_s54, rS_s55, rS_t12, rS_t13, rS_t14, rS_t15, rS_t16, rS_t17, rS_t18]
  rw [show (1 : Int32) = nI 1 from rfl, mr220r (i := 1) hP hR hk (by omega)]
  simp only [Option.bind_some, rS_g48, rS_g49, rS_g50, rS_g51, rS_g52, rS_g53, rS_g54, rS_g55, rS_i12, rS_i13, rS_i14, rS_i15, rS_i16, rS_i17, rS_i18, rS_o31, rS_o32, rS_o33, rS_o34, rS_o35, rS_o36, rS_o37, rS_o45, rS_o46, rS_o47, rS_p5, rS_p7, rS_p8, rS_p10, rS_p11, rS_P, rS_Z, rS_L, rS_J, rS_N, rS_s48, rS_s49, rS_s50, rS_s51, rS_s52, rS_s53, rS_s54, rS_s55, rS_t12, rS_t13, rS_t14, rS_t15, rS_t16, rS_t17, rS_t18]
theorem rp_case (hP : SP σ) (hR : SR σ t) {k O : Nat} (hk : k < yN σ) (hc : yCase σ k) {rv a : Nat} (hrv : rv + yl σ k + 1 < 290000) (hv : vars.length = 290000) (h1 : hds.length = 12200) (h2 : tls.length = 12200) (ha : a < 12200) (hO : O < 90000) (hops : ops.length = 100000) (ho : ops.getD O 0 = nI a) (a2 : Int32) : m219 (nI k) a2 (rS t hds tls hd vars wn wp wb ops cl md (nI rv) wt (nI (O + 1)) ct nw) = some (rS t hds tls hd ((vars.set (rv + yl σ k) (hds.getD a 0)).set (rv + yl σ k + 1) (tls.getD a 0)) wn wp wb ops cl md (nI rv) wt (nI O) ct (nI (yo σ k (if a = 0 then 1 else 2)))) := by
  have hN := hP.2.2.2.2.2.1
  have h3 := ((hP.1 k hk).2.2.2.2.2.2.2.1 hc).1
  have e : m219_287 (nI k) (rS t hds tls hd vars wn wp wb ops cl md (nI rv) wt (nI (O + 1)) ct nw) = some (rS t hds tls hd ((vars.set (rv + yl σ k) (hds.getD a 0)).set (rv + yl σ k + 1) (tls.getD a 0)) wn wp wb ops cl md (nI rv) wt (nI O) ct (nI (yo σ k (if a = 0 then 1 else 2)))) := by
    unfold m219_287
    rw [mr218 (by omega) hops, ho]
    simp only [Option.bind_some, rS_g48, rS_g49, rS_g50, rS_g51, rS_g52, rS_g53, rS_g54, rS_g55, rS_i12, rS_i13, rS_i14, rS_i15, rS_i16, rS_i17, rS_i18, rS_o31, rS_o32, rS_o33, rS_o34, rS_o35, rS_o36, rS_o37, rS_o45, rS_o46, rS_o47, rS_p5, rS_p7, rS_p8, rS_p10, rS_p11, rS_P, rS_Z, rS_L, rS_J, rS_N, rS_s48, rS_s49, rS_s50, rS_s51, rS_s52, rS_s53, rS_s54, rS_s55, rS_t12, rS_t13, rS_t14, rS_t15, rS_t16, rS_t17, rS_t18]
    rw [sr_slot hR hk hN (Or.inr (Or.inr (Or.inl hc)))]
    simp only [Option.bind_some, nI_add]
    rw [xsGet_d (by omega) (by omega)]
    simp only [Option.bind_some]
    rw [xsPut_n (by omega) (by omega)]
    simp only [Option.bind_some]
    rw [xsGet_d (by omega) (by omega)]
    simp only [Option.bind_some, nI_1]
    rw [xsPut_n (by omega) (by rw [List.length_set]; omega)]
    simp (disch := omega) only [Option.bind_some, rS_g48, rS_g49, rS_g50, rS_g51, rS_g52, rS_g53, rS_g54, rS_g55, rS_i12, rS_i13, rS_i14, rS_i15, rS_i16, rS_i17, rS_i18, rS_o31, rS_o32, rS_o33, rS_o34, rS_o35, rS_o36, rS_o37, rS_o45, rS_o46, rS_o47, rS_p5, rS_p7, rS_p8, rS_p10, rS_p11, rS_P, rS_Z, rS_L, rS_J, rS_N, rS_s48, rS_s49, rS_s50, rS_s51, rS_s52, rS_s53, rS_s54, rS_s55, rS_t12, rS_t13, rS_t14, rS_t15, rS_t16, rS_t17, rS_t18, eqL_0, eqL_1, eqL_2, eqL_3, eqL_4, eqL_5, eqL_6, eqL_7, eqL_8, eqL_9, eqL_10, eqL_11, eqL_12, eqL_13, eqL_14, eqL_15, eqL_16, eqL_17, eqL_18, eqL_19, eqL_20, eqL_21, eqL_22, eqL_23, eqL_24, eqL_25, eqL_26, eqL_27, eqL_28, eqL_29, eqL_30, eqL_31, eqL_32, leL_0, geL_0, ltL_0, gtL_0, leL_1, geL_1, ltL_1, gtL_1, leL_2, geL_2, ltL_2, gtL_2, leL_3, geL_3, ltL_3, gtL_3, leL_8, geL_8, ltL_8, gtL_8, leL_9, geL_9, ltL_9, gtL_9, leL_10, geL_10, ltL_10, gtL_10, leL_11, geL_11, ltL_11, gtL_11, leL_12, geL_12, ltL_12, gtL_12, leL_17, geL_17, ltL_17, gtL_17, leL_18, geL_18, ltL_18, gtL_18, leL_23, geL_23, ltL_23, gtL_23, leL_24, geL_24, ltL_24, gtL_24, leL_26, geL_26, ltL_26, gtL_26, leL_31, geL_31, ltL_31, gtL_31, leL_32, geL_32, ltL_32, gtL_32, leL_48, geL_48, ltL_48, gtL_48, leL_57, geL_57, ltL_57, gtL_57, leL_63, geL_63, ltL_63, gtL_63, leL_64, geL_64, ltL_64, gtL_64, leL_97, geL_97, ltL_97, gtL_97, leL_122, geL_122, ltL_122, gtL_122, leL_4096, geL_4096, ltL_4096, gtL_4096, leL_6000, geL_6000, ltL_6000, gtL_6000, leL_8192, geL_8192, ltL_8192, gtL_8192, leL_1000000, geL_1000000, ltL_1000000, gtL_1000000, eqN, leN, ltN, nI_ne1, m1_ne, m219_354]
    by_cases z : a = 0
    · rw [if_pos z, if_pos z, show (1 : Int32) = nI 1 from rfl, mr220r (i := 1) hP hR hk (by omega)]
      simp only [Option.bind_some, rS_g48, rS_g49, rS_g50, rS_g51, rS_g52, rS_g53, rS_g54, rS_g55, rS_i12, rS_i13, rS_i14, rS_i15, rS_i16, rS_i17, rS_i18, rS_o31, rS_o32, rS_o33, rS_o34, rS_o35, rS_o36, rS_o37, rS_o45, rS_o46, rS_o47, rS_p5, rS_p7, rS_p8, rS_p10, rS_p11, rS_P, rS_Z, rS_L, rS_J, rS_N, rS_s48, rS_s49, rS_s50, rS_s51, rS_s52, rS_s53, rS_s54, rS_s55, rS_t12, rS_t13, rS_t14, rS_t15, rS_t16, rS_t17, rS_t18]
    · rw [if_neg z, if_neg z, show (2 : Int32) = nI 2 from rfl, mr220r (i := 2) hP hR hk (by omega)]
      simp only [Option.bind_some, rS_g48, rS_g49, rS_g50, rS_g51, rS_g52, rS_g53, rS_g54, rS_g55, rS_i12, rS_i13, rS_i14, rS_i15, rS_i16, rS_i17, rS_i18, rS_o31, rS_o32, rS_o33, rS_o34, rS_o35, rS_o36, rS_o37, rS_o45, rS_o46, rS_o47, rS_p5, rS_p7, rS_p8, rS_p10, rS_p11, rS_P, rS_Z, rS_L, rS_J, rS_N, rS_s48, rS_s49, rS_s50, rS_s51, rS_s52, rS_s53, rS_s54, rS_s55, rS_t12, rS_t13, rS_t14, rS_t15, rS_t16, rS_t17, rS_t18]
  rcases hc with c | c
  · rw [rp_kindR hP hR hk c (by decide) (by decide) (by decide) (by decide)]
    unfold m219_30
    rw [if_neg (by decide : ¬ false = true)]
    rw [if_neg (by decide), if_neg (by decide), if_neg (by decide), if_neg (by decide), if_neg (by decide), if_neg (by decide), if_neg (by decide), if_neg (by decide), if_pos (by decide)]
    exact e
  · rw [rp_kindR hP hR hk c (by decide) (by decide) (by decide) (by decide)]
    unfold m219_30
    rw [if_neg (by decide : ¬ false = true)]
    rw [if_neg (by decide), if_neg (by decide), if_neg (by decide), if_neg (by decide), if_neg (by decide), if_neg (by decide), if_neg (by decide), if_neg (by decide), if_neg (by decide), if_pos (by decide)]
    exact e
end MR3
