/-! the reference goes on behind a fault -/
def FQ (t : xSt) (f pl : Int32) (o : Option xSt) : Prop := ∃ q, o = some q ∧ RF t f pl q
theorem nI_8x (a b : Nat) : (8 : Int32) * nI a + nI b = nI (8 * a + b) := by
  show Int32.ofNat 8 * Int32.ofNat a + nI b = _
  rw [← Int32.ofNat_mul]
  exact nI_add _ _
section FltR
variable {T U : List Int32} {n p D : Nat} {t : xSt} {qr2 qr3 qr4 qr5 qr6 qr7 qr8 qr9 qr10 qr11 qr12 qr13 qr14 qr15 qr16 : List Int32} {qi21 qi22 qi23 qi24 qi25 qi26 qi27 qi28 qi29 qi30 : Int32} {qj0 : Int64} {ql0 ql1 ql2 ql3 : List Int64}
theorem f430 (hf : ¬ qi21 = 0) (hf0 : ¬ qi21 ≤ 0) (hD : D < 64) (a2 : qr2.length = 64) (a3 : qr3.length = 64) (a4 : qr4.length = 64) (a5 : qr5.length = 64) (a6 : qr6.length = 64) (a7 : qr7.length = 512) (b0 : ql0.length = 64) (b1 : ql1.length = 512) (h8 : qr8.length = 8192) (h9 : qr9.length = 8192) (h10 : qr10.length = 8192) (h11 : qr11.length = 8192) (h12 : qr12.length = 8192) (h13 : qr13.length = 8192) (h14 : qr14.length = 8192) (g2 : ql2.length = 8192) (g3 : ql3.length = 8192) (h15 : qr15.length = 33000) (h16 : qr16.length = 33000) : FQ t qi21 qi22 (m157_430 (rdR t qr2 qr3 qr4 qr5 qr6 qr7 qr8 qr9 qr10 qr11 qr12 qr13 qr14 qr15 qr16 qi21 qi22 qi23 qi24 qi25 qi26 qi27 qi28 qi29 qi30 qj0 ql0 ql1 ql2 ql3)) := by
  refine ⟨(rdR t qr2 qr3 qr4 qr5 qr6 qr7 qr8 qr9 qr10 qr11 qr12 qr13 qr14 qr15 qr16 qi21 qi22 qi23 qi24 qi25 qi26 (qi27 + 1) qi28 qi29 qi30 qj0 ql0 ql1 ql2 ql3), ?_, rf_mk a2 a3 a4 a5 a6 a7 b0 b1 h8 h9 h10 h11 h12 h13 h14 g2 g3 h15 h16⟩
  unfold m157_430
  rw [rdR_i21, if_neg hf, rdR_i27, rdR_si27]
theorem f385 (hf : ¬ qi21 = 0) (hf0 : ¬ qi21 ≤ 0) (hD : D < 64) (a2 : qr2.length = 64) (a3 : qr3.length = 64) (a4 : qr4.length = 64) (a5 : qr5.length = 64) (a6 : qr6.length = 64) (a7 : qr7.length = 512) (b0 : ql0.length = 64) (b1 : ql1.length = 512) (h8 : qr8.length = 8192) (h9 : qr9.length = 8192) (h10 : qr10.length = 8192) (h11 : qr11.length = 8192) (h12 : qr12.length = 8192) (h13 : qr13.length = 8192) (h14 : qr14.length = 8192) (g2 : ql2.length = 8192) (g3 : ql3.length = 8192) (h15 : qr15.length = 33000) (h16 : qr16.length = 33000) : FQ t qi21 qi22 (m157_385 (nI D) (rdR t qr2 qr3 qr4 qr5 qr6 qr7 qr8 qr9 qr10 qr11 qr12 qr13 qr14 qr15 qr16 qi21 qi22 qi23 qi24 qi25 qi26 qi27 qi28 qi29 qi30 qj0 ql0 ql1 ql2 ql3)) := by
  unfold m157_385
  rw [rdR_r5, rdR_i28, xsPut_n (by omega) (by omega), bs, rdR_r4, xsGet_d (by omega) (by omega), bs, rdR_i21, if_neg hf, rdR_sr5, rdR_si30]
  exact f430 hf hf0 hD a2 a3 a4 (by rw [List.length_set]; exact a5) a6 a7 b0 b1 h8 h9 h10 h11 h12 h13 h14 g2 g3 h15 h16
theorem f312 (hf : ¬ qi21 = 0) (hf0 : ¬ qi21 ≤ 0) (hD : D < 64) (a2 : qr2.length = 64) (a3 : qr3.length = 64) (a4 : qr4.length = 64) (a5 : qr5.length = 64) (a6 : qr6.length = 64) (a7 : qr7.length = 512) (b0 : ql0.length = 64) (b1 : ql1.length = 512) (h8 : qr8.length = 8192) (h9 : qr9.length = 8192) (h10 : qr10.length = 8192) (h11 : qr11.length = 8192) (h12 : qr12.length = 8192) (h13 : qr13.length = 8192) (h14 : qr14.length = 8192) (g2 : ql2.length = 8192) (g3 : ql3.length = 8192) (h15 : qr15.length = 33000) (h16 : qr16.length = 33000) : FQ t qi21 qi22 (m157_312 (nI D) (rdR t qr2 qr3 qr4 qr5 qr6 qr7 qr8 qr9 qr10 qr11 qr12 qr13 qr14 qr15 qr16 qi21 qi22 qi23 qi24 qi25 qi26 qi27 qi28 qi29 qi30 qj0 ql0 ql1 ql2 ql3)) := by
  unfold m157_312
  rw [rdR_i21, if_neg hf]
  exact f385 hf hf0 hD a2 a3 a4 a5 a6 a7 b0 b1 h8 h9 h10 h11 h12 h13 h14 g2 g3 h15 h16
theorem f360 {b : Bool} (hf : ¬ qi21 = 0) (hf0 : ¬ qi21 ≤ 0) (hD : D < 64) (a2 : qr2.length = 64) (a3 : qr3.length = 64) (a4 : qr4.length = 64) (a5 : qr5.length = 64) (a6 : qr6.length = 64) (a7 : qr7.length = 512) (b0 : ql0.length = 64) (b1 : ql1.length = 512) (h8 : qr8.length = 8192) (h9 : qr9.length = 8192) (h10 : qr10.length = 8192) (h11 : qr11.length = 8192) (h12 : qr12.length = 8192) (h13 : qr13.length = 8192) (h14 : qr14.length = 8192) (g2 : ql2.length = 8192) (g3 : ql3.length = 8192) (h15 : qr15.length = 33000) (h16 : qr16.length = 33000) : FQ t qi21 qi22 (m157_360 (nI D) b (rdR t qr2 qr3 qr4 qr5 qr6 qr7 qr8 qr9 qr10 qr11 qr12 qr13 qr14 qr15 qr16 qi21 qi22 qi23 qi24 qi25 qi26 qi27 qi28 qi29 qi30 qj0 ql0 ql1 ql2 ql3)) := by
  unfold m157_360 m157_384
  rw [m158_flt hf, bs, rdR_i21, if_neg hf0, rdR_r3, xsPut_n (by omega) (by omega), bs, rdR_sr3]
  exact f385 hf hf0 hD a2 (by rw [List.length_set]; exact a3) a4 a5 a6 a7 b0 b1 h8 h9 h10 h11 h12 h13 h14 g2 g3 h15 h16
theorem f240 {b : Bool} {f : Nat} (hff : 0 < f) (hf : ¬ qi21 = 0) (hf0 : ¬ qi21 ≤ 0) (hD : D < 64) (a2 : qr2.length = 64) (a3 : qr3.length = 64) (a4 : qr4.length = 64) (a5 : qr5.length = 64) (a6 : qr6.length = 64) (a7 : qr7.length = 512) (b0 : ql0.length = 64) (b1 : ql1.length = 512) (h8 : qr8.length = 8192) (h9 : qr9.length = 8192) (h10 : qr10.length = 8192) (h11 : qr11.length = 8192) (h12 : qr12.length = 8192) (h13 : qr13.length = 8192) (h14 : qr14.length = 8192) (g2 : ql2.length = 8192) (g3 : ql3.length = 8192) (h15 : qr15.length = 33000) (h16 : qr16.length = 33000) : FQ t qi21 qi22 (m157_240 f (nI D) b (rdR t qr2 qr3 qr4 qr5 qr6 qr7 qr8 qr9 qr10 qr11 qr12 qr13 qr14 qr15 qr16 qi21 qi22 qi23 qi24 qi25 qi26 qi27 qi28 qi29 qi30 qj0 ql0 ql1 ql2 ql3)) := by
  obtain ⟨f, rfl⟩ : ∃ f', f = f' + 1 := ⟨f - 1, by omega⟩
  unfold m157_240
  cases b
  · rw [if_neg ff]
    exact f312 hf hf0 hD a2 a3 a4 a5 a6 a7 b0 b1 h8 h9 h10 h11 h12 h13 h14 g2 g3 h15 h16
  · rw [if_pos rfl, rdR_i21, if_neg hf]
    exact f312 hf hf0 hD a2 a3 a4 a5 a6 a7 b0 b1 h8 h9 h10 h11 h12 h13 h14 g2 g3 h15 h16
theorem f238 (hf : ¬ qi21 = 0) (hf0 : ¬ qi21 ≤ 0) (hD : D < 64) (a2 : qr2.length = 64) (a3 : qr3.length = 64) (a4 : qr4.length = 64) (a5 : qr5.length = 64) (a6 : qr6.length = 64) (a7 : qr7.length = 512) (b0 : ql0.length = 64) (b1 : ql1.length = 512) (h8 : qr8.length = 8192) (h9 : qr9.length = 8192) (h10 : qr10.length = 8192) (h11 : qr11.length = 8192) (h12 : qr12.length = 8192) (h13 : qr13.length = 8192) (h14 : qr14.length = 8192) (g2 : ql2.length = 8192) (g3 : ql3.length = 8192) (h15 : qr15.length = 33000) (h16 : qr16.length = 33000) : FQ t qi21 qi22 (m157_238 (nI D) (rdR t qr2 qr3 qr4 qr5 qr6 qr7 qr8 qr9 qr10 qr11 qr12 qr13 qr14 qr15 qr16 qi21 qi22 qi23 qi24 qi25 qi26 qi27 qi28 qi29 qi30 qj0 ql0 ql1 ql2 ql3)) := by
  unfold m157_238
  exact f240 (by omega) hf hf0 hD a2 a3 a4 a5 a6 a7 b0 b1 h8 h9 h10 h11 h12 h13 h14 g2 g3 h15 h16
theorem f234 {b : Bool} (hf : ¬ qi21 = 0) (hf0 : ¬ qi21 ≤ 0) (hD : D < 64) (a2 : qr2.length = 64) (a3 : qr3.length = 64) (a4 : qr4.length = 64) (a5 : qr5.length = 64) (a6 : qr6.length = 64) (a7 : qr7.length = 512) (b0 : ql0.length = 64) (b1 : ql1.length = 512) (h8 : qr8.length = 8192) (h9 : qr9.length = 8192) (h10 : qr10.length = 8192) (h11 : qr11.length = 8192) (h12 : qr12.length = 8192) (h13 : qr13.length = 8192) (h14 : qr14.length = 8192) (g2 : ql2.length = 8192) (g3 : ql3.length = 8192) (h15 : qr15.length = 33000) (h16 : qr16.length = 33000) : FQ t qi21 qi22 (m157_234 (nI D) b (rdR t qr2 qr3 qr4 qr5 qr6 qr7 qr8 qr9 qr10 qr11 qr12 qr13 qr14 qr15 qr16 qi21 qi22 qi23 qi24 qi25 qi26 qi27 qi28 qi29 qi30 qj0 ql0 ql1 ql2 ql3)) := by
  unfold m157_234
  rw [m158_flt hf, bs]
  exact f238 hf hf0 hD a2 a3 a4 a5 a6 a7 b0 b1 h8 h9 h10 h11 h12 h13 h14 g2 g3 h15 h16
theorem f179 {b : Bool} (hf : ¬ qi21 = 0) (hf0 : ¬ qi21 ≤ 0) (hD : D < 64) (a2 : qr2.length = 64) (a3 : qr3.length = 64) (a4 : qr4.length = 64) (a5 : qr5.length = 64) (a6 : qr6.length = 64) (a7 : qr7.length = 512) (b0 : ql0.length = 64) (b1 : ql1.length = 512) (h8 : qr8.length = 8192) (h9 : qr9.length = 8192) (h10 : qr10.length = 8192) (h11 : qr11.length = 8192) (h12 : qr12.length = 8192) (h13 : qr13.length = 8192) (h14 : qr14.length = 8192) (g2 : ql2.length = 8192) (g3 : ql3.length = 8192) (h15 : qr15.length = 33000) (h16 : qr16.length = 33000) : FQ t qi21 qi22 (m157_179 (nI D) b (rdR t qr2 qr3 qr4 qr5 qr6 qr7 qr8 qr9 qr10 qr11 qr12 qr13 qr14 qr15 qr16 qi21 qi22 qi23 qi24 qi25 qi26 qi27 qi28 qi29 qi30 qj0 ql0 ql1 ql2 ql3)) := by
  unfold m157_179
  rw [m158_flt hf, bs, rdR_l0, rdR_j0, xlPut_n (by omega) (by omega), bs, rdR_r6, rdR_i25, xsPut_n (by omega) (by omega), bs, rdR_r4, xsPut_n (by omega) (by omega), bs, rdR_i21, if_neg hf, rdR_sl0, rdR_sr6, rdR_sr4]
  exact f238 hf hf0 hD a2 a3 (by rw [List.length_set]; exact a4) a5 (by rw [List.length_set]; exact a6) a7 (by rw [List.length_set]; exact b0) b1 h8 h9 h10 h11 h12 h13 h14 g2 g3 h15 h16
theorem f120 (hf : ¬ qi21 = 0) (hf0 : ¬ qi21 ≤ 0) (hD : D < 64) (a2 : qr2.length = 64) (a3 : qr3.length = 64) (a4 : qr4.length = 64) (a5 : qr5.length = 64) (a6 : qr6.length = 64) (a7 : qr7.length = 512) (b0 : ql0.length = 64) (b1 : ql1.length = 512) (h8 : qr8.length = 8192) (h9 : qr9.length = 8192) (h10 : qr10.length = 8192) (h11 : qr11.length = 8192) (h12 : qr12.length = 8192) (h13 : qr13.length = 8192) (h14 : qr14.length = 8192) (g2 : ql2.length = 8192) (g3 : ql3.length = 8192) (h15 : qr15.length = 33000) (h16 : qr16.length = 33000) : ∀ (m i f : Nat) (b : Bool), i + m = D → m < f → FQ t qi21 qi22 (m157_120 f (nI D) b (nI i) (rdR t qr2 qr3 qr4 qr5 qr6 qr7 qr8 qr9 qr10 qr11 qr12 qr13 qr14 qr15 qr16 qi21 qi22 qi23 qi24 qi25 qi26 qi27 qi28 qi29 qi30 qj0 ql0 ql1 ql2 ql3)) := by
  intro m
  induction m with
  | zero =>
    intro i f b hi hff
    obtain ⟨f, rfl⟩ : ∃ f', f = f' + 1 := ⟨f - 1, by omega⟩
    unfold m157_120
    rw [if_pos (by rw [leN (by omega) (by omega)]; omega), rdR_i21, if_pos (Int32.not_le.mp hf0)]
    exact f179 hf hf0 hD a2 a3 a4 a5 a6 a7 b0 b1 h8 h9 h10 h11 h12 h13 h14 g2 g3 h15 h16
  | succ m ih =>
    intro i f b hi hff
    obtain ⟨f, rfl⟩ : ∃ f', f = f' + 1 := ⟨f - 1, by omega⟩
    unfold m157_120
    rw [if_neg (by rw [leN (by omega) (by omega)]; omega), nI_1]
    cases b
    · rw [if_neg ff, rdR_l0, xlGet_d (by omega) (by omega), bs]
      split
      · exact ih (i + 1) f true (by omega) (by omega)
      · exact ih (i + 1) f false (by omega) (by omega)
    · rw [if_pos rfl]
      exact ih (i + 1) f true (by omega) (by omega)
theorem f104 {b : Bool} (hf : ¬ qi21 = 0) (hf0 : ¬ qi21 ≤ 0) (hD : D < 64) (a2 : qr2.length = 64) (a3 : qr3.length = 64) (a4 : qr4.length = 64) (a5 : qr5.length = 64) (a6 : qr6.length = 64) (a7 : qr7.length = 512) (b0 : ql0.length = 64) (b1 : ql1.length = 512) (h8 : qr8.length = 8192) (h9 : qr9.length = 8192) (h10 : qr10.length = 8192) (h11 : qr11.length = 8192) (h12 : qr12.length = 8192) (h13 : qr13.length = 8192) (h14 : qr14.length = 8192) (g2 : ql2.length = 8192) (g3 : ql3.length = 8192) (h15 : qr15.length = 33000) (h16 : qr16.length = 33000) : FQ t qi21 qi22 (m157_104 (nI D) b (nI D) (rdR t qr2 qr3 qr4 qr5 qr6 qr7 qr8 qr9 qr10 qr11 qr12 qr13 qr14 qr15 qr16 qi21 qi22 qi23 qi24 qi25 qi26 qi27 qi28 qi29 qi30 qj0 ql0 ql1 ql2 ql3)) := by
  unfold m157_104 m157_116
  rw [rdR_r2, xsPut_n (by omega) (by omega), bs, rdR_i21, if_neg hf, rdR_sr2]
  exact f120 hf hf0 hD (by rw [List.length_set]; exact a2) a3 a4 a5 a6 a7 b0 b1 h8 h9 h10 h11 h12 h13 h14 g2 g3 h15 h16 D 0 1000000 false (by omega) (by omega)
theorem f74 {b : Bool} (hf : ¬ qi21 = 0) (hf0 : ¬ qi21 ≤ 0) (hD : D < 64) (a2 : qr2.length = 64) (a3 : qr3.length = 64) (a4 : qr4.length = 64) (a5 : qr5.length = 64) (a6 : qr6.length = 64) (a7 : qr7.length = 512) (b0 : ql0.length = 64) (b1 : ql1.length = 512) (h8 : qr8.length = 8192) (h9 : qr9.length = 8192) (h10 : qr10.length = 8192) (h11 : qr11.length = 8192) (h12 : qr12.length = 8192) (h13 : qr13.length = 8192) (h14 : qr14.length = 8192) (g2 : ql2.length = 8192) (g3 : ql3.length = 8192) (h15 : qr15.length = 33000) (h16 : qr16.length = 33000) : FQ t qi21 qi22 (m157_74 (nI D) b (rdR t qr2 qr3 qr4 qr5 qr6 qr7 qr8 qr9 qr10 qr11 qr12 qr13 qr14 qr15 qr16 qi21 qi22 qi23 qi24 qi25 qi26 qi27 qi28 qi29 qi30 qj0 ql0 ql1 ql2 ql3)) := by
  unfold m157_74 m157_103
  rw [m158_flt hf, bs, rdR_i21, if_neg hf]
  exact f104 hf hf0 hD a2 a3 a4 a5 a6 a7 b0 b1 h8 h9 h10 h11 h12 h13 h14 g2 g3 h15 h16
theorem f98 {b : Bool} (hf : ¬ qi21 = 0) (hf0 : ¬ qi21 ≤ 0) : m165_98 (nI D) b (rdR t qr2 qr3 qr4 qr5 qr6 qr7 qr8 qr9 qr10 qr11 qr12 qr13 qr14 qr15 qr16 qi21 qi22 qi23 qi24 qi25 qi26 qi27 qi28 qi29 qi30 qj0 ql0 ql1 ql2 ql3) = some (rdR t qr2 qr3 qr4 qr5 qr6 qr7 qr8 qr9 qr10 qr11 qr12 qr13 qr14 qr15 qr16 qi21 qi22 qi23 qi24 qi25 qi26 qi27 qi28 qi29 qi30 qj0 ql0 ql1 ql2 ql3) := by
  unfold m165_98
  rw [m158_flt hf, bs, rdR_i21, if_neg hf0]
theorem f29 (hf : ¬ qi21 = 0) (hf0 : ¬ qi21 ≤ 0) (hD : D < 64) (a4 : qr4.length = 64) (b1 : ql1.length = 512) {K : Nat} (hK : qr4.getD D 0 = nI K) (hK8 : K ≤ 8) : ∀ (m i f : Nat) (b : Bool), i + m = K → m < f → m165_29 f (nI D) b (nI i) (rdR t qr2 qr3 qr4 qr5 qr6 qr7 qr8 qr9 qr10 qr11 qr12 qr13 qr14 qr15 qr16 qi21 qi22 qi23 qi24 qi25 qi26 qi27 qi28 qi29 qi30 qj0 ql0 ql1 ql2 ql3) = some (rdR t qr2 qr3 qr4 qr5 qr6 qr7 qr8 qr9 qr10 qr11 qr12 qr13 qr14 qr15 qr16 qi21 qi22 qi23 qi24 qi25 qi26 qi27 qi28 qi29 qi30 qj0 ql0 ql1 ql2 ql3) := by
  intro m
  induction m with
  | zero =>
    intro i f b hi hff
    obtain ⟨f, rfl⟩ : ∃ f', f = f' + 1 := ⟨f - 1, by omega⟩
    unfold m165_29
    rw [rdR_r4, xsGet_d (by omega) (by omega), bs, hK, if_pos (by rw [leN (by omega) (by omega)]; omega), rdR_i21, if_pos (Int32.not_le.mp hf0)]
    exact f98 hf hf0
  | succ m ih =>
    intro i f b hi hff
    obtain ⟨f, rfl⟩ : ∃ f', f = f' + 1 := ⟨f - 1, by omega⟩
    unfold m165_29
    rw [rdR_r4, xsGet_d (by omega) (by omega), bs, hK, if_neg (by rw [leN (by omega) (by omega)]; omega), nI_1]
    cases b
    · rw [if_neg ff, rdR_l1, nI_8x, xlGet_d (by omega) (by omega), bs]
      split
      · exact ih (i + 1) f true (by omega) (by omega)
      · exact ih (i + 1) f false (by omega) (by omega)
    · rw [if_pos rfl]
      exact ih (i + 1) f true (by omega) (by omega)
theorem f29_0 (hf : ¬ qi21 = 0) (hf0 : ¬ qi21 ≤ 0) (hD : D < 64) (a4 : qr4.length = 64) (b1 : ql1.length = 512) {K : Nat} (hK : qr4.getD D 0 = nI K) (hK8 : K ≤ 8) : m165_29 1000000 (nI D) false 0 (rdR t qr2 qr3 qr4 qr5 qr6 qr7 qr8 qr9 qr10 qr11 qr12 qr13 qr14 qr15 qr16 qi21 qi22 qi23 qi24 qi25 qi26 qi27 qi28 qi29 qi30 qj0 ql0 ql1 ql2 ql3) = some (rdR t qr2 qr3 qr4 qr5 qr6 qr7 qr8 qr9 qr10 qr11 qr12 qr13 qr14 qr15 qr16 qi21 qi22 qi23 qi24 qi25 qi26 qi27 qi28 qi29 qi30 qj0 ql0 ql1 ql2 ql3) := f29 hf hf0 hD a4 b1 hK hK8 K 0 1000000 false (by omega) (by omega)
/-- a token behind a fault -/
theorem tokF (h : TR T U n) (hU : gR t 1 = U) (hn : gI t 20 = nI n) (hp : p ≤ n) (hf : ¬ qi21 = 0) : ∃ pe k a x q, m150 (rdR t qr2 qr3 qr4 qr5 qr6 qr7 qr8 qr9 qr10 qr11 qr12 qr13 qr14 qr15 qr16 qi21 qi22 (nI p) qi24 qi25 qi26 qi27 qi28 qi29 qi30 qj0 ql0 ql1 ql2 ql3) = some (rdR t qr2 qr3 qr4 qr5 qr6 qr7 qr8 qr9 qr10 qr11 qr12 qr13 qr14 qr15 qr16 qi21 qi22 pe k a x qi27 qi28 qi29 qi30 q ql0 ql1 ql2 ql3) := by
  have e1 : fb qi21 = qi21 := if_neg hf
  have e2 : ∀ a, qb qi21 qi22 a = qi22 := fun a => if_neg hf
  obtain ⟨a, e, h1, h2, h3, hx⟩ := rd_next (s := sR t 0 T) (z := false) (g := fun _ => []) (nn := []) (r1 := []) (r2 := []) (r3 := []) (i2 := 0) (i3 := 0) (i5 := 0) (i6 := 0) (i7 := 0) (i8 := 0) (i9 := 0) (i10 := 0) (i11 := 0) (j0 := 0) (l0 := []) (z4 := false) (t := t) (qr2 := qr2) (qr3 := qr3) (qr4 := qr4) (qr5 := qr5) (qr6 := qr6) (qr7 := qr7) (qr8 := qr8) (qr9 := qr9) (qr10 := qr10) (qr11 := qr11) (qr12 := qr12) (qr13 := qr13) (qr14 := qr14) (qr15 := qr15) (qr16 := qr16) (qi21 := qi21) (qi22 := qi22) (qi24 := qi24) (qi25 := qi25) (qi26 := qi26) (qi27 := qi27) (qi28 := qi28) (qi29 := qi29) (qi30 := qi30) (qj0 := qj0) (ql0 := ql0) (ql1 := ql1) (ql2 := ql2) (ql3 := ql3) h (by rw [gR_sR, if_pos rfl]) hU hn hp
  rw [e1] at hx
  simp only [e2] at hx
  rcases hx with ⟨_, _, _, f4⟩ | ⟨_, d', x, k, q, pe, _, f3⟩ | ⟨_, _, f3⟩ | ⟨_, _, f3⟩ | ⟨_, _, _, _, _, f3⟩ | ⟨_, x, _, f3⟩
  · exact ⟨_, _, _, _, _, f4⟩
  · exact ⟨_, _, _, _, _, f3⟩
  · exact ⟨_, _, _, _, _, f3⟩
  · exact ⟨_, _, _, _, _, f3⟩
  · exact ⟨_, _, _, _, _, f3⟩
  · exact ⟨_, _, _, _, _, f3⟩
end FltR
