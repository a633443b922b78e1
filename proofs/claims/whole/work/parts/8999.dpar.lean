/-! a parameter -/
section DPar
variable {T U : List Int32} {n p N D F x y d f : Nat} {σ σ0 : Nat → Nd} {δ : Nat → Dd} {C R : xSt} {sy : Int32} {s : xSt} {z : Bool} {g : Nat → List Int32} {nn : List Int64} {r1 r2 r3 : List Int32} {i2 i3 i4 i5 i6 i7 i8 i9 i10 i11 : Int32} {j0 : Int64} {l0 : List Int64} {z4 : Bool} {t : xSt} {qr2 qr3 qr4 qr5 qr6 qr7 qr8 qr9 qr10 qr11 qr12 qr13 qr14 qr15 qr16 : List Int32} {qi21 qi22 qi23 qi24 qi25 qi26 qi27 qi28 qi29 qi30 : Int32} {qj0 : Int64} {ql0 ql1 ql2 ql3 : List Int64}
theorem f292 {b : Bool} (hff : 0 < f) (hf : ¬ qi21 = 0) (hf0 : ¬ qi21 ≤ 0) (hD : D < 64) (a2 : qr2.length = 64) (a3 : qr3.length = 64) (a4 : qr4.length = 64) (a5 : qr5.length = 64) (a6 : qr6.length = 64) (a7 : qr7.length = 512) (b0 : ql0.length = 64) (b1 : ql1.length = 512) (h8 : qr8.length = 8192) (h9 : qr9.length = 8192) (h10 : qr10.length = 8192) (h11 : qr11.length = 8192) (h12 : qr12.length = 8192) (h13 : qr13.length = 8192) (h14 : qr14.length = 8192) (g2 : ql2.length = 8192) (g3 : ql3.length = 8192) (h15 : qr15.length = 33000) (h16 : qr16.length = 33000) : FQ t qi21 qi22 (m157_292 (m157_240 f) (nI D) b (rdR t qr2 qr3 qr4 qr5 qr6 qr7 qr8 qr9 qr10 qr11 qr12 qr13 qr14 qr15 qr16 qi21 qi22 qi23 qi24 qi25 qi26 qi27 qi28 qi29 qi30 qj0 ql0 ql1 ql2 ql3)) := by
  unfold m157_292
  cases b
  · rw [if_neg ff]
    exact f240 hff hf hf0 hD a2 a3 a4 a5 a6 a7 b0 b1 h8 h9 h10 h11 h12 h13 h14 g2 g3 h15 h16
  · rw [if_pos rfl, rdR_i21, if_neg hf]
    exact f240 hff hf hf0 hD a2 a3 a4 a5 a6 a7 b0 b1 h8 h9 h10 h11 h12 h13 h14 g2 g3 h15 h16
theorem f276 {b : Bool} (hff : 0 < f) (hf : ¬ qi21 = 0) (hf0 : ¬ qi21 ≤ 0) (hD : D < 64) (a2 : qr2.length = 64) (a3 : qr3.length = 64) (a4 : qr4.length = 64) (a5 : qr5.length = 64) (a6 : qr6.length = 64) (a7 : qr7.length = 512) (b0 : ql0.length = 64) (b1 : ql1.length = 512) (h8 : qr8.length = 8192) (h9 : qr9.length = 8192) (h10 : qr10.length = 8192) (h11 : qr11.length = 8192) (h12 : qr12.length = 8192) (h13 : qr13.length = 8192) (h14 : qr14.length = 8192) (g2 : ql2.length = 8192) (g3 : ql3.length = 8192) (h15 : qr15.length = 33000) (h16 : qr16.length = 33000) : FQ t qi21 qi22 (m157_276 (m157_240 f) (nI D) b (rdR t qr2 qr3 qr4 qr5 qr6 qr7 qr8 qr9 qr10 qr11 qr12 qr13 qr14 qr15 qr16 qi21 qi22 qi23 qi24 qi25 qi26 qi27 qi28 qi29 qi30 qj0 ql0 ql1 ql2 ql3)) := by
  unfold m157_276
  rw [m158_flt hf, bs]
  split
  · exact f292 hff hf hf0 hD a2 a3 a4 a5 a6 a7 b0 b1 h8 h9 h10 h11 h12 h13 h14 g2 g3 h15 h16
  · exact f292 hff hf hf0 hD a2 a3 a4 a5 a6 a7 b0 b1 h8 h9 h10 h11 h12 h13 h14 g2 g3 h15 h16
theorem f191 {v : Int32} {K : Nat} (hf : ¬ qi21 = 0) (hD : D < 64) (hK : K < 8) (a4 : qr4.length = 64) (a7 : qr7.length = 512) (hk : qr4.getD D 0 = nI K) : m165_191 (nI D) v (nI (8 * D + K)) (rdR t qr2 qr3 qr4 qr5 qr6 qr7 qr8 qr9 qr10 qr11 qr12 qr13 qr14 qr15 qr16 qi21 qi22 qi23 qi24 qi25 qi26 qi27 qi28 qi29 qi30 qj0 ql0 ql1 ql2 ql3) = some (rdR t qr2 qr3 (qr4.set D (nI (K + 1))) qr5 qr6 (qr7.set (8 * D + K) v) qr8 qr9 qr10 qr11 qr12 qr13 qr14 qr15 qr16 qi21 qi22 qi23 qi24 qi25 qi26 qi27 qi28 qi29 qi30 qj0 ql0 ql1 ql2 ql3) := by
  unfold m165_191
  rw [rdR_r7, xsPut_n (by omega) (by omega), bs, rdR_r4, xsGet_d (by omega) (by omega), bs, hk, nI_1, xsPut_n (by omega) (by omega), bs, rdR_i21, if_neg hf, rdR_sr7, rdR_sr4]
theorem and7 {K : Nat} (h : K < 8) : nI K &&& 7 = nI K := by
  have e : ∀ K : Fin 8, nI K.1 &&& 7 = nI K.1 := by decide +kernel
  exact e ⟨K, h⟩
theorem idx7 {K : Nat} (h : K < 8) : (8 : Int32) * nI D + (nI K &&& 7) = nI (8 * D + K) := by
  rw [and7 h, nI_8x]
theorem st5 (h : TR T U n) (hT : gR s 0 = T) (hU : gR t 1 = U) (hn : gI t 20 = nI n) (hz : gZ s 3 = z) (hn4 : n ≤ 4088) (hx : x ≤ 3 * p) (hff : 1 < f) (hI : HI T n s t z D p 2 σ N δ C R) : Flt s t z (m157_240 (f + 1) (nI D) true R) (LC x C) ∨ (∃ (R2 C2 : xSt) (p2 : Nat), m157_240 (f + 1) (nI D) true R = m157_312 (nI D) R2 ∧ LC x C = LC (x + 1) C2 ∧ HI T n s t z D p2 6 σ N δ C2 R2 ∧ p < p2) ∨ ∃ (R2 C2 : xSt) (p2 : Nat) (δ2 : Nat → Dd), m157_240 (f + 1) (nI D) true R = m157_240 f (nI D) true R2 ∧ LC x C = LC (x + 4) C2 ∧ HI T n s t z D p2 2 σ N δ2 C2 R2 ∧ p + 3 < p2 ∧ (dP (δ2 D)).length = (dP (δ D)).length + 1 := by
  obtain ⟨g, nn, i3, i5, i6, i7, i8, i9, j0, l0, qr2, qr3, qr4, qr5, qr6, qr7, qr8, qr9, qr10, qr11, qr12, qr13, qr14, qr15, qr16, qi22, qi24, qi25, qi26, qi29, qi30, qj0, ql0, ql1, ql2, ql3, rfl, rfl, ⟨wf, dm, dlt, ⟨cal, can⟩, ra⟩, hds, h0, ⟨kg, kh, kF, kc1, kr1, k7⟩, ⟨⟨hl0, hi3⟩, hcur, hnn, l5, l6, l7, l8, l9⟩, ⟨a2, a3, a4, a5, a6, a7, b0, b1⟩, ⟨h8, h9, h10, h11, h12, h13, h14, g2, g3, h15, h16⟩, hNp, hpn, hD⟩ := hI
  have hg0 : (g 0).getD (N + D) 0 = nI (if dH (δ D) = true then 23 else 22) := by
    have e0 := kc1.2.2.2.2.2.1
    rw [kF] at e0
    exact e0
  have hps8 := kg.1
  have h78 := m78_d (s := s) (z := z) (g := g) (nn := nn) (r3 := [lvl (dH (δ D))]) (i2 := 0) (i3 := i3) (i4 := nI p) (i5 := i5) (i6 := i6) (i7 := i7) (i8 := i8) (i9 := i9) (i11 := nI (dP (δ D)).length) (j0 := j0) (l0 := l0) (z4 := false) (sp := 2) hz hg0 (by omega) (by omega)
  rw [zb0.2.2.1] at h78
  have hfin : ∀ q, m150 (rdR t qr2 qr3 qr4 qr5 qr6 qr7 qr8 qr9 qr10 qr11 qr12 qr13 qr14 qr15 qr16 0 qi22 (nI p) qi24 qi25 qi26 (nI D) (nI N) qi29 qi30 qj0 ql0 ql1 ql2 ql3) = some q → m157_240 (f + 1) (nI D) true (rdR t qr2 qr3 qr4 qr5 qr6 qr7 qr8 qr9 qr10 qr11 qr12 qr13 qr14 qr15 qr16 0 qi22 (nI p) qi24 qi25 qi26 (nI D) (nI N) qi29 qi30 qj0 ql0 ql1 ql2 ql3) = if (gI q 24) = 0 then m157_276 (m157_240 f) (nI D) true q else if (gI q 24) = 1 then m157_276 (m157_240 f) (nI D) true q else m157_276 (m157_240 f) (nI D) false q := fun q hq => by
    conv => lhs; unfold m157_240
    rw [if_pos rfl, rdR_i21, if_pos rfl, hq, bs]
    rfl
  rcases dtok (s := s) (z := z) (g := g) (nn := nn) (r1 := [nI (N + D)]) (r2 := [nI (2 + 1)]) (r3 := [lvl (dH (δ D))]) (i3 := i3) (i5 := i5) (i6 := i6) (i7 := i7) (i8 := i8) (i9 := i9) (i10 := -1) (i11 := nI (dP (δ D)).length) (j0 := j0) (l0 := l0) (t := t) (qr2 := qr2) (qr3 := qr3) (qr4 := qr4) (qr5 := qr5) (qr6 := qr6) (qr7 := qr7) (qr8 := qr8) (qr9 := qr9) (qr10 := qr10) (qr11 := qr11) (qr12 := qr12) (qr13 := qr13) (qr14 := qr14) (qr15 := qr15) (qr16 := qr16) (qi22 := qi22) (qi24 := qi24) (qi25 := qi25) (qi26 := qi26) (qi27 := nI D) (qi28 := nI N) (qi29 := qi29) (qi30 := qi30) (qj0 := qj0) (ql0 := ql0) (ql1 := ql1) (ql2 := ql2) (ql3 := ql3) (x := x) (p := p) h hT hU hn (by omega) hpn hl0 hnn (C := (rdC s z g nn ([nI (N + D)]) ([nI 2]) ([lvl (dH (δ D))]) 0 i3 (nI p) i5 i6 i7 i8 i9 (-1) (nI (dP (δ D)).length) j0 l0 false)) (by rw [rdC_z4]) (by rw [rdC_i2]) h78 (by decide) (by decide) (by decide) with ⟨c, e1, e2, e3⟩ | ⟨a, c, pe, k, y', q, e1, e2, e3⟩ | ⟨a, e, τ, c, x7, x26, j, jr, p1, p2, p3, hG, hm81, h150⟩
  · refine Or.inl (flt_fq (Or.inr (Or.inr rfl)) ?_ e1 e2)
    rw [hfin _ e3, rdR_i24, if_neg (by decide), if_neg (by decide)]
    unfold m157_276
    rw [m158_end, bs, rdR_i24, if_neg (by decide), hn]
    exact f292 (by omega) (by decide) (by decide) hD a2 a3 a4 a5 a6 a7 b0 b1 h8 h9 h10 h11 h12 h13 h14 g2 g3 h15 h16
  · refine Or.inl (flt_fq (Or.inl rfl) ?_ e1 e2)
    rw [hfin _ e3]
    split
    · exact f276 (by omega) (by decide) (by decide) hD a2 a3 a4 a5 a6 a7 b0 b1 h8 h9 h10 h11 h12 h13 h14 g2 g3 h15 h16
    · split
      · exact f276 (by omega) (by decide) (by decide) hD a2 a3 a4 a5 a6 a7 b0 b1 h8 h9 h10 h11 h12 h13 h14 g2 g3 h15 h16
      · exact f276 (by omega) (by decide) (by decide) hD a2 a3 a4 a5 a6 a7 b0 b1 h8 h9 h10 h11 h12 h13 h14 g2 g3 h15 h16
  obtain ⟨v1, v2, v3, v4, v5, v6⟩ := hG
  obtain ⟨n4, n0, n1⟩ := tau_ne v1
  have hL := lc_step (x := x) (by omega) (by rw [rdC_z4]) (by rw [rdC_i2]) h78 (by decide) (by decide) (by decide) hm81
  rw [m83_80 hps8] at hL
  have hM := hfin _ h150
  rw [rdR_i24] at hM
  by_cases y3 : τ = 3
  · subst y3
    rw [if_neg (by decide), if_pos (by decide)] at hM
    unfold m157_276 m157_292 at hM
    rw [m158_t n4, bs, rdR_i24, if_neg (by decide), if_neg ff] at hM
    obtain ⟨f', hf'⟩ : ∃ f', f = f' + 1 := ⟨f - 1, by omega⟩
    have h240 : ∀ S, m157_240 f (nI D) false S = m157_312 (nI D) S := fun S => by
      rw [hf']
      unfold m157_240
      rw [if_neg ff]
    rw [h240] at hM
    rw [if_pos (by decide), bs] at hL
    refine Or.inr (Or.inl ⟨_, _, e, hM, hL, ?_, by omega⟩)
    exact ⟨g, nn, i3, nI 3, nI a, x7, nI c, i9, j, l0, qr2, qr3, qr4, qr5, qr6, qr7, qr8, qr9, qr10, qr11, qr12, qr13, qr14, qr15, qr16, qi22, nI (3 - 2), nI a, x26, qi29, qi30, jr, ql0, ql1, ql2, ql3, rfl, rfl, ⟨wf, dm, dlt, ⟨cal, can⟩, ra⟩, hds, h0, ⟨kg, kh, kF, kc1, kr1, fun q => absurd q (by decide)⟩, ⟨⟨hl0, hi3⟩, hcur, hnn, l5, l6, l7, l8, l9⟩, ⟨a2, a3, a4, a5, a6, a7, b0, b1⟩, ⟨h8, h9, h10, h11, h12, h13, h14, g2, g3, h15, h16⟩, by omega, p3, hD⟩
  rw [if_neg (by rw [eqL_3 (by omega)]; exact y3)] at hL
  by_cases y2 : τ = 2
  rotate_left
  · refine Or.inl ?_
    rw [if_neg (by rw [eqL_0 (by omega)]; omega), if_neg (by rw [eqL_1 (by omega)]; omega)] at hM
    unfold m157_276 at hM
    rw [m158_f n4, bs, rdR_i24, if_neg (by rw [eqL_0 (by omega)]; omega)] at hM
    rw [decide_eq_false (fun q => y2 (by have := q.1; rw [eqL_2 (by omega)] at this; exact this)), m84_f, bs, bs] at hL
    replace hL := hL.trans (lc_end (by omega) (Or.inr (show ¬ (2 : Int32) = 0 by decide)))
    refine flt_fq (Or.inr (Or.inl rfl)) ?_ hL (cf_mk hl0 hnn)
    rw [hM]
    exact f292 (by omega) (by decide) (by decide) hD a2 a3 a4 a5 a6 a7 b0 b1 h8 h9 h10 h11 h12 h13 h14 g2 g3 h15 h16
  subst y2
  rw [if_pos (by decide)] at hM
  unfold m157_276 m157_292 at hM
  rw [m158_t n4, bs, rdR_i24, if_pos (by decide), if_pos rfl, rdR_i21, if_pos rfl] at hM
  have hK := kr1.2.1
  unfold m165 at hM
  rw [rdR_r4, xsGet_d (by omega) (by omega), bs, hK] at hM
  by_cases yK : (dP (δ D)).length < 8
  rotate_left
  · refine Or.inl ?_
    rw [if_pos (by rw [geL_8 (by omega)]; omega)] at hM
    unfold m165_17 at hM
    rw [m158_f n4, bs] at hM
    obtain ⟨pe, k, a', x', q', hq'⟩ := tokF (t := t) (qr2 := qr2) (qr3 := qr3) (qr4 := qr4) (qr5 := qr5) (qr6 := qr6) (qr7 := qr7) (qr8 := qr8) (qr9 := qr9) (qr10 := qr10) (qr11 := qr11) (qr12 := qr12) (qr13 := qr13) (qr14 := qr14) (qr15 := qr15) (qr16 := qr16) (qi21 := 2) (qi22 := nI a) (qi24 := nI (2 - 2)) (qi25 := nI a) (qi26 := x26) (qi27 := nI D) (qi28 := nI N) (qi29 := qi29) (qi30 := qi30) (qj0 := jr) (ql0 := ql0) (ql1 := ql1) (ql2 := ql2) (ql3 := ql3) (p := e) h hU hn p3 (by decide)
    rw [hq', bs, f29_0 (K := (dP (δ D)).length) (by decide) (by decide) hD a4 b1 hK hps8, bs] at hM
    rw [decide_eq_false (fun q => yK q.2), m84_f, bs, bs] at hL
    replace hL := hL.trans (lc_end (by omega) (Or.inr (show ¬ (2 : Int32) = 0 by decide)))
    refine flt_fq (Or.inr (Or.inl rfl)) ?_ hL (cf_mk hl0 hnn)
    rw [hM]
    exact f240 (by omega) (by decide) (by decide) hD a2 a3 a4 a5 a6 a7 b0 b1 h8 h9 h10 h11 h12 h13 h14 g2 g3 h15 h16
  rw [if_neg (by rw [geL_8 (by omega)]; omega)] at hM
  unfold m165_17 at hM
  rw [m158_t n4, bs] at hM
  rw [decide_eq_true ⟨rfl, yK⟩, m84_t, bs, bs] at hL
  have h78b := m78_d (s := s) (z := z) (g := g) (nn := nn) (r3 := [lvl (dH (δ D))]) (i2 := 0) (i3 := i3) (i4 := nI e) (i5 := nI 2) (i6 := nI a) (i7 := x7) (i8 := nI c) (i9 := i9) (i11 := nI (dP (δ D)).length) (j0 := j) (l0 := l0) (z4 := false) (sp := 2 + 1) hz hg0 (by omega) (by omega)
  rw [show (zBy 0).getD (2 + 1) 0 = 78 from zb0.2.2.2.1] at h78b
  rcases dtok (s := s) (z := z) (g := g) (nn := nn) (r1 := [nI (N + D)]) (r2 := [nI (2 + 1 + 1)]) (r3 := [lvl (dH (δ D))]) (i3 := i3) (i5 := nI 2) (i6 := nI a) (i7 := x7) (i8 := nI c) (i9 := i9) (i10 := -1) (i11 := nI (dP (δ D)).length) (j0 := j) (l0 := l0) (t := t) (qr2 := qr2) (qr3 := qr3) (qr4 := qr4) (qr5 := qr5) (qr6 := qr6) (qr7 := qr7) (qr8 := qr8) (qr9 := qr9) (qr10 := qr10) (qr11 := qr11) (qr12 := qr12) (qr13 := qr13) (qr14 := qr14) (qr15 := qr15) (qr16 := qr16) (qi22 := qi22) (qi24 := nI (2 - 2)) (qi25 := nI a) (qi26 := x26) (qi27 := nI D) (qi28 := nI N) (qi29 := qi29) (qi30 := qi30) (qj0 := jr) (ql0 := ql0) (ql1 := ql1) (ql2 := ql2) (ql3 := ql3) (x := x + 1) (p := e) h hT hU hn (by omega) p3 hl0 hnn (by rw [rdC_z4]) (by rw [rdC_i2]) h78b (by decide) (by decide) (by decide) with ⟨c', e1, e2, e3⟩ | ⟨a', c', pe, k, y', q, e1, e2, e3⟩ | ⟨ab, eb, τb, cb, xb7, xb26, jb, jrb, pb1, pb2, pb3, hGb, hm81b, h150b⟩
  · refine Or.inl (flt_fq (Or.inr (Or.inr rfl)) ?_ (hL.trans e1) e2)
    rw [hM, e3, bs, m165_29_0 (K := (dP (δ D)).length) (o := false) hD a4 b1 hK hps8 (m160_no (by rw [rdR_i24]; decide))]
    unfold m165_98
    rw [Bool.false_and, m158_end, bs, rdR_i21, if_neg (by decide), bs, hn]
    exact f240 (by omega) (by decide) (by decide) hD a2 a3 a4 a5 a6 a7 b0 b1 h8 h9 h10 h11 h12 h13 h14 g2 g3 h15 h16
  · refine Or.inl (flt_fq (Or.inl rfl) ?_ (hL.trans e1) e2)
    rw [hM, e3, bs, f29_0 (K := (dP (δ D)).length) (by decide) (by decide) hD a4 b1 hK hps8, bs]
    exact f240 (by omega) (by decide) (by decide) hD a2 a3 a4 a5 a6 a7 b0 b1 h8 h9 h10 h11 h12 h13 h14 g2 g3 h15 h16
  have hown := own_eq (S := (rdR t qr2 qr3 qr4 qr5 qr6 qr7 qr8 qr9 qr10 qr11 qr12 qr13 qr14 qr15 qr16 0 qi22 (nI eb) (nI (τb - 2)) (nI ab) xb26 (nI D) (nI N) qi29 qi30 jrb ql0 ql1 ql2 ql3)) hGb hU rfl rfl rfl
  obtain ⟨w1, w2, w3, w4, w5, w6⟩ := hGb
  obtain ⟨m4, m0, m1⟩ := tau_ne w1
  have hL2 := lc_step (x := x + 1) (by omega) (by rw [rdC_z4]) (by rw [rdC_i2]) h78b (by decide) (by decide) (by decide) hm81b
  rw [m83_v (by simp)] at hL2
  rw [h150b, bs, m165_29_0 (K := (dP (δ D)).length) hD a4 b1 hK hps8 hown, Bool.false_or] at hM
  have hbad2 : (decide (τb = 4 ∧ cb = 0) && !tw ql1 jrb (8 * D) (dP (δ D)).length) = false → LC x (rdC s z g nn ([nI (N + D)]) ([nI 2]) ([lvl (dH (δ D))]) 0 i3 (nI p) i5 i6 i7 i8 i9 (-1) (nI (dP (δ D)).length) j0 l0 false) = some (rdC s z g nn ([nI (N + D)]) ([nI (2 + 1 + 1)]) ([lvl (dH (δ D))]) 2 (nI ab) (nI eb) (nI τb) (nI ab) xb7 (nI cb) i9 (-1) (nI (dP (δ D)).length) jb l0 false) → Flt s t z (m157_240 (f + 1) (nI D) true (rdR t qr2 qr3 qr4 qr5 qr6 qr7 qr8 qr9 qr10 qr11 qr12 qr13 qr14 qr15 qr16 0 qi22 (nI p) qi24 qi25 qi26 (nI D) (nI N) qi29 qi30 qj0 ql0 ql1 ql2 ql3)) (LC x (rdC s z g nn ([nI (N + D)]) ([nI 2]) ([lvl (dH (δ D))]) 0 i3 (nI p) i5 i6 i7 i8 i9 (-1) (nI (dP (δ D)).length) j0 l0 false)) := by
    intro ho hc
    rw [ho] at hM
    unfold m165_98 at hM
    rw [m158_f m4, bs, rdR_i21, if_neg (by decide), bs] at hM
    refine flt_fq (Or.inr (Or.inl rfl)) ?_ hc (cf_mk hl0 hnn)
    rw [hM]
    exact f240 (by omega) (by decide) (by decide) hD a2 a3 a4 a5 a6 a7 b0 b1 h8 h9 h10 h11 h12 h13 h14 g2 g3 h15 h16
  by_cases yo : τb = 4 ∧ cb = 0
  rotate_left
  · refine Or.inl (hbad2 (by rw [decide_eq_false yo]; rfl) ?_)
    rw [hL, hL2, m98_no (by rw [eqL_4 (by omega), eqL_0 (by omega)]; exact yo), bs]
    exact lc_end (by omega) (Or.inr (by rw [rdC_i2]; decide))
  obtain ⟨rfl, rfl⟩ := yo
  obtain ⟨ej, ej0, ejn⟩ := w4 rfl
  subst ej
  have htw : tw ql1 jb (8 * D) (dP (δ D)).length = true ↔ ¬ lix l0 jb (dP (δ D)).length = -1 := by
    rw [tw_iff, lix_none _ (by omega)]
    constructor
    · rintro ⟨i, i1, i2⟩ hh
      refine hh i i1 ?_
      rw [hcur i i1, ← (kr1.2.2.2.2 i i1).1]
      exact i2
    · intro hh
      by_cases hex : ∃ i, i < (dP (δ D)).length ∧ ql1.getD (8 * D + i) 0 = jb
      · exact hex
      · exact absurd (fun i hi hq => hex ⟨i, hi, by rw [(kr1.2.2.2.2 i hi).1, ← hcur i hi]; exact hq⟩) hh
  rw [show nI 4 = (4 : Int32) from rfl, show nI 0 = (0 : Int32) from rfl] at hL2 hbad2
  by_cases ytw : tw ql1 jb (8 * D) (dP (δ D)).length = true
  · refine Or.inl (hbad2 (by rw [ytw]; rfl) ?_)
    rw [hL]
    refine hL2.trans ?_
    rw [m98_N0 hl0 (by omega) (htw.mp ytw), bs]
    exact lc_end (by omega) (Or.inr (by rw [rdC_i2]; decide))
  rw [m98_N1 hl0 (by omega) (by
    by_cases hq : lix l0 jb (dP (δ D)).length = -1
    · exact hq
    · exact absurd (htw.mpr hq) ytw), bs] at hL2
  have htf : tw ql1 jb (8 * D) (dP (δ D)).length = false := by
    cases hq : tw ql1 jb (8 * D) (dP (δ D)).length
    · rfl
    · exact absurd hq ytw
  rw [htf, decide_eq_true ⟨rfl, rfl⟩] at hM
  unfold m165_98 at hM
  rw [show (true && !false) = true from rfl, m158_t m4, bs, rdR_i21, if_pos (by decide), rdR_r4, xsGet_d (by omega) (by omega), bs, hK, nI_8x, rdR_l1, rdR_j0, xlPut_n (by omega) (by omega), bs, rdR_sl1] at hM
  have h78c := m78_d (s := s) (z := z) (g := g) (nn := nn) (r3 := [lvl (dH (δ D))]) (i2 := 0) (i3 := i3) (i4 := nI eb) (i5 := 4) (i6 := nI ab) (i7 := xb7) (i8 := 0) (i9 := i9) (i11 := nI ((dP (δ D)).length + 1)) (j0 := jb) (l0 := l0.set (dP (δ D)).length jb) (z4 := false) (sp := 2 + 1 + 1) hz hg0 (by omega) (by omega)
  rw [show (zBy 0).getD (2 + 1 + 1) 0 = 89 from zb0.2.2.2.2.1] at h78c
  have hl0' : (l0.set (dP (δ D)).length jb).length = 24 := by rw [List.length_set]; exact hl0
  have b1' : (ql1.set (8 * D + (dP (δ D)).length) jb).length = 512 := by rw [List.length_set]; exact b1
  rcases dtok (s := s) (z := z) (g := g) (nn := nn) (r1 := [nI (N + D)]) (r2 := [nI (2 + 1 + 1 + 1)]) (r3 := [lvl (dH (δ D))]) (i3 := i3) (i5 := 4) (i6 := nI ab) (i7 := xb7) (i8 := 0) (i9 := i9) (i10 := -1) (i11 := nI ((dP (δ D)).length + 1)) (j0 := jb) (l0 := l0.set (dP (δ D)).length jb) (t := t) (qr2 := qr2) (qr3 := qr3) (qr4 := qr4) (qr5 := qr5) (qr6 := qr6) (qr7 := qr7) (qr8 := qr8) (qr9 := qr9) (qr10 := qr10) (qr11 := qr11) (qr12 := qr12) (qr13 := qr13) (qr14 := qr14) (qr15 := qr15) (qr16 := qr16) (qi22 := qi22) (qi24 := nI (4 - 2)) (qi25 := nI ab) (qi26 := xb26) (qi27 := nI D) (qi28 := nI N) (qi29 := qi29) (qi30 := qi30) (qj0 := jb) (ql0 := ql0) (ql1 := ql1.set (8 * D + (dP (δ D)).length) jb) (ql2 := ql2) (ql3 := ql3) (x := x + 1 + 1) (p := eb) h hT hU hn (by omega) pb3 hl0' hnn (by rw [rdC_z4]) (by rw [rdC_i2]) h78c (by decide) (by decide) (by decide) with ⟨c', e1, e2, e3⟩ | ⟨a', c', pe, k, y', q, e1, e2, e3⟩ | ⟨ac, ec, τc, cc, xc7, xc26, jc, jrc, pc1, pc2, pc3, hGc, hm81c, h150c⟩
  · refine Or.inl (flt_fq (Or.inr (Or.inr rfl)) ?_ ((hL.trans hL2).trans e1) e2)
    have hw : IsWd (rdR t qr2 qr3 qr4 qr5 qr6 qr7 qr8 qr9 qr10 qr11 qr12 qr13 qr14 qr15 qr16 0 qi22 (nI n) 4 (nI n) xb26 (nI D) (nI N) qi29 qi30 jb ql0 (ql1.set (8 * D + (dP (δ D)).length) jb) ql2 ql3) 0 := iswd_no (by rw [rdR_i24]; decide)
    rw [hM, e3, bs, rdR_i21, if_neg (by decide), m161_eq hw (by decide), bs, if_pos (show tyI 0 < 0 by decide)]
    unfold m165_154
    rw [m158_end, bs, rdR_r4, xsGet_d (by omega) (by omega), bs, hK, rdR_i21, if_neg (by decide), idx7 yK, f191 (by decide) hD yK a4 a7 hK, bs, hn]
    exact f240 (by omega) (by decide) (by decide) hD a2 a3 (by (try simp only [List.length_set]); first | assumption | omega) a5 a6 (by (try simp only [List.length_set]); first | assumption | omega) b0 b1' h8 h9 h10 h11 h12 h13 h14 g2 g3 h15 h16
  · refine Or.inl (flt_fq (Or.inl rfl) ?_ ((hL.trans hL2).trans e1) e2)
    rw [hM, e3, bs, rdR_i21, if_pos (by decide)]
    unfold m165_149 m165_154
    rw [m158_flt (by decide), bs, rdR_r4, xsGet_d (by omega) (by omega), bs, hK, rdR_i21, if_neg (by decide), idx7 yK, f191 (by decide) hD yK a4 a7 hK, bs]
    exact f240 (by omega) (by decide) (by decide) hD a2 a3 (by (try simp only [List.length_set]); first | assumption | omega) a5 a6 (by (try simp only [List.length_set]); first | assumption | omega) b0 b1' h8 h9 h10 h11 h12 h13 h14 g2 g3 h15 h16
  obtain ⟨u1, u2, u3, u4, u5, u6⟩ := hGc
  obtain ⟨q4, q0, q1⟩ := tau_ne u1
  have hw : IsWd (rdR t qr2 qr3 qr4 qr5 qr6 qr7 qr8 qr9 qr10 qr11 qr12 qr13 qr14 qr15 qr16 0 qi22 (nI ec) (nI (τc - 2)) (nI ac) xc26 (nI D) (nI N) qi29 qi30 jrc ql0 (ql1.set (8 * D + (dP (δ D)).length) jb) ql2 ql3) cc := u6 _ hU rfl rfl rfl
  have hL3 := lc_step (x := x + 1 + 1) (by omega) (by rw [rdC_z4]) (by rw [rdC_i2]) h78c (by decide) (by decide) (by decide) hm81c
  rw [m83_89 hz u2 l6 l8 kc1.2.2.1 hD yK] at hL3
  rw [h150c, bs, rdR_i21, if_neg (by decide), m161_eq hw u2, bs] at hM
  rcases ty_tbl cc (by omega) with ⟨ty1, ty2⟩ | ⟨ty, ty1, ty2, ty3, ty4, -⟩
  · refine Or.inl ?_
    rw [if_pos ty1] at hM
    unfold m165_154 at hM
    rw [m158_f q4, bs, rdR_r4, xsGet_d (by omega) (by omega), bs, hK, rdR_i21, if_neg (by decide), idx7 yK, f191 (by decide) hD yK a4 a7 hK, bs] at hM
    rw [decide_eq_false ty2, m84_f, bs, if_neg ff, bs] at hL3
    replace hL3 := hL3.trans (lc_end (by omega) (Or.inr (show ¬ (2 : Int32) = 0 by decide)))
    refine flt_fq (Or.inr (Or.inl rfl)) ?_ ((hL.trans hL2).trans hL3) (cf_mk hl0' hnn)
    rw [hM]
    exact f240 (by omega) (by decide) (by decide) hD a2 a3 (by (try simp only [List.length_set]); first | assumption | omega) a5 a6 (by (try simp only [List.length_set]); first | assumption | omega) b0 b1' h8 h9 h10 h11 h12 h13 h14 g2 g3 h15 h16
  rw [ty2, if_neg (nI_pos (by omega))] at hM
  unfold m165_149 m165_154 at hM
  rw [m158_t q4, bs, rdR_r4, xsGet_d (by omega) (by omega), bs, hK, rdR_i21, if_pos (by decide), m161_eq hw u2, bs, ty2, idx7 yK] at hM
  unfold m165_191 at hM
  rw [rdR_r7, xsPut_n (by omega) (by omega), bs, rdR_r4, xsGet_d (by omega) (by omega), bs, hK, nI_1, xsPut_n (by omega) (by omega), bs, rdR_i21, if_pos rfl, rdR_sr7, rdR_sr4] at hM
  rw [decide_eq_true ty4, m84_t, bs, if_pos rfl, bs] at hL3
  have hgd : ∀ j', ¬ j' = 9 → ¬ j' = 8 → bUp (bUp g 9 ((g 9).set (8 * D + (dP (δ D)).length) (nI cc))) 8 ((g 8).set D (nI ((dP (δ D)).length + 1))) j' = g j' := fun j' x1 x2 => by rw [bUp_if, if_neg x2, bUp_if, if_neg x1]
  have hg0' : (bUp (bUp g 9 ((g 9).set (8 * D + (dP (δ D)).length) (nI cc))) 8 ((g 8).set D (nI ((dP (δ D)).length + 1))) 0).getD (N + D) 0 = nI (if dH (δ D) = true then 23 else 22) := by rw [hgd 0 (by omega) (by omega)]; exact hg0
  have h78d := m78_d (s := s) (z := z) (g := bUp (bUp g 9 ((g 9).set (8 * D + (dP (δ D)).length) (nI cc))) 8 ((g 8).set D (nI ((dP (δ D)).length + 1)))) (nn := nn) (r3 := [lvl (dH (δ D))]) (i2 := 0) (i3 := i3) (i4 := nI ec) (i5 := nI τc) (i6 := nI ac) (i7 := xc7) (i8 := nI cc) (i9 := i9) (i11 := nI ((dP (δ D)).length + 1)) (j0 := jc) (l0 := l0.set (dP (δ D)).length jb) (z4 := false) (sp := 2 + 1 + 1 + 1) hz hg0' (by omega) (by omega)
  rw [show (zBy 0).getD (2 + 1 + 1 + 1) 0 = 81 from zb0.2.2.2.2.2.1] at h78d
  have a4' : (qr4.set D (nI ((dP (δ D)).length + 1))).length = 64 := by rw [List.length_set]; exact a4
  have a7' : (qr7.set (8 * D + (dP (δ D)).length) (nI ty)).length = 512 := by rw [List.length_set]; exact a7
  rcases dtok (s := s) (z := z) (g := bUp (bUp g 9 ((g 9).set (8 * D + (dP (δ D)).length) (nI cc))) 8 ((g 8).set D (nI ((dP (δ D)).length + 1)))) (nn := nn) (r1 := [nI (N + D)]) (r2 := [nI (2 + 1 + 1 + 1 + 1)]) (r3 := [lvl (dH (δ D))]) (i3 := i3) (i5 := nI τc) (i6 := nI ac) (i7 := xc7) (i8 := nI cc) (i9 := i9) (i10 := -1) (i11 := nI ((dP (δ D)).length + 1)) (j0 := jc) (l0 := l0.set (dP (δ D)).length jb) (t := t) (qr2 := qr2) (qr3 := qr3) (qr4 := qr4.set D (nI ((dP (δ D)).length + 1))) (qr5 := qr5) (qr6 := qr6) (qr7 := qr7.set (8 * D + (dP (δ D)).length) (nI ty)) (qr8 := qr8) (qr9 := qr9) (qr10 := qr10) (qr11 := qr11) (qr12 := qr12) (qr13 := qr13) (qr14 := qr14) (qr15 := qr15) (qr16 := qr16) (qi22 := qi22) (qi24 := nI (τc - 2)) (qi25 := nI ac) (qi26 := xc26) (qi27 := nI D) (qi28 := nI N) (qi29 := qi29) (qi30 := qi30) (qj0 := jrc) (ql0 := ql0) (ql1 := ql1.set (8 * D + (dP (δ D)).length) jb) (ql2 := ql2) (ql3 := ql3) (x := x + 1 + 1 + 1) (p := ec) h hT hU hn (by omega) pc3 hl0' hnn (by rw [rdC_z4]) (by rw [rdC_i2]) h78d (by decide) (by decide) (by decide) with ⟨c', e1, e2, e3⟩ | ⟨a', c', pe, k, y', q, e1, e2, e3⟩ | ⟨ad, ed, τd, cd', xd7, xd26, jd, jrd, pd1, pd2, pd3, hGd, hm81d, h150d⟩
  · refine Or.inl (flt_fq (Or.inr (Or.inr rfl)) ?_ (((hL.trans hL2).trans hL3).trans e1) e2)
    rw [hM, e3, bs, rdR_i24, if_neg (by decide)]
    unfold m165_227
    rw [m158_end, bs, bs, hn]
    exact f240 (by omega) (by decide) (by decide) hD a2 a3 a4' a5 a6 a7' b0 b1' h8 h9 h10 h11 h12 h13 h14 g2 g3 h15 h16
  · refine Or.inl (flt_fq (Or.inl rfl) ?_ (((hL.trans hL2).trans hL3).trans e1) e2)
    rw [hM, e3, bs]
    unfold m165_227
    rw [m158_flt (by decide), m158_flt (by decide), ite_self, bs, bs]
    exact f240 (by omega) (by decide) (by decide) hD a2 a3 a4' a5 a6 a7' b0 b1' h8 h9 h10 h11 h12 h13 h14 g2 g3 h15 h16
  obtain ⟨r1', r2', r3', r4', r5', r6'⟩ := hGd
  obtain ⟨s4, s0, s1⟩ := tau_ne r1'
  have hL4 := lc_step (x := x + 1 + 1 + 1) (by omega) (by rw [rdC_z4]) (by rw [rdC_i2]) h78d (by decide) (by decide) (by decide) hm81d
  rw [m83_81] at hL4
  rw [h150d, bs, rdR_i24] at hM
  unfold m165_227 at hM
  by_cases yd : τd = 3
  rotate_left
  · refine Or.inl ?_
    rw [if_neg (by rw [eqL_1 (by omega)]; omega), m158_f s4, bs, bs] at hM
    rw [decide_eq_false (by rw [eqL_3 (by omega)]; exact yd), m84_f, bs, bs, rdC_r2, setTop_n (xs := [nI (2 + 1 + 1 + 1 + 1)]) (m := 0) rfl (by decide), rdC_sr2] at hL4
    replace hL4 := hL4.trans (lc_end (by omega) (Or.inr (show ¬ (2 : Int32) = 0 by decide)))
    refine flt_fq (Or.inr (Or.inl rfl)) ?_ (((hL.trans hL2).trans hL3).trans hL4) (cf_mk hl0' hnn)
    rw [hM]
    exact f240 (by omega) (by decide) (by decide) hD a2 a3 a4' a5 a6 a7' b0 b1' h8 h9 h10 h11 h12 h13 h14 g2 g3 h15 h16
  subst yd
  rw [if_pos (by decide), m158_t s4, bs, bs] at hM
  rw [decide_eq_true (show nI 3 = 3 from rfl), m84_t, bs, bs, rdC_r2, setTop_n (xs := [nI (2 + 1 + 1 + 1 + 1)]) (m := 0) rfl (by decide), rdC_sr2] at hL4
  refine Or.inr (Or.inr ⟨_, _, ed, fd δ D ((dF (δ D), dE (δ D), dH (δ D)), dP (δ D) ++ [jb], dT (δ D) ++ [ty], dR (δ D), dN (δ D), dL (δ D)), hM, ((hL.trans hL2).trans hL3).trans hL4, ?_, by omega, ?_⟩)
  rotate_left
  · rw [fd_s]
    show (dP (δ D) ++ [jb]).length = _
    rw [List.length_append]
    rfl
  have hds' : fd δ D ((dF (δ D), dE (δ D), dH (δ D)), dP (δ D) ++ [jb], dT (δ D) ++ [ty], dR (δ D), dN (δ D), dL (δ D)) D = ((dF (δ D), dE (δ D), dH (δ D)), dP (δ D) ++ [jb], dT (δ D) ++ [ty], dR (δ D), dN (δ D), dL (δ D)) := fd_s _ _ _
  have hpl : (dP (δ D) ++ [jb]).length = (dP (δ D)).length + 1 := by rw [List.length_append]; rfl
  have hbf : ∀ (d i : Nat), d < D → i < 8 → ¬ 8 * d + i = 8 * D + (dP (δ D)).length := fun d i x1 x2 => by omega
  refine ⟨bUp (bUp g 9 ((g 9).set (8 * D + (dP (δ D)).length) (nI cc))) 8 ((g 8).set D (nI ((dP (δ D)).length + 1))), nn, i3, nI 3, nI ad, xd7, nI cd', i9, jd, l0.set (dP (δ D)).length jb, qr2, qr3, qr4.set D (nI ((dP (δ D)).length + 1)), qr5, qr6, qr7.set (8 * D + (dP (δ D)).length) (nI ty), qr8, qr9, qr10, qr11, qr12, qr13, qr14, qr15, qr16, qi22, nI (3 - 2), nI ad, xd26, qi29, qi30, jrd, ql0, ql1.set (8 * D + (dP (δ D)).length) jb, ql2, ql3, ?_, rfl, ⟨wf, dm, dlt, ⟨fun j' hj => by rw [hgd j' (by omega) (by omega)]; exact cal j' hj, fun k hk => ?_⟩, ra⟩, fun d hd => ?_, h0, ⟨?_, ⟨?_, fun e' he => ?_⟩, ?_, ?_, ?_, fun q => absurd q (by decide)⟩, ⟨⟨hl0', hi3⟩, ?_, hnn, by rw [hgd 5 (by omega) (by omega)]; exact l5, by rw [hgd 6 (by omega) (by omega)]; exact l6, by rw [hgd 7 (by omega) (by omega)]; exact l7, ?_, ?_⟩, ⟨a2, a3, a4', a5, a6, a7', b0, b1'⟩, ⟨h8, h9, h10, h11, h12, h13, h14, g2, g3, h15, h16⟩, by omega, pd3, hD⟩
  · rw [hds']
    show _ = rdC s z _ nn [nI (N + D)] [nI 2] [lvl (dH (δ D))] 0 i3 (nI ed) (nI 3) (nI ad) xd7 (nI cd') i9 (-1) (nI (dP (δ D) ++ [jb]).length) jd (l0.set (dP (δ D)).length jb) false
    rw [hpl]
    rfl
  · have q := can k hk
    unfold NC at q ⊢
    rw [hgd 0 (by omega) (by omega), hgd 1 (by omega) (by omega), hgd 2 (by omega) (by omega), hgd 3 (by omega) (by omega), hgd 4 (by omega) (by omega)]
    exact q
  · obtain ⟨d0, d1, d2, d3, d4⟩ := hds d hd
    have hPd := d0.2.1.1
    rw [fd_n (by omega : ¬ d = D)]
    refine ⟨dw_fd hd rfl d0, ?_, ?_, ?_, d4⟩
    · obtain ⟨x1, x2, x3, x4, x5, x6, x7⟩ := d1
      refine ⟨by rw [hgd 5 (by omega) (by omega)]; exact x1, by rw [hgd 6 (by omega) (by omega)]; exact x2, ?_, fun i hi => ?_, x5, by rw [hgd 0 (by omega) (by omega)]; exact x6, by rw [hgd 2 (by omega) (by omega)]; exact x7⟩
      · rw [bUp_if, if_pos rfl, getD_setn (by omega), if_neg (by omega)]; exact x3
      · rw [bUp_if, if_neg (by omega), bUp_if, if_pos rfl, getD_setn (by omega), if_neg (hbf d i hd (by omega))]; exact x4 i hi
    · unfold DC2 at d2 ⊢
      rw [hgd 7 (by omega) (by omega), hgd 4 (by omega) (by omega)]
      exact d2
    · obtain ⟨x1, x2, x3, x4, x5⟩ := d3
      refine ⟨x1, ?_, x3, x4, fun i hi => ⟨?_, ?_⟩⟩
      · rw [getD_setn (by omega), if_neg (by omega)]; exact x2
      · rw [getD_setn (by omega), if_neg (hbf d i hd (by omega))]; exact (x5 i hi).1
      · rw [getD_setn (by omega), if_neg (hbf d i hd (by omega))]; exact (x5 i hi).2
  · rw [hds']
    obtain ⟨x1, x2, x3, x4⟩ := kg
    refine ⟨?_, ?_, fun i hi => ?_, fun i j' hij hj => ?_⟩
    · show (dP (δ D) ++ [jb]).length ≤ 8
      omega
    · show (dT (δ D) ++ [ty]).length = (dP (δ D) ++ [jb]).length
      rw [List.length_append, List.length_append, x2]
      rfl
    · have hi' : i < (dP (δ D) ++ [jb]).length := hi
      show (dT (δ D) ++ [ty]).getD i 0 ≤ 3 ∧ 0 < (dP (δ D) ++ [jb]).getD i 0
      rw [getD_push, getD_push, x2]
      by_cases ci : i = (dP (δ D)).length
      · rw [if_pos ci, if_pos ci]
        exact ⟨by omega, ej0⟩
      · rw [if_neg ci, if_neg ci]
        exact x3 i (by omega)
    · have hj' : j' < (dP (δ D) ++ [jb]).length := hj
      show (dP (δ D) ++ [jb]).getD i 0 ≠ (dP (δ D) ++ [jb]).getD j' 0
      rw [getD_push, getD_push, if_neg (by omega)]
      by_cases cj : j' = (dP (δ D)).length
      · rw [if_pos cj]
        intro hq
        refine ytw ((tw_iff _ _ _ _).mpr ⟨i, by omega, ?_⟩)
        rw [(kr1.2.2.2.2 i (by omega)).1]
        exact hq
      · rw [if_neg cj]
        exact x4 i j' hij (by omega)
  · rw [hds']; exact kh.1
  · rw [hds', fd_n (by omega : ¬ e' = D)]; exact kh.2 e' he
  · rw [hds']; exact kF
  · rw [hds']
    obtain ⟨x1, x2, x3, x4, x5, x6, x7⟩ := kc1
    refine ⟨by rw [hgd 5 (by omega) (by omega)]; exact x1, by rw [hgd 6 (by omega) (by omega)]; exact x2, ?_, fun i hi => ?_, x5, by rw [hgd 0 (by omega) (by omega)]; exact x6, by rw [hgd 2 (by omega) (by omega)]; exact x7⟩
    · show _ = nI (dP (δ D) ++ [jb]).length
      rw [hpl, bUp_if, if_pos rfl, getD_setn (by omega), if_pos rfl]
    · have hi' : i < (dP (δ D) ++ [jb]).length := hi
      show _ = nI (tc ((dT (δ D) ++ [ty]).getD i 0))
      rw [bUp_if, if_neg (by omega), bUp_if, if_pos rfl, getD_setn (by omega), getD_push, kg.2.1]
      by_cases ci : i = (dP (δ D)).length
      · rw [if_pos (by omega), if_pos ci, ty3]
      · rw [if_neg (by omega), if_neg ci]
        exact x4 i (by omega)
  · rw [hds']
    obtain ⟨x1, x2, x3, x4, x5⟩ := kr1
    refine ⟨x1, ?_, x3, x4, fun i hi => ?_⟩
    · show _ = nI (dP (δ D) ++ [jb]).length
      rw [hpl, getD_setn (by omega), if_pos rfl]
    · have hi' : i < (dP (δ D) ++ [jb]).length := hi
      show _ = (dP (δ D) ++ [jb]).getD i 0 ∧ _ = nI ((dT (δ D) ++ [ty]).getD i 0)
      rw [getD_setn (by omega), getD_setn (by omega), getD_push, getD_push, kg.2.1]
      by_cases ci : i = (dP (δ D)).length
      · rw [if_pos (by omega), if_pos ci, if_pos (by omega), if_pos ci]
        exact ⟨rfl, rfl⟩
      · rw [if_neg (by omega), if_neg ci, if_neg (by omega), if_neg ci]
        exact x5 i (by omega)
  · rw [hds']
    show ∀ i, i < (dP (δ D) ++ [jb]).length → (l0.set (dP (δ D)).length jb).getD i 0 = (dP (δ D) ++ [jb]).getD i 0
    exact l0_push hl0 (by omega) hcur
  · rw [bUp_if, if_pos rfl, List.length_set]; exact l8
  · rw [bUp_if, if_neg (by omega), bUp_if, if_pos rfl, List.length_set]; exact l9
end DPar
