/-! a definition from its ( on -/
section DAll
variable {T U : List Int32} {n p N D F x y d f : Nat} {σ σ0 : Nat → Nd} {δ : Nat → Dd} {C R : xSt} {sy : Int32} {s : xSt} {z : Bool} {g : Nat → List Int32} {nn : List Int64} {r1 r2 r3 : List Int32} {i2 i3 i4 i5 i6 i7 i8 i9 i10 i11 : Int32} {j0 : Int64} {l0 : List Int64} {z4 : Bool} {t : xSt} {qr2 qr3 qr4 qr5 qr6 qr7 qr8 qr9 qr10 qr11 qr12 qr13 qr14 qr15 qr16 : List Int32} {qi21 qi22 qi23 qi24 qi25 qi26 qi27 qi28 qi29 qi30 : Int32} {qj0 : Int64} {ql0 ql1 ql2 ql3 : List Int64}
def X1 (f : Nat) (S : xSt) : Option (Int32 × xSt) := (m150 S).bind fun q => m149_34 f q
def X5 (f : Nat) (q5 : xSt) : Option (Int32 × xSt) := if (gI q5 21) = 0 then X1 f q5 else m149_34 f q5
def Fl2 (s t : xSt) (z : Bool) (rr : Option (Int32 × xSt)) (cc : Option xSt) : Prop := ∃ f pl q c, (f = 1 ∨ f = 2 ∨ f = 3) ∧ rr = some (f, q) ∧ cc = some c ∧ RF t f pl q ∧ CF s z f pl c
theorem f34 {fl pl : Int32} (hff : 0 < f) (hf : fl = 1 ∨ fl = 2 ∨ fl = 3) {q : xSt} (hq : RF t fl pl q) : ∃ q', m149_34 f q = some (fl, q') ∧ RF t fl pl q' := by
  obtain ⟨f, rfl⟩ : ∃ f', f = f' + 1 := ⟨f - 1, by omega⟩
  obtain ⟨u2, u3, u4, u5, u6, u7, u8, u9, u10, u11, u12, u13, u14, u15, u16, v23, v24, v25, v26, v27, v28, v29, v30, vj, w0, w1, w2, w3, rfl, ⟨c2, c3, c4, c5, c6, c7, c8, c9⟩, ⟨d8, d9, d10, d11, d12, d13, d14, d15, d16⟩, d17, d18⟩ := hq
  refine ⟨rdR t u2 u3 u4 u5 u6 u7 u8 u9 u10 u11 u12 u13 u14 u15 u16 fl pl v23 v24 v25 v26 0 0 v29 v30 vj w0 w1 w2 w3, ?_, rf_mk c2 c3 c4 c5 c6 c7 c8 c9 d8 d9 d10 d11 d12 d13 d14 d15 d16 d17 d18⟩
  · unfold m149_34 m149_67
    rw [rdR_i21, if_neg (by rcases hf with rfl | rfl | rfl <;> decide), if_neg (by rcases hf with rfl | rfl | rfl <;> decide), rdR_si27, rdR_si28]
theorem fl_X5 {rr : Option xSt} {cc : Option xSt} (hff : 0 < f) (h : Flt s t z rr cc) : Fl2 s t z (rr.bind fun q => X5 f q) cc := by
  obtain ⟨fl, pl, q, c, h1, h2, h3, h4, h5⟩ := h
  obtain ⟨q', e1, e2⟩ := f34 hff h1 h4
  refine ⟨fl, pl, q', c, h1, ?_, h3, e2, h5⟩
  rw [h2, bs]
  unfold X5
  obtain ⟨u2, u3, u4, u5, u6, u7, u8, u9, u10, u11, u12, u13, u14, u15, u16, v23, v24, v25, v26, v27, v28, v29, v30, vj, w0, w1, w2, w3, rfl, -⟩ := h4
  rw [rdR_i21, if_neg (by rcases h1 with rfl | rfl | rfl <;> decide)]
  exact e1
/-- all is read -/
def GE (T : List Int32) (n : Nat) (s t : xSt) (z : Bool) (D : Nat) (σ : Nat → Nd) (N : Nat) (δ : Nat → Dd) (C R : xSt) : Prop := ∃ (g : Nat → List Int32) (nn : List Int64) (i3 i4 i5 i6 i7 i8 i9 : Int32) (j0 : Int64) (l0 : List Int64) (qi23 : Int32) (qr2 qr3 qr4 qr5 qr6 qr7 qr8 qr9 qr10 qr11 qr12 qr13 qr14 qr15 qr16 : List Int32) (qi22 qi24 qi25 qi26 qi29 qi30 : Int32) (qj0 : Int64) (ql0 ql1 ql2 ql3 : List Int64), C = (rdC s z g nn [] [] [] 0 i3 i4 i5 i6 i7 i8 i9 (-1) 0 j0 l0 true) ∧ R = (rdR t qr2 qr3 qr4 qr5 qr6 qr7 qr8 qr9 qr10 qr11 qr12 qr13 qr14 qr15 qr16 0 qi22 qi23 qi24 qi25 qi26 (nI D) (nI N) qi29 qi30 qj0 ql0 ql1 ql2 ql3) ∧ (WF 0 T σ N [] [] 0 ∧ DM σ N D ∧ (∀ k, k < N → nD (σ k) < D) ∧ ((∀ j, j < 5 → (g j).length = N + D) ∧ ∀ k, k < N → NC (σ k) (k + nD (σ k) + 1) g) ∧ RA σ N qr8 qr9 qr10 qr11 qr13 qr14 ql2 ql3) ∧ (∀ d, d < D → Dw δ σ D N d ∧ DC1 (δ d) d g nn ∧ DC2 (δ d) d g ∧ DR1 (δ d) d qr2 qr4 qr6 qr7 ql0 ql1 ∧ DR2 (δ d) d qr3 qr5) ∧ (D = 0 → N = 0) ∧ ((l0.length = 24 ∧ i3 = -1) ∧ nn.length = 64 ∧ (g 5).length = D ∧ (g 6).length = D ∧ (g 7).length = D ∧ (g 8).length = D ∧ (g 9).length = 8 * D) ∧ (qr2.length = 64 ∧ qr3.length = 64 ∧ qr4.length = 64 ∧ qr5.length = 64 ∧ qr6.length = 64 ∧ qr7.length = 512 ∧ ql0.length = 64 ∧ ql1.length = 512) ∧ (qr8.length = 8192 ∧ qr9.length = 8192 ∧ qr10.length = 8192 ∧ qr11.length = 8192 ∧ qr12.length = 8192 ∧ qr13.length = 8192 ∧ qr14.length = 8192 ∧ ql2.length = 8192 ∧ ql3.length = 8192 ∧ qr15.length = 33000 ∧ qr16.length = 33000) ∧ N + D ≤ n ∧ D ≤ 64
theorem st123 (h : TR T U n) (hT : gR s 0 = T) (hU : gR t 1 = U) (hn : gI t 20 = nI n) (hz : gZ s 3 = z) (hn4 : n ≤ 4088) (hx : x ≤ 3 * p) (hff : 1 < f) (hI : GI T n s t z D p σ N δ C R) : Fl2 s t z (X1 (f + 1) R) (LC x C) ∨ (∃ R2 C2, X1 (f + 1) R = some (0, R2) ∧ LC x C = some C2 ∧ GE T n s t z D σ N δ C2 R2) ∨ ∃ (R2 C2 : xSt) (p2 : Nat) (δ2 : Nat → Dd), X1 (f + 1) R = (X4 D R2).bind (fun q => X5 f q) ∧ LC x C = LC (x + 3) C2 ∧ HI T n s t z D p2 1 σ N δ2 C2 R2 ∧ p + 2 < p2 := by
  obtain ⟨g, nn, i3, i5, i6, i7, i8, i9, j0, l0, qr2, qr3, qr4, qr5, qr6, qr7, qr8, qr9, qr10, qr11, qr12, qr13, qr14, qr15, qr16, qi22, qi24, qi25, qi26, qi29, qi30, qj0, ql0, ql1, ql2, ql3, rfl, rfl, ⟨wf, dm, dlt, ⟨cal, can⟩, ra⟩, hds, h0, ⟨⟨hl0, hi3⟩, hnn, l5, l6, l7, l8, l9⟩, ⟨a2, a3, a4, a5, a6, a7, b0, b1⟩, ⟨h8, h9, h10, h11, h12, h13, h14, g2, g3, h15, h16⟩, hNp, hpn, hD⟩ := hI
  have h78 := m78_A (s := s) (z := z) (g := g) (nn := nn) (r2 := []) (r3 := []) (i2 := 0) (i3 := i3) (i4 := nI p) (i5 := i5) (i6 := i6) (i7 := i7) (i8 := i8) (i9 := i9) (i11 := 0) (j0 := j0) (l0 := l0) (z4 := false)
  obtain ⟨a, e, p1, p2, p3, ht⟩ := tok (s := s) (z := z) (g := g) (nn := nn) (r1 := []) (r2 := []) (r3 := []) (i2 := 0) (i3 := i3) (i5 := i5) (i6 := i6) (i7 := i7) (i8 := i8) (i9 := i9) (i10 := -1) (i11 := 0) (j0 := j0) (l0 := l0) (z4 := false) (t := t) (qr2 := qr2) (qr3 := qr3) (qr4 := qr4) (qr5 := qr5) (qr6 := qr6) (qr7 := qr7) (qr8 := qr8) (qr9 := qr9) (qr10 := qr10) (qr11 := qr11) (qr12 := qr12) (qr13 := qr13) (qr14 := qr14) (qr15 := qr15) (qr16 := qr16) (qi22 := qi22) (qi24 := qi24) (qi25 := qi25) (qi26 := qi26) (qi27 := nI D) (qi28 := nI N) (qi29 := qi29) (qi30 := qi30) (qj0 := qj0) (ql0 := ql0) (ql1 := ql1) (ql2 := ql2) (ql3 := ql3) (p := p) h hT hU hn hpn
  have h34 : ∀ q, gI q 21 = 0 → ¬ gI q 24 = 4 → m149_34 (f + 1) q = (m157 q).bind fun q5 => X5 f q5 := fun q q1 q2 => by
    conv => lhs; unfold m149_34
    rw [if_pos q1, if_neg q2]
    rfl
  rcases ht with ⟨f1, f2, f3⟩ | ⟨f1, d', y', k, q, pe, f2, f3⟩ | ⟨f1, τ, c, x7, x26, j, jr, hG, f2, f3⟩
  · refine Or.inr (Or.inl ⟨?_, ?_, ?_, ?_, ?_⟩)
    · exact (rdR t qr2 qr3 qr4 qr5 qr6 qr7 qr8 qr9 qr10 qr11 qr12 qr13 qr14 qr15 qr16 0 qi22 (nI n) 4 (nI n) qi26 (nI D) (nI N) qi29 qi30 qj0 ql0 ql1 ql2 ql3)
    · exact (rdC s z g nn [] [] [] 0 i3 (nI n) 0 (nI n) i7 0 i9 (-1) 0 j0 l0 true)
    · unfold X1
      rw [f3, bs]
      unfold m149_34 m149_67
      rw [rdR_i21, if_pos rfl, rdR_i24, if_pos rfl, if_pos (by decide)]
    · rw [lc_no (x := x) (by omega) (by rw [rdC_z4]) (by rw [rdC_i2]) h78 (by decide) (by decide) (take_done f2)]
      exact lc_end (by omega) (Or.inl (by rw [rdC_z4]))
    · exact ⟨g, nn, i3, nI n, 0, nI n, i7, 0, i9, j0, l0, nI n, qr2, qr3, qr4, qr5, qr6, qr7, qr8, qr9, qr10, qr11, qr12, qr13, qr14, qr15, qr16, qi22, 4, nI n, qi26, qi29, qi30, qj0, ql0, ql1, ql2, ql3, rfl, rfl, ⟨wf, dm, dlt, ⟨cal, can⟩, ra⟩, hds, h0, ⟨⟨hl0, hi3⟩, hnn, l5, l6, l7, l8, l9⟩, ⟨a2, a3, a4, a5, a6, a7, b0, b1⟩, ⟨h8, h9, h10, h11, h12, h13, h14, g2, g3, h15, h16⟩, by omega, hD⟩
  · refine Or.inl ?_
    have hc := lc_bad (x := x) (by omega) (by rw [rdC_z4]) (by rw [rdC_i2]) h78 (by decide) (by decide) f2
    have hrf : RF t 1 (nI a) (rdR t qr2 qr3 qr4 qr5 qr6 qr7 qr8 qr9 qr10 qr11 qr12 qr13 qr14 qr15 qr16 1 (nI a) pe k (nI a) y' (nI D) (nI N) qi29 qi30 q ql0 ql1 ql2 ql3) := rf_mk a2 a3 a4 a5 a6 a7 b0 b1 h8 h9 h10 h11 h12 h13 h14 g2 g3 h15 h16
    obtain ⟨q', e1, e2⟩ := f34 (f := f + 1) (by omega) (Or.inl rfl) hrf
    refine ⟨1, nI a, q', _, Or.inl rfl, ?_, hc, e2, cf_mk hl0 hnn⟩
    unfold X1
    rw [f3, bs]
    exact e1
  obtain ⟨v1, v2, v3, v4, v5, v6⟩ := hG
  obtain ⟨n4, n0, n1⟩ := tau_ne v1
  have hL := lc_step (x := x) (by omega) (by rw [rdC_z4]) (by rw [rdC_i2]) h78 (by decide) (by decide) (by decide) (take_ok f2 n0 n1)
  rw [m83_65 hz l6 hD] at hL
  have hM : X1 (f + 1) (rdR t qr2 qr3 qr4 qr5 qr6 qr7 qr8 qr9 qr10 qr11 qr12 qr13 qr14 qr15 qr16 0 qi22 (nI p) qi24 qi25 qi26 (nI D) (nI N) qi29 qi30 qj0 ql0 ql1 ql2 ql3) = (m157 (rdR t qr2 qr3 qr4 qr5 qr6 qr7 qr8 qr9 qr10 qr11 qr12 qr13 qr14 qr15 qr16 0 qi22 (nI e) (nI (τ - 2)) (nI a) x26 (nI D) (nI N) qi29 qi30 jr ql0 ql1 ql2 ql3)).bind fun q5 => X5 f q5 := by
    unfold X1
    rw [f3, bs, h34 _ (by rw [rdR_i21]) (by rw [rdR_i24]; exact n4)]
  have hM7 : m157 (rdR t qr2 qr3 qr4 qr5 qr6 qr7 qr8 qr9 qr10 qr11 qr12 qr13 qr14 qr15 qr16 0 qi22 (nI e) (nI (τ - 2)) (nI a) x26 (nI D) (nI N) qi29 qi30 jr ql0 ql1 ql2 ql3) = m157_22 (decide (τ = 2 ∧ D < 64)) (rdR t qr2 qr3 qr4 qr5 qr6 qr7 qr8 qr9 qr10 qr11 qr12 qr13 qr14 qr15 qr16 0 qi22 (nI e) (nI (τ - 2)) (nI a) x26 (nI D) (nI N) qi29 qi30 jr ql0 ql1 ql2 ql3) := by
    unfold m157 m157_21
    rw [rdR_i24, rdR_i27]
    by_cases y : τ = 2
    · rw [if_pos (by rw [y]; decide)]
      by_cases y64 : D < 64
      · rw [if_neg (by rw [geL_64 (by omega)]; omega), decide_eq_true ⟨y, y64⟩]
      · rw [if_pos (by rw [geL_64 (by omega)]; omega), decide_eq_false (fun q => y64 q.2)]
    · rw [if_neg (by rw [eqL_0 (by omega)]; omega), decide_eq_false (fun q => y q.1)]
  by_cases y : τ = 2 ∧ D < 64
  rotate_left
  · refine Or.inl ?_
    rw [decide_eq_false y] at hM7
    unfold m157_22 at hM7
    rw [m158_f n4, bs, rdR_i21, if_neg (by decide)] at hM7
    rw [decide_eq_false (fun q => y ⟨by have := q.1; rw [eqL_2 (by omega)] at this; exact this, q.2⟩), m84_f, bs, if_neg ff, bs] at hL
    replace hL := hL.trans (lc_end (by omega) (Or.inr (show ¬ (2 : Int32) = 0 by decide)))
    rw [hM]
    exact fl_X5 (by omega) (flt_mk (Or.inr (Or.inl rfl)) hM7 hL (rf_mk a2 a3 a4 a5 a6 a7 b0 b1 h8 h9 h10 h11 h12 h13 h14 g2 g3 h15 h16) (cf_mk hl0 hnn))
  obtain ⟨rfl, hD6⟩ := y
  rw [decide_eq_true ⟨rfl, hD6⟩] at hM7
  rw [decide_eq_true ⟨rfl, hD6⟩, m84_t, bs, if_pos rfl, bs] at hL
  unfold m157_22 at hM7
  rw [m158_t n4, bs, rdR_i21, if_pos (by decide), rdR_i27] at hM7
  have h78b : m78 (rdC s z g nn [] [] [] 0 i3 (nI e) (nI 2) (nI a) x7 (nI c) (nI a) 2 0 j l0 false) = some (72, (rdC s z g nn [] [] [] 0 i3 (nI e) (nI 2) (nI a) x7 (nI c) (nI a) 2 0 j l0 false)) := m78_H (by decide)
  rcases dtok (s := s) (z := z) (g := g) (nn := nn) (r1 := []) (r2 := []) (r3 := []) (i3 := i3) (i5 := nI 2) (i6 := nI a) (i7 := x7) (i8 := nI c) (i9 := nI a) (i10 := 2) (i11 := 0) (j0 := j) (l0 := l0) (t := t) (qr2 := qr2) (qr3 := qr3) (qr4 := qr4) (qr5 := qr5) (qr6 := qr6) (qr7 := qr7) (qr8 := qr8) (qr9 := qr9) (qr10 := qr10) (qr11 := qr11) (qr12 := qr12) (qr13 := qr13) (qr14 := qr14) (qr15 := qr15) (qr16 := qr16) (qi22 := qi22) (qi24 := nI (2 - 2)) (qi25 := nI a) (qi26 := x26) (qi27 := nI D) (qi28 := nI N) (qi29 := qi29) (qi30 := qi30) (qj0 := jr) (ql0 := ql0) (ql1 := ql1) (ql2 := ql2) (ql3 := ql3) (x := x + 1) (p := e) h hT hU hn (by omega) p3 hl0 hnn (by rw [rdC_z4]) (by rw [rdC_i2]) h78b (by decide) (by decide) (by decide) with ⟨c', e1, e2, e3⟩ | ⟨a', c', pe, k, y', q, e1, e2, e3⟩ | ⟨ab, eb, τb, cb, xb7, xb26, jb, jrb, pb1, pb2, pb3, hGb, hm81b, h150b⟩
  · refine Or.inl ?_
    have hw : IsWd (rdR t qr2 qr3 qr4 qr5 qr6 qr7 qr8 qr9 qr10 qr11 qr12 qr13 qr14 qr15 qr16 0 qi22 (nI n) 4 (nI n) x26 (nI D) (nI N) qi29 qi30 jr ql0 ql1 ql2 ql3) 0 := iswd_no (by rw [rdR_i24]; decide)
    rw [e3, bs, rdR_i21, if_neg (by decide), hw 12 (by decide), bs, if_neg (show ¬ decide (0 = cd 12) = true by decide), hw 13 (by decide), bs, if_neg (show ¬ decide (0 = cd 13) = true by decide)] at hM7
    unfold m157_74 m157_103 at hM7
    rw [m158_end, bs, rdR_i21, if_neg (by decide), hn] at hM7
    rw [hM, hM7]
    refine fl_X5 (by omega) (flt_fq (Or.inr (Or.inr rfl)) (f104 (by decide) (by decide) hD6 a2 a3 a4 a5 a6 a7 b0 b1 h8 h9 h10 h11 h12 h13 h14 g2 g3 h15 h16) (hL.trans e1) e2)
  · refine Or.inl ?_
    rw [e3, bs, rdR_i21, if_pos (by decide)] at hM7
    rw [hM, hM7]
    exact fl_X5 (by omega) (flt_fq (Or.inl rfl) (f74 (by decide) (by decide) hD6 a2 a3 a4 a5 a6 a7 b0 b1 h8 h9 h10 h11 h12 h13 h14 g2 g3 h15 h16) (hL.trans e1) e2)
  obtain ⟨w1, w2, w3, w4, w5, w6⟩ := hGb
  obtain ⟨m4, m0, m1⟩ := tau_ne w1
  have hw : IsWd (rdR t qr2 qr3 qr4 qr5 qr6 qr7 qr8 qr9 qr10 qr11 qr12 qr13 qr14 qr15 qr16 0 qi22 (nI eb) (nI (τb - 2)) (nI ab) xb26 (nI D) (nI N) qi29 qi30 jrb ql0 ql1 ql2 ql3) cb := w6 _ hU rfl rfl rfl
  have hL2 := lc_step (x := x + 1) (by omega) (by rw [rdC_z4]) (by rw [rdC_i2]) h78b (by decide) (by decide) (by decide) hm81b
  rw [m83_72] at hL2
  rw [h150b, bs, rdR_i21, if_neg (by decide), hw 12 (by decide), bs] at hM7
  have hM8 : m157 (rdR t qr2 qr3 qr4 qr5 qr6 qr7 qr8 qr9 qr10 qr11 qr12 qr13 qr14 qr15 qr16 0 qi22 (nI e) (nI (2 - 2)) (nI a) x26 (nI D) (nI N) qi29 qi30 jr ql0 ql1 ql2 ql3) = m157_74 (nI D) (decide (cb = 22 ∨ cb = 23)) (rdR t qr2 qr3 qr4 qr5 qr6 qr7 qr8 qr9 qr10 qr11 qr12 qr13 qr14 qr15 qr16 0 qi22 (nI eb) (nI (τb - 2)) (nI ab) xb26 (nI D) (nI N) qi29 qi30 jrb ql0 ql1 ql2 ql3) := by
    rw [hM7]
    unfold m157_69
    by_cases y22 : cb = 22
    · rw [if_pos (show decide (cb = cd 12) = true by rw [y22]; decide), decide_eq_true (Or.inl y22)]
    · rw [if_neg (show ¬ decide (cb = cd 12) = true from fun q => y22 (of_decide_eq_true q)), hw 13 (by decide), bs]
      by_cases y23 : cb = 23
      · rw [if_pos (show decide (cb = cd 13) = true by rw [y23]; decide), decide_eq_true (Or.inr y23)]
      · rw [if_neg (show ¬ decide (cb = cd 13) = true from fun q => y23 (of_decide_eq_true q)), decide_eq_false (show ¬ (cb = 22 ∨ cb = 23) by omega)]
  by_cases yw : cb = 22 ∨ cb = 23
  rotate_left
  · refine Or.inl ?_
    rw [decide_eq_false yw] at hM8
    unfold m157_74 m157_103 at hM8
    rw [m158_f m4, bs, rdR_i21, if_neg (by decide)] at hM8
    rw [m86_defn w2 yw, bs] at hL2
    replace hL2 := hL2.trans (lc_end (by omega) (Or.inr (show ¬ (2 : Int32) = 0 by decide)))
    rw [hM, hM8]
    exact fl_X5 (by omega) (flt_fq (Or.inr (Or.inl rfl)) (f104 (by decide) (by decide) hD6 a2 a3 a4 a5 a6 a7 b0 b1 h8 h9 h10 h11 h12 h13 h14 g2 g3 h15 h16) (hL.trans hL2) (cf_mk hl0 hnn))
  rw [decide_eq_true yw] at hM8
  unfold m157_74 m157_103 at hM8
  rw [m158_t m4, bs, rdR_i21, if_pos rfl, hw 13 (by decide), bs] at hM8
  have hM9 : m157 (rdR t qr2 qr3 qr4 qr5 qr6 qr7 qr8 qr9 qr10 qr11 qr12 qr13 qr14 qr15 qr16 0 qi22 (nI e) (nI (2 - 2)) (nI a) x26 (nI D) (nI N) qi29 qi30 jr ql0 ql1 ql2 ql3) = m157_104 (nI D) (decide (cb = 23)) (nI D) (rdR t qr2 qr3 qr4 qr5 qr6 qr7 qr8 qr9 qr10 qr11 qr12 qr13 qr14 qr15 qr16 0 qi22 (nI eb) (nI (τb - 2)) (nI ab) xb26 (nI D) (nI N) qi29 qi30 jrb ql0 ql1 ql2 ql3) := by
    rw [hM8]
    by_cases y23 : cb = 23
    · rw [if_pos (show decide (cb = cd 13) = true by rw [y23]; decide), decide_eq_true y23]
    · rw [if_neg (show ¬ decide (cb = cd 13) = true from fun q => y23 (of_decide_eq_true q)), decide_eq_false y23]
  rw [m86_def hz yw, bs, cal 0 (by omega), l6] at hL2
  have a2' : (qr2.set D (b01 (decide (cb = 23)))).length = 64 := by rw [List.length_set]; exact a2
  have hN10 : m157 (rdR t qr2 qr3 qr4 qr5 qr6 qr7 qr8 qr9 qr10 qr11 qr12 qr13 qr14 qr15 qr16 0 qi22 (nI e) (nI (2 - 2)) (nI a) x26 (nI D) (nI N) qi29 qi30 jr ql0 ql1 ql2 ql3) = (m150 (rdR t (qr2.set D (b01 (decide (cb = 23)))) qr3 qr4 qr5 qr6 qr7 qr8 qr9 qr10 qr11 qr12 qr13 qr14 qr15 qr16 0 qi22 (nI eb) (nI (τb - 2)) (nI ab) xb26 (nI D) (nI N) qi29 qi30 jrb ql0 ql1 ql2 ql3)).bind fun q => m157_120 1000000 (nI D) false (nI 0) q := by
    rw [hM9]
    unfold m157_104 m157_116
    rw [rdR_r2, xsPut_n (by omega) (by omega), bs, rdR_i21, if_pos rfl, rdR_sr2]
    rfl
  have hga := addN_5 (g := g) (a := nI cb) (b := nI a) (c := nI D) (e := 0)
  have hgb : ∀ j', 5 ≤ j' → addN g (nI cb) (nI a) (nI D) 0 j' = g j' := fun j' hj => addN_j hj
  have hg0 : (addN g (nI cb) (nI a) (nI D) 0 0).getD (N + D) 0 = nI (if (decide (cb = 23)) = true then 23 else 22) := by
    rw [hga.1, xsPush_n (by rw [cal 0 (by omega)]; omega), getD_push, cal 0 (by omega), if_pos rfl]
    rcases yw with e | e <;> rw [e] <;> rfl
  have h78c := m78_d (b := decide (cb = 23)) (s := s) (z := z) (g := addN g (nI cb) (nI a) (nI D) 0) (nn := nn) (r3 := [lvl (decide (cb = 23))]) (i2 := 0) (i3 := i3) (i4 := nI eb) (i5 := nI τb) (i6 := nI ab) (i7 := xb7) (i8 := nI cb) (i9 := nI a) (i11 := 0) (j0 := jb) (l0 := l0) (z4 := false) (sp := 0) hz hg0 (by omega) (by omega)
  rw [zb0.1] at h78c
  rcases dtok (s := s) (z := z) (g := addN g (nI cb) (nI a) (nI D) 0) (nn := nn) (r1 := [nI (N + D)]) (r2 := [nI (0 + 1)]) (r3 := [lvl (decide (cb = 23))]) (i3 := i3) (i5 := nI τb) (i6 := nI ab) (i7 := xb7) (i8 := nI cb) (i9 := nI a) (i10 := -1) (i11 := 0) (j0 := jb) (l0 := l0) (t := t) (qr2 := qr2.set D (b01 (decide (cb = 23)))) (qr3 := qr3) (qr4 := qr4) (qr5 := qr5) (qr6 := qr6) (qr7 := qr7) (qr8 := qr8) (qr9 := qr9) (qr10 := qr10) (qr11 := qr11) (qr12 := qr12) (qr13 := qr13) (qr14 := qr14) (qr15 := qr15) (qr16 := qr16) (qi22 := qi22) (qi24 := nI (τb - 2)) (qi25 := nI ab) (qi26 := xb26) (qi27 := nI D) (qi28 := nI N) (qi29 := qi29) (qi30 := qi30) (qj0 := jrb) (ql0 := ql0) (ql1 := ql1) (ql2 := ql2) (ql3 := ql3) (x := x + 1 + 1) (p := eb) h hT hU hn (by omega) pb3 hl0 hnn (by rw [rdC_z4]) (by rw [rdC_i2]) h78c (by decide) (by decide) (by decide) with ⟨c', e1, e2, e3⟩ | ⟨a', c', pe, k, y', q, e1, e2, e3⟩ | ⟨ac, ec, τc, cc, xc7, xc26, jc, jrc, pc1, pc2, pc3, hGc, hm81c, h150c⟩
  · refine Or.inl ?_
    rw [e3, bs, m157_120_eq (o := false) hD6 b0 (m160_no (by rw [rdR_i24]; decide)) D 0 1000000 false (by omega) (by omega), Bool.false_and] at hN10
    unfold m157_179 at hN10
    rw [m158_end, bs, rdR_l0, rdR_j0, xlPut_n (by omega) (by omega), bs, rdR_r6, rdR_i25, xsPut_n (by omega) (by omega), bs, rdR_r4, xsPut_n (by omega) (by omega), bs, rdR_i21, if_neg (by decide), rdR_sl0, rdR_sr6, rdR_sr4, hn] at hN10
    rw [hM, hN10]
    exact fl_X5 (by omega) (flt_fq (Or.inr (Or.inr rfl)) (f238 (by decide) (by decide) hD6 a2' a3 (by (try simp only [List.length_set]); first | assumption | omega) a5 (by (try simp only [List.length_set]); first | assumption | omega) a7 (by (try simp only [List.length_set]); first | assumption | omega) b1 h8 h9 h10 h11 h12 h13 h14 g2 g3 h15 h16) ((hL.trans hL2).trans e1) e2)
  · refine Or.inl ?_
    rw [e3, bs] at hN10
    rw [hM, hN10]
    exact fl_X5 (by omega) (flt_fq (Or.inl rfl) (f120 (by decide) (by decide) hD6 a2' a3 a4 a5 a6 a7 b0 b1 h8 h9 h10 h11 h12 h13 h14 g2 g3 h15 h16 D 0 1000000 false (by omega) (by omega)) ((hL.trans hL2).trans e1) e2)
  have hown := own_eq (S := (rdR t (qr2.set D (b01 (decide (cb = 23)))) qr3 qr4 qr5 qr6 qr7 qr8 qr9 qr10 qr11 qr12 qr13 qr14 qr15 qr16 0 qi22 (nI ec) (nI (τc - 2)) (nI ac) xc26 (nI D) (nI N) qi29 qi30 jrc ql0 ql1 ql2 ql3)) hGc hU rfl rfl rfl
  obtain ⟨u1, u2, u3, u4, u5, u6⟩ := hGc
  obtain ⟨q4, q0, q1⟩ := tau_ne u1
  have hL3 := lc_step (x := x + 1 + 1) (by omega) (by rw [rdC_z4]) (by rw [rdC_i2]) h78c (by decide) (by decide) (by decide) hm81c
  rw [h150c, bs, m157_120_eq hD6 b0 hown D 0 1000000 false (by omega) (by omega), Bool.false_or] at hN10
  have hbad : (decide (τc = 4 ∧ cc = 0) && !tw ql0 jrc 0 D) = false → LC x (rdC s z g nn [] [] [] 0 i3 (nI p) i5 i6 i7 i8 i9 (-1) 0 j0 l0 false) = some (rdC s z (addN g (nI cb) (nI a) (nI D) 0) nn ([nI (N + D)]) ([nI (0 + 1)]) ([lvl (decide (cb = 23))]) 2 (nI ac) (nI ec) (nI τc) (nI ac) xc7 (nI cc) (nI a) (-1) 0 jc l0 false) → Fl2 s t z (X1 (f + 1) (rdR t qr2 qr3 qr4 qr5 qr6 qr7 qr8 qr9 qr10 qr11 qr12 qr13 qr14 qr15 qr16 0 qi22 (nI p) qi24 qi25 qi26 (nI D) (nI N) qi29 qi30 qj0 ql0 ql1 ql2 ql3)) (LC x (rdC s z g nn [] [] [] 0 i3 (nI p) i5 i6 i7 i8 i9 (-1) 0 j0 l0 false)) := by
    intro ho hc
    rw [ho] at hN10
    unfold m157_179 at hN10
    rw [m158_f q4, bs, rdR_l0, rdR_j0, xlPut_n (by omega) (by omega), bs, rdR_r6, rdR_i25, xsPut_n (by omega) (by omega), bs, rdR_r4, xsPut_n (by omega) (by omega), bs, rdR_i21, if_neg (by decide), rdR_sl0, rdR_sr6, rdR_sr4] at hN10
    rw [hM, hN10]
    exact fl_X5 (by omega) (flt_fq (Or.inr (Or.inl rfl)) (f238 (by decide) (by decide) hD6 a2' a3 (by (try simp only [List.length_set]); first | assumption | omega) a5 (by (try simp only [List.length_set]); first | assumption | omega) a7 (by (try simp only [List.length_set]); first | assumption | omega) b1 h8 h9 h10 h11 h12 h13 h14 g2 g3 h15 h16) hc (cf_mk hl0 hnn))
  by_cases yo : τc = 4 ∧ cc = 0
  rotate_left
  · refine Or.inl (hbad (by rw [decide_eq_false yo]; rfl) ?_)
    rw [hL, hL2, hL3, m83_68n (by rw [eqL_4 (by omega), eqL_0 (by omega)]; exact yo), bs]
    exact lc_end (by omega) (Or.inr (by rw [rdC_i2]; decide))
  obtain ⟨rfl, rfl⟩ := yo
  obtain ⟨ej, ej0, ejn⟩ := u4 rfl
  subst ej
  have hgl : ∀ j', 5 ≤ j' → (addN g (nI cb) (nI a) (nI D) 0 j').length = (g j').length := fun j' hj => by rw [hgb j' hj]
  have htw : tw ql0 jc 0 D = true ↔ ¬ dfx nn jc 0 D = -1 := by
    rw [tw_iff]
    rcases dfx_spec nn jc D 0 with ⟨s1, s2⟩ | ⟨i, s1, s2, s3, s4⟩
    · constructor
      · rintro ⟨i, i1, i2⟩ _
        refine s2 i (by omega) (by omega) ?_
        rw [(hds i i1).2.1.2.2.2.2.1, ← (hds i i1).2.2.2.1.2.2.2.1]
        rw [Nat.zero_add] at i2
        exact i2
      · intro q
        exact absurd s1 q
    · constructor
      · intro _ q
        rw [s3, nI_ne1 (by omega)] at q
        exact q
      · intro _
        refine ⟨i, by omega, ?_⟩
        rw [Nat.zero_add, (hds i (by omega)).2.2.2.1.2.2.2.1, ← (hds i (by omega)).2.1.2.2.2.2.1]
        exact s4
  rw [show nI 4 = (4 : Int32) from rfl, show nI 0 = (0 : Int32) from rfl] at hL3 hbad
  rw [m83_68 hz (by rw [hgb 6 (by omega)]; exact l6) hD6 hnn] at hL3
  by_cases ytw : tw ql0 jc 0 D = true
  · refine Or.inl (hbad (by rw [ytw]; rfl) ?_)
    rw [decide_eq_false (htw.mp ytw), m94_31_f, bs] at hL3
    replace hL3 := hL3.trans (lc_end (by omega) (Or.inr (show ¬ (2 : Int32) = 0 by decide)))
    exact (hL.trans hL2).trans hL3
  have hdf : dfx nn jc 0 D = -1 := by
    by_cases hq : dfx nn jc 0 D = -1
    · exact hq
    · exact absurd (htw.mpr hq) ytw
  have htf : tw ql0 jc 0 D = false := by
    cases hq : tw ql0 jc 0 D
    · rfl
    · exact absurd hq ytw
  rw [decide_eq_true hdf, m94_31_t hz (by rw [hgb 5 (by omega)]; exact l5) (by rw [hgb 6 (by omega)]; exact l6) (by rw [hgb 7 (by omega)]; exact l7) (by rw [hgb 8 (by omega)]; exact l8) (by rw [hgb 9 (by omega)]; exact l9) hD6 hnn, bs] at hL3
  rw [htf, decide_eq_true ⟨rfl, rfl⟩] at hN10
  unfold m157_179 at hN10
  rw [show (true && !false) = true from rfl, m158_t q4, bs, rdR_l0, rdR_j0, xlPut_n (by omega) (by omega), bs, rdR_r6, rdR_i25, xsPut_n (by omega) (by omega), bs, rdR_r4, xsPut_n (by omega) (by omega), bs, rdR_i21, if_pos rfl, rdR_sl0, rdR_sr6, rdR_sr4] at hN10
  refine Or.inr (Or.inr ⟨_, _, ec, fd δ D ((N, 0, decide (cb = 23)), [], [], 0, jc, nI ac), hM.trans (congrArg (fun o => Option.bind o _) hN10), (hL.trans hL2).trans hL3, ?_, by omega⟩)
  have hds' : fd δ D ((N, 0, decide (cb = 23)), [], [], 0, jc, nI ac) D = ((N, 0, decide (cb = 23)), [], [], 0, jc, nI ac) := fd_s _ _ _
  have hdn : ∀ d, d < D → fd δ D ((N, 0, decide (cb = 23)), [], [], 0, jc, nI ac) d = δ d := fun d hd => fd_n (by omega)
  have hG5 : ∀ j', j' < 5 → ∃ v, defN (addN g (nI cb) (nI a) (nI D) 0) (nI ac) (nI (N + D)) j' = g j' ++ [v] := by
    intro j' hj
    have e0 : defN (addN g (nI cb) (nI a) (nI D) 0) (nI ac) (nI (N + D)) j' = addN g (nI cb) (nI a) (nI D) 0 j' := by
      unfold defN
      rw [bUp_if, if_neg (by omega), bUp_if, if_neg (by omega), bUp_if, if_neg (by omega), bUp_if, if_neg (by omega), bUp_if, if_neg (by omega)]
    have hh : j' = 0 ∨ j' = 1 ∨ j' = 2 ∨ j' = 3 ∨ j' = 4 := by omega
    rcases hh with rfl | rfl | rfl | rfl | rfl
    · exact ⟨_, by rw [e0, hga.1, xsPush_n (by rw [cal 0 (by omega)]; omega)]⟩
    · exact ⟨_, by rw [e0, hga.2.1, xsPush_n (by rw [cal 1 (by omega)]; omega)]⟩
    · exact ⟨_, by rw [e0, hga.2.2.1, xsPush_n (by rw [cal 2 (by omega)]; omega)]⟩
    · exact ⟨_, by rw [e0, hga.2.2.2.1, xsPush_n (by rw [cal 3 (by omega)]; omega)]⟩
    · exact ⟨_, by rw [e0, hga.2.2.2.2, xsPush_n (by rw [cal 4 (by omega)]; omega)]⟩
  have hP : ∀ j' i, j' < 5 → i < N + D → (defN (addN g (nI cb) (nI a) (nI D) 0) (nI ac) (nI (N + D)) j').getD i 0 = (g j').getD i 0 := by
    intro j' i hj hi
    obtain ⟨v, hv⟩ := hG5 j' hj
    rw [hv, getD_app_l (by rw [cal j' hj]; exact hi)]
  have e5 : defN (addN g (nI cb) (nI a) (nI D) 0) (nI ac) (nI (N + D)) 5 = g 5 ++ [nI ac] := by
    unfold defN
    rw [bUp_if, if_neg (by omega), bUp_if, if_neg (by omega), bUp_if, if_neg (by omega), bUp_if, if_neg (by omega), bUp_if, if_pos rfl, hgb 5 (by omega)]
  have e6 : defN (addN g (nI cb) (nI a) (nI D) 0) (nI ac) (nI (N + D)) 6 = g 6 ++ [nI (N + D)] := by
    unfold defN
    rw [bUp_if, if_neg (by omega), bUp_if, if_neg (by omega), bUp_if, if_neg (by omega), bUp_if, if_pos rfl, hgb 6 (by omega)]
  have e7 : defN (addN g (nI cb) (nI a) (nI D) 0) (nI ac) (nI (N + D)) 7 = g 7 ++ [0] := by
    unfold defN
    rw [bUp_if, if_neg (by omega), bUp_if, if_neg (by omega), bUp_if, if_pos rfl, hgb 7 (by omega)]
  have e8 : defN (addN g (nI cb) (nI a) (nI D) 0) (nI ac) (nI (N + D)) 8 = g 8 ++ [0] := by
    unfold defN
    rw [bUp_if, if_neg (by omega), bUp_if, if_pos rfl, hgb 8 (by omega)]
  have e9 : defN (addN g (nI cb) (nI a) (nI D) 0) (nI ac) (nI (N + D)) 9 = g 9 ++ [0, 0, 0, 0, 0, 0, 0, 0] := by
    unfold defN
    rw [bUp_if, if_pos rfl, hgb 9 (by omega)]
  have hlc : ∀ d, d < D → dF (δ d) + d < N + D := fun d hd => by
    have w := (hds d hd).1.1
    omega
  refine ⟨defN (addN g (nI cb) (nI a) (nI D) 0) (nI ac) (nI (N + D)), nn.set D jc, i3, 4, nI ac, xc7, 0, nI a, jc, l0, qr2.set D (b01 (decide (cb = 23))), qr3, qr4.set D 0, qr5, qr6.set D (nI ac), qr7, qr8, qr9, qr10, qr11, qr12, qr13, qr14, qr15, qr16, qi22, nI (4 - 2), nI ac, xc26, qi29, qi30, jc, ql0.set D jc, ql1, ql2, ql3, ?_, rfl, ⟨wf, dm, dlt, ⟨fun j' hj => ?_, fun k hk => ?_⟩, ra⟩, fun d hd => ?_, h0, ⟨?_, ⟨?_, fun e' he => ?_⟩, ?_, ?_, ?_, fun q => absurd q (by decide)⟩, ⟨⟨hl0, hi3⟩, ?_, (by (try simp only [List.length_set]); first | assumption | omega), ?_, ?_, ?_, ?_, ?_⟩, ⟨a2', a3, (by (try simp only [List.length_set]); first | assumption | omega), a5, (by (try simp only [List.length_set]); first | assumption | omega), a7, (by (try simp only [List.length_set]); first | assumption | omega), b1⟩, ⟨h8, h9, h10, h11, h12, h13, h14, g2, g3, h15, h16⟩, by omega, pc3, hD6⟩
  · rw [hds']
    rfl
  · obtain ⟨v, hv⟩ := hG5 j' hj
    rw [hv, List.length_append, cal j' hj]
    rfl
  · have q := can k hk
    have hc : k + nD (σ k) + 1 < N + D := by
      have := dlt k hk
      omega
    unfold NC at q ⊢
    rw [hP 0 _ (by omega) hc, hP 1 _ (by omega) hc, hP 2 _ (by omega) hc, hP 3 _ (by omega) hc, hP 4 _ (by omega) hc]
    exact q
  · obtain ⟨d0, d1, d2, d3, d4⟩ := hds d hd
    have hPd := d0.2.1.1
    rw [hdn d hd]
    refine ⟨?_, ?_, ?_, ?_, d4⟩
    · obtain ⟨⟨w1, w2, w3, w4, w5⟩, w6, w7, w8, w9⟩ := d0
      refine ⟨⟨by rw [hdn d hd]; exact w1, by rw [hdn d hd]; exact w2, fun q => by rw [hdn d hd, hdn (d + 1) q]; exact w3 q, fun q => by rw [hdn d hd]; exact w4 q, fun q => by rw [hdn d hd]; exact w5 q⟩, by rw [hdn d hd]; exact w6, by rw [hdn d hd]; exact w7, ⟨by rw [hdn d hd]; exact w8.1, fun e' he => by rw [hdn d hd, hdn e' (by omega)]; exact w8.2 e' he⟩, by rw [hdn d hd]; exact w9⟩
    · obtain ⟨x1, x2, x3, x4, x5, x6, x7'⟩ := d1
      refine ⟨by rw [e5, getD_app_l (by omega)]; exact x1, by rw [e6, getD_app_l (by omega)]; exact x2, by rw [e8, getD_app_l (by omega)]; exact x3, fun i hi => by rw [e9, getD_app_l (by omega)]; exact x4 i hi, by rw [getD_setn (by omega), if_neg (by omega)]; exact x5, by rw [hP 0 _ (by omega) (hlc d hd)]; exact x6, by rw [hP 2 _ (by omega) (hlc d hd)]; exact x7'⟩
    · exact ⟨by rw [e7, getD_app_l (by omega)]; exact d2.1, by rw [hP 4 _ (by omega) (hlc d hd)]; exact d2.2⟩
    · obtain ⟨x1, x2, x3, x4, x5⟩ := d3
      exact ⟨by rw [getD_setn (by omega), if_neg (by omega)]; exact x1, by rw [getD_setn (by omega), if_neg (by omega)]; exact x2, by rw [getD_setn (by omega), if_neg (by omega)]; exact x3, by rw [getD_setn (by omega), if_neg (by omega)]; exact x4, x5⟩
  · rw [hds']
    exact ⟨Nat.zero_le _, rfl, fun i hi => absurd hi (Nat.not_lt_zero _), fun i j' hij hj => absurd hj (Nat.not_lt_zero _)⟩
  · rw [hds']; exact ej0
  · rw [hds', hdn e' he]
    intro q
    refine ytw ((tw_iff _ _ _ _).mpr ⟨e', he, ?_⟩)
    rw [Nat.zero_add, (hds e' he).2.2.2.1.2.2.2.1]
    exact q
  · rw [hds']; rfl
  · rw [hds']
    refine ⟨by rw [e5, getD_push, l5, if_pos rfl]; rfl, by rw [e6, getD_push, l6, if_pos rfl]; rfl, by rw [e8, getD_push, l8, if_pos rfl]; rfl, fun i hi => absurd hi (Nat.not_lt_zero _), by rw [getD_setn (by omega), if_pos rfl]; rfl, ?_, ?_⟩
    · have e0 : defN (addN g (nI cb) (nI a) (nI D) 0) (nI ac) (nI (N + D)) 0 = addN g (nI cb) (nI a) (nI D) 0 0 := by
        unfold defN
        rw [bUp_if, if_neg (by omega), bUp_if, if_neg (by omega), bUp_if, if_neg (by omega), bUp_if, if_neg (by omega), bUp_if, if_neg (by omega)]
      rw [e0]
      exact hg0
    · have e0 : defN (addN g (nI cb) (nI a) (nI D) 0) (nI ac) (nI (N + D)) 2 = addN g (nI cb) (nI a) (nI D) 0 2 := by
        unfold defN
        rw [bUp_if, if_neg (by omega), bUp_if, if_neg (by omega), bUp_if, if_neg (by omega), bUp_if, if_neg (by omega), bUp_if, if_neg (by omega)]
      rw [e0, hga.2.2.1, xsPush_n (by rw [cal 2 (by omega)]; omega)]
      show (g 2 ++ [nI D]).getD (N + D) 0 = nI D
      rw [getD_push, cal 2 (by omega), if_pos rfl]
  · rw [hds']
    refine ⟨?_, by rw [getD_setn (by omega), if_pos rfl]; rfl, by rw [getD_setn (by omega), if_pos rfl]; rfl, by rw [getD_setn (by omega), if_pos rfl]; rfl, fun i hi => absurd hi (Nat.not_lt_zero _)⟩
    rw [getD_setn (by omega), if_pos rfl]
    show b01 (decide (cb = 23)) = lvl (decide (cb = 23))
    cases decide (cb = 23) <;> rfl
  · rw [hds']
    exact fun i hi => absurd hi (Nat.not_lt_zero _)
  · rw [e5, List.length_append, l5]; rfl
  · rw [e6, List.length_append, l6]; rfl
  · rw [e7, List.length_append, l7]; rfl
  · rw [e8, List.length_append, l8]; rfl
  · rw [e9, List.length_append, l9]
    show 8 * D + 8 = 8 * (D + 1)
    omega
end DAll
