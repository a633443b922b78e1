/-! the head of a definition -/
section DHead
variable {T U : List Int32} {n p N D F x y d f : Nat} {σ σ0 : Nat → Nd} {δ : Nat → Dd} {C R : xSt} {sy : Int32} {s : xSt} {z : Bool} {g : Nat → List Int32} {nn : List Int64} {r1 r2 r3 : List Int32} {i2 i3 i4 i5 i6 i7 i8 i9 i10 i11 : Int32} {j0 : Int64} {l0 : List Int64} {z4 : Bool} {t : xSt} {qr2 qr3 qr4 qr5 qr6 qr7 qr8 qr9 qr10 qr11 qr12 qr13 qr14 qr15 qr16 : List Int32} {qi21 qi22 qi23 qi24 qi25 qi26 qi27 qi28 qi29 qi30 : Int32} {qj0 : Int64} {ql0 ql1 ql2 ql3 : List Int64}
/-- the reference ahead of the ( of the parameters -/
def X4 (D : Nat) (S : xSt) : Option xSt := (m150 S).bind fun q21 => if (gI q21 24) = 0 then m157_234 (nI D) true q21 else m157_234 (nI D) false q21
theorem st4 (h : TR T U n) (hT : gR s 0 = T) (hU : gR t 1 = U) (hn : gI t 20 = nI n) (hz : gZ s 3 = z) (hn4 : n ≤ 4088) (hx : x ≤ 3 * p) (hI : HI T n s t z D p 1 σ N δ C R) : Flt s t z (X4 D R) (LC x C) ∨ ∃ (R2 C2 : xSt) (p2 : Nat), X4 D R = m157_240 1000000 (nI D) true R2 ∧ LC x C = LC (x + 1) C2 ∧ HI T n s t z D p2 2 σ N δ C2 R2 ∧ p < p2 := by
  obtain ⟨g, nn, i3, i5, i6, i7, i8, i9, j0, l0, qr2, qr3, qr4, qr5, qr6, qr7, qr8, qr9, qr10, qr11, qr12, qr13, qr14, qr15, qr16, qi22, qi24, qi25, qi26, qi29, qi30, qj0, ql0, ql1, ql2, ql3, rfl, rfl, ⟨wf, dm, dlt, ⟨cal, can⟩, ra⟩, hds, h0, ⟨kg, kh, kF, kc1, kr1, k7⟩, ⟨⟨hl0, hi3⟩, hcur, hnn, l5, l6, l7, l8, l9⟩, ⟨a2, a3, a4, a5, a6, a7, b0, b1⟩, ⟨h8, h9, h10, h11, h12, h13, h14, g2, g3, h15, h16⟩, hNp, hpn, hD⟩ := hI
  have hg0 : (g 0).getD (N + D) 0 = nI (if dH (δ D) = true then 23 else 22) := by
    have e0 := kc1.2.2.2.2.2.1
    rw [kF] at e0
    exact e0
  have hps8 := kg.1
  have h78 := m78_d (s := s) (z := z) (g := g) (nn := nn) (r3 := [lvl (dH (δ D))]) (i2 := 0) (i3 := i3) (i4 := nI p) (i5 := i5) (i6 := i6) (i7 := i7) (i8 := i8) (i9 := i9) (i11 := nI (dP (δ D)).length) (j0 := j0) (l0 := l0) (z4 := false) (sp := 1) hz hg0 (by omega) (by omega)
  rw [zb0.2.1] at h78
  have hfin : ∀ q, m150 (rdR t qr2 qr3 qr4 qr5 qr6 qr7 qr8 qr9 qr10 qr11 qr12 qr13 qr14 qr15 qr16 0 qi22 (nI p) qi24 qi25 qi26 (nI D) (nI N) qi29 qi30 qj0 ql0 ql1 ql2 ql3) = some q → X4 D (rdR t qr2 qr3 qr4 qr5 qr6 qr7 qr8 qr9 qr10 qr11 qr12 qr13 qr14 qr15 qr16 0 qi22 (nI p) qi24 qi25 qi26 (nI D) (nI N) qi29 qi30 qj0 ql0 ql1 ql2 ql3) = if (gI q 24) = 0 then m157_234 (nI D) true q else m157_234 (nI D) false q := fun q hq => by
    unfold X4
    rw [hq, bs]
  rcases dtok (s := s) (z := z) (g := g) (nn := nn) (r1 := [nI (N + D)]) (r2 := [nI (1 + 1)]) (r3 := [lvl (dH (δ D))]) (i3 := i3) (i5 := i5) (i6 := i6) (i7 := i7) (i8 := i8) (i9 := i9) (i10 := -1) (i11 := nI (dP (δ D)).length) (j0 := j0) (l0 := l0) (t := t) (qr2 := qr2) (qr3 := qr3) (qr4 := qr4) (qr5 := qr5) (qr6 := qr6) (qr7 := qr7) (qr8 := qr8) (qr9 := qr9) (qr10 := qr10) (qr11 := qr11) (qr12 := qr12) (qr13 := qr13) (qr14 := qr14) (qr15 := qr15) (qr16 := qr16) (qi22 := qi22) (qi24 := qi24) (qi25 := qi25) (qi26 := qi26) (qi27 := nI D) (qi28 := nI N) (qi29 := qi29) (qi30 := qi30) (qj0 := qj0) (ql0 := ql0) (ql1 := ql1) (ql2 := ql2) (ql3 := ql3) (x := x) (p := p) h hT hU hn (by omega) hpn hl0 hnn (C := (rdC s z g nn ([nI (N + D)]) ([nI 1]) ([lvl (dH (δ D))]) 0 i3 (nI p) i5 i6 i7 i8 i9 (-1) (nI (dP (δ D)).length) j0 l0 false)) (by rw [rdC_z4]) (by rw [rdC_i2]) h78 (by decide) (by decide) (by decide) with ⟨c, e1, e2, e3⟩ | ⟨a, c, pe, k, y', q, e1, e2, e3⟩ | ⟨a, e, τ, c, x7, x26, j, jr, p1, p2, p3, hG, hm81, h150⟩
  · refine Or.inl (flt_fq (Or.inr (Or.inr rfl)) ?_ e1 e2)
    rw [hfin _ e3, rdR_i24, if_neg (by decide)]
    unfold m157_234
    rw [m158_end, bs, hn]
    exact f238 (by decide) (by decide) hD a2 a3 a4 a5 a6 a7 b0 b1 h8 h9 h10 h11 h12 h13 h14 g2 g3 h15 h16
  · refine Or.inl (flt_fq (Or.inl rfl) ?_ e1 e2)
    rw [hfin _ e3]
    split
    · exact f234 (by decide) (by decide) hD a2 a3 a4 a5 a6 a7 b0 b1 h8 h9 h10 h11 h12 h13 h14 g2 g3 h15 h16
    · exact f234 (by decide) (by decide) hD a2 a3 a4 a5 a6 a7 b0 b1 h8 h9 h10 h11 h12 h13 h14 g2 g3 h15 h16
  obtain ⟨v1, v2, v3, v4, v5, v6⟩ := hG
  obtain ⟨n4, n0, n1⟩ := tau_ne v1
  have hL := lc_step (x := x) (by omega) (by rw [rdC_z4]) (by rw [rdC_i2]) h78 (by decide) (by decide) (by decide) hm81
  rw [m83_40] at hL
  have hM := hfin _ h150
  rw [rdR_i24] at hM
  unfold m157_234 at hM
  by_cases y2 : τ = 2
  · subst y2
    rw [if_pos (by decide), m158_t n4, bs] at hM
    rw [decide_eq_true (show nI 2 = 2 from rfl), m84_t, bs, bs] at hL
    exact Or.inr ⟨_, _, e, hM, hL, ⟨g, nn, i3, nI 2, nI a, x7, nI c, i9, j, l0, qr2, qr3, qr4, qr5, qr6, qr7, qr8, qr9, qr10, qr11, qr12, qr13, qr14, qr15, qr16, qi22, nI (2 - 2), nI a, x26, qi29, qi30, jr, ql0, ql1, ql2, ql3, rfl, rfl, ⟨wf, dm, dlt, ⟨cal, can⟩, ra⟩, hds, h0, ⟨kg, kh, kF, kc1, kr1, fun q => absurd q (by decide)⟩, ⟨⟨hl0, hi3⟩, hcur, hnn, l5, l6, l7, l8, l9⟩, ⟨a2, a3, a4, a5, a6, a7, b0, b1⟩, ⟨h8, h9, h10, h11, h12, h13, h14, g2, g3, h15, h16⟩, by omega, p3, hD⟩, by omega⟩
  · refine Or.inl ?_
    rw [if_neg (by rw [eqL_0 (by omega)]; omega), m158_f n4, bs] at hM
    rw [decide_eq_false (by rw [eqL_2 (by omega)]; exact y2), m84_f, bs, bs] at hL
    replace hL := hL.trans (lc_end (by omega) (Or.inr (show ¬ (2 : Int32) = 0 by decide)))
    refine flt_fq (Or.inr (Or.inl rfl)) ?_ hL (cf_mk hl0 hnn)
    rw [hM]
    exact f238 (by decide) (by decide) hD a2 a3 a4 a5 a6 a7 b0 b1 h8 h9 h10 h11 h12 h13 h14 g2 g3 h15 h16
theorem m83_68 {D : Nat} (hz : gZ s 3 = z) (hD : (g 6).length = D) (hD64 : D < 64) (hnn : nn.length = 64) : m83 68 (rdC s z g nn r1 r2 r3 i2 i3 i4 4 i6 i7 0 i9 i10 i11 j0 l0 z4) = m94_31 (decide (dfx nn j0 0 D = -1)) (rdC s z g nn r1 r2 r3 i2 i3 i4 4 i6 i7 0 i9 i10 i11 j0 l0 z4) := by
  rw [m83_o (by decide) (by decide) (by decide) (by decide) (by decide) (by decide) (by decide) (by decide)]
  unfold m93
  rw [if_pos rfl]
  refine (bind_id _).trans ?_
  unfold m94
  rw [m90_y, bs, if_pos rfl, rdC_oz3, hz, rdC_j0, m60_eq hD (by omega) hnn, bs]
  by_cases c : dfx nn j0 0 D = -1
  · rw [if_pos c, decide_eq_true c]
  · rw [if_neg c, decide_eq_false c]
theorem m83_68n (h : ¬ (i5 = 4 ∧ i8 = 0)) : m83 68 (rdC s z g nn r1 r2 r3 0 i3 i4 i5 i6 i7 i8 i9 i10 i11 j0 l0 z4) = some (rdC s z g nn r1 r2 r3 2 i6 i4 i5 i6 i7 i8 i9 i10 i11 j0 l0 z4) := by
  rw [m83_o (by decide) (by decide) (by decide) (by decide) (by decide) (by decide) (by decide) (by decide)]
  unfold m93
  rw [if_pos rfl]
  refine (bind_id _).trans ?_
  unfold m94
  rw [m90_n h, bs, if_neg ff]
theorem m94_31_t {D : Nat} (hz : gZ s 3 = z) (h5 : (g 5).length = D) (h6 : (g 6).length = D) (h7 : (g 7).length = D) (h8 : (g 8).length = D) (h9 : (g 9).length = 8 * D) (hD64 : D < 64) (hnn : nn.length = 64) {c : Int32} : m94_31 true (rdC s z g nn [c] r2 r3 i2 i3 i4 i5 i6 i7 i8 i9 i10 i11 j0 l0 z4) = some (rdC s z (defN g i6 c) (nn.set D j0) [c] r2 r3 i2 i3 i4 i5 i6 i7 i8 i9 i10 i11 j0 l0 z4) := by
  unfold m94_31
  rw [m84_t, bs, if_pos rfl, rdC_oz3, hz, rdC_j0, rdC_i6, rdC_r1, show xsTop [c] = c from xsTop_r (st := []) (by decide), m61_eq h5 h6 h7 h8 h9 hD64 hnn, bs]
theorem m94_31_f : m94_31 false (rdC s z g nn r1 r2 r3 0 i3 i4 i5 i6 i7 i8 i9 i10 i11 j0 l0 z4) = some (rdC s z g nn r1 r2 r3 2 i6 i4 i5 i6 i7 i8 i9 i10 i11 j0 l0 z4) := by
  unfold m94_31
  rw [m84_f, bs, if_neg ff]
theorem m86_def {c : Nat} (hz : gZ s 3 = z) (hc : c = 22 ∨ c = 23) : m86 (rdC s z g nn [] [] [] i2 i3 i4 i5 i6 i7 (nI c) i9 2 i11 j0 l0 z4) = some (rdC s z (addN g (nI c) i9 (nI (g 6).length) i11) nn ([nI (g 0).length]) ([nI 0]) ([lvl (decide (c = 23))]) i2 i3 i4 i5 i6 i7 (nI c) i9 (-1) i11 j0 l0 z4) := by
  unfold m86 m87
  rw [rdC_i10, rdC_i8, if_pos rfl]
  rcases hc with rfl | rfl
  · rw [if_pos (by decide), bs, m84_t, bs, if_pos rfl, rdC_i10, if_pos rfl, if_pos (by decide)]
    unfold m86_42 m86_43 addN
    simp only [rdC_r1, rdC_r2, rdC_r3, rdC_i2, rdC_i3, rdC_i4, rdC_i5, rdC_i6, rdC_i7, rdC_i8, rdC_i9, rdC_i10, rdC_i11, rdC_j0, rdC_l0, rdC_z4, rdC_or0, rdC_oz3, rdC_gP, rdC_gN, rdC_sP, rdC_sN, rdC_sr1, rdC_sr2, rdC_sr3, rdC_si2, rdC_si3, rdC_si4, rdC_si5, rdC_si6, rdC_si7, rdC_si8, rdC_si9, rdC_si10, rdC_si11, rdC_sj0, rdC_sl0, rdC_sz4, hz]
    rfl
  · rw [if_neg (by decide), if_pos (by decide), bs, m84_t, bs, if_pos rfl, rdC_i10, if_pos rfl, if_neg (by decide)]
    unfold m86_42 m86_43 addN
    simp only [rdC_r1, rdC_r2, rdC_r3, rdC_i2, rdC_i3, rdC_i4, rdC_i5, rdC_i6, rdC_i7, rdC_i8, rdC_i9, rdC_i10, rdC_i11, rdC_j0, rdC_l0, rdC_z4, rdC_or0, rdC_oz3, rdC_gP, rdC_gN, rdC_sP, rdC_sN, rdC_sr1, rdC_sr2, rdC_sr3, rdC_si2, rdC_si3, rdC_si4, rdC_si5, rdC_si6, rdC_si7, rdC_si8, rdC_si9, rdC_si10, rdC_si11, rdC_sj0, rdC_sl0, rdC_sz4, hz]
    rfl
theorem m86_defn {c : Nat} (hc : c ≤ 23) (h : ¬ (c = 22 ∨ c = 23)) : m86 (rdC s z g nn r1 r2 r3 0 i3 i4 i5 i6 i7 (nI c) i9 2 i11 j0 l0 z4) = some (rdC s z g nn r1 r2 r3 2 i6 i4 i5 i6 i7 (nI c) i9 2 i11 j0 l0 z4) := by
  refine m86_no ?_
  unfold m87
  rw [rdC_i10, if_pos rfl, if_neg (by rw [eqL_22 (by omega)]; omega), if_neg (by rw [eqL_23 (by omega)]; omega)]
theorem m83_65 (hz : gZ s 3 = z) (hD : (g 6).length = D) (hD64 : D ≤ 64) : m83 65 (rdC s z g nn r1 r2 r3 i2 i3 i4 i5 i6 i7 i8 i9 i10 i11 j0 l0 z4) = (m84 (decide (i5 = 2 ∧ D < 64)) (rdC s z g nn r1 r2 r3 i2 i3 i4 i5 i6 i7 i8 i9 i10 i11 j0 l0 z4)).bind fun q => if q.1 = true then some (rdC s z g nn r1 r2 r3 i2 i3 i4 i5 i6 i7 i8 i6 2 i11 j0 l0 z4) else some q.2 := by
  have e56 : m56 z (rdC s z g nn r1 r2 r3 i2 i3 i4 i5 i6 i7 i8 i9 i10 i11 j0 l0 z4) = some (decide (¬ D < 64), (rdC s z g nn r1 r2 r3 i2 i3 i4 i5 i6 i7 i8 i9 i10 i11 j0 l0 z4)) := by
    unfold m56
    cases z
    · show m56f _ = _
      unfold m56f
      rw [rdC_gP, hD]
      by_cases c : D < 64
      · rw [if_pos (by rw [ltL_64 (by omega)]; exact c), decide_eq_false (fun q => q c)]
      · rw [if_neg (by rw [ltL_64 (by omega)]; exact c), decide_eq_true c]
    · show m56t _ = _
      unfold m56t
      rw [rdC_gP, hD]
      by_cases c : D < 64
      · rw [if_pos (by rw [ltL_64 (by omega)]; exact c), decide_eq_false (fun q => q c)]
      · rw [if_neg (by rw [ltL_64 (by omega)]; exact c), decide_eq_true c]
  have e103 : ∀ b : Bool, m83_103 b (rdC s z g nn r1 r2 r3 i2 i3 i4 i5 i6 i7 i8 i9 i10 i11 j0 l0 z4) = (m84 b (rdC s z g nn r1 r2 r3 i2 i3 i4 i5 i6 i7 i8 i9 i10 i11 j0 l0 z4)).bind fun q => if q.1 = true then some (rdC s z g nn r1 r2 r3 i2 i3 i4 i5 i6 i7 i8 i6 2 i11 j0 l0 z4) else some q.2 := fun b => by
    unfold m83_103
    cases b
    · unfold m84 m14
      rw [if_neg ff, rdC_i2]
      by_cases c2 : i2 = 0
      · rw [if_pos c2, bs, bs, bs, if_neg ff, if_neg ff]
      · rw [if_neg c2, bs, bs, bs, if_neg ff, if_neg ff]
    · rw [m84_t, bs, bs, if_pos rfl, if_pos rfl, rdC_i6, rdC_si9, rdC_si10]
  unfold m83 m83_102
  rw [if_neg (by decide), if_neg (by decide), if_pos rfl, rdC_i5, rdC_oz3, hz, e56, bs]
  by_cases c2 : i5 = 2
  · rw [if_pos c2]
    by_cases c : D < 64
    · rw [decide_eq_false (fun q => q c), if_neg ff, e103, decide_eq_true ⟨c2, c⟩]
    · rw [decide_eq_true c, if_pos rfl, e103, decide_eq_false (fun q => c q.2)]
  · rw [if_neg c2, e103, decide_eq_false (fun q => c2 q.1)]
end DHead
