/-! the expression of a definition -/
section DExp
variable {T U : List Int32} {n p N D F x y d : Nat} {σ σ0 : Nat → Nd} {δ : Nat → Dd} {C R : xSt} {sy : Int32} {s : xSt} {z : Bool} {g : Nat → List Int32} {nn : List Int64} {r1 r2 r3 : List Int32} {i2 i3 i4 i5 i6 i7 i8 i9 i10 i11 : Int32} {j0 : Int64} {l0 : List Int64} {z4 : Bool} {t : xSt} {qr2 qr3 qr4 qr5 qr6 qr7 qr8 qr9 qr10 qr11 qr12 qr13 qr14 qr15 qr16 : List Int32} {qi21 qi22 qi23 qi24 qi25 qi26 qi27 qi28 qi29 qi30 : Int32} {qj0 : Int64} {ql0 ql1 ql2 ql3 : List Int64}
theorem st7 (h : TR T U n) (hT : gR s 0 = T) (hU : gR t 1 = U) (hn : gI t 20 = nI n) (hz : gZ s 3 = z) (hn4 : n ≤ 4088) (hx : x ≤ 3 * p) (hI : HI T n s t z D p 7 σ N δ C R) : Flt s t z (m157_385 (nI D) R) (LC x C) ∨ ∃ (R2 C2 : xSt) (p2 x2 N2 : Nat) (σ2 : Nat → Nd) (δ2 : Nat → Dd), m157_385 (nI D) R = some R2 ∧ LC x C = LC x2 C2 ∧ GI T n s t z (D + 1) p2 σ2 N2 δ2 C2 R2 ∧ x2 ≤ 3 * p2 := by
  obtain ⟨g, nn, i3, i5, i6, i7, i8, i9, j0, l0, qr2, qr3, qr4, qr5, qr6, qr7, qr8, qr9, qr10, qr11, qr12, qr13, qr14, qr15, qr16, qi22, qi24, qi25, qi26, qi29, qi30, qj0, ql0, ql1, ql2, ql3, rfl, rfl, ⟨wf, dm, dlt, ⟨cal, can⟩, ra⟩, hds, h0, ⟨kg, kh, kF, kc1, kr1, k7⟩, ⟨⟨hl0, hi3⟩, hcur, hnn, l5, l6, l7, l8, l9⟩, ⟨a2, a3, a4, a5, a6, a7, b0, b1⟩, ⟨h8, h9, h10, h11, h12, h13, h14, g2, g3, h15, h16⟩, hNp, hpn, hD⟩ := hI
  obtain ⟨k71, k72, k73, k74⟩ := k7 rfl
  have hg0 : (g 0).getD (N + D) 0 = nI (if dH (δ D) = true then 23 else 22) := by
    have e0 := kc1.2.2.2.2.2.1
    rw [kF] at e0
    exact e0
  have h78 := m78_d (s := s) (z := z) (g := g) (nn := nn) (r3 := [lvl (dH (δ D))]) (i2 := 0) (i3 := i3) (i4 := nI p) (i5 := i5) (i6 := i6) (i7 := i7) (i8 := i8) (i9 := i9) (i11 := nI (dP (δ D)).length) (j0 := j0) (l0 := l0) (z4 := false) (sp := 7) hz hg0 (by omega) (by omega)
  rw [zb0.2.2.2.2.2.2.2.1] at h78
  have hps8 := kg.1
  obtain ⟨wt, hw12⟩ : ∃ wt : Nat, (wt = 1 ∧ dH (δ D) = false) ∨ (wt = 2 ∧ dH (δ D) = true) := by
    cases hH : dH (δ D)
    · exact ⟨1, Or.inl ⟨rfl, rfl⟩⟩
    · exact ⟨2, Or.inr ⟨rfl, rfl⟩⟩
  have hwn : wt = 1 ∨ wt = 2 := by
    rcases hw12 with ⟨q, -⟩ | ⟨q, -⟩
    · exact Or.inl q
    · exact Or.inr q
  have hdt : dat [(wt, (-1 : Int32))] (qr15.set 0 (nI wt)) (qr16.set 0 (-1)) := dat_push (ds := []) trivial (by rw [List.length_nil]; omega) (by rw [List.length_nil]; omega)
  obtain ⟨dt1, dt2, dt3⟩ := hdt
  have l15 : (qr15.set 0 (nI wt)).length = 33000 := by rw [List.length_set]; exact h15
  have l16 : (qr16.set 0 (-1)).length = 33000 := by rw [List.length_set]; exact h16
  have l5' : (qr5.set D (nI N)).length = 64 := by rw [List.length_set]; exact a5
  have hM : m157_385 (nI D) (rdR t qr2 qr3 qr4 qr5 qr6 qr7 qr8 qr9 qr10 qr11 qr12 qr13 qr14 qr15 qr16 0 qi22 (nI p) qi24 qi25 qi26 (nI D) (nI N) qi29 qi30 qj0 ql0 ql1 ql2 ql3) = (LR 0 (rdR t qr2 qr3 qr4 (qr5.set D (nI N)) qr6 qr7 qr8 qr9 qr10 qr11 qr12 qr13 qr14 (qr15.set 0 (nI wt)) (qr16.set 0 (-1)) 0 qi22 (nI p) qi24 qi25 qi26 (nI D) (nI N) (nI (0 + 1)) (nI (dP (δ D)).length) qj0 ql0 ql1 ql2 ql3)).bind fun q => m157_430 q := by
    have e0 : ∀ w : Nat, w < 100 → m166_15 (nI w) (rdR t qr2 qr3 qr4 (qr5.set D (nI N)) qr6 qr7 qr8 qr9 qr10 qr11 qr12 qr13 qr14 qr15 qr16 0 qi22 (nI p) qi24 qi25 qi26 (nI D) (nI N) 0 (nI (dP (δ D)).length) qj0 ql0 ql1 ql2 ql3) = LR 0 (rdR t qr2 qr3 qr4 (qr5.set D (nI N)) qr6 qr7 qr8 qr9 qr10 qr11 qr12 qr13 qr14 (qr15.set 0 (nI w)) (qr16.set 0 (-1)) 0 qi22 (nI p) qi24 qi25 qi26 (nI D) (nI N) (nI (0 + 1)) (nI (dP (δ D)).length) qj0 ql0 ql1 ql2 ql3) := by
      intro w hw
      unfold m166_15
      rw [show (0 : Int32) = nI 0 from rfl, m167_eq hw (-1) (by omega) h15 h16, bs]
      rfl
    unfold m157_385
    rw [rdR_r5, rdR_i28, xsPut_n (by omega) (by omega), bs, rdR_r4, xsGet_d (by omega) (by omega), bs, rdR_i21, if_pos rfl, rdR_r2, xsGet_d (by omega) (by omega), bs, kr1.1, kr1.2.1, rdR_sr5, rdR_si30]
    unfold m157_427 m166
    rcases hw12 with ⟨rfl, hH⟩ | ⟨rfl, hH⟩
    · rw [hH, show lvl false = 0 from rfl, if_pos rfl, if_pos rfl, rdR_si29, show m166_15 1 = m166_15 (nI 1) from rfl, e0 1 (by omega)]
    · rw [hH, show lvl true = 1 from rfl, if_neg (by decide), if_neg ff, rdR_si29, show m166_15 2 = m166_15 (nI 2) from rfl, e0 2 (by omega)]
  have hfl : ∀ cc, Flt s t z (LR 0 (rdR t qr2 qr3 qr4 (qr5.set D (nI N)) qr6 qr7 qr8 qr9 qr10 qr11 qr12 qr13 qr14 (qr15.set 0 (nI wt)) (qr16.set 0 (-1)) 0 qi22 (nI p) qi24 qi25 qi26 (nI D) (nI N) (nI (0 + 1)) (nI (dP (δ D)).length) qj0 ql0 ql1 ql2 ql3)) cc → Flt s t z (m157_385 (nI D) (rdR t qr2 qr3 qr4 qr5 qr6 qr7 qr8 qr9 qr10 qr11 qr12 qr13 qr14 qr15 qr16 0 qi22 (nI p) qi24 qi25 qi26 (nI D) (nI N) qi29 qi30 qj0 ql0 ql1 ql2 ql3)) cc := by
    intro cc hf
    obtain ⟨f, pl, q, c, f1, f2, f3, f4, f5⟩ := hf
    obtain ⟨u2, u3, u4, u5, u6, u7, u8, u9, u10, u11, u12, u13, u14, u15, u16, v23, v24, v25, v26, v27, v28, v29, v30, vj, w0, w1, w2, w3, rfl, ⟨c2, c3, c4, c5, c6, c7, c8, c9⟩, ⟨d8, d9, d10, d11, d12, d13, d14, d15, d16⟩, d17, d18⟩ := f4
    rw [hM, f2, bs]
    exact flt_fq f1 (f430 (by rcases f1 with rfl | rfl | rfl <;> decide) (by rcases f1 with rfl | rfl | rfl <;> decide) hD c2 c3 c4 c5 c6 c7 c8 c9 d8 d9 d10 d11 d12 d13 d14 d15 d16 d17 d18) f3 f5
  rcases step_tok (s := s) (z := z) (g := g) (nn := nn) (r1 := [nI (N + D)]) (r2 := [nI (7 + 1)]) (r3 := [lvl (dH (δ D))]) (i3 := i3) (i5 := i5) (i6 := i6) (i7 := i7) (i8 := i8) (i9 := i9) (i10 := -1) (i11 := nI (dP (δ D)).length) (j0 := j0) (l0 := l0) (t := t) (qr2 := qr2) (qr3 := qr3) (qr4 := qr4) (qr5 := qr5.set D (nI N)) (qr6 := qr6) (qr7 := qr7) (qr8 := qr8) (qr9 := qr9) (qr10 := qr10) (qr11 := qr11) (qr12 := qr12) (qr13 := qr13) (qr14 := qr14) (qr15 := qr15.set 0 (nI wt)) (qr16 := qr16.set 0 (-1)) (qi22 := qi22) (qi24 := qi24) (qi25 := qi25) (qi26 := qi26) (qi27 := nI D) (qi28 := nI N) (qi30 := nI (dP (δ D)).length) (qj0 := qj0) (ql0 := ql0) (ql1 := ql1) (ql2 := ql2) (ql3 := ql3) (C := (rdC s z g nn ([nI (N + D)]) ([nI 7]) ([lvl (dH (δ D))]) 0 i3 (nI p) i5 i6 i7 i8 i9 (-1) (nI (dP (δ D)).length) j0 l0 false)) (x := x) (y := 0) (D := 0) (p := p) (w := wt) h hT hU hn (by omega) (by omega) hpn hl0 hnn (by omega) l15 l16 dt1 dt2 (by omega) a2 a3 a4 l5' a6 a7 b0 b1 h8 h9 h10 h11 h12 h13 h14 g2 g3 (by rw [rdC_z4]) (by rw [rdC_i2]) h78 (by decide) (by decide) (by decide) with hf | ⟨a, e, τ, c, x7, x26, j, jr, p1, p2, p3, hG, hm81, h150⟩
  · exact Or.inl (hfl _ hf)
  have hL := lc_step (x := x) (by omega) (by rw [rdC_z4]) (by rw [rdC_i2]) h78 (by decide) (by decide) (by decide) hm81
  rw [m83_83, rdC_r3, show xsTop [lvl (dH (δ D))] = lvl (dH (δ D)) from xsTop_r (st := []) (by decide)] at hL
  have hMg := m168_go (D := 0) (ww := nI wt) (by omega) l15 l16 dt1 dt2 (by rcases hwn with rfl | rfl <;> decide) h150
  rw [rdR_i21, if_pos (show (0 : Int32) ≤ 0 by decide), if_pos (show nI wt = 1 ∨ nI wt = 2 by rcases hwn with rfl | rfl <;> decide)] at hMg
  have hM2 : m168 (rdR t qr2 qr3 qr4 (qr5.set D (nI N)) qr6 qr7 qr8 qr9 qr10 qr11 qr12 qr13 qr14 (qr15.set 0 (nI wt)) (qr16.set 0 (-1)) 0 qi22 (nI p) qi24 qi25 qi26 (nI D) (nI N) (nI (0 + 1)) (nI (dP (δ D)).length) qj0 ql0 ql1 ql2 ql3) = m169 (!dH (δ D)) (pI (-1)) (rdR t qr2 qr3 qr4 (qr5.set D (nI N)) qr6 qr7 qr8 qr9 qr10 qr11 qr12 qr13 qr14 (qr15.set 0 (nI wt)) (qr16.set 0 (-1)) 0 qi22 (nI e) (nI (τ - 2)) (nI a) x26 (nI D) (nI N) (nI ([] : List (Nat × Int32)).length) (nI (dP (δ D)).length) jr ql0 ql1 ql2 ql3) := by
    rw [hMg]
    unfold m168_139
    rcases hw12 with ⟨rfl, hH⟩ | ⟨rfl, hH⟩
    · rw [hH, if_pos (show nI 1 = 1 by decide)]
      exact bind_id _
    · rw [hH, if_neg (show ¬ nI 2 = 1 by decide)]
      exact bind_id _
  have hLR : ∀ q, m168 (rdR t qr2 qr3 qr4 (qr5.set D (nI N)) qr6 qr7 qr8 qr9 qr10 qr11 qr12 qr13 qr14 (qr15.set 0 (nI wt)) (qr16.set 0 (-1)) 0 qi22 (nI p) qi24 qi25 qi26 (nI D) (nI N) (nI (0 + 1)) (nI (dP (δ D)).length) qj0 ql0 ql1 ql2 ql3) = some q → LR 0 (rdR t qr2 qr3 qr4 (qr5.set D (nI N)) qr6 qr7 qr8 qr9 qr10 qr11 qr12 qr13 qr14 (qr15.set 0 (nI wt)) (qr16.set 0 (-1)) 0 qi22 (nI p) qi24 qi25 qi26 (nI D) (nI N) (nI (0 + 1)) (nI (dP (δ D)).length) qj0 ql0 ql1 ql2 ql3) = LR (0 + 1) q := fun q hq => lr_step (D := 0) (by omega) (by omega) l15 dt1 (by rcases hwn with rfl | rfl <;> decide) hq
  rcases exp_ok (s := s) (z := z) (g := g) (nn := nn) (r1 := [nI (N + D)]) (r2 := [nI (7 + 1)]) (r3 := [lvl (dH (δ D))]) (i3 := i3) (i9 := i9) (l0 := l0) (t := t) (qr2 := qr2) (qr3 := qr3) (qr4 := qr4) (qr5 := qr5.set D (nI N)) (qr6 := qr6) (qr7 := qr7) (qr8 := qr8) (qr9 := qr9) (qr10 := qr10) (qr11 := qr11) (qr12 := qr12) (qr13 := qr13) (qr14 := qr14) (qr15 := qr15.set 0 (nI wt)) (qr16 := qr16.set 0 (-1)) (qi22 := qi22) (qi27 := nI D) (ql0 := ql0) (ql1 := ql1) (ql2 := ql2) (ql3 := ql3) (m := (dP (δ D)).length) (N := N) (ds := []) (P := -1) (b := !dH (δ D)) (lv := lvl (dH (δ D))) (cur := dP (δ D)) (x := x + 1) (d := D) hG h hT hU hn hz p3 (by omega) hl0 hnn (by omega) rfl hcur a2 a3 a4 l5' a6 a7 b0 b1 h8 h9 h10 h11 h12 h13 h14 g2 g3 l15 l16 (by omega) trivial (by rw [List.length_nil]; omega) (by cases dH (δ D); exact Or.inl ⟨rfl, rfl⟩; exact Or.inr ⟨rfl, rfl⟩) with hf | ⟨nd, vv, e2, x2, ds2, q12, q15, q16, s1, s2, s3, y3, y5, y6, y7, y8, y9, u22, u24, u25, u26, yj, uj, o1, o2, ⟨o3, o4, o5, o6⟩, ⟨o7, o8, o9, o10, o11, o12⟩, ⟨o13, o14⟩, o15, o16, o17⟩
  · refine Or.inl (hfl _ (flt_lr (y := 0) (by omega) hLR ?_))
    rw [hM2, hL]
    exact hf
  have hR2 := hLR _ (hM2.trans o1)
  have hL2 := hL.trans o2
  have rt2 : Rs σ (fu σ N nd) (N + 1) N D (dP (δ D)) (lvl (dH (δ D))) := by
    refine ⟨?_, fun j' hj => fu_n (by omega)⟩
    unfold Rt
    rw [fu_s]
    refine ⟨o7, o9, o8, ?_, fun k h1 h2 => by omega⟩
    rw [o11]
    cases dH (δ D) <;> rfl
  obtain ⟨w2, hI2, hpx⟩ := inv_node (F := N) (σ0 := σ) (gg := g) (lv := lvl (dH (δ D))) (w := []) (ps := dP (δ D)) (qr2 := qr2) (qr3 := qr3) (qr4 := qr4) (qr5 := qr5.set D (nI N)) (qr6 := qr6) (qr7 := qr7) (qi27 := nI D) (ql0 := ql0) (ql1 := ql1) (s := s) (t := t) (z := z) (nn := nn) (n := n) (y3 := y3) (y5 := y5) (y6 := y6) (y7 := y7) (y8 := y8) (y9 := y9) (yj := yj) (u22 := u22) (u24 := u24) (u25 := u25) (u26 := u26) (uj := uj) (x := x + 1) (e := e) (b := !dH (δ D)) (m := (dP (δ D)).length) (l0 := l0) (ds := []) (P := -1) hi3 hn4 (wf_nil (wf_ps wf (by omega))) dm ⟨fun _ _ => rfl, cal, fun _ _ _ _ => rfl, can⟩ ra rfl rfl rfl rfl hl0 hcur h8 h9 h10 h11 h13 h14 g2 g3 (fun k hk => by cases hk) (Nat.le_refl _) (by omega) (by rw [List.length_nil]; omega) (fun k' w1 ek => by cases ek) rt2 o3 o4 o5 o6 o7 o8 o9 o10 o11 o12 o13 o14 o15 o16 o17
  have hpd : pd σ [] = 0 := rfl
  rw [hpd] at hpx
  rcases loop_ok h hT hU hn hz hn4 hnn a2 a3 a4 l5' a6 a7 b0 b1 (3 * n + 10) (0 + 1) x2 e2 w2 (fu σ N nd) (N + 1) _ _ (by rcases hpx with ⟨q1, q2⟩ | ⟨q1, q2, q3⟩ <;> omega) (by omega) (by rcases hpx with ⟨q1, q2⟩ | ⟨q1, q2, q3⟩ <;> omega) hI2 with hf | ⟨R2, C2, x3, p4, σ2, N2, z1, z2, z3, z4'⟩
  · rw [← hR2, ← hL2] at hf
    exact Or.inl (hfl _ hf)
  rw [← hR2] at z1
  rw [← hL2] at z2
  have hk : Dk σ δ D N g nn qr2 qr3 qr4 (qr5.set D (nI N)) qr6 qr7 ql0 ql1 := by
    refine ⟨fun d hd => ?_, h0, dlt, ⟨kg, kh, kF, kc1, kr1⟩, ⟨k71, k73, k74, k72, ?_⟩, ⟨hnn, l5, l6, l7, l8, l9⟩, ⟨a2, a3, a4, l5', a6, a7, b0, b1⟩, hD⟩
    · obtain ⟨d0, d1, d2, d3, d4, d5⟩ := hds d hd
      refine ⟨d0, d1, d2, d3, d4, ?_⟩
      rw [getD_setn (by omega), if_neg (by omega)]
      exact d5
    · rw [getD_setn (by omega), if_pos rfl, kF]
  have hz3 := z3
  obtain ⟨g', j3, j5, j6, j7, j8, j9, jj0, jl0, e8, e9, e10, e11, e12, e13, e14, e15, e16, i22, i24, i25, i26, ij0, il2, il3, hC2, hRR2, -, -, -, -, ⟨hFN', hNp', hpn', -⟩, -⟩ := hz3
  rcases st8 (x := x3) h hT hU hn hz hn4 (by omega) z3 hk with hf | ⟨R3, C3, p5, δ2, y1, y2, y3', y4⟩
  · refine Or.inl ?_
    rw [hM, z1, bs, z2]
    exact hf
  · refine Or.inr ⟨R3, C3, p5, x3 + 1, N2, σ2, δ2, ?_, z2.trans y2, y3', by omega⟩
    rw [hM, z1, bs]
    exact y1
end DExp
