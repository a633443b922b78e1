/-! the result of a definition -/
section DRes
variable {T U : List Int32} {n p N D F x y d : Nat} {σ σ0 : Nat → Nd} {δ : Nat → Dd} {C R : xSt} {sy : Int32} {s : xSt} {z : Bool} {g : Nat → List Int32} {nn : List Int64} {r1 r2 r3 : List Int32} {i2 i3 i4 i5 i6 i7 i8 i9 i10 i11 : Int32} {j0 : Int64} {l0 : List Int64} {z4 : Bool} {t : xSt} {qr2 qr3 qr4 qr5 qr6 qr7 qr8 qr9 qr10 qr11 qr12 qr13 qr14 qr15 qr16 : List Int32} {qi21 qi22 qi23 qi24 qi25 qi26 qi27 qi28 qi29 qi30 : Int32} {qj0 : Int64} {ql0 ql1 ql2 ql3 : List Int64}
theorem dw_fd {v : Dd} {M : Nat} (hd : d < M) (hF : dF v = dF (δ M)) (h : Dw δ σ M N d) : Dw (fd δ M v) σ M N d := by
  have e : ∀ j, j < M → fd δ M v j = δ j := fun j hj => fd_n (by omega)
  obtain ⟨⟨w1, w2, w3, w4, w5⟩, w6, w7, w8, w9⟩ := h
  refine ⟨⟨by rw [e d hd]; exact w1, by rw [e d hd]; exact w2, fun q => by rw [e d hd, e (d + 1) q]; exact w3 q, fun q => by rw [e d hd]; exact w4 q, fun q => by rw [e d hd]; exact w5 q⟩, by rw [e d hd]; exact w6, by rw [e d hd]; exact w7, ⟨by rw [e d hd]; exact w8.1, fun e' he => by rw [e d hd, e e' (by omega)]; exact w8.2 e' he⟩, by rw [e d hd]; exact w9⟩
theorem ty_tbl : ∀ c, c < 24 → (tyI c < 0 ∧ ¬ (c = 20 ∨ c = 21 ∨ c = 14 ∨ c = 15)) ∨ ∃ y, y < 4 ∧ tyI c = nI y ∧ tc y = c ∧ (c = 20 ∨ c = 21 ∨ c = 14 ∨ c = 15) ∧ (y < 2 ↔ c = 20 ∨ c = 21) := by decide +kernel
theorem m21_eq {c : Nat} (hc : c ≤ 23) (S : xSt) : m21 (nI c) S = some (decide (c = 20 ∨ c = 21 ∨ c = 14 ∨ c = 15), S) := by
  have hcc : c = 0 ∨ c = 1 ∨ c = 2 ∨ c = 3 ∨ c = 4 ∨ c = 5 ∨ c = 6 ∨ c = 7 ∨ c = 8 ∨ c = 9 ∨ c = 10 ∨ c = 11 ∨ c = 12 ∨ c = 13 ∨ c = 14 ∨ c = 15 ∨ c = 16 ∨ c = 17 ∨ c = 18 ∨ c = 19 ∨ c = 20 ∨ c = 21 ∨ c = 22 ∨ c = 23 := by omega
  rcases hcc with rfl | rfl | rfl | rfl | rfl | rfl | rfl | rfl | rfl | rfl | rfl | rfl | rfl | rfl | rfl | rfl | rfl | rfl | rfl | rfl | rfl | rfl | rfl | rfl <;> rfl
theorem setTop_n {xs : List Int32} {v : Int32} {m : Nat} (h : xs.length = m + 1) (hm : m < 2 ^ 30) : xsSetTop xs v = xs.set m v := by
  unfold xsSetTop
  rw [h, nI_pred, xsSet_n (by omega)]
theorem top_n {xs : List Int32} {m : Nat} (h : xs.length = m + 1) (hm : m < 2 ^ 30) : xsTop xs = xs.getD m 0 := by
  unfold xsTop
  rw [h, nI_pred, xsAt_n (by omega)]
/-- which words tell a result -/
def okR (b : Bool) (c : Nat) : Bool := if b = true then decide (c = 20 ∨ c = 21) else decide (c = 20 ∨ c = 21 ∨ c = 14 ∨ c = 15)
theorem m83_82 {b : Bool} {c : Nat} (hc : c ≤ 23) : m83 82 (rdC s z g nn r1 r2 ([lvl b]) i2 i3 i4 i5 i6 i7 (nI c) i9 i10 i11 j0 l0 z4) = m97_45 (nI c) (okR b c) (rdC s z g nn r1 r2 ([lvl b]) i2 i3 i4 i5 i6 i7 (nI c) i9 i10 i11 j0 l0 z4) := by
  have e3 : xsTop [lvl b] = lvl b := xsTop_r (st := []) (by decide)
  rw [m83_o (by decide) (by decide) (by decide) (by decide) (by decide) (by decide) (by decide) (by decide)]
  unfold m93
  rw [if_neg (by decide), if_neg (by decide), if_neg (by decide), if_neg (by decide), if_pos rfl]
  refine (bind_id _).trans ?_
  unfold m97 m97_20 m97_25
  rw [rdC_i8, rdC_r3, e3, m21_eq hc, bs]
  unfold okR
  cases b
  · rw [if_neg ff, if_pos (show lvl false = 0 from rfl), if_pos (show lvl false = 0 from rfl), ite_self, ite_self]
  · rw [if_pos rfl, if_neg (show ¬ lvl true = 0 by decide), if_neg (show ¬ lvl true = 0 by decide)]
    by_cases c1 : c = 20
    · rw [if_pos (by rw [eqL_20 (by omega)]; exact c1), decide_eq_true (Or.inl c1)]
    · rw [if_neg (by rw [eqL_20 (by omega)]; exact c1)]
      by_cases c2 : c = 21
      · rw [if_pos (by rw [eqL_21 (by omega)]; exact c2), decide_eq_true (Or.inr c2)]
      · rw [if_neg (by rw [eqL_21 (by omega)]; exact c2), decide_eq_false (by omega)]
theorem st6 (h : TR T U n) (hT : gR s 0 = T) (hU : gR t 1 = U) (hn : gI t 20 = nI n) (hz : gZ s 3 = z) (hn4 : n ≤ 4088) (hx : x ≤ 3 * p) (hI : HI T n s t z D p 6 σ N δ C R) : Flt s t z (m157_312 (nI D) R) (LC x C) ∨ ∃ (R2 C2 : xSt) (p2 : Nat) (δ2 : Nat → Dd), m157_312 (nI D) R = m157_385 (nI D) R2 ∧ LC x C = LC (x + 1) C2 ∧ HI T n s t z D p2 7 σ N δ2 C2 R2 ∧ p < p2 := by
  obtain ⟨g, nn, i3, i5, i6, i7, i8, i9, j0, l0, qr2, qr3, qr4, qr5, qr6, qr7, qr8, qr9, qr10, qr11, qr12, qr13, qr14, qr15, qr16, qi22, qi24, qi25, qi26, qi29, qi30, qj0, ql0, ql1, ql2, ql3, rfl, rfl, ⟨wf, dm, dlt, ⟨cal, can⟩, ra⟩, hds, h0, ⟨kg, kh, kF, kc1, kr1, k7⟩, ⟨⟨hl0, hi3⟩, hcur, hnn, l5, l6, l7, l8, l9⟩, ⟨a2, a3, a4, a5, a6, a7, b0, b1⟩, ⟨h8, h9, h10, h11, h12, h13, h14, g2, g3, h15, h16⟩, hNp, hpn, hD⟩ := hI
  have hg0 : (g 0).getD (N + D) 0 = nI (if dH (δ D) = true then 23 else 22) := by
    have e0 := kc1.2.2.2.2.2.1
    rw [kF] at e0
    exact e0
  have hps8 := kg.1
  have h78 := m78_d (s := s) (z := z) (g := g) (nn := nn) (r3 := [lvl (dH (δ D))]) (i2 := 0) (i3 := i3) (i4 := nI p) (i5 := i5) (i6 := i6) (i7 := i7) (i8 := i8) (i9 := i9) (i11 := nI (dP (δ D)).length) (j0 := j0) (l0 := l0) (z4 := false) (sp := 6) hz hg0 (by omega) (by omega)
  rw [zb0.2.2.2.2.2.2.1] at h78
  have hfin : ∀ q, m150 (rdR t qr2 qr3 qr4 qr5 qr6 qr7 qr8 qr9 qr10 qr11 qr12 qr13 qr14 qr15 qr16 0 qi22 (nI p) qi24 qi25 qi26 (nI D) (nI N) qi29 qi30 qj0 ql0 ql1 ql2 ql3) = some q → m157_312 (nI D) (rdR t qr2 qr3 qr4 qr5 qr6 qr7 qr8 qr9 qr10 qr11 qr12 qr13 qr14 qr15 qr16 0 qi22 (nI p) qi24 qi25 qi26 (nI D) (nI N) qi29 qi30 qj0 ql0 ql1 ql2 ql3) = if 0 < (gI q 21) then m157_355 (nI D) q else (m161 q).bind fun q51 => if q51.1 < 0 then m157_359 (nI D) q51.2 else (xsGet (gR q51.2 2) (nI D)).bind fun v53 => if v53 = 0 then m157_355 (nI D) q51.2 else (m161 q51.2).bind fun q55 => if 2 ≤ q55.1 then m157_359 (nI D) q55.2 else m157_355 (nI D) q55.2 := fun q hq => by
    unfold m157_312
    rw [rdR_i21, if_pos rfl, hq, bs]
  rcases dtok (s := s) (z := z) (g := g) (nn := nn) (r1 := [nI (N + D)]) (r2 := [nI (6 + 1)]) (r3 := [lvl (dH (δ D))]) (i3 := i3) (i5 := i5) (i6 := i6) (i7 := i7) (i8 := i8) (i9 := i9) (i10 := -1) (i11 := nI (dP (δ D)).length) (j0 := j0) (l0 := l0) (t := t) (qr2 := qr2) (qr3 := qr3) (qr4 := qr4) (qr5 := qr5) (qr6 := qr6) (qr7 := qr7) (qr8 := qr8) (qr9 := qr9) (qr10 := qr10) (qr11 := qr11) (qr12 := qr12) (qr13 := qr13) (qr14 := qr14) (qr15 := qr15) (qr16 := qr16) (qi22 := qi22) (qi24 := qi24) (qi25 := qi25) (qi26 := qi26) (qi27 := nI D) (qi28 := nI N) (qi29 := qi29) (qi30 := qi30) (qj0 := qj0) (ql0 := ql0) (ql1 := ql1) (ql2 := ql2) (ql3 := ql3) (x := x) (p := p) h hT hU hn (by omega) hpn hl0 hnn (C := (rdC s z g nn ([nI (N + D)]) ([nI 6]) ([lvl (dH (δ D))]) 0 i3 (nI p) i5 i6 i7 i8 i9 (-1) (nI (dP (δ D)).length) j0 l0 false)) (by rw [rdC_z4]) (by rw [rdC_i2]) h78 (by decide) (by decide) (by decide) with ⟨c, e1, e2, e3⟩ | ⟨a, c, pe, k, y', q, e1, e2, e3⟩ | ⟨a, e, τ, c, x7, x26, j, jr, p1, p2, p3, hG, hm81, h150⟩
  · refine Or.inl (flt_fq (Or.inr (Or.inr rfl)) ?_ e1 e2)
    have hw : IsWd (rdR t qr2 qr3 qr4 qr5 qr6 qr7 qr8 qr9 qr10 qr11 qr12 qr13 qr14 qr15 qr16 0 qi22 (nI n) 4 (nI n) qi26 (nI D) (nI N) qi29 qi30 qj0 ql0 ql1 ql2 ql3) 0 := iswd_no (by rw [rdR_i24]; decide)
    rw [hfin _ e3, rdR_i21, if_neg (by decide), m161_eq hw (by decide), bs, if_pos (show tyI 0 < 0 by decide)]
    unfold m157_359 m157_360 m157_384
    rw [m158_end, bs, rdR_i21, if_neg (by decide), rdR_r3, xsPut_n (by omega) (by omega), bs, rdR_sr3, hn]
    exact f385 (by decide) (by decide) hD a2 (by (try simp only [List.length_set]); first | assumption | omega) a4 a5 a6 a7 b0 b1 h8 h9 h10 h11 h12 h13 h14 g2 g3 h15 h16
  · refine Or.inl (flt_fq (Or.inl rfl) ?_ e1 e2)
    rw [hfin _ e3, rdR_i21, if_pos (by decide)]
    exact f360 (by decide) (by decide) hD a2 a3 a4 a5 a6 a7 b0 b1 h8 h9 h10 h11 h12 h13 h14 g2 g3 h15 h16
  · obtain ⟨v1, v2, v3, v4, v5, v6⟩ := hG
    obtain ⟨n4, n0, n1⟩ := tau_ne v1
    have hw : IsWd (rdR t qr2 qr3 qr4 qr5 qr6 qr7 qr8 qr9 qr10 qr11 qr12 qr13 qr14 qr15 qr16 0 qi22 (nI e) (nI (τ - 2)) (nI a) x26 (nI D) (nI N) qi29 qi30 jr ql0 ql1 ql2 ql3) c := v6 _ hU rfl rfl rfl
    have hM := hfin _ h150
    rw [rdR_i21, if_neg (by decide), m161_eq hw v2, bs] at hM
    have hL := lc_step (x := x) (by omega) (by rw [rdC_z4]) (by rw [rdC_i2]) h78 (by decide) (by decide) (by decide) hm81
    rw [m83_82 v2] at hL
    have hbad : okR (dH (δ D)) c = false → m157_312 (nI D) (rdR t qr2 qr3 qr4 qr5 qr6 qr7 qr8 qr9 qr10 qr11 qr12 qr13 qr14 qr15 qr16 0 qi22 (nI p) qi24 qi25 qi26 (nI D) (nI N) qi29 qi30 qj0 ql0 ql1 ql2 ql3) = m157_360 (nI D) false (rdR t qr2 qr3 qr4 qr5 qr6 qr7 qr8 qr9 qr10 qr11 qr12 qr13 qr14 qr15 qr16 0 qi22 (nI e) (nI (τ - 2)) (nI a) x26 (nI D) (nI N) qi29 qi30 jr ql0 ql1 ql2 ql3) → Flt s t z (m157_312 (nI D) (rdR t qr2 qr3 qr4 qr5 qr6 qr7 qr8 qr9 qr10 qr11 qr12 qr13 qr14 qr15 qr16 0 qi22 (nI p) qi24 qi25 qi26 (nI D) (nI N) qi29 qi30 qj0 ql0 ql1 ql2 ql3)) (LC x (rdC s z g nn ([nI (N + D)]) ([nI 6]) ([lvl (dH (δ D))]) 0 i3 (nI p) i5 i6 i7 i8 i9 (-1) (nI (dP (δ D)).length) j0 l0 false)) := by
      intro ho hm
      rw [ho] at hL
      unfold m97_45 at hL
      rw [m84_f, bs, if_neg ff, bs] at hL
      replace hL := hL.trans (lc_end (by omega) (Or.inr (show ¬ (2 : Int32) = 0 by decide)))
      refine flt_fq (Or.inr (Or.inl rfl)) ?_ hL (cf_mk hl0 hnn)
      rw [hm]
      unfold m157_360 m157_384
      rw [m158_f n4, bs, rdR_i21, if_neg (by decide), rdR_r3, xsPut_n (by omega) (by omega), bs, rdR_sr3]
      exact f385 (by decide) (by decide) hD a2 (by (try simp only [List.length_set]); first | assumption | omega) a4 a5 a6 a7 b0 b1 h8 h9 h10 h11 h12 h13 h14 g2 g3 h15 h16
    have hgood : ∀ y : Nat, y < 4 → tyI c = nI y → tc y = c → okR (dH (δ D)) c = true → (dH (δ D) = true → y < 2) → m157_312 (nI D) (rdR t qr2 qr3 qr4 qr5 qr6 qr7 qr8 qr9 qr10 qr11 qr12 qr13 qr14 qr15 qr16 0 qi22 (nI p) qi24 qi25 qi26 (nI D) (nI N) qi29 qi30 qj0 ql0 ql1 ql2 ql3) = m157_360 (nI D) true (rdR t qr2 qr3 qr4 qr5 qr6 qr7 qr8 qr9 qr10 qr11 qr12 qr13 qr14 qr15 qr16 0 qi22 (nI e) (nI (τ - 2)) (nI a) x26 (nI D) (nI N) qi29 qi30 jr ql0 ql1 ql2 ql3) → ∃ (R2 C2 : xSt) (p2 : Nat) (δ2 : Nat → Dd), m157_312 (nI D) (rdR t qr2 qr3 qr4 qr5 qr6 qr7 qr8 qr9 qr10 qr11 qr12 qr13 qr14 qr15 qr16 0 qi22 (nI p) qi24 qi25 qi26 (nI D) (nI N) qi29 qi30 qj0 ql0 ql1 ql2 ql3) = m157_385 (nI D) R2 ∧ LC x (rdC s z g nn ([nI (N + D)]) ([nI 6]) ([lvl (dH (δ D))]) 0 i3 (nI p) i5 i6 i7 i8 i9 (-1) (nI (dP (δ D)).length) j0 l0 false) = LC (x + 1) C2 ∧ HI T n s t z D p2 7 σ N δ2 C2 R2 ∧ p < p2 := by
      intro y y4 yt yc ho yH hm
      rw [ho] at hL
      unfold m97_45 at hL
      rw [m84_t, bs, if_pos rfl, rdC_oz3, hz, rdC_gP, setTop_n l7 (by omega), rdC_sP, bs] at hL
      have hm2 : m157_312 (nI D) (rdR t qr2 qr3 qr4 qr5 qr6 qr7 qr8 qr9 qr10 qr11 qr12 qr13 qr14 qr15 qr16 0 qi22 (nI p) qi24 qi25 qi26 (nI D) (nI N) qi29 qi30 qj0 ql0 ql1 ql2 ql3) = m157_385 (nI D) (rdR t qr2 (qr3.set D (nI y)) qr4 qr5 qr6 qr7 qr8 qr9 qr10 qr11 qr12 qr13 qr14 qr15 qr16 0 qi22 (nI e) (nI (τ - 2)) (nI a) x26 (nI D) (nI N) qi29 qi30 jr ql0 ql1 ql2 ql3) := by
        rw [hm]
        unfold m157_360 m157_384
        rw [m158_t n4, bs, rdR_i21, if_pos (by decide), m161_eq hw v2, bs, yt, rdR_r3, xsPut_n (by omega) (by omega), bs, rdR_sr3]
      refine ⟨_, _, e, fd δ D ((dF (δ D), dE (δ D), dH (δ D)), dP (δ D), dT (δ D), y, dN (δ D), dL (δ D)), hm2, hL, ?_, by omega⟩
      have hds' : fd δ D ((dF (δ D), dE (δ D), dH (δ D)), dP (δ D), dT (δ D), y, dN (δ D), dL (δ D)) D = ((dF (δ D), dE (δ D), dH (δ D)), dP (δ D), dT (δ D), y, dN (δ D), dL (δ D)) := fd_s _ _ _
      have hb7 : ∀ j', ¬ j' = 7 → bUp g 7 ((g 7).set D (nI c)) j' = g j' := fun j' hj => by rw [bUp_if, if_neg hj]
      have hdc : ∀ (v : Dd) (d : Nat), DC1 v d g nn → DC1 v d (bUp g 7 ((g 7).set D (nI c))) nn := fun v d hv => by
        unfold DC1 at hv ⊢
        rw [hb7 5 (by omega), hb7 6 (by omega), hb7 8 (by omega), hb7 9 (by omega), hb7 0 (by omega), hb7 2 (by omega)]
        exact hv
      refine ⟨bUp g 7 ((g 7).set D (nI c)), nn, i3, nI τ, nI a, x7, nI c, i9, j, l0, qr2, qr3.set D (nI y), qr4, qr5, qr6, qr7, qr8, qr9, qr10, qr11, qr12, qr13, qr14, qr15, qr16, qi22, nI (τ - 2), nI a, x26, qi29, qi30, jr, ql0, ql1, ql2, ql3, ?_, rfl, ⟨wf, dm, dlt, ⟨fun j' hj => by rw [hb7 j' (by omega)]; exact cal j' hj, fun k hk => ?_⟩, ra⟩, fun d hd => ?_, h0, ⟨?_, ⟨?_, fun e' he => ?_⟩, ?_, ?_, ?_, fun _ => ⟨?_, ?_, ?_, ?_⟩⟩, ⟨⟨hl0, hi3⟩, ?_, hnn, by rw [hb7 5 (by omega)]; exact l5, by rw [hb7 6 (by omega)]; exact l6, ?_, by rw [hb7 8 (by omega)]; exact l8, by rw [hb7 9 (by omega)]; exact l9⟩, ⟨a2, (by (try simp only [List.length_set]); first | assumption | omega), a4, a5, a6, a7, b0, b1⟩, ⟨h8, h9, h10, h11, h12, h13, h14, g2, g3, h15, h16⟩, by omega, p3, hD⟩
      · rw [hds']
        rfl
      · have q := can k hk
        unfold NC at q ⊢
        rw [hb7 0 (by omega), hb7 1 (by omega), hb7 2 (by omega), hb7 3 (by omega), hb7 4 (by omega)]
        exact q
      · obtain ⟨d0, d1, d2, d3, d4, d5⟩ := hds d hd
        rw [fd_n (by omega : ¬ d = D)]
        refine ⟨dw_fd hd rfl d0, hdc _ _ d1, ?_, d3, ?_, d5⟩
        · unfold DC2 at d2 ⊢
          rw [hb7 4 (by omega), bUp_if, if_pos rfl, getD_setn (by omega), if_neg (by omega)]
          exact d2
        · rw [getD_setn (by omega), if_neg (by omega)]
          exact d4
      · rw [hds']; exact kg
      · rw [hds']; exact kh.1
      · rw [hds', fd_n (by omega : ¬ e' = D)]; exact kh.2 e' he
      · rw [hds']; exact kF
      · rw [hds']; exact hdc (δ D) D kc1
      · rw [hds']; exact kr1
      · rw [hds', bUp_if, if_pos rfl, getD_setn (by omega), if_pos rfl]
        show nI c = nI (tc y)
        rw [yc]
      · rw [hds', getD_setn (by omega), if_pos rfl]
        rfl
      · rw [hds']
        show y ≤ 3
        omega
      · rw [hds']; exact yH
      · rw [hds']; exact hcur
      · rw [bUp_if, if_pos rfl, List.length_set]
        exact l7
    rcases ty_tbl c (by omega) with ⟨q1, q2⟩ | ⟨y, y1, y2, y3, y4, y5⟩
    · rw [if_pos q1] at hM
      refine Or.inl (hbad ?_ hM)
      unfold okR
      split
      · exact decide_eq_false (by omega)
      · exact decide_eq_false q2
    · rw [y2, if_neg (nI_pos (by omega)), rdR_r2, xsGet_d (by omega) (by omega), bs, kr1.1] at hM
      rcases (Bool.eq_false_or_eq_true (dH (δ D))).symm with hH | hH
      · rw [hH, if_pos (show lvl false = 0 from rfl)] at hM
        exact Or.inr (hgood y y1 y2 y3 (by rw [hH]; exact decide_eq_true y4) (fun q => by rw [hH] at q; cases q) hM)
      · rw [hH, if_neg (show ¬ lvl true = 0 by decide), m161_eq hw v2, bs, y2] at hM
        by_cases yy : y < 2
        · rw [if_neg (by rw [geL_2 (by omega)]; omega)] at hM
          exact Or.inr (hgood y y1 y2 y3 (by rw [hH]; exact decide_eq_true (y5.mp yy)) (fun _ => yy) hM)
        · rw [if_pos (by rw [geL_2 (by omega)]; omega)] at hM
          exact Or.inl (hbad (by rw [hH]; exact decide_eq_false (fun q => yy (y5.mpr q))) hM)
end DRes
