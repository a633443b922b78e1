/-! the end of a definition -/
section DEnd
variable {T U : List Int32} {n p N D F x y d : Nat} {σ σ0 : Nat → Nd} {δ : Nat → Dd} {C R : xSt} {sy : Int32} {s : xSt} {z : Bool} {g : Nat → List Int32} {nn : List Int64} {r1 r2 r3 : List Int32} {i2 i3 i4 i5 i6 i7 i8 i9 i10 i11 : Int32} {j0 : Int64} {l0 : List Int64} {z4 : Bool} {t : xSt} {qr2 qr3 qr4 qr5 qr6 qr7 qr8 qr9 qr10 qr11 qr12 qr13 qr14 qr15 qr16 : List Int32} {qi21 qi22 qi23 qi24 qi25 qi26 qi27 qi28 qi29 qi30 : Int32} {qj0 : Int64} {ql0 ql1 ql2 ql3 : List Int64}
theorem flt_fq {f pl : Int32} {rr cc : Option xSt} {c : xSt} (hf : f = 1 ∨ f = 2 ∨ f = 3) (h1 : FQ t f pl rr) (h2 : cc = some c) (h3 : CF s z f pl c) : Flt s t z rr cc := by
  obtain ⟨q, q1, q2⟩ := h1
  exact ⟨f, pl, q, c, hf, q1, h2, q2, h3⟩
/-- a token for a symbol of a definition -/
theorem dtok (h : TR T U n) (hT : gR s 0 = T) (hU : gR t 1 = U) (hn : gI t 20 = nI n) (hx : x < 900000) (hp : p ≤ n) (hl0 : l0.length = 24) (hnn : nn.length = 64) (z4' : gZ C 4 = false) (z2' : gI C 2 = 0) (h78 : m78 C = some (sy, (rdC s z g nn r1 r2 r3 0 i3 (nI p) i5 i6 i7 i8 i9 i10 i11 j0 l0 false))) (n1 : sy ≠ 66) (n2 : sy ≠ 85) (n3 : sy ≠ 65) : (∃ c, LC x C = some c ∧ CF s z 3 (nI n) c ∧ m150 (rdR t qr2 qr3 qr4 qr5 qr6 qr7 qr8 qr9 qr10 qr11 qr12 qr13 qr14 qr15 qr16 0 qi22 (nI p) qi24 qi25 qi26 qi27 qi28 qi29 qi30 qj0 ql0 ql1 ql2 ql3) = some (rdR t qr2 qr3 qr4 qr5 qr6 qr7 qr8 qr9 qr10 qr11 qr12 qr13 qr14 qr15 qr16 0 qi22 (nI n) 4 (nI n) qi26 qi27 qi28 qi29 qi30 qj0 ql0 ql1 ql2 ql3)) ∨ (∃ a c pe k y q, LC x C = some c ∧ CF s z 1 (nI a) c ∧ m150 (rdR t qr2 qr3 qr4 qr5 qr6 qr7 qr8 qr9 qr10 qr11 qr12 qr13 qr14 qr15 qr16 0 qi22 (nI p) qi24 qi25 qi26 qi27 qi28 qi29 qi30 qj0 ql0 ql1 ql2 ql3) = some (rdR t qr2 qr3 qr4 qr5 qr6 qr7 qr8 qr9 qr10 qr11 qr12 qr13 qr14 qr15 qr16 1 (nI a) pe k (nI a) y qi27 qi28 qi29 qi30 q ql0 ql1 ql2 ql3)) ∨ ∃ a e τ c x7 x26 j jr, p ≤ a ∧ a < e ∧ e ≤ n ∧ GT T U a e τ c j jr x7 x26 ∧ m81 sy (rdC s z g nn r1 r2 r3 0 i3 (nI p) i5 i6 i7 i8 i9 i10 i11 j0 l0 false) = some (true, (rdC s z g nn r1 r2 r3 0 i3 (nI e) (nI τ) (nI a) x7 (nI c) i9 i10 i11 j l0 false)) ∧ m150 (rdR t qr2 qr3 qr4 qr5 qr6 qr7 qr8 qr9 qr10 qr11 qr12 qr13 qr14 qr15 qr16 0 qi22 (nI p) qi24 qi25 qi26 qi27 qi28 qi29 qi30 qj0 ql0 ql1 ql2 ql3) = some (rdR t qr2 qr3 qr4 qr5 qr6 qr7 qr8 qr9 qr10 qr11 qr12 qr13 qr14 qr15 qr16 0 qi22 (nI e) (nI (τ - 2)) (nI a) x26 qi27 qi28 qi29 qi30 jr ql0 ql1 ql2 ql3) := by
  obtain ⟨a, e, p1, p2, p3, ht⟩ := tok (s := s) (z := z) (g := g) (nn := nn) (r1 := r1) (r2 := r2) (r3 := r3) (i2 := 0) (i3 := i3) (i5 := i5) (i6 := i6) (i7 := i7) (i8 := i8) (i9 := i9) (i10 := i10) (i11 := i11) (j0 := j0) (l0 := l0) (z4 := false) (t := t) (qr2 := qr2) (qr3 := qr3) (qr4 := qr4) (qr5 := qr5) (qr6 := qr6) (qr7 := qr7) (qr8 := qr8) (qr9 := qr9) (qr10 := qr10) (qr11 := qr11) (qr12 := qr12) (qr13 := qr13) (qr14 := qr14) (qr15 := qr15) (qr16 := qr16) (qi22 := qi22) (qi24 := qi24) (qi25 := qi25) (qi26 := qi26) (qi27 := qi27) (qi28 := qi28) (qi29 := qi29) (qi30 := qi30) (qj0 := qj0) (ql0 := ql0) (ql1 := ql1) (ql2 := ql2) (ql3 := ql3) (p := p) h hT hU hn hp
  rcases ht with ⟨f1, f2, f3⟩ | ⟨f1, d', y', k, q, pe, f2, f3⟩ | ⟨f1, τ, c, y7, y26, yj, yr, hG, f2, f3⟩
  · exact Or.inl ⟨_, lc_early (x := x) (by omega) z4' z2' h78 n1 n2 n3 f2, cf_mk hl0 hnn, f3⟩
  · exact Or.inr (Or.inl ⟨a, _, pe, k, y', q, lc_bad (x := x) (by omega) z4' z2' h78 n1 n2 f2, cf_mk hl0 hnn, f3⟩)
  · exact Or.inr (Or.inr ⟨a, e, τ, c, y7, y26, yj, yr, p1, f1, p3, hG, take_ok f2 (tau_ne hG.1).2.1 (tau_ne hG.1).2.2, f3⟩)
theorem m92_last (hz : gZ s 3 = z) {c x y : Int32} : m92 (rdC s z g nn [c] [x] [y] i2 i3 i4 3 i6 i7 i8 i9 i10 i11 j0 l0 z4) = some (rdC s z (bUp g 4 (xsSet (g 4) c (nI (g 0).length))) nn [] [] [] i2 i3 i4 3 i6 i7 i8 i9 i10 0 j0 l0 z4) := by
  have e1 : xsTop [c] = c := xsTop_r (st := []) (by decide)
  unfold m92 m92_17
  rw [rdC_i5, if_pos rfl, m84_t, bs, if_pos rfl]
  simp only [rdC_r1, rdC_r2, rdC_r3, rdC_i2, rdC_i3, rdC_i4, rdC_i5, rdC_i6, rdC_i7, rdC_i8, rdC_i9, rdC_i10, rdC_i11, rdC_j0, rdC_l0, rdC_z4, rdC_or0, rdC_oz3, rdC_gP, rdC_gN, rdC_sP, rdC_sN, rdC_sr1, rdC_sr2, rdC_sr3, rdC_si2, rdC_si3, rdC_si4, rdC_si5, rdC_si6, rdC_si7, rdC_si8, rdC_si9, rdC_si10, rdC_si11, rdC_sj0, rdC_sl0, rdC_sz4, e1, hz, List.dropLast_singleton]
  rw [if_pos (by decide)]
theorem wf_ps {ps ps2 : List Int64} {d d2 : Nat} (h : WF 0 T σ N [] ps d) (hl : ps2.length ≤ 24) : WF 0 T σ N [] ps2 d2 := by
  obtain ⟨p1, p2, p3, p4, p5, p6⟩ := h
  exact ⟨p1, p2, p3, trivial, p5, hl⟩
theorem sym_def : ∀ sp, sp < 9 → sym 22 sp = (zBy 0).getD sp 0 ∧ sym 23 sp = (zBy 0).getD sp 0 := by decide +kernel
theorem sym_d {b : Bool} {sp : Nat} (h : sp < 9) : sym (if b = true then 23 else 22) sp = (zBy 0).getD sp 0 := by
  cases b
  · exact (sym_def sp h).1
  · exact (sym_def sp h).2
theorem zb0 : (zBy 0).getD 0 0 = 68 ∧ (zBy 0).getD 1 0 = 40 ∧ (zBy 0).getD 2 0 = 80 ∧ (zBy 0).getD 3 0 = 78 ∧ (zBy 0).getD 4 0 = 89 ∧ (zBy 0).getD 5 0 = 81 ∧ (zBy 0).getD 6 0 = 82 ∧ (zBy 0).getD 7 0 = 83 ∧ (zBy 0).getD 8 0 = 41 := by decide +kernel
/-- the symbol ahead in a definition -/
theorem m78_d {b : Bool} {sp : Nat} (hz : gZ s 3 = z) (hk : (g 0).getD N 0 = nI (if b = true then 23 else 22)) (hN : N < 2 ^ 20) (hsp : sp < 9) : m78 (rdC s z g nn ([nI N]) ([nI sp]) r3 i2 i3 i4 i5 i6 i7 i8 i9 (-1) i11 j0 l0 z4) = some ((zBy 0).getD sp 0, (rdC s z g nn ([nI N]) ([nI (sp + 1)]) r3 i2 i3 i4 i5 i6 i7 i8 i9 (-1) i11 j0 l0 z4)) := by
  have e := m78_eq (s := s) (z := z) (g := g) (nn := nn) (r3 := r3) (i2 := i2) (i3 := i3) (i4 := i4) (i5 := i5) (i6 := i6) (i7 := i7) (i8 := i8) (i9 := i9) (i11 := i11) (j0 := j0) (l0 := l0) (z4 := z4) (ns := []) (ss := []) (c := N) (κ := if b = true then 23 else 22) (sp := sp) (hz := hz) (by cases b <;> decide) (by rw [xsAt_n (by omega)]; exact hk) (by decide) (by decide) (by omega)
  rw [sym_d hsp] at e
  exact e
/-- what is known of the definitions when the expression of the last one begins -/
def Dk (σ0 : Nat → Nd) (δ : Nat → Dd) (D F : Nat) (gg : Nat → List Int32) (nn : List Int64) (qr2 qr3 qr4 qr5 qr6 qr7 : List Int32) (ql0 ql1 : List Int64) : Prop := (∀ d, d < D → Dw δ σ0 D F d ∧ DC1 (δ d) d gg nn ∧ DC2 (δ d) d gg ∧ DR1 (δ d) d qr2 qr4 qr6 qr7 ql0 ql1 ∧ DR2 (δ d) d qr3 qr5) ∧ (D = 0 → F = 0) ∧ (∀ k, k < F → nD (σ0 k) < D) ∧ (Dg (δ D) ∧ Dh δ D ∧ dF (δ D) = F ∧ DC1 (δ D) D gg nn ∧ DR1 (δ D) D qr2 qr4 qr6 qr7 ql0 ql1) ∧ ((gg 7).getD D 0 = nI (tc (dR (δ D))) ∧ dR (δ D) ≤ 3 ∧ (dH (δ D) = true → dR (δ D) < 2) ∧ DR2 (δ D) D qr3 qr5) ∧ (nn.length = 64 ∧ (gg 5).length = D + 1 ∧ (gg 6).length = D + 1 ∧ (gg 7).length = D + 1 ∧ (gg 8).length = D + 1 ∧ (gg 9).length = 8 * (D + 1)) ∧ (qr2.length = 64 ∧ qr3.length = 64 ∧ qr4.length = 64 ∧ qr5.length = 64 ∧ qr6.length = 64 ∧ qr7.length = 512 ∧ ql0.length = 64 ∧ ql1.length = 512) ∧ D < 64
theorem rt_congr {ps : List Int64} {lv : Int32} (h : Rt σ0 N F d ps lv) (hF : F < N) (he : ∀ j, j < N → σ j = σ0 j) : Rt σ N F d ps lv := by
  unfold Rt at h ⊢
  rw [he F hF]
  exact ⟨h.1, h.2.1, h.2.2.1, h.2.2.2.1, fun k h1 h2 => by rw [he k h2]; exact h.2.2.2.2 k h1 h2⟩
/-- both at the end of a definition -/
theorem st8 {gg : Nat → List Int32} (h : TR T U n) (hT : gR s 0 = T) (hU : gR t 1 = U) (hn : gI t 20 = nI n) (hz : gZ s 3 = z) (hn4 : n ≤ 4088) (hx : x < 800000) (hI : InvE T n D F (dP (δ D)) (lvl (dH (δ D))) s t z gg nn qr2 qr3 qr4 qr5 qr6 qr7 (nI D) ql0 ql1 σ0 p [] σ N C R) (hk : Dk σ0 δ D F gg nn qr2 qr3 qr4 qr5 qr6 qr7 ql0 ql1) : Flt s t z (m157_430 R) (LC x C) ∨ ∃ (R2 C2 : xSt) (p2 : Nat) (δ2 : Nat → Dd), m157_430 R = some R2 ∧ LC x C = LC (x + 1) C2 ∧ GI T n s t z (D + 1) p2 σ N δ2 C2 R2 ∧ p < p2 := by
  obtain ⟨g, i3, i5, i6, i7, i8, i9, j0, l0, qr8, qr9, qr10, qr11, qr12, qr13, qr14, qr15, qr16, qi22, qi24, qi25, qi26, qj0, ql2, ql3, rfl, rfl, ⟨wf, dm, ca, ra, dt⟩, ⟨⟨hl0, hi3⟩, hcur⟩, ⟨h8, h9, h10, h11, h12, h13, h14, g2, g3, h15, h16⟩, hFw, ⟨hFN, hNp, hpn, hwp⟩, rt, rs⟩ := hI
  obtain ⟨kd, k0, kD, ⟨kg, kh, kF, kc1, kr1⟩, ⟨k7, kR, kRH, kr2⟩, ⟨hnn, l5, l6, l7, l8, l9⟩, ⟨a2, a3, a4, a5, a6, a7, b0, b1⟩, hD⟩ := hk
  obtain ⟨ca1, ca2, ca3, ca4⟩ := ca
  have hg0 : (g 0).getD (F + D) 0 = nI (if dH (δ D) = true then 23 else 22) := by
    rw [ca3 0 (F + D) (by omega) (by omega), ← kF]
    exact kc1.2.2.2.2.2.1
  have h78 := m78_d (s := s) (z := z) (g := g) (nn := nn) (r3 := [lvl (dH (δ D))]) (i2 := 0) (i3 := i3) (i4 := nI p) (i5 := i5) (i6 := i6) (i7 := i7) (i8 := i8) (i9 := i9) (i11 := nI (dP (δ D)).length) (j0 := j0) (l0 := l0) (z4 := false) (sp := 8) hz hg0 (by omega) (by omega)
  rw [zb0.2.2.2.2.2.2.2.2] at h78
  have hfin : ∀ S : xSt, m157_430 S = if (gI S 21) = 0 then (m150 S).bind fun q48 => (if (gI q48 24) = 1 then m157_455 true q48 else m157_455 false q48) else some (sI S 27 ((gI S 27) + 1)) := fun S => by
    unfold m157_430
    rfl
  rcases dtok (s := s) (z := z) (g := g) (nn := nn) (r1 := [nI (F + D)]) (r2 := [nI (8 + 1)]) (r3 := [lvl (dH (δ D))]) (i3 := i3) (i5 := i5) (i6 := i6) (i7 := i7) (i8 := i8) (i9 := i9) (i10 := -1) (i11 := nI (dP (δ D)).length) (j0 := j0) (l0 := l0) (t := t) (qr2 := qr2) (qr3 := qr3) (qr4 := qr4) (qr5 := qr5) (qr6 := qr6) (qr7 := qr7) (qr8 := qr8) (qr9 := qr9) (qr10 := qr10) (qr11 := qr11) (qr12 := qr12) (qr13 := qr13) (qr14 := qr14) (qr15 := qr15) (qr16 := qr16) (qi22 := qi22) (qi24 := qi24) (qi25 := qi25) (qi26 := qi26) (qi27 := nI D) (qi28 := nI N) (qi29 := nI 0) (qi30 := nI (dP (δ D)).length) (qj0 := qj0) (ql0 := ql0) (ql1 := ql1) (ql2 := ql2) (ql3 := ql3) (x := x) (p := p) h hT hU hn (by omega) hpn hl0 hnn (C := (rdC s z g nn ([nI (F + D)]) ([nI 8]) ([lvl (dH (δ D))]) 0 i3 (nI p) i5 i6 i7 i8 i9 (-1) (nI (dP (δ D)).length) j0 l0 false)) (by rw [rdC_z4]) (by rw [rdC_i2]) h78 (by decide) (by decide) (by decide) with ⟨c, e1, e2, e3⟩ | ⟨a, c, pe, k, y', q, e1, e2, e3⟩ | ⟨a, e, τ, c, x7, x26, j, jr, p1, p2, p3, hG, hm81, h150⟩
  · refine Or.inl (flt_fq (Or.inr (Or.inr rfl)) ⟨?_, ?_, ?_⟩ e1 e2)
    · exact (rdR t qr2 qr3 qr4 qr5 qr6 qr7 qr8 qr9 qr10 qr11 qr12 qr13 qr14 qr15 qr16 3 (nI n) (nI n) 4 (nI n) qi26 (nI D + 1) (nI N) (nI 0) (nI (dP (δ D)).length) qj0 ql0 ql1 ql2 ql3)
    · refine (hfin _).trans ?_
      rw [rdR_i21, if_pos rfl]
      refine (congrArg (fun o => Option.bind o _) e3).trans ?_
      refine (bs _ _).trans ?_
      rw [rdR_i24, if_neg (by decide)]
      unfold m157_455
      rw [m158_end, bs, rdR_i27, rdR_si27, hn]
    · exact rf_mk a2 a3 a4 a5 a6 a7 b0 b1 h8 h9 h10 h11 h12 h13 h14 g2 g3 h15 h16
  · refine Or.inl (flt_fq (Or.inl rfl) ⟨?_, ?_, ?_⟩ e1 e2)
    · exact (rdR t qr2 qr3 qr4 qr5 qr6 qr7 qr8 qr9 qr10 qr11 qr12 qr13 qr14 qr15 qr16 1 (nI a) pe k (nI a) y' (nI D + 1) (nI N) (nI 0) (nI (dP (δ D)).length) q ql0 ql1 ql2 ql3)
    · refine (hfin _).trans ?_
      rw [rdR_i21, if_pos rfl]
      refine (congrArg (fun o => Option.bind o _) e3).trans ?_
      show (if gI _ 24 = 1 then _ else _) = _
      unfold m157_455
      rw [m158_flt (by decide), m158_flt (by decide), bs, ite_self, rdR_i27, rdR_si27]
    · exact rf_mk a2 a3 a4 a5 a6 a7 b0 b1 h8 h9 h10 h11 h12 h13 h14 g2 g3 h15 h16
  · obtain ⟨v1, v2, v3, v4, v5, v6⟩ := hG
    obtain ⟨n4, n0, n1⟩ := tau_ne v1
    have hMM : ∀ b : Bool, b = decide (τ = 3) → m157_430 (rdR t qr2 qr3 qr4 qr5 qr6 qr7 qr8 qr9 qr10 qr11 qr12 qr13 qr14 qr15 qr16 0 qi22 (nI p) qi24 qi25 qi26 (nI D) (nI N) (nI 0) (nI (dP (δ D)).length) qj0 ql0 ql1 ql2 ql3) = m157_455 b (rdR t qr2 qr3 qr4 qr5 qr6 qr7 qr8 qr9 qr10 qr11 qr12 qr13 qr14 qr15 qr16 0 qi22 (nI e) (nI (τ - 2)) (nI a) x26 (nI D) (nI N) (nI 0) (nI (dP (δ D)).length) jr ql0 ql1 ql2 ql3) := by
      intro b hb
      refine (hfin _).trans ?_
      rw [rdR_i21, if_pos rfl]
      refine (congrArg (fun o => Option.bind o _) h150).trans ?_
      show (if gI _ 24 = 1 then _ else _) = _
      rw [rdR_i24]
      by_cases y : τ = 3
      · rw [if_pos (by rw [y]; decide), hb, decide_eq_true y]
      · rw [if_neg (by rw [eqL_1 (by omega)]; omega), hb, decide_eq_false y]
    have hL := lc_step (x := x) (by omega) (by rw [rdC_z4]) (by rw [rdC_i2]) h78 (by decide) (by decide) (by decide) hm81
    rw [m83_41] at hL
    by_cases y : τ = 3
    · subst y
      rw [show nI 3 = (3 : Int32) from rfl] at hL
      rw [m92_last hz, bs, xsSet_n (by omega), ca2 0 (by omega)] at hL
      have hM := hMM true (by rw [decide_eq_true rfl])
      unfold m157_455 at hM
      rw [m158_t n4, bs, rdR_i27, rdR_si27, nI_1] at hM
      refine Or.inr ⟨_, _, e, fd δ D ((dF (δ D), N, dH (δ D)), dP (δ D), dT (δ D), dR (δ D), dN (δ D), dL (δ D)), hM, hL, ?_, by omega⟩
      have hds : fd δ D ((dF (δ D), N, dH (δ D)), dP (δ D), dT (δ D), dR (δ D), dN (δ D), dL (δ D)) D = ((dF (δ D), N, dH (δ D)), dP (δ D), dT (δ D), dR (δ D), dN (δ D), dL (δ D)) := fd_s _ _ _
      have hdn : ∀ d, d < D → fd δ D ((dF (δ D), N, dH (δ D)), dP (δ D), dT (δ D), dR (δ D), dN (δ D), dL (δ D)) d = δ d := fun d hd => fd_n (by omega)
      have us := upd_set (g := g) (a := 4) (c := F + D) (x := nI (N + D + 1)) (Or.inr rfl)
      have hg5 : ∀ j, 5 ≤ j → bUp g 4 ((g 4).set (F + D) (nI (N + D + 1))) j = gg j := fun j hj => (us.1 j (by omega) (by omega)).trans (ca1 j hj)
      have hgp : ∀ j i, j < 5 → i < F + D + 1 → ¬ i = F + D ∨ ¬ j = 4 → (bUp g 4 ((g 4).set (F + D) (nI (N + D + 1))) j).getD i 0 = (gg j).getD i 0 := by
        intro j i hj hi hor
        by_cases y4 : j = 2 ∨ j = 4
        · by_cases yi : i = F + D
          · have yj : ¬ j = 4 := by omega
            rw [bUp_if, if_neg yj]
            exact ca3 j i hj hi
          · rw [(us.2 j y4).2 i yi]
            exact ca3 j i hj hi
        · rw [us.1 j (by omega) (by omega)]
          exact ca3 j i hj hi
      refine ⟨_, nn, i3, 3, nI a, x7, nI c, i9, j, l0, qr2, qr3, qr4, qr5, qr6, qr7, qr8, qr9, qr10, qr11, qr12, qr13, qr14, qr15, qr16, qi22, nI (3 - 2), nI a, x26, nI 0, nI (dP (δ D)).length, jr, ql0, ql1, ql2, ql3, rfl, rfl, ⟨wf_ps wf (by decide), fun i j' hi hj => ⟨(dm i j' hi hj).1, by have := (dm i j' hi hj).2; omega⟩, fun k hk => by have := (dm k k (Nat.le_refl _) hk).2; omega, ⟨fun j' hj => ?_, fun k hk => ?_⟩, ra⟩, fun d hd => ?_, by omega, ⟨⟨hl0, hi3⟩, hnn, by rw [hg5 5 (by omega)]; exact l5, by rw [hg5 6 (by omega)]; exact l6, by rw [hg5 7 (by omega)]; exact l7, by rw [hg5 8 (by omega)]; exact l8, by rw [hg5 9 (by omega)]; exact l9⟩, ⟨a2, a3, a4, a5, a6, a7, b0, b1⟩, ⟨h8, h9, h10, h11, h12, h13, h14, g2, g3, h15, h16⟩, by omega, p3, by omega⟩
      · by_cases y4 : j' = 2 ∨ j' = 4
        · rw [(us.2 j' y4).1, ca2 j' hj]
          omega
        · rw [us.1 j' (by omega) (by omega), ca2 j' hj]
          omega
      · have hne : ¬ k + nD (σ k) + 1 = F + D := by
          by_cases yk : k < F
          · have := kD k yk
            rw [rs k yk]
            omega
          · have := (dm F k (by omega) hk).1
            rw [rt.2.2.1] at this
            omega
        have q := ca4 k hk
        unfold NC at q ⊢
        rw [us.1 0 (by omega) (by omega), us.1 1 (by omega) (by omega), us.1 3 (by omega) (by omega), (us.2 2 (Or.inl rfl)).2 _ hne, (us.2 4 (Or.inr rfl)).2 _ hne]
        exact q
      · by_cases yd : d = D
        · subst yd
          rw [hds]
          refine ⟨⟨⟨?_, ?_, fun q => by omega, fun _ => ?_, fun q => ?_⟩, ?_, ⟨?_, ?_⟩, ⟨?_, fun e' he => ?_⟩, ?_⟩, ?_, ⟨?_, ?_⟩, kr1, kr2⟩
          · rw [hds]; show dF (δ d) < N; omega
          · rw [hds]; exact Nat.le_refl N
          · rw [hds]; rfl
          · rw [hds]; show dF (δ d) = 0; rw [kF]; exact k0 q
          · rw [hds]; exact kg
          · rw [hds]; exact kR
          · rw [hds]; exact kRH
          · rw [hds]; exact kh.1
          · rw [hds, hdn e' he]; exact kh.2 e' he
          · rw [hds]
            show Rt σ N (dF (δ d)) d (dP (δ d)) (lvl (dH (δ d)))
            rw [kF]
            exact rt
          · obtain ⟨q1, q2, q3, q4, q5, q6, q7⟩ := kc1
            refine ⟨by rw [hg5 5 (by omega)]; exact q1, by rw [hg5 6 (by omega)]; exact q2, by rw [hg5 8 (by omega)]; exact q3, fun i hi => by rw [hg5 9 (by omega)]; exact q4 i hi, q5, ?_, ?_⟩
            · show (bUp g 4 _ 0).getD (dF (δ d) + d) 0 = _
              rw [kF, hgp 0 (F + d) (by omega) (by omega) (Or.inr (by omega)), ← kF]; exact q6
            · show (bUp g 4 _ 2).getD (dF (δ d) + d) 0 = _
              rw [kF, hgp 2 (F + d) (by omega) (by omega) (Or.inr (by omega)), ← kF]; exact q7
          · rw [hg5 7 (by omega)]; exact k7
          · show (bUp g 4 _ 4).getD (dF (δ d) + d) 0 = nI (N + d + 1)
            rw [kF, bUp_if, if_pos rfl, getD_setn (by rw [ca2 4 (by omega)]; omega), if_pos rfl]
        · have hd' : d < D := by omega
          obtain ⟨⟨⟨w1, w2, w3, w4, w5⟩, w6, w7, w8, w9⟩, d1, d2, d3, d4⟩ := kd d hd'
          rw [hdn d hd']
          refine ⟨⟨⟨?_, ?_, fun q => ?_, fun q => by omega, fun q => ?_⟩, ?_, ?_, ⟨?_, fun e' he => ?_⟩, ?_⟩, ?_, ⟨?_, ?_⟩, d3, d4⟩
          · rw [hdn d hd']; exact w1
          · rw [hdn d hd']; omega
          · rw [hdn d hd']
            by_cases y1 : d + 1 = D
            · rw [y1, hds]
              show dE (δ d) = dF (δ D)
              rw [kF]
              exact w4 y1
            · rw [hdn (d + 1) (by omega)]
              exact w3 (by omega)
          · rw [hdn d hd']; exact w5 q
          · rw [hdn d hd']; exact w6
          · rw [hdn d hd']; exact w7
          · rw [hdn d hd']; exact w8.1
          · rw [hdn d hd', hdn e' (by omega)]; exact w8.2 e' he
          · rw [hdn d hd']
            exact rt_congr w9 w1 (fun j' hj => rs j' (by omega))
          · obtain ⟨q1, q2, q3, q4, q5, q6, q7⟩ := d1
            refine ⟨by rw [hg5 5 (by omega)]; exact q1, by rw [hg5 6 (by omega)]; exact q2, by rw [hg5 8 (by omega)]; exact q3, fun i hi => by rw [hg5 9 (by omega)]; exact q4 i hi, q5, ?_, ?_⟩
            · rw [hgp 0 _ (by omega) (by omega) (Or.inr (by omega))]; exact q6
            · rw [hgp 2 _ (by omega) (by omega) (Or.inr (by omega))]; exact q7
          · rw [hg5 7 (by omega)]; exact d2.1
          · rw [hgp 4 _ (by omega) (by omega) (Or.inl (by omega))]; exact d2.2
    · have hM := hMM false (by rw [decide_eq_false y])
      unfold m157_455 at hM
      rw [m158_f n4, bs, rdR_i27, rdR_si27] at hM
      rw [m92_no (by rw [eqL_3 (by omega)]; exact y), bs] at hL
      refine Or.inl (flt_fq (Or.inr (Or.inl rfl)) ⟨_, hM, rf_mk a2 a3 a4 a5 a6 a7 b0 b1 h8 h9 h10 h11 h12 h13 h14 g2 g3 h15 h16⟩ (hL.trans (lc_end (by omega) (Or.inr (by rw [rdC_i2]; decide)))) (cf_mk hl0 hnn))
end DEnd
