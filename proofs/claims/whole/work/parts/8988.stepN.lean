/-! steps that take a name -/
section StepN
variable {T U : List Int32} {n p N D x y d F k : Nat} {w : List Nat} {σ σ0 : Nat → Nd} {v nd : Nd} {ps : List Int64} {lv : Int32} {C R : xSt} {gg : Nat → List Int32} {s t : xSt} {z : Bool} {nn : List Int64} {qr2 qr3 qr4 qr5 qr6 qr7 : List Int32} {qi27 : Int32} {ql0 ql1 : List Int64}
theorem own_eq {a e τ c : Nat} {j jr : Int64} {x7 x26 : Int32} {S : xSt} (hG : GT T U a e τ c j jr x7 x26) (h1 : gR S 1 = U) (h2 : gI S 24 = nI (τ - 2)) (h3 : gI S 25 = nI a) (h4 : gI S 23 = nI e) : m160 S = some (decide (τ = 4 ∧ c = 0), S) := by
  obtain ⟨v1, v2, v3, v4, v5, v6⟩ := hG
  by_cases y : τ = 4
  · rw [m160_eq (v6 S h1 h2 h3 h4) v2 (by rw [h2, y]; rfl)]
    congr 2
    exact decide_eq_decide.mpr ⟨fun q => ⟨y, q⟩, fun q => q.2⟩
  · rw [m160_no (by rw [h2, Ne, eqL_2 (by omega)]; omega), decide_eq_false (fun q => y q.1)]
theorem l0_push {l0 : List Int64} {cur : List Int64} {y : Int64} (hl : l0.length = 24) (hm : cur.length < 24) (h : ∀ i, i < cur.length → l0.getD i 0 = cur.getD i 0) : ∀ i, i < (cur ++ [y]).length → (l0.set cur.length y).getD i 0 = (cur ++ [y]).getD i 0 := by
  intro i hi
  rw [List.length_append, List.length_singleton] at hi
  rw [getD_setn (by omega), getD_push]
  by_cases c : i = cur.length
  · rw [if_pos c, if_pos c]
  · rw [if_neg c, if_neg c]
    exact h i (by omega)
/-- a variable of a let comes -/
theorem stp_B (h : TR T U n) (hT : gR s 0 = T) (hU : gR t 1 = U) (hn : gI t 20 = nI n) (hz : gZ s 3 = z) (hn4 : n ≤ 4088) (hnn : nn.length = 64) (a2 : qr2.length = 64) (a3 : qr3.length = 64) (a4 : qr4.length = 64) (a5 : qr5.length = 64) (a6 : qr6.length = 64) (a7 : qr7.length = 512) (b0 : ql0.length = 64) (b1 : ql1.length = 512) (hy : y < 900000) (hx : x + pd σ (k :: w) ≤ 3 * p) (hI : InvE T n d F ps lv s t z gg nn qr2 qr3 qr4 qr5 qr6 qr7 qi27 ql0 ql1 σ0 p (k :: w) σ N C R) (hrem : rem (nK (σ k)) (nS (σ k)) = 10 :: rem (nK (σ k)) (nS (σ k) + 1)) (hsy : sym (ck (nK (σ k))) (nS (σ k)) = 66) (t1 : kl (nK (σ k)) = true) (t3 : so (nK (σ k)) (nS (σ k) + 1) = true) (t4 : ct (nK (σ k)) (nS (σ k) + 1) = ct (nK (σ k)) (nS (σ k))) (t5 : bnc (nK (σ k)) (nS (σ k) + 1) = 1) (t6 : bnc (nK (σ k)) (nS (σ k)) = 0) (t7 : bu (nK (σ k)) (nS (σ k) + 1) + 1 = bu (nK (σ k)) (nS (σ k))) (t8 : sm (nK (σ k)) (nS (σ k)) (nS (σ k) + 1) = true) (t9 : nq (nK (σ k)) (nS (σ k)) = true) : Flt s t z (LR y R) (LC x C) ∨ ∃ (R2 C2 : xSt) (x2 p2 : Nat) (w2 : List Nat) (σ2 : Nat → Nd) (N2 : Nat), LR y R = LR (y + 1) R2 ∧ LC x C = LC x2 C2 ∧ InvE T n d F ps lv s t z gg nn qr2 qr3 qr4 qr5 qr6 qr7 qi27 ql0 ql1 σ0 p2 w2 σ2 N2 C2 R2 ∧ x2 + pd σ2 w2 ≤ 3 * p2 ∧ 3 * (n - p2) + pd σ2 w2 < 3 * (n - p) + pd σ (k :: w) := by
  obtain ⟨g, i3, i5, i6, i7, i8, i9, j0, l0, qr8, qr9, qr10, qr11, qr12, qr13, qr14, qr15, qr16, qi22, qi24, qi25, qi26, qj0, ql2, ql3, rfl, rfl, ⟨wf, dm, ca, ra, dt⟩, ⟨⟨hl0, hi3⟩, hcur⟩, ⟨h8, h9, h10, h11, h12, h13, h14, g2, g3, h15, h16⟩, hFw, ⟨hFN, hNp, hpn, hwp⟩, rt⟩ := hI
  obtain ⟨⟨kN, kP, kC, kso, kD⟩, kw, kch⟩ := wf.2.2.2.1
  obtain ⟨so3, so23, so9⟩ := so_lt kso
  have hkF : F ≤ k := hFw k List.mem_cons_self
  have hwl : w.length < 2044 := by rw [List.length_cons] at hwp; omega
  have hk0 : xsAt (g 0) (nI (k + d + 1)) = nI (ck (nK (σ k))) := by rw [xsAt_n (by omega)]; have e0 := (ca.2.2.2 k kN).1; rw [kD] at e0; exact e0
  have hdl := du_len σ w
  have hx9 : x < 900000 := by omega
  have hm24 : (up σ ps (k :: w)).length ≤ 24 := wf.2.2.2.2.2
  have hwk : ∀ j ∈ w, ¬ j = k := fun j hj e => by have := kw j hj; omega
  have hwN : ∀ j ∈ w, j < N := ch_lt kch
  have hck : ck (nK (σ k)) < 100 := ck_lt24 _ so23
  rw [show ns d F (k :: w) = nI (k + d + 1) :: ns d F w from rfl, show ss σ (k :: w) = nI (nS (σ k)) :: ss σ w from rfl]
  have e78 := m78_eq (s := s) (z := z) (g := g) (nn := nn) (r3 := (ls σ (k :: w) lv).reverse) (i2 := 0) (i3 := i3) (i4 := nI p) (i5 := i5) (i6 := i6) (i7 := i7) (i8 := i8) (i9 := i9) (i11 := nI (up σ ps (k :: w)).length) (j0 := j0) (l0 := l0) (z4 := false) (ns := ns d F w) (ss := ss σ w) (c := k + d + 1) (κ := ck (nK (σ k))) (sp := nS (σ k)) (hz := hz) hck hk0 (by unfold ns; rw [List.length_append, List.length_map, List.length_singleton]; omega) (by unfold ss; rw [List.length_append, List.length_map, List.length_singleton]; omega) (by omega)
  rw [hsy] at e78
  have edu : du σ (k :: w) = (10, nI k) :: (((rem (nK (σ k)) (nS (σ k) + 1)).map fun x => (x, nI k)) ++ du σ w) := by
    show ((rem (nK (σ k)) (nS (σ k))).map fun x => (x, nI k)) ++ du σ w = _
    rw [hrem]
    rfl
  have hrl := rem_len (nK (σ k)) (nS (σ k) + 1)
  have hDl : (((rem (nK (σ k)) (nS (σ k) + 1)).map fun x => (x, nI k)) ++ du σ w).length < 30000 := by
    rw [List.length_append, List.length_map]
    omega
  rw [edu] at dt
  obtain ⟨dt1, dt2, dt3⟩ := dt
  have hup : up σ ps (k :: w) = nC (σ k) := by
    show nC (σ k) ++ bnl (bnc (nK (σ k)) (nS (σ k))) (nA (σ k)) (nB (σ k)) = _
    rw [t6]
    exact List.append_nil _
  rw [hup] at hcur e78
  obtain ⟨hNA, hlt⟩ := (wf.2.1 k kN).1.2.2.2.2.2.2 t9
  have hlt' := hlt t1
  have hQ : (g 2).getD (k + d + 1) 0 = nQ (σ k) := by
    have e0 := (ca.2.2.2 k kN).2.2.2.2.2.1 t9
    rw [kD] at e0
    exact e0
  have hR := lr_enter (t := t) (qr2 := qr2) (qr3 := qr3) (qr4 := qr4) (qr5 := qr5) (qr6 := qr6) (qr7 := qr7) (qr8 := qr8) (qr9 := qr9) (qr10 := qr10) (qr11 := qr11) (qr12 := qr12) (qr13 := qr13) (qr14 := qr14) (qr15 := qr15) (qr16 := qr16) (qi22 := qi22) (qi23 := nI p) (qi24 := qi24) (qi25 := qi25) (qi26 := qi26) (qi27 := qi27) (qi28 := nI N) (qi30 := nI (nC (σ k)).length) (qj0 := qj0) (ql0 := ql0) (ql1 := ql1) (ql2 := ql2) (ql3 := ql3) (y := y) (D := (((rem (nK (σ k)) (nS (σ k) + 1)).map fun x => (x, nI k)) ++ du σ w).length) (by omega) (by omega) h15 dt1
  rw [nI_1] at hR
  have hnsl : (ns d F w).length < 2 ^ 31 := by unfold ns; rw [List.length_append, List.length_map, List.length_singleton]; omega
  have hL := lc_B (x := x) (y := nA (σ k)) (by omega) (by rw [rdC_z4]) (by rw [rdC_i2]) e78 (by
    rw [rdC_oz3, hz, rdC_gP, rdC_r1, xsTop_r hnsl, xsAt_n (by omega), hQ]
    exact hNA _ hT) (m80_eq hl0 hlt')
  have wf2 : WF 0 T (fu σ k (uS (σ k) (nS (σ k) + 1))) N (k :: w) ps d := wf_adv wf rfl rfl rfl rfl (ndo_S (wf.2.1 k kN).1 t8) (fun _ => t4) t3 (fun _ _ => rfl) (by
    show (nC (σ k) ++ bnl (bnc (nK (σ k)) (nS (σ k) + 1)) (nA (σ k)) (nB (σ k))).length ≤ 24
    rw [t5, List.length_append]
    show (nC (σ k)).length + 1 ≤ 24
    omega)
  have epd : pd (fu σ k (uS (σ k) (nS (σ k) + 1))) (k :: w) + 1 = pd σ (k :: w) := by
    rw [pd_top (fu_s _ _ _) (fun j hj => fu_n (hwk j hj))]
    show bu (nK (σ k)) (nS (σ k) + 1) + pd σ w + 1 = bu (nK (σ k)) (nS (σ k)) + pd σ w
    omega
  rw [show (du σ (k :: w)).length = (((rem (nK (σ k)) (nS (σ k) + 1)).map fun x => (x, nI k)) ++ du σ w).length + 1 by rw [edu, List.length_cons]]
  rw [hup]
  have hcl : (nC (σ k) ++ [nA (σ k)]).length = (nC (σ k)).length + 1 := by rw [List.length_append]; rfl
  have hI2 := inv_adv (lv := lv) (qr2 := qr2) (qr3 := qr3) (qr4 := qr4) (qr5 := qr5) (qr6 := qr6) (qr7 := qr7) (qi27 := qi27) (ql0 := ql0) (ql1 := ql1) (s := s) (t := t) (z := z) (nn := nn) (gg := gg) (n := n) (p := p) (i3 := i3) (i5 := i5) (i6 := i6) (i7 := i7) (i8 := i8) (i9 := i9) (j0 := j0) (qi22 := qi22) (qi24 := qi24) (qi25 := qi25) (qi26 := qi26) (qj0 := qj0) (v := uS (σ k) (nS (σ k) + 1)) (cur := nC (σ k) ++ [nA (σ k)]) (l0 := l0.set (nC (σ k)).length (nA (σ k))) hi3 hwk wf2 dm rfl rfl rfl rfl (ca_S (s2 := nS (σ k) + 1) ca dm kN hkF kD so3 (by omega) (fun q => (sm_nq t8).symm.trans q) rfl rfl rfl rfl (Or.inl rfl) rfl) (ra_same ra rfl rfl rfl rfl rfl rfl rfl rfl) rfl dt3 (by
    show nC (σ k) ++ bnl (bnc (nK (σ k)) (nS (σ k) + 1)) (nA (σ k)) (nB (σ k)) = _
    rw [t5]
    rfl) (by rw [List.length_set]; exact hl0) (l0_push hl0 hlt' hcur) h8 h9 h10 h11 h12 h13 h14 g2 g3 h15 h16 hFw hFN hNp hpn hwp rt
  rw [hcl] at hI2
  exact Or.inr ⟨_, _, x + 1, p, k :: w, fu σ k (uS (σ k) (nS (σ k) + 1)), N, hR, hL, hI2, by omega, by omega⟩
/-- the name of a definition that is used -/
theorem stp_F (h : TR T U n) (hT : gR s 0 = T) (hU : gR t 1 = U) (hn : gI t 20 = nI n) (hz : gZ s 3 = z) (hn4 : n ≤ 4088) (hnn : nn.length = 64) (a2 : qr2.length = 64) (a3 : qr3.length = 64) (a4 : qr4.length = 64) (a5 : qr5.length = 64) (a6 : qr6.length = 64) (a7 : qr7.length = 512) (b0 : ql0.length = 64) (b1 : ql1.length = 512) (hy : y < 900000) (hx : x + pd σ (k :: w) ≤ 3 * p) (hI : InvE T n d F ps lv s t z gg nn qr2 qr3 qr4 qr5 qr6 qr7 qi27 ql0 ql1 σ0 p (k :: w) σ N C R) (hrem : rem (nK (σ k)) (nS (σ k)) = 9 :: rem (nK (σ k)) (nS (σ k) + 1)) (hsy : sym (ck (nK (σ k))) (nS (σ k)) = 70) (t1 : kc (nK (σ k)) = true) (t2 : nS (σ k) = 0) : Flt s t z (LR y R) (LC x C) ∨ ∃ (R2 C2 : xSt) (x2 p2 : Nat) (w2 : List Nat) (σ2 : Nat → Nd) (N2 : Nat), LR y R = LR (y + 1) R2 ∧ LC x C = LC x2 C2 ∧ InvE T n d F ps lv s t z gg nn qr2 qr3 qr4 qr5 qr6 qr7 qi27 ql0 ql1 σ0 p2 w2 σ2 N2 C2 R2 ∧ x2 + pd σ2 w2 ≤ 3 * p2 ∧ 3 * (n - p2) + pd σ2 w2 < 3 * (n - p) + pd σ (k :: w) := by
  obtain ⟨g, i3, i5, i6, i7, i8, i9, j0, l0, qr8, qr9, qr10, qr11, qr12, qr13, qr14, qr15, qr16, qi22, qi24, qi25, qi26, qj0, ql2, ql3, rfl, rfl, ⟨wf, dm, ca, ra, dt⟩, ⟨⟨hl0, hi3⟩, hcur⟩, ⟨h8, h9, h10, h11, h12, h13, h14, g2, g3, h15, h16⟩, hFw, ⟨hFN, hNp, hpn, hwp⟩, rt⟩ := hI
  obtain ⟨⟨kN, kP, kC, kso, kD⟩, kw, kch⟩ := wf.2.2.2.1
  obtain ⟨so3, so23, so9⟩ := so_lt kso
  have hkF : F ≤ k := hFw k List.mem_cons_self
  have hwl : w.length < 2044 := by rw [List.length_cons] at hwp; omega
  have hk0 : xsAt (g 0) (nI (k + d + 1)) = nI (ck (nK (σ k))) := by rw [xsAt_n (by omega)]; have e0 := (ca.2.2.2 k kN).1; rw [kD] at e0; exact e0
  have hdl := du_len σ w
  have hx9 : x < 900000 := by omega
  have hm24 : (up σ ps (k :: w)).length ≤ 24 := wf.2.2.2.2.2
  have hwk : ∀ j ∈ w, ¬ j = k := fun j hj e => by have := kw j hj; omega
  have hwN : ∀ j ∈ w, j < N := ch_lt kch
  have hck : ck (nK (σ k)) < 100 := ck_lt24 _ so23
  rw [show ns d F (k :: w) = nI (k + d + 1) :: ns d F w from rfl, show ss σ (k :: w) = nI (nS (σ k)) :: ss σ w from rfl]
  have e78 := m78_eq (s := s) (z := z) (g := g) (nn := nn) (r3 := (ls σ (k :: w) lv).reverse) (i2 := 0) (i3 := i3) (i4 := nI p) (i5 := i5) (i6 := i6) (i7 := i7) (i8 := i8) (i9 := i9) (i11 := nI (up σ ps (k :: w)).length) (j0 := j0) (l0 := l0) (z4 := false) (ns := ns d F w) (ss := ss σ w) (c := k + d + 1) (κ := ck (nK (σ k))) (sp := nS (σ k)) (hz := hz) hck hk0 (by unfold ns; rw [List.length_append, List.length_map, List.length_singleton]; omega) (by unfold ss; rw [List.length_append, List.length_map, List.length_singleton]; omega) (by omega)
  have hn66 : sym (ck (nK (σ k))) (nS (σ k)) ≠ 66 := by rw [hsy]; decide
  have hn85 : sym (ck (nK (σ k))) (nS (σ k)) ≠ 85 := by rw [hsy]; decide
  have hn65 : sym (ck (nK (σ k))) (nS (σ k)) ≠ 65 := by rw [hsy]; decide
  have hn42 : sym (ck (nK (σ k))) (nS (σ k)) ≠ 42 := by rw [hsy]; decide
  have edu : du σ (k :: w) = (9, nI k) :: (((rem (nK (σ k)) (nS (σ k) + 1)).map fun x => (x, nI k)) ++ du σ w) := by
    show ((rem (nK (σ k)) (nS (σ k))).map fun x => (x, nI k)) ++ du σ w = _
    rw [hrem]
    rfl
  have hrl : (rem (nK (σ k)) (nS (σ k) + 1)).length ≤ 9 := rem_len _ _
  have hDl : (((rem (nK (σ k)) (nS (σ k) + 1)).map fun x => (x, nI k)) ++ du σ w).length < 30000 := by
    rw [List.length_append, List.length_map]
    omega
  rw [edu] at dt
  obtain ⟨dt1, dt2, dt3⟩ := dt
  rw [show (du σ (k :: w)).length = (((rem (nK (σ k)) (nS (σ k) + 1)).map fun x => (x, nI k)) ++ du σ w).length + 1 by rw [edu, List.length_cons]]
  generalize hds : ((rem (nK (σ k)) (nS (σ k) + 1)).map fun x => (x, nI k)) ++ du σ w = ds at *
  rcases step_tok (s := s) (z := z) (g := g) (nn := nn) (r1 := (nI (k + d + 1) :: ns d F w).reverse) (r2 := (nI (nS (σ k) + 1) :: ss σ w).reverse) (r3 := (ls σ (k :: w) lv).reverse) (i3 := i3) (i5 := i5) (i6 := i6) (i7 := i7) (i8 := i8) (i9 := i9) (i10 := -1) (i11 := nI (up σ ps (k :: w)).length) (j0 := j0) (l0 := l0) (t := t) (qr2 := qr2) (qr3 := qr3) (qr4 := qr4) (qr5 := qr5) (qr6 := qr6) (qr7 := qr7) (qr8 := qr8) (qr9 := qr9) (qr10 := qr10) (qr11 := qr11) (qr12 := qr12) (qr13 := qr13) (qr14 := qr14) (qr15 := qr15) (qr16 := qr16) (qi22 := qi22) (qi24 := qi24) (qi25 := qi25) (qi26 := qi26) (qi27 := qi27) (qi28 := nI N) (qi30 := nI (up σ ps (k :: w)).length) (qj0 := qj0) (ql0 := ql0) (ql1 := ql1) (ql2 := ql2) (ql3 := ql3) (x := x) (y := y) (D := ds.length) (p := p) (w := 9) h hT hU hn hx9 hy hpn hl0 hnn (by omega) h15 h16 dt1 dt2 (by omega) a2 a3 a4 a5 a6 a7 b0 b1 h8 h9 h10 h11 h12 h13 h14 g2 g3 (by rw [rdC_z4]) (by rw [rdC_i2]) e78 hn66 hn85 hn65 with hf | ⟨a, e, τ, c, x7, x26, j, jr, p1, p2, p3, hG, hm81, h150⟩
  · exact Or.inl hf
  have hLR : ∀ q, m168 (rdR t qr2 qr3 qr4 qr5 qr6 qr7 qr8 qr9 qr10 qr11 qr12 qr13 qr14 qr15 qr16 0 qi22 (nI p) qi24 qi25 qi26 qi27 (nI N) (nI (ds.length + 1)) (nI (up σ ps (k :: w)).length) qj0 ql0 ql1 ql2 ql3) = some q → LR y (rdR t qr2 qr3 qr4 qr5 qr6 qr7 qr8 qr9 qr10 qr11 qr12 qr13 qr14 qr15 qr16 0 qi22 (nI p) qi24 qi25 qi26 qi27 (nI N) (nI (ds.length + 1)) (nI (up σ ps (k :: w)).length) qj0 ql0 ql1 ql2 ql3) = LR (y + 1) q := fun q hq => lr_step (by omega) (by omega) h15 dt1 (by decide) hq
  have hfl : ∀ q, m168 (rdR t qr2 qr3 qr4 qr5 qr6 qr7 qr8 qr9 qr10 qr11 qr12 qr13 qr14 qr15 qr16 0 qi22 (nI p) qi24 qi25 qi26 qi27 (nI N) (nI (ds.length + 1)) (nI (up σ ps (k :: w)).length) qj0 ql0 ql1 ql2 ql3) = some q → RF t 2 (nI a) q → m83 (sym (ck (nK (σ k))) (nS (σ k))) (rdC s z g nn ((nI (k + d + 1) :: ns d F w).reverse) ((nI (nS (σ k) + 1) :: ss σ w).reverse) ((ls σ (k :: w) lv).reverse) 0 i3 (nI e) (nI τ) (nI a) x7 (nI c) i9 (-1) (nI (up σ ps (k :: w)).length) j l0 false) = some (rdC s z g nn ((nI (k + d + 1) :: ns d F w).reverse) ((nI (nS (σ k) + 1) :: ss σ w).reverse) ((ls σ (k :: w) lv).reverse) 2 (nI a) (nI e) (nI τ) (nI a) x7 (nI c) i9 (-1) (nI (up σ ps (k :: w)).length) j l0 false) → Flt s t z (LR y (rdR t qr2 qr3 qr4 qr5 qr6 qr7 qr8 qr9 qr10 qr11 qr12 qr13 qr14 qr15 qr16 0 qi22 (nI p) qi24 qi25 qi26 qi27 (nI N) (nI (ds.length + 1)) (nI (up σ ps (k :: w)).length) qj0 ql0 ql1 ql2 ql3)) (LC x (rdC s z g nn ((nI (k + d + 1) :: ns d F w).reverse) ((nI (nS (σ k)) :: ss σ w).reverse) ((ls σ (k :: w) lv).reverse) 0 i3 (nI p) i5 i6 i7 i8 i9 (-1) (nI (up σ ps (k :: w)).length) j0 l0 false)) := fun q hr hrf hc => flt_lr hy hLR (flt_mk (Or.inr (Or.inl rfl)) hr (lc_f2 (by omega) (by rw [rdC_z4]) (by rw [rdC_i2]) e78 hn66 hn85 hn42 hm81 hc (by rw [rdC_i2]; decide)) hrf (cf_mk hl0 hnn))
  have hown := own_eq (S := (rdR t qr2 qr3 qr4 qr5 qr6 qr7 qr8 qr9 qr10 qr11 qr12 qr13 qr14 qr15 qr16 0 qi22 (nI e) (nI (τ - 2)) (nI a) x26 qi27 (nI N) (nI ds.length) (nI (up σ ps (k :: w)).length) jr ql0 ql1 ql2 ql3)) hG hU rfl rfl rfl
  obtain ⟨v1, v2, v3, v4, v5, v6⟩ := hG
  obtain ⟨n4, n0, n1⟩ := tau_ne v1
  have hC : m83 (sym (ck (nK (σ k))) (nS (σ k))) (rdC s z g nn ((nI (k + d + 1) :: ns d F w).reverse) ((nI (nS (σ k) + 1) :: ss σ w).reverse) ((ls σ (k :: w) lv).reverse) 0 i3 (nI e) (nI τ) (nI a) x7 (nI c) i9 (-1) (nI (up σ ps (k :: w)).length) j l0 false) = m95 (rdC s z g nn ((nI (k + d + 1) :: ns d F w).reverse) ((nI (nS (σ k) + 1) :: ss σ w).reverse) ((ls σ (k :: w) lv).reverse) 0 i3 (nI e) (nI τ) (nI a) x7 (nI c) i9 (-1) (nI (up σ ps (k :: w)).length) j l0 false) := by rw [hsy, m83_70]
  have hM := m168_go (ww := nI 9) (by omega) h15 h16 dt1 dt2 (by decide) h150
  rw [rdR_i21, if_pos (show (0 : Int32) ≤ 0 by decide), if_neg (by decide), if_neg (by decide), if_neg (by decide), if_neg (by decide), if_neg (by decide), if_neg (by decide), hown, bs] at hM
  obtain ⟨c1a, c1b, c2, c3, c4, c5, c6, c7, c8, c9, c10, c11, c12, c13, c14, c15⟩ := kc_tbl _ so23 t1
  by_cases y : τ = 4 ∧ c = 0
  · obtain ⟨rfl, rfl⟩ := y
    obtain ⟨ej, ej0, ejn⟩ := v4 rfl
    subst ej
    rw [decide_eq_true ⟨rfl, rfl⟩, m158_t n4, bs, if_pos rfl, m171_eq (k := k) (by omega) h11 g2, bs] at hM
    rw [show nI 4 = (4 : Int32) from rfl, show nI 0 = (0 : Int32) from rfl] at hC hm81
    have hnsl : (ns d F w).length < 2 ^ 31 := by unfold ns; rw [List.length_append, List.length_map, List.length_singleton]; omega
    rw [m95_yes hz, xsTop_r hnsl, xsSet_n (by omega)] at hC
    have hL := lc_tok (x := x) (by omega) (by rw [rdC_z4]) (by rw [rdC_i2]) e78 hn66 hn85 hn42 hm81 hC
    have ob := (wf.2.1 k kN).1
    have wf2 : WF 0 T (fu σ k (uA (σ k) (nS (σ k) + 1) j (nI a))) N (k :: w) ps d := wf_adv wf rfl rfl rfl rfl ⟨ob.1, ob.2.1, fun _ => ej0, fun q => absurd (c4.symm.trans q) (by decide), fun q => by
      have q' : ng (nK (σ k)) (nS (σ k) + 1) = true := q
      rw [t2] at q'
      exact absurd (c11.symm.trans q') (by decide), ob.2.2.2.2.2.1, fun _ => ⟨ejn, fun q => absurd (c2.symm.trans q) (by decide)⟩⟩ (fun q => absurd (t1.symm.trans q) (by decide)) (by
        show so (nK (σ k)) (nS (σ k) + 1) = true
        rw [t2]
        exact c8) (fun i _ => by rw [(kc_bpc t1 so23).1]; rfl) (by
        show (nC (σ k) ++ bnl (bnc (nK (σ k)) (nS (σ k) + 1)) j (nB (σ k))).length ≤ 24
        rw [t2, c1b, show bnl 0 j (nB (σ k)) = [] from rfl, List.append_nil]
        exact ob.2.1)
    have epd : pd (fu σ k (uA (σ k) (nS (σ k) + 1) j (nI a))) (k :: w) = pd σ (k :: w) := by
      rw [pd_top (fu_s _ _ _) (fun j hj => fu_n (hwk j hj))]
      show bu (nK (σ k)) (nS (σ k) + 1) + pd σ w = bu (nK (σ k)) (nS (σ k)) + pd σ w
      rw [t2, c5, c6]
    have us := upd_set (g := g) (a := 2) (c := k + d + 1) (x := nI a) (Or.inl rfl)
    have ca2 : CA (fu σ k (uA (σ k) (nS (σ k) + 1) j (nI a))) N d F gg (bUp g 2 ((g 2).set (k + d + 1) (nI a))) := by
      refine ca_upd ca dm kN hkF kD rfl rfl rfl rfl us.1 us.2 so3 (fun _ => ?_) (fun q => ?_)
      · rw [bUp_if, if_pos rfl, getD_setn (by rw [ca.2.1 2 (by omega)]; omega), if_pos rfl]
        rfl
      · have q' : nS (σ k) + 1 = 100 := q
        omega
    refine Or.inr ⟨_, _, x + 1, e, k :: w, fu σ k (uA (σ k) (nS (σ k) + 1) j (nI a)), N, hLR _ hM, hL, inv_adv (v := uA (σ k) (nS (σ k) + 1) j (nI a)) (cur := up σ ps (k :: w)) hi3 hwk wf2 dm rfl rfl rfl rfl ca2 (ra_A ra kN (by omega) h11 g2) hds dt3 (by
      show nC (σ k) ++ bnl (bnc (nK (σ k)) (nS (σ k) + 1)) j (nB (σ k)) = nC (σ k) ++ bnl (bnc (nK (σ k)) (nS (σ k))) (nA (σ k)) (nB (σ k))
      rw [t2, c1b, c1a]
      rfl) hl0 hcur h8 h9 h10 (by (try simp only [List.length_set]); first | assumption | omega) h12 h13 h14 (by (try simp only [List.length_set]); first | assumption | omega) g3 h15 h16 hFw hFN (by omega) p3 (by omega) rt, ?_, ?_⟩
    · rw [epd]; omega
    · rw [epd]; omega
  · rw [decide_eq_false y, m158_f n4, bs, if_neg ff] at hM
    rw [m95_no (by rw [eqL_4 (by omega), eqL_0 (by omega)]; exact y)] at hC
    exact Or.inl (hfl _ hM (rf_mk (by (try simp only [List.length_set]); first | assumption | omega) (by (try simp only [List.length_set]); first | assumption | omega) (by (try simp only [List.length_set]); first | assumption | omega) (by (try simp only [List.length_set]); first | assumption | omega) (by (try simp only [List.length_set]); first | assumption | omega) (by (try simp only [List.length_set]); first | assumption | omega) (by (try simp only [List.length_set]); first | assumption | omega) (by (try simp only [List.length_set]); first | assumption | omega) (by (try simp only [List.length_set]); first | assumption | omega) (by (try simp only [List.length_set]); first | assumption | omega) (by (try simp only [List.length_set]); first | assumption | omega) (by (try simp only [List.length_set]); first | assumption | omega) (by (try simp only [List.length_set]); first | assumption | omega) (by (try simp only [List.length_set]); first | assumption | omega) (by (try simp only [List.length_set]); first | assumption | omega) (by (try simp only [List.length_set]); first | assumption | omega) (by (try simp only [List.length_set]); first | assumption | omega) (by (try simp only [List.length_set]); first | assumption | omega) (by (try simp only [List.length_set]); first | assumption | omega)) hC)
/-- the name of a let -/
theorem stp_X {l : Nat} (h : TR T U n) (hT : gR s 0 = T) (hU : gR t 1 = U) (hn : gI t 20 = nI n) (hz : gZ s 3 = z) (hn4 : n ≤ 4088) (hnn : nn.length = 64) (a2 : qr2.length = 64) (a3 : qr3.length = 64) (a4 : qr4.length = 64) (a5 : qr5.length = 64) (a6 : qr6.length = 64) (a7 : qr7.length = 512) (b0 : ql0.length = 64) (b1 : ql1.length = 512) (hy : y < 900000) (hx : x + pd σ (k :: w) ≤ 3 * p) (hI : InvE T n d F ps lv s t z gg nn qr2 qr3 qr4 qr5 qr6 qr7 qi27 ql0 ql1 σ0 p (k :: w) σ N C R) (hrem : rem (nK (σ k)) (nS (σ k)) = [5, l, 8, 3]) (hrem2 : rem (nK (σ k)) (nS (σ k) + 1) = [1, 10, l, 8, 3]) (hsy : sym (ck (nK (σ k))) (nS (σ k)) = 88) (t1 : kl (nK (σ k)) = true) (t3 : so (nK (σ k)) (nS (σ k) + 1) = true) (t4 : ct (nK (σ k)) (nS (σ k) + 1) = ct (nK (σ k)) (nS (σ k))) (t5 : bnc (nK (σ k)) (nS (σ k) + 1) = 0) (t6 : bnc (nK (σ k)) (nS (σ k)) = 0) (t7 : bu (nK (σ k)) (nS (σ k) + 1) = bu (nK (σ k)) (nS (σ k))) (t8 : ct (nK (σ k)) (nS (σ k)) = 0) (t9 : ng (nK (σ k)) (nS (σ k) + 1) = false) : Flt s t z (LR y R) (LC x C) ∨ ∃ (R2 C2 : xSt) (x2 p2 : Nat) (w2 : List Nat) (σ2 : Nat → Nd) (N2 : Nat), LR y R = LR (y + 1) R2 ∧ LC x C = LC x2 C2 ∧ InvE T n d F ps lv s t z gg nn qr2 qr3 qr4 qr5 qr6 qr7 qi27 ql0 ql1 σ0 p2 w2 σ2 N2 C2 R2 ∧ x2 + pd σ2 w2 ≤ 3 * p2 ∧ 3 * (n - p2) + pd σ2 w2 < 3 * (n - p) + pd σ (k :: w) := by
  obtain ⟨g, i3, i5, i6, i7, i8, i9, j0, l0, qr8, qr9, qr10, qr11, qr12, qr13, qr14, qr15, qr16, qi22, qi24, qi25, qi26, qj0, ql2, ql3, rfl, rfl, ⟨wf, dm, ca, ra, dt⟩, ⟨⟨hl0, hi3⟩, hcur⟩, ⟨h8, h9, h10, h11, h12, h13, h14, g2, g3, h15, h16⟩, hFw, ⟨hFN, hNp, hpn, hwp⟩, rt⟩ := hI
  obtain ⟨⟨kN, kP, kC, kso, kD⟩, kw, kch⟩ := wf.2.2.2.1
  obtain ⟨so3, so23, so9⟩ := so_lt kso
  have hkF : F ≤ k := hFw k List.mem_cons_self
  have hwl : w.length < 2044 := by rw [List.length_cons] at hwp; omega
  have hk0 : xsAt (g 0) (nI (k + d + 1)) = nI (ck (nK (σ k))) := by rw [xsAt_n (by omega)]; have e0 := (ca.2.2.2 k kN).1; rw [kD] at e0; exact e0
  have hdl := du_len σ w
  have hx9 : x < 900000 := by omega
  have hm24 : (up σ ps (k :: w)).length ≤ 24 := wf.2.2.2.2.2
  have hwk : ∀ j ∈ w, ¬ j = k := fun j hj e => by have := kw j hj; omega
  have hwN : ∀ j ∈ w, j < N := ch_lt kch
  have hck : ck (nK (σ k)) < 100 := ck_lt24 _ so23
  rw [show ns d F (k :: w) = nI (k + d + 1) :: ns d F w from rfl, show ss σ (k :: w) = nI (nS (σ k)) :: ss σ w from rfl]
  have e78 := m78_eq (s := s) (z := z) (g := g) (nn := nn) (r3 := (ls σ (k :: w) lv).reverse) (i2 := 0) (i3 := i3) (i4 := nI p) (i5 := i5) (i6 := i6) (i7 := i7) (i8 := i8) (i9 := i9) (i11 := nI (up σ ps (k :: w)).length) (j0 := j0) (l0 := l0) (z4 := false) (ns := ns d F w) (ss := ss σ w) (c := k + d + 1) (κ := ck (nK (σ k))) (sp := nS (σ k)) (hz := hz) hck hk0 (by unfold ns; rw [List.length_append, List.length_map, List.length_singleton]; omega) (by unfold ss; rw [List.length_append, List.length_map, List.length_singleton]; omega) (by omega)
  have hn66 : sym (ck (nK (σ k))) (nS (σ k)) ≠ 66 := by rw [hsy]; decide
  have hn85 : sym (ck (nK (σ k))) (nS (σ k)) ≠ 85 := by rw [hsy]; decide
  have hn65 : sym (ck (nK (σ k))) (nS (σ k)) ≠ 65 := by rw [hsy]; decide
  have hn42 : sym (ck (nK (σ k))) (nS (σ k)) ≠ 42 := by rw [hsy]; decide
  have edu : du σ (k :: w) = (5, nI k) :: ((([l, 8, 3]).map fun x => (x, nI k)) ++ du σ w) := by
    show ((rem (nK (σ k)) (nS (σ k))).map fun x => (x, nI k)) ++ du σ w = _
    rw [hrem]
    rfl
  have hrl : ([l, 8, 3]).length ≤ 9 := (by simp only [List.length_cons, List.length_nil]; omega)
  have hDl : ((([l, 8, 3]).map fun x => (x, nI k)) ++ du σ w).length < 30000 := by
    rw [List.length_append, List.length_map]
    omega
  rw [edu] at dt
  obtain ⟨dt1, dt2, dt3⟩ := dt
  rw [show (du σ (k :: w)).length = ((([l, 8, 3]).map fun x => (x, nI k)) ++ du σ w).length + 1 by rw [edu, List.length_cons]]
  generalize hds : (([l, 8, 3]).map fun x => (x, nI k)) ++ du σ w = ds at *
  rcases step_tok (s := s) (z := z) (g := g) (nn := nn) (r1 := (nI (k + d + 1) :: ns d F w).reverse) (r2 := (nI (nS (σ k) + 1) :: ss σ w).reverse) (r3 := (ls σ (k :: w) lv).reverse) (i3 := i3) (i5 := i5) (i6 := i6) (i7 := i7) (i8 := i8) (i9 := i9) (i10 := -1) (i11 := nI (up σ ps (k :: w)).length) (j0 := j0) (l0 := l0) (t := t) (qr2 := qr2) (qr3 := qr3) (qr4 := qr4) (qr5 := qr5) (qr6 := qr6) (qr7 := qr7) (qr8 := qr8) (qr9 := qr9) (qr10 := qr10) (qr11 := qr11) (qr12 := qr12) (qr13 := qr13) (qr14 := qr14) (qr15 := qr15) (qr16 := qr16) (qi22 := qi22) (qi24 := qi24) (qi25 := qi25) (qi26 := qi26) (qi27 := qi27) (qi28 := nI N) (qi30 := nI (up σ ps (k :: w)).length) (qj0 := qj0) (ql0 := ql0) (ql1 := ql1) (ql2 := ql2) (ql3 := ql3) (x := x) (y := y) (D := ds.length) (p := p) (w := 5) h hT hU hn hx9 hy hpn hl0 hnn (by omega) h15 h16 dt1 dt2 (by omega) a2 a3 a4 a5 a6 a7 b0 b1 h8 h9 h10 h11 h12 h13 h14 g2 g3 (by rw [rdC_z4]) (by rw [rdC_i2]) e78 hn66 hn85 hn65 with hf | ⟨a, e, τ, c, x7, x26, j, jr, p1, p2, p3, hG, hm81, h150⟩
  · exact Or.inl hf
  have hLR : ∀ q, m168 (rdR t qr2 qr3 qr4 qr5 qr6 qr7 qr8 qr9 qr10 qr11 qr12 qr13 qr14 qr15 qr16 0 qi22 (nI p) qi24 qi25 qi26 qi27 (nI N) (nI (ds.length + 1)) (nI (up σ ps (k :: w)).length) qj0 ql0 ql1 ql2 ql3) = some q → LR y (rdR t qr2 qr3 qr4 qr5 qr6 qr7 qr8 qr9 qr10 qr11 qr12 qr13 qr14 qr15 qr16 0 qi22 (nI p) qi24 qi25 qi26 qi27 (nI N) (nI (ds.length + 1)) (nI (up σ ps (k :: w)).length) qj0 ql0 ql1 ql2 ql3) = LR (y + 1) q := fun q hq => lr_step (by omega) (by omega) h15 dt1 (by decide) hq
  have hfl : ∀ q, m168 (rdR t qr2 qr3 qr4 qr5 qr6 qr7 qr8 qr9 qr10 qr11 qr12 qr13 qr14 qr15 qr16 0 qi22 (nI p) qi24 qi25 qi26 qi27 (nI N) (nI (ds.length + 1)) (nI (up σ ps (k :: w)).length) qj0 ql0 ql1 ql2 ql3) = some q → RF t 2 (nI a) q → m83 (sym (ck (nK (σ k))) (nS (σ k))) (rdC s z g nn ((nI (k + d + 1) :: ns d F w).reverse) ((nI (nS (σ k) + 1) :: ss σ w).reverse) ((ls σ (k :: w) lv).reverse) 0 i3 (nI e) (nI τ) (nI a) x7 (nI c) i9 (-1) (nI (up σ ps (k :: w)).length) j l0 false) = some (rdC s z g nn ((nI (k + d + 1) :: ns d F w).reverse) ((nI (nS (σ k) + 1) :: ss σ w).reverse) ((ls σ (k :: w) lv).reverse) 2 (nI a) (nI e) (nI τ) (nI a) x7 (nI c) i9 (-1) (nI (up σ ps (k :: w)).length) j l0 false) → Flt s t z (LR y (rdR t qr2 qr3 qr4 qr5 qr6 qr7 qr8 qr9 qr10 qr11 qr12 qr13 qr14 qr15 qr16 0 qi22 (nI p) qi24 qi25 qi26 qi27 (nI N) (nI (ds.length + 1)) (nI (up σ ps (k :: w)).length) qj0 ql0 ql1 ql2 ql3)) (LC x (rdC s z g nn ((nI (k + d + 1) :: ns d F w).reverse) ((nI (nS (σ k)) :: ss σ w).reverse) ((ls σ (k :: w) lv).reverse) 0 i3 (nI p) i5 i6 i7 i8 i9 (-1) (nI (up σ ps (k :: w)).length) j0 l0 false)) := fun q hr hrf hc => flt_lr hy hLR (flt_mk (Or.inr (Or.inl rfl)) hr (lc_f2 (by omega) (by rw [rdC_z4]) (by rw [rdC_i2]) e78 hn66 hn85 hn42 hm81 hc (by rw [rdC_i2]; decide)) hrf (cf_mk hl0 hnn))
  have hown := own_eq (S := (rdR t qr2 qr3 qr4 qr5 qr6 qr7 qr8 qr9 qr10 qr11 qr12 qr13 qr14 qr15 qr16 0 qi22 (nI e) (nI (τ - 2)) (nI a) x26 qi27 (nI N) (nI ds.length) (nI (up σ ps (k :: w)).length) jr ql0 ql1 ql2 ql3)) hG hU rfl rfl rfl
  obtain ⟨v1, v2, v3, v4, v5, v6⟩ := hG
  obtain ⟨n4, n0, n1⟩ := tau_ne v1
  have hC : m83 (sym (ck (nK (σ k))) (nS (σ k))) (rdC s z g nn ((nI (k + d + 1) :: ns d F w).reverse) ((nI (nS (σ k) + 1) :: ss σ w).reverse) ((ls σ (k :: w) lv).reverse) 0 i3 (nI e) (nI τ) (nI a) x7 (nI c) i9 (-1) (nI (up σ ps (k :: w)).length) j l0 false) = m98 88 (rdC s z g nn ((nI (k + d + 1) :: ns d F w).reverse) ((nI (nS (σ k) + 1) :: ss σ w).reverse) ((ls σ (k :: w) lv).reverse) 0 i3 (nI e) (nI τ) (nI a) x7 (nI c) i9 (-1) (nI (up σ ps (k :: w)).length) j l0 false) := by rw [hsy, m83_v (by simp)]
  have hM := m168_go (ww := nI 5) (by omega) h15 h16 dt1 dt2 (by decide) h150
  rw [rdR_i21, if_pos (show (0 : Int32) ≤ 0 by decide), if_neg (by decide), if_neg (by decide), if_neg (by decide), if_pos (by decide), hown, bs] at hM
  have ob := (wf.2.1 k kN).1
  have hkk : nK (σ k) = 11 ∨ nK (σ k) = 21 := by
    unfold kl at t1
    rw [Bool.or_eq_true, beq_iff_eq, beq_iff_eq] at t1
    exact t1
  have hkz : kz (nK (σ k)) = false ∧ hf (nK (σ k)) = true ∧ kc (nK (σ k)) = false := by rcases hkk with e1 | e1 <;> (rw [e1]; decide)
  have hup : up σ ps (k :: w) = nC (σ k) := by
    show nC (σ k) ++ bnl (bnc (nK (σ k)) (nS (σ k))) (nA (σ k)) (nB (σ k)) = _
    rw [t6]
    exact List.append_nil _
  by_cases y : τ = 4 ∧ c = 0
  · obtain ⟨rfl, rfl⟩ := y
    obtain ⟨ej, ej0, ejn⟩ := v4 rfl
    subst ej
    rw [decide_eq_true ⟨rfl, rfl⟩, m158_t n4, bs, if_pos rfl, m171_eq (k := k) (by omega) h11 g2, bs, rdR_r8, xsGet_d (by omega) (by omega), bs, bs, (ra k kN).1] at hM
    have hM2 : m168 (rdR t qr2 qr3 qr4 qr5 qr6 qr7 qr8 qr9 qr10 qr11 qr12 qr13 qr14 qr15 qr16 0 qi22 (nI p) qi24 qi25 qi26 qi27 (nI N) (nI (ds.length + 1)) (nI (up σ ps (k :: w)).length) qj0 ql0 ql1 ql2 ql3) = m173 (nI k) (rdR t qr2 qr3 qr4 qr5 qr6 qr7 qr8 qr9 qr10 (qr11.set k (nI a)) qr12 qr13 qr14 qr15 qr16 0 qi22 (nI e) (nI (4 - 2)) (nI a) x26 qi27 (nI N) (nI ds.length) (nI (up σ ps (k :: w)).length) j ql0 ql1 (ql2.set k j) ql3) := by
      rw [hM]
      unfold m168_225
      rcases hkk with e1 | e1
      · rw [e1, if_pos (by decide)]
        exact bind_id _
      · rw [e1, if_neg (by decide), if_pos (by decide)]
        exact bind_id _
    rw [show nI 4 = (4 : Int32) from rfl, show nI 0 = (0 : Int32) from rfl] at hC hm81
    by_cases hm : (up σ ps (k :: w)).length < 24
    · have hnsl : (ns d F w).length < 2 ^ 31 := by unfold ns; rw [List.length_append, List.length_map, List.length_singleton]; omega
      rw [m98_X hz hl0 hm, xsTop_r hnsl, xsSet_n (by omega)] at hC
      have hL := lc_tok (x := x) (by omega) (by rw [rdC_z4]) (by rw [rdC_i2]) e78 hn66 hn85 hn42 hm81 hC
      have hM3 : m168 (rdR t qr2 qr3 qr4 qr5 qr6 qr7 qr8 qr9 qr10 qr11 qr12 qr13 qr14 qr15 qr16 0 qi22 (nI p) qi24 qi25 qi26 qi27 (nI N) (nI (ds.length + 1)) (nI (up σ ps (k :: w)).length) qj0 ql0 ql1 ql2 ql3) = some (rdR t qr2 qr3 qr4 qr5 qr6 qr7 qr8 qr9 qr10 (qr11.set k (nI a)) qr12 qr13 qr14 ((qr15.set ds.length (nI 10)).set (ds.length + 1) (nI 1)) ((qr16.set ds.length (nI k)).set (ds.length + 1) (nI k)) 0 qi22 (nI e) (nI (4 - 2)) (nI a) x26 qi27 (nI N) (nI (ds.length + 1 + 1)) (nI (up σ ps (k :: w)).length) j ql0 ql1 (ql2.set k j) ql3) := by
        rw [hM2]
        unfold m173 m173_15
        rw [rdR_i30, if_neg (by rw [geL_24 (by omega)]; omega), m158_t n4, bs, if_pos rfl, show (10 : Int32) = nI 10 from rfl, m167_eq (by decide) (nI k) (by omega) h15 h16, bs, show (1 : Int32) = nI 1 from rfl, m167_eq (by decide) (nI k) (by omega) (by rw [List.length_set]; exact h15) (by rw [List.length_set]; exact h16), bs]
      have wf2 : WF 0 T (fu σ k (uA (σ k) (nS (σ k) + 1) j (nI a))) N (k :: w) ps d := wf_adv wf rfl rfl rfl rfl ⟨ob.1, ob.2.1, fun _ => ej0, fun q => absurd (hkz.2.1.symm.trans q) (by decide), fun q => absurd (t9.symm.trans q) (by decide), ob.2.2.2.2.2.1, fun _ => ⟨ejn, fun _ => by
        show (nC (σ k)).length < 24
        rw [← hup]
        exact hm⟩⟩ (fun _ => t4) t3 (fun i hi => by
          have e0 := (wf.2.1 k kN).2.2 hkz.2.2
          rw [ite_self] at e0
          omega) (by
          show (nC (σ k) ++ bnl (bnc (nK (σ k)) (nS (σ k) + 1)) j (nB (σ k))).length ≤ 24
          rw [t5, show bnl 0 j (nB (σ k)) = [] from rfl, List.append_nil]
          exact ob.2.1)
      have epd : pd (fu σ k (uA (σ k) (nS (σ k) + 1) j (nI a))) (k :: w) = pd σ (k :: w) := by
        rw [pd_top (fu_s _ _ _) (fun j hj => fu_n (hwk j hj))]
        show bu (nK (σ k)) (nS (σ k) + 1) + pd σ w = bu (nK (σ k)) (nS (σ k)) + pd σ w
        rw [t7]
      have us := upd_set (g := g) (a := 2) (c := k + d + 1) (x := nI a) (Or.inl rfl)
      have ca2 : CA (fu σ k (uA (σ k) (nS (σ k) + 1) j (nI a))) N d F gg (bUp g 2 ((g 2).set (k + d + 1) (nI a))) := by
        refine ca_upd ca dm kN hkF kD rfl rfl rfl rfl us.1 us.2 so3 (fun _ => ?_) (fun q => ?_)
        · rw [bUp_if, if_pos rfl, getD_setn (by rw [ca.2.1 2 (by omega)]; omega), if_pos rfl]
          rfl
        · have q' : nS (σ k) + 1 = 100 := q
          omega
      have dt4 : dat ((1, nI k) :: (10, nI k) :: ds) ((qr15.set ds.length (nI 10)).set (ds.length + 1) (nI 1)) ((qr16.set ds.length (nI k)).set (ds.length + 1) (nI k)) := dat_push (ds := (10, nI k) :: ds) (dat_push dt3 (by omega) (by omega)) (by rw [List.length_set, List.length_cons]; omega) (by rw [List.length_set, List.length_cons]; omega)
      refine Or.inr ⟨_, _, x + 1, e, k :: w, fu σ k (uA (σ k) (nS (σ k) + 1) j (nI a)), N, hLR _ hM3, hL, inv_adv (v := uA (σ k) (nS (σ k) + 1) j (nI a)) (cur := up σ ps (k :: w)) (ds := (1, nI k) :: (10, nI k) :: ds) hi3 hwk wf2 dm rfl rfl rfl rfl ca2 (ra_A ra kN (by omega) h11 g2) (by
        show ((rem (nK (σ k)) (nS (σ k) + 1)).map fun x => (x, nI k)) ++ du σ w = _
        rw [hrem2, ← hds]
        rfl) dt4 (by
        show nC (σ k) ++ bnl (bnc (nK (σ k)) (nS (σ k) + 1)) j (nB (σ k)) = _
        rw [hup, t5]
        exact List.append_nil _) hl0 hcur h8 h9 h10 (by (try simp only [List.length_set]); first | assumption | omega) h12 h13 h14 (by (try simp only [List.length_set]); first | assumption | omega) g3 (by (try simp only [List.length_set]); first | assumption | omega) (by (try simp only [List.length_set]); first | assumption | omega) hFw hFN (by omega) p3 (by omega) rt, ?_, ?_⟩
      · rw [epd]; omega
      · rw [epd]; omega
    · have hm' : (up σ ps (k :: w)).length = 24 := by omega
      have hM3 : m168 (rdR t qr2 qr3 qr4 qr5 qr6 qr7 qr8 qr9 qr10 qr11 qr12 qr13 qr14 qr15 qr16 0 qi22 (nI p) qi24 qi25 qi26 qi27 (nI N) (nI (ds.length + 1)) (nI (up σ ps (k :: w)).length) qj0 ql0 ql1 ql2 ql3) = some (rdR t qr2 qr3 qr4 qr5 qr6 qr7 qr8 qr9 qr10 (qr11.set k (nI a)) qr12 qr13 qr14 qr15 qr16 2 (nI a) (nI e) (nI (4 - 2)) (nI a) x26 qi27 (nI N) (nI ds.length) (nI (up σ ps (k :: w)).length) j ql0 ql1 (ql2.set k j) ql3) := by
        rw [hM2]
        unfold m173 m173_15
        rw [rdR_i30, if_pos (by rw [geL_24 (by omega)]; omega), m158_f n4, bs, if_neg ff]
      rw [hm', m98_full] at hC
      rw [hm'] at hfl hM3
      exact Or.inl (by rw [hm']; exact hfl _ hM3 (rf_mk (by (try simp only [List.length_set]); first | assumption | omega) (by (try simp only [List.length_set]); first | assumption | omega) (by (try simp only [List.length_set]); first | assumption | omega) (by (try simp only [List.length_set]); first | assumption | omega) (by (try simp only [List.length_set]); first | assumption | omega) (by (try simp only [List.length_set]); first | assumption | omega) (by (try simp only [List.length_set]); first | assumption | omega) (by (try simp only [List.length_set]); first | assumption | omega) (by (try simp only [List.length_set]); first | assumption | omega) (by (try simp only [List.length_set]); first | assumption | omega) (by (try simp only [List.length_set]); first | assumption | omega) (by (try simp only [List.length_set]); first | assumption | omega) (by (try simp only [List.length_set]); first | assumption | omega) (by (try simp only [List.length_set]); first | assumption | omega) (by (try simp only [List.length_set]); first | assumption | omega) (by (try simp only [List.length_set]); first | assumption | omega) (by (try simp only [List.length_set]); first | assumption | omega) (by (try simp only [List.length_set]); first | assumption | omega) (by (try simp only [List.length_set]); first | assumption | omega)) hC)
  · rw [decide_eq_false y, m158_f n4, bs, if_neg ff] at hM
    rw [m98_no (by rw [eqL_4 (by omega), eqL_0 (by omega)]; exact y)] at hC
    exact Or.inl (hfl _ hM (rf_mk (by (try simp only [List.length_set]); first | assumption | omega) (by (try simp only [List.length_set]); first | assumption | omega) (by (try simp only [List.length_set]); first | assumption | omega) (by (try simp only [List.length_set]); first | assumption | omega) (by (try simp only [List.length_set]); first | assumption | omega) (by (try simp only [List.length_set]); first | assumption | omega) (by (try simp only [List.length_set]); first | assumption | omega) (by (try simp only [List.length_set]); first | assumption | omega) (by (try simp only [List.length_set]); first | assumption | omega) (by (try simp only [List.length_set]); first | assumption | omega) (by (try simp only [List.length_set]); first | assumption | omega) (by (try simp only [List.length_set]); first | assumption | omega) (by (try simp only [List.length_set]); first | assumption | omega) (by (try simp only [List.length_set]); first | assumption | omega) (by (try simp only [List.length_set]); first | assumption | omega) (by (try simp only [List.length_set]); first | assumption | omega) (by (try simp only [List.length_set]); first | assumption | omega) (by (try simp only [List.length_set]); first | assumption | omega) (by (try simp only [List.length_set]); first | assumption | omega)) hC)
end StepN
