/-! steps that bind a variable at once -/
section StepV
variable {T U : List Int32} {n p N D x y d F k : Nat} {w : List Nat} {σ σ0 : Nat → Nd} {v nd : Nd} {ps : List Int64} {lv : Int32} {C R : xSt} {gg : Nat → List Int32} {s t : xSt} {z : Bool} {nn : List Int64} {qr2 qr3 qr4 qr5 qr6 qr7 : List Int32} {qi27 : Int32} {ql0 ql1 : List Int64}
theorem lix_lt (l : List Int64) (y : Int64) : ∀ m, lix l y m = -1 ∨ ∃ i, i < m ∧ lix l y m = nI i := by
  intro m
  induction m with
  | zero => exact Or.inl rfl
  | succ m ih =>
    by_cases c : l.getD m 0 = y
    · refine Or.inr ⟨m, by omega, ?_⟩
      show (if l.getD m 0 = y then nI m else lix l y m) = _
      rw [if_pos c]
    · have e : lix l y (m + 1) = lix l y m := by
        show (if l.getD m 0 = y then nI m else lix l y m) = _
        rw [if_neg c]
      rw [e]
      rcases ih with h | ⟨i, h1, h2⟩
      · exact Or.inl h
      · exact Or.inr ⟨i, by omega, h2⟩
theorem lix_top {l : List Int64} {y : Int64} {m : Nat} (hm : m < 1000) : (lix l y (m + 1) = nI (m + 1) - 1) = (l.getD m 0 = y) := by
  rw [nI_pred]
  refine propext ⟨fun h => ?_, fun h => ?_⟩
  · by_cases c : l.getD m 0 = y
    · exact c
    · exfalso
      have e : lix l y (m + 1) = lix l y m := by
        show (if l.getD m 0 = y then nI m else lix l y m) = _
        rw [if_neg c]
      rw [e] at h
      rcases lix_lt l y m with h1 | ⟨i, h1, h2⟩
      · rw [h1] at h
        have h3 := nI_pos (n := m) (by omega)
        rw [← h] at h3
        exact h3 (by decide)
      · rw [h2, eqN (by omega) (by omega)] at h
        omega
  · show (if l.getD m 0 = y then nI m else lix l y m) = _
    rw [if_pos h]
theorem stp_V (h : TR T U n) (hT : gR s 0 = T) (hU : gR t 1 = U) (hn : gI t 20 = nI n) (hz : gZ s 3 = z) (hn4 : n ≤ 4088) (hnn : nn.length = 64) (a2 : qr2.length = 64) (a3 : qr3.length = 64) (a4 : qr4.length = 64) (a5 : qr5.length = 64) (a6 : qr6.length = 64) (a7 : qr7.length = 512) (b0 : ql0.length = 64) (b1 : ql1.length = 512) (hy : y < 900000) (hx : x + pd σ (k :: w) ≤ 3 * p) (hI : InvE T n d F ps lv s t z gg nn qr2 qr3 qr4 qr5 qr6 qr7 qi27 ql0 ql1 σ0 p (k :: w) σ N C R) (hrem : rem (nK (σ k)) (nS (σ k)) = 5 :: rem (nK (σ k)) (nS (σ k) + 1)) (hsy : sym (ck (nK (σ k))) (nS (σ k)) = 86) (t1 : kl (nK (σ k)) = false) (t3 : so (nK (σ k)) (nS (σ k) + 1) = true) (t4 : ct (nK (σ k)) (nS (σ k) + 1) = ct (nK (σ k)) (nS (σ k))) (t5 : bnc (nK (σ k)) (nS (σ k) + 1) = 1) (t6 : bnc (nK (σ k)) (nS (σ k)) = 0) (t7 : bu (nK (σ k)) (nS (σ k) + 1) = bu (nK (σ k)) (nS (σ k))) (t8a : ct (nK (σ k)) (nS (σ k)) ≤ 2) (t8b : bpc (nK (σ k)) 0 = 0) (t8c : 1 < ct (nK (σ k)) (nS (σ k)) → bpc (nK (σ k)) 1 = 0) (t10 : kc (nK (σ k)) = false) (t11 : hf (nK (σ k)) = true) (t9 : ng (nK (σ k)) (nS (σ k) + 1) = false) (t12 : nq (nK (σ k)) (nS (σ k) + 1) = false) : Flt s t z (LR y R) (LC x C) ∨ ∃ (R2 C2 : xSt) (x2 p2 : Nat) (w2 : List Nat) (σ2 : Nat → Nd) (N2 : Nat), LR y R = LR (y + 1) R2 ∧ LC x C = LC x2 C2 ∧ InvE T n d F ps lv s t z gg nn qr2 qr3 qr4 qr5 qr6 qr7 qi27 ql0 ql1 σ0 p2 w2 σ2 N2 C2 R2 ∧ x2 + pd σ2 w2 ≤ 3 * p2 ∧ 3 * (n - p2) + pd σ2 w2 < 3 * (n - p) + pd σ (k :: w) := by
  have t8 : ∀ i, i < ct (nK (σ k)) (nS (σ k)) → bpc (nK (σ k)) i = 0 := fun i hi => by
    have hh : i = 0 ∨ i = 1 := by omega
    rcases hh with rfl | rfl
    · exact t8b
    · exact t8c hi
  obtain ⟨g, i3, i5, i6, i7, i8, i9, j0, l0, qr8, qr9, qr10, qr11, qr12, qr13, qr14, qr15, qr16, qi22, qi24, qi25, qi26, qj0, ql2, ql3, rfl, rfl, ⟨wf, dm, ca, ra, dt⟩, ⟨⟨hl0, hi3⟩, hcur⟩, ⟨h8, h9, h10, h11, h12, h13, h14, g2, g3, h15, h16⟩, hFw, ⟨hFN, hNp, hpn, hwp⟩, rt⟩ := hI
  obtain ⟨⟨kN, kP, kC, kso, kD⟩, kw, kch⟩ := wf.2.2.2.1
  obtain ⟨so3, so23, so9⟩ := so_lt kso
  have hkF : F ≤ k := hFw k List.mem_cons_self
  have hwl : w.length < 2044 := by rw [List.length_cons] at hwp; omega
  have hk0 : xsAt (g 0) (nI (k + d + 1)) = nI (ck (nK (σ k))) := by rw [xsAt_n (by omega)]; have e0 := (ca.2.2.2 k kN).1; rw [kD] at e0; exact e0
  have hdl := du_len σ w
  have hx9 : x < 900000 := by omega
  have hm24 : (up σ ps (k :: w)).length ≤ 24 := wf.2.2.2.2.2
  have hwk : ∀ j ∈ w, ¬ j = k := fun j hj e => by have := kw j hj; omega
  have hwN : ∀ j ∈ w, j < N := ch_lt kch
  have hck : ck (nK (σ k)) < 100 := ck_lt24 _ so23
  rw [show ns d F (k :: w) = nI (k + d + 1) :: ns d F w from rfl, show ss σ (k :: w) = nI (nS (σ k)) :: ss σ w from rfl]
  have e78 := m78_eq (s := s) (z := z) (g := g) (nn := nn) (r3 := (ls σ (k :: w) lv).reverse) (i2 := 0) (i3 := i3) (i4 := nI p) (i5 := i5) (i6 := i6) (i7 := i7) (i8 := i8) (i9 := i9) (i11 := nI (up σ ps (k :: w)).length) (j0 := j0) (l0 := l0) (z4 := false) (ns := ns d F w) (ss := ss σ w) (c := k + d + 1) (κ := ck (nK (σ k))) (sp := nS (σ k)) (hz := hz) hck hk0 (by unfold ns; rw [List.length_append, List.length_map, List.length_singleton]; omega) (by unfold ss; rw [List.length_append, List.length_map, List.length_singleton]; omega) (by omega)
  have hn66 : sym (ck (nK (σ k))) (nS (σ k)) ≠ 66 := by rw [hsy]; decide
  have hn85 : sym (ck (nK (σ k))) (nS (σ k)) ≠ 85 := by rw [hsy]; decide
  have hn65 : sym (ck (nK (σ k))) (nS (σ k)) ≠ 65 := by rw [hsy]; decide
  have hn42 : sym (ck (nK (σ k))) (nS (σ k)) ≠ 42 := by rw [hsy]; decide
  have edu : du σ (k :: w) = (5, nI k) :: (((rem (nK (σ k)) (nS (σ k) + 1)).map fun x => (x, nI k)) ++ du σ w) := by
    show ((rem (nK (σ k)) (nS (σ k))).map fun x => (x, nI k)) ++ du σ w = _
    rw [hrem]
    rfl
  have hrl : (rem (nK (σ k)) (nS (σ k) + 1)).length ≤ 9 := rem_len _ _
  have hDl : (((rem (nK (σ k)) (nS (σ k) + 1)).map fun x => (x, nI k)) ++ du σ w).length < 30000 := by
    rw [List.length_append, List.length_map]
    omega
  rw [edu] at dt
  obtain ⟨dt1, dt2, dt3⟩ := dt
  rw [show (du σ (k :: w)).length = (((rem (nK (σ k)) (nS (σ k) + 1)).map fun x => (x, nI k)) ++ du σ w).length + 1 by rw [edu, List.length_cons]]
  generalize hds : ((rem (nK (σ k)) (nS (σ k) + 1)).map fun x => (x, nI k)) ++ du σ w = ds at *
  rcases step_tok (s := s) (z := z) (g := g) (nn := nn) (r1 := (nI (k + d + 1) :: ns d F w).reverse) (r2 := (nI (nS (σ k) + 1) :: ss σ w).reverse) (r3 := (ls σ (k :: w) lv).reverse) (i3 := i3) (i5 := i5) (i6 := i6) (i7 := i7) (i8 := i8) (i9 := i9) (i10 := -1) (i11 := nI (up σ ps (k :: w)).length) (j0 := j0) (l0 := l0) (t := t) (qr2 := qr2) (qr3 := qr3) (qr4 := qr4) (qr5 := qr5) (qr6 := qr6) (qr7 := qr7) (qr8 := qr8) (qr9 := qr9) (qr10 := qr10) (qr11 := qr11) (qr12 := qr12) (qr13 := qr13) (qr14 := qr14) (qr15 := qr15) (qr16 := qr16) (qi22 := qi22) (qi24 := qi24) (qi25 := qi25) (qi26 := qi26) (qi27 := qi27) (qi28 := nI N) (qi30 := nI (up σ ps (k :: w)).length) (qj0 := qj0) (ql0 := ql0) (ql1 := ql1) (ql2 := ql2) (ql3 := ql3) (x := x) (y := y) (D := ds.length) (p := p) (w := 5) h hT hU hn hx9 hy hpn hl0 hnn (by omega) h15 h16 dt1 dt2 (by omega) a2 a3 a4 a5 a6 a7 b0 b1 h8 h9 h10 h11 h12 h13 h14 g2 g3 (by rw [rdC_z4]) (by rw [rdC_i2]) e78 hn66 hn85 hn65 with hf | ⟨a, e, τ, c, x7, x26, j, jr, p1, p2, p3, hG, hm81, h150⟩
  · exact Or.inl hf
  have hLR : ∀ q, m168 (rdR t qr2 qr3 qr4 qr5 qr6 qr7 qr8 qr9 qr10 qr11 qr12 qr13 qr14 qr15 qr16 0 qi22 (nI p) qi24 qi25 qi26 qi27 (nI N) (nI (ds.length + 1)) (nI (up σ ps (k :: w)).length) qj0 ql0 ql1 ql2 ql3) = some q → LR y (rdR t qr2 qr3 qr4 qr5 qr6 qr7 qr8 qr9 qr10 qr11 qr12 qr13 qr14 qr15 qr16 0 qi22 (nI p) qi24 qi25 qi26 qi27 (nI N) (nI (ds.length + 1)) (nI (up σ ps (k :: w)).length) qj0 ql0 ql1 ql2 ql3) = LR (y + 1) q := fun q hq => lr_step (by omega) (by omega) h15 dt1 (by decide) hq
  have hfl : ∀ q, m168 (rdR t qr2 qr3 qr4 qr5 qr6 qr7 qr8 qr9 qr10 qr11 qr12 qr13 qr14 qr15 qr16 0 qi22 (nI p) qi24 qi25 qi26 qi27 (nI N) (nI (ds.length + 1)) (nI (up σ ps (k :: w)).length) qj0 ql0 ql1 ql2 ql3) = some q → RF t 2 (nI a) q → m83 (sym (ck (nK (σ k))) (nS (σ k))) (rdC s z g nn ((nI (k + d + 1) :: ns d F w).reverse) ((nI (nS (σ k) + 1) :: ss σ w).reverse) ((ls σ (k :: w) lv).reverse) 0 i3 (nI e) (nI τ) (nI a) x7 (nI c) i9 (-1) (nI (up σ ps (k :: w)).length) j l0 false) = some (rdC s z g nn ((nI (k + d + 1) :: ns d F w).reverse) ((nI (nS (σ k) + 1) :: ss σ w).reverse) ((ls σ (k :: w) lv).reverse) 2 (nI a) (nI e) (nI τ) (nI a) x7 (nI c) i9 (-1) (nI (up σ ps (k :: w)).length) j l0 false) → Flt s t z (LR y (rdR t qr2 qr3 qr4 qr5 qr6 qr7 qr8 qr9 qr10 qr11 qr12 qr13 qr14 qr15 qr16 0 qi22 (nI p) qi24 qi25 qi26 qi27 (nI N) (nI (ds.length + 1)) (nI (up σ ps (k :: w)).length) qj0 ql0 ql1 ql2 ql3)) (LC x (rdC s z g nn ((nI (k + d + 1) :: ns d F w).reverse) ((nI (nS (σ k)) :: ss σ w).reverse) ((ls σ (k :: w) lv).reverse) 0 i3 (nI p) i5 i6 i7 i8 i9 (-1) (nI (up σ ps (k :: w)).length) j0 l0 false)) := fun q hr hrf hc => flt_lr hy hLR (flt_mk (Or.inr (Or.inl rfl)) hr (lc_f2 (by omega) (by rw [rdC_z4]) (by rw [rdC_i2]) e78 hn66 hn85 hn42 hm81 hc (by rw [rdC_i2]; decide)) hrf (cf_mk hl0 hnn))
  have hown := own_eq (S := (rdR t qr2 qr3 qr4 qr5 qr6 qr7 qr8 qr9 qr10 qr11 qr12 qr13 qr14 qr15 qr16 0 qi22 (nI e) (nI (τ - 2)) (nI a) x26 qi27 (nI N) (nI ds.length) (nI (up σ ps (k :: w)).length) jr ql0 ql1 ql2 ql3)) hG hU rfl rfl rfl
  obtain ⟨v1, v2, v3, v4, v5, v6⟩ := hG
  obtain ⟨n4, n0, n1⟩ := tau_ne v1
  have hC : m83 (sym (ck (nK (σ k))) (nS (σ k))) (rdC s z g nn ((nI (k + d + 1) :: ns d F w).reverse) ((nI (nS (σ k) + 1) :: ss σ w).reverse) ((ls σ (k :: w) lv).reverse) 0 i3 (nI e) (nI τ) (nI a) x7 (nI c) i9 (-1) (nI (up σ ps (k :: w)).length) j l0 false) = m98 86 (rdC s z g nn ((nI (k + d + 1) :: ns d F w).reverse) ((nI (nS (σ k) + 1) :: ss σ w).reverse) ((ls σ (k :: w) lv).reverse) 0 i3 (nI e) (nI τ) (nI a) x7 (nI c) i9 (-1) (nI (up σ ps (k :: w)).length) j l0 false) := by rw [hsy, m83_v (by simp)]
  have hM := m168_go (ww := nI 5) (by omega) h15 h16 dt1 dt2 (by decide) h150
  rw [rdR_i21, if_pos (show (0 : Int32) ≤ 0 by decide), if_neg (by decide), if_neg (by decide), if_neg (by decide), if_pos (by decide), hown, bs] at hM
  have ob := (wf.2.1 k kN).1
  have hkk : ¬ nK (σ k) = 11 ∧ ¬ nK (σ k) = 21 := by
    unfold kl at t1
    rw [Bool.or_eq_false_iff, beq_eq_false_iff_ne, beq_eq_false_iff_ne] at t1
    exact t1
  have hup : up σ ps (k :: w) = nC (σ k) := by
    show nC (σ k) ++ bnl (bnc (nK (σ k)) (nS (σ k))) (nA (σ k)) (nB (σ k)) = _
    rw [t6]
    exact List.append_nil _
  by_cases y : τ = 4 ∧ c = 0
  · obtain ⟨rfl, rfl⟩ := y
    obtain ⟨ej, ej0, ejn⟩ := v4 rfl
    subst ej
    rw [decide_eq_true ⟨rfl, rfl⟩, m158_t n4, bs, if_pos rfl, m171_eq (k := k) (by omega) h11 g2, bs, rdR_r8, xsGet_d (by omega) (by omega), bs, bs, (ra k kN).1, if_neg (by rw [eqL_11 (by omega)]; exact hkk.1), if_neg (by rw [eqL_21 (by omega)]; exact hkk.2)] at hM
    have hM2 := hM.trans (bind_id _)
    rw [show nI 4 = (4 : Int32) from rfl, show nI 0 = (0 : Int32) from rfl] at hC hm81
    by_cases hm : (up σ ps (k :: w)).length < 24
    · rw [m98_V hl0 hm] at hC
      have hL := lc_tok (x := x) (by omega) (by rw [rdC_z4]) (by rw [rdC_i2]) e78 hn66 hn85 hn42 hm81 hC
      have hM3 : m168 (rdR t qr2 qr3 qr4 qr5 qr6 qr7 qr8 qr9 qr10 qr11 qr12 qr13 qr14 qr15 qr16 0 qi22 (nI p) qi24 qi25 qi26 qi27 (nI N) (nI (ds.length + 1)) (nI (up σ ps (k :: w)).length) qj0 ql0 ql1 ql2 ql3) = some (rdR t qr2 qr3 qr4 qr5 qr6 qr7 qr8 qr9 qr10 (qr11.set k (nI a)) qr12 qr13 qr14 qr15 qr16 0 qi22 (nI e) (nI (4 - 2)) (nI a) x26 qi27 (nI N) (nI ds.length) (nI ((up σ ps (k :: w)).length + 1)) j ql0 ql1 (ql2.set k j) ql3) := by
        rw [hM2]
        unfold m174 m174_15
        rw [rdR_i30, if_neg (by rw [geL_24 (by omega)]; omega), m158_t n4, bs, if_pos rfl, rdR_i30, rdR_si30, nI_1]
      have wf2 : WF 0 T (fu σ k (uA (σ k) (nS (σ k) + 1) j (nI a))) N (k :: w) ps d := wf_adv wf rfl rfl rfl rfl ⟨ob.1, ob.2.1, fun _ => ej0, fun q => absurd (t11.symm.trans q) (by decide), fun q => absurd (t9.symm.trans q) (by decide), ob.2.2.2.2.2.1, fun q => absurd (t12.symm.trans q) (by decide)⟩ (fun _ => t4) t3 (fun i hi => by
          have e0 := (wf.2.1 k kN).2.2 t10
          rw [ite_self] at e0
          rw [t8 i (by omega)]
          rfl) (by
          show (nC (σ k) ++ bnl (bnc (nK (σ k)) (nS (σ k) + 1)) j (nB (σ k))).length ≤ 24
          rw [t5, List.length_append, ← hup]
          exact hm)
      have epd : pd (fu σ k (uA (σ k) (nS (σ k) + 1) j (nI a))) (k :: w) = pd σ (k :: w) := by
        rw [pd_top (fu_s _ _ _) (fun j hj => fu_n (hwk j hj))]
        show bu (nK (σ k)) (nS (σ k) + 1) + pd σ w = bu (nK (σ k)) (nS (σ k)) + pd σ w
        rw [t7]
      have ca2 : CA (fu σ k (uA (σ k) (nS (σ k) + 1) j (nI a))) N d F gg g := ca_S (s2 := nS (σ k) + 1) ca dm kN hkF kD so3 (by omega) (fun q => absurd (t12.symm.trans q) (by decide)) rfl rfl rfl rfl (Or.inr t12) rfl
      have hcl : (up σ ps (k :: w) ++ [j]).length = (up σ ps (k :: w)).length + 1 := by rw [List.length_append]; rfl
      have hI2 := inv_adv (lv := lv) (qr2 := qr2) (qr3 := qr3) (qr4 := qr4) (qr5 := qr5) (qr6 := qr6) (qr7 := qr7) (qi27 := qi27) (ql0 := ql0) (ql1 := ql1) (s := s) (t := t) (z := z) (nn := nn) (gg := gg) (n := n) (p := e) (i3 := i3) (i5 := 4) (i6 := nI a) (i7 := x7) (i8 := 0) (i9 := i9) (j0 := j) (qi22 := qi22) (qi24 := nI (4 - 2)) (qi25 := nI a) (qi26 := x26) (qj0 := j) (qr12 := qr12) (v := uA (σ k) (nS (σ k) + 1) j (nI a)) (cur := up σ ps (k :: w) ++ [j]) (l0 := l0.set (up σ ps (k :: w)).length j) hi3 hwk wf2 dm rfl rfl rfl rfl ca2 (ra_A ra kN (by omega) h11 g2) hds dt3 (by
        show nC (σ k) ++ bnl (bnc (nK (σ k)) (nS (σ k) + 1)) j (nB (σ k)) = _
        rw [hup, t5]
        rfl) (by rw [List.length_set]; exact hl0) (l0_push hl0 hm hcur) h8 h9 h10 (by (try simp only [List.length_set]); first | assumption | omega) h12 h13 h14 (by (try simp only [List.length_set]); first | assumption | omega) g3 h15 h16 hFw hFN (by omega) p3 (by omega) rt
      rw [hcl] at hI2
      exact Or.inr ⟨_, _, x + 1, e, k :: w, fu σ k (uA (σ k) (nS (σ k) + 1) j (nI a)), N, hLR _ hM3, hL, hI2, by rw [epd]; omega, by rw [epd]; omega⟩
    · have hm' : (up σ ps (k :: w)).length = 24 := by omega
      have hM3 : m168 (rdR t qr2 qr3 qr4 qr5 qr6 qr7 qr8 qr9 qr10 qr11 qr12 qr13 qr14 qr15 qr16 0 qi22 (nI p) qi24 qi25 qi26 qi27 (nI N) (nI (ds.length + 1)) (nI (up σ ps (k :: w)).length) qj0 ql0 ql1 ql2 ql3) = some (rdR t qr2 qr3 qr4 qr5 qr6 qr7 qr8 qr9 qr10 (qr11.set k (nI a)) qr12 qr13 qr14 qr15 qr16 2 (nI a) (nI e) (nI (4 - 2)) (nI a) x26 qi27 (nI N) (nI ds.length) (nI (up σ ps (k :: w)).length) j ql0 ql1 (ql2.set k j) ql3) := by
        rw [hM2]
        unfold m174 m174_15
        rw [rdR_i30, if_pos (by rw [geL_24 (by omega)]; omega), m158_f n4, bs, if_neg ff]
      rw [hm', m98_full] at hC
      rw [hm'] at hfl hM3
      exact Or.inl (by rw [hm']; exact hfl _ hM3 (rf_mk (by (try simp only [List.length_set]); first | assumption | omega) (by (try simp only [List.length_set]); first | assumption | omega) (by (try simp only [List.length_set]); first | assumption | omega) (by (try simp only [List.length_set]); first | assumption | omega) (by (try simp only [List.length_set]); first | assumption | omega) (by (try simp only [List.length_set]); first | assumption | omega) (by (try simp only [List.length_set]); first | assumption | omega) (by (try simp only [List.length_set]); first | assumption | omega) (by (try simp only [List.length_set]); first | assumption | omega) (by (try simp only [List.length_set]); first | assumption | omega) (by (try simp only [List.length_set]); first | assumption | omega) (by (try simp only [List.length_set]); first | assumption | omega) (by (try simp only [List.length_set]); first | assumption | omega) (by (try simp only [List.length_set]); first | assumption | omega) (by (try simp only [List.length_set]); first | assumption | omega) (by (try simp only [List.length_set]); first | assumption | omega) (by (try simp only [List.length_set]); first | assumption | omega) (by (try simp only [List.length_set]); first | assumption | omega) (by (try simp only [List.length_set]); first | assumption | omega)) hC)
  · rw [decide_eq_false y, m158_f n4, bs, if_neg ff] at hM
    rw [m98_no (by rw [eqL_4 (by omega), eqL_0 (by omega)]; exact y)] at hC
    exact Or.inl (hfl _ hM (rf_mk (by (try simp only [List.length_set]); first | assumption | omega) (by (try simp only [List.length_set]); first | assumption | omega) (by (try simp only [List.length_set]); first | assumption | omega) (by (try simp only [List.length_set]); first | assumption | omega) (by (try simp only [List.length_set]); first | assumption | omega) (by (try simp only [List.length_set]); first | assumption | omega) (by (try simp only [List.length_set]); first | assumption | omega) (by (try simp only [List.length_set]); first | assumption | omega) (by (try simp only [List.length_set]); first | assumption | omega) (by (try simp only [List.length_set]); first | assumption | omega) (by (try simp only [List.length_set]); first | assumption | omega) (by (try simp only [List.length_set]); first | assumption | omega) (by (try simp only [List.length_set]); first | assumption | omega) (by (try simp only [List.length_set]); first | assumption | omega) (by (try simp only [List.length_set]); first | assumption | omega) (by (try simp only [List.length_set]); first | assumption | omega) (by (try simp only [List.length_set]); first | assumption | omega) (by (try simp only [List.length_set]); first | assumption | omega) (by (try simp only [List.length_set]); first | assumption | omega)) hC)
theorem stp_T (h : TR T U n) (hT : gR s 0 = T) (hU : gR t 1 = U) (hn : gI t 20 = nI n) (hz : gZ s 3 = z) (hn4 : n ≤ 4088) (hnn : nn.length = 64) (a2 : qr2.length = 64) (a3 : qr3.length = 64) (a4 : qr4.length = 64) (a5 : qr5.length = 64) (a6 : qr6.length = 64) (a7 : qr7.length = 512) (b0 : ql0.length = 64) (b1 : ql1.length = 512) (hy : y < 900000) (hx : x + pd σ (k :: w) ≤ 3 * p) (hI : InvE T n d F ps lv s t z gg nn qr2 qr3 qr4 qr5 qr6 qr7 qi27 ql0 ql1 σ0 p (k :: w) σ N C R) (hrem : rem (nK (σ k)) (nS (σ k)) = 6 :: rem (nK (σ k)) (nS (σ k) + 1)) (hsy : sym (ck (nK (σ k))) (nS (σ k)) = 84) (t1 : kz (nK (σ k)) = true) (t3 : so (nK (σ k)) (nS (σ k) + 1) = true) (t4 : ct (nK (σ k)) (nS (σ k) + 1) = ct (nK (σ k)) (nS (σ k))) (t5 : bnc (nK (σ k)) (nS (σ k) + 1) = 2) (t6 : bnc (nK (σ k)) (nS (σ k)) = 1) (t7 : bu (nK (σ k)) (nS (σ k) + 1) = bu (nK (σ k)) (nS (σ k))) (t8a : ct (nK (σ k)) (nS (σ k)) ≤ 2) (t8b : bpc (nK (σ k)) 0 = 0) (t8c : 1 < ct (nK (σ k)) (nS (σ k)) → bpc (nK (σ k)) 1 = 0) (t10 : kc (nK (σ k)) = false) (t11 : nf (nK (σ k)) (nS (σ k)) = true) (t12 : nq (nK (σ k)) (nS (σ k) + 1) = false) : Flt s t z (LR y R) (LC x C) ∨ ∃ (R2 C2 : xSt) (x2 p2 : Nat) (w2 : List Nat) (σ2 : Nat → Nd) (N2 : Nat), LR y R = LR (y + 1) R2 ∧ LC x C = LC x2 C2 ∧ InvE T n d F ps lv s t z gg nn qr2 qr3 qr4 qr5 qr6 qr7 qi27 ql0 ql1 σ0 p2 w2 σ2 N2 C2 R2 ∧ x2 + pd σ2 w2 ≤ 3 * p2 ∧ 3 * (n - p2) + pd σ2 w2 < 3 * (n - p) + pd σ (k :: w) := by
  have t8 : ∀ i, i < ct (nK (σ k)) (nS (σ k)) → bpc (nK (σ k)) i = 0 := fun i hi => by
    have hh : i = 0 ∨ i = 1 := by omega
    rcases hh with rfl | rfl
    · exact t8b
    · exact t8c hi
  obtain ⟨g, i3, i5, i6, i7, i8, i9, j0, l0, qr8, qr9, qr10, qr11, qr12, qr13, qr14, qr15, qr16, qi22, qi24, qi25, qi26, qj0, ql2, ql3, rfl, rfl, ⟨wf, dm, ca, ra, dt⟩, ⟨⟨hl0, hi3⟩, hcur⟩, ⟨h8, h9, h10, h11, h12, h13, h14, g2, g3, h15, h16⟩, hFw, ⟨hFN, hNp, hpn, hwp⟩, rt⟩ := hI
  obtain ⟨⟨kN, kP, kC, kso, kD⟩, kw, kch⟩ := wf.2.2.2.1
  obtain ⟨so3, so23, so9⟩ := so_lt kso
  have hkF : F ≤ k := hFw k List.mem_cons_self
  have hwl : w.length < 2044 := by rw [List.length_cons] at hwp; omega
  have hk0 : xsAt (g 0) (nI (k + d + 1)) = nI (ck (nK (σ k))) := by rw [xsAt_n (by omega)]; have e0 := (ca.2.2.2 k kN).1; rw [kD] at e0; exact e0
  have hdl := du_len σ w
  have hx9 : x < 900000 := by omega
  have hm24 : (up σ ps (k :: w)).length ≤ 24 := wf.2.2.2.2.2
  have hwk : ∀ j ∈ w, ¬ j = k := fun j hj e => by have := kw j hj; omega
  have hwN : ∀ j ∈ w, j < N := ch_lt kch
  have hck : ck (nK (σ k)) < 100 := ck_lt24 _ so23
  rw [show ns d F (k :: w) = nI (k + d + 1) :: ns d F w from rfl, show ss σ (k :: w) = nI (nS (σ k)) :: ss σ w from rfl]
  have e78 := m78_eq (s := s) (z := z) (g := g) (nn := nn) (r3 := (ls σ (k :: w) lv).reverse) (i2 := 0) (i3 := i3) (i4 := nI p) (i5 := i5) (i6 := i6) (i7 := i7) (i8 := i8) (i9 := i9) (i11 := nI (up σ ps (k :: w)).length) (j0 := j0) (l0 := l0) (z4 := false) (ns := ns d F w) (ss := ss σ w) (c := k + d + 1) (κ := ck (nK (σ k))) (sp := nS (σ k)) (hz := hz) hck hk0 (by unfold ns; rw [List.length_append, List.length_map, List.length_singleton]; omega) (by unfold ss; rw [List.length_append, List.length_map, List.length_singleton]; omega) (by omega)
  have hn66 : sym (ck (nK (σ k))) (nS (σ k)) ≠ 66 := by rw [hsy]; decide
  have hn85 : sym (ck (nK (σ k))) (nS (σ k)) ≠ 85 := by rw [hsy]; decide
  have hn65 : sym (ck (nK (σ k))) (nS (σ k)) ≠ 65 := by rw [hsy]; decide
  have hn42 : sym (ck (nK (σ k))) (nS (σ k)) ≠ 42 := by rw [hsy]; decide
  have edu : du σ (k :: w) = (6, nI k) :: (((rem (nK (σ k)) (nS (σ k) + 1)).map fun x => (x, nI k)) ++ du σ w) := by
    show ((rem (nK (σ k)) (nS (σ k))).map fun x => (x, nI k)) ++ du σ w = _
    rw [hrem]
    rfl
  have hrl : (rem (nK (σ k)) (nS (σ k) + 1)).length ≤ 9 := rem_len _ _
  have hDl : (((rem (nK (σ k)) (nS (σ k) + 1)).map fun x => (x, nI k)) ++ du σ w).length < 30000 := by
    rw [List.length_append, List.length_map]
    omega
  rw [edu] at dt
  obtain ⟨dt1, dt2, dt3⟩ := dt
  rw [show (du σ (k :: w)).length = (((rem (nK (σ k)) (nS (σ k) + 1)).map fun x => (x, nI k)) ++ du σ w).length + 1 by rw [edu, List.length_cons]]
  generalize hds : ((rem (nK (σ k)) (nS (σ k) + 1)).map fun x => (x, nI k)) ++ du σ w = ds at *
  rcases step_tok (s := s) (z := z) (g := g) (nn := nn) (r1 := (nI (k + d + 1) :: ns d F w).reverse) (r2 := (nI (nS (σ k) + 1) :: ss σ w).reverse) (r3 := (ls σ (k :: w) lv).reverse) (i3 := i3) (i5 := i5) (i6 := i6) (i7 := i7) (i8 := i8) (i9 := i9) (i10 := -1) (i11 := nI (up σ ps (k :: w)).length) (j0 := j0) (l0 := l0) (t := t) (qr2 := qr2) (qr3 := qr3) (qr4 := qr4) (qr5 := qr5) (qr6 := qr6) (qr7 := qr7) (qr8 := qr8) (qr9 := qr9) (qr10 := qr10) (qr11 := qr11) (qr12 := qr12) (qr13 := qr13) (qr14 := qr14) (qr15 := qr15) (qr16 := qr16) (qi22 := qi22) (qi24 := qi24) (qi25 := qi25) (qi26 := qi26) (qi27 := qi27) (qi28 := nI N) (qi30 := nI (up σ ps (k :: w)).length) (qj0 := qj0) (ql0 := ql0) (ql1 := ql1) (ql2 := ql2) (ql3 := ql3) (x := x) (y := y) (D := ds.length) (p := p) (w := 6) h hT hU hn hx9 hy hpn hl0 hnn (by omega) h15 h16 dt1 dt2 (by omega) a2 a3 a4 a5 a6 a7 b0 b1 h8 h9 h10 h11 h12 h13 h14 g2 g3 (by rw [rdC_z4]) (by rw [rdC_i2]) e78 hn66 hn85 hn65 with hf | ⟨a, e, τ, c, x7, x26, j, jr, p1, p2, p3, hG, hm81, h150⟩
  · exact Or.inl hf
  have hLR : ∀ q, m168 (rdR t qr2 qr3 qr4 qr5 qr6 qr7 qr8 qr9 qr10 qr11 qr12 qr13 qr14 qr15 qr16 0 qi22 (nI p) qi24 qi25 qi26 qi27 (nI N) (nI (ds.length + 1)) (nI (up σ ps (k :: w)).length) qj0 ql0 ql1 ql2 ql3) = some q → LR y (rdR t qr2 qr3 qr4 qr5 qr6 qr7 qr8 qr9 qr10 qr11 qr12 qr13 qr14 qr15 qr16 0 qi22 (nI p) qi24 qi25 qi26 qi27 (nI N) (nI (ds.length + 1)) (nI (up σ ps (k :: w)).length) qj0 ql0 ql1 ql2 ql3) = LR (y + 1) q := fun q hq => lr_step (by omega) (by omega) h15 dt1 (by decide) hq
  have hfl : ∀ q, m168 (rdR t qr2 qr3 qr4 qr5 qr6 qr7 qr8 qr9 qr10 qr11 qr12 qr13 qr14 qr15 qr16 0 qi22 (nI p) qi24 qi25 qi26 qi27 (nI N) (nI (ds.length + 1)) (nI (up σ ps (k :: w)).length) qj0 ql0 ql1 ql2 ql3) = some q → RF t 2 (nI a) q → m83 (sym (ck (nK (σ k))) (nS (σ k))) (rdC s z g nn ((nI (k + d + 1) :: ns d F w).reverse) ((nI (nS (σ k) + 1) :: ss σ w).reverse) ((ls σ (k :: w) lv).reverse) 0 i3 (nI e) (nI τ) (nI a) x7 (nI c) i9 (-1) (nI (up σ ps (k :: w)).length) j l0 false) = some (rdC s z g nn ((nI (k + d + 1) :: ns d F w).reverse) ((nI (nS (σ k) + 1) :: ss σ w).reverse) ((ls σ (k :: w) lv).reverse) 2 (nI a) (nI e) (nI τ) (nI a) x7 (nI c) i9 (-1) (nI (up σ ps (k :: w)).length) j l0 false) → Flt s t z (LR y (rdR t qr2 qr3 qr4 qr5 qr6 qr7 qr8 qr9 qr10 qr11 qr12 qr13 qr14 qr15 qr16 0 qi22 (nI p) qi24 qi25 qi26 qi27 (nI N) (nI (ds.length + 1)) (nI (up σ ps (k :: w)).length) qj0 ql0 ql1 ql2 ql3)) (LC x (rdC s z g nn ((nI (k + d + 1) :: ns d F w).reverse) ((nI (nS (σ k)) :: ss σ w).reverse) ((ls σ (k :: w) lv).reverse) 0 i3 (nI p) i5 i6 i7 i8 i9 (-1) (nI (up σ ps (k :: w)).length) j0 l0 false)) := fun q hr hrf hc => flt_lr hy hLR (flt_mk (Or.inr (Or.inl rfl)) hr (lc_f2 (by omega) (by rw [rdC_z4]) (by rw [rdC_i2]) e78 hn66 hn85 hn42 hm81 hc (by rw [rdC_i2]; decide)) hrf (cf_mk hl0 hnn))
  have hown := own_eq (S := (rdR t qr2 qr3 qr4 qr5 qr6 qr7 qr8 qr9 qr10 qr11 qr12 qr13 qr14 qr15 qr16 0 qi22 (nI e) (nI (τ - 2)) (nI a) x26 qi27 (nI N) (nI ds.length) (nI (up σ ps (k :: w)).length) jr ql0 ql1 ql2 ql3)) hG hU rfl rfl rfl
  obtain ⟨v1, v2, v3, v4, v5, v6⟩ := hG
  obtain ⟨n4, n0, n1⟩ := tau_ne v1
  have hC : m83 (sym (ck (nK (σ k))) (nS (σ k))) (rdC s z g nn ((nI (k + d + 1) :: ns d F w).reverse) ((nI (nS (σ k) + 1) :: ss σ w).reverse) ((ls σ (k :: w) lv).reverse) 0 i3 (nI e) (nI τ) (nI a) x7 (nI c) i9 (-1) (nI (up σ ps (k :: w)).length) j l0 false) = m98 84 (rdC s z g nn ((nI (k + d + 1) :: ns d F w).reverse) ((nI (nS (σ k) + 1) :: ss σ w).reverse) ((ls σ (k :: w) lv).reverse) 0 i3 (nI e) (nI τ) (nI a) x7 (nI c) i9 (-1) (nI (up σ ps (k :: w)).length) j l0 false) := by rw [hsy, m83_v (by simp)]
  have hM := m168_go (ww := nI 6) (by omega) h15 h16 dt1 dt2 (by decide) h150
  rw [rdR_i21, if_pos (show (0 : Int32) ≤ 0 by decide), if_neg (by decide), if_neg (by decide), if_neg (by decide), if_neg (by decide), if_pos (by decide), hown, bs] at hM
  have ob := (wf.2.1 k kN).1
  have hup : up σ ps (k :: w) = nC (σ k) ++ [nA (σ k)] := by
    show nC (σ k) ++ bnl (bnc (nK (σ k)) (nS (σ k))) (nA (σ k)) (nB (σ k)) = _
    rw [t6]
    rfl
  have hul : (up σ ps (k :: w)).length = (nC (σ k)).length + 1 := by rw [hup, List.length_append]; rfl
  have hlast : l0.getD (nC (σ k)).length 0 = nA (σ k) := by
    rw [hcur _ (by omega), hup, getD_app_e]
  have hM266 : m168_266 (nI k) (rdR t qr2 qr3 qr4 qr5 qr6 qr7 qr8 qr9 qr10 qr11 qr12 qr13 qr14 qr15 qr16 0 qi22 (nI e) (nI (τ - 2)) (nI a) x26 qi27 (nI N) (nI ds.length) (nI (up σ ps (k :: w)).length) jr ql0 ql1 ql2 ql3) = some (rdR t qr2 qr3 qr4 qr5 qr6 qr7 qr8 qr9 qr10 qr11 qr12 qr13 qr14 qr15 qr16 2 (nI a) (nI e) (nI (τ - 2)) (nI a) x26 qi27 (nI N) (nI ds.length) (nI (up σ ps (k :: w)).length) jr ql0 ql1 ql2 ql3) := by
    unfold m168_266 m168_267
    rw [m158_f n4, bs, if_neg ff]
  by_cases y : τ = 4 ∧ c = 0
  · obtain ⟨rfl, rfl⟩ := y
    obtain ⟨ej, ej0, ejn⟩ := v4 rfl
    subst ej
    rw [decide_eq_true ⟨rfl, rfl⟩, if_pos rfl, rdR_l2, xlGet_d (by omega) (by omega), bs, rdR_j0, (ra k kN).2.2.2.2.2.2.1] at hM
    rw [show nI 4 = (4 : Int32) from rfl, show nI 0 = (0 : Int32) from rfl] at hC hm81
    by_cases ya : j = nA (σ k)
    · rw [if_pos ((lg_cmp_eq _ _).mpr ya), hM266] at hM
      by_cases hm : (up σ ps (k :: w)).length < 24
      · have e0 : lix l0 j (up σ ps (k :: w)).length = nI (up σ ps (k :: w)).length - 1 := by
          rw [hul, lix_top (by omega), hlast, ya]
        rw [m98_T0 hl0 hm e0] at hC
        exact Or.inl (hfl _ hM (rf_mk (by (try simp only [List.length_set]); first | assumption | omega) (by (try simp only [List.length_set]); first | assumption | omega) (by (try simp only [List.length_set]); first | assumption | omega) (by (try simp only [List.length_set]); first | assumption | omega) (by (try simp only [List.length_set]); first | assumption | omega) (by (try simp only [List.length_set]); first | assumption | omega) (by (try simp only [List.length_set]); first | assumption | omega) (by (try simp only [List.length_set]); first | assumption | omega) (by (try simp only [List.length_set]); first | assumption | omega) (by (try simp only [List.length_set]); first | assumption | omega) (by (try simp only [List.length_set]); first | assumption | omega) (by (try simp only [List.length_set]); first | assumption | omega) (by (try simp only [List.length_set]); first | assumption | omega) (by (try simp only [List.length_set]); first | assumption | omega) (by (try simp only [List.length_set]); first | assumption | omega) (by (try simp only [List.length_set]); first | assumption | omega) (by (try simp only [List.length_set]); first | assumption | omega) (by (try simp only [List.length_set]); first | assumption | omega) (by (try simp only [List.length_set]); first | assumption | omega)) hC)
      · have hm' : (up σ ps (k :: w)).length = 24 := by omega
        rw [hm', m98_full] at hC
        rw [hm'] at hfl hM
        exact Or.inl (by rw [hm']; exact hfl _ hM (rf_mk (by (try simp only [List.length_set]); first | assumption | omega) (by (try simp only [List.length_set]); first | assumption | omega) (by (try simp only [List.length_set]); first | assumption | omega) (by (try simp only [List.length_set]); first | assumption | omega) (by (try simp only [List.length_set]); first | assumption | omega) (by (try simp only [List.length_set]); first | assumption | omega) (by (try simp only [List.length_set]); first | assumption | omega) (by (try simp only [List.length_set]); first | assumption | omega) (by (try simp only [List.length_set]); first | assumption | omega) (by (try simp only [List.length_set]); first | assumption | omega) (by (try simp only [List.length_set]); first | assumption | omega) (by (try simp only [List.length_set]); first | assumption | omega) (by (try simp only [List.length_set]); first | assumption | omega) (by (try simp only [List.length_set]); first | assumption | omega) (by (try simp only [List.length_set]); first | assumption | omega) (by (try simp only [List.length_set]); first | assumption | omega) (by (try simp only [List.length_set]); first | assumption | omega) (by (try simp only [List.length_set]); first | assumption | omega) (by (try simp only [List.length_set]); first | assumption | omega)) hC)
    · rw [if_neg (fun q => ya ((lg_cmp_eq _ _).mp q))] at hM
      by_cases hm : (up σ ps (k :: w)).length < 24
      · have e0 : ¬ lix l0 j (up σ ps (k :: w)).length = nI (up σ ps (k :: w)).length - 1 := by
          rw [hul, lix_top (by omega), hlast]
          exact fun q => ya q.symm
        rw [m98_T1 hl0 hm e0] at hC
        have hL := lc_tok (x := x) (by omega) (by rw [rdC_z4]) (by rw [rdC_i2]) e78 hn66 hn85 hn42 hm81 hC
        have hM3 : m168 (rdR t qr2 qr3 qr4 qr5 qr6 qr7 qr8 qr9 qr10 qr11 qr12 qr13 qr14 qr15 qr16 0 qi22 (nI p) qi24 qi25 qi26 qi27 (nI N) (nI (ds.length + 1)) (nI (up σ ps (k :: w)).length) qj0 ql0 ql1 ql2 ql3) = some (rdR t qr2 qr3 qr4 qr5 qr6 qr7 qr8 qr9 qr10 qr11 (qr12.set k (nI a)) qr13 qr14 qr15 qr16 0 qi22 (nI e) (nI (4 - 2)) (nI a) x26 qi27 (nI N) (nI ds.length) (nI ((up σ ps (k :: w)).length + 1)) j ql0 ql1 ql2 (ql3.set k j)) := by
          rw [hM]
          unfold m168_267
          rw [m158_t n4, bs, if_pos rfl, rdR_l3, rdR_j0, xlPut_n (by omega) (by omega), bs, rdR_r12, rdR_i25, xsPut_n (by omega) (by omega), bs, rdR_sl3, rdR_sr12]
          unfold m174 m174_15
          rw [rdR_i30, if_neg (by rw [geL_24 (by omega)]; omega), m158_t n4, bs, if_pos rfl, bs, rdR_i30, rdR_si30, nI_1]
        have wf2 : WF 0 T (fu σ k (uB (σ k) (nS (σ k) + 1) j)) N (k :: w) ps d := wf_adv wf rfl rfl rfl rfl ⟨ob.1, ob.2.1, fun _ => ob.2.2.1 t11, ob.2.2.2.1, fun _ => ⟨ej0, ya⟩, fun q => absurd (t1.symm.trans q) (by decide), fun q => absurd (t12.symm.trans q) (by decide)⟩ (fun _ => t4) t3 (fun i hi => by
            have e0 := (wf.2.1 k kN).2.2 t10
            rw [ite_self] at e0
            rw [t8 i (by omega)]
            rfl) (by
            show (nC (σ k) ++ bnl (bnc (nK (σ k)) (nS (σ k) + 1)) (nA (σ k)) j).length ≤ 24
            rw [t5, List.length_append]
            show (nC (σ k)).length + 2 ≤ 24
            omega)
        have epd : pd (fu σ k (uB (σ k) (nS (σ k) + 1) j)) (k :: w) = pd σ (k :: w) := by
          rw [pd_top (fu_s _ _ _) (fun j hj => fu_n (hwk j hj))]
          show bu (nK (σ k)) (nS (σ k) + 1) + pd σ w = bu (nK (σ k)) (nS (σ k)) + pd σ w
          rw [t7]
        have ca2 : CA (fu σ k (uB (σ k) (nS (σ k) + 1) j)) N d F gg g := ca_S (s2 := nS (σ k) + 1) ca dm kN hkF kD so3 (by omega) (fun q => absurd (t12.symm.trans q) (by decide)) rfl rfl rfl rfl (Or.inr t12) rfl
        have hcl : (up σ ps (k :: w) ++ [j]).length = (up σ ps (k :: w)).length + 1 := by rw [List.length_append]; rfl
        have hI2 := inv_adv (lv := lv) (qr2 := qr2) (qr3 := qr3) (qr4 := qr4) (qr5 := qr5) (qr6 := qr6) (qr7 := qr7) (qi27 := qi27) (ql0 := ql0) (ql1 := ql1) (s := s) (t := t) (z := z) (nn := nn) (gg := gg) (n := n) (p := e) (i3 := i3) (i5 := 4) (i6 := nI a) (i7 := x7) (i8 := 0) (i9 := i9) (j0 := j) (qi22 := qi22) (qi24 := nI (4 - 2)) (qi25 := nI a) (qi26 := x26) (qj0 := j) (qr12 := qr12.set k (nI a)) (v := uB (σ k) (nS (σ k) + 1) j) (cur := up σ ps (k :: w) ++ [j]) (l0 := l0.set (up σ ps (k :: w)).length j) hi3 hwk wf2 dm rfl rfl rfl rfl ca2 (ra_B ra kN (by omega) g3) hds dt3 (by
          show nC (σ k) ++ bnl (bnc (nK (σ k)) (nS (σ k) + 1)) (nA (σ k)) j = _
          rw [hup, t5, List.append_assoc]
          rfl) (by rw [List.length_set]; exact hl0) (l0_push hl0 hm hcur) h8 h9 h10 h11 (by (try simp only [List.length_set]); first | assumption | omega) h13 h14 g2 (by (try simp only [List.length_set]); first | assumption | omega) h15 h16 hFw hFN (by omega) p3 (by omega) rt
        rw [hcl] at hI2
        exact Or.inr ⟨_, _, x + 1, e, k :: w, fu σ k (uB (σ k) (nS (σ k) + 1) j), N, hLR _ hM3, hL, hI2, by rw [epd]; omega, by rw [epd]; omega⟩
      · have hm' : (up σ ps (k :: w)).length = 24 := by omega
        have hM3 : m168 (rdR t qr2 qr3 qr4 qr5 qr6 qr7 qr8 qr9 qr10 qr11 qr12 qr13 qr14 qr15 qr16 0 qi22 (nI p) qi24 qi25 qi26 qi27 (nI N) (nI (ds.length + 1)) (nI (up σ ps (k :: w)).length) qj0 ql0 ql1 ql2 ql3) = some (rdR t qr2 qr3 qr4 qr5 qr6 qr7 qr8 qr9 qr10 qr11 (qr12.set k (nI a)) qr13 qr14 qr15 qr16 2 (nI a) (nI e) (nI (4 - 2)) (nI a) x26 qi27 (nI N) (nI ds.length) (nI (up σ ps (k :: w)).length) j ql0 ql1 ql2 (ql3.set k j)) := by
          rw [hM]
          unfold m168_267
          rw [m158_t n4, bs, if_pos rfl, rdR_l3, rdR_j0, xlPut_n (by omega) (by omega), bs, rdR_r12, rdR_i25, xsPut_n (by omega) (by omega), bs, rdR_sl3, rdR_sr12]
          unfold m174 m174_15
          rw [rdR_i30, if_pos (by rw [geL_24 (by omega)]; omega), m158_f n4, bs, if_neg ff, bs]
        rw [hm', m98_full] at hC
        rw [hm'] at hfl hM3
        exact Or.inl (by rw [hm']; exact hfl _ hM3 (rf_mk (by (try simp only [List.length_set]); first | assumption | omega) (by (try simp only [List.length_set]); first | assumption | omega) (by (try simp only [List.length_set]); first | assumption | omega) (by (try simp only [List.length_set]); first | assumption | omega) (by (try simp only [List.length_set]); first | assumption | omega) (by (try simp only [List.length_set]); first | assumption | omega) (by (try simp only [List.length_set]); first | assumption | omega) (by (try simp only [List.length_set]); first | assumption | omega) (by (try simp only [List.length_set]); first | assumption | omega) (by (try simp only [List.length_set]); first | assumption | omega) (by (try simp only [List.length_set]); first | assumption | omega) (by (try simp only [List.length_set]); first | assumption | omega) (by (try simp only [List.length_set]); first | assumption | omega) (by (try simp only [List.length_set]); first | assumption | omega) (by (try simp only [List.length_set]); first | assumption | omega) (by (try simp only [List.length_set]); first | assumption | omega) (by (try simp only [List.length_set]); first | assumption | omega) (by (try simp only [List.length_set]); first | assumption | omega) (by (try simp only [List.length_set]); first | assumption | omega)) hC)
  · rw [decide_eq_false y, if_neg ff, hM266] at hM
    rw [m98_no (by rw [eqL_4 (by omega), eqL_0 (by omega)]; exact y)] at hC
    exact Or.inl (hfl _ hM (rf_mk (by (try simp only [List.length_set]); first | assumption | omega) (by (try simp only [List.length_set]); first | assumption | omega) (by (try simp only [List.length_set]); first | assumption | omega) (by (try simp only [List.length_set]); first | assumption | omega) (by (try simp only [List.length_set]); first | assumption | omega) (by (try simp only [List.length_set]); first | assumption | omega) (by (try simp only [List.length_set]); first | assumption | omega) (by (try simp only [List.length_set]); first | assumption | omega) (by (try simp only [List.length_set]); first | assumption | omega) (by (try simp only [List.length_set]); first | assumption | omega) (by (try simp only [List.length_set]); first | assumption | omega) (by (try simp only [List.length_set]); first | assumption | omega) (by (try simp only [List.length_set]); first | assumption | omega) (by (try simp only [List.length_set]); first | assumption | omega) (by (try simp only [List.length_set]); first | assumption | omega) (by (try simp only [List.length_set]); first | assumption | omega) (by (try simp only [List.length_set]); first | assumption | omega) (by (try simp only [List.length_set]); first | assumption | omega) (by (try simp only [List.length_set]); first | assumption | omega)) hC)
end StepV
