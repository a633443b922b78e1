/-! a node is closed; operands of a call -/
section StepC
variable {T U : List Int32} {n p N D x y d F k : Nat} {w : List Nat} {σ σ0 : Nat → Nd} {v nd : Nd} {ps : List Int64} {lv : Int32} {C R : xSt} {gg : Nat → List Int32} {s t : xSt} {z : Bool} {nn : List Int64} {qr2 qr3 qr4 qr5 qr6 qr7 : List Int32} {qi27 : Int32} {ql0 ql1 : List Int64}
theorem inv_close {g : Nat → List Int32} {i3 i5 i6 i7 i8 i9 : Int32} {j0 : Int64} {l0 : List Int64} {qr8 qr9 qr10 qr11 qr12 qr13 qr14 qr15 qr16 : List Int32} {qi22 qi24 qi25 qi26 : Int32} {qj0 : Int64} {ql2 ql3 : List Int64} {cur : List Int64} (hi3 : i3 = -1) (kw : ∀ j ∈ w, ¬ j = k) (wf2 : WF 0 T (fu σ k (uE (σ k) (N - k))) N w ps d) (dm : DM σ N d) (ca : CA σ N d F gg g) (kN : k < N) (hkF : F ≤ k) (kD : nD (σ k) = d) (so3 : 3 ≤ nK (σ k)) (hnq : nq (nK (σ k)) 100 = true → nq (nK (σ k)) (nS (σ k)) = true) (ra : RA σ N qr8 qr9 qr10 qr11 qr13 qr14 ql2 ql3) (dt2 : dat (du σ w) qr15 qr16) (hup : up σ ps w = cur) (hl0 : l0.length = 24) (hcur : ∀ i, i < cur.length → l0.getD i 0 = cur.getD i 0) (h8 : qr8.length = 8192) (h9 : qr9.length = 8192) (h10 : qr10.length = 8192) (h11 : qr11.length = 8192) (h12 : qr12.length = 8192) (h13 : qr13.length = 8192) (h14 : qr14.length = 8192) (g2 : ql2.length = 8192) (g3 : ql3.length = 8192) (h15 : qr15.length = 33000) (h16 : qr16.length = 33000) (hFw : ∀ k' ∈ w, F ≤ k') (hFN : F < N) (hNp : N + d + 1 ≤ p) (hpn : p ≤ n) (hwp : 2 * w.length ≤ p) (rt : Rs σ0 σ N F d ps lv) : InvE T n d F ps lv s t z gg nn qr2 qr3 qr4 qr5 qr6 qr7 qi27 ql0 ql1 σ0 p w (fu σ k (uE (σ k) (N - k))) N (rdC s z (bUp g 4 ((g 4).set (k + d + 1) (nI (N + d + 1)))) nn ((ns d F w).reverse) ((ss σ w).reverse) ((ls σ w lv).reverse) 0 i3 (nI p) i5 i6 i7 i8 i9 (-1) (nI cur.length) j0 l0 false) (rdR t qr2 qr3 qr4 qr5 qr6 qr7 qr8 qr9 qr10 qr11 qr12 qr13 qr14 qr15 qr16 0 qi22 (nI p) qi24 qi25 qi26 qi27 (nI N) (nI (du σ w).length) (nI cur.length) qj0 ql0 ql1 ql2 ql3) := by
  have ew : ∀ j ∈ w, fu σ k (uE (σ k) (N - k)) j = σ j := fun j hj => fu_n (kw j hj)
  have eup : up (fu σ k (uE (σ k) (N - k))) ps w = cur := by rw [up_congr ew]; exact hup
  have edu : du (fu σ k (uE (σ k) (N - k))) w = du σ w := du_congr ew
  have ess : ss (fu σ k (uE (σ k) (N - k))) w = ss σ w := by
    unfold ss
    congr 1
    exact List.map_congr_left (fun j hj => by rw [ew j hj])
  have els : ls (fu σ k (uE (σ k) (N - k))) w lv = ls σ w lv := by
    unfold ls
    congr 1
    exact List.map_congr_left (fun j hj => by rw [ew j hj])
  have us := upd_set (g := g) (a := 4) (c := k + d + 1) (x := nI (N + d + 1)) (Or.inr rfl)
  have ca2 : CA (fu σ k (uE (σ k) (N - k))) N d F gg (bUp g 4 ((g 4).set (k + d + 1) (nI (N + d + 1)))) := by
    refine ca_upd ca dm kN hkF kD rfl rfl rfl rfl us.1 us.2 so3 (fun q => ?_) (fun _ => ?_)
    · have e0 := (ca.2.2.2 k kN).2.2.2.2.2.1 (hnq q)
      rw [kD] at e0
      rw [bUp_if, if_neg (by decide)]
      exact e0
    · rw [bUp_if, if_pos rfl, getD_setn (by rw [ca.2.1 4 (by omega)]; omega), if_pos rfl]
      show nI (N + d + 1) = nI (k + d + 1 + (N - k))
      congr 1
      omega
  refine ⟨_, i3, i5, i6, i7, i8, i9, j0, l0, qr8, qr9, qr10, qr11, qr12, qr13, qr14, qr15, qr16, qi22, qi24, qi25, qi26, qj0, ql2, ql3, ?_, ?_, ⟨wf2, dm_upd dm rfl, ca2, ra_same ra rfl rfl rfl rfl rfl rfl rfl rfl, by rw [edu]; exact dt2⟩, ⟨⟨hl0, hi3⟩, by rw [eup]; exact hcur⟩, ⟨h8, h9, h10, h11, h12, h13, h14, g2, g3, h15, h16⟩, hFw, ⟨hFN, hNp, hpn, hwp⟩, rs_upd rt hkF rfl rfl rfl rfl⟩
  · rw [eup, ess, els]
  · rw [eup, edu]
theorem ns_ne (d F : Nat) (w : List Nat) : ns d F w ≠ [] := by
  unfold ns
  intro q
  have e := congrArg List.length q
  rw [List.length_append, List.length_singleton, List.length_nil] at e
  omega
theorem stp_C (h : TR T U n) (hT : gR s 0 = T) (hU : gR t 1 = U) (hn : gI t 20 = nI n) (hz : gZ s 3 = z) (hn4 : n ≤ 4088) (hnn : nn.length = 64) (a2 : qr2.length = 64) (a3 : qr3.length = 64) (a4 : qr4.length = 64) (a5 : qr5.length = 64) (a6 : qr6.length = 64) (a7 : qr7.length = 512) (b0 : ql0.length = 64) (b1 : ql1.length = 512) (hy : y < 900000) (hx : x + pd σ (k :: w) ≤ 3 * p) (hI : InvE T n d F ps lv s t z gg nn qr2 qr3 qr4 qr5 qr6 qr7 qi27 ql0 ql1 σ0 p (k :: w) σ N C R) (hrem : rem (nK (σ k)) (nS (σ k)) = [3]) (hsy : sym (ck (nK (σ k))) (nS (σ k)) = 41) (t1 : kc (nK (σ k)) = false) (t4 : ct (nK (σ k)) 100 = ct (nK (σ k)) (nS (σ k))) (t5 : bu (nK (σ k)) (nS (σ k)) = 0) (t6 : bnc (nK (σ k)) (nS (σ k)) = 0) (t8 : sm (nK (σ k)) (nS (σ k)) 100 = true) : Flt s t z (LR y R) (LC x C) ∨ ∃ (R2 C2 : xSt) (x2 p2 : Nat) (w2 : List Nat) (σ2 : Nat → Nd) (N2 : Nat), LR y R = LR (y + 1) R2 ∧ LC x C = LC x2 C2 ∧ InvE T n d F ps lv s t z gg nn qr2 qr3 qr4 qr5 qr6 qr7 qi27 ql0 ql1 σ0 p2 w2 σ2 N2 C2 R2 ∧ x2 + pd σ2 w2 ≤ 3 * p2 ∧ 3 * (n - p2) + pd σ2 w2 < 3 * (n - p) + pd σ (k :: w) := by
  obtain ⟨g, i3, i5, i6, i7, i8, i9, j0, l0, qr8, qr9, qr10, qr11, qr12, qr13, qr14, qr15, qr16, qi22, qi24, qi25, qi26, qj0, ql2, ql3, rfl, rfl, ⟨wf, dm, ca, ra, dt⟩, ⟨⟨hl0, hi3⟩, hcur⟩, ⟨h8, h9, h10, h11, h12, h13, h14, g2, g3, h15, h16⟩, hFw, ⟨hFN, hNp, hpn, hwp⟩, rt⟩ := hI
  obtain ⟨⟨kN, kP, kC, kso, kD⟩, kw, kch⟩ := wf.2.2.2.1
  obtain ⟨so3, so23, so9⟩ := so_lt kso
  have hkF : F ≤ k := hFw k List.mem_cons_self
  have hwl : w.length < 2044 := by rw [List.length_cons] at hwp; omega
  have hk0 : xsAt (g 0) (nI (k + d + 1)) = nI (ck (nK (σ k))) := by rw [xsAt_n (by omega)]; have e0 := (ca.2.2.2 k kN).1; rw [kD] at e0; exact e0
  have hdl := du_len σ w
  have hx9 : x < 900000 := by omega
  have hm24 : (up σ ps (k :: w)).length ≤ 24 := wf.2.2.2.2.2
  have hwk : ∀ j ∈ w, ¬ j = k := fun j hj e => by have := kw j hj; omega
  have hwN : ∀ j ∈ w, j < N := ch_lt kch
  have hck : ck (nK (σ k)) < 100 := ck_lt24 _ so23
  rw [show ns d F (k :: w) = nI (k + d + 1) :: ns d F w from rfl, show ss σ (k :: w) = nI (nS (σ k)) :: ss σ w from rfl]
  have e78 := m78_eq (s := s) (z := z) (g := g) (nn := nn) (r3 := (ls σ (k :: w) lv).reverse) (i2 := 0) (i3 := i3) (i4 := nI p) (i5 := i5) (i6 := i6) (i7 := i7) (i8 := i8) (i9 := i9) (i11 := nI (up σ ps (k :: w)).length) (j0 := j0) (l0 := l0) (z4 := false) (ns := ns d F w) (ss := ss σ w) (c := k + d + 1) (κ := ck (nK (σ k))) (sp := nS (σ k)) (hz := hz) hck hk0 (by unfold ns; rw [List.length_append, List.length_map, List.length_singleton]; omega) (by unfold ss; rw [List.length_append, List.length_map, List.length_singleton]; omega) (by omega)
  have hn66 : sym (ck (nK (σ k))) (nS (σ k)) ≠ 66 := by rw [hsy]; decide
  have hn85 : sym (ck (nK (σ k))) (nS (σ k)) ≠ 85 := by rw [hsy]; decide
  have hn65 : sym (ck (nK (σ k))) (nS (σ k)) ≠ 65 := by rw [hsy]; decide
  have hn42 : sym (ck (nK (σ k))) (nS (σ k)) ≠ 42 := by rw [hsy]; decide
  have edu : du σ (k :: w) = (3, nI k) :: (((([] : List Nat)).map fun x => (x, nI k)) ++ du σ w) := by
    show ((rem (nK (σ k)) (nS (σ k))).map fun x => (x, nI k)) ++ du σ w = _
    rw [hrem]
    rfl
  have hrl : (([] : List Nat)).length ≤ 9 := (by rw [List.length_nil]; omega)
  have hDl : (((([] : List Nat)).map fun x => (x, nI k)) ++ du σ w).length < 30000 := by
    rw [List.length_append, List.length_map]
    omega
  rw [edu] at dt
  obtain ⟨dt1, dt2, dt3⟩ := dt
  rw [show (du σ (k :: w)).length = (((([] : List Nat)).map fun x => (x, nI k)) ++ du σ w).length + 1 by rw [edu, List.length_cons]]
  generalize hds : ((([] : List Nat)).map fun x => (x, nI k)) ++ du σ w = ds at *
  rcases step_tok (s := s) (z := z) (g := g) (nn := nn) (r1 := (nI (k + d + 1) :: ns d F w).reverse) (r2 := (nI (nS (σ k) + 1) :: ss σ w).reverse) (r3 := (ls σ (k :: w) lv).reverse) (i3 := i3) (i5 := i5) (i6 := i6) (i7 := i7) (i8 := i8) (i9 := i9) (i10 := -1) (i11 := nI (up σ ps (k :: w)).length) (j0 := j0) (l0 := l0) (t := t) (qr2 := qr2) (qr3 := qr3) (qr4 := qr4) (qr5 := qr5) (qr6 := qr6) (qr7 := qr7) (qr8 := qr8) (qr9 := qr9) (qr10 := qr10) (qr11 := qr11) (qr12 := qr12) (qr13 := qr13) (qr14 := qr14) (qr15 := qr15) (qr16 := qr16) (qi22 := qi22) (qi24 := qi24) (qi25 := qi25) (qi26 := qi26) (qi27 := qi27) (qi28 := nI N) (qi30 := nI (up σ ps (k :: w)).length) (qj0 := qj0) (ql0 := ql0) (ql1 := ql1) (ql2 := ql2) (ql3 := ql3) (x := x) (y := y) (D := ds.length) (p := p) (w := 3) h hT hU hn hx9 hy hpn hl0 hnn (by omega) h15 h16 dt1 dt2 (by omega) a2 a3 a4 a5 a6 a7 b0 b1 h8 h9 h10 h11 h12 h13 h14 g2 g3 (by rw [rdC_z4]) (by rw [rdC_i2]) e78 hn66 hn85 hn65 with hf | ⟨a, e, τ, c, x7, x26, j, jr, p1, p2, p3, hG, hm81, h150⟩
  · exact Or.inl hf
  have hLR : ∀ q, m168 (rdR t qr2 qr3 qr4 qr5 qr6 qr7 qr8 qr9 qr10 qr11 qr12 qr13 qr14 qr15 qr16 0 qi22 (nI p) qi24 qi25 qi26 qi27 (nI N) (nI (ds.length + 1)) (nI (up σ ps (k :: w)).length) qj0 ql0 ql1 ql2 ql3) = some q → LR y (rdR t qr2 qr3 qr4 qr5 qr6 qr7 qr8 qr9 qr10 qr11 qr12 qr13 qr14 qr15 qr16 0 qi22 (nI p) qi24 qi25 qi26 qi27 (nI N) (nI (ds.length + 1)) (nI (up σ ps (k :: w)).length) qj0 ql0 ql1 ql2 ql3) = LR (y + 1) q := fun q hq => lr_step (by omega) (by omega) h15 dt1 (by decide) hq
  have hfl : ∀ q, m168 (rdR t qr2 qr3 qr4 qr5 qr6 qr7 qr8 qr9 qr10 qr11 qr12 qr13 qr14 qr15 qr16 0 qi22 (nI p) qi24 qi25 qi26 qi27 (nI N) (nI (ds.length + 1)) (nI (up σ ps (k :: w)).length) qj0 ql0 ql1 ql2 ql3) = some q → RF t 2 (nI a) q → m83 (sym (ck (nK (σ k))) (nS (σ k))) (rdC s z g nn ((nI (k + d + 1) :: ns d F w).reverse) ((nI (nS (σ k) + 1) :: ss σ w).reverse) ((ls σ (k :: w) lv).reverse) 0 i3 (nI e) (nI τ) (nI a) x7 (nI c) i9 (-1) (nI (up σ ps (k :: w)).length) j l0 false) = some (rdC s z g nn ((nI (k + d + 1) :: ns d F w).reverse) ((nI (nS (σ k) + 1) :: ss σ w).reverse) ((ls σ (k :: w) lv).reverse) 2 (nI a) (nI e) (nI τ) (nI a) x7 (nI c) i9 (-1) (nI (up σ ps (k :: w)).length) j l0 false) → Flt s t z (LR y (rdR t qr2 qr3 qr4 qr5 qr6 qr7 qr8 qr9 qr10 qr11 qr12 qr13 qr14 qr15 qr16 0 qi22 (nI p) qi24 qi25 qi26 qi27 (nI N) (nI (ds.length + 1)) (nI (up σ ps (k :: w)).length) qj0 ql0 ql1 ql2 ql3)) (LC x (rdC s z g nn ((nI (k + d + 1) :: ns d F w).reverse) ((nI (nS (σ k)) :: ss σ w).reverse) ((ls σ (k :: w) lv).reverse) 0 i3 (nI p) i5 i6 i7 i8 i9 (-1) (nI (up σ ps (k :: w)).length) j0 l0 false)) := fun q hr hrf hc => flt_lr hy hLR (flt_mk (Or.inr (Or.inl rfl)) hr (lc_f2 (by omega) (by rw [rdC_z4]) (by rw [rdC_i2]) e78 hn66 hn85 hn42 hm81 hc (by rw [rdC_i2]; decide)) hrf (cf_mk hl0 hnn))
  have hds' : ds = du σ w := by rw [← hds]; rfl
  obtain ⟨v1, v2, v3, v4, v5, v6⟩ := hG
  obtain ⟨n4, n0, n1⟩ := tau_ne v1
  have hC : m83 (sym (ck (nK (σ k))) (nS (σ k))) (rdC s z g nn ((nI (k + d + 1) :: ns d F w).reverse) ((nI (nS (σ k) + 1) :: ss σ w).reverse) ((ls σ (k :: w) lv).reverse) 0 i3 (nI e) (nI τ) (nI a) x7 (nI c) i9 (-1) (nI (up σ ps (k :: w)).length) j l0 false) = m92 (rdC s z g nn ((nI (k + d + 1) :: ns d F w).reverse) ((nI (nS (σ k) + 1) :: ss σ w).reverse) ((ls σ (k :: w) lv).reverse) 0 i3 (nI e) (nI τ) (nI a) x7 (nI c) i9 (-1) (nI (up σ ps (k :: w)).length) j l0 false) := by rw [hsy, m83_41]
  have hM := m168_go (ww := nI 3) (by omega) h15 h16 dt1 dt2 (by decide) h150
  rw [rdR_i21, if_pos (show (0 : Int32) ≤ 0 by decide), if_neg (by decide), if_pos (by decide), rdR_i24] at hM
  have hup : up σ ps (k :: w) = nC (σ k) := by
    show nC (σ k) ++ bnl (bnc (nK (σ k)) (nS (σ k))) (nA (σ k)) (nB (σ k)) = _
    rw [t6]
    exact List.append_nil _
  by_cases y : τ = 3
  · subst y
    rw [if_pos (by decide)] at hM
    unfold m168_160 at hM
    rw [m158_t n4, bs] at hM
    have hnsl : (ns d F w).length < 2 ^ 30 := by unfold ns; rw [List.length_append, List.length_map, List.length_singleton]; omega
    rw [show nI 3 = (3 : Int32) from rfl] at hC hm81
    have hC2 := hC.trans (m92_yes hz (ns_ne d F w) hnsl (y := if nK (σ k) < 18 then 0 else 1) (ls := ls σ w lv))
    rw [xsSet_n (by omega), ca.2.1 0 (by omega)] at hC2
    have hL := lc_tok (x := x) (by omega) (by rw [rdC_z4]) (by rw [rdC_i2]) e78 hn66 hn85 hn42 hm81 hC2
    have wf2 := wf_close wf (ndo_E (wf.2.1 k kN).1 t8) (fun _ => t4)
    have epd : pd (fu σ k (uE (σ k) (N - k))) w = pd σ (k :: w) := by
      rw [pd_congr (σ := σ) (τ := fu σ k (uE (σ k) (N - k))) (w := w) (fun j hj => fu_n (hwk j hj))]
      show _ = bu (nK (σ k)) (nS (σ k)) + pd σ w
      omega
    rw [hds'] at dt3
    rw [List.length_cons] at hwp
    refine Or.inr ⟨_, _, x + 1, e, w, fu σ k (uE (σ k) (N - k)), N, hLR _ hM, hL, ?_, by rw [epd]; omega, by rw [epd]; omega⟩
    rw [hds']
    exact inv_close (cur := up σ ps (k :: w)) hi3 hwk wf2 dm ca kN hkF kD so3 (fun q => (sm_nq t8).symm.trans q) ra dt3 (by rw [hup, kC]) hl0 hcur h8 h9 h10 h11 h12 h13 h14 g2 g3 h15 h16 (fun j hj => hFw j (List.mem_cons_of_mem _ hj)) hFN (by omega) p3 (by omega) rt
  · rw [if_neg (by rw [eqL_1 (by omega)]; omega)] at hM
    unfold m168_160 at hM
    rw [m158_f n4, bs] at hM
    rw [m92_no (by rw [eqL_3 (by omega)]; exact y)] at hC
    exact Or.inl (hfl _ hM (rf_mk (by (try simp only [List.length_set]); first | assumption | omega) (by (try simp only [List.length_set]); first | assumption | omega) (by (try simp only [List.length_set]); first | assumption | omega) (by (try simp only [List.length_set]); first | assumption | omega) (by (try simp only [List.length_set]); first | assumption | omega) (by (try simp only [List.length_set]); first | assumption | omega) (by (try simp only [List.length_set]); first | assumption | omega) (by (try simp only [List.length_set]); first | assumption | omega) (by (try simp only [List.length_set]); first | assumption | omega) (by (try simp only [List.length_set]); first | assumption | omega) (by (try simp only [List.length_set]); first | assumption | omega) (by (try simp only [List.length_set]); first | assumption | omega) (by (try simp only [List.length_set]); first | assumption | omega) (by (try simp only [List.length_set]); first | assumption | omega) (by (try simp only [List.length_set]); first | assumption | omega) (by (try simp only [List.length_set]); first | assumption | omega) (by (try simp only [List.length_set]); first | assumption | omega) (by (try simp only [List.length_set]); first | assumption | omega) (by (try simp only [List.length_set]); first | assumption | omega)) hC)
theorem wf_call (h : WF 0 T σ N (k :: w) ps d) (hc : kc (nK (σ k)) = true) : WF 1 T σ N (k :: w) ps d := by
  obtain ⟨p1, p2, p3, p4, p5, p6⟩ := h
  refine ⟨p1, fun j hj => ?_, p3, p4, p5, p6⟩
  obtain ⟨q1, q2, q3⟩ := p2 j hj
  refine ⟨q1, q2, fun z => ?_⟩
  have y : ¬ tp (k :: w) = (j : Int) := fun e => by
    have e' : (k : Int) = (j : Int) := e
    have e2 : k = j := by omega
    rw [← e2] at z
    exact absurd (hc.symm.trans z) (by decide)
  have q := q3 z
  rw [if_neg y] at q ⊢
  exact q
theorem stp_S (h : TR T U n) (hT : gR s 0 = T) (hU : gR t 1 = U) (hn : gI t 20 = nI n) (hz : gZ s 3 = z) (hn4 : n ≤ 4088) (hnn : nn.length = 64) (a2 : qr2.length = 64) (a3 : qr3.length = 64) (a4 : qr4.length = 64) (a5 : qr5.length = 64) (a6 : qr6.length = 64) (a7 : qr7.length = 512) (b0 : ql0.length = 64) (b1 : ql1.length = 512) (hy : y < 900000) (hx : x + pd σ (k :: w) ≤ 3 * p) (hI : InvE T n d F ps lv s t z gg nn qr2 qr3 qr4 qr5 qr6 qr7 qi27 ql0 ql1 σ0 p (k :: w) σ N C R) (hrem : rem (nK (σ k)) (nS (σ k)) = [7, 3]) (hsy : sym (ck (nK (σ k))) (nS (σ k)) = 42) (t1 : kc (nK (σ k)) = true) (t2 : nS (σ k) = 1) : Flt s t z (LR y R) (LC x C) ∨ ∃ (R2 C2 : xSt) (x2 p2 : Nat) (w2 : List Nat) (σ2 : Nat → Nd) (N2 : Nat), LR y R = LR (y + 1) R2 ∧ LC x C = LC x2 C2 ∧ InvE T n d F ps lv s t z gg nn qr2 qr3 qr4 qr5 qr6 qr7 qi27 ql0 ql1 σ0 p2 w2 σ2 N2 C2 R2 ∧ x2 + pd σ2 w2 ≤ 3 * p2 ∧ 3 * (n - p2) + pd σ2 w2 < 3 * (n - p) + pd σ (k :: w) := by
  obtain ⟨g, i3, i5, i6, i7, i8, i9, j0, l0, qr8, qr9, qr10, qr11, qr12, qr13, qr14, qr15, qr16, qi22, qi24, qi25, qi26, qj0, ql2, ql3, rfl, rfl, ⟨wf, dm, ca, ra, dt⟩, ⟨⟨hl0, hi3⟩, hcur⟩, ⟨h8, h9, h10, h11, h12, h13, h14, g2, g3, h15, h16⟩, hFw, ⟨hFN, hNp, hpn, hwp⟩, rt⟩ := hI
  obtain ⟨⟨kN, kP, kC, kso, kD⟩, kw, kch⟩ := wf.2.2.2.1
  obtain ⟨so3, so23, so9⟩ := so_lt kso
  have hkF : F ≤ k := hFw k List.mem_cons_self
  have hwl : w.length < 2044 := by rw [List.length_cons] at hwp; omega
  have hk0 : xsAt (g 0) (nI (k + d + 1)) = nI (ck (nK (σ k))) := by rw [xsAt_n (by omega)]; have e0 := (ca.2.2.2 k kN).1; rw [kD] at e0; exact e0
  have hdl := du_len σ w
  have hx9 : x < 900000 := by omega
  have hm24 : (up σ ps (k :: w)).length ≤ 24 := wf.2.2.2.2.2
  have hwk : ∀ j ∈ w, ¬ j = k := fun j hj e => by have := kw j hj; omega
  have hwN : ∀ j ∈ w, j < N := ch_lt kch
  have hck : ck (nK (σ k)) < 100 := ck_lt24 _ so23
  rw [show ns d F (k :: w) = nI (k + d + 1) :: ns d F w from rfl, show ss σ (k :: w) = nI (nS (σ k)) :: ss σ w from rfl]
  have e78 := m78_eq (s := s) (z := z) (g := g) (nn := nn) (r3 := (ls σ (k :: w) lv).reverse) (i2 := 0) (i3 := i3) (i4 := nI p) (i5 := i5) (i6 := i6) (i7 := i7) (i8 := i8) (i9 := i9) (i11 := nI (up σ ps (k :: w)).length) (j0 := j0) (l0 := l0) (z4 := false) (ns := ns d F w) (ss := ss σ w) (c := k + d + 1) (κ := ck (nK (σ k))) (sp := nS (σ k)) (hz := hz) hck hk0 (by unfold ns; rw [List.length_append, List.length_map, List.length_singleton]; omega) (by unfold ss; rw [List.length_append, List.length_map, List.length_singleton]; omega) (by omega)
  have hn66 : sym (ck (nK (σ k))) (nS (σ k)) ≠ 66 := by rw [hsy]; decide
  have hn85 : sym (ck (nK (σ k))) (nS (σ k)) ≠ 85 := by rw [hsy]; decide
  have hn65 : sym (ck (nK (σ k))) (nS (σ k)) ≠ 65 := by rw [hsy]; decide
  have edu : du σ (k :: w) = (7, nI k) :: ((([3]).map fun x => (x, nI k)) ++ du σ w) := by
    show ((rem (nK (σ k)) (nS (σ k))).map fun x => (x, nI k)) ++ du σ w = _
    rw [hrem]
    rfl
  have hrl : ([3]).length ≤ 9 := (by rw [List.length_singleton]; omega)
  have hDl : ((([3]).map fun x => (x, nI k)) ++ du σ w).length < 30000 := by
    rw [List.length_append, List.length_map]
    omega
  rw [edu] at dt
  obtain ⟨dt1, dt2, dt3⟩ := dt
  rw [show (du σ (k :: w)).length = ((([3]).map fun x => (x, nI k)) ++ du σ w).length + 1 by rw [edu, List.length_cons]]
  generalize hds : (([3]).map fun x => (x, nI k)) ++ du σ w = ds at *
  rcases step_tok (s := s) (z := z) (g := g) (nn := nn) (r1 := (nI (k + d + 1) :: ns d F w).reverse) (r2 := (nI (nS (σ k) + 1) :: ss σ w).reverse) (r3 := (ls σ (k :: w) lv).reverse) (i3 := i3) (i5 := i5) (i6 := i6) (i7 := i7) (i8 := i8) (i9 := i9) (i10 := -1) (i11 := nI (up σ ps (k :: w)).length) (j0 := j0) (l0 := l0) (t := t) (qr2 := qr2) (qr3 := qr3) (qr4 := qr4) (qr5 := qr5) (qr6 := qr6) (qr7 := qr7) (qr8 := qr8) (qr9 := qr9) (qr10 := qr10) (qr11 := qr11) (qr12 := qr12) (qr13 := qr13) (qr14 := qr14) (qr15 := qr15) (qr16 := qr16) (qi22 := qi22) (qi24 := qi24) (qi25 := qi25) (qi26 := qi26) (qi27 := qi27) (qi28 := nI N) (qi30 := nI (up σ ps (k :: w)).length) (qj0 := qj0) (ql0 := ql0) (ql1 := ql1) (ql2 := ql2) (ql3 := ql3) (x := x) (y := y) (D := ds.length) (p := p) (w := 7) h hT hU hn hx9 hy hpn hl0 hnn (by omega) h15 h16 dt1 dt2 (by omega) a2 a3 a4 a5 a6 a7 b0 b1 h8 h9 h10 h11 h12 h13 h14 g2 g3 (by rw [rdC_z4]) (by rw [rdC_i2]) e78 hn66 hn85 hn65 with hf | ⟨a, e, τ, c, x7, x26, j, jr, p1, p2, p3, hG, hm81, h150⟩
  · exact Or.inl hf
  have hLR : ∀ q, m168 (rdR t qr2 qr3 qr4 qr5 qr6 qr7 qr8 qr9 qr10 qr11 qr12 qr13 qr14 qr15 qr16 0 qi22 (nI p) qi24 qi25 qi26 qi27 (nI N) (nI (ds.length + 1)) (nI (up σ ps (k :: w)).length) qj0 ql0 ql1 ql2 ql3) = some q → LR y (rdR t qr2 qr3 qr4 qr5 qr6 qr7 qr8 qr9 qr10 qr11 qr12 qr13 qr14 qr15 qr16 0 qi22 (nI p) qi24 qi25 qi26 qi27 (nI N) (nI (ds.length + 1)) (nI (up σ ps (k :: w)).length) qj0 ql0 ql1 ql2 ql3) = LR (y + 1) q := fun q hq => lr_step (by omega) (by omega) h15 dt1 (by decide) hq
  obtain ⟨c1a, c1b, c2, c3, c4, c5, c6, c7, c8, c9, c10, c11, c12, c13, c14, c15⟩ := kc_tbl _ so23 t1
  have hds' : ds = (3, nI k) :: du σ w := by rw [← hds]; rfl
  rw [hsy] at e78 hm81
  obtain ⟨v1, v2, v3, v4, v5, v6⟩ := id hG
  obtain ⟨n4, n0, n1⟩ := tau_ne v1
  have hM := m168_go (ww := nI 7) (by omega) h15 h16 dt1 dt2 (by decide) h150
  rw [rdR_i21, if_pos (show (0 : Int32) ≤ 0 by decide), if_neg (by decide), if_neg (by decide), if_neg (by decide), if_neg (by decide), if_neg (by decide), if_pos (by decide), rdR_i24] at hM
  have hssl : (ss σ w).length < 2 ^ 31 := by unfold ss; rw [List.length_append, List.length_map, List.length_singleton]; omega
  have hup : up σ ps (k :: w) = nC (σ k) := by
    show nC (σ k) ++ bnl (bnc (nK (σ k)) (nS (σ k))) (nA (σ k)) (nB (σ k)) = _
    rw [t2, c1b]
    exact List.append_nil _
  by_cases y : τ = 3
  · subst y
    rw [if_pos (by decide), rdR_i29, rdR_si29, hds', List.length_cons, nI_pred] at hM
    have h82 : m82 (rdC s z g nn ((nI (k + d + 1) :: ns d F w).reverse) ((nI (nS (σ k) + 1) :: ss σ w).reverse) ((ls σ (k :: w) lv).reverse) 0 i3 (nI e) (nI 3) (nI a) x7 (nI c) i9 (-1) (nI (up σ ps (k :: w)).length) j l0 false) = some (41, (rdC s z g nn ((nI (k + d + 1) :: ns d F w).reverse) ((nI (nS (σ k) + 1) :: ss σ w).reverse) ((ls σ (k :: w) lv).reverse) 0 i3 (nI e) (nI 3) (nI a) x7 (nI c) i9 (-1) (nI (up σ ps (k :: w)).length) j l0 false)) := by
      unfold m82
      rw [rdC_i5, if_pos (by decide)]
    have hnsl : (ns d F w).length < 2 ^ 30 := by unfold ns; rw [List.length_append, List.length_map, List.length_singleton]; omega
    have hC2 : m83 41 (rdC s z g nn ((nI (k + d + 1) :: ns d F w).reverse) ((nI (nS (σ k) + 1) :: ss σ w).reverse) ((ls σ (k :: w) lv).reverse) 0 i3 (nI e) (nI 3) (nI a) x7 (nI c) i9 (-1) (nI (up σ ps (k :: w)).length) j l0 false) = some (rdC s z (bUp g 4 ((g 4).set (k + d + 1) (nI (N + d + 1)))) nn ((ns d F w).reverse) ((ss σ w).reverse) ((ls σ w lv).reverse) 0 i3 (nI e) 3 (nI a) x7 (nI c) i9 (-1) (nI (up σ ps (k :: w)).length) j l0 false) := by
      rw [m83_41, show nI 3 = (3 : Int32) from rfl]
      refine (m92_yes hz (ns_ne d F w) hnsl (y := if nK (σ k) < 18 then 0 else 1) (ls := ls σ w lv)).trans ?_
      rw [xsSet_n (by omega), ca.2.1 0 (by omega)]
    have hL := lc_star (x := x) (by omega) (by rw [rdC_z4]) (by rw [rdC_i2]) e78 hm81 h82 hC2
    have ob := (wf.2.1 k kN).1
    have hsm : sm (nK (σ k)) (nS (σ k)) 100 = true := by
      unfold sm
      rw [t2, c9, c10, c11, c12, c13, c14]
      rfl
    have wf2 := wf_close wf (ndo_E ob hsm) (fun q => absurd (t1.symm.trans q) (by decide))
    have epd : pd (fu σ k (uE (σ k) (N - k))) w = pd σ (k :: w) := by
      rw [pd_congr (σ := σ) (τ := fu σ k (uE (σ k) (N - k))) (w := w) (fun j hj => fu_n (hwk j hj))]
      show _ = bu (nK (σ k)) (nS (σ k)) + pd σ w
      rw [t2, c6]
      omega
    rw [hds'] at dt3 hLR
    rw [List.length_cons] at hwp
    rw [List.length_cons] at hLR
    refine Or.inr ⟨_, _, x + 1, e, w, fu σ k (uE (σ k) (N - k)), N, (by rw [hds', List.length_cons]; exact hLR _ hM), hL, ?_, by rw [epd]; omega, by rw [epd]; omega⟩
    exact inv_close (cur := up σ ps (k :: w)) hi3 hwk wf2 dm ca kN hkF kD so3 (fun _ => by rw [t2]; exact c13) ra dt3.2.2 (by rw [hup, kC]) hl0 hcur h8 h9 h10 h11 h12 h13 h14 g2 g3 h15 h16 (fun j hj => hFw j (List.mem_cons_of_mem _ hj)) hFN (by omega) p3 (by omega) rt
  · rw [if_neg (by rw [eqL_1 (by omega)]; omega), show (7 : Int32) = nI 7 from rfl, m167_eq (by decide) (nI k) (by omega) h15 h16, bs] at hM
    have h82 : m82 (rdC s z g nn ((nI (k + d + 1) :: ns d F w).reverse) ((nI (nS (σ k) + 1) :: ss σ w).reverse) ((ls σ (k :: w) lv).reverse) 0 i3 (nI e) (nI τ) (nI a) x7 (nI c) i9 (-1) (nI (up σ ps (k :: w)).length) j l0 false) = some (69, (rdC s z g nn ((nI (k + d + 1) :: ns d F w).reverse) ((nI (nS (σ k)) :: ss σ w).reverse) ((ls σ (k :: w) lv).reverse) 0 i3 (nI e) (nI τ) (nI a) x7 (nI c) i9 (-1) (nI (up σ ps (k :: w)).length) j l0 false)) := by
      unfold m82
      rw [rdC_i5, if_neg (by rw [eqL_3 (by omega)]; exact y), rdC_r2, xsTop_r hssl, nI_pred, xsSetTop_r hssl, rdC_sr2]
    have hL := lc_stepS (x := x) (by omega) (by rw [rdC_z4]) (by rw [rdC_i2]) e78 hm81 h82
    rw [m83_69] at hL
    have hds7 : dat ((7, nI k) :: ds) (qr15.set ds.length (nI 7)) (qr16.set ds.length (nI k)) := dat_push dt3 (by omega) (by omega)
    have hM2 : m168 (rdR t qr2 qr3 qr4 qr5 qr6 qr7 qr8 qr9 qr10 qr11 qr12 qr13 qr14 qr15 qr16 0 qi22 (nI p) qi24 qi25 qi26 qi27 (nI N) (nI (ds.length + 1)) (nI (up σ ps (k :: w)).length) qj0 ql0 ql1 ql2 ql3) = m169 true (pI (k : Int)) (rdR t qr2 qr3 qr4 qr5 qr6 qr7 qr8 qr9 qr10 qr11 qr12 qr13 qr14 (qr15.set ds.length (nI 7)) (qr16.set ds.length (nI k)) 0 qi22 (nI e) (nI (τ - 2)) (nI a) x26 qi27 (nI N) (nI ((7, nI k) :: ds).length) (nI (up σ ps (k :: w)).length) jr ql0 ql1 ql2 ql3) := by
      rw [hM, pI_k]
      exact bind_id _
    have edu7 : du σ (k :: w) = (7, nI k) :: ds := by
      rw [edu]
    rcases exp_ok (s := s) (z := z) (g := g) (nn := nn) (r1 := (nI (k + d + 1) :: ns d F w).reverse) (r2 := (nI (nS (σ k)) :: ss σ w).reverse) (r3 := (ls σ (k :: w) lv).reverse) (i3 := i3) (i9 := i9) (l0 := l0) (t := t) (qr2 := qr2) (qr3 := qr3) (qr4 := qr4) (qr5 := qr5) (qr6 := qr6) (qr7 := qr7) (qr8 := qr8) (qr9 := qr9) (qr10 := qr10) (qr11 := qr11) (qr12 := qr12) (qr13 := qr13) (qr14 := qr14) (qr15 := qr15.set ds.length (nI 7)) (qr16 := qr16.set ds.length (nI k)) (qi22 := qi22) (qi27 := qi27) (ql0 := ql0) (ql1 := ql1) (ql2 := ql2) (ql3 := ql3) (m := (up σ ps (k :: w)).length) (N := N) (ds := (7, nI k) :: ds) (P := (k : Int)) (b := true) (lv := 0) (cur := up σ ps (k :: w)) (x := x + 1) (d := d) hG h hT hU hn hz p3 (by omega) hl0 hnn hm24 rfl hcur a2 a3 a4 a5 a6 a7 b0 b1 h8 h9 h10 h11 h12 h13 h14 g2 g3 (by (try simp only [List.length_set]); first | assumption | omega) (by (try simp only [List.length_set]); first | assumption | omega) (by omega) hds7 (by rw [List.length_cons]; omega) (Or.inl ⟨rfl, rfl⟩) with hf | ⟨nd, vv, e2, x2, ds2, q12, q15, q16, s1, s2, s3, y3, y5, y6, y7, y8, y9, u22, u24, u25, u26, yj, uj, o1, o2, ⟨o3, o4, o5, o6⟩, ⟨o7, o8, o9, o10, o11, o12⟩, ⟨o13, o14⟩, o15, o16, o17⟩
    · refine Or.inl (flt_lr hy hLR ?_)
      rw [hM2, hL]
      exact hf
    have hR2 := hLR _ (hM2.trans o1)
    have hL2 := hL.trans o2
    have rt2 : Rs σ0 (fu σ N nd) (N + 1) F d ps lv := rs_push rt hFN (by rw [o7]; omega)
    rw [List.length_cons] at hwp
    obtain ⟨w2, hI2, hpx⟩ := inv_node (lv := lv) (qr2 := qr2) (qr3 := qr3) (qr4 := qr4) (qr5 := qr5) (qr6 := qr6) (qr7 := qr7) (qi27 := qi27) (ql0 := ql0) (ql1 := ql1) (s := s) (t := t) (z := z) (nn := nn) (n := n) (y3 := y3) (y5 := y5) (y6 := y6) (y7 := y7) (y8 := y8) (y9 := y9) (yj := yj) (u22 := u22) (u24 := u24) (u25 := u25) (u26 := u26) (uj := uj) (x := x + 1) (e := e) (b := true) hi3 hn4 (wf_call wf t1) dm ca ra edu7 rfl rfl rfl hl0 hcur h8 h9 h10 h11 h13 h14 g2 g3 hFw (by omega) (by omega) (by rw [List.length_cons]; omega) (fun k' w1 ek => by
      rw [List.cons.injEq] at ek
      obtain ⟨rfl, rfl⟩ := ek
      obtain ⟨b1, b2⟩ := kc_bpc (i := pcnt (pr σ) k N) t1 so23
      rw [b1, b2, t2, c1b]
      exact ⟨rfl, rfl⟩) rt2 o3 o4 o5 o6 o7 o8 o9 o10 o11 o12 o13 o14 o15 o16 o17
    refine Or.inr ⟨_, _, x2, e2, w2, _, N + 1, hR2, hL2, hI2, ?_, ?_⟩
    · rcases hpx with ⟨q1, q2⟩ | ⟨q1, q2, q3⟩ <;> omega
    · rcases hpx with ⟨q1, q2⟩ | ⟨q1, q2, q3⟩ <;> omega
end StepC
