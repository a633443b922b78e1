/-! steps that add no node -/
section StepA
variable {T U : List Int32} {n p N D x y d F k : Nat} {w : List Nat} {σ τ σ0 : Nat → Nd} {v nd : Nd} {ps : List Int64} {lv : Int32} {C R : xSt} {gg : Nat → List Int32} {s t : xSt} {z : Bool} {nn : List Int64} {qr2 qr3 qr4 qr5 qr6 qr7 : List Int32} {qi27 : Int32} {ql0 ql1 : List Int64}
theorem inv_adv {g : Nat → List Int32} {i3 i5 i6 i7 i8 i9 : Int32} {j0 : Int64} {l0 : List Int64} {qr8 qr9 qr10 qr11 qr12 qr13 qr14 qr15 qr16 : List Int32} {qi22 qi24 qi25 qi26 : Int32} {qj0 : Int64} {ql2 ql3 : List Int64} {ds : List (Nat × Int32)} {cur : List Int64} (hi3 : i3 = -1) (kw : ∀ j ∈ w, ¬ j = k) (wf2 : WF 0 T (fu σ k v) N (k :: w) ps d) (dm : DM σ N d) (e1 : nK v = nK (σ k)) (e2 : nP v = nP (σ k)) (e3 : nD v = nD (σ k)) (e4 : nC v = nC (σ k)) (ca2 : CA (fu σ k v) N d F gg g) (ra2 : RA (fu σ k v) N qr8 qr9 qr10 qr11 qr13 qr14 ql2 ql3) (hds : ((rem (nK v) (nS v)).map fun x => (x, nI k)) ++ du σ w = ds) (dt2 : dat ds qr15 qr16) (hup : nC v ++ bnl (bnc (nK v) (nS v)) (nA v) (nB v) = cur) (hl0 : l0.length = 24) (hcur : ∀ i, i < cur.length → l0.getD i 0 = cur.getD i 0) (h8 : qr8.length = 8192) (h9 : qr9.length = 8192) (h10 : qr10.length = 8192) (h11 : qr11.length = 8192) (h12 : qr12.length = 8192) (h13 : qr13.length = 8192) (h14 : qr14.length = 8192) (g2 : ql2.length = 8192) (g3 : ql3.length = 8192) (h15 : qr15.length = 33000) (h16 : qr16.length = 33000) (hFw : ∀ k' ∈ k :: w, F ≤ k') (hFN : F < N) (hNp : N + d + 1 ≤ p) (hpn : p ≤ n) (hwp : 2 * (k :: w).length ≤ p) (rt : Rs σ0 σ N F d ps lv) : InvE T n d F ps lv s t z gg nn qr2 qr3 qr4 qr5 qr6 qr7 qi27 ql0 ql1 σ0 p (k :: w) (fu σ k v) N (rdC s z g nn ((nI (k + d + 1) :: ns d F w).reverse) ((nI (nS v) :: ss σ w).reverse) ((ls σ (k :: w) lv).reverse) 0 i3 (nI p) i5 i6 i7 i8 i9 (-1) (nI cur.length) j0 l0 false) (rdR t qr2 qr3 qr4 qr5 qr6 qr7 qr8 qr9 qr10 qr11 qr12 qr13 qr14 qr15 qr16 0 qi22 (nI p) qi24 qi25 qi26 qi27 (nI N) (nI ds.length) (nI cur.length) qj0 ql0 ql1 ql2 ql3) := by
  have ek : fu σ k v k = v := fu_s _ _ _
  have ew : ∀ j ∈ w, fu σ k v j = σ j := fun j hj => fu_n (kw j hj)
  have eup : up (fu σ k v) ps (k :: w) = cur := by rw [up_top ek]; exact hup
  have edu : du (fu σ k v) (k :: w) = ds := by rw [du_top ek ew]; exact hds
  have els : ls (fu σ k v) (k :: w) lv = ls σ (k :: w) lv := by
    rw [ls_top ek ew, e1]
    rfl
  refine ⟨g, i3, i5, i6, i7, i8, i9, j0, l0, qr8, qr9, qr10, qr11, qr12, qr13, qr14, qr15, qr16, qi22, qi24, qi25, qi26, qj0, ql2, ql3, ?_, ?_, ⟨wf2, dm_upd dm e3, ca2, ra2, by rw [edu]; exact dt2⟩, ⟨⟨hl0, hi3⟩, by rw [eup]; exact hcur⟩, ⟨h8, h9, h10, h11, h12, h13, h14, g2, g3, h15, h16⟩, hFw, ⟨hFN, hNp, hpn, hwp⟩, rs_upd rt (hFw k List.mem_cons_self) e1 e2 e3 e4⟩
  · rw [eup, ss_top ek ew, els]
    rfl
  · rw [eup, edu]
/-- an inner ( or ) -/
theorem stp_P {wt τ0 : Nat} (h : TR T U n) (hT : gR s 0 = T) (hU : gR t 1 = U) (hn : gI t 20 = nI n) (hz : gZ s 3 = z) (hn4 : n ≤ 4088) (hnn : nn.length = 64) (a2 : qr2.length = 64) (a3 : qr3.length = 64) (a4 : qr4.length = 64) (a5 : qr5.length = 64) (a6 : qr6.length = 64) (a7 : qr7.length = 512) (b0 : ql0.length = 64) (b1 : ql1.length = 512) (hy : y < 900000) (hx : x + pd σ (k :: w) ≤ 3 * p) (hI : InvE T n d F ps lv s t z gg nn qr2 qr3 qr4 qr5 qr6 qr7 qi27 ql0 ql1 σ0 p (k :: w) σ N C R) (hq : (wt = 4 ∧ sym (ck (nK (σ k))) (nS (σ k)) = 40 ∧ τ0 = 2) ∨ (wt = 3 ∧ sym (ck (nK (σ k))) (nS (σ k)) = 73 ∧ τ0 = 3)) (hrem : rem (nK (σ k)) (nS (σ k)) = wt :: rem (nK (σ k)) (nS (σ k) + 1)) (t3 : so (nK (σ k)) (nS (σ k) + 1) = true) (t4 : ct (nK (σ k)) (nS (σ k) + 1) = ct (nK (σ k)) (nS (σ k))) (t5 : bnc (nK (σ k)) (nS (σ k) + 1) = bnc (nK (σ k)) (nS (σ k))) (t7 : bu (nK (σ k)) (nS (σ k) + 1) = bu (nK (σ k)) (nS (σ k))) (t8 : sm (nK (σ k)) (nS (σ k)) (nS (σ k) + 1) = true) : Flt s t z (LR y R) (LC x C) ∨ ∃ (R2 C2 : xSt) (x2 p2 : Nat) (w2 : List Nat) (σ2 : Nat → Nd) (N2 : Nat), LR y R = LR (y + 1) R2 ∧ LC x C = LC x2 C2 ∧ InvE T n d F ps lv s t z gg nn qr2 qr3 qr4 qr5 qr6 qr7 qi27 ql0 ql1 σ0 p2 w2 σ2 N2 C2 R2 ∧ x2 + pd σ2 w2 ≤ 3 * p2 ∧ 3 * (n - p2) + pd σ2 w2 < 3 * (n - p) + pd σ (k :: w) := by
  obtain ⟨g, i3, i5, i6, i7, i8, i9, j0, l0, qr8, qr9, qr10, qr11, qr12, qr13, qr14, qr15, qr16, qi22, qi24, qi25, qi26, qj0, ql2, ql3, rfl, rfl, ⟨wf, dm, ca, ra, dt⟩, ⟨⟨hl0, hi3⟩, hcur⟩, ⟨h8, h9, h10, h11, h12, h13, h14, g2, g3, h15, h16⟩, hFw, ⟨hFN, hNp, hpn, hwp⟩, rt⟩ := hI
  obtain ⟨⟨kN, kP, kC, kso, kD⟩, kw, kch⟩ := wf.2.2.2.1
  obtain ⟨so3, so23, so9⟩ := so_lt kso
  have hkF : F ≤ k := hFw k List.mem_cons_self
  have hwl : w.length < 2044 := by rw [List.length_cons] at hwp; omega
  have hk0 : xsAt (g 0) (nI (k + d + 1)) = nI (ck (nK (σ k))) := by rw [xsAt_n (by omega)]; have e0 := (ca.2.2.2 k kN).1; rw [kD] at e0; exact e0
  have hdl := du_len σ w
  have hx9 : x < 900000 := by omega
  have hm24 : (up σ ps (k :: w)).length ≤ 24 := wf.2.2.2.2.2
  have hwk : ∀ j ∈ w, ¬ j = k := fun j hj e => by have := kw j hj; omega
  have hwN : ∀ j ∈ w, j < N := ch_lt kch
  have hck : ck (nK (σ k)) < 100 := ck_lt24 _ so23
  rw [show ns d F (k :: w) = nI (k + d + 1) :: ns d F w from rfl, show ss σ (k :: w) = nI (nS (σ k)) :: ss σ w from rfl]
  have e78 := m78_eq (s := s) (z := z) (g := g) (nn := nn) (r3 := (ls σ (k :: w) lv).reverse) (i2 := 0) (i3 := i3) (i4 := nI p) (i5 := i5) (i6 := i6) (i7 := i7) (i8 := i8) (i9 := i9) (i11 := nI (up σ ps (k :: w)).length) (j0 := j0) (l0 := l0) (z4 := false) (ns := ns d F w) (ss := ss σ w) (c := k + d + 1) (κ := ck (nK (σ k))) (sp := nS (σ k)) (hz := hz) hck hk0 (by unfold ns; rw [List.length_append, List.length_map, List.length_singleton]; omega) (by unfold ss; rw [List.length_append, List.length_map, List.length_singleton]; omega) (by omega)
  have hn66 : sym (ck (nK (σ k))) (nS (σ k)) ≠ 66 := by rcases hq with ⟨-, e, -⟩ | ⟨-, e, -⟩ <;> (rw [e]; decide)
  have hn85 : sym (ck (nK (σ k))) (nS (σ k)) ≠ 85 := by rcases hq with ⟨-, e, -⟩ | ⟨-, e, -⟩ <;> (rw [e]; decide)
  have hn65 : sym (ck (nK (σ k))) (nS (σ k)) ≠ 65 := by rcases hq with ⟨-, e, -⟩ | ⟨-, e, -⟩ <;> (rw [e]; decide)
  have hn42 : sym (ck (nK (σ k))) (nS (σ k)) ≠ 42 := by rcases hq with ⟨-, e, -⟩ | ⟨-, e, -⟩ <;> (rw [e]; decide)
  have edu : du σ (k :: w) = (wt, nI k) :: (((rem (nK (σ k)) (nS (σ k) + 1)).map fun x => (x, nI k)) ++ du σ w) := by
    show ((rem (nK (σ k)) (nS (σ k))).map fun x => (x, nI k)) ++ du σ w = _
    rw [hrem]
    rfl
  have hrl : (rem (nK (σ k)) (nS (σ k) + 1)).length ≤ 9 := rem_len _ _
  have hDl : (((rem (nK (σ k)) (nS (σ k) + 1)).map fun x => (x, nI k)) ++ du σ w).length < 30000 := by
    rw [List.length_append, List.length_map]
    omega
  rw [edu] at dt
  obtain ⟨dt1, dt2, dt3⟩ := dt
  rw [show (du σ (k :: w)).length = (((rem (nK (σ k)) (nS (σ k) + 1)).map fun x => (x, nI k)) ++ du σ w).length + 1 by rw [edu, List.length_cons]]
  generalize hds : ((rem (nK (σ k)) (nS (σ k) + 1)).map fun x => (x, nI k)) ++ du σ w = ds at *
  rcases step_tok (s := s) (z := z) (g := g) (nn := nn) (r1 := (nI (k + d + 1) :: ns d F w).reverse) (r2 := (nI (nS (σ k) + 1) :: ss σ w).reverse) (r3 := (ls σ (k :: w) lv).reverse) (i3 := i3) (i5 := i5) (i6 := i6) (i7 := i7) (i8 := i8) (i9 := i9) (i10 := -1) (i11 := nI (up σ ps (k :: w)).length) (j0 := j0) (l0 := l0) (t := t) (qr2 := qr2) (qr3 := qr3) (qr4 := qr4) (qr5 := qr5) (qr6 := qr6) (qr7 := qr7) (qr8 := qr8) (qr9 := qr9) (qr10 := qr10) (qr11 := qr11) (qr12 := qr12) (qr13 := qr13) (qr14 := qr14) (qr15 := qr15) (qr16 := qr16) (qi22 := qi22) (qi24 := qi24) (qi25 := qi25) (qi26 := qi26) (qi27 := qi27) (qi28 := nI N) (qi30 := nI (up σ ps (k :: w)).length) (qj0 := qj0) (ql0 := ql0) (ql1 := ql1) (ql2 := ql2) (ql3 := ql3) (x := x) (y := y) (D := ds.length) (p := p) (w := wt) h hT hU hn hx9 hy hpn hl0 hnn (by omega) h15 h16 dt1 dt2 (by omega) a2 a3 a4 a5 a6 a7 b0 b1 h8 h9 h10 h11 h12 h13 h14 g2 g3 (by rw [rdC_z4]) (by rw [rdC_i2]) e78 hn66 hn85 hn65 with hf | ⟨a, e, τ, c, x7, x26, j, jr, p1, p2, p3, hG, hm81, h150⟩
  · exact Or.inl hf
  have hLR : ∀ q, m168 (rdR t qr2 qr3 qr4 qr5 qr6 qr7 qr8 qr9 qr10 qr11 qr12 qr13 qr14 qr15 qr16 0 qi22 (nI p) qi24 qi25 qi26 qi27 (nI N) (nI (ds.length + 1)) (nI (up σ ps (k :: w)).length) qj0 ql0 ql1 ql2 ql3) = some q → LR y (rdR t qr2 qr3 qr4 qr5 qr6 qr7 qr8 qr9 qr10 qr11 qr12 qr13 qr14 qr15 qr16 0 qi22 (nI p) qi24 qi25 qi26 qi27 (nI N) (nI (ds.length + 1)) (nI (up σ ps (k :: w)).length) qj0 ql0 ql1 ql2 ql3) = LR (y + 1) q := fun q hq' => lr_step (by omega) (by omega) h15 dt1 (by rcases hq with ⟨rfl, -⟩ | ⟨rfl, -⟩ <;> decide) hq'
  have hfl : ∀ q, m168 (rdR t qr2 qr3 qr4 qr5 qr6 qr7 qr8 qr9 qr10 qr11 qr12 qr13 qr14 qr15 qr16 0 qi22 (nI p) qi24 qi25 qi26 qi27 (nI N) (nI (ds.length + 1)) (nI (up σ ps (k :: w)).length) qj0 ql0 ql1 ql2 ql3) = some q → RF t 2 (nI a) q → m83 (sym (ck (nK (σ k))) (nS (σ k))) (rdC s z g nn ((nI (k + d + 1) :: ns d F w).reverse) ((nI (nS (σ k) + 1) :: ss σ w).reverse) ((ls σ (k :: w) lv).reverse) 0 i3 (nI e) (nI τ) (nI a) x7 (nI c) i9 (-1) (nI (up σ ps (k :: w)).length) j l0 false) = some (rdC s z g nn ((nI (k + d + 1) :: ns d F w).reverse) ((nI (nS (σ k) + 1) :: ss σ w).reverse) ((ls σ (k :: w) lv).reverse) 2 (nI a) (nI e) (nI τ) (nI a) x7 (nI c) i9 (-1) (nI (up σ ps (k :: w)).length) j l0 false) → Flt s t z (LR y (rdR t qr2 qr3 qr4 qr5 qr6 qr7 qr8 qr9 qr10 qr11 qr12 qr13 qr14 qr15 qr16 0 qi22 (nI p) qi24 qi25 qi26 qi27 (nI N) (nI (ds.length + 1)) (nI (up σ ps (k :: w)).length) qj0 ql0 ql1 ql2 ql3)) (LC x (rdC s z g nn ((nI (k + d + 1) :: ns d F w).reverse) ((nI (nS (σ k)) :: ss σ w).reverse) ((ls σ (k :: w) lv).reverse) 0 i3 (nI p) i5 i6 i7 i8 i9 (-1) (nI (up σ ps (k :: w)).length) j0 l0 false)) := fun q hr hrf hc => flt_lr hy hLR (flt_mk (Or.inr (Or.inl rfl)) hr (lc_f2 (by omega) (by rw [rdC_z4]) (by rw [rdC_i2]) e78 hn66 hn85 hn42 hm81 hc (by rw [rdC_i2]; decide)) hrf (cf_mk hl0 hnn))
  obtain ⟨v1, v2, v3, v4, v5, v6⟩ := hG
  obtain ⟨n4, n0, n1⟩ := tau_ne v1
  have hC : m83 (sym (ck (nK (σ k))) (nS (σ k))) (rdC s z g nn ((nI (k + d + 1) :: ns d F w).reverse) ((nI (nS (σ k) + 1) :: ss σ w).reverse) ((ls σ (k :: w) lv).reverse) 0 i3 (nI e) (nI τ) (nI a) x7 (nI c) i9 (-1) (nI (up σ ps (k :: w)).length) j l0 false) = (m84 (decide (τ = τ0)) (rdC s z g nn ((nI (k + d + 1) :: ns d F w).reverse) ((nI (nS (σ k) + 1) :: ss σ w).reverse) ((ls σ (k :: w) lv).reverse) 0 i3 (nI e) (nI τ) (nI a) x7 (nI c) i9 (-1) (nI (up σ ps (k :: w)).length) j l0 false)).bind fun q => some q.2 := by
    rcases hq with ⟨-, e1, e2⟩ | ⟨-, e1, e2⟩
    · rw [e1, m83_40, e2]
      congr 2
      exact decide_eq_decide.mpr (by rw [eqL_2 (by omega)])
    · rw [e1, m83_73, e2]
      congr 2
      exact decide_eq_decide.mpr (by rw [eqL_3 (by omega)])
  have hM : m168 (rdR t qr2 qr3 qr4 qr5 qr6 qr7 qr8 qr9 qr10 qr11 qr12 qr13 qr14 qr15 qr16 0 qi22 (nI p) qi24 qi25 qi26 qi27 (nI N) (nI (ds.length + 1)) (nI (up σ ps (k :: w)).length) qj0 ql0 ql1 ql2 ql3) = (m158 (decide (τ = τ0)) (rdR t qr2 qr3 qr4 qr5 qr6 qr7 qr8 qr9 qr10 qr11 qr12 qr13 qr14 qr15 qr16 0 qi22 (nI e) (nI (τ - 2)) (nI a) x26 qi27 (nI N) (nI ds.length) (nI (up σ ps (k :: w)).length) jr ql0 ql1 ql2 ql3)).bind fun q => some q.2 := by
    rw [m168_go (ww := nI wt) (by omega) h15 h16 dt1 dt2 (by rcases hq with ⟨rfl, -⟩ | ⟨rfl, -⟩ <;> decide) h150, rdR_i21, if_pos (show (0 : Int32) ≤ 0 by decide), rdR_i24]
    rcases hq with ⟨rfl, -, rfl⟩ | ⟨rfl, -, rfl⟩
    · rw [if_neg (by decide), if_neg (by decide), if_pos (by decide)]
      unfold m168_180
      by_cases y : τ = 2
      · rw [y, if_pos (by decide), decide_eq_true rfl]
      · rw [if_neg (by rw [eqL_0 (by omega)]; omega), decide_eq_false y]
    · rw [if_neg (by decide), if_pos (by decide)]
      unfold m168_160
      by_cases y : τ = 3
      · rw [y, if_pos (by decide), decide_eq_true rfl]
      · rw [if_neg (by rw [eqL_1 (by omega)]; omega), decide_eq_false y]
  by_cases y : τ = τ0
  · rw [decide_eq_true y] at hC hM
    rw [m84_t, bs] at hC
    rw [m158_t n4, bs] at hM
    have hL := lc_tok (x := x) (by omega) (by rw [rdC_z4]) (by rw [rdC_i2]) e78 hn66 hn85 hn42 hm81 hC
    have wf2 : WF 0 T (fu σ k (uS (σ k) (nS (σ k) + 1))) N (k :: w) ps d := wf_adv wf rfl rfl rfl rfl (ndo_S (wf.2.1 k kN).1 t8) (fun _ => t4) t3 (fun _ _ => rfl) (by
      show (nC (σ k) ++ bnl (bnc (nK (σ k)) (nS (σ k) + 1)) (nA (σ k)) (nB (σ k))).length ≤ 24
      rw [t5]
      exact hm24)
    have epd : pd (fu σ k (uS (σ k) (nS (σ k) + 1))) (k :: w) = pd σ (k :: w) := by
      rw [pd_top (fu_s _ _ _) (fun j hj => fu_n (hwk j hj))]
      show bu (nK (σ k)) (nS (σ k) + 1) + pd σ w = _
      rw [t7]
      rfl
    refine Or.inr ⟨_, _, x + 1, e, k :: w, fu σ k (uS (σ k) (nS (σ k) + 1)), N, hLR _ hM, hL, inv_adv (v := uS (σ k) (nS (σ k) + 1)) (cur := up σ ps (k :: w)) hi3 hwk wf2 dm rfl rfl rfl rfl (ca_S (s2 := nS (σ k) + 1) ca dm kN hkF kD so3 (by omega) (fun q => (sm_nq t8).symm.trans q) rfl rfl rfl rfl (Or.inl rfl) rfl) (ra_same ra rfl rfl rfl rfl rfl rfl rfl rfl) hds dt3 (by
      show nC (σ k) ++ bnl (bnc (nK (σ k)) (nS (σ k) + 1)) (nA (σ k)) (nB (σ k)) = _
      rw [t5]
      rfl) hl0 hcur h8 h9 h10 h11 h12 h13 h14 g2 g3 h15 h16 hFw hFN (by omega) p3 (by omega) rt, ?_, ?_⟩
    · rw [epd]; omega
    · rw [epd]; omega
  · rw [decide_eq_false y] at hC hM
    rw [m84_f, bs] at hC
    rw [m158_f n4, bs] at hM
    exact Or.inl (hfl _ hM (rf_mk (by (try simp only [List.length_set]); first | assumption | omega) (by (try simp only [List.length_set]); first | assumption | omega) (by (try simp only [List.length_set]); first | assumption | omega) (by (try simp only [List.length_set]); first | assumption | omega) (by (try simp only [List.length_set]); first | assumption | omega) (by (try simp only [List.length_set]); first | assumption | omega) (by (try simp only [List.length_set]); first | assumption | omega) (by (try simp only [List.length_set]); first | assumption | omega) (by (try simp only [List.length_set]); first | assumption | omega) (by (try simp only [List.length_set]); first | assumption | omega) (by (try simp only [List.length_set]); first | assumption | omega) (by (try simp only [List.length_set]); first | assumption | omega) (by (try simp only [List.length_set]); first | assumption | omega) (by (try simp only [List.length_set]); first | assumption | omega) (by (try simp only [List.length_set]); first | assumption | omega) (by (try simp only [List.length_set]); first | assumption | omega) (by (try simp only [List.length_set]); first | assumption | omega) (by (try simp only [List.length_set]); first | assumption | omega) (by (try simp only [List.length_set]); first | assumption | omega)) hC)
/-- a variable goes -/
theorem stp_U (h : TR T U n) (hT : gR s 0 = T) (hU : gR t 1 = U) (hn : gI t 20 = nI n) (hz : gZ s 3 = z) (hn4 : n ≤ 4088) (hnn : nn.length = 64) (a2 : qr2.length = 64) (a3 : qr3.length = 64) (a4 : qr4.length = 64) (a5 : qr5.length = 64) (a6 : qr6.length = 64) (a7 : qr7.length = 512) (b0 : ql0.length = 64) (b1 : ql1.length = 512) (hy : y < 900000) (hx : x + pd σ (k :: w) ≤ 3 * p) (hI : InvE T n d F ps lv s t z gg nn qr2 qr3 qr4 qr5 qr6 qr7 qi27 ql0 ql1 σ0 p (k :: w) σ N C R) (hrem : rem (nK (σ k)) (nS (σ k)) = 8 :: rem (nK (σ k)) (nS (σ k) + 1)) (hsy : sym (ck (nK (σ k))) (nS (σ k)) = 85) (t1 : kz (nK (σ k)) = false) (t3 : so (nK (σ k)) (nS (σ k) + 1) = true) (t4 : ct (nK (σ k)) (nS (σ k) + 1) = ct (nK (σ k)) (nS (σ k))) (t5 : bnc (nK (σ k)) (nS (σ k) + 1) = 0) (t6 : bnc (nK (σ k)) (nS (σ k)) = 1) (t7 : bu (nK (σ k)) (nS (σ k) + 1) + 1 = bu (nK (σ k)) (nS (σ k))) (t8 : sm (nK (σ k)) (nS (σ k)) (nS (σ k) + 1) = true) : Flt s t z (LR y R) (LC x C) ∨ ∃ (R2 C2 : xSt) (x2 p2 : Nat) (w2 : List Nat) (σ2 : Nat → Nd) (N2 : Nat), LR y R = LR (y + 1) R2 ∧ LC x C = LC x2 C2 ∧ InvE T n d F ps lv s t z gg nn qr2 qr3 qr4 qr5 qr6 qr7 qi27 ql0 ql1 σ0 p2 w2 σ2 N2 C2 R2 ∧ x2 + pd σ2 w2 ≤ 3 * p2 ∧ 3 * (n - p2) + pd σ2 w2 < 3 * (n - p) + pd σ (k :: w) := by
  obtain ⟨g, i3, i5, i6, i7, i8, i9, j0, l0, qr8, qr9, qr10, qr11, qr12, qr13, qr14, qr15, qr16, qi22, qi24, qi25, qi26, qj0, ql2, ql3, rfl, rfl, ⟨wf, dm, ca, ra, dt⟩, ⟨⟨hl0, hi3⟩, hcur⟩, ⟨h8, h9, h10, h11, h12, h13, h14, g2, g3, h15, h16⟩, hFw, ⟨hFN, hNp, hpn, hwp⟩, rt⟩ := hI
  obtain ⟨⟨kN, kP, kC, kso, kD⟩, kw, kch⟩ := wf.2.2.2.1
  obtain ⟨so3, so23, so9⟩ := so_lt kso
  have hkF : F ≤ k := hFw k List.mem_cons_self
  have hwl : w.length < 2044 := by rw [List.length_cons] at hwp; omega
  have hk0 : xsAt (g 0) (nI (k + d + 1)) = nI (ck (nK (σ k))) := by rw [xsAt_n (by omega)]; have e0 := (ca.2.2.2 k kN).1; rw [kD] at e0; exact e0
  have hdl := du_len σ w
  have hx9 : x < 900000 := by omega
  have hm24 : (up σ ps (k :: w)).length ≤ 24 := wf.2.2.2.2.2
  have hwk : ∀ j ∈ w, ¬ j = k := fun j hj e => by have := kw j hj; omega
  have hwN : ∀ j ∈ w, j < N := ch_lt kch
  have hck : ck (nK (σ k)) < 100 := ck_lt24 _ so23
  rw [show ns d F (k :: w) = nI (k + d + 1) :: ns d F w from rfl, show ss σ (k :: w) = nI (nS (σ k)) :: ss σ w from rfl]
  have e78 := m78_eq (s := s) (z := z) (g := g) (nn := nn) (r3 := (ls σ (k :: w) lv).reverse) (i2 := 0) (i3 := i3) (i4 := nI p) (i5 := i5) (i6 := i6) (i7 := i7) (i8 := i8) (i9 := i9) (i11 := nI (up σ ps (k :: w)).length) (j0 := j0) (l0 := l0) (z4 := false) (ns := ns d F w) (ss := ss σ w) (c := k + d + 1) (κ := ck (nK (σ k))) (sp := nS (σ k)) (hz := hz) hck hk0 (by unfold ns; rw [List.length_append, List.length_map, List.length_singleton]; omega) (by unfold ss; rw [List.length_append, List.length_map, List.length_singleton]; omega) (by omega)
  rw [hsy] at e78
  have edu : du σ (k :: w) = (8, nI k) :: (((rem (nK (σ k)) (nS (σ k) + 1)).map fun x => (x, nI k)) ++ du σ w) := by
    show ((rem (nK (σ k)) (nS (σ k))).map fun x => (x, nI k)) ++ du σ w = _
    rw [hrem]
    rfl
  have hrl := rem_len (nK (σ k)) (nS (σ k) + 1)
  have hDl : (((rem (nK (σ k)) (nS (σ k) + 1)).map fun x => (x, nI k)) ++ du σ w).length < 30000 := by
    rw [List.length_append, List.length_map]
    omega
  rw [edu] at dt
  obtain ⟨dt1, dt2, dt3⟩ := dt
  have hup : up σ ps (k :: w) = nC (σ k) ++ [nA (σ k)] := by
    show nC (σ k) ++ bnl (bnc (nK (σ k)) (nS (σ k))) (nA (σ k)) (nB (σ k)) = _
    rw [t6]
    rfl
  have hul : (up σ ps (k :: w)).length = (nC (σ k)).length + 1 := by rw [hup, List.length_append]; rfl
  have hM := m168_8 (t := t) (qr2 := qr2) (qr3 := qr3) (qr4 := qr4) (qr5 := qr5) (qr6 := qr6) (qr7 := qr7) (qr8 := qr8) (qr9 := qr9) (qr10 := qr10) (qr11 := qr11) (qr12 := qr12) (qr13 := qr13) (qr14 := qr14) (qr15 := qr15) (qr16 := qr16) (qi22 := qi22) (qi23 := nI p) (qi24 := qi24) (qi25 := qi25) (qi26 := qi26) (qi27 := qi27) (qi28 := nI N) (qi30 := nI (up σ ps (k :: w)).length) (qj0 := qj0) (ql0 := ql0) (ql1 := ql1) (ql2 := ql2) (ql3 := ql3) (D := (((rem (nK (σ k)) (nS (σ k) + 1)).map fun x => (x, nI k)) ++ du σ w).length) (k := k) (r := nK (σ k)) (by omega) h15 h16 dt1 dt2 h8 (by omega) (ra k kN).1 (by omega)
  rw [t1, if_neg ff, hul, nI_pred] at hM
  have hR := lr_step (y := y) (ww := 8) (by omega) (by omega) h15 dt1 (by decide) hM
  have hL := lc_U (x := x) (by omega) (by rw [rdC_z4]) (by rw [rdC_i2]) e78
  rw [rdC_i11, rdC_si11, hul, nI_pred] at hL
  have wf2 : WF 0 T (fu σ k (uS (σ k) (nS (σ k) + 1))) N (k :: w) ps d := wf_adv wf rfl rfl rfl rfl (ndo_S (wf.2.1 k kN).1 t8) (fun _ => t4) t3 (fun _ _ => rfl) (by
    show (nC (σ k) ++ bnl (bnc (nK (σ k)) (nS (σ k) + 1)) (nA (σ k)) (nB (σ k))).length ≤ 24
    rw [t5, show bnl 0 (nA (σ k)) (nB (σ k)) = [] from rfl, List.append_nil]
    omega)
  have epd : pd (fu σ k (uS (σ k) (nS (σ k) + 1))) (k :: w) + 1 = pd σ (k :: w) := by
    rw [pd_top (fu_s _ _ _) (fun j hj => fu_n (hwk j hj))]
    show bu (nK (σ k)) (nS (σ k) + 1) + pd σ w + 1 = bu (nK (σ k)) (nS (σ k)) + pd σ w
    omega
  rw [show (du σ (k :: w)).length = (((rem (nK (σ k)) (nS (σ k) + 1)).map fun x => (x, nI k)) ++ du σ w).length + 1 by rw [edu, List.length_cons]]
  rw [hul]
  refine Or.inr ⟨_, _, x + 1, p, k :: w, fu σ k (uS (σ k) (nS (σ k) + 1)), N, hR, hL, inv_adv (v := uS (σ k) (nS (σ k) + 1)) (cur := nC (σ k)) hi3 hwk wf2 dm rfl rfl rfl rfl (ca_S (s2 := nS (σ k) + 1) ca dm kN hkF kD so3 (by omega) (fun q => (sm_nq t8).symm.trans q) rfl rfl rfl rfl (Or.inl rfl) rfl) (ra_same ra rfl rfl rfl rfl rfl rfl rfl rfl) rfl dt3 (by
    show nC (σ k) ++ bnl (bnc (nK (σ k)) (nS (σ k) + 1)) (nA (σ k)) (nB (σ k)) = _
    rw [t5]
    exact List.append_nil _) hl0 (fun i hi => ?_) h8 h9 h10 h11 h12 h13 h14 g2 g3 h15 h16 hFw hFN hNp hpn hwp rt, ?_, ?_⟩
  · rw [hcur i (by omega), hup, getD_app_l hi]
  · omega
  · omega
/-- two variables go -/
theorem stp_UU (h : TR T U n) (hT : gR s 0 = T) (hU : gR t 1 = U) (hn : gI t 20 = nI n) (hz : gZ s 3 = z) (hn4 : n ≤ 4088) (hnn : nn.length = 64) (a2 : qr2.length = 64) (a3 : qr3.length = 64) (a4 : qr4.length = 64) (a5 : qr5.length = 64) (a6 : qr6.length = 64) (a7 : qr7.length = 512) (b0 : ql0.length = 64) (b1 : ql1.length = 512) (hy : y < 900000) (hx : x + pd σ (k :: w) ≤ 3 * p) (hI : InvE T n d F ps lv s t z gg nn qr2 qr3 qr4 qr5 qr6 qr7 qi27 ql0 ql1 σ0 p (k :: w) σ N C R) (hrem : rem (nK (σ k)) (nS (σ k)) = 8 :: rem (nK (σ k)) (nS (σ k) + 2)) (hsy : sym (ck (nK (σ k))) (nS (σ k)) = 85) (hsy2 : sym (ck (nK (σ k))) (nS (σ k) + 1) = 85) (t1 : kz (nK (σ k)) = true) (t3 : so (nK (σ k)) (nS (σ k) + 2) = true) (t4 : ct (nK (σ k)) (nS (σ k) + 2) = ct (nK (σ k)) (nS (σ k))) (t5 : bnc (nK (σ k)) (nS (σ k) + 2) = 0) (t6 : bnc (nK (σ k)) (nS (σ k)) = 2) (t7 : bu (nK (σ k)) (nS (σ k) + 2) + 2 = bu (nK (σ k)) (nS (σ k))) (t8 : sm (nK (σ k)) (nS (σ k)) (nS (σ k) + 2) = true) : Flt s t z (LR y R) (LC x C) ∨ ∃ (R2 C2 : xSt) (x2 p2 : Nat) (w2 : List Nat) (σ2 : Nat → Nd) (N2 : Nat), LR y R = LR (y + 1) R2 ∧ LC x C = LC x2 C2 ∧ InvE T n d F ps lv s t z gg nn qr2 qr3 qr4 qr5 qr6 qr7 qi27 ql0 ql1 σ0 p2 w2 σ2 N2 C2 R2 ∧ x2 + pd σ2 w2 ≤ 3 * p2 ∧ 3 * (n - p2) + pd σ2 w2 < 3 * (n - p) + pd σ (k :: w) := by
  obtain ⟨g, i3, i5, i6, i7, i8, i9, j0, l0, qr8, qr9, qr10, qr11, qr12, qr13, qr14, qr15, qr16, qi22, qi24, qi25, qi26, qj0, ql2, ql3, rfl, rfl, ⟨wf, dm, ca, ra, dt⟩, ⟨⟨hl0, hi3⟩, hcur⟩, ⟨h8, h9, h10, h11, h12, h13, h14, g2, g3, h15, h16⟩, hFw, ⟨hFN, hNp, hpn, hwp⟩, rt⟩ := hI
  obtain ⟨⟨kN, kP, kC, kso, kD⟩, kw, kch⟩ := wf.2.2.2.1
  obtain ⟨so3, so23, so9⟩ := so_lt kso
  have hkF : F ≤ k := hFw k List.mem_cons_self
  have hwl : w.length < 2044 := by rw [List.length_cons] at hwp; omega
  have hk0 : xsAt (g 0) (nI (k + d + 1)) = nI (ck (nK (σ k))) := by rw [xsAt_n (by omega)]; have e0 := (ca.2.2.2 k kN).1; rw [kD] at e0; exact e0
  have hdl := du_len σ w
  have hx9 : x < 900000 := by omega
  have hm24 : (up σ ps (k :: w)).length ≤ 24 := wf.2.2.2.2.2
  have hwk : ∀ j ∈ w, ¬ j = k := fun j hj e => by have := kw j hj; omega
  have hwN : ∀ j ∈ w, j < N := ch_lt kch
  have hck : ck (nK (σ k)) < 100 := ck_lt24 _ so23
  rw [show ns d F (k :: w) = nI (k + d + 1) :: ns d F w from rfl, show ss σ (k :: w) = nI (nS (σ k)) :: ss σ w from rfl]
  have e78 := m78_eq (s := s) (z := z) (g := g) (nn := nn) (r3 := (ls σ (k :: w) lv).reverse) (i2 := 0) (i3 := i3) (i4 := nI p) (i5 := i5) (i6 := i6) (i7 := i7) (i8 := i8) (i9 := i9) (i11 := nI (up σ ps (k :: w)).length) (j0 := j0) (l0 := l0) (z4 := false) (ns := ns d F w) (ss := ss σ w) (c := k + d + 1) (κ := ck (nK (σ k))) (sp := nS (σ k)) (hz := hz) hck hk0 (by unfold ns; rw [List.length_append, List.length_map, List.length_singleton]; omega) (by unfold ss; rw [List.length_append, List.length_map, List.length_singleton]; omega) (by omega)
  rw [hsy] at e78
  have edu : du σ (k :: w) = (8, nI k) :: (((rem (nK (σ k)) (nS (σ k) + 2)).map fun x => (x, nI k)) ++ du σ w) := by
    show ((rem (nK (σ k)) (nS (σ k))).map fun x => (x, nI k)) ++ du σ w = _
    rw [hrem]
    rfl
  have hrl := rem_len (nK (σ k)) (nS (σ k) + 2)
  have hDl : (((rem (nK (σ k)) (nS (σ k) + 2)).map fun x => (x, nI k)) ++ du σ w).length < 30000 := by
    rw [List.length_append, List.length_map]
    omega
  rw [edu] at dt
  obtain ⟨dt1, dt2, dt3⟩ := dt
  have hup : up σ ps (k :: w) = nC (σ k) ++ [nA (σ k), nB (σ k)] := by
    show nC (σ k) ++ bnl (bnc (nK (σ k)) (nS (σ k))) (nA (σ k)) (nB (σ k)) = _
    rw [t6]
    rfl
  have hul : (up σ ps (k :: w)).length = (nC (σ k)).length + 1 + 1 := by rw [hup, List.length_append]; rfl
  have hM := m168_8 (t := t) (qr2 := qr2) (qr3 := qr3) (qr4 := qr4) (qr5 := qr5) (qr6 := qr6) (qr7 := qr7) (qr8 := qr8) (qr9 := qr9) (qr10 := qr10) (qr11 := qr11) (qr12 := qr12) (qr13 := qr13) (qr14 := qr14) (qr15 := qr15) (qr16 := qr16) (qi22 := qi22) (qi23 := nI p) (qi24 := qi24) (qi25 := qi25) (qi26 := qi26) (qi27 := qi27) (qi28 := nI N) (qi30 := nI (up σ ps (k :: w)).length) (qj0 := qj0) (ql0 := ql0) (ql1 := ql1) (ql2 := ql2) (ql3 := ql3) (D := (((rem (nK (σ k)) (nS (σ k) + 2)).map fun x => (x, nI k)) ++ du σ w).length) (k := k) (r := nK (σ k)) (by omega) h15 h16 dt1 dt2 h8 (by omega) (ra k kN).1 (by omega)
  rw [t1, if_pos rfl, hul, show nI ((nC (σ k)).length + 1 + 1) - 2 = nI (nC (σ k)).length from nI_subI (a := (nC (σ k)).length + 2) (b := 2) (by omega)] at hM
  have hR := lr_step (y := y) (ww := 8) (by omega) (by omega) h15 dt1 (by decide) hM
  have hL := lc_U (x := x) (by omega) (by rw [rdC_z4]) (by rw [rdC_i2]) e78
  rw [rdC_i11, rdC_si11, hul, nI_pred] at hL
  have e78b := m78_eq (s := s) (z := z) (g := g) (nn := nn) (r3 := (ls σ (k :: w) lv).reverse) (i2 := 0) (i3 := i3) (i4 := nI p) (i5 := i5) (i6 := i6) (i7 := i7) (i8 := i8) (i9 := i9) (i11 := nI ((nC (σ k)).length + 1)) (j0 := j0) (l0 := l0) (z4 := false) (ns := ns d F w) (ss := ss σ w) (c := k + d + 1) (κ := ck (nK (σ k))) (sp := nS (σ k) + 1) (hz := hz) hck hk0 (by unfold ns; rw [List.length_append, List.length_map, List.length_singleton]; omega) (by unfold ss; rw [List.length_append, List.length_map, List.length_singleton]; omega) (by omega)
  rw [hsy2] at e78b
  have hL2 := lc_U (x := x + 1) (by omega) (by rw [rdC_z4]) (by rw [rdC_i2]) e78b
  rw [rdC_i11, rdC_si11, nI_pred] at hL2
  have wf2 : WF 0 T (fu σ k (uS (σ k) (nS (σ k) + 2))) N (k :: w) ps d := wf_adv wf rfl rfl rfl rfl (ndo_S (wf.2.1 k kN).1 t8) (fun _ => t4) t3 (fun _ _ => rfl) (by
    show (nC (σ k) ++ bnl (bnc (nK (σ k)) (nS (σ k) + 2)) (nA (σ k)) (nB (σ k))).length ≤ 24
    rw [t5, show bnl 0 (nA (σ k)) (nB (σ k)) = [] from rfl, List.append_nil]
    omega)
  have epd : pd (fu σ k (uS (σ k) (nS (σ k) + 2))) (k :: w) + 2 = pd σ (k :: w) := by
    rw [pd_top (fu_s _ _ _) (fun j hj => fu_n (hwk j hj))]
    show bu (nK (σ k)) (nS (σ k) + 2) + pd σ w + 2 = bu (nK (σ k)) (nS (σ k)) + pd σ w
    omega
  rw [show (du σ (k :: w)).length = (((rem (nK (σ k)) (nS (σ k) + 2)).map fun x => (x, nI k)) ++ du σ w).length + 1 by rw [edu, List.length_cons]]
  rw [hul]
  refine Or.inr ⟨_, _, x + 2, p, k :: w, fu σ k (uS (σ k) (nS (σ k) + 2)), N, hR, hL.trans hL2, inv_adv (v := uS (σ k) (nS (σ k) + 2)) (cur := nC (σ k)) hi3 hwk wf2 dm rfl rfl rfl rfl (ca_S (s2 := nS (σ k) + 2) ca dm kN hkF kD so3 (by omega) (fun q => (sm_nq t8).symm.trans q) rfl rfl rfl rfl (Or.inl rfl) rfl) (ra_same ra rfl rfl rfl rfl rfl rfl rfl rfl) rfl dt3 (by
    show nC (σ k) ++ bnl (bnc (nK (σ k)) (nS (σ k) + 2)) (nA (σ k)) (nB (σ k)) = _
    rw [t5]
    exact List.append_nil _) hl0 (fun i hi => ?_) h8 h9 h10 h11 h12 h13 h14 g2 g3 h15 h16 hFw hFN hNp hpn hwp rt, ?_, ?_⟩
  · rw [hcur i (by omega), hup, getD_app_l hi]
  · omega
  · omega
end StepA
