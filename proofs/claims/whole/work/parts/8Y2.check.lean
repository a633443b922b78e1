/-! both check what they have read -/
/-- the types, as they are behind checking -/
def TyS (R R' : xSt) : Prop := ∃ (r17 r18 r19 r20 r21 r22 r23 r24 r25 r26 r27 r28 r29 r30 : List Int32) (i31 i32 i33 i34 i35 i36 : Int32) (l4 l5 l6 l7 : List Int64) (z1 : Bool), R' = tyR R r17 r18 r19 r20 r21 r22 r23 r24 r25 r26 r27 r28 r29 r30 i31 i32 i33 i34 i35 i36 l4 l5 l6 l7 z1 ∧ RQ17 (tyR R r17 r18 r19 r20 r21 r22 r23 r24 r25 r26 r27 r28 r29 r30 i31 i32 i33 i34 i35 i36 l4 l5 l6 l7 z1)
/-- our checker, as it is behind checking -/
def CkS (z : Bool) (nn : List Int64) (C C' : xSt) (f pl : Int32) : Prop := ∃ (g : Nat → List Int32) (a4 a5 a6 a7 : List Int32), C' = ckC (sZ C 5 z) z g nn a4 a5 a6 a7 f pl ∧ a7.length = 24
section Check
variable {T : List Int32} {σ : Nat → Nd} {δ : Nat → Dd} {N D n : Nat} {s t C R : xSt} {z : Bool}
theorem ge_dk (wf : WF 0 T σ N [] [] 0) (hw : ∀ d, d < D → Dw δ σ D N d) (hd : ∀ k, k < N → nD (σ k) < D) : DK σ δ D N := by
  refine ⟨hw, fun k hk => ⟨hd k hk, fun hp => ?_⟩⟩
  have hdk := hd k hk
  obtain ⟨⟨w1, w2, w3, w4, w5⟩, -, -, -, rt⟩ := hw _ hdk
  have hcov : ∀ D', D' ≤ D → ∀ k, k < N → (D' < D → k < dF (δ D')) → ∃ d, d < D' ∧ dF (δ d) ≤ k ∧ k < dE (δ d) := by
    intro D'
    induction D' with
    | zero =>
      intro h0 k hk h1
      by_cases c : D = 0
      · have := hd k hk
        omega
      · have h2 := h1 (by omega)
        have h3 := (hw 0 (by omega)).1.2.2.2.2 rfl
        omega
    | succ D' ih =>
      intro h0 k hk h1
      have hwD := (hw D' (by omega)).1
      by_cases c : dF (δ D') ≤ k
      · refine ⟨D', by omega, c, ?_⟩
        by_cases c2 : D' + 1 < D
        · rw [hwD.2.2.1 c2]
          exact h1 c2
        · rw [hwD.2.2.2.1 (by omega)]
          exact hk
      · obtain ⟨d, q1, q2, q3⟩ := ih (by omega) k hk (fun _ => by omega)
        exact ⟨d, by omega, q2, q3⟩
  obtain ⟨d, q1, q2, q3⟩ := hcov D (Nat.le_refl _) k hk (fun h => by omega)
  obtain ⟨⟨v1, v2, v3, v4, v5⟩, -, -, -, rt2⟩ := hw d q1
  have hkF : k = dF (δ d) := by
    by_cases c : k = dF (δ d)
    · exact c
    · have := rt2.2.2.2.2 k (by omega) q3
      omega
  have hnd : nD (σ k) = d := by rw [hkF]; exact rt2.2.2.1
  rw [hnd, hkF]
  exact rt2.2.1
set_option maxHeartbeats 4000000 in
theorem chk_ok (hT : gR s 0 = T) (hTn : T.length = n) (hn : gI t 20 = nI n) (hn4 : n ≤ 4088) (h7 : (gR s 7).length = 24) (hq : RQ17 t) (hG : GE T n s t z D σ N δ C R) : (∃ (fn : Nat) (pl : Int32) (nn : List Int64) (C3 R3 : xSt), (fn = 4 ∨ fn = 5 ∨ fn = 6) ∧ m100 z C = some C3 ∧ m206 R = some (nI fn, R3) ∧ nn.length = 64 ∧ CkS z nn C C3 (nI fn) pl ∧ TyS R R3 ∧ m208 (nI fn) (sI R3 2 (nI fn)) = some (pl, sI R3 2 (nI fn))) ∨ (∃ (C3 R3 : xSt) (nn : List Int64), m100 z C = some C3 ∧ m206 R = some (0, R3) ∧ nn.length = 64 ∧ CkS z nn C C3 0 (-1) ∧ TyS R R3 ∧ WF 0 T σ N [] [] 0 ∧ N < 4090 ∧ D ≤ 64 ∧ DK σ δ D N ∧ SP (mkG σ δ D N) ∧ SC (mkG σ δ D N) C3 z ∧ RdT σ δ D N R3 ∧ RB σ δ D N N (gR R3 29) (gR R3 30)) := by
  obtain ⟨g, nn, i3, i4, i5, i6, i7, i8, i9, j0, l0, qi23, qr2, qr3, qr4, qr5, qr6, qr7, qr8, qr9, qr10, qr11, qr12, qr13, qr14, qr15, qr16, qi22, qi24, qi25, qi26, qi29, qi30, qj0, ql0, ql1, ql2, ql3, eC, eR, ⟨wf, dm, dlt, ⟨cal, can⟩, ra⟩, hds, h0, ⟨⟨hl0, hi3⟩, hnn, l5, l6, l7, l8, l9⟩, ⟨a2, a3, a4, a5, a6, a7, b0, b1⟩, ⟨h8, h9, h10, h11, h12, h13, h14, g2, g3, h15, h16⟩, hNp, hD⟩ := hG
  subst hi3
  have hN : N < 4090 := by omega
  have dk : DK σ δ D N := ge_dk wf (fun d hd => (hds d hd).1) dlt
  have cg : CG σ δ D N g nn := by
    refine ⟨fun k hk => ?_, fun d hd => ⟨(hds d hd).2.1, (hds d hd).2.2.1⟩, cal 0 (by omega), cal 2 (by omega), l6, hnn⟩
    obtain ⟨c1, c2, c3, c4, c5, c6, c7⟩ := can k hk
    exact ⟨c1, c2, c3, c4, c5, c7 (wf.2.2.1 k hk (by simp)).1⟩
  have cv : CV σ δ D N 0 g := fun k hk hkc => by
    rw [if_neg (by omega)]
    have hr := (wf.2.1 k hk).1.1
    refine (can k hk).2.2.2.2.2.1 ?_
    rw [(wf.2.2.1 k hk (by simp)).1]
    exact (kc_tbl _ (by omega) hkc).2.2.2.2.2.2.2.2.2.2.2.2.2.2.1
  have hrd : RdT σ δ D N R := by
    rw [eR]
    exact ⟨⟨rfl, rfl⟩, ra, fun d hd => ⟨(hds d hd).2.2.2.1, (hds d hd).2.2.2.2⟩, ⟨a2, a3, a4, a5, a6, a7, b0, b1⟩, ⟨h8, h9, h10, h11, h13, h14, g2, g3⟩⟩
  have hR20 : gI R 20 = nI n := by rw [eR]; exact hn
  have hR6 : ∀ d, d < D → (gR R 6).getD d 0 = dL (δ d) := fun d hd => (hrd.2.2.1 d hd).1.2.2.1
  -- our side
  have eK : sR (sR (sR (sZ C 5 z) 4 (xsCut (gR C 4) 0)) 5 (xsCut (gR C 5) 0)) 6 (xsCut (gR C 6) 0) = ckC (sZ C 5 z) z g nn [] [] [] (gR s 7) 0 (-1) := by
    have e := ckC_id (sZ C 5 z) z
    have e1 : gP (sZ C 5 z) z = g := by
      rw [eC]
      funext i
      rw [gP_sZ, rdC_gP]
    have e2 : gN (sZ C 5 z) z = nn := by
      rw [eC, gN_sZ, rdC_gN]
    have e3 : gR (sZ C 5 z) 7 = gR s 7 := by rw [eC]; rfl
    have e4 : gI (sZ C 5 z) 2 = 0 := by rw [eC]; rfl
    have e5 : gI (sZ C 5 z) 3 = -1 := by rw [eC]; rfl
    rw [e1, e2, e3, e4, e5] at e
    rw [xsCut_0, xsCut_0, xsCut_0]
    conv => lhs; rw [← e]
    rw [ckC_sr4, ckC_sr5, ckC_sr6]
  have hm100 : m100 z C = (m101 (ckC (sZ C 5 z) z g nn [] [] [] (gR s 7) 0 (-1))).bind fun q1 => m100_35 1000000 0 q1 := by
    unfold m100
    rw [eK]
  have hz5 : gZ (sZ C 5 z) 5 = z := rfl
  have hT5 : gR (sZ C 5 z) 0 = T := by rw [eC]; exact hT
  -- the reference's side
  have hq' := hq
  obtain ⟨⟨y17, y18, y19, y20, y21, y22, y23, y24, y25, y26, y27, y4, y5, y6, y7⟩, y28, y29, y30⟩ := hq
  have eT : sI (sI (sZ (sI (sI (sI R 31 0) 32 0) 33 0) 1 false) 34 0) 35 (-1) = tyR R (gR t 17) (gR t 18) (gR t 19) (gR t 20) (gR t 21) (gR t 22) (gR t 23) (gR t 24) (gR t 25) (gR t 26) (gR t 27) (gR t 28) (gR t 29) (gR t 30) 0 (nI 0) (nI 0) 0 (-1) (gI t 36) (gL t 4) (gL t 5) (gL t 6) (gL t 7) false := by
    have e := tyR_id R
    have e' : R = tyR R (gR t 17) (gR t 18) (gR t 19) (gR t 20) (gR t 21) (gR t 22) (gR t 23) (gR t 24) (gR t 25) (gR t 26) (gR t 27) (gR t 28) (gR t 29) (gR t 30) (gI t 31) (gI t 32) (gI t 33) (gI t 34) (gI t 35) (gI t 36) (gL t 4) (gL t 5) (gL t 6) (gL t 7) (gZ t 1) := by
      conv => lhs; rw [← e]
      rw [eR]
      rfl
    conv => lhs; rw [e']
    simp only [tyR_si31, tyR_si32, tyR_si33, tyR_sz1, tyR_si34, tyR_si35]
    rfl
  obtain ⟨q17, q18, q19, q20, q21, q22, q23, q24, q25, q26, q27, v4, v5, v6, v7, v1, x1, hlt, td, tn⟩ := looks_go (t := R) (qr28 := gR t 28) (qr29 := gR t 29) (qr30 := gR t 30) (qi34 := 0) (qi35 := -1) (qi36 := gI t 36) hrd wf (by omega) hD h0 (fun d hd => (hds d hd).1) D 0 1000000 (gR t 17) (gR t 18) (gR t 19) (gR t 20) (gR t 21) (gR t 22) (gR t 23) (gR t 24) (gR t 25) (gR t 26) (gR t 27) (gL t 4) (gL t 5) (gL t 6) (gL t 7) false (by omega) (by omega) ⟨y17, y18, y19, y20, y21, y22, y23, y24, y25, y26, y27, y4, y5, y6, y7⟩ (fun d hd => by omega) (fun k hk => by
    have : bgn δ N 0 = 0 := rfl
    omega)
  have hlt' := hlt
  obtain ⟨u17, u18, u19, u20, u21, u22, u23, u24, u25, u26, u27, w4, w5, w6, w7⟩ := hlt'
  have hm206 : m206 R = m187 (tyR R q17 q18 q19 q20 q21 q22 q23 q24 q25 q26 q27 (gR t 28) (gR t 29) (gR t 30) 0 (nI D) (nI N) 0 (-1) (gI t 36) v4 v5 v6 v7 v1) := by
    unfold m206
    rw [eT]
    exact x1
  have h178 := m178_eq (t := R) (qr17 := q17) (qr18 := q18) (qr19 := q19) (qr20 := q20) (qr21 := q21) (qr22 := q22) (qr23 := q23) (qr24 := q24) (qr25 := q25) (qr26 := q26) (qr27 := q27) (qr28 := gR t 28) (qr29 := gR t 29) (qr30 := gR t 30) (qi31 := 0) (qi34 := 0) (qi35 := -1) (qi36 := gI t 36) (ql4 := v4) (ql5 := v5) (ql6 := v6) (ql7 := v7) (qz1 := v1) (M := D) (K := N) wf.1 (by omega) (Nat.le_refl N) hD tn u21 u23 u24 u27 (fun hp => ⟨dF (δ (D - 1)), (td (D - 1) (by omega)).2.2.2.1, by have := ((hds (D - 1) (by omega)).1).1; omega⟩) (by unfold tgt; rw [if_neg (by omega)])
  have hmr := main_r (t := R) (qr17 := q17) (qr18 := q18) (qr19 := q19) (qr20 := q20) (qr21 := q21) (qr22 := q22) (qr23 := q23) (qr24 := q24) (qr25 := q25) (qr26 := q26) (qr27 := q27) (qr28 := gR t 28) (qr29 := gR t 29) (qr30 := gR t 30) (qi31 := 0) (qi33 := nI N) (qi34 := 0) (qi35 := -1) (qi36 := 0) (ql4 := v4) (ql5 := v5) (ql6 := v6) (ql7 := v7) (qz1 := v1) wf hN hD dk td u17 u18 u19 u20 w4
  have hmc := main_c (s := sZ C 5 z) (z := z) (r4 := []) (r5 := []) (r6 := []) (r7 := gR s 7) (i3 := -1) hz5 hT5 wf hN hD dk cg
  have hm187 : m187 (tyR R q17 q18 q19 q20 q21 q22 q23 q24 q25 q26 q27 (gR t 28) (gR t 29) (gR t 30) 0 (nI D) (nI N) 0 (-1) (gI t 36) v4 v5 v6 v7 v1) = (m188 (tyR R q17 q18 q19 q20 q21 q22 q23 q24 q25 q26 q27 (gR t 28) (gR t 29) (gR t 30) 0 (nI D) (nI N) 0 (-1) 0 v4 v5 v6 v7 v1)).bind fun q3 => if q3.1 = true then m187_43 q3.2 else (m189 4 (-1) q3.2).bind fun q15 => m187_43 q15.2 := by
    unfold m187
    rw [tyR_si31, h178, bs, if_pos rfl, tyR_si34, tyR_si35, tyR_si36]
  by_cases hmn : MN δ D
  · have hcl := defns_ok (t := R) (qr17 := q17) (qr18 := q18) (qr19 := q19) (qr20 := q20) (qr21 := q21) (qr22 := q22) (qr23 := q23) (qr24 := q24) (qr25 := q25) (qr26 := q26) (qr27 := q27) (qi31 := 0) (qi35 := -1) (ql4 := v4) (ql5 := v5) (ql6 := v6) (ql7 := v7) (qz1 := v1) (s := sZ C 5 z) (z := z) (nn := nn) (i3 := -1) hz5 wf hN hD dk td tn hlt dm hT5 h0 D 0 1000000 1000000 g 0 0 [] [] [] (gR s 7) (gR t 28) (gR t 29) (gR t 30) (by omega) (by omega) (by omega) cg cv ⟨fun k hk => by
      have : bgn δ N 0 = 0 := rfl
      omega, y29, y30⟩ h7 ⟨y28, fun k hk => by
      have : bgn δ N 0 = 0 := rfl
      omega⟩
    have hcc : m100 z C = m100_35 1000000 (nI (bgn δ N 0 + 0)) (ckC (sZ C 5 z) z g nn [] [] [] (gR s 7) 0 (-1)) := by
      rw [hm100, hmc.1 hmn, bs]
      rfl
    have hrr : m206 R = m187_45 1000000 (nI (bgn δ N 0)) (tyR R q17 q18 q19 q20 q21 q22 q23 q24 q25 q26 q27 (gR t 28) (gR t 29) (gR t 30) 0 (nI D) (nI N) 0 (-1) 0 v4 v5 v6 v7 v1) := by
      rw [hm206, hm187, hmr.1 hmn, bs, if_pos rfl]
      rfl
    rw [hcc, hrr]
    rcases hcl with ⟨j', fn, pl, y, g', a4', a5', a6', a7', b28, b29, b30, e1, e2, e3, e4, e5, e6, e7, e8⟩ | ⟨g', y, a7', b28, b29, b30, e1, e2, e3, e4, e5, e6, e7⟩
    · refine Or.inl ⟨fn, pl, nn, _, _, ?_, e1, e2, hnn, ⟨g', a4', a5', a6', a7', rfl, e5⟩, ⟨q17, q18, q19, q20, q21, q22, q23, q24, q25, q26, q27, b28, b29, b30, 0, nI D, nI N, nI fn, nI j', y, v4, v5, v6, v7, false, rfl, ⟨hlt, e6, e7, e8⟩⟩, ?_⟩
      · rcases e4 with ⟨q, -⟩ | ⟨q, -⟩
        · exact Or.inr (Or.inl q)
        · exact Or.inr (Or.inr q)
      · have hj := hrd.2.1 j' e3
        rcases e4 with ⟨q, p⟩ | ⟨q, p⟩
        · subst q
          unfold m208
          rw [if_neg (by decide), if_pos (by decide)]
          have h1 : gR (sI (tyR R q17 q18 q19 q20 q21 q22 q23 q24 q25 q26 q27 b28 b29 b30 0 (nI D) (nI N) (nI 5) (nI j') y v4 v5 v6 v7 false) 2 (nI 5)) 11 = gR R 11 := rfl
          have h2 : gI (sI (tyR R q17 q18 q19 q20 q21 q22 q23 q24 q25 q26 q27 b28 b29 b30 0 (nI D) (nI N) (nI 5) (nI j') y v4 v5 v6 v7 false) 2 (nI 5)) 35 = nI j' := rfl
          rw [h1, h2, xsGet_d (by omega) (by have := hrd.2.2.2.2.2.2.2.1; omega), bs, hj.2.2.2.1, p]
        · subst q
          unfold m208
          rw [if_neg (by decide), if_neg (by decide)]
          have h1 : gR (sI (tyR R q17 q18 q19 q20 q21 q22 q23 q24 q25 q26 q27 b28 b29 b30 0 (nI D) (nI N) (nI 6) (nI j') y v4 v5 v6 v7 false) 2 (nI 6)) 10 = gR R 10 := rfl
          have h2 : gI (sI (tyR R q17 q18 q19 q20 q21 q22 q23 q24 q25 q26 q27 b28 b29 b30 0 (nI D) (nI N) (nI 6) (nI j') y v4 v5 v6 v7 false) 2 (nI 6)) 35 = nI j' := rfl
          rw [h1, h2, xsGet_d (by omega) (by have := hrd.2.2.2.2.2.2.1; omega), bs, hj.2.2.1, p]
    · exact Or.inr ⟨_, _, nn, e1, e2, hnn, ⟨g', [], [], [], a7', rfl, e3⟩, ⟨q17, q18, q19, q20, q21, q22, q23, q24, q25, q26, q27, b28, b29, b30, 0, nI D, nI N, 0, -1, y, v4, v5, v6, v7, true, rfl, ⟨hlt, e4.1, e7.2.1, e7.2.2⟩⟩, wf, hN, hD, dk, sp_all wf hN hD dk e4 e7 hmn, sc_all wf hN hD dk e7 e5 e6 (fun i => by rw [ckC_gP]), hrd, e7⟩
  · have hcc : m100 z C = some (ckC (sZ C 5 z) z g nn [] [] [] (gR s 7) (nI 4) (mpl T δ D)) := by
      rw [hm100, hmc.2 hmn, bs, c35_out (by omega) (by decide)]
      rfl
    have hrr : m206 R = some (nI 4, tyR R q17 q18 q19 q20 q21 q22 q23 q24 q25 q26 q27 (gR t 28) (gR t 29) (gR t 30) 0 (nI D) (nI N) (nI 4) (-1) 0 v4 v5 v6 v7 false) := by
      rw [hm206, hm187, hmr.2 hmn, bs, if_neg ff, m189_eq, bs]
      unfold m187_43
      rw [r45_out (by omega) (by decide)]
      rfl
    refine Or.inl ⟨4, mpl T δ D, nn, _, _, Or.inl rfl, hcc, hrr, hnn, ⟨g, [], [], [], gR s 7, rfl, h7⟩, ⟨q17, q18, q19, q20, q21, q22, q23, q24, q25, q26, q27, gR t 28, gR t 29, gR t 30, 0, nI D, nI N, nI 4, -1, 0, v4, v5, v6, v7, false, rfl, ⟨hlt, y28, y29, y30⟩⟩, ?_⟩
    unfold m208 mpl
    rw [if_pos (by decide)]
    have h1 : gI (sI (tyR R q17 q18 q19 q20 q21 q22 q23 q24 q25 q26 q27 (gR t 28) (gR t 29) (gR t 30) 0 (nI D) (nI N) (nI 4) (-1) 0 v4 v5 v6 v7 false) 2 (nI 4)) 27 = gI R 27 := rfl
    have h2 : gI (sI (tyR R q17 q18 q19 q20 q21 q22 q23 q24 q25 q26 q27 (gR t 28) (gR t 29) (gR t 30) 0 (nI D) (nI N) (nI 4) (-1) 0 v4 v5 v6 v7 false) 2 (nI 4)) 20 = gI R 20 := rfl
    have h3 : gR (sI (tyR R q17 q18 q19 q20 q21 q22 q23 q24 q25 q26 q27 (gR t 28) (gR t 29) (gR t 30) 0 (nI D) (nI N) (nI 4) (-1) 0 v4 v5 v6 v7 false) 2 (nI 4)) 6 = gR R 6 := rfl
    rw [h1, h2, h3, hrd.1.1, hR20]
    by_cases c : D = 0
    · rw [if_pos (by rw [c]; rfl), if_pos c, hTn]
    · obtain ⟨E, rfl⟩ : ∃ E, D = E + 1 := ⟨D - 1, by omega⟩
      rw [if_neg (by rw [eqL_0 (by omega)]; exact c), if_neg c, nI_pred, xsGet_d (by omega) (by have := hrd.2.2.2.1.2.2.2.2.1; omega), bs, hR6 E (by omega)]
      rfl
end Check
