/-! the reference comes to a node, and leaves it -/
section RfM
variable {T : List Int32} {σ : Nat → Nd} {δ : Nat → Dd} {N K M k d f D o i p e j : Nat} {t : xSt} {qr17 qr18 qr19 qr20 qr21 qr22 qr23 qr24 qr25 qr26 qr27 qr28 qr29 qr30 : List Int32} {qi31 qi32 qi33 qi34 qi35 qi36 : Int32} {ql4 ql5 ql6 ql7 : List Int64} {qz1 : Bool}
theorem m189_eq {a b : Int32} : m189 a b (tyR t qr17 qr18 qr19 qr20 qr21 qr22 qr23 qr24 qr25 qr26 qr27 qr28 qr29 qr30 qi31 qi32 qi33 0 qi35 qi36 ql4 ql5 ql6 ql7 qz1) = some (0, (tyR t qr17 qr18 qr19 qr20 qr21 qr22 qr23 qr24 qr25 qr26 qr27 qr28 qr29 qr30 qi31 qi32 qi33 a b qi36 ql4 ql5 ql6 ql7 qz1)) := by
  unfold m189
  rw [tyR_i34, if_pos rfl, tyR_si34, tyR_si35]
theorem bs_one {y : Int64} {v : Int32} (h : BS σ δ k y v) (h8 : (dP (δ (nD (σ k)))).length ≤ 8) (h24 : (nC (σ k)).length ≤ 24) (hk : k < 4096) : v = -1 ↔ lix (nC (σ k)) y (nC (σ k)).length = -1 := by
  rcases h with ⟨h1, h2⟩ | ⟨s, h1, h2, h3⟩
  · exact ⟨fun _ => h1, fun _ => h2⟩
  · have e1 : ¬ lix (nC (σ k)) y (nC (σ k)).length = -1 := by
      rw [h1, nI_ne1 (by omega)]
      exact id
    refine ⟨fun q => ?_, fun q => absurd q e1⟩
    exfalso
    rcases h3 with ⟨c1, c2⟩ | ⟨j, o, c1, c2, c3, c4, c5⟩
    · have e : ∀ s : Fin 8, ¬ (-2 - nI s.1 : Int32) = -1 := by decide +kernel
      exact e ⟨s, by omega⟩ (c2.symm.trans q)
    · rw [c4, nI_ne1 (by have := c1.1; omega)] at q
      exact q
theorem m190_to (wf : WF 0 T σ N [] [] 0) (hN : N < 4096) (hD : D ≤ 64) (hk : k < N) (hnd : nD (σ k) < D) (tn : TN σ N N qr22 qr23 qr24 qr25 qr26 qr27 ql6 ql7) (h19 : qr19.length = 64) (h22 : qr22.length = 4096) (h24 : qr24.length = 4096) (h25 : qr25.length = 4096) (h26 : qr26.length = 4096) : ∃ y, m190 (nI k) (tyR t qr17 qr18 qr19 qr20 qr21 qr22 qr23 qr24 qr25 qr26 qr27 qr28 qr29 qr30 qi31 qi32 qi33 qi34 qi35 qi36 ql4 ql5 ql6 ql7 qz1) = m190_56 (nI k) y (tyR t qr17 qr18 qr19 qr20 qr21 qr22 qr23 qr24 qr25 qr26 qr27 qr28 qr29 qr30 qi31 qi32 qi33 qi34 qi35 qi36 ql4 ql5 ql6 ql7 qz1) := by
  obtain ⟨v, hv⟩ := m191_eq (t := t) (qr17 := qr17) (qr18 := qr18) (qr19 := qr19) (qr20 := qr20) (qr21 := qr21) (qr22 := qr22) (qr23 := qr23) (qr24 := qr24) (qr25 := qr25) (qr26 := qr26) (qr27 := qr27) (qr28 := qr28) (qr29 := qr29) (qr30 := qr30) (qi31 := qi31) (qi32 := qi32) (qi33 := qi33) (qi34 := qi34) (qi35 := qi35) (qi36 := qi36) (ql4 := ql4) (ql5 := ql5) (ql6 := ql6) (ql7 := ql7) (qz1 := qz1) wf hN hD hk hnd tn h19 h22 h24 h25 h26
  have hr := (wf.2.1 k hk).1.1
  have h37 : ∀ y0 y1 : Int32, ∃ y, m190_37 (nI k) y0 y1 (tyR t qr17 qr18 qr19 qr20 qr21 qr22 qr23 qr24 qr25 qr26 qr27 qr28 qr29 qr30 qi31 qi32 qi33 qi34 qi35 qi36 ql4 ql5 ql6 ql7 qz1) = m190_56 (nI k) y (tyR t qr17 qr18 qr19 qr20 qr21 qr22 qr23 qr24 qr25 qr26 qr27 qr28 qr29 qr30 qi31 qi32 qi33 qi34 qi35 qi36 ql4 ql5 ql6 ql7 qz1) := fun y0 y1 => by
    unfold m190_37
    split
    · exact ⟨_, rfl⟩
    · exact ⟨_, rfl⟩
  unfold m190
  rw [hv, bs, tyR_r22, xsGet_d (by omega) (by omega), bs, (tn k hk).1, m184_eq hr, bs]
  split
  · exact h37 _ _
  · rw [show (1 : Int32) = nI 1 from rfl, m192_eq hk (by omega) hr (by omega) h22 (tn k hk).1, bs]
    split
    · exact h37 _ _
    · exact h37 _ _
theorem come_ok (wf : WF 0 T σ N [] [] 0) (hN : N < 4096) (hD : D ≤ 64) (dk : DK σ δ D N) (td : TD δ D qr17 qr18 qr19 qr20 qr21 ql4 ql5) (tn : TN σ N N qr22 qr23 qr24 qr25 qr26 qr27 ql6 ql7) (hk : k < N) (h17 : qr17.length = 64) (h19 : qr19.length = 64) (h22 : qr22.length = 4096) (h23 : qr23.length = 4096) (h24 : qr24.length = 4096) (h25 : qr25.length = 4096) (h26 : qr26.length = 4096) (h29 : qr29.length = 4096) (h30 : qr30.length = 4096) (h4 : ql4.length = 64) (h5 : ql5.length = 512) (h6 : ql6.length = 4096) (h7 : ql7.length = 4096) : ∃ (y a b : Int32), ((m190 (nI k) (tyR t qr17 qr18 qr19 qr20 qr21 qr22 qr23 qr24 qr25 qr26 qr27 qr28 qr29 qr30 qi31 (nI D) qi33 0 qi35 qi36 ql4 ql5 ql6 ql7 qz1) = some (tyR t qr17 qr18 qr19 qr20 qr21 qr22 qr23 qr24 qr25 qr26 qr27 qr28 (qr29.set k a) (qr30.set k b) qi31 (nI D) qi33 0 qi35 y ql4 ql5 ql6 ql7 qz1) ∧ (nK (σ k) = 1 → BS σ δ k (nA (σ k)) a ∧ ¬ a = -1) ∧ (kc (nK (σ k)) = true → ∃ e, e < D ∧ b = nI e ∧ dN (δ e) = nA (σ k) ∧ dH (δ e) = decide (nK (σ k) = 23) ∧ (dP (δ e)).length = pcnt (pr σ) k N)) ∨ (m190 (nI k) (tyR t qr17 qr18 qr19 qr20 qr21 qr22 qr23 qr24 qr25 qr26 qr27 qr28 qr29 qr30 qi31 (nI D) qi33 0 qi35 qi36 ql4 ql5 ql6 ql7 qz1) = some (tyR t qr17 qr18 qr19 qr20 qr21 qr22 qr23 qr24 qr25 qr26 qr27 qr28 (qr29.set k a) (qr30.set k b) qi31 (nI D) qi33 5 (nI k) y ql4 ql5 ql6 ql7 qz1) ∧ ((nK (σ k) = 1 ∧ lix (nC (σ k)) (nA (σ k)) (nC (σ k)).length = -1) ∨ (kc (nK (σ k)) = true ∧ ∀ e, e < D → dN (δ e) = nA (σ k) → ¬ (dH (δ e) = decide (nK (σ k) = 23) ∧ (dP (δ e)).length = pcnt (pr σ) k N))))) := by
  obtain ⟨hnd, hroot⟩ := dk.2 k hk
  obtain ⟨y, hy⟩ := m190_to (t := t) (qr17 := qr17) (qr18 := qr18) (qr19 := qr19) (qr20 := qr20) (qr21 := qr21) (qr22 := qr22) (qr23 := qr23) (qr24 := qr24) (qr25 := qr25) (qr26 := qr26) (qr27 := qr27) (qr28 := qr28) (qr29 := qr29) (qr30 := qr30) (qi31 := qi31) (qi33 := qi33) (qi35 := qi35) (qi36 := qi36) (ql4 := ql4) (ql5 := ql5) (ql6 := ql6) (ql7 := ql7) (qz1 := qz1) (qi32 := nI D) (qi34 := 0) wf hN hD hk hnd tn h19 h22 h24 h25 h26
  obtain ⟨t1, t2, t3, t4, t5, t6, t7, t8⟩ := tn k hk
  have hno := (wf.2.1 k hk).1
  have hr := hno.1
  have hcl := (wf.2.2.1 k hk (by simp)).1
  have hg8 := (dk.1 _ hnd).2.1.1
  rw [hy]
  refine ⟨y, ?_⟩
  have hpre : ∀ (X : Option xSt), ((if nI (nK (σ k)) = 1 then (m193 (nI k) (nA (σ k)) (tyR t qr17 qr18 qr19 qr20 qr21 qr22 qr23 qr24 qr25 qr26 qr27 qr28 (qr29.set k (-1)) (qr30.set k (-1)) qi31 (nI D) qi33 0 qi35 y ql4 ql5 ql6 ql7 qz1)).bind fun q11 => (xsPut (gR q11.2 29) (nI k) q11.1).bind fun u12 => (xsGet u12 (nI k)).bind fun v13 => if v13 = (-1) then (m189 5 (nI k) (sR q11.2 29 u12)).bind fun q15 => some q15.2 else some (sR q11.2 29 u12) else (m185 (nI (nK (σ k))) (tyR t qr17 qr18 qr19 qr20 qr21 qr22 qr23 qr24 qr25 qr26 qr27 qr28 (qr29.set k (-1)) (qr30.set k (-1)) qi31 (nI D) qi33 0 qi35 y ql4 ql5 ql6 ql7 qz1)).bind fun q17 => if 0 ≤ q17.1 then some q17.2 else (m194 (nI k) q17.2).bind fun q19 => (xsPut (gR q19.2 30) (nI k) q19.1).bind fun u20 => (xsGet u20 (nI k)).bind fun v21 => if 0 ≤ v21 then some (sR q19.2 30 u20) else (m189 5 (nI k) (sR q19.2 30 u20)).bind fun q23 => some q23.2) = X) → m190_56 (nI k) y (tyR t qr17 qr18 qr19 qr20 qr21 qr22 qr23 qr24 qr25 qr26 qr27 qr28 qr29 qr30 qi31 (nI D) qi33 0 qi35 qi36 ql4 ql5 ql6 ql7 qz1) = X := fun X hX => by
    unfold m190_56
    rw [tyR_r29, xsPut_n (by omega) (by omega), bs, tyR_r30, xsPut_n (by omega) (by omega), bs, tyR_r22, xsGet_d (by omega) (by omega), bs, bs, t1, tyR_l6, xlGet_d (by omega) (by omega), bs, t7, tyR_si36, tyR_sr29, tyR_sr30]
    exact hX
  by_cases c1 : nK (σ k) = 1
  · have hpos : 0 < nA (σ k) := hno.2.2.1 (by rw [c1]; rfl)
    obtain ⟨v, v1, v2⟩ := m193_eq (t := t) (qr17 := qr17) (qr18 := qr18) (qr19 := qr19) (qr20 := qr20) (qr21 := qr21) (qr22 := qr22) (qr23 := qr23) (qr24 := qr24) (qr25 := qr25) (qr26 := qr26) (qr27 := qr27) (qr28 := qr28) (qr29 := qr29.set k (-1)) (qr30 := qr30.set k (-1)) (qi31 := qi31) (qi32 := nI D) (qi33 := qi33) (qi34 := 0) (qi35 := qi35) (qi36 := y) (ql4 := ql4) (ql5 := ql5) (ql6 := ql6) (ql7 := ql7) (qz1 := qz1) (k0 := k) hpos wf hN hD dk.1 dk.2 td tn hk h19 h5 h22 h24 h25 h26 h6 h7 k 1000000 hk (by omega) rfl
    have v1' : m193 (nI k) (nA (σ k)) (tyR t qr17 qr18 qr19 qr20 qr21 qr22 qr23 qr24 qr25 qr26 qr27 qr28 (qr29.set k (-1)) (qr30.set k (-1)) qi31 (nI D) qi33 0 qi35 y ql4 ql5 ql6 ql7 qz1) = some (v, (tyR t qr17 qr18 qr19 qr20 qr21 qr22 qr23 qr24 qr25 qr26 qr27 qr28 (qr29.set k (-1)) (qr30.set k (-1)) qi31 (nI D) qi33 0 qi35 y ql4 ql5 ql6 ql7 qz1)) := v1
    have hone := bs_one v2 hg8 hno.2.1 (by omega)
    have hset : (qr29.set k (-1)).set k v = qr29.set k v := List.set_set ..
    refine ⟨v, -1, ?_⟩
    by_cases cv : v = -1
    · refine Or.inr ⟨hpre _ ?_, Or.inl ⟨c1, hone.mp cv⟩⟩
      rw [if_pos (by rw [eqL_1 (by omega)]; exact c1), v1', bs, tyR_r29, xsPut_n (by omega) (by rw [List.length_set]; omega), bs, hset, xsGet_d (by omega) (by rw [List.length_set]; omega), bs, getD_setn (by omega), if_pos rfl, if_pos cv, tyR_sr29, m189_eq, bs]
    · refine Or.inl ⟨hpre _ ?_, fun _ => ⟨v2, cv⟩, fun q => by rw [c1] at q; exact absurd q (by decide)⟩
      rw [if_pos (by rw [eqL_1 (by omega)]; exact c1), v1', bs, tyR_r29, xsPut_n (by omega) (by rw [List.length_set]; omega), bs, hset, xsGet_d (by omega) (by rw [List.length_set]; omega), bs, getD_setn (by omega), if_pos rfl, if_neg cv, tyR_sr29]
  · have hn1 : ¬ nI (nK (σ k)) = 1 := by rw [eqL_1 (by omega)]; exact c1
    cases hkc : kc (nK (σ k))
    · refine ⟨-1, -1, Or.inl ⟨hpre _ ?_, fun q => absurd q c1, fun q => absurd q ff⟩⟩
      rw [if_neg hn1, m185_eq hr, bs, hkc, if_neg ff]
      have hct : ct (nK (σ k)) 100 < 1000 := by
        have e : ∀ r, r < 24 → ct r 100 < 1000 := by decide +kernel
        exact e _ (by omega)
      rw [if_pos (nI_pos' (by omega))]
    · obtain ⟨v, v1, v2⟩ := m194_eq (t := t) (qr17 := qr17) (qr18 := qr18) (qr19 := qr19) (qr20 := qr20) (qr21 := qr21) (qr22 := qr22) (qr23 := qr23) (qr24 := qr24) (qr25 := qr25) (qr26 := qr26) (qr27 := qr27) (qr28 := qr28) (qr29 := qr29.set k (-1)) (qr30 := qr30.set k (-1)) (qi31 := qi31) (qi33 := qi33) (qi34 := 0) (qi35 := qi35) (qi36 := y) (ql4 := ql4) (ql5 := ql5) (ql6 := ql6) (ql7 := ql7) (qz1 := qz1) (k := k) hN hD hk hr (fun d hd => (dk.1 d hd).2.2.2.1) (fun d hd => (dk.1 d hd).2.1) td tn h17 h19 h22 h23 h4 h6
      have hset : (qr30.set k (-1)).set k v = qr30.set k v := List.set_set ..
      refine ⟨-1, v, ?_⟩
      have hgo : ∀ X : Option xSt, (if 0 ≤ v then some (tyR t qr17 qr18 qr19 qr20 qr21 qr22 qr23 qr24 qr25 qr26 qr27 qr28 (qr29.set k (-1)) (qr30.set k v) qi31 (nI D) qi33 0 qi35 y ql4 ql5 ql6 ql7 qz1) else some (tyR t qr17 qr18 qr19 qr20 qr21 qr22 qr23 qr24 qr25 qr26 qr27 qr28 (qr29.set k (-1)) (qr30.set k v) qi31 (nI D) qi33 5 (nI k) y ql4 ql5 ql6 ql7 qz1)) = X → m190_56 (nI k) y (tyR t qr17 qr18 qr19 qr20 qr21 qr22 qr23 qr24 qr25 qr26 qr27 qr28 qr29 qr30 qi31 (nI D) qi33 0 qi35 qi36 ql4 ql5 ql6 ql7 qz1) = X := fun X hX => hpre X (by
        rw [if_neg hn1, m185_eq hr, bs, hkc, if_pos rfl, if_neg (show ¬ (0 : Int32) ≤ -1 by decide), v1, bs, tyR_r30, xsPut_n (by omega) (by rw [List.length_set]; omega), bs, hset, xsGet_d (by omega) (by rw [List.length_set]; omega), bs, getD_setn (by omega), if_pos rfl, tyR_sr30, m189_eq, bs]
        exact hX)
      rcases v2 with ⟨q1, q2⟩ | ⟨e, q1, q2, q3, q4, q5⟩
      · refine Or.inr ⟨hgo _ (by rw [if_neg (by rw [q1]; decide)]), Or.inr ⟨rfl, q2⟩⟩
      · refine Or.inl ⟨hgo _ (by rw [if_pos (by rw [q2]; exact nI_pos' (by omega))]), fun q => absurd q c1, fun _ => ⟨e, q1, q2, q3, q4, q5⟩⟩
/-- is it the end of a node -/
theorem m195_eq (wf : WF 0 T σ N [] [] 0) (hN : N < 4096) (tn : TN σ N N qr22 qr23 qr24 qr25 qr26 qr27 ql6 ql7) (h24 : qr24.length = 4096) (hK : K < N) (hj : j ≤ K) (hjK : K < j + nZ (σ j)) : m195 (nI j) (nI (K + 1)) (nI N) (tyR t qr17 qr18 qr19 qr20 qr21 qr22 qr23 qr24 qr25 qr26 qr27 qr28 qr29 qr30 qi31 qi32 qi33 qi34 qi35 qi36 ql4 ql5 ql6 ql7 qz1) = some (decide (j + nZ (σ j) = K + 1), (tyR t qr17 qr18 qr19 qr20 qr21 qr22 qr23 qr24 qr25 qr26 qr27 qr28 qr29 qr30 qi31 qi32 qi33 qi34 qi35 qi36 ql4 ql5 ql6 ql7 qz1)) := by
  obtain ⟨b1, b2, b3, b4, b5, -⟩ := wf.2.2.1 j (by omega) (by simp)
  unfold m195
  by_cases c : K + 1 = N
  · rw [if_pos (by rw [c]), decide_eq_true (by omega)]
  · obtain ⟨t1, t2, t3, -⟩ := tn (K + 1) (by omega)
    rw [if_neg (by rw [eqN (by omega) (by omega)]; exact c), tyR_r24, xsGet_d (by omega) (by omega), bs, t3]
    have hP := wf.1 (K + 1) (by omega)
    by_cases ce : j + nZ (σ j) = K + 1
    · have h5 := b5 (by omega)
      rw [ce] at h5
      have h5' : nP (σ (K + 1)) < (j : Int) := h5
      rw [decide_eq_true ce, if_neg (fun q => by
        rcases pI_cases (nP (σ (K + 1))) hP.1 with ⟨e1, e2⟩ | ⟨q', e1, e2⟩
        · rw [e2] at q
          exact absurd (Int32.lt_of_lt_of_le (show (-1 : Int32) < 0 by decide) (Int32.le_trans (nI_pos' (by omega)) q)) (by decide)
        · rw [e2, leN (by omega) (by omega)] at q
          omega)]
    · have h4 := b4 (K + 1) (by omega) (by omega)
      have h4' : (j : Int) ≤ nP (σ (K + 1)) := h4
      obtain ⟨q', e1, e2⟩ : ∃ q' : Nat, nP (σ (K + 1)) = (q' : Int) ∧ pI (nP (σ (K + 1))) = nI q' := by
        rcases pI_cases (nP (σ (K + 1))) hP.1 with ⟨e1, e2⟩ | h
        · omega
        · exact h
      have hlt : pr σ (K + 1) < ((K + 1 : Nat) : Int) := hP.2.1
      have hlt' : nP (σ (K + 1)) < ((K + 1 : Nat) : Int) := hlt
      rw [decide_eq_false ce, e2, if_pos (by rw [leN (by omega) (by omega)]; omega)]
theorem m196_eq {y : Nat} {b : Bool} (hj : j < 4096) (h28 : qr28.length = 4096) (h197 : m197 (nI j) (tyR t qr17 qr18 qr19 qr20 qr21 qr22 qr23 qr24 qr25 qr26 qr27 qr28 qr29 qr30 qi31 qi32 qi33 0 qi35 qi36 ql4 ql5 ql6 ql7 qz1) = some (nI y, (tyR t qr17 qr18 qr19 qr20 qr21 qr22 qr23 qr24 qr25 qr26 qr27 qr28 qr29 qr30 qi31 qi32 qi33 0 qi35 qi36 ql4 ql5 ql6 ql7 qz1))) (h200 : m200 (nI j) (nI y) (tyR t qr17 qr18 qr19 qr20 qr21 qr22 qr23 qr24 qr25 qr26 qr27 (qr28.set j (nI y)) qr29 qr30 qi31 qi32 qi33 0 qi35 qi36 ql4 ql5 ql6 ql7 qz1) = some (b, (tyR t qr17 qr18 qr19 qr20 qr21 qr22 qr23 qr24 qr25 qr26 qr27 (qr28.set j (nI y)) qr29 qr30 qi31 qi32 qi33 0 qi35 qi36 ql4 ql5 ql6 ql7 qz1))) : m196 (nI j) (tyR t qr17 qr18 qr19 qr20 qr21 qr22 qr23 qr24 qr25 qr26 qr27 qr28 qr29 qr30 qi31 qi32 qi33 0 qi35 qi36 ql4 ql5 ql6 ql7 qz1) = if b = true then some (tyR t qr17 qr18 qr19 qr20 qr21 qr22 qr23 qr24 qr25 qr26 qr27 (qr28.set j (nI y)) qr29 qr30 qi31 qi32 qi33 0 qi35 qi36 ql4 ql5 ql6 ql7 qz1) else some (tyR t qr17 qr18 qr19 qr20 qr21 qr22 qr23 qr24 qr25 qr26 qr27 (qr28.set j (nI y)) qr29 qr30 qi31 qi32 qi33 6 (nI j) qi36 ql4 ql5 ql6 ql7 qz1) := by
  unfold m196
  rw [tyR_i34, if_pos rfl, h197, bs, tyR_r28, xsPut_n (by omega) (by omega), bs, xsGet_d (by omega) (by rw [List.length_set]; omega), bs, getD_setn (by omega), if_pos rfl, tyR_sr28, h200, bs, m189_eq, bs]
end RfM
