/-! what the reference finds: who binds a name, which part -/
section Bind
variable {T : List Int32} {σ : Nat → Nd} {δ : Nat → Dd} {N K M k d f D o i : Nat} {S : xSt} {t : xSt} {qr17 qr18 qr19 qr20 qr21 qr22 qr23 qr24 qr25 qr26 qr27 qr28 qr29 qr30 : List Int32} {qi31 qi32 qi33 qi34 qi35 qi36 : Int32} {ql4 ql5 ql6 ql7 : List Int64} {qz1 : Bool}
theorem bpc_b : ∀ r, r < 24 → ∀ i, i < 3 → decide (0 < bpc r i) = (((r == 11 || r == 21 || r == 18) && i == 1) || (kz r && i == 2)) := by decide +kernel
theorem bpc_ge {r i : Nat} (h : 3 ≤ i) : bpc r i = 0 := by
  unfold bpc
  rw [if_neg (show ¬ i = 1 by omega), if_neg (show ¬ i = 2 by omega), ite_self, ite_self]
theorem bpc_dec {r i : Nat} (hr : r < 24) : decide (0 < bpc r i) = (((r == 11 || r == 21 || r == 18) && i == 1) || (kz r && i == 2)) := by
  by_cases c : i < 3
  · exact bpc_b r hr i c
  · rw [bpc_ge (by omega), show (i == 1) = false from beq_eq_false_iff_ne.mpr (by omega), show (i == 2) = false from beq_eq_false_iff_ne.mpr (by omega), Bool.and_false, Bool.and_false]
    rfl
/-- does a node bind around its part -/
theorem m192_eq (hk : o < K) (hK : K ≤ 4096) (hr : nK (σ o) ≤ 23) (hi : i < 10000) (h22 : qr22.length = 4096) (hv : qr22.getD o 0 = nI (nK (σ o))) : m192 (nI o) (nI i) (tyR t qr17 qr18 qr19 qr20 qr21 qr22 qr23 qr24 qr25 qr26 qr27 qr28 qr29 qr30 qi31 qi32 qi33 qi34 qi35 qi36 ql4 ql5 ql6 ql7 qz1) = some (decide (0 < bpc (nK (σ o)) i), (tyR t qr17 qr18 qr19 qr20 qr21 qr22 qr23 qr24 qr25 qr26 qr27 qr28 qr29 qr30 qi31 qi32 qi33 qi34 qi35 qi36 ql4 ql5 ql6 ql7 qz1)) := by
  unfold m192 m192_25 m192_30
  rw [tyR_r22, xsGet_d (by omega) (by omega), bs, hv, bpc_dec (by omega), m184_eq hr, bs]
  have e1 : (nI i = 1) = (i = 1) := eqL_1 (by omega)
  have e2 : (nI i = 2) = (i = 2) := eqL_2 (by omega)
  have h30 : (if kz (nK (σ o)) = true then (if nI i = 2 then some (true, (tyR t qr17 qr18 qr19 qr20 qr21 qr22 qr23 qr24 qr25 qr26 qr27 qr28 qr29 qr30 qi31 qi32 qi33 qi34 qi35 qi36 ql4 ql5 ql6 ql7 qz1)) else some (false, (tyR t qr17 qr18 qr19 qr20 qr21 qr22 qr23 qr24 qr25 qr26 qr27 qr28 qr29 qr30 qi31 qi32 qi33 qi34 qi35 qi36 ql4 ql5 ql6 ql7 qz1))) else some (false, (tyR t qr17 qr18 qr19 qr20 qr21 qr22 qr23 qr24 qr25 qr26 qr27 qr28 qr29 qr30 qi31 qi32 qi33 qi34 qi35 qi36 ql4 ql5 ql6 ql7 qz1))) = some (kz (nK (σ o)) && i == 2, (tyR t qr17 qr18 qr19 qr20 qr21 qr22 qr23 qr24 qr25 qr26 qr27 qr28 qr29 qr30 qi31 qi32 qi33 qi34 qi35 qi36 ql4 ql5 ql6 ql7 qz1)) := by
    cases hz : kz (nK (σ o))
    · rw [if_neg ff]; rfl
    · rw [if_pos rfl]
      by_cases c : i = 2
      · rw [if_pos (e2.mpr c), c]; rfl
      · rw [if_neg (fun q => c (e2.mp q)), show (i == 2) = false from beq_eq_false_iff_ne.mpr c]; rfl
  have h25 : ∀ b : Bool, b = true → (if nI i = 1 then some (true, (tyR t qr17 qr18 qr19 qr20 qr21 qr22 qr23 qr24 qr25 qr26 qr27 qr28 qr29 qr30 qi31 qi32 qi33 qi34 qi35 qi36 ql4 ql5 ql6 ql7 qz1)) else (if kz (nK (σ o)) = true then (if nI i = 2 then some (true, (tyR t qr17 qr18 qr19 qr20 qr21 qr22 qr23 qr24 qr25 qr26 qr27 qr28 qr29 qr30 qi31 qi32 qi33 qi34 qi35 qi36 ql4 ql5 ql6 ql7 qz1)) else some (false, (tyR t qr17 qr18 qr19 qr20 qr21 qr22 qr23 qr24 qr25 qr26 qr27 qr28 qr29 qr30 qi31 qi32 qi33 qi34 qi35 qi36 ql4 ql5 ql6 ql7 qz1))) else some (false, (tyR t qr17 qr18 qr19 qr20 qr21 qr22 qr23 qr24 qr25 qr26 qr27 qr28 qr29 qr30 qi31 qi32 qi33 qi34 qi35 qi36 ql4 ql5 ql6 ql7 qz1)))) = some ((b && i == 1) || (kz (nK (σ o)) && i == 2), (tyR t qr17 qr18 qr19 qr20 qr21 qr22 qr23 qr24 qr25 qr26 qr27 qr28 qr29 qr30 qi31 qi32 qi33 qi34 qi35 qi36 ql4 ql5 ql6 ql7 qz1)) := fun b hb => by
    rw [hb, h30]
    by_cases c : i = 1
    · rw [if_pos (e1.mpr c), c]; rfl
    · rw [if_neg (fun q => c (e1.mp q)), show (i == 1) = false from beq_eq_false_iff_ne.mpr c]; rfl
  by_cases c1 : nK (σ o) = 11
  · rw [if_pos (by rw [eqL_11 (by omega)]; exact c1)]
    exact h25 _ (by rw [c1]; rfl)
  · rw [if_neg (by rw [eqL_11 (by omega)]; exact c1)]
    by_cases c2 : nK (σ o) = 21
    · rw [if_pos (by rw [eqL_21 (by omega)]; exact c2)]
      exact h25 _ (by rw [c2]; rfl)
    · rw [if_neg (by rw [eqL_21 (by omega)]; exact c2)]
      by_cases c3 : nK (σ o) = 18
      · rw [if_pos (by rw [eqL_18 (by omega)]; exact c3)]
        exact h25 _ (by rw [c3]; rfl)
      · rw [if_neg (by rw [eqL_18 (by omega)]; exact c3), h30]
        rw [show (nK (σ o) == 11) = false from beq_eq_false_iff_ne.mpr c1, show (nK (σ o) == 21) = false from beq_eq_false_iff_ne.mpr c2, show (nK (σ o) == 18) = false from beq_eq_false_iff_ne.mpr c3]
        rfl
theorem lix_app (l : List Int64) (a y : Int64) : lix (l ++ [a]) y (l.length + 1) = if a = y then nI l.length else lix l y l.length := by
  show (if (l ++ [a]).getD l.length 0 = y then nI l.length else lix (l ++ [a]) y l.length) = _
  rw [getD_app_e, lix_congr (k := l) l.length (fun i hi => getD_app_l hi)]
/-- the nodes above each other, as parts -/
def Up (σ : Nat → Nd) (j k : Nat) : Prop := An (pr σ) j k
/-- what is found for a name: nothing, a parameter, or a node above with the part that it binds around -/
def BS (σ : Nat → Nd) (δ : Nat → Dd) (k : Nat) (y : Int64) (v : Int32) : Prop :=
  (lix (nC (σ k)) y (nC (σ k)).length = -1 ∧ v = -1) ∨
  (∃ s, lix (nC (σ k)) y (nC (σ k)).length = nI s ∧ s < (nC (σ k)).length ∧
    ((s < (dP (δ (nD (σ k)))).length ∧ v = -2 - nI s) ∨
     ∃ j o : Nat, An (pr σ) j k ∧ nP (σ j) = (o : Int) ∧ o < j ∧ v = nI o ∧ ((s = (nC (σ o)).length ∧ nA (σ o) = y ∧ 0 < bpc (nK (σ o)) (pq σ j)) ∨ (s = (nC (σ o)).length + 1 ∧ nB (σ o) = y ∧ bpc (nK (σ o)) (pq σ j) = 2))))
theorem m193_par {y : Int64} (hd : d < D) (hD : D ≤ 64) (td : TD δ D qr17 qr18 qr19 qr20 qr21 ql4 ql5) (hg : Dg (δ d)) (h19 : qr19.length = 64) (h5 : ql5.length = 512) : ∀ (m i f : Nat), i + m = (dP (δ d)).length → m < f → (∀ e, e < i → ¬ (dP (δ d)).getD e 0 = y) → ∃ v, m193_88 f y (nI d) (nI i) (tyR t qr17 qr18 qr19 qr20 qr21 qr22 qr23 qr24 qr25 qr26 qr27 qr28 qr29 qr30 qi31 qi32 qi33 qi34 qi35 qi36 ql4 ql5 ql6 ql7 qz1) = some (v, (tyR t qr17 qr18 qr19 qr20 qr21 qr22 qr23 qr24 qr25 qr26 qr27 qr28 qr29 qr30 qi31 qi32 qi33 qi34 qi35 qi36 ql4 ql5 ql6 ql7 qz1)) ∧ ((v = -1 ∧ ∀ e, e < (dP (δ d)).length → ¬ (dP (δ d)).getD e 0 = y) ∨ ∃ s, s < (dP (δ d)).length ∧ (dP (δ d)).getD s 0 = y ∧ v = -2 - nI s) := by
  obtain ⟨t1, t2, t3, t4, t5, t6⟩ := td d hd
  have hg8 := hg.1
  intro m
  induction m with
  | zero =>
    intro i f hi hf hne
    obtain ⟨f, rfl⟩ : ∃ f', f = f' + 1 := ⟨f - 1, by omega⟩
    refine ⟨-1, ?_, Or.inl ⟨rfl, fun e he => hne e (by omega)⟩⟩
    unfold m193_88
    rw [tyR_r19, xsGet_d (by omega) (by omega), bs, t3, if_pos (by rw [leN (by omega) (by omega)]; omega)]
  | succ m ih =>
    intro i f hi hf hne
    obtain ⟨f, rfl⟩ : ∃ f', f = f' + 1 := ⟨f - 1, by omega⟩
    unfold m193_88
    rw [tyR_r19, xsGet_d (by omega) (by omega), bs, t3, if_neg (by rw [leN (by omega) (by omega)]; omega), tyR_l5, nI_8x, xlGet_d (by omega) (by omega), bs, (t6 i (by omega)).1]
    by_cases c : (dP (δ d)).getD i 0 = y
    · rw [if_pos ((lg_cmp_eq _ _).mpr c)]
      exact ⟨_, rfl, Or.inr ⟨i, by omega, c, rfl⟩⟩
    · rw [if_neg (fun q => c ((lg_cmp_eq _ _).mp q)), nI_1]
      exact ih (i + 1) f (by omega) (by omega) (fun e he => by
        by_cases ce : e = i
        · rw [ce]; exact c
        · exact hne e (by omega))
theorem lix_last {l : List Int64} {y : Int64} {s : Nat} : ∀ m, s < m → m < 1000 → l.getD s 0 = y → (∀ e, s < e → e < m → ¬ l.getD e 0 = y) → lix l y m = nI s := by
  intro m
  induction m with
  | zero => intro h; omega
  | succ m ih =>
    intro h hm hs he
    have e : lix l y (m + 1) = if l.getD m 0 = y then nI m else lix l y m := rfl
    rw [e]
    by_cases c : m = s
    · rw [c, if_pos hs]
    · rw [if_neg (he m (by omega) (by omega))]
      exact ih (by omega) (by omega) hs (fun e' h1 h2 => he e' h1 (by omega))
/-- who binds the name -/
theorem m193_eq {y : Int64} {k0 : Nat} (hy : 0 < y) (wf : WF 0 T σ N [] [] 0) (hN : N < 4096) (hD : D ≤ 64) (hw : ∀ d, d < D → Dw δ σ D N d) (hnd : ∀ k, k < N → nD (σ k) < D ∧ (nP (σ k) = -1 → nC (σ k) = dP (δ (nD (σ k))))) (td : TD δ D qr17 qr18 qr19 qr20 qr21 ql4 ql5) (tn : TN σ N N qr22 qr23 qr24 qr25 qr26 qr27 ql6 ql7) (hk0 : k0 < N) (h19 : qr19.length = 64) (h5 : ql5.length = 512) (h22 : qr22.length = 4096) (h24 : qr24.length = 4096) (h25 : qr25.length = 4096) (h26 : qr26.length = 4096) (h6 : ql6.length = 4096) (h7 : ql7.length = 4096) : ∀ (k f : Nat), k < N → k < f → nD (σ k) = nD (σ k0) → ∃ v, m193_3 f (nI k0) y (nI k) (tyR t qr17 qr18 qr19 qr20 qr21 qr22 qr23 qr24 qr25 qr26 qr27 qr28 qr29 qr30 qi31 qi32 qi33 qi34 qi35 qi36 ql4 ql5 ql6 ql7 qz1) = some (v, (tyR t qr17 qr18 qr19 qr20 qr21 qr22 qr23 qr24 qr25 qr26 qr27 qr28 qr29 qr30 qi31 qi32 qi33 qi34 qi35 qi36 ql4 ql5 ql6 ql7 qz1)) ∧ BS σ δ k y v := by
  obtain ⟨p1, p2, p3, p4, p5, p6⟩ := wf
  intro k
  induction k using Nat.strongRecOn with
  | _ k ih =>
    intro f hk hf hdk
    obtain ⟨f, rfl⟩ : ∃ f', f = f' + 1 := ⟨f - 1, by omega⟩
    obtain ⟨t1, t2, t3, t4, t5, t6, t7, t8⟩ := tn k hk
    obtain ⟨s1, s2, s3, s4, s5, s6, s7, s8⟩ := tn k0 hk0
    have hC24 := (p2 k hk).1.2.1
    unfold m193_3
    rw [tyR_r24, xsGet_d (by omega) (by omega), bs, t3]
    rcases (p2 k hk).2.1 with hr | ⟨o, o1, o2, o3, o4, o5⟩
    · rw [hr, show pI (-1) = -1 from rfl, if_pos (by decide), tyR_r26, xsGet_d (by omega) (by omega), bs, s5, ← hdk]
      obtain ⟨hdD, hps⟩ := hnd k hk
      have hg := (hw (nD (σ k)) hdD).2.1
      obtain ⟨v, v1, v2⟩ := m193_par (t := t) (qr17 := qr17) (qr18 := qr18) (qr19 := qr19) (qr20 := qr20) (qr21 := qr21) (qr22 := qr22) (qr23 := qr23) (qr24 := qr24) (qr25 := qr25) (qr26 := qr26) (qr27 := qr27) (qr28 := qr28) (qr29 := qr29) (qr30 := qr30) (qi31 := qi31) (qi32 := qi32) (qi33 := qi33) (qi34 := qi34) (qi35 := qi35) (qi36 := qi36) (ql4 := ql4) (ql5 := ql5) (ql6 := ql6) (ql7 := ql7) (qz1 := qz1) (y := y) hdD hD td hg h19 h5 (dP (δ (nD (σ k)))).length 0 1000000 (by omega) (by have := hg.1; omega) (fun e he => by omega)
      refine ⟨v, v1, ?_⟩
      have hC := hps hr
      rcases v2 with ⟨a1, a2⟩ | ⟨s, a1, a2, a3⟩
      · refine Or.inl ⟨?_, a1⟩
        rw [hC, lix_none _ (by have := hg.1; omega)]
        exact a2
      · refine Or.inr ⟨s, ?_, by rw [hC]; exact a1, Or.inl ⟨a1, a3⟩⟩
        rw [hC]
        refine lix_last _ a1 (by have := hg.1; omega) a2 (fun e h1 h2 q => ?_)
        exact hg.2.2.2 s e h1 h2 (a2.trans q.symm)
    · have hoN : o < N := by omega
      obtain ⟨u1, u2, u3, u4, u5, u6, u7, u8⟩ := tn o hoN
      have hrk := (p2 o hoN).1
      have hpk : pq σ k = pcnt (pr σ) o k := by
        unfold pq
        rw [if_neg (by rw [o1]; omega), o1, Int.toNat_natCast]
      have hpl := pcnt_le (pr σ) o k
      have hCo24 := hrk.2.1
      obtain ⟨v, v1, v2⟩ := ih o o2 f hoN (by omega) (by rw [← o3]; exact hdk)
      have hrec : m193_65 (m193_3 f) (nI k0) y (nI k) (tyR t qr17 qr18 qr19 qr20 qr21 qr22 qr23 qr24 qr25 qr26 qr27 qr28 qr29 qr30 qi31 qi32 qi33 qi34 qi35 qi36 ql4 ql5 ql6 ql7 qz1) = some (v, (tyR t qr17 qr18 qr19 qr20 qr21 qr22 qr23 qr24 qr25 qr26 qr27 qr28 qr29 qr30 qi31 qi32 qi33 qi34 qi35 qi36 ql4 ql5 ql6 ql7 qz1)) := by
        unfold m193_65
        rw [tyR_r24, xsGet_d (by omega) (by omega), bs, t3, o1, pI_k, v1]
      rw [o1, pI_k, if_neg (nI_pos (by omega)), bs, tyR_r25, xsGet_d (by omega) (by omega), bs, t4, hpk, m192_eq hoN (by omega) hrk.1 (by omega) h22 u1, bs]
      rw [← hpk] at o4 ⊢
      have hup : An (pr σ) o k := ⟨by omega, fun i h1 h2 => by
        by_cases ci : i = k
        · rw [ci]
          show (o : Int) ≤ nP (σ k)
          omega
        · have := (p1 k hk).2.2 i (by show nP (σ k) < _; omega) (by omega)
          have e : pr σ k = (o : Int) := o1
          omega⟩
      have hlift : BS σ δ o y v → lix (nC (σ k)) y (nC (σ k)).length = lix (nC (σ o)) y (nC (σ o)).length → BS σ δ k y v := by
        intro hb hl
        rcases hb with ⟨b1, b2⟩ | ⟨s, b1, b2, b3⟩
        · exact Or.inl ⟨hl.trans b1, b2⟩
        · refine Or.inr ⟨s, hl.trans b1, by rw [o4, List.length_append]; omega, ?_⟩
          rcases b3 with ⟨c1, c2⟩ | ⟨j, o', c1, c2, c3, c4, c5⟩
          · exact Or.inl ⟨by rw [o3]; exact c1, c2⟩
          · refine Or.inr ⟨j, o', ⟨by have := c1.1; omega, fun i h1 h2 => ?_⟩, c2, c3, c4, c5⟩
            by_cases ci : i ≤ o
            · exact c1.2 i h1 ci
            · have h3 := hup.2 i (by omega) h2
              have := c1.1
              omega
      by_cases cb : bpc (nK (σ o)) (pq σ k) = 0
      · rw [cb, decide_eq_false (by omega), if_neg ff, hrec]
        refine ⟨v, rfl, hlift v2 ?_⟩
        rw [o4, cb, show bnl 0 (nA (σ o)) (nB (σ o)) = [] from rfl, List.append_nil]
      · rw [decide_eq_true (by omega), if_pos rfl, tyR_l6, xlGet_d (by omega) (by omega), bs, u7]
        have hkb : ∀ r, r < 24 → ∀ i, i < 3 → bpc r i ≤ 2 ∧ (bpc r i = 1 → kz r = false) ∧ (bpc r i = 2 → kz r = true) := by decide +kernel
        have hpq3 : pq σ k < 3 := by
          by_cases c3 : pq σ k < 3
          · exact c3
          · exact absurd (bpc_ge (by omega)) cb
        obtain ⟨kb1, kb2, kb3⟩ := hkb (nK (σ o)) (by have := hrk.1; omega) (pq σ k) hpq3
        have hcl := (p3 o hoN (by simp)).1
        have hB0 : bpc (nK (σ o)) (pq σ k) = 1 → nB (σ o) = 0 := fun q => hrk.2.2.2.2.2.1 (kb2 q)
        by_cases ca : nA (σ o) = y
        · rw [if_pos ((lg_cmp_eq _ _).mpr ca)]
          refine ⟨nI o, rfl, Or.inr ⟨(nC (σ o)).length, ?_, ?_, Or.inr ⟨k, o, an_refl _ _, o1, o2, rfl, Or.inl ⟨rfl, ca, by omega⟩⟩⟩⟩
          · by_cases c1 : bpc (nK (σ o)) (pq σ k) = 1
            · rw [o4, c1, show bnl 1 (nA (σ o)) (nB (σ o)) = [nA (σ o)] from rfl, List.length_append]
              show lix _ _ ((nC (σ o)).length + 1) = _
              rw [lix_app, if_pos ca]
            · have c2 : bpc (nK (σ o)) (pq σ k) = 2 := by omega
              have hne := (hrk.2.2.2.2.1 (by
                have htb : ∀ r, r < 24 → ng r 100 = kz r := by decide +kernel
                rw [hcl, htb _ (by have := hrk.1; omega)]
                exact kb3 c2)).2
              have e2 : nC (σ o) ++ [nA (σ o), nB (σ o)] = (nC (σ o) ++ [nA (σ o)]) ++ [nB (σ o)] := by rw [List.append_assoc]; rfl
              rw [o4, c2, show bnl 2 (nA (σ o)) (nB (σ o)) = [nA (σ o), nB (σ o)] from rfl, e2]
              have e3 : ((nC (σ o) ++ [nA (σ o)]) ++ [nB (σ o)]).length = (nC (σ o) ++ [nA (σ o)]).length + 1 := by rw [List.length_append]; rfl
              rw [e3, lix_app, if_neg (fun q => hne (q.trans ca.symm)), show (nC (σ o) ++ [nA (σ o)]).length = (nC (σ o)).length + 1 by rw [List.length_append]; rfl, lix_app, if_pos ca]
          · rw [o4, List.length_append]
            have : 1 ≤ (bnl (bpc (nK (σ o)) (pq σ k)) (nA (σ o)) (nB (σ o))).length := by
              unfold bnl
              rw [if_neg cb]
              split <;> simp
            omega
        · rw [if_neg (fun q => ca ((lg_cmp_eq _ _).mp q)), tyR_l7, xlGet_d (by omega) (by omega), bs, u8]
          by_cases cB : nB (σ o) = y
          · rw [if_pos ((lg_cmp_eq _ _).mpr cB)]
            have c2 : bpc (nK (σ o)) (pq σ k) = 2 := by
              by_cases c1 : bpc (nK (σ o)) (pq σ k) = 1
              · have := hB0 c1
                rw [this] at cB
                rw [← cB] at hy
                exact absurd hy (by decide)
              · omega
            have e2 : nC (σ o) ++ [nA (σ o), nB (σ o)] = (nC (σ o) ++ [nA (σ o)]) ++ [nB (σ o)] := by rw [List.append_assoc]; rfl
            have e4 : (nC (σ o) ++ [nA (σ o)]).length = (nC (σ o)).length + 1 := by rw [List.length_append]; rfl
            have e3 : ((nC (σ o) ++ [nA (σ o)]) ++ [nB (σ o)]).length = (nC (σ o)).length + 1 + 1 := by rw [List.length_append, e4]; rfl
            refine ⟨nI o, rfl, Or.inr ⟨(nC (σ o)).length + 1, ?_, ?_, Or.inr ⟨k, o, an_refl _ _, o1, o2, rfl, Or.inr ⟨rfl, cB, c2⟩⟩⟩⟩
            · rw [o4, c2, show bnl 2 (nA (σ o)) (nB (σ o)) = [nA (σ o), nB (σ o)] from rfl, e2, e3, ← e4, lix_app, if_pos cB]
            · rw [o4, c2, show bnl 2 (nA (σ o)) (nB (σ o)) = [nA (σ o), nB (σ o)] from rfl, e2, e3]
              omega
          · rw [if_neg (fun q => cB ((lg_cmp_eq _ _).mp q)), hrec]
            refine ⟨v, rfl, hlift v2 ?_⟩
            by_cases c1 : bpc (nK (σ o)) (pq σ k) = 1
            · rw [o4, c1, show bnl 1 (nA (σ o)) (nB (σ o)) = [nA (σ o)] from rfl, List.length_append]
              show lix _ _ ((nC (σ o)).length + 1) = _
              rw [lix_app, if_neg ca]
            · have c2 : bpc (nK (σ o)) (pq σ k) = 2 := by omega
              have e2 : nC (σ o) ++ [nA (σ o), nB (σ o)] = (nC (σ o) ++ [nA (σ o)]) ++ [nB (σ o)] := by rw [List.append_assoc]; rfl
              have e4 : (nC (σ o) ++ [nA (σ o)]).length = (nC (σ o)).length + 1 := by rw [List.length_append]; rfl
              have e3 : ((nC (σ o) ++ [nA (σ o)]) ++ [nB (σ o)]).length = (nC (σ o) ++ [nA (σ o)]).length + 1 := by rw [List.length_append]; rfl
              rw [o4, c2, show bnl 2 (nA (σ o)) (nB (σ o)) = [nA (σ o), nB (σ o)] from rfl, e2, e3, lix_app, if_neg cB, e4, lix_app, if_neg ca]
end Bind
