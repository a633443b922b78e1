/-! the type of a node, and whether it may stand: the reference -/
section Std
variable {T : List Int32} {σ : Nat → Nd} {δ : Nat → Dd} {ty : Nat → Nat} {N K M k d f D o i p e : Nat} {t : xSt} {qr17 qr18 qr19 qr20 qr21 qr22 qr23 qr24 qr25 qr26 qr27 qr28 qr29 qr30 : List Int32} {qi31 qi32 qi33 qi34 qi35 qi36 : Int32} {ql4 ql5 ql6 ql7 : List Int64} {qz1 : Bool}
theorem m197_eq {y v pt l : Nat} (hk : k < N) (hN : N < 4096) (hD : D ≤ 64) (hr : nK (σ k) ≤ 23) (td : TD δ D qr17 qr18 qr19 qr20 qr21 ql4 ql5) (tn : TN σ N N qr22 qr23 qr24 qr25 qr26 qr27 ql6 ql7) (hPP : PP (pr σ) N) (h18 : qr18.length = 64) (h22 : qr22.length = 4096) (h23 : qr23.length = 4096) (h24 : qr24.length = 4096) (h25 : qr25.length = 4096) (h28 : qr28.length = 4096) (h30 : qr30.length = 4096) (hv : nK (σ k) = 1 → m198 (nI k) (tyR t qr17 qr18 qr19 qr20 qr21 qr22 qr23 qr24 qr25 qr26 qr27 qr28 qr29 qr30 qi31 qi32 qi33 qi34 qi35 qi36 ql4 ql5 ql6 ql7 qz1) = some (nI v, (tyR t qr17 qr18 qr19 qr20 qr21 qr22 qr23 qr24 qr25 qr26 qr27 qr28 qr29 qr30 qi31 qi32 qi33 qi34 qi35 qi36 ql4 ql5 ql6 ql7 qz1))) (hc : kc (nK (σ k)) = true → ∃ e, e < D ∧ qr30.getD k 0 = nI e ∧ dR (δ e) = pt) (hl : nK (σ k) = 10 ∨ nK (σ k) = 11 ∨ nK (σ k) = 12 ∨ 18 ≤ nK (σ k) ∧ nK (σ k) ≤ 22 → ∃ p, p < N ∧ nP (σ p) = (k : Int) ∧ pq σ p + 1 = pcnt (pr σ) k N ∧ qr28.getD p 0 = nI l) (hy : tyo (nK (σ k)) v pt l = y) : m197 (nI k) (tyR t qr17 qr18 qr19 qr20 qr21 qr22 qr23 qr24 qr25 qr26 qr27 qr28 qr29 qr30 qi31 qi32 qi33 qi34 qi35 qi36 ql4 ql5 ql6 ql7 qz1) = some (nI y, (tyR t qr17 qr18 qr19 qr20 qr21 qr22 qr23 qr24 qr25 qr26 qr27 qr28 qr29 qr30 qi31 qi32 qi33 qi34 qi35 qi36 ql4 ql5 ql6 ql7 qz1)) := by
  obtain ⟨t1, t2, t3, t4, t5, t6, t7, t8⟩ := tn k hk
  have hpl := pcnt_le (pr σ) k N
  have h66 : kc (nK (σ k)) = true → m197_66 (nI k) (tyR t qr17 qr18 qr19 qr20 qr21 qr22 qr23 qr24 qr25 qr26 qr27 qr28 qr29 qr30 qi31 qi32 qi33 qi34 qi35 qi36 ql4 ql5 ql6 ql7 qz1) = some (nI pt, (tyR t qr17 qr18 qr19 qr20 qr21 qr22 qr23 qr24 qr25 qr26 qr27 qr28 qr29 qr30 qi31 qi32 qi33 qi34 qi35 qi36 ql4 ql5 ql6 ql7 qz1)) := fun q => by
    obtain ⟨e, e1, e2, e3⟩ := hc q
    unfold m197_66
    rw [tyR_r30, xsGet_d (by omega) (by omega), bs, e2, tyR_r18, xsGet_d (by omega) (by omega), bs, (td e e1).2.1, e3]
  have hla : nK (σ k) = 10 ∨ nK (σ k) = 11 ∨ nK (σ k) = 12 ∨ 18 ≤ nK (σ k) ∧ nK (σ k) ≤ 22 → ((xsGet (gR (tyR t qr17 qr18 qr19 qr20 qr21 qr22 qr23 qr24 qr25 qr26 qr27 qr28 qr29 qr30 qi31 qi32 qi33 qi34 qi35 qi36 ql4 ql5 ql6 ql7 qz1) 23) (nI k)).bind fun v15 => (m199 (nI k) (v15 - 1) (tyR t qr17 qr18 qr19 qr20 qr21 qr22 qr23 qr24 qr25 qr26 qr27 qr28 qr29 qr30 qi31 qi32 qi33 qi34 qi35 qi36 ql4 ql5 ql6 ql7 qz1)).bind fun q16 => (xsGet (gR q16.2 28) q16.1).bind fun v17 => some (v17, q16.2)) = some (nI l, (tyR t qr17 qr18 qr19 qr20 qr21 qr22 qr23 qr24 qr25 qr26 qr27 qr28 qr29 qr30 qi31 qi32 qi33 qi34 qi35 qi36 ql4 ql5 ql6 ql7 qz1)) := fun q => by
    obtain ⟨p, q1, q2, q3, q4⟩ := hl q
    rw [tyR_r23, xsGet_d (by omega) (by omega), bs, t2, ← q3, nI_pred, m199_eq hN tn h24 h25 hPP q1 q2 rfl, bs, tyR_r28, xsGet_d (by omega) (by omega), bs, q4]
  unfold m197 m197_35
  rw [tyR_r22, xsGet_d (by omega) (by omega), bs, t1]
  have hcc : nK (σ k) = 0 ∨ nK (σ k) = 1 ∨ nK (σ k) = 2 ∨ nK (σ k) = 3 ∨ nK (σ k) = 4 ∨ nK (σ k) = 5 ∨ nK (σ k) = 6 ∨ nK (σ k) = 7 ∨ nK (σ k) = 8 ∨ nK (σ k) = 9 ∨ nK (σ k) = 10 ∨ nK (σ k) = 11 ∨ nK (σ k) = 12 ∨ nK (σ k) = 13 ∨ nK (σ k) = 14 ∨ nK (σ k) = 15 ∨ nK (σ k) = 16 ∨ nK (σ k) = 17 ∨ nK (σ k) = 18 ∨ nK (σ k) = 19 ∨ nK (σ k) = 20 ∨ nK (σ k) = 21 ∨ nK (σ k) = 22 ∨ nK (σ k) = 23 := by omega
  rcases hcc with h | h | h | h | h | h | h | h | h | h | h | h | h | h | h | h | h | h | h | h | h | h | h | h
  case inr.inl =>
    rw [h] at hy
    rw [h, if_pos (by decide), hv h, bs]
    rw [show y = v from hy.symm]
  all_goals
    rw [h] at hy
    first
    | (rw [h]; simp (decide := true) only [reduceIte]; rw [← hy]; rfl)
    | (rw [h]; simp (decide := true) only [reduceIte]; rw [h66 (by rw [h]; decide), ← hy]; rfl)
    | (have hz := hla (by omega); rw [h]; simp (decide := true) only [reduceIte]; rw [hz, ← hy]; rfl)
theorem m200_root {y : Nat} (hk : k < N) (hN : N < 4096) (hD : D ≤ 64) (hd : nD (σ k) < D) (hy : y < 4) (hR : dR (δ (nD (σ k))) ≤ 3) (hp : nP (σ k) = -1) (td : TD δ D qr17 qr18 qr19 qr20 qr21 ql4 ql5) (tn : TN σ N N qr22 qr23 qr24 qr25 qr26 qr27 ql6 ql7) (h18 : qr18.length = 64) (h24 : qr24.length = 4096) (h26 : qr26.length = 4096) : m200 (nI k) (nI y) (tyR t qr17 qr18 qr19 qr20 qr21 qr22 qr23 qr24 qr25 qr26 qr27 qr28 qr29 qr30 qi31 qi32 qi33 qi34 qi35 qi36 ql4 ql5 ql6 ql7 qz1) = some (decide (y = dR (δ (nD (σ k)))), (tyR t qr17 qr18 qr19 qr20 qr21 qr22 qr23 qr24 qr25 qr26 qr27 qr28 qr29 qr30 qi31 qi32 qi33 qi34 qi35 qi36 ql4 ql5 ql6 ql7 qz1)) := by
  obtain ⟨t1, t2, t3, t4, t5, t6, t7, t8⟩ := tn k hk
  unfold m200
  rw [tyR_r24, xsGet_d (by omega) (by omega), bs, t3, hp, show pI (-1) = -1 from rfl, if_neg (by decide), tyR_r26, xsGet_d (by omega) (by omega), bs, t5, tyR_r18, xsGet_d (by omega) (by omega), bs, (td _ hd).2.1]
  by_cases c : y = dR (δ (nD (σ k)))
  · rw [if_pos (by rw [c]), decide_eq_true c]
  · rw [if_neg (by rw [eqN (by omega) (by omega)]; exact c), decide_eq_false c]
theorem m200_part {y pt l : Nat} (hk : k < N) (hN : N < 4096) (hD : D ≤ 64) (hy : y < 4) (hpt : pt < 4) (hl4 : l < 4) (hp : nP (σ k) = (o : Int)) (ho : o < k) (hro : nK (σ o) ≤ 23) (h3 : 3 ≤ nK (σ o)) (hpq : pq σ k < 5000) (hp3 : kc (nK (σ o)) = false → pq σ k < 3) (td : TD δ D qr17 qr18 qr19 qr20 qr21 ql4 ql5) (tn : TN σ N N qr22 qr23 qr24 qr25 qr26 qr27 ql6 ql7) (hPP : PP (pr σ) N) (h20 : qr20.length = 512) (h22 : qr22.length = 4096) (h24 : qr24.length = 4096) (h25 : qr25.length = 4096) (h28 : qr28.length = 4096) (h30 : qr30.length = 4096) (hc : kc (nK (σ o)) = true → ∃ e, e < D ∧ qr30.getD o 0 = nI e ∧ pq σ k < (dP (δ e)).length ∧ (dP (δ e)).length ≤ 8 ∧ (dT (δ e)).getD (pq σ k) 0 = pt) (hl : pq σ k = 2 → kc (nK (σ o)) = false → ∃ p, p < N ∧ nP (σ p) = (o : Int) ∧ pq σ p = 1 ∧ qr28.getD p 0 = nI l) : m200 (nI k) (nI y) (tyR t qr17 qr18 qr19 qr20 qr21 qr22 qr23 qr24 qr25 qr26 qr27 qr28 qr29 qr30 qi31 qi32 qi33 qi34 qi35 qi36 ql4 ql5 ql6 ql7 qz1) = some (cst (nK (σ o)) (pq σ k) y pt l, (tyR t qr17 qr18 qr19 qr20 qr21 qr22 qr23 qr24 qr25 qr26 qr27 qr28 qr29 qr30 qi31 qi32 qi33 qi34 qi35 qi36 ql4 ql5 ql6 ql7 qz1)) := by
  obtain ⟨t1, t2, t3, t4, t5, t6, t7, t8⟩ := tn k hk
  obtain ⟨u1, u2, u3, u4, u5, u6, u7, u8⟩ := tn o (by omega)
  have hb : ∀ (a : Nat), a < 4 → (if nI y = nI a then some (true, (tyR t qr17 qr18 qr19 qr20 qr21 qr22 qr23 qr24 qr25 qr26 qr27 qr28 qr29 qr30 qi31 qi32 qi33 qi34 qi35 qi36 ql4 ql5 ql6 ql7 qz1)) else some (false, (tyR t qr17 qr18 qr19 qr20 qr21 qr22 qr23 qr24 qr25 qr26 qr27 qr28 qr29 qr30 qi31 qi32 qi33 qi34 qi35 qi36 ql4 ql5 ql6 ql7 qz1))) = some (y == a, (tyR t qr17 qr18 qr19 qr20 qr21 qr22 qr23 qr24 qr25 qr26 qr27 qr28 qr29 qr30 qi31 qi32 qi33 qi34 qi35 qi36 ql4 ql5 ql6 ql7 qz1)) := fun a ha => by
    by_cases c : y = a
    · rw [if_pos (by rw [c]), c, beq_self_eq_true]
    · rw [if_neg (by rw [eqN (by omega) (by omega)]; exact c), beq_eq_false_iff_ne.mpr c]
  unfold m200
  rw [tyR_r24, xsGet_d (by omega) (by omega), bs, t3, hp, pI_k, if_pos (nI_pos' (by omega)), tyR_r25, xsGet_d (by omega) (by omega), bs, t4, tyR_r22, xsGet_d (by omega) (by omega), bs, u1, m185_eq hro, bs]
  cases hkc : kc (nK (σ o))
  · rw [if_neg ff]
    have hct : ct (nK (σ o)) 100 < 1000 := by
      have e : ∀ r, r < 24 → ct r 100 < 1000 := by decide +kernel
      exact e _ (by omega)
    rw [if_pos (nI_pos' (by omega))]
    have hq3 := hp3 hkc
    have hqq : pq σ k = 0 ∨ pq σ k = 1 ∨ pq σ k = 2 := by omega
    have hyy : y = 0 ∨ y = 1 ∨ y = 2 ∨ y = 3 := by omega
    have hl2 : pq σ k = 2 → ((m199 (nI o) 1 (tyR t qr17 qr18 qr19 qr20 qr21 qr22 qr23 qr24 qr25 qr26 qr27 qr28 qr29 qr30 qi31 qi32 qi33 qi34 qi35 qi36 ql4 ql5 ql6 ql7 qz1)).bind fun q26 => (xsGet (gR q26.2 28) q26.1).bind fun v27 => if nI y = v27 then some (true, q26.2) else some (false, q26.2)) = some (y == l, (tyR t qr17 qr18 qr19 qr20 qr21 qr22 qr23 qr24 qr25 qr26 qr27 qr28 qr29 qr30 qi31 qi32 qi33 qi34 qi35 qi36 ql4 ql5 ql6 ql7 qz1)) := fun q => by
      obtain ⟨p, a1, a2, a3, a4⟩ := hl q hkc
      rw [show (1 : Int32) = nI 1 from rfl, m199_eq hN tn h24 h25 hPP a1 a2 a3, bs, tyR_r28, xsGet_d (by omega) (by omega), bs, a4]
      exact hb l hl4
    have hcc : nK (σ o) = 3 ∨ nK (σ o) = 4 ∨ nK (σ o) = 5 ∨ nK (σ o) = 6 ∨ nK (σ o) = 7 ∨ nK (σ o) = 8 ∨ nK (σ o) = 9 ∨ nK (σ o) = 10 ∨ nK (σ o) = 11 ∨ nK (σ o) = 12 ∨ nK (σ o) = 13 ∨ nK (σ o) = 14 ∨ nK (σ o) = 15 ∨ nK (σ o) = 16 ∨ nK (σ o) = 17 ∨ nK (σ o) = 18 ∨ nK (σ o) = 19 ∨ nK (σ o) = 20 ∨ nK (σ o) = 21 ∨ nK (σ o) = 22 ∨ nK (σ o) = 23 := by omega
    have h184 : ∀ S : xSt, m184 (nI (nK (σ o))) S = some (kz (nK (σ o)), S) := fun S => m184_eq hro
    rcases hcc with h | h | h | h | h | h | h | h | h | h | h | h | h | h | h | h | h | h | h | h | h
    all_goals
      rw [h] at h184 hkc ⊢
      first
      | exact absurd hkc (by decide)
      | (rcases hqq with q | q | q
         · rw [q]
           rcases hyy with rfl | rfl | rfl | rfl <;> (simp (decide := true) only [h184, bs, reduceIte]; rfl)
         · rw [q]
           rcases hyy with rfl | rfl | rfl | rfl <;> (simp (decide := true) only [h184, bs, reduceIte]; rfl)
         · have hz := hl2 q
           rw [q]
           first
           | (rcases hyy with rfl | rfl | rfl | rfl <;> (simp (decide := true) only [h184, bs, reduceIte]; rfl))
           | (simp (decide := true) only [reduceIte]; rw [hz]; rfl))
  · obtain ⟨e, e1, e2, e3, e4, e5⟩ := hc hkc
    rw [if_pos rfl, if_neg (show ¬ (0 : Int32) ≤ -1 by decide), tyR_r30, xsGet_d (by omega) (by omega), bs, e2, nI_8x, tyR_r20, xsGet_d (by omega) (by omega), bs, ((td e e1).2.2.2.2.2 _ e3).2, e5]
    unfold cst
    rw [if_pos hkc]
    exact hb pt hpt
end Std
