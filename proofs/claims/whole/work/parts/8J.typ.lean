/-! the types of nodes: the reference -/
/-- what is in reach, with its types -/
def EP (σ : Nat → Nd) (δ : Nat → Dd) (E : Nat → List Nat) (ty : Nat → Nat) (K : Nat) : Prop := ∀ k, k < K → (E k).length = (nC (σ k)).length ∧ (nP (σ k) = -1 → E k = dT (δ (nD (σ k)))) ∧ ∀ o : Nat, nP (σ k) = (o : Int) → E k = E o ++ bte (nK (σ o)) (pq σ k) (ty (o + 1))
section Typ
variable {T : List Int32} {σ : Nat → Nd} {δ : Nat → Dd} {E : Nat → List Nat} {ty : Nat → Nat} {N K M k d f D o i p s : Nat} {t : xSt} {qr17 qr18 qr19 qr20 qr21 qr22 qr23 qr24 qr25 qr26 qr27 qr28 qr29 qr30 : List Int32} {qi31 qi32 qi33 qi34 qi35 qi36 : Int32} {ql4 ql5 ql6 ql7 : List Int64} {qz1 : Bool}
theorem ep_pre (hPP : PP (pr σ) N) (hK : K ≤ N) (ep : EP σ δ E ty K) {j : Nat} : ∀ k, k < K → An (pr σ) j k → ∃ l, E k = E j ++ l := by
  intro k
  induction k using Nat.strongRecOn with
  | _ k ih =>
    intro hk ha
    by_cases c : j = k
    · exact ⟨[], by rw [c, List.append_nil]⟩
    · obtain ⟨p, p1, p2, p3⟩ := an_down (N := N) hPP (by omega) ha c
      obtain ⟨l, hl⟩ := ih p p2 (by omega) p3
      refine ⟨l ++ bte (nK (σ p)) (pq σ k) (ty (p + 1)), ?_⟩
      rw [(ep k hk).2.2 p p1, hl, List.append_assoc]
/-- the type of a variable by who binds it -/
theorem m198_eq {v : Int32} {y : Int64} (wf : WF 0 T σ N [] [] 0) (hN : N < 4096) (hD : D ≤ 64) (hw : ∀ d, d < D → Dw δ σ D N d) (hnd : ∀ k, k < N → nD (σ k) < D) (td : TD δ D qr17 qr18 qr19 qr20 qr21 ql4 ql5) (tn : TN σ N N qr22 qr23 qr24 qr25 qr26 qr27 ql6 ql7) (ep : EP σ δ E ty K) (hkK : k < K) (hKN : K ≤ N) (hbs : BS σ δ k (nA (σ k)) v) (hv1 : ¬ v = -1) (hv : qr29.getD k 0 = v) (htyv : ∀ j o : Nat, j < K → nP (σ j) = (o : Int) → 0 < pq σ j → qr28.getD (o + 1) 0 = nI (ty (o + 1)) ∧ ty (o + 1) < 4 ∧ (nK (σ o) = 18 → 1 < ty (o + 1))) (h20 : qr20.length = 512) (h22 : qr22.length = 4096) (h24 : qr24.length = 4096) (h25 : qr25.length = 4096) (h26 : qr26.length = 4096) (h28 : qr28.length = 4096) (h29 : qr29.length = 4096) (h6 : ql6.length = 4096) : ∃ s, lix (nC (σ k)) (nA (σ k)) (nC (σ k)).length = nI s ∧ s < (E k).length ∧ m198 (nI k) (tyR t qr17 qr18 qr19 qr20 qr21 qr22 qr23 qr24 qr25 qr26 qr27 qr28 qr29 qr30 qi31 qi32 qi33 qi34 qi35 qi36 ql4 ql5 ql6 ql7 qz1) = some (nI ((E k).getD s 0), (tyR t qr17 qr18 qr19 qr20 qr21 qr22 qr23 qr24 qr25 qr26 qr27 qr28 qr29 qr30 qi31 qi32 qi33 qi34 qi35 qi36 ql4 ql5 ql6 ql7 qz1)) := by
  have hkN : k < N := by omega
  obtain ⟨p1, p2, p3, p4, p5, p6⟩ := id wf
  obtain ⟨t1, t2, t3, t4, t5, t6, t7, t8⟩ := tn k hkN
  have hlen := (ep k hkK).1
  have hC24 := (p2 k hkN).1.2.1
  unfold m198
  rw [tyR_r29, xsGet_d (by omega) (by omega), bs, hv]
  rcases hbs with ⟨b1, b2⟩ | ⟨s, b1, b2, b3⟩
  · exact absurd b2 hv1
  refine ⟨s, b1, by omega, ?_⟩
  have hdk := hnd k hkN
  rcases b3 with ⟨c1, c2⟩ | ⟨j, o, c1, c2, c3, c4, c5⟩
  · have hg := (hw _ hdk).2.1
    have hg8 := hg.1
    obtain ⟨d1, d2, d3, d4, d5, d6⟩ := td _ hdk
    have hneg : ¬ (0 : Int32) ≤ v := by
      rw [c2]
      have e : ∀ s : Fin 8, ¬ (0 : Int32) ≤ -2 - nI s.1 := by decide +kernel
      exact e ⟨s, by omega⟩
    have hidx : ((8 : Int32) * nI (nD (σ k)) - 2) - v = nI (8 * nD (σ k) + s) := by
      rw [c2]
      have e : (8 : Int32) * nI (nD (σ k)) - 2 - (-2 - nI s) = 8 * nI (nD (σ k)) + nI s := by
        rw [Int32.sub_eq_add_neg, Int32.sub_eq_add_neg, Int32.sub_eq_add_neg, Int32.neg_add, Int32.neg_neg, Int32.sub_eq_add_neg, Int32.neg_neg, ← Int32.add_assoc, Int32.add_assoc (8 * nI (nD (σ k))), show (-2 : Int32) + 2 = 0 by decide, Int32.add_zero]
      rw [e, nI_8x]
    rw [if_neg hneg, tyR_r26, xsGet_d (by omega) (by omega), bs, t5, tyR_r20, hidx, xsGet_d (by omega) (by omega), bs, (d6 s c1).2]
    have hroot : ∃ l, E k = dT (δ (nD (σ k))) ++ l := by
      have key : ∀ k', k' < K → nD (σ k') = nD (σ k) → ∃ l, E k' = dT (δ (nD (σ k))) ++ l := by
        intro k'
        induction k' using Nat.strongRecOn with
        | _ k' ih =>
          intro h1 h2
          rcases (p2 k' (by omega)).2.1 with hr | ⟨o, o1, o2, o3, -⟩
          · exact ⟨[], by rw [List.append_nil, (ep k' h1).2.1 hr, h2]⟩
          · obtain ⟨l, hl⟩ := ih o o2 (by omega) (by rw [← o3]; exact h2)
            exact ⟨l ++ bte (nK (σ o)) (pq σ k') (ty (o + 1)), by rw [(ep k' h1).2.2 o o1, hl, List.append_assoc]⟩
      exact key k hkK rfl
    obtain ⟨l, hl⟩ := hroot
    rw [hl, getD_app_l (by rw [hg.2.1]; exact c1)]
  · have hjk := c1.1
    have hjN : j < N := by omega
    have hoN : o < N := by omega
    obtain ⟨u1, u2, u3, u4, u5, u6, u7, u8⟩ := tn o hoN
    have hro := (p2 o hoN).1
    have hr23 := hro.1
    obtain ⟨l, hl⟩ := ep_pre p1 hKN ep k hkK c1
    have hEj := (ep j (by omega)).2.2 o c2
    have hEo := (ep o (by omega)).1
    have hbl := bte_len (nK (σ o)) (pq σ j) (ty (o + 1)) (nA (σ o)) (nB (σ o))
    have hbp : 0 < bpc (nK (σ o)) (pq σ j) := by rcases c5 with ⟨-, -, q⟩ | ⟨-, -, q⟩ <;> omega
    have hpq0 : 0 < pq σ j := by
      by_cases c : pq σ j = 0
      · exfalso
        rw [c] at hbp
        have e : ∀ r, bpc r 0 = 0 := fun r => by
          unfold bpc
          repeat' split
          all_goals omega
        rw [e] at hbp
        omega
      · omega
    obtain ⟨y1, y2, y3⟩ := htyv j o (by omega) c2 hpq0
    have hpq3 : pq σ j < 3 := by
      by_cases c3 : pq σ j < 3
      · exact c3
      · rw [bpc_ge (by omega)] at hbp
        omega
    have hcase : (nK (σ o) = 11 ∨ nK (σ o) = 21 ∨ nK (σ o) = 18) ∧ pq σ j = 1 ∨ kz (nK (σ o)) = true ∧ pq σ j = 2 := by
      have e : ∀ r, r < 24 → ∀ i, i < 3 → bpc r i = 0 ∨ (((r = 11 ∨ r = 21 ∨ r = 18) ∧ i = 1) ∨ (kz r = true ∧ i = 2)) := by decide +kernel
      rcases e _ (show nK (σ o) < 24 by omega) _ hpq3 with q | q
      · omega
      · exact q
    have hat : ∀ e, e < (bte (nK (σ o)) (pq σ j) (ty (o + 1))).length → (E k).getD ((nC (σ o)).length + e) 0 = (bte (nK (σ o)) (pq σ j) (ty (o + 1))).getD e 0 := fun e he => by
      rw [hl, hEj, ← hEo, getD_app_l (by rw [List.length_append]; omega), List.getD_eq_getElem?_getD, List.getElem?_append_right (by omega), Nat.add_sub_cancel_left, ← List.getD_eq_getElem?_getD]
    rw [c4, if_pos (nI_pos' (by omega)), tyR_r22, xsGet_d (by omega) (by omega), bs, u1, m184_eq hr23, bs]
    rcases hcase with ⟨k1, k2⟩ | ⟨k1, k2⟩
    · have hz : kz (nK (σ o)) = false := by rcases k1 with e | e | e <;> (rw [e]; decide)
      have hb1 : bpc (nK (σ o)) (pq σ j) = 1 := by rcases k1 with e | e | e <;> (rw [e, k2]; decide)
      have hs : s = (nC (σ o)).length := by
        rcases c5 with ⟨q, -⟩ | ⟨-, -, q⟩
        · exact q
        · omega
      have hfirst : nP (σ (o + 1)) = (o : Int) ∧ o + 1 < N := by
        have h1 := (p1 j hjN).2.2
        by_cases c : o + 1 = j
        · rw [c]; exact ⟨c2, hjN⟩
        · have h2 : pr σ j = (o : Int) := c2
          have h3 := h1 (o + 1) (by omega) (by omega)
          have h4 := (p1 (o + 1) (by omega)).2.1
          refine ⟨?_, by omega⟩
          show pr σ (o + 1) = _
          omega
      have hpq1 : pq σ (o + 1) = 0 := by
        unfold pq
        rw [if_neg (by rw [hfirst.1]; omega), hfirst.1, Int.toNat_natCast]
        exact pcnt_0 p1 (by omega) (Nat.le_refl _)
      rw [hz, if_neg ff, show (0 : Int32) = nI 0 from rfl, m199_eq hN tn h24 h25 p1 hfirst.2 hfirst.1 hpq1, bs, tyR_r28, xsGet_d (by omega) (by omega), bs, y1, tyR_r22, xsGet_d (by omega) (by omega), bs, u1]
      have h0 := hat 0 (by rw [hbl, hb1]; exact Nat.zero_lt_one)
      rw [Nat.add_zero] at h0
      rw [hs, h0]
      by_cases c18 : nK (σ o) = 18
      · have y3' := y3 c18
        rw [if_pos (by rw [eqL_18 (by omega)]; exact c18), c18, k2, show bte 18 1 (ty (o + 1)) = [ty (o + 1) - 2] from rfl]
        have hy23 : ty (o + 1) = 2 ∨ ty (o + 1) = 3 := by omega
        rcases hy23 with e | e
        · rw [e, if_pos (by decide)]; rfl
        · rw [e, if_neg (by decide)]; rfl
      · rw [if_neg (by rw [eqL_18 (by omega)]; exact c18)]
        have hkl : kl (nK (σ o)) = true := by
          rcases k1 with e | e | e
          · rw [e]; decide
          · rw [e]; decide
          · exact absurd e c18
        have eb : bte (nK (σ o)) (pq σ j) (ty (o + 1)) = [ty (o + 1)] := by
          unfold bte
          rw [if_pos ⟨hkl, k2⟩]
        rw [eb]
        rfl
    · have hb2 : bte (nK (σ o)) (pq σ j) (ty (o + 1)) = [0, 3] := by
        unfold bte
        have hkl : ¬ kl (nK (σ o)) = true := by
          unfold kz at k1
          rw [Bool.or_eq_true, beq_iff_eq, beq_iff_eq] at k1
          rcases k1 with e | e <;> (rw [e]; decide)
        rw [if_neg (fun q => hkl q.1), if_pos ⟨k1, k2⟩]
      rw [k1, if_pos rfl, tyR_l6, xlGet_d (by omega) (by omega), bs, xlGet_d (by omega) (by omega), bs, u7, t7]
      rcases c5 with ⟨q1, q2, q3⟩ | ⟨q1, q2, q3⟩
      · rw [if_pos ((lg_cmp_eq _ _).mpr q2), q1]
        have h0 := hat 0 (by rw [hb2]; decide)
        rw [Nat.add_zero, hb2] at h0
        rw [h0]
        rfl
      · have hcl := (p3 o hoN (by simp)).1
        have hne := (hro.2.2.2.2.1 (by
          have htb : ∀ r, r < 24 → ng r 100 = kz r := by decide +kernel
          rw [hcl, htb _ (by omega)]
          exact k1)).2
        rw [if_neg (fun q => hne (q2.trans ((lg_cmp_eq _ _).mp q).symm)), q1]
        have h0 := hat 1 (by rw [hb2]; decide)
        rw [hb2] at h0
        rw [h0]
        rfl
end Typ
