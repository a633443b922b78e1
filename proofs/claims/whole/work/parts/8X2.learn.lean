/-! the reference learns the program -/
/-- what is learnt of a node -/
def LnN (σ : Nat → Nd) (δ : Nat → Dd) (D N k : Nat) (q31 q32 q33 q34 q35 q36 : List Int32) : Prop := q31.getD k 0 = nI (nK (σ k)) ∧ q32.getD k 0 = nI (nZ (σ k)) ∧ q33.getD k 0 = nI (pcnt (pr σ) k N) ∧ q34.getD k 0 = nV (σ k) ∧ (nK (σ k) = 1 ∨ kl (nK (σ k)) = true ∨ kz (nK (σ k)) = true ∨ nK (σ k) = 18 → q35.getD k 0 = nI (if nK (σ k) = 1 then sl σ k else (nC (σ k)).length)) ∧ (kc (nK (σ k)) = true → q36.getD k 0 = nI (tg σ δ D k))
section Learn
variable {T : List Int32} {σ : Nat → Nd} {δ : Nat → Dd} {N d D k : Nat} {t : xSt} {qr31 qr32 qr33 qr34 qr35 qr36 qr37 qr38 qr39 qr40 qr41 qr42 qr43 qr44 : List Int32} {qi5 qi6 : Int32} {K52 : Int32 → xSt → Option xSt}
theorem l119 (wf : WF 0 T σ N [] [] 0) (hN : N < 4090) (hD : D ≤ 64) (dk : DK σ δ D N) (hr : RdT σ δ D N t) (rb : RB σ δ D N N (gR t 29) (gR t 30)) (hk : k < N) : ∀ (m i f : Nat) (qr32 qr33 : List Int32), i + m = pcnt (pr σ) k N → m < f → qr32.length = 4200 → qr33.length = 4200 → qr33.getD k 0 = nI i → qr32.getD k 0 = nI (po σ k i - k) → (∀ j, k < j → j < N → qr32.getD j 0 = nI (nZ (σ j))) → ∃ a32 a33, m210_119 K52 f (nI k) (nI (po σ k i)) (lnR t qr31 qr32 qr33 qr34 qr35 qr36 qr37 qr38 qr39 qr40 qr41 qr42 qr43 qr44 qi5 qi6) = m210_180 K52 (nI k) (lnR t qr31 a32 a33 qr34 qr35 qr36 qr37 qr38 qr39 qr40 qr41 qr42 qr43 qr44 qi5 qi6) ∧ a32.length = 4200 ∧ a33.length = 4200 ∧ a33.getD k 0 = nI (pcnt (pr σ) k N) ∧ a32.getD k 0 = nI (nZ (σ k)) ∧ ∀ j, ¬ j = k → a32.getD j 0 = qr32.getD j 0 ∧ a33.getD j 0 = qr33.getD j 0 := by
  obtain ⟨⟨e27, e28⟩, ra, rd, ⟨l2, l3, l4, l5, l6, l7, ll0, ll1⟩, ⟨l8, l9, l10, l11, l13, l14, ll2, ll3⟩⟩ := hr
  have hE := wf.2.2.1 k hk (by simp)
  have hE3 := hE.2.2.1
  have hpe := po_end wf hk
  have hpc := pcnt_le (pr σ) k N
  intro m
  induction m with
  | zero =>
    intro i f qr32 qr33 hi hf h32 h33 e33 e32 hz
    obtain ⟨f, rfl⟩ : ∃ f', f = f' + 1 := ⟨f - 1, by omega⟩
    have hii : i = pcnt (pr σ) k N := by omega
    rw [hii, hpe] at e32 ⊢
    refine ⟨qr32, qr33, ?_, h32, h33, by rw [e33, hii], by rw [e32]; congr 1; omega, fun j _ => ⟨rfl, rfl⟩⟩
    rw [m210_119, lnR_oi28, e28]
    by_cases c : k + nZ (σ k) = N
    · rw [if_pos (by rw [leN (by omega) (by omega)]; omega)]
    · have h5 := hE.2.2.2.2.1 (by omega)
      have h5' : nP (σ (k + nZ (σ k))) < (k : Int) := h5
      have hP := wf.1 (k + nZ (σ k)) (by omega)
      rw [if_neg (by rw [leN (by omega) (by omega)]; omega), lnR_or9, xsGet_d (by omega) (by omega), bs, (ra (k + nZ (σ k)) (by omega)).2.1, if_neg (fun q => by
        rcases pI_cases (nP (σ (k + nZ (σ k)))) hP.1 with ⟨e1, e2⟩ | ⟨q', e1, e2⟩
        · rw [e2] at q
          have := nI_ne1 (a := k) (by omega)
          rw [← q] at this
          exact absurd this (by simp)
        · rw [e2, eqN (by omega) (by omega)] at q
          omega)]
  | succ m ih =>
    intro i f qr32 qr33 hi hf h32 h33 e33 e32 hz
    obtain ⟨f, rfl⟩ : ∃ f', f = f' + 1 := ⟨f - 1, by omega⟩
    obtain ⟨a1, a2, a3, a4, a5⟩ := po_ok wf hk i (by omega)
    have hEp := wf.2.2.1 _ a3 (by simp)
    have hzp := hz _ a4 a3
    have epo : po σ k (i + 1) = po σ k i + nZ (σ (po σ k i)) := rfl
    obtain ⟨a32, a33, x1, x2, x3, x4, x5, x6⟩ := ih (i + 1) f (qr32.set k (nI (po σ k (i + 1) - k))) (qr33.set k (nI (i + 1))) (by omega) (by omega) (by rw [List.length_set]; exact h32) (by rw [List.length_set]; exact h33) (by rw [getD_setn (by omega), if_pos rfl]) (by rw [getD_setn (by omega), if_pos rfl]) (fun j j1 j2 => by
      rw [getD_setn (by omega), if_neg (by omega)]
      exact hz j j1 j2)
    refine ⟨a32, a33, ?_, x2, x3, x4, x5, fun j hj => ?_⟩
    · rw [← x1, m210_119, lnR_oi28, e28, if_neg (by rw [leN (by omega) (by omega)]; omega), lnR_or9, xsGet_d (by omega) (by omega), bs, (ra _ a3).2.1, a1, pI_k, if_pos rfl, lnR_r33, xsGet_d (by omega) (by omega), bs, e33, xsPut_n (by omega) (by omega), bs, lnR_r32, xsGet_d (by omega) (by omega), bs, e32, xsGet_d (by omega) (by omega), bs, hzp, nI_add, xsPut_n (by omega) (by omega), bs, xsGet_d (by omega) (by rw [List.length_set]; omega), bs, getD_setn (by omega), if_neg (by omega), hzp, nI_add, nI_1, lnR_sr33, lnR_sr32, show po σ k i - k + nZ (σ (po σ k i)) = po σ k (i + 1) - k by omega, ← epo]
    · rw [(x6 j hj).1, (x6 j hj).2, getD_setn (by omega), getD_setn (by omega), if_neg hj, if_neg hj]
      exact ⟨rfl, rfl⟩
theorem l180 (wf : WF 0 T σ N [] [] 0) (hN : N < 4090) (hD : D ≤ 64) (dk : DK σ δ D N) (hr : RdT σ δ D N t) (rb : RB σ δ D N N (gR t 29) (gR t 30)) (hk : k < N) (h31 : qr31.length = 4200) (h35 : qr35.length = 4200) (e31 : qr31.getD k 0 = nI (nK (σ k))) : ∃ a35, m210_180 K52 (nI k) (lnR t qr31 qr32 qr33 qr34 qr35 qr36 qr37 qr38 qr39 qr40 qr41 qr42 qr43 qr44 qi5 qi6) = K52 (nI k + (-1)) (lnR t qr31 qr32 qr33 qr34 a35 qr36 qr37 qr38 qr39 qr40 qr41 qr42 qr43 qr44 qi5 qi6) ∧ a35.length = 4200 ∧ (∀ j, ¬ j = k → a35.getD j 0 = qr35.getD j 0) ∧ (nK (σ k) = 1 ∨ kl (nK (σ k)) = true ∨ kz (nK (σ k)) = true ∨ nK (σ k) = 18 → a35.getD k 0 = nI (if nK (σ k) = 1 then sl σ k else (nC (σ k)).length)) := by
  obtain ⟨⟨e27, e28⟩, ra, rd, ⟨l2, l3, l4, l5, l6, l7, ll0, ll1⟩, ⟨l8, l9, l10, l11, l13, l14, ll2, ll3⟩⟩ := hr
  obtain ⟨r1, r2, r3, r4, r5, r6, r7, r8⟩ := ra k hk
  have hno := (wf.2.1 k hk).1
  have hnr := hno.1
  have h24 := hno.2.1
  have hset : ∀ (x y : Int32), (qr35.set k x).set k y = qr35.set k y := fun x y => List.set_set ..
  by_cases c1 : nK (σ k) = 1
  · obtain ⟨b1, b2⟩ := (rb.1 k hk).1 c1
    refine ⟨qr35.set k (nI (sl σ k)), ?_, by rw [List.length_set]; exact h35, fun j hj => by rw [getD_setn (by omega), if_neg hj], fun _ => by rw [getD_setn (by omega), if_pos rfl, if_pos c1]⟩
    have hpre : ∀ X : Option xSt, ((if 0 ≤ (gR t 29).getD k 0 then ((xsGet (gR t 13) ((gR t 29).getD k 0)).bind fun v18 => (xlGet (gL t 2) ((gR t 29).getD k 0)).bind fun v19 => (xlGet (gL t 2) (nI k)).bind fun v20 => if (lg_cmp v19 v20) = 0 then m210_267 K52 (nI k) false v18 (nI k) (lnR t qr31 qr32 qr33 qr34 (qr35.set k (nI (nC (σ k)).length)) qr36 qr37 qr38 qr39 qr40 qr41 qr42 qr43 qr44 qi5 qi6) else m210_267 K52 (nI k) true v18 (nI k) (lnR t qr31 qr32 qr33 qr34 (qr35.set k (nI (nC (σ k)).length)) qr36 qr37 qr38 qr39 qr40 qr41 qr42 qr43 qr44 qi5 qi6)) else m210_268 K52 (nI k) ((-2) - (gR t 29).getD k 0) (nI k) (lnR t qr31 qr32 qr33 qr34 (qr35.set k (nI (nC (σ k)).length)) qr36 qr37 qr38 qr39 qr40 qr41 qr42 qr43 qr44 qi5 qi6)) = X) → m210_180 K52 (nI k) (lnR t qr31 qr32 qr33 qr34 qr35 qr36 qr37 qr38 qr39 qr40 qr41 qr42 qr43 qr44 qi5 qi6) = X := fun X hX => by
      unfold m210_180
      rw [lnR_or13, xsGet_d (by omega) (by omega), bs, r5, lnR_r35, xsPut_n (by omega) (by omega), bs, lnR_r31, xsGet_d (by omega) (by omega), bs, e31, if_pos (by rw [c1]; rfl), lnR_or29, xsGet_d (by omega) (by have := rb.2.1; omega), bs, lnR_L, lnR_sr35]
      exact hX
    have h268 : ∀ x : Int32, m210_268 K52 (nI k) x (nI k) (lnR t qr31 qr32 qr33 qr34 (qr35.set k (nI (nC (σ k)).length)) qr36 qr37 qr38 qr39 qr40 qr41 qr42 qr43 qr44 qi5 qi6) = K52 (nI k + (-1)) (lnR t qr31 qr32 qr33 qr34 (qr35.set k x) qr36 qr37 qr38 qr39 qr40 qr41 qr42 qr43 qr44 qi5 qi6) := fun x => by
      unfold m210_268
      rw [lnR_r35, xsPut_n (by omega) (by rw [List.length_set]; omega), bs, hset, lnR_sr35]
    have hsl : ∀ i, i < (nC (σ k)).length → lix (nC (σ k)) (nA (σ k)) (nC (σ k)).length = nI i → i = sl σ k := fun i hi h => by
      rcases lixn_eq (nC (σ k)) (nA (σ k)) (nC (σ k)).length with e | ⟨e1, e2⟩
      · rw [h, nI_ne1 (by omega)] at e
        exact absurd e id
      · have e3 : nI i = nI (sl σ k) := h.symm.trans e1
        have e2' : sl σ k < (nC (σ k)).length := e2
        rw [eqN (by omega) (by omega)] at e3
        exact e3
    refine hpre _ ?_
    rcases b1 with ⟨q1, q2⟩ | ⟨i, q1, q2, q3⟩
    · exact absurd q2 b2
    · have his := hsl i q2 q1
      rcases q3 with ⟨c3, c4⟩ | ⟨j, o, o1, o2, o3, o4, o5⟩
      · have hdl := (dk.2 k hk).1
        have hg8 := (dk.1 _ hdl).2.1.1
        have hneg : ¬ (0 : Int32) ≤ (gR t 29).getD k 0 := by
          rw [c4]
          have e : ∀ s : Fin 8, ¬ (0 : Int32) ≤ -2 - nI s.1 := by decide +kernel
          exact e ⟨i, by omega⟩
        have hval : ((-2) - (gR t 29).getD k 0 : Int32) = nI (sl σ k) := by
          rw [c4, ← his]
          have e : ∀ s : Fin 8, ((-2) - (-2 - nI s.1) : Int32) = nI s.1 := by decide +kernel
          exact e ⟨i, by omega⟩
        rw [if_neg hneg, h268, hval]
      · have hoN : o < N := by have := o1.1; omega
        obtain ⟨u1, u2, u3, u4, u5, u6, u7, u8⟩ := ra o hoN
        have ho24 := (wf.2.1 o hoN).1.2.1
        rw [o4, if_pos (nI_pos' (by omega)), xsGet_d (by omega) (by omega), bs, u5, xlGet_d (by omega) (by omega), bs, u7, xlGet_d (by omega) (by omega), bs, r7]
        unfold m210_267
        rcases o5 with ⟨p1, p2, p3⟩ | ⟨p1, p2, p3⟩
        · rw [if_pos ((lg_cmp_eq _ _).mpr p2), h268, ← his, p1, show nI (nC (σ o)).length + b01 false = nI (nC (σ o)).length from nI_add _ 0]
        · have hcl := (wf.2.2.1 o hoN (by simp)).1
          have hkz : kz (nK (σ o)) = true := by
            have tb : ∀ r, r < 24 → ∀ i, i < 3 → ¬ bpc r i = 2 ∨ kz r = true := by decide +kernel
            have hp3 : pq σ j < 3 := by
              by_cases c : pq σ j < 3
              · exact c
              · rw [bpc_ge (by omega)] at p3
                omega
            exact (tb _ (by have := (wf.2.1 o hoN).1.1; omega) _ hp3).resolve_left (fun q => q p3)
          have hne := ((wf.2.1 o hoN).1.2.2.2.2.1 (by rw [hcl, (nf_tbl _ (by have := (wf.2.1 o hoN).1.1; omega)).2]; exact hkz)).2
          rw [if_neg (fun q => hne (p2.trans ((lg_cmp_eq _ _).mp q).symm)), h268, ← his, p1, show nI (nC (σ o)).length + b01 true = nI ((nC (σ o)).length + 1) from nI_add _ 1]
  · refine ⟨qr35.set k (nI (nC (σ k)).length), ?_, by rw [List.length_set]; exact h35, fun j hj => by rw [getD_setn (by omega), if_neg hj], fun _ => by rw [getD_setn (by omega), if_pos rfl, if_neg c1]⟩
    unfold m210_180
    rw [lnR_or13, xsGet_d (by omega) (by omega), bs, r5, lnR_r35, xsPut_n (by omega) (by omega), bs, lnR_r31, xsGet_d (by omega) (by omega), bs, e31, if_neg (by rw [eqL_1 (by omega)]; exact c1), lnR_sr35]
def dwn (k : Nat) : Int32 := if k = 0 then -1 else nI (k - 1)
theorem l52 (wf : WF 0 T σ N [] [] 0) (hN : N < 4090) (hD : D ≤ 64) (dk : DK σ δ D N) (hr : RdT σ δ D N t) (rb : RB σ δ D N N (gR t 29) (gR t 30)) : ∀ (k f : Nat) (qr31 qr32 qr33 qr34 qr35 qr36 : List Int32), k ≤ N → k < f → qr31.length = 4200 → qr32.length = 4200 → qr33.length = 4200 → qr34.length = 4200 → qr35.length = 4200 → qr36.length = 4200 → (∀ j, k ≤ j → j < N → LnN σ δ D N j qr31 qr32 qr33 qr34 qr35 qr36) → ∃ a31 a32 a33 a34 a35 a36, m210_52 f (dwn k) (lnR t qr31 qr32 qr33 qr34 qr35 qr36 qr37 qr38 qr39 qr40 qr41 qr42 qr43 qr44 qi5 qi6) = some (lnR t a31 a32 a33 a34 a35 a36 qr37 qr38 qr39 qr40 qr41 qr42 qr43 qr44 qi5 qi6) ∧ (a31.length = 4200 ∧ a32.length = 4200 ∧ a33.length = 4200 ∧ a34.length = 4200 ∧ a35.length = 4200 ∧ a36.length = 4200) ∧ ∀ j, j < N → LnN σ δ D N j a31 a32 a33 a34 a35 a36 := by
  intro k
  induction k with
  | zero =>
    intro f qr31 qr32 qr33 qr34 qr35 qr36 hk hf h31 h32 h33 h34 h35 h36 hln
    obtain ⟨f, rfl⟩ : ∃ f', f = f' + 1 := ⟨f - 1, by omega⟩
    refine ⟨qr31, qr32, qr33, qr34, qr35, qr36, ?_, ⟨h31, h32, h33, h34, h35, h36⟩, fun j hj => hln j (by omega) hj⟩
    rw [m210_52, if_pos (by decide)]
  | succ k ih =>
    intro f qr31 qr32 qr33 qr34 qr35 qr36 hk hf h31 h32 h33 h34 h35 h36 hln
    obtain ⟨f, rfl⟩ : ∃ f', f = f' + 1 := ⟨f - 1, by omega⟩
    have hr' := hr
    obtain ⟨⟨e27, e28⟩, ra, rd, ⟨l2, l3, l4, l5, l6, l7, ll0, ll1⟩, ⟨l8, l9, l10, l11, l13, l14, ll2, ll3⟩⟩ := hr
    obtain ⟨r1, r2, r3, r4, r5, r6, r7, r8⟩ := ra k (by omega)
    have hpl := pcnt_le (pr σ) k N
    obtain ⟨a32, a33, x1, x2, x3, x4, x5, x6⟩ := l119 (K52 := m210_52 f) (t := t) (qr31 := qr31.set k (nI (nK (σ k)))) (qr34 := qr34.set k (nV (σ k))) (qr35 := qr35) (qr36 := qr36.set k ((gR t 30).getD k 0)) (qr37 := qr37) (qr38 := qr38) (qr39 := qr39) (qr40 := qr40) (qr41 := qr41) (qr42 := qr42) (qr43 := qr43) (qr44 := qr44) (qi5 := qi5) (qi6 := qi6) wf hN hD dk hr' rb (show k < N by omega) (pcnt (pr σ) k N) 0 1000000 (qr32.set k 1) (qr33.set k 0) (by omega) (by omega) (by rw [List.length_set]; exact h32) (by rw [List.length_set]; exact h33) (by rw [getD_setn (by omega), if_pos rfl]; rfl) (by
      rw [getD_setn (by omega), if_pos rfl, show po σ k 0 = k + 1 from rfl, Nat.add_sub_cancel_left]
      rfl) (fun j j1 j2 => by
      rw [getD_setn (by omega), if_neg (by omega)]
      exact (hln j (by omega) j2).2.1)
    obtain ⟨a35, y1, y2, y3, y4⟩ := l180 (K52 := m210_52 f) (t := t) (qr31 := qr31.set k (nI (nK (σ k)))) (qr32 := a32) (qr33 := a33) (qr34 := qr34.set k (nV (σ k))) (qr35 := qr35) (qr36 := qr36.set k ((gR t 30).getD k 0)) (qr37 := qr37) (qr38 := qr38) (qr39 := qr39) (qr40 := qr40) (qr41 := qr41) (qr42 := qr42) (qr43 := qr43) (qr44 := qr44) (qi5 := qi5) (qi6 := qi6) wf hN hD dk hr' rb (show k < N by omega) (by rw [List.length_set]; exact h31) h35 (by rw [getD_setn (by omega), if_pos rfl])
    have hdw : nI k + (-1) = dwn k := by
      unfold dwn
      by_cases c : k = 0
      · rw [if_pos c, c]
        decide
      · rw [if_neg c]
        obtain ⟨k', rfl⟩ : ∃ k', k = k' + 1 := ⟨k - 1, by omega⟩
        rw [nI_dec]
        rfl
    obtain ⟨b31, b32, b33, b34, b35, b36, z1, z2, z3⟩ := ih f (qr31.set k (nI (nK (σ k)))) a32 a33 (qr34.set k (nV (σ k))) a35 (qr36.set k ((gR t 30).getD k 0)) (by omega) (by omega) (by rw [List.length_set]; exact h31) x2 x3 (by rw [List.length_set]; exact h34) y2 (by rw [List.length_set]; exact h36) (fun j j1 j2 => by
      unfold LnN
      rw [getD_setn (by omega), getD_setn (by omega), getD_setn (by omega)]
      by_cases c : j = k
      · subst c
        simp only [if_true]
        exact ⟨trivial, x5, x4, trivial, y4, fun q => ((rb.1 j (by omega)).2 q).1⟩
      · obtain ⟨m1, m2, m3, m4, m5, m6⟩ := hln j (by omega) j2
        rw [if_neg c, if_neg c, if_neg c, (x6 j c).1, (x6 j c).2, y3 j c, getD_setn (by omega), getD_setn (by omega), if_neg c, if_neg c]
        exact ⟨m1, m2, m3, m4, m5, m6⟩)
    refine ⟨b31, b32, b33, b34, b35, b36, ?_, z2, z3⟩
    have hd1 : dwn (k + 1) = nI k := by
      unfold dwn
      rw [if_neg (by omega)]
      rfl
    rw [hd1, m210_52, if_neg (nI_pos (by omega)), lnR_or8, xsGet_d (by omega) (by omega), bs, lnR_r31, xsPut_n (by omega) (by omega), bs, lnR_or14, xsGet_d (by omega) (by omega), bs, lnR_r34, xsPut_n (by omega) (by omega), bs, lnR_or30, xsGet_d (by omega) (by have := rb.2.2; omega), bs, lnR_r36, xsPut_n (by omega) (by omega), bs, lnR_r33, xsPut_n (by omega) (by omega), bs, lnR_r32, xsPut_n (by omega) (by omega), bs, r1, r6, lnR_sr31, lnR_sr34, lnR_sr36, lnR_sr33, lnR_sr32, nI_1]
    refine (x1.trans y1).trans ?_
    rw [hdw]
    exact z1
theorem l13 (wf : WF 0 T σ N [] [] 0) (hN : N < 4090) (hD : D ≤ 64) (dk : DK σ δ D N) (hr : RdT σ δ D N t) (rb : RB σ δ D N N (gR t 29) (gR t 30)) : ∀ (m i f : Nat) (qr37 : List Int32), i + m = D → m < f → qr37.length = 64 → (∀ e, e < i → qr37.getD e 0 = nI (dF (δ e))) → ∃ a37, m210_13 f (nI i) (lnR t qr31 qr32 qr33 qr34 qr35 qr36 qr37 qr38 qr39 qr40 qr41 qr42 qr43 qr44 (nI D) qi6) = m210_52 1000000 (nI N - 1) (lnR t qr31 qr32 qr33 qr34 qr35 qr36 a37 qr38 qr39 qr40 qr41 qr42 qr43 qr44 (nI D) qi6) ∧ a37.length = 64 ∧ ∀ e, e < D → a37.getD e 0 = nI (dF (δ e)) := by
  obtain ⟨⟨e27, e28⟩, ra, rd, ⟨l2, l3, l4, l5, l6, l7, ll0, ll1⟩, -⟩ := hr
  intro m
  induction m with
  | zero =>
    intro i f qr37 hi hf h37 he
    obtain ⟨f, rfl⟩ : ∃ f', f = f' + 1 := ⟨f - 1, by omega⟩
    refine ⟨qr37, ?_, h37, fun e h => he e (by omega)⟩
    rw [m210_13, lnR_i5, if_pos (by rw [leN (by omega) (by omega)]; omega), lnR_oi28, e28]
  | succ m ih =>
    intro i f qr37 hi hf h37 he
    obtain ⟨f, rfl⟩ : ∃ f', f = f' + 1 := ⟨f - 1, by omega⟩
    obtain ⟨a37, x1, x2, x3⟩ := ih (i + 1) f (qr37.set i (nI (dF (δ i)))) (by omega) (by omega) (by rw [List.length_set]; exact h37) (fun e h => by
      rw [getD_setn (by omega)]
      by_cases c : e = i
      · rw [if_pos c, c]
      · rw [if_neg c]
        exact he e (by omega))
    refine ⟨a37, ?_, x2, x3⟩
    rw [m210_13, lnR_i5, if_neg (by rw [leN (by omega) (by omega)]; omega), lnR_or5, xsGet_d (by omega) (by omega), bs, (rd i (by omega)).2.2, lnR_r37, xsPut_n (by omega) (by omega), bs, lnR_sr37, nI_1, x1]
theorem learn_ok (wf : WF 0 T σ N [] [] 0) (hN : N < 4090) (hD : D ≤ 64) (dk : DK σ δ D N) (hr : RdT σ δ D N t) (rb : RB σ δ D N N (gR t 29) (gR t 30)) (h31 : qr31.length = 4200) (h32 : qr32.length = 4200) (h33 : qr33.length = 4200) (h34 : qr34.length = 4200) (h35 : qr35.length = 4200) (h36 : qr36.length = 4200) (h37 : qr37.length = 64) : ∃ a31 a32 a33 a34 a35 a36 a37, m210 (lnR t qr31 qr32 qr33 qr34 qr35 qr36 qr37 qr38 qr39 qr40 qr41 qr42 qr43 qr44 qi5 qi6) = some (lnR t a31 a32 a33 a34 a35 a36 a37 qr38 qr39 qr40 qr41 qr42 qr43 qr44 (nI D) qi6) ∧ SR (mkG σ δ D N) (lnR t a31 a32 a33 a34 a35 a36 a37 qr38 qr39 qr40 qr41 qr42 qr43 qr44 (nI D) qi6) := by
  have e27 := hr.1.1
  obtain ⟨a37, x1, x2, x3⟩ := l13 (t := t) (qr31 := qr31) (qr32 := qr32) (qr33 := qr33) (qr34 := qr34) (qr35 := qr35) (qr36 := qr36) (qr38 := qr38) (qr39 := qr39) (qr40 := qr40) (qr41 := qr41) (qr42 := qr42) (qr43 := qr43) (qr44 := qr44) (qi6 := qi6) wf hN hD dk hr rb D 0 1000000 qr37 (by omega) (by omega) h37 (fun e he => by omega)
  obtain ⟨a31, a32, a33, a34, a35, a36, y1, ⟨z1, z2, z3, z4, z5, z6⟩, y2⟩ := l52 (t := t) (qr37 := a37) (qr38 := qr38) (qr39 := qr39) (qr40 := qr40) (qr41 := qr41) (qr42 := qr42) (qr43 := qr43) (qr44 := qr44) (qi5 := nI D) (qi6 := qi6) wf hN hD dk hr rb N 1000000 qr31 qr32 qr33 qr34 qr35 qr36 (Nat.le_refl _) (by omega) h31 h32 h33 h34 h35 h36 (fun j j1 j2 => by omega)
  have hdN : nI N - 1 = dwn N := by
    unfold dwn
    by_cases c : N = 0
    · rw [if_pos c, c]
      decide
    · rw [if_neg c]
      obtain ⟨k', rfl⟩ : ∃ k', N = k' + 1 := ⟨N - 1, by omega⟩
      rw [nI_pred]
      rfl
  refine ⟨a31, a32, a33, a34, a35, a36, a37, ?_, ?_⟩
  · unfold m210
    rw [lnR_oi27, e27, lnR_si5]
    refine x1.trans ?_
    rw [hdN]
    exact y1
  · unfold SR yLet yCase yCall
    rw [lnR_r31, lnR_r32, lnR_r33, lnR_r34, lnR_r35, lnR_r36, lnR_r37, lnR_i5]
    simp only [G_N, G_M, G_d, G_k, G_n, G_z, G_t, G_l, G_g, G_b, G_e, G_p, G_v]
    refine ⟨fun k hk => ?_, x3, trivial, z1, z2, z3, z4, z5, z6, x2⟩
    obtain ⟨m1, m2, m3, m4, m5, m6⟩ := y2 k hk
    refine ⟨m1, m2, m3, fun _ => m4, fun h => m5 ?_, fun h => m6 ?_⟩
    · rcases h with h | h | h | h
      · exact Or.inl h
      · refine Or.inr (Or.inl ?_)
        rcases h with h | h <;> (rw [h]; rfl)
      · refine Or.inr (Or.inr (Or.inl ?_))
        rcases h with h | h <;> (rw [h]; rfl)
      · exact Or.inr (Or.inr (Or.inr h))
    · rcases h with h | h | h <;> (rw [h]; rfl)
end Learn
