/-! checking: main -/
/-- the last definition is main -/
def MN (δ : Nat → Dd) (D : Nat) : Prop := 0 < D ∧ dN (δ (D - 1)) = 427310 ∧ (dH (δ (D - 1)) = false ∧ dR (δ (D - 1)) = 3) ∧ (dP (δ (D - 1))).length = 1 ∧ (dT (δ (D - 1))).getD 0 0 = 3
/-- where it isn't -/
def mpl (T : List Int32) (δ : Nat → Dd) (D : Nat) : Int32 := if D = 0 then nI T.length else dL (δ (D - 1))
section CkMn
variable {T : List Int32} {σ : Nat → Nd} {δ : Nat → Dd} {N d D E : Nat} {t : xSt} {qr17 qr18 qr19 qr20 qr21 qr22 qr23 qr24 qr25 qr26 qr27 qr28 qr29 qr30 : List Int32} {qi31 qi32 qi33 qi34 qi35 qi36 : Int32} {ql4 ql5 ql6 ql7 : List Int64} {qz1 : Bool} {s : xSt} {z : Bool} {g : Nat → List Int32} {nn : List Int64} {r4 r5 r6 r7 : List Int32} {i2 i3 : Int32} {S : xSt}
theorem m22_10 : m22 10 S = some (427310, S) := by
  have hl : xtLen 10 = some 4 := by decide
  have h0 : xtAt 10 0 = some 109 := by decide
  have h1 : xtAt 10 (0 + 1) = some 97 := by decide
  have h2 : xtAt 10 (0 + 1 + 1) = some 105 := by decide
  have h3 : xtAt 10 (0 + 1 + 1 + 1) = some 110 := by decide
  have hs : ∀ (n : Nat) (x1 : Int64) (x3 : Int32), m22_4 (n + 1) 10 x1 x3 S = (xtLen 10).bind fun v1 => if v1 ≤ x3 then some (x1, S) else (xtAt 10 x3).bind fun v3 => m22_4 n 10 ((x1 * 32) + (Int32.toInt64 ((v3 - 97) + 1))) (x3 + 1) S := fun n x1 x3 => by rw [m22_4]
  unfold m22
  rw [show (1000000 : Nat) = 999995 + 1 + 1 + 1 + 1 + 1 from rfl, hs, hl, bs, if_neg (by decide), h0, bs, hs, hl, bs, if_neg (by decide), h1, bs, hs, hl, bs, if_neg (by decide), h2, bs, hs, hl, bs, if_neg (by decide), h3, bs, hs, hl, bs, if_pos (by decide)]
  exact congrArg (fun x => some (x, S)) (by decide)
theorem tc_15 : ∀ y, y < 4 → (tc y = 15 ↔ y = 3) ∧ tc y < 100 := by decide +kernel
theorem main_c (hz : gZ s 5 = z) (hT : gR s 0 = T) (wf : WF 0 T σ N [] [] 0) (hN : N < 4090) (hD : D ≤ 64) (dk : DK σ δ D N) (cg : CG σ δ D N g nn) : (MN δ D → m101 (ckC s z g nn r4 r5 r6 r7 0 i3) = some (ckC s z g nn r4 r5 r6 r7 0 i3)) ∧ (¬ MN δ D → m101 (ckC s z g nn r4 r5 r6 r7 0 i3) = some (ckC s z g nn r4 r5 r6 r7 4 (mpl T δ D))) := by
  have h6 := cg.2.2.2.2.1
  have hnn := cg.2.2.2.2.2
  by_cases c0 : D = 0
  · subst c0
    refine ⟨fun q => absurd q.1 (by omega), fun _ => ?_⟩
    unfold m101
    rw [ckC_oz5, hz, ckC_gP, h6, if_neg (by decide), ckC_or0, hT, ck14, bs]
    unfold mpl
    rw [if_pos rfl]
  · obtain ⟨E, rfl⟩ : ∃ E, D = E + 1 := ⟨D - 1, by omega⟩
    obtain ⟨⟨c1, c2, c3, c4, c5, c6, c7⟩, c8, c9⟩ := cg.2.1 E (by omega)
    obtain ⟨w1, w2, ⟨w3, w3b⟩, w4, w5⟩ := dk.1 E (by omega)
    obtain ⟨t1, t2⟩ := tc_15 (dR (δ E)) (by omega)
    have hg1 := w2.1
    have h60 := m60_gen (S := (ckC s z g nn r4 r5 r6 r7 0 i3)) (b := z) (y := 427310) (D := E + 1) (by rw [ckC_gP]; exact h6) (by omega) (by rw [ckC_gN]; exact hnn)
    rw [ckC_gN] at h60
    have h130 : m101_130 (nI E) (ckC s z g nn r4 r5 r6 r7 0 i3) = some (ckC s z g nn r4 r5 r6 r7 4 (mpl T δ (E + 1))) := by
      unfold m101_130
      rw [ckAt (j := 5) hz (by omega), c1, ck14, bs]
      unfold mpl
      rw [if_neg (by omega)]
      rfl
    have h115 : ∀ a b c : Bool, m101_115 (nI E) a b c (ckC s z g nn r4 r5 r6 r7 0 i3) = if (a && (b && c)) = true then some (ckC s z g nn r4 r5 r6 r7 0 i3) else some (ckC s z g nn r4 r5 r6 r7 4 (mpl T δ (E + 1))) := fun a b c => by
      unfold m101_115
      rw [h130]
      cases a <;> cases b <;> cases c <;> rfl
    have h83 : ∀ a b : Bool, m101_83 (nI E) a b (ckC s z g nn r4 r5 r6 r7 0 i3) = m101_115 (nI E) a b (decide ((dP (δ E)).length = 1 ∧ (dT (δ E)).getD 0 0 = 3)) (ckC s z g nn r4 r5 r6 r7 0 i3) := fun a b => by
      unfold m101_83 m101_114
      rw [ckAt (j := 8) hz (by omega), c3, show nI E * 8 + 0 = nI (8 * E + 0) by rw [Int32.mul_comm]; exact nI_8x E 0, ckAt (j := 9) hz (by omega)]
      by_cases q1 : (dP (δ E)).length = 1
      · obtain ⟨g1, g2, g3, g4⟩ := w2
        have g5 := (g3 0 (by omega)).1
        obtain ⟨u1, u2⟩ := tc_15 ((dT (δ E)).getD 0 0) (by omega)
        rw [if_pos (by rw [q1]; rfl), c4 0 (by omega)]
        by_cases q2 : (dT (δ E)).getD 0 0 = 3
        · rw [if_pos (by rw [q2]; rfl), decide_eq_true ⟨q1, q2⟩]
        · rw [if_neg (by rw [eqL_15 (by omega)]; exact fun q => q2 (u1.mp q)), decide_eq_false (fun q => q2 q.2)]
      · rw [if_neg (by rw [eqL_1 (by omega)]; exact q1), decide_eq_false (fun q => q1 q.1)]
    have h51 : ∀ a : Bool, m101_51 (nI E) a (ckC s z g nn r4 r5 r6 r7 0 i3) = m101_83 (nI E) a (decide (dH (δ E) = false ∧ dR (δ E) = 3)) (ckC s z g nn r4 r5 r6 r7 0 i3) := fun a => by
      unfold m101_51 m101_82
      rw [ckAt (j := 6) hz (by omega), c2, ckAt (j := 0) hz (by omega), c6, ckAt (j := 7) hz (by omega), c8]
      cases hh : dH (δ E)
      · rw [if_pos (by decide)]
        by_cases q2 : dR (δ E) = 3
        · rw [if_pos (by rw [q2]; rfl), decide_eq_true ⟨rfl, q2⟩]
        · rw [if_neg (by rw [eqL_15 (by omega)]; exact fun q => q2 (t1.mp q)), decide_eq_false (fun q => q2 q.2)]
      · rw [if_neg (by decide), decide_eq_false (fun q => absurd q.1 (by decide))]
    have hnm : (dfx nn 427310 0 (E + 1) = nI E) ↔ dN (δ E) = 427310 := by
      have hnd : ∀ e, e < E + 1 → nn.getD e 0 = dN (δ e) := fun e he => (cg.2.1 e he).1.2.2.2.2.1
      rcases dfx_spec nn 427310 (E + 1) 0 with ⟨e1, e2⟩ | ⟨e, -, e2, e3, e4⟩
      · refine ⟨fun q => ?_, fun q => ?_⟩
        · rw [e1] at q
          have := nI_ne1 (a := E) (by omega)
          rw [← q] at this
          exact absurd this (by simp)
        · exact absurd ((hnd E (by omega)).trans q) (e2 E (by omega) (by omega))
      · rw [hnd e (by omega)] at e4
        rw [e3, eqN (by omega) (by omega)]
        refine ⟨fun q => by rw [← q]; exact e4, fun q => ?_⟩
        by_cases c : e = E
        · exact c
        · exact absurd (e4.trans q.symm) (w4.2 e (by omega))
    have hall : m101 (ckC s z g nn r4 r5 r6 r7 0 i3) = if (decide (dN (δ E) = 427310) && (decide (dH (δ E) = false ∧ dR (δ E) = 3) && decide ((dP (δ E)).length = 1 ∧ (dT (δ E)).getD 0 0 = 3))) = true then some (ckC s z g nn r4 r5 r6 r7 0 i3) else some (ckC s z g nn r4 r5 r6 r7 4 (mpl T δ (E + 1))) := by
      unfold m101
      rw [ckC_oz5, hz, ckC_gP, h6, nI_pred, if_pos (nI_pos' (by omega)), m22_10, bs, h60, bs]
      by_cases q : dN (δ E) = 427310
      · rw [if_pos (hnm.mpr q), h51, h83, h115, decide_eq_true q]
      · rw [if_neg (fun q1 => q (hnm.mp q1)), h51, h83, h115, decide_eq_false q]
    constructor
    · intro ⟨_, q1, q2, q3⟩
      have q1' : dN (δ E) = 427310 := q1
      have q2' : dH (δ E) = false ∧ dR (δ E) = 3 := q2
      have q3' : (dP (δ E)).length = 1 ∧ (dT (δ E)).getD 0 0 = 3 := q3
      rw [hall, decide_eq_true q1', decide_eq_true q2', decide_eq_true q3', if_pos (by decide)]
    · intro q
      rw [hall, if_neg]
      intro h
      rw [Bool.and_eq_true, Bool.and_eq_true, decide_eq_true_eq, decide_eq_true_eq, decide_eq_true_eq] at h
      exact q ⟨by omega, h⟩
theorem main_r (wf : WF 0 T σ N [] [] 0) (hN : N < 4090) (hD : D ≤ 64) (dk : DK σ δ D N) (td : TD δ D qr17 qr18 qr19 qr20 qr21 ql4 ql5) (h17 : qr17.length = 64) (h18 : qr18.length = 64) (h19 : qr19.length = 64) (h20 : qr20.length = 512) (h4 : ql4.length = 64) : (MN δ D → m188 (tyR t qr17 qr18 qr19 qr20 qr21 qr22 qr23 qr24 qr25 qr26 qr27 qr28 qr29 qr30 qi31 (nI D) qi33 qi34 qi35 qi36 ql4 ql5 ql6 ql7 qz1) = some (true, (tyR t qr17 qr18 qr19 qr20 qr21 qr22 qr23 qr24 qr25 qr26 qr27 qr28 qr29 qr30 qi31 (nI D) qi33 qi34 qi35 qi36 ql4 ql5 ql6 ql7 qz1))) ∧ (¬ MN δ D → m188 (tyR t qr17 qr18 qr19 qr20 qr21 qr22 qr23 qr24 qr25 qr26 qr27 qr28 qr29 qr30 qi31 (nI D) qi33 qi34 qi35 qi36 ql4 ql5 ql6 ql7 qz1) = some (false, (tyR t qr17 qr18 qr19 qr20 qr21 qr22 qr23 qr24 qr25 qr26 qr27 qr28 qr29 qr30 qi31 (nI D) qi33 qi34 qi35 qi36 ql4 ql5 ql6 ql7 qz1))) := by
  by_cases c0 : D = 0
  · subst c0
    refine ⟨fun q => absurd q.1 (by omega), fun _ => ?_⟩
    unfold m188
    rw [tyR_i32, if_pos (by decide)]
  · obtain ⟨E, rfl⟩ : ∃ E, D = E + 1 := ⟨D - 1, by omega⟩
    obtain ⟨d1, d2, d3, d4, d5, d6⟩ := td E (by omega)
    obtain ⟨w1, w2, ⟨w3, w3b⟩, w4, w5⟩ := dk.1 E (by omega)
    have hg1 := w2.1
    have hpre : m188 (tyR t qr17 qr18 qr19 qr20 qr21 qr22 qr23 qr24 qr25 qr26 qr27 qr28 qr29 qr30 qi31 (nI (E + 1)) qi33 qi34 qi35 qi36 ql4 ql5 ql6 ql7 qz1) = m188_27 (nI E) (nI E) (tyR t qr17 qr18 qr19 qr20 qr21 qr22 qr23 qr24 qr25 qr26 qr27 qr28 qr29 qr30 qi31 (nI (E + 1)) qi33 qi34 qi35 qi36 ql4 ql5 ql6 ql7 qz1) := by
      unfold m188
      rw [tyR_i32, if_neg (by rw [leL_0 (by omega)]; omega), nI_pred, if_pos (nI_pos' (by omega))]
    have h44 : m188_44 (nI E) (nI E) (tyR t qr17 qr18 qr19 qr20 qr21 qr22 qr23 qr24 qr25 qr26 qr27 qr28 qr29 qr30 qi31 (nI (E + 1)) qi33 qi34 qi35 qi36 ql4 ql5 ql6 ql7 qz1) = some (decide (dN (δ E) = 427310 ∧ ((dP (δ E)).length = 1 ∧ (dT (δ E)).getD 0 0 = 3) ∧ dR (δ E) = 3), (tyR t qr17 qr18 qr19 qr20 qr21 qr22 qr23 qr24 qr25 qr26 qr27 qr28 qr29 qr30 qi31 (nI (E + 1)) qi33 qi34 qi35 qi36 ql4 ql5 ql6 ql7 qz1)) := by
      unfold m188_44
      rw [tyR_l4, xlGet_d (by omega) (by omega), bs, d5]
      by_cases q1 : dN (δ E) = 427310
      · rw [if_pos ((lg_cmp_eq _ _).mpr q1), tyR_r19, xsGet_d (by omega) (by omega), bs, d3]
        by_cases q2 : (dP (δ E)).length = 1
        · obtain ⟨g1, g2, g3, g4⟩ := w2
          have g5 := (g3 0 (by omega)).1
          rw [if_pos (by rw [q2]; rfl), show (8 : Int32) * nI E = nI (8 * E + 0) by rw [← nI_8x E 0, show nI 0 = 0 from rfl, Int32.add_zero], tyR_r20, xsGet_d (by omega) (by omega), bs, (d6 0 (by omega)).2]
          by_cases q3 : (dT (δ E)).getD 0 0 = 3
          · rw [if_pos (by rw [q3]; rfl), tyR_r18, xsGet_d (by omega) (by omega), bs, d2]
            by_cases q4 : dR (δ E) = 3
            · rw [if_pos (by rw [q4]; rfl), decide_eq_true ⟨q1, ⟨q2, q3⟩, q4⟩]
            · rw [if_neg (by rw [eqL_3 (by omega)]; exact q4), decide_eq_false (fun q => q4 q.2.2)]
          · rw [if_neg (by rw [eqL_3 (by omega)]; exact q3), decide_eq_false (fun q => q3 q.2.1.2)]
        · rw [if_neg (by rw [eqL_1 (by omega)]; exact q2), decide_eq_false (fun q => q2 q.2.1.1)]
      · rw [if_neg (fun q => q1 ((lg_cmp_eq _ _).mp q)), decide_eq_false (fun q => q1 q.1)]
    have h27 : m188_27 (nI E) (nI E) (tyR t qr17 qr18 qr19 qr20 qr21 qr22 qr23 qr24 qr25 qr26 qr27 qr28 qr29 qr30 qi31 (nI (E + 1)) qi33 qi34 qi35 qi36 ql4 ql5 ql6 ql7 qz1) = if dH (δ E) = false then some (decide (dN (δ E) = 427310 ∧ ((dP (δ E)).length = 1 ∧ (dT (δ E)).getD 0 0 = 3) ∧ dR (δ E) = 3), (tyR t qr17 qr18 qr19 qr20 qr21 qr22 qr23 qr24 qr25 qr26 qr27 qr28 qr29 qr30 qi31 (nI (E + 1)) qi33 qi34 qi35 qi36 ql4 ql5 ql6 ql7 qz1)) else some (false, (tyR t qr17 qr18 qr19 qr20 qr21 qr22 qr23 qr24 qr25 qr26 qr27 qr28 qr29 qr30 qi31 (nI (E + 1)) qi33 qi34 qi35 qi36 ql4 ql5 ql6 ql7 qz1)) := by
      unfold m188_27
      rw [tyR_r17, xsGet_d (by omega) (by omega), bs, d1, if_pos (show (0 : Int32) ≤ nI E from nI_pos' (by omega)), h44]
      cases dH (δ E)
      · rw [if_pos (by decide), if_pos rfl]
      · rw [if_neg (by decide), if_neg (by decide)]
    rw [hpre, h27]
    constructor
    · intro ⟨_, q1, q2, q3⟩
      have q1' : dN (δ E) = 427310 := q1
      have q2' : dH (δ E) = false ∧ dR (δ E) = 3 := q2
      have q3' : (dP (δ E)).length = 1 ∧ (dT (δ E)).getD 0 0 = 3 := q3
      rw [if_pos q2'.1, decide_eq_true ⟨q1', q3', q2'.2⟩]
    · intro q
      by_cases hh : dH (δ E) = false
      · rw [if_pos hh, decide_eq_false (fun h => q ⟨by omega, h.1, ⟨hh, h.2.2⟩, h.2.1⟩)]
      · rw [if_neg hh]
end CkMn
