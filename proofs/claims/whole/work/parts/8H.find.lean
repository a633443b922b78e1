/-! what else both find: how many are there, which definition, how many parts -/
section Find
variable {T : List Int32} {σ : Nat → Nd} {δ : Nat → Dd} {N K M k d f D o i : Nat} {t : xSt} {qr17 qr18 qr19 qr20 qr21 qr22 qr23 qr24 qr25 qr26 qr27 qr28 qr29 qr30 : List Int32} {qi31 qi32 qi33 qi34 qi35 qi36 : Int32} {ql4 ql5 ql6 ql7 : List Int64} {qz1 : Bool} {s : xSt} {z : Bool} {g : Nat → List Int32} {nn : List Int64} {r4 r5 r6 r7 : List Int32} {i2 i3 : Int32}
theorem m191_go (wf : WF 0 T σ N [] [] 0) (hN : N < 4096) (tn : TN σ N N qr22 qr23 qr24 qr25 qr26 qr27 ql6 ql7) (h22 : qr22.length = 4096) (h24 : qr24.length = 4096) (h25 : qr25.length = 4096) : ∀ (k f : Nat) (x : Int32), k < N → k < f → ∃ v, m191_14 f x (nI k) (tyR t qr17 qr18 qr19 qr20 qr21 qr22 qr23 qr24 qr25 qr26 qr27 qr28 qr29 qr30 qi31 qi32 qi33 qi34 qi35 qi36 ql4 ql5 ql6 ql7 qz1) = some (v, (tyR t qr17 qr18 qr19 qr20 qr21 qr22 qr23 qr24 qr25 qr26 qr27 qr28 qr29 qr30 qi31 qi32 qi33 qi34 qi35 qi36 ql4 ql5 ql6 ql7 qz1)) := by
  obtain ⟨p1, p2, p3, p4, p5, p6⟩ := wf
  intro k
  induction k using Nat.strongRecOn with
  | _ k ih =>
    intro f x hk hf
    obtain ⟨f, rfl⟩ : ∃ f', f = f' + 1 := ⟨f - 1, by omega⟩
    obtain ⟨t1, t2, t3, t4, t5, t6, t7, t8⟩ := tn k hk
    unfold m191_14
    rw [tyR_r24, xsGet_d (by omega) (by omega), bs, t3]
    rcases (p2 k hk).2.1 with hr | ⟨o, o1, o2, o3, o4, o5⟩
    · rw [hr, show pI (-1) = -1 from rfl, if_pos (by decide)]
      exact ⟨_, rfl⟩
    · have hoN : o < N := by omega
      obtain ⟨u1, u2, u3, u4, u5, u6, u7, u8⟩ := tn o hoN
      have hpk : pq σ k = pcnt (pr σ) o k := by
        unfold pq
        rw [if_neg (by rw [o1]; omega), o1, Int.toNat_natCast]
      have hpl := pcnt_le (pr σ) o k
      have h69 : ∀ a b, ∃ v, m191_69 (m191_14 f) (nI k) a b (tyR t qr17 qr18 qr19 qr20 qr21 qr22 qr23 qr24 qr25 qr26 qr27 qr28 qr29 qr30 qi31 qi32 qi33 qi34 qi35 qi36 ql4 ql5 ql6 ql7 qz1) = some (v, (tyR t qr17 qr18 qr19 qr20 qr21 qr22 qr23 qr24 qr25 qr26 qr27 qr28 qr29 qr30 qi31 qi32 qi33 qi34 qi35 qi36 ql4 ql5 ql6 ql7 qz1)) := fun a b => by
        unfold m191_69
        rw [tyR_r24, xsGet_d (by omega) (by omega), bs, t3, o1, pI_k]
        exact ih o o2 f _ hoN (by omega)
      rw [o1, pI_k, if_neg (nI_pos (by omega)), bs, tyR_r25, xsGet_d (by omega) (by omega), bs, t4, hpk, m192_eq hoN (by omega) (p2 o hoN).1.1 (by omega) h22 u1, bs]
      split
      · rw [tyR_r24, xsGet_d (by omega) (by omega), bs, t3, o1, pI_k, tyR_r22, xsGet_d (by omega) (by omega), bs, u1, m184_eq (p2 o hoN).1.1, bs]
        split
        · exact h69 _ _
        · exact h69 _ _
      · exact h69 _ _
theorem m191_eq (wf : WF 0 T σ N [] [] 0) (hN : N < 4096) (hD : D ≤ 64) (hk : k < N) (hnd : nD (σ k) < D) (tn : TN σ N N qr22 qr23 qr24 qr25 qr26 qr27 ql6 ql7) (h19 : qr19.length = 64) (h22 : qr22.length = 4096) (h24 : qr24.length = 4096) (h25 : qr25.length = 4096) (h26 : qr26.length = 4096) : ∃ v, m191 (nI k) (tyR t qr17 qr18 qr19 qr20 qr21 qr22 qr23 qr24 qr25 qr26 qr27 qr28 qr29 qr30 qi31 qi32 qi33 qi34 qi35 qi36 ql4 ql5 ql6 ql7 qz1) = some (v, (tyR t qr17 qr18 qr19 qr20 qr21 qr22 qr23 qr24 qr25 qr26 qr27 qr28 qr29 qr30 qi31 qi32 qi33 qi34 qi35 qi36 ql4 ql5 ql6 ql7 qz1)) := by
  unfold m191
  rw [tyR_r26, xsGet_d (by omega) (by omega), bs, (tn k hk).2.2.2.2.1, tyR_r19, xsGet_d (by omega) (by omega), bs]
  exact m191_go wf hN tn h22 h24 h25 k 1000000 _ hk (by omega)
/-- the definition of a name -/
def fnd (δ : Nat → Dd) (y : Int64) (D : Nat) (x : Int32) : Prop := (x = -1 ∧ ∀ e, e < D → ¬ dN (δ e) = y) ∨ ∃ e, e < D ∧ x = nI e ∧ dN (δ e) = y
theorem m194_go {y : Int64} (hN : N < 4096) (hD : D ≤ 64) (hk : k < N) (hw : ∀ d, d < D → Dh δ d) (td : TD δ D qr17 qr18 qr19 qr20 qr21 ql4 ql5) (hy : ql6.getD k 0 = y) (h4 : ql4.length = 64) (h6 : ql6.length = 4096) : ∀ (m i f : Nat) (x : Int32), i + m = D → m < f → fnd δ y i x → ∃ x2, fnd δ y D x2 ∧ m194_4 f (nI k) x (nI i) (tyR t qr17 qr18 qr19 qr20 qr21 qr22 qr23 qr24 qr25 qr26 qr27 qr28 qr29 qr30 qi31 (nI D) qi33 qi34 qi35 qi36 ql4 ql5 ql6 ql7 qz1) = (if x2 < 0 then m194_104 x2 (tyR t qr17 qr18 qr19 qr20 qr21 qr22 qr23 qr24 qr25 qr26 qr27 qr28 qr29 qr30 qi31 (nI D) qi33 qi34 qi35 qi36 ql4 ql5 ql6 ql7 qz1) else (if 0 ≤ x2 then m194_57 (nI k) x2 x2 (tyR t qr17 qr18 qr19 qr20 qr21 qr22 qr23 qr24 qr25 qr26 qr27 qr28 qr29 qr30 qi31 (nI D) qi33 qi34 qi35 qi36 ql4 ql5 ql6 ql7 qz1) else m194_57 (nI k) x2 0 (tyR t qr17 qr18 qr19 qr20 qr21 qr22 qr23 qr24 qr25 qr26 qr27 qr28 qr29 qr30 qi31 (nI D) qi33 qi34 qi35 qi36 ql4 ql5 ql6 ql7 qz1))) := by
  intro m
  induction m with
  | zero =>
    intro i f x hi hf hx
    obtain ⟨f, rfl⟩ : ∃ f', f = f' + 1 := ⟨f - 1, by omega⟩
    refine ⟨x, by rw [show D = i by omega]; exact hx, ?_⟩
    unfold m194_4
    rw [tyR_i32, if_pos (by rw [leN (by omega) (by omega)]; omega)]
  | succ m ih =>
    intro i f x hi hf hx
    obtain ⟨f, rfl⟩ : ∃ f', f = f' + 1 := ⟨f - 1, by omega⟩
    have e5 := (td i (by omega)).2.2.2.2.1
    unfold m194_4
    rw [tyR_i32, if_neg (by rw [leN (by omega) (by omega)]; omega), tyR_l4, xlGet_d (by omega) (by omega), bs, tyR_l6, xlGet_d (by omega) (by omega), bs, hy, e5, nI_1]
    by_cases c : dN (δ i) = y
    · rw [if_pos ((lg_cmp_eq _ _).mpr c)]
      exact ih (i + 1) f (nI i) (by omega) (by omega) (Or.inr ⟨i, by omega, rfl, c⟩)
    · rw [if_neg (fun q => c ((lg_cmp_eq _ _).mp q))]
      refine ih (i + 1) f x (by omega) (by omega) ?_
      rcases hx with ⟨h1, h2⟩ | ⟨e, h1, h2, h3⟩
      · refine Or.inl ⟨h1, fun e he => ?_⟩
        by_cases ce : e = i
        · rw [ce]; exact c
        · exact h2 e (by omega)
      · exact Or.inr ⟨e, by omega, h2, h3⟩
/-- which definition a node uses: it is there, of its kind, with as many parameters as it has parts -/
def tgo (σ : Nat → Nd) (δ : Nat → Dd) (N D k : Nat) (v : Int32) : Prop := (v = -1 ∧ ∀ e, e < D → dN (δ e) = nA (σ k) → ¬ (dH (δ e) = decide (nK (σ k) = 23) ∧ (dP (δ e)).length = pcnt (pr σ) k N)) ∨ ∃ e, e < D ∧ v = nI e ∧ dN (δ e) = nA (σ k) ∧ dH (δ e) = decide (nK (σ k) = 23) ∧ (dP (δ e)).length = pcnt (pr σ) k N
theorem m194_eq (hN : N < 4096) (hD : D ≤ 64) (hk : k < N) (hr : nK (σ k) ≤ 23) (hw : ∀ d, d < D → Dh δ d) (hg : ∀ d, d < D → Dg (δ d)) (td : TD δ D qr17 qr18 qr19 qr20 qr21 ql4 ql5) (tn : TN σ N N qr22 qr23 qr24 qr25 qr26 qr27 ql6 ql7) (h17 : qr17.length = 64) (h19 : qr19.length = 64) (h22 : qr22.length = 4096) (h23 : qr23.length = 4096) (h4 : ql4.length = 64) (h6 : ql6.length = 4096) : ∃ v, m194 (nI k) (tyR t qr17 qr18 qr19 qr20 qr21 qr22 qr23 qr24 qr25 qr26 qr27 qr28 qr29 qr30 qi31 (nI D) qi33 qi34 qi35 qi36 ql4 ql5 ql6 ql7 qz1) = some (v, (tyR t qr17 qr18 qr19 qr20 qr21 qr22 qr23 qr24 qr25 qr26 qr27 qr28 qr29 qr30 qi31 (nI D) qi33 qi34 qi35 qi36 ql4 ql5 ql6 ql7 qz1)) ∧ tgo σ δ N D k v := by
  obtain ⟨t1, t2, t3, t4, t5, t6, t7, t8⟩ := tn k hk
  obtain ⟨x2, hx, he⟩ := m194_go (t := t) (qr17 := qr17) (qr18 := qr18) (qr19 := qr19) (qr20 := qr20) (qr21 := qr21) (qr22 := qr22) (qr23 := qr23) (qr24 := qr24) (qr25 := qr25) (qr26 := qr26) (qr27 := qr27) (qr28 := qr28) (qr29 := qr29) (qr30 := qr30) (qi31 := qi31) (qi33 := qi33) (qi34 := qi34) (qi35 := qi35) (qi36 := qi36) (ql4 := ql4) (ql5 := ql5) (ql6 := ql6) (ql7 := ql7) (qz1 := qz1) (k := k) hN hD hk hw td t7 h4 h6 D 0 1000000 (-1) (by omega) (by omega) (Or.inl ⟨rfl, fun e he => by omega⟩)
  unfold m194
  rw [show (0 : Int32) = nI 0 from rfl, he]
  have hpl := pcnt_le (pr σ) k N
  rcases hx with ⟨h1, h2⟩ | ⟨e, h1, h2, h3⟩
  · refine ⟨-1, ?_, Or.inl ⟨rfl, fun e he hq => absurd hq (h2 e he)⟩⟩
    rw [h1, if_pos (by decide)]
    rfl
  · obtain ⟨d1, d2, d3, d4, d5, d6⟩ := td e h1
    have hg8 := (hg e h1).1
    have huni : ∀ e', e' < D → dN (δ e') = nA (σ k) → e' = e := fun e' he' hq => by
      by_cases c1 : e' < e
      · exact absurd (hq.trans h3.symm) ((hw e h1).2 e' c1)
      · by_cases c2 : e < e'
        · exact absurd (h3.trans hq.symm) ((hw e' he').2 e c2)
        · omega
    rw [h2, if_neg (nI_pos (by omega)), if_pos (nI_pos' (by omega))]
    unfold m194_57
    rw [tyR_r17, xsGet_d (by omega) (by omega), bs, tyR_r22, xsGet_d (by omega) (by omega), bs, t1, d1]
    have h74 : ∀ b : Bool, m194_74 (nI k) (nI e) b (lvl (dH (δ e))) (tyR t qr17 qr18 qr19 qr20 qr21 qr22 qr23 qr24 qr25 qr26 qr27 qr28 qr29 qr30 qi31 (nI D) qi33 qi34 qi35 qi36 ql4 ql5 ql6 ql7 qz1) = some (if dH (δ e) = b ∧ (dP (δ e)).length = pcnt (pr σ) k N then nI e else -1, (tyR t qr17 qr18 qr19 qr20 qr21 qr22 qr23 qr24 qr25 qr26 qr27 qr28 qr29 qr30 qi31 (nI D) qi33 qi34 qi35 qi36 ql4 ql5 ql6 ql7 qz1)) := fun b => by
      unfold m194_74 m194_90 m194_104 m194_105
      by_cases cb : dH (δ e) = b
      · rw [if_pos (by rw [cb]; cases b <;> rfl), if_pos (nI_pos' (by omega)), tyR_r19, xsGet_d (by omega) (by omega), bs, tyR_r23, xsGet_d (by omega) (by omega), bs, d3, t2]
        by_cases cp : (dP (δ e)).length = pcnt (pr σ) k N
        · rw [if_pos (by rw [cp]), if_pos rfl, if_pos ⟨cb, cp⟩]
        · rw [if_neg (by rw [eqN (by omega) (by omega)]; exact cp), if_neg ff, if_neg (fun q => cp q.2)]
      · rw [if_neg (fun q => cb (by revert q; cases dH (δ e) <;> cases b <;> decide)), if_neg ff, if_neg (fun q => cb q.1)]
    have hsel : (if nI (nK (σ k)) = 23 then m194_74 (nI k) (nI e) true (lvl (dH (δ e))) (tyR t qr17 qr18 qr19 qr20 qr21 qr22 qr23 qr24 qr25 qr26 qr27 qr28 qr29 qr30 qi31 (nI D) qi33 qi34 qi35 qi36 ql4 ql5 ql6 ql7 qz1) else m194_74 (nI k) (nI e) false (lvl (dH (δ e))) (tyR t qr17 qr18 qr19 qr20 qr21 qr22 qr23 qr24 qr25 qr26 qr27 qr28 qr29 qr30 qi31 (nI D) qi33 qi34 qi35 qi36 ql4 ql5 ql6 ql7 qz1)) = m194_74 (nI k) (nI e) (decide (nK (σ k) = 23)) (lvl (dH (δ e))) (tyR t qr17 qr18 qr19 qr20 qr21 qr22 qr23 qr24 qr25 qr26 qr27 qr28 qr29 qr30 qi31 (nI D) qi33 qi34 qi35 qi36 ql4 ql5 ql6 ql7 qz1) := by
      by_cases c : nK (σ k) = 23
      · rw [if_pos (by rw [eqL_23 (by omega)]; exact c), decide_eq_true c]
      · rw [if_neg (by rw [eqL_23 (by omega)]; exact c), decide_eq_false c]
    rw [hsel, h74]
    by_cases c : dH (δ e) = decide (nK (σ k) = 23) ∧ (dP (δ e)).length = pcnt (pr σ) k N
    · rw [if_pos c]
      exact ⟨_, rfl, Or.inr ⟨e, h1, rfl, h3, c.1, c.2⟩⟩
    · rw [if_neg c]
      exact ⟨_, rfl, Or.inl ⟨rfl, fun e' he' hq => by rw [huni e' he' hq]; exact c⟩⟩
/-- parts of a node follow each other -/
theorem kid_next (wf : WF 0 T σ N [] [] 0) {j : Nat} (hj : j < N) (hp : nP (σ j) = (k : Int)) : pcnt (pr σ) k (j + nZ (σ j)) = pcnt (pr σ) k j + 1 ∧ k < j ∧ j + nZ (σ j) ≤ k + nZ (σ k) ∧ (j + nZ (σ j) < k + nZ (σ k) → nP (σ (j + nZ (σ j))) = (k : Int)) := by
  obtain ⟨p1, p2, p3, p4, p5, p6⟩ := wf
  have hkj : k < j := by
    have h1 := (p1 j hj).2.1
    have h2 : pr σ j = (k : Int) := hp
    omega
  obtain ⟨a1, a2, a3, a4, a5, -⟩ := p3 j hj (by simp)
  obtain ⟨b1, b2, b3, b4, b5, -⟩ := p3 k (by omega) (by simp)
  have hle : ∀ m, j + 1 ≤ m → m ≤ j + nZ (σ j) → pcnt (pr σ) k m = pcnt (pr σ) k j + 1 := by
    intro m
    induction m with
    | zero => intro h; omega
    | succ m ih =>
      intro h1 h2
      have e : pcnt (pr σ) k (m + 1) = pcnt (pr σ) k m + if pr σ m = (k : Int) then 1 else 0 := rfl
      rw [e]
      by_cases c : m = j
      · rw [c, if_pos (show pr σ j = (k : Int) from hp)]
      · have h3 := a4 m (by omega) (by omega)
        rw [if_neg (by omega), ih (by omega) (by omega)]
  have hend : j < k + nZ (σ k) := by
    by_cases c : j < k + nZ (σ k)
    · exact c
    · exfalso
      by_cases ce : k + nZ (σ k) = j
      · have := b5 (by omega)
        rw [ce] at this
        have h2 : pr σ j = (k : Int) := hp
        omega
      · have h5 := b5 (by omega)
        have h6 := (p1 j hj).2.2 (k + nZ (σ k)) (by have h2 : pr σ j = (k : Int) := hp; omega) (by omega)
        have h2 : pr σ j = (k : Int) := hp
        omega
  have hle2 : j + nZ (σ j) ≤ k + nZ (σ k) := by
    by_cases c : j + nZ (σ j) ≤ k + nZ (σ k)
    · exact c
    · exfalso
      have h5 := b5 (by omega)
      have h6 := a4 (k + nZ (σ k)) (by omega) (by omega)
      omega
  refine ⟨hle _ (by omega) (Nat.le_refl _), hkj, hle2, fun h => ?_⟩
  have h7 := b4 (j + nZ (σ j)) (by omega) h
  have h8 := (p1 (j + nZ (σ j)) (by omega)).2.2 j (by
    have := a5 (by omega)
    omega) (by omega)
  have h2 : pr σ j = (k : Int) := hp
  show pr σ (j + nZ (σ j)) = _
  omega
theorem kid_first (wf : WF 0 T σ N [] [] 0) (hk : k < N) (hz : 1 < nZ (σ k)) : nP (σ (k + 1)) = (k : Int) ∧ k + 1 < N := by
  obtain ⟨p1, p2, p3, p4, p5, p6⟩ := wf
  obtain ⟨b1, b2, b3, b4, b5, -⟩ := p3 k hk (by simp)
  have h1 := b4 (k + 1) (by omega) (by omega)
  have h2 := (p1 (k + 1) (by omega)).2.1
  refine ⟨?_, by omega⟩
  show pr σ (k + 1) = _
  omega
theorem pcnt_all (wf : WF 0 T σ N [] [] 0) (hk : k < N) : pcnt (pr σ) k (k + nZ (σ k)) = pcnt (pr σ) k N := by
  obtain ⟨p1, p2, p3, p4, p5, p6⟩ := wf
  obtain ⟨b1, b2, b3, b4, b5, -⟩ := p3 k hk (by simp)
  by_cases c : k + nZ (σ k) < N
  · exact (pcnt_end p1 (by omega) (b5 c) (by omega) (Nat.le_refl _)).symm
  · rw [show k + nZ (σ k) = N by omega]
end Find
