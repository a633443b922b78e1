/-! the nodes in the reference's types: one by one -/
/-- which part a node is -/
def pq (σ : Nat → Nd) (k : Nat) : Nat := if nP (σ k) < 0 then 0 else pcnt (pr σ) (nP (σ k)).toNat k
/-- the definitions, the first nodes -/
def TD (δ : Nat → Dd) (M : Nat) (qr17 qr18 qr19 qr20 qr21 : List Int32) (ql4 ql5 : List Int64) : Prop := ∀ d, d < M → qr17.getD d 0 = lvl (dH (δ d)) ∧ qr18.getD d 0 = nI (dR (δ d)) ∧ qr19.getD d 0 = nI (dP (δ d)).length ∧ qr21.getD d 0 = nI (dF (δ d)) ∧ ql4.getD d 0 = dN (δ d) ∧ ∀ i, i < (dP (δ d)).length → ql5.getD (8 * d + i) 0 = (dP (δ d)).getD i 0 ∧ qr20.getD (8 * d + i) 0 = nI ((dT (δ d)).getD i 0)
def TN (σ : Nat → Nd) (N K : Nat) (qr22 qr23 qr24 qr25 qr26 qr27 : List Int32) (ql6 ql7 : List Int64) : Prop := ∀ k, k < K → qr22.getD k 0 = nI (nK (σ k)) ∧ qr23.getD k 0 = nI (pcnt (pr σ) k N) ∧ qr24.getD k 0 = pI (nP (σ k)) ∧ qr25.getD k 0 = nI (pq σ k) ∧ qr26.getD k 0 = nI (nD (σ k)) ∧ qr27.getD k 0 = nI (pcnt (pr σ) k K) ∧ ql6.getD k 0 = nA (σ k) ∧ ql7.getD k 0 = nB (σ k)
section Look0
variable {T : List Int32} {σ : Nat → Nd} {δ : Nat → Dd} {N K M k d f : Nat} {t : xSt} {qr17 qr18 qr19 qr20 qr21 qr22 qr23 qr24 qr25 qr26 qr27 qr28 qr29 qr30 : List Int32} {qi31 qi32 qi33 qi34 qi35 qi36 : Int32} {ql4 ql5 ql6 ql7 : List Int64} {qz1 : Bool}
theorem pI_cases (p : Int) (h : -1 ≤ p) : (p = -1 ∧ pI p = -1) ∨ ∃ k : Nat, p = (k : Int) ∧ pI p = nI k := by
  by_cases c : p < 0
  · refine Or.inl ⟨by omega, ?_⟩
    unfold pI
    rw [if_pos c]
  · refine Or.inr ⟨p.toNat, by omega, ?_⟩
    unfold pI
    rw [if_neg c]
theorem pcnt_le (par : Nat → Int) (k : Nat) : ∀ n, pcnt par k n ≤ n := by
  intro n
  induction n with
  | zero => exact Nat.le_refl _
  | succ n ih =>
    unfold pcnt
    split <;> omega
/-- how many parts: the reference counts them -/
theorem m207_go {S : xSt} (hPP : PP (pr σ) N) (hN : N < 8192) (h28 : gI S 28 = nI N) (h9 : (gR S 9).length = 8192) (hr : ∀ j, j < N → (gR S 9).getD j 0 = pI (pr σ j)) : ∀ (m j f : Nat), j + m = N → k < j → m < f → (∀ i, k < i → i < j → (k : Int) ≤ pr σ i) → m207_6 f (nI k) (nI (pcnt (pr σ) k j)) (nI j) S = some (nI (pcnt (pr σ) k N), S) := by
  intro m
  induction m with
  | zero =>
    intro j f hj hk hf hi
    obtain ⟨f, rfl⟩ : ∃ f', f = f' + 1 := ⟨f - 1, by omega⟩
    unfold m207_6
    rw [h28, if_pos (by rw [leN (by omega) (by omega)]; omega), show j = N by omega]
  | succ m ih =>
    intro j f hj hk hf hi
    obtain ⟨f, rfl⟩ : ∃ f', f = f' + 1 := ⟨f - 1, by omega⟩
    unfold m207_6
    rw [h28, if_neg (by rw [leN (by omega) (by omega)]; omega), xsGet_d (by omega) (by omega), bs, bs, hr j (by omega)]
    have hP := (hPP j (by omega)).1
    have e : pcnt (pr σ) k (j + 1) = pcnt (pr σ) k j + if pr σ j = (k : Int) then 1 else 0 := rfl
    by_cases c : pr σ j < (k : Int)
    · have hlt : pI (pr σ j) < nI k := by
        rcases pI_cases (pr σ j) hP with ⟨e1, e2⟩ | ⟨q, e1, e2⟩
        · rw [e2]
          exact Int32.lt_of_lt_of_le (show (-1 : Int32) < 0 by decide) (nI_pos' (by omega))
        · rw [e2, ltN (by have := (hPP j (by omega)).2.1; omega) (by omega)]
          omega
      rw [if_pos hlt, pcnt_end hPP hk c (by omega) (Nat.le_refl _)]
    · obtain ⟨q, e1, e2⟩ : ∃ q : Nat, pr σ j = (q : Int) ∧ pI (pr σ j) = nI q := by
        rcases pI_cases (pr σ j) hP with ⟨e1, e2⟩ | h
        · omega
        · exact h
      have hq := (hPP j (by omega)).2.1
      rw [e2, if_neg (by rw [ltN (by omega) (by omega)]; omega)]
      have hi' : ∀ i, k < i → i < j + 1 → (k : Int) ≤ pr σ i := fun i h1 h2 => by
        by_cases ci : i = j
        · rw [ci]; omega
        · exact hi i h1 (by omega)
      have hx := ih (j + 1) f (by omega) (by omega) (by omega) hi'
      rw [e] at hx
      by_cases c2 : q = k
      · rw [if_pos (by rw [c2]), nI_1, nI_1]
        rw [if_pos (by omega)] at hx
        exact hx
      · rw [if_neg (by rw [eqN (by omega) (by omega)]; exact c2), nI_1]
        rw [if_neg (by omega)] at hx
        rw [show nI (pcnt (pr σ) k j) + 0 = nI (pcnt (pr σ) k j + 0) from nI_add _ 0]
        exact hx
theorem m207_eq {S : xSt} (hPP : PP (pr σ) N) (hN : N < 8192) (hk : k < N) (h28 : gI S 28 = nI N) (h9 : (gR S 9).length = 8192) (hr : ∀ j, j < N → (gR S 9).getD j 0 = pI (pr σ j)) : m207 (nI k) S = some (nI (pcnt (pr σ) k N), S) := by
  have hx := m207_go (k := k) hPP hN h28 h9 hr (N - (k + 1)) (k + 1) 1000000 (by omega) (by omega) (by omega) (fun i h1 h2 => by omega)
  rw [pcnt_0 hPP (by omega) (Nat.le_refl _)] at hx
  unfold m207
  rw [nI_1]
  exact hx
/-- where the next node goes -/
def tgt (σ : Nat → Nd) (N K : Nat) : Int := if K < N then pr σ K else -1
theorem m179_go (hPP : PP (pr σ) N) (hN : N ≤ 4096) (hK : K ≤ N) (hn : TN σ N K qr22 qr23 qr24 qr25 qr26 qr27 ql6 ql7) (h23 : qr23.length = 4096) (h24 : qr24.length = 4096) (h27 : qr27.length = 4096) : ∀ (i f : Nat), i < K → i + 1 < f → An (pr σ) i (K - 1) → tgt σ N K ≤ (i : Int) → m179_36 f (nI i) (tyR t qr17 qr18 qr19 qr20 qr21 qr22 qr23 qr24 qr25 qr26 qr27 qr28 qr29 qr30 qi31 qi32 qi33 qi34 qi35 qi36 ql4 ql5 ql6 ql7 qz1) = some (pI (tgt σ N K), (tyR t qr17 qr18 qr19 qr20 qr21 qr22 qr23 qr24 qr25 qr26 qr27 qr28 qr29 qr30 qi31 qi32 qi33 qi34 qi35 qi36 ql4 ql5 ql6 ql7 qz1)) := by
  intro i
  induction i using Nat.strongRecOn with
  | _ i ih =>
    intro f hi hf ha ht
    obtain ⟨f, rfl⟩ : ∃ f', f = f' + 1 := ⟨f - 1, by omega⟩
    obtain ⟨t1, t2, t3, t4, t5, t6, t7, t8⟩ := hn i hi
    unfold m179_36
    rw [if_neg (nI_pos (by omega)), tyR_r27, tyR_r23, xsGet_d (by omega) (by omega), bs, xsGet_d (by omega) (by omega), bs, t2, t6]
    have hp1 := pcnt_le (pr σ) i K
    have hp2 := pcnt_le (pr σ) i N
    by_cases c : tgt σ N K = (i : Int)
    · have hKN : K < N := by
        unfold tgt at c
        by_cases q : K < N
        · exact q
        · rw [if_neg q] at c
          omega
      have hpar : pr σ K = (i : Int) := by
        unfold tgt at c
        rw [if_pos hKN] at c
        exact c
      have hlt := pcnt_lt hpar hKN
      rw [if_neg (by rw [eqN (by omega) (by omega)]; omega), c, pI_k]
    · have heq : pcnt (pr σ) i K = pcnt (pr σ) i N := by
        by_cases q : K < N
        · have hpar : pr σ K < (i : Int) := by
            unfold tgt at ht c
            rw [if_pos q] at ht c
            omega
          exact (pcnt_end hPP hi hpar (by omega) (Nat.le_refl _)).symm
        · rw [show K = N by omega]
      rw [if_pos (by rw [heq]), tyR_r24, xsGet_d (by omega) (by omega), bs, t3]
      rcases pI_cases (nP (σ i)) (hPP i (by omega)).1 with ⟨e1, e2⟩ | ⟨q, e1, e2⟩
      · rw [e2]
        obtain ⟨f, rfl⟩ : ∃ f', f = f' + 1 := ⟨f - 1, by omega⟩
        unfold m179_36
        rw [if_pos (by decide)]
        have : tgt σ N K = -1 := by
          by_cases q : K < N
          · unfold tgt at ht c ⊢
            rw [if_pos q] at ht c ⊢
            obtain ⟨r1, r2, r3⟩ := hPP K q
            have hpi : pr σ i = -1 := e1
            have h3 := r3 i (by omega) hi
            omega
          · unfold tgt
            rw [if_neg q]
        rw [this]
        rfl
      · rw [e2]
        have hqi := (an_up (N := N) hPP (by omega) ha e1)
        refine ih q hqi.2 f (by omega) (by omega) hqi.1 ?_
        by_cases q2 : K < N
        · unfold tgt at ht c ⊢
          rw [if_pos q2] at ht c ⊢
          obtain ⟨r1, r2, r3⟩ := hPP K q2
          have h3 := r3 i (by omega) hi
          have hpi : pr σ i = (q : Int) := e1
          omega
        · unfold tgt
          rw [if_neg q2]
          omega
theorem m179_eq (hPP : PP (pr σ) N) (hN : N ≤ 4096) (hK : K ≤ N) (hM : M < 64) (hn : TN σ N K qr22 qr23 qr24 qr25 qr26 qr27 ql6 ql7) (h21 : qr21.length = 65) (h23 : qr23.length = 4096) (h24 : qr24.length = 4096) (h27 : qr27.length = 4096) (hb : qr21.getD M 0 = nI d) (hd : d ≤ K) : m179 (tyR t qr17 qr18 qr19 qr20 qr21 qr22 qr23 qr24 qr25 qr26 qr27 qr28 qr29 qr30 qi31 (nI (M + 1)) (nI K) qi34 qi35 qi36 ql4 ql5 ql6 ql7 qz1) = some (if K = d then -1 else pI (tgt σ N K), (tyR t qr17 qr18 qr19 qr20 qr21 qr22 qr23 qr24 qr25 qr26 qr27 qr28 qr29 qr30 qi31 (nI (M + 1)) (nI K) qi34 qi35 qi36 ql4 ql5 ql6 ql7 qz1)) := by
  unfold m179 m179_25 m179_35
  rw [tyR_i32, if_neg (by rw [eqL_0 (by omega)]; omega), nI_pred, tyR_r21, xsGet_d (by omega) (by omega), bs, tyR_i33, hb]
  by_cases c : K = d
  · rw [if_pos (by rw [c]), if_pos c]
    obtain ⟨f, hf⟩ : ∃ f', 1000000 = f' + 1 := ⟨999999, rfl⟩
    rw [hf]
    unfold m179_36
    rw [if_pos (by decide)]
  · rw [if_neg (by rw [eqN (by omega) (by omega)]; exact c), if_neg c]
    obtain ⟨K, rfl⟩ : ∃ K', K = K' + 1 := ⟨K - 1, by omega⟩
    rw [nI_pred]
    refine m179_go hPP hN hK hn h23 h24 h27 K 1000000 (by omega) (by omega) ⟨Nat.le_refl _, fun i h1 h2 => by omega⟩ ?_
    unfold tgt
    split
    · next q =>
      have := (hPP (K + 1) q).2.1
      omega
    · omega
end Look0
