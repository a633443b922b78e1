/-! checking: what both hold while they go through the nodes -/
def pst (σ : Nat → Nd) : Nat → List Nat → List Int32
  | _, [] => [nI 0]
  | c, k :: w => nI (pq σ c) :: pst σ k w
def Lx6 (σ : Nat → Nd) (δ : Nat → Dd) (D N : Nat) : Nat → List Nat → List Int32 → Prop
  | _, [], l => ∃ v, l = [v]
  | c, k :: w, l => ∃ v l', l = v :: l' ∧ (∀ p, p < N → nP (σ p) = (k : Int) → pq σ p + 1 = pq σ c → v = nI (tc (Ty σ δ D N p))) ∧ Lx6 σ δ D N k w l'
def Cx (σ : Nat → Nd) : List Nat → Prop
  | [] => True
  | k :: w => nP (σ k) = tp w ∧ Cx σ w
/-- types of the variables in our slots -/
def EA (r7 : List Int32) (env : List Nat) : Prop := r7.length = 24 ∧ ∀ i, i < env.length → r7.getD i 0 = nI (tc (env.getD i 0))
/-- our rows, as they are read; the definitions that are used, up to a node -/
def CG (σ : Nat → Nd) (δ : Nat → Dd) (D N : Nat) (g : Nat → List Int32) (nn : List Int64) : Prop := (∀ k, k < N → (g 0).getD (k + nD (σ k) + 1) 0 = nI (ck (nK (σ k))) ∧ (g 1).getD (k + nD (σ k) + 1) 0 = nL (σ k) ∧ (g 3).getD (k + nD (σ k) + 1) 0 = nI (nC (σ k)).length ∧ (nK (σ k) = 0 → (g 2).getD (k + nD (σ k) + 1) 0 = nV (σ k)) ∧ (nK (σ k) = 1 → (g 2).getD (k + nD (σ k) + 1) 0 = lix (nC (σ k)) (nA (σ k)) (nC (σ k)).length ∧ nQ (σ k) = nL (σ k)) ∧ (g 4).getD (k + nD (σ k) + 1) 0 = nI (k + nD (σ k) + 1 + nZ (σ k))) ∧ (∀ d, d < D → DC1 (δ d) d g nn ∧ DC2 (δ d) d g) ∧ (g 0).length = N + D ∧ (g 2).length = N + D ∧ (g 6).length = D ∧ nn.length = 64
def CV (σ : Nat → Nd) (δ : Nat → Dd) (D N K : Nat) (g : Nat → List Int32) : Prop := ∀ k, k < N → kc (nK (σ k)) = true → (g 2).getD (k + nD (σ k) + 1) 0 = if k < K then nI (tg σ δ D k) else nQ (σ k)
/-- a node's definition is there and fits -/
def TgO (σ : Nat → Nd) (δ : Nat → Dd) (D N k : Nat) : Prop := tg σ δ D k < D ∧ dN (δ (tg σ δ D k)) = nA (σ k) ∧ dH (δ (tg σ δ D k)) = decide (nK (σ k) = 23) ∧ (dP (δ (tg σ δ D k))).length = pcnt (pr σ) k N
/-- the reference's binders and targets, up to a node -/
def RB (σ : Nat → Nd) (δ : Nat → Dd) (D N K : Nat) (q29 q30 : List Int32) : Prop := (∀ k, k < K → (nK (σ k) = 1 → BS σ δ k (nA (σ k)) (q29.getD k 0) ∧ ¬ q29.getD k 0 = -1) ∧ (kc (nK (σ k)) = true → q30.getD k 0 = nI (tg σ δ D k) ∧ TgO σ δ D N k)) ∧ q29.length = 4096 ∧ q30.length = 4096
/-- the type of a parameter -/
def ptf (σ : Nat → Nd) (δ : Nat → Dd) (D o i : Nat) : Nat := min 3 ((dT (δ (tg σ δ D o))).getD i 0)
def lt1 (σ : Nat → Nd) (δ : Nat → Dd) (D N o : Nat) : Nat := min 3 (Ty σ δ D N (po σ o 1))
/-- a node may stand where it is -/
def STD (σ : Nat → Nd) (δ : Nat → Dd) (D N k : Nat) : Prop := (nP (σ k) = -1 → Ty σ δ D N k = dR (δ (nD (σ k)))) ∧ ∀ o : Nat, nP (σ k) = (o : Int) → cst (nK (σ o)) (pq σ k) (Ty σ δ D N k) (ptf σ δ D o (pq σ k)) (lt1 σ δ D N o) = true
/-- the nodes that are left: all up to K but those above j -/
def LF (σ : Nat → Nd) (δ : Nat → Dd) (D N K j : Nat) (q28 : List Int32) : Prop := q28.length = 4096 ∧ ∀ k, k ≤ K → (j < k ∨ k + nZ (σ k) ≤ j) → q28.getD k 0 = nI (Ty σ δ D N k) ∧ STD σ δ D N k
def LB (σ : Nat → Nd) (δ : Nat → Dd) (D N K : Nat) (q28 : List Int32) : Prop := q28.length = 4096 ∧ ∀ k, k < K → k + nZ (σ k) ≤ K → q28.getD k 0 = nI (Ty σ δ D N k) ∧ STD σ δ D N k
section CkI
variable {T : List Int32} {σ : Nat → Nd} {δ : Nat → Dd} {N K M k d f D o i p j a b : Nat} {w : List Nat} {l : List Int32}
theorem nest (wf : WF 0 T σ N [] [] 0) (ha : a < N) (hab : a ≤ b) (hb : b < a + nZ (σ a)) : b + nZ (σ b) ≤ a + nZ (σ a) := by
  by_cases c : a = b
  · rw [c]; exact Nat.le_refl _
  · obtain ⟨a1, a2, a3, a4, a5, -⟩ := wf.2.2.1 a ha (by simp)
    obtain ⟨b1, b2, b3, b4, b5, -⟩ := wf.2.2.1 b (by omega) (by simp)
    by_cases q : b + nZ (σ b) ≤ a + nZ (σ a)
    · exact q
    · exfalso
      have h1 := b4 (a + nZ (σ a)) (by omega) (by omega)
      have h2 := a5 (by omega)
      omega
theorem par_in (wf : WF 0 T σ N [] [] 0) (hk : k < N) (h : nP (σ k) = (o : Int)) : o < k ∧ k < o + nZ (σ o) ∧ k + nZ (σ k) ≤ o + nZ (σ o) := by
  obtain ⟨n1, n2, n3, n4⟩ := kid_next wf hk h
  obtain ⟨b1, b2, -⟩ := wf.2.2.1 k hk (by simp)
  omega
theorem sib (wf : WF 0 T σ N [] [] 0) (hb : b < N) (h1 : nP (σ a) = (o : Int)) (h2 : nP (σ b) = (o : Int)) (hab : a < b) : a + nZ (σ a) ≤ b := by
  obtain ⟨a1, a2, a3, a4, a5, -⟩ := wf.2.2.1 a (by omega) (by simp)
  have h3 := (par_in wf (show a < N by omega) h1).1
  by_cases q : a + nZ (σ a) ≤ b
  · exact q
  · exfalso
    have h4 := a4 b hab (by omega)
    have h5 : pr σ b = (o : Int) := h2
    omega
theorem cx_len (hPP : PP (pr σ) N) : ∀ (w : List Nat) (k : Nat), k < N → Cx σ (k :: w) → w.length ≤ k := by
  intro w
  induction w with
  | nil => intro k _ _; exact Nat.zero_le _
  | cons o w ih =>
    intro k hk h
    have h1 : nP (σ k) = (o : Int) := h.1
    have h2 := (hPP k hk).2.1
    have h3 : pr σ k = (o : Int) := h1
    have := ih o (by omega) h.2
    rw [List.length_cons]
    omega
theorem pst_len : ∀ (w : List Nat) (c : Nat), (pst σ c w).length = w.length + 1 := by
  intro w
  induction w with
  | nil => intro c; rfl
  | cons k w ih => intro c; show (pst σ k w).length + 1 = _; rw [ih]; rfl
theorem ls_len : ∀ (w : List Nat) (c : Nat) (l : List Int32), Lx6 σ δ D N c w l → l.length = w.length + 1 := by
  intro w
  induction w with
  | nil => intro c l h; obtain ⟨v, rfl⟩ := h; rfl
  | cons k w ih =>
    intro c l h
    obtain ⟨v, l', rfl, -, h'⟩ := h
    rw [List.length_cons, ih k l' h', List.length_cons]
theorem ns_len (d F : Nat) (w : List Nat) : (ns d F w).length = w.length + 1 := by
  unfold ns
  rw [List.length_append, List.length_map]
  rfl
theorem bte_y {r i y y2 : Nat} (h : ¬ i = 1) : bte r i y = bte r i y2 := by
  unfold bte
  rw [if_neg (fun q => h q.2), if_neg (fun q => h q.2 : ¬ (kl r = true ∧ i = 1))]
  split
  · rfl
  · rw [if_neg (fun q => h q.2), if_neg (fun q => h q.2 : ¬ (r = 18 ∧ i = 1))]
/-- definitions follow each other -/
theorem dF_mono (hw : ∀ d, d < D → Dw δ σ D N d) : ∀ e, e < D → ∀ d, d < e → dE (δ d) ≤ dF (δ e) := by
  intro e
  induction e with
  | zero => intro _ d h; omega
  | succ e ih =>
    intro he d hd
    have h1 := (hw e (by omega)).1
    have h2 := h1.2.2.1 he
    by_cases c : d = e
    · rw [c, h2]; exact Nat.le_refl _
    · have := ih (by omega) d (by omega)
      omega
theorem ph_ne (hw : ∀ d, d < D → Dw δ σ D N d) {e : Nat} (hd : d < D) (he : e < D) (h1 : dF (δ d) ≤ K) (h2 : K < dE (δ d)) : ¬ dF (δ e) + e = K + d + 1 := by
  by_cases c : e = d
  · rw [c]; omega
  · by_cases c2 : e < d
    · have := dF_mono hw d hd e c2
      have := (hw e he).1.1
      omega
    · have := dF_mono hw e he d (by omega)
      omega
/-- a definition is put in at a node -/
theorem cg_set {g : Nat → List Int32} {nn : List Int64} (wf : WF 0 T σ N [] [] 0) (dm : DM σ N D) (hw : ∀ d, d < D → Dw δ σ D N d) (cg : CG σ δ D N g nn) (cv : CV σ δ D N K g) (hK : K < N) (hd : d < D) (hdK : nD (σ K) = d) (h1 : dF (δ d) ≤ K) (h2 : K < dE (δ d)) (hkc : kc (nK (σ K)) = true) : CG σ δ D N (bUp g 2 ((g 2).set (K + d + 1) (nI (tg σ δ D K)))) nn ∧ CV σ δ D N (K + 1) (bUp g 2 ((g 2).set (K + d + 1) (nI (tg σ δ D K)))) := by
  obtain ⟨c1, c2, c3, c4, c5, c6⟩ := cg
  have e2 : bUp g 2 ((g 2).set (K + d + 1) (nI (tg σ δ D K))) 2 = (g 2).set (K + d + 1) (nI (tg σ δ D K)) := by rw [bUp_if, if_pos rfl]
  have ej : ∀ j, ¬ j = 2 → bUp g 2 ((g 2).set (K + d + 1) (nI (tg σ δ D K))) j = g j := fun j hj => by rw [bUp_if, if_neg hj]
  have hne : ∀ k, k < N → ¬ k = K → ¬ k + nD (σ k) + 1 = K + d + 1 := fun k hk hq => by
    by_cases q : k < K
    · have := (dm k K (by omega) hK).1
      omega
    · have := (dm K k (by omega) hk).1
      omega
  have hin : K + d + 1 < (g 2).length := by omega
  refine ⟨⟨fun k hk => ?_, fun e he => ?_, ?_, ?_, ?_, c6⟩, fun k hk hkk => ?_⟩
  · obtain ⟨k1, k2, k3, k4, k5, k6⟩ := c1 k hk
    rw [ej 0 (by omega), ej 1 (by omega), ej 3 (by omega), ej 4 (by omega), e2]
    by_cases q : k = K
    · have hq : kc (nK (σ k)) = true := by rw [q]; exact hkc
      exact ⟨k1, k2, k3, fun y => by rw [y] at hq; exact absurd hq (by decide), fun y => by rw [y] at hq; exact absurd hq (by decide), k6⟩
    · rw [getD_setn hin, if_neg (hne k hk q)]
      exact ⟨k1, k2, k3, k4, k5, k6⟩
  · obtain ⟨⟨q1, q2, q3, q4, q5, q6, q7⟩, q8, q9⟩ := c2 e he
    unfold DC1 DC2
    rw [ej 0 (by omega), ej 5 (by omega), ej 6 (by omega), ej 8 (by omega), ej 9 (by omega), ej 7 (by omega), ej 4 (by omega), e2, getD_setn hin, if_neg (ph_ne hw hd he h1 h2)]
    exact ⟨⟨q1, q2, q3, q4, q5, q6, q7⟩, q8, q9⟩
  · rw [ej 0 (by omega)]; exact c3
  · rw [e2, List.length_set]; exact c4
  · rw [ej 6 (by omega)]; exact c5
  · rw [e2, getD_setn hin]
    by_cases q : k = K
    · rw [if_pos (by rw [q, hdK]), if_pos (by omega), q]
    · rw [if_neg (hne k hk q), cv k hk hkk]
      by_cases q2 : k < K
      · rw [if_pos q2, if_pos (by omega)]
      · rw [if_neg q2, if_neg (by omega)]
theorem cv_same {g : Nat → List Int32} (cv : CV σ δ D N K g) (hkc : kc (nK (σ K)) = false) : CV σ δ D N (K + 1) g := fun k hk hkk => by
  rw [cv k hk hkk]
  by_cases q : k = K
  · rw [q, hkc] at hkk
    exact absurd hkk (by decide)
  · by_cases q2 : k < K
    · rw [if_pos q2, if_pos (by omega)]
    · rw [if_neg q2, if_neg (by omega)]
/-- left ones, from node to node -/
theorem lf_up {q28 : List Int32} (wf : WF 0 T σ N [] [] 0) (hN : N < 4096) (hK : K < N) (hj : j ≤ K) (ho : nP (σ j) = (o : Int)) (h : LF σ δ D N K j q28) (hs : STD σ δ D N j) : LF σ δ D N K o (q28.set j (nI (Ty σ δ D N j))) := by
  obtain ⟨h1, h2⟩ := h
  have hoj := (par_in wf (show j < N by omega) ho).1
  refine ⟨by rw [List.length_set]; exact h1, fun k hk hq => ?_⟩
  rw [getD_setn (by omega)]
  by_cases c : k = j
  · rw [if_pos c, c]
    exact ⟨rfl, hs⟩
  · rw [if_neg c]
    refine h2 k hk ?_
    by_cases c1 : j < k
    · exact Or.inl c1
    · refine Or.inr ?_
      rcases hq with hq | hq
      · obtain ⟨a1, a2, a3, a4, a5, -⟩ := wf.2.2.1 k (by omega) (by simp)
        by_cases q : k + nZ (σ k) ≤ j
        · exact q
        · exfalso
          have h4 := a4 j (by omega) (by omega)
          have h5 : pr σ j = (o : Int) := ho
          omega
      · omega
theorem lf_out {q28 : List Int32} (wf : WF 0 T σ N [] [] 0) (hK : K < N) (hj : j ≤ K) (hjz : K + 1 < j + nZ (σ j)) (h : LF σ δ D N K j q28) : LB σ δ D N (K + 1) q28 := by
  refine ⟨h.1, fun k hk hq => h.2 k (by omega) ?_⟩
  by_cases c : j < k
  · exact Or.inl c
  · refine Or.inr ?_
    by_cases q : k + nZ (σ k) ≤ j
    · exact q
    · exfalso
      have := nest wf (show k < N by omega) (show k ≤ j by omega) (by omega)
      omega
theorem lf_root {q28 : List Int32} (wf : WF 0 T σ N [] [] 0) (hN : N < 4096) (hK : K < N) (hj : j ≤ K) (hr : nP (σ j) = -1) (h : LF σ δ D N K j q28) (hs : STD σ δ D N j) : LB σ δ D N (K + 1) (q28.set j (nI (Ty σ δ D N j))) := by
  obtain ⟨h1, h2⟩ := h
  refine ⟨by rw [List.length_set]; exact h1, fun k hk hq => ?_⟩
  rw [getD_setn (by omega)]
  by_cases c : k = j
  · rw [if_pos c, c]
    exact ⟨rfl, hs⟩
  · rw [if_neg c]
    refine h2 k (by omega) ?_
    by_cases c1 : j < k
    · exact Or.inl c1
    · refine Or.inr ?_
      obtain ⟨a1, a2, a3, a4, a5, -⟩ := wf.2.2.1 k (by omega) (by simp)
      by_cases q : k + nZ (σ k) ≤ j
      · exact q
      · exfalso
        have h4 := a4 j (by omega) (by omega)
        have h5 : pr σ j = -1 := hr
        omega
end CkI
