/-! nodes in the arrays of both -/
def RA (σ : Nat → Nd) (N : Nat) (qr8 qr9 qr10 qr11 qr13 qr14 : List Int32) (ql2 ql3 : List Int64) : Prop := ∀ k, k < N → qr8.getD k 0 = nI (nK (σ k)) ∧ qr9.getD k 0 = pI (nP (σ k)) ∧ qr10.getD k 0 = nL (σ k) ∧ qr11.getD k 0 = nQ (σ k) ∧ qr13.getD k 0 = nI (nC (σ k)).length ∧ qr14.getD k 0 = nV (σ k) ∧ ql2.getD k 0 = nA (σ k) ∧ ql3.getD k 0 = nB (σ k)
/-- definitions of nodes go up -/
def DM (σ : Nat → Nd) (N d : Nat) : Prop := ∀ i j, i ≤ j → j < N → nD (σ i) ≤ nD (σ j) ∧ nD (σ j) ≤ d
/-- a node in our rows -/
def NC (x : Nd) (c : Nat) (g : Nat → List Int32) : Prop := (g 0).getD c 0 = nI (ck (nK x)) ∧ (g 1).getD c 0 = nL x ∧ (g 3).getD c 0 = nI (nC x).length ∧ (nK x = 0 → (g 2).getD c 0 = nV x) ∧ (nK x = 1 → (g 2).getD c 0 = lix (nC x) (nA x) (nC x).length ∧ nQ x = nL x) ∧ (nq (nK x) (nS x) = true → (g 2).getD c 0 = nQ x) ∧ (nS x = 100 → (g 4).getD c 0 = nI (c + nZ x))
def CA (σ : Nat → Nd) (N d F : Nat) (gg g : Nat → List Int32) : Prop := (∀ j, 5 ≤ j → g j = gg j) ∧ (∀ j, j < 5 → (g j).length = N + d + 1) ∧ (∀ j i, j < 5 → i < F + d + 1 → (g j).getD i 0 = (gg j).getD i 0) ∧ ∀ k, k < N → NC (σ k) (k + nD (σ k) + 1) g
section Arr
variable {σ : Nat → Nd} {N d F k : Nat} {v nd : Nd} {qr8 qr9 qr10 qr11 qr13 qr14 : List Int32} {ql2 ql3 : List Int64} {gg g g2 : Nat → List Int32}
theorem ra_push (h : RA σ N qr8 qr9 qr10 qr11 qr13 qr14 ql2 ql3) (hN : N < 8192) (h8 : qr8.length = 8192) (h9 : qr9.length = 8192) (h10 : qr10.length = 8192) (h11 : qr11.length = 8192) (h13 : qr13.length = 8192) (h14 : qr14.length = 8192) (g2 : ql2.length = 8192) (g3 : ql3.length = 8192) : RA (fu σ N nd) (N + 1) (qr8.set N (nI (nK nd))) (qr9.set N (pI (nP nd))) (qr10.set N (nL nd)) (qr11.set N (nQ nd)) (qr13.set N (nI (nC nd).length)) (qr14.set N (nV nd)) (ql2.set N (nA nd)) (ql3.set N (nB nd)) := by
  intro j hj
  rw [getD_setn (by omega), getD_setn (by omega), getD_setn (by omega), getD_setn (by omega), getD_setn (by omega), getD_setn (by omega), getD_setn (by omega), getD_setn (by omega)]
  by_cases y : j = N
  · rw [y, fu_s]
    simp only [if_true, and_self]
  · rw [fu_n y]
    simp only [if_neg y]
    exact h j (by omega)
theorem ra_same (h : RA σ N qr8 qr9 qr10 qr11 qr13 qr14 ql2 ql3) (e1 : nK v = nK (σ k)) (e2 : nP v = nP (σ k)) (e3 : nL v = nL (σ k)) (e4 : nQ v = nQ (σ k)) (e5 : nC v = nC (σ k)) (e6 : nV v = nV (σ k)) (e7 : nA v = nA (σ k)) (e8 : nB v = nB (σ k)) : RA (fu σ k v) N qr8 qr9 qr10 qr11 qr13 qr14 ql2 ql3 := by
  intro j hj
  by_cases y : j = k
  · subst y
    rw [fu_s, e1, e2, e3, e4, e5, e6, e7, e8]
    exact h j hj
  · rw [fu_n y]
    exact h j hj
theorem ra_A {s : Nat} {a : Int64} {q : Int32} (h : RA σ N qr8 qr9 qr10 qr11 qr13 qr14 ql2 ql3) (hk : k < N) (hN : N ≤ 8192) (h11 : qr11.length = 8192) (g2 : ql2.length = 8192) : RA (fu σ k (uA (σ k) s a q)) N qr8 qr9 qr10 (qr11.set k q) qr13 qr14 (ql2.set k a) ql3 := by
  intro j hj
  rw [getD_setn (by omega), getD_setn (by omega)]
  by_cases y : j = k
  · subst y
    obtain ⟨a1, a2, a3, a4, a5, a6, a7, a8⟩ := h j hj
    rw [fu_s]
    simp only [if_true]
    exact ⟨a1, a2, a3, rfl, a5, a6, rfl, a8⟩
  · rw [fu_n y]
    simp only [if_neg y]
    exact h j hj
theorem ra_B {s : Nat} {b : Int64} (h : RA σ N qr8 qr9 qr10 qr11 qr13 qr14 ql2 ql3) (hk : k < N) (hN : N ≤ 8192) (g3 : ql3.length = 8192) : RA (fu σ k (uB (σ k) s b)) N qr8 qr9 qr10 qr11 qr13 qr14 ql2 (ql3.set k b) := by
  intro j hj
  rw [getD_setn (by omega)]
  by_cases y : j = k
  · subst y
    obtain ⟨a1, a2, a3, a4, a5, a6, a7, a8⟩ := h j hj
    rw [fu_s]
    simp only [if_true]
    exact ⟨a1, a2, a3, a4, a5, a6, a7, rfl⟩
  · rw [fu_n y]
    simp only [if_neg y]
    exact h j hj
theorem dm_upd (h : DM σ N d) (e : nD v = nD (σ k)) : DM (fu σ k v) N d := by
  have eD : ∀ i, nD (fu σ k v i) = nD (σ i) := fun i => by
    by_cases y : i = k
    · rw [y, fu_s, e]
    · rw [fu_n y]
  intro i j hi hj
  rw [eD, eD]
  exact h i j hi hj
theorem dm_push (h : DM σ N d) (e : nD nd = d) : DM (fu σ N nd) (N + 1) d := by
  intro i j hi hj
  by_cases y : j = N
  · rw [y, fu_s, e]
    refine ⟨?_, Nat.le_refl _⟩
    by_cases y2 : i = N
    · rw [y2, fu_s, e]
      exact Nat.le_refl _
    · rw [fu_n y2]
      exact (h i i (Nat.le_refl _) (by omega)).2
  · rw [fu_n y, fu_n (by omega : ¬ i = N)]
    exact h i j hi (by omega)
theorem addN_j {a b c e : Int32} {j : Nat} (hj : 5 ≤ j) : addN g a b c e j = g j := by
  unfold addN
  rw [bUp_if, if_neg (by omega), bUp_if, if_neg (by omega), bUp_if, if_neg (by omega), bUp_if, if_neg (by omega), bUp_if, if_neg (by omega)]
theorem addN_5 {a b c e : Int32} : addN g a b c e 0 = xsPush 4097 (g 0) a ∧ addN g a b c e 1 = xsPush 4097 (g 1) b ∧ addN g a b c e 2 = xsPush 4097 (g 2) c ∧ addN g a b c e 3 = xsPush 4097 (g 3) e ∧ addN g a b c e 4 = xsPush 4097 (g 4) (nI (g 0).length + 1) := by
  unfold addN
  refine ⟨?_, ?_, ?_, ?_, ?_⟩
  all_goals
    simp only [bUp_if]
    rfl
theorem ca_push {vv : Int32} (h : CA σ N d F gg g) (hm : DM σ N d) (hF : F ≤ N) (hL : N + d + 1 < 4097) (e : nD nd = d) (v0 : nK nd = 0 → vv = nV nd) (v1 : nK nd = 1 → vv = lix (nC nd) (nA nd) (nC nd).length ∧ nQ nd = nL nd) (vq : nq (nK nd) (nS nd) = false) (ve : nS nd = 100 → nZ nd = 1) : CA (fu σ N nd) (N + 1) d F gg (addN g (nI (ck (nK nd))) (nL nd) vv (nI (nC nd).length)) := by
  obtain ⟨p1, p2, p3, p4⟩ := h
  obtain ⟨q0, q1, q2, q3, q4⟩ := addN_5 (g := g) (a := nI (ck (nK nd))) (b := nL nd) (c := vv) (e := nI (nC nd).length)
  have l0 := p2 0 (by omega)
  have l1 := p2 1 (by omega)
  have l2 := p2 2 (by omega)
  have l3 := p2 3 (by omega)
  have l4 := p2 4 (by omega)
  rw [xsPush_n (by omega)] at q0 q1 q2 q3 q4
  have hj5 : ∀ j, j < 5 → ∃ x, addN g (nI (ck (nK nd))) (nL nd) vv (nI (nC nd).length) j = g j ++ [x] := by
    intro j hj
    have hh : j = 0 ∨ j = 1 ∨ j = 2 ∨ j = 3 ∨ j = 4 := by omega
    rcases hh with rfl | rfl | rfl | rfl | rfl
    · exact ⟨_, q0⟩
    · exact ⟨_, q1⟩
    · exact ⟨_, q2⟩
    · exact ⟨_, q3⟩
    · exact ⟨_, q4⟩
  refine ⟨fun j hj => (addN_j hj).trans (p1 j hj), fun j hj => ?_, fun j i hj hi => ?_, fun j hj => ?_⟩
  · obtain ⟨x, hx⟩ := hj5 j hj
    rw [hx, List.length_append, p2 j hj]
    show N + d + 1 + 1 = _
    omega
  · obtain ⟨x, hx⟩ := hj5 j hj
    rw [hx, getD_app_l (by rw [p2 j hj]; omega)]
    exact p3 j i hj hi
  · by_cases y : j = N
    · rw [y, fu_s, e]
      unfold NC
      rw [q0, q1, q2, q3, q4]
      rw [getD_push, getD_push, getD_push, getD_push, getD_push, l0, l1, l2, l3, l4]
      simp only [if_true]
      refine ⟨trivial, trivial, trivial, v0, v1, fun q => absurd (vq.symm.trans q) (by decide), fun q => ?_⟩
      rw [ve q, nI_1]
    · have hj' : j < N := by omega
      have hc : j + nD (σ j) + 1 < N + d + 1 := by
        have := (hm j j (Nat.le_refl _) hj').2
        omega
      rw [fu_n y]
      have q := p4 j hj'
      unfold NC at q ⊢
      rw [q0, q1, q2, q3, q4, getD_app_l (by omega), getD_app_l (by omega), getD_app_l (by omega), getD_app_l (by omega), getD_app_l (by omega)]
      exact q
theorem ca_upd (h : CA σ N d F gg g) (hm : DM σ N d) (hk : k < N) (hF : F ≤ k) (e0 : nD (σ k) = d) (e1 : nK v = nK (σ k)) (e2 : nD v = nD (σ k)) (e3 : nL v = nL (σ k)) (e4 : nC v = nC (σ k)) (g1 : ∀ j, ¬ j = 2 → ¬ j = 4 → g2 j = g j) (g3 : ∀ j, j = 2 ∨ j = 4 → (g2 j).length = (g j).length ∧ ∀ i, ¬ i = k + d + 1 → (g2 j).getD i 0 = (g j).getD i 0) (v0 : 3 ≤ nK v) (vq : nq (nK v) (nS v) = true → (g2 2).getD (k + d + 1) 0 = nQ v) (ve : nS v = 100 → (g2 4).getD (k + d + 1) 0 = nI (k + d + 1 + nZ v)) : CA (fu σ k v) N d F gg g2 := by
  obtain ⟨p1, p2, p3, p4⟩ := h
  refine ⟨fun j hj => (g1 j (by omega) (by omega)).trans (p1 j hj), fun j hj => ?_, fun j i hj hi => ?_, fun j hj => ?_⟩
  · by_cases y : j = 2 ∨ j = 4
    · rw [(g3 j y).1]; exact p2 j hj
    · rw [g1 j (fun q => y (Or.inl q)) (fun q => y (Or.inr q))]; exact p2 j hj
  · by_cases y : j = 2 ∨ j = 4
    · rw [(g3 j y).2 i (by omega)]; exact p3 j i hj hi
    · rw [g1 j (fun q => y (Or.inl q)) (fun q => y (Or.inr q))]; exact p3 j i hj hi
  · by_cases y : j = k
    · subst y
      obtain ⟨q0, q1, q2, q3, q4, q5, q6⟩ := p4 j hj
      rw [fu_s, e2, e0]
      rw [e0] at q0 q1 q2
      unfold NC
      rw [g1 0 (by omega) (by omega), g1 1 (by omega) (by omega), g1 3 (by omega) (by omega), e1, e3, e4]
      rw [e1] at v0 vq
      exact ⟨q0, q1, q2, fun q => by omega, fun q => by omega, vq, ve⟩
    · have hc : ¬ j + nD (σ j) + 1 = k + d + 1 := by
        by_cases y2 : j < k
        · have := (hm j k (by omega) hk).1
          omega
        · have := (hm k j (by omega) hj).1
          omega
      rw [fu_n y]
      have q := p4 j hj
      unfold NC at q ⊢
      rw [g1 0 (by omega) (by omega), g1 1 (by omega) (by omega), g1 3 (by omega) (by omega), (g3 2 (Or.inl rfl)).2 _ hc, (g3 4 (Or.inr rfl)).2 _ hc]
      exact q
theorem pI_k (k : Nat) : pI (k : Int) = nI k := by
  unfold pI
  rw [if_neg (by omega), Int.toNat_natCast]
theorem upd_set {a : Nat} {c : Nat} {x : Int32} (ha : a = 2 ∨ a = 4) : (∀ j, ¬ j = 2 → ¬ j = 4 → bUp g a ((g a).set c x) j = g j) ∧ ∀ j, j = 2 ∨ j = 4 → (bUp g a ((g a).set c x) j).length = (g j).length ∧ ∀ i, ¬ i = c → (bUp g a ((g a).set c x) j).getD i 0 = (g j).getD i 0 := by
  constructor
  · intro j h2 h4
    rw [bUp_if, if_neg (by rcases ha with rfl | rfl <;> assumption)]
  · intro j hj
    rw [bUp_if]
    by_cases y : j = a
    · subst y
      rw [if_pos rfl]
      refine ⟨List.length_set, fun i hi => ?_⟩
      rw [getD_set_n, if_neg (by omega)]
    · rw [if_neg y]
      exact ⟨rfl, fun _ _ => rfl⟩
end Arr
