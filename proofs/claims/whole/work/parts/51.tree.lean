/-! parents in the order of a text: a node's parent is the one ahead of it or above that -/
def PP (par : Nat → Int) (N : Nat) : Prop := ∀ n, n < N → -1 ≤ par n ∧ par n < (n : Int) ∧ ∀ i : Nat, par n < (i : Int) → i < n → par n ≤ par i
/-- j is k, or above it -/
def An (par : Nat → Int) (j k : Nat) : Prop := j ≤ k ∧ ∀ i : Nat, j < i → i ≤ k → (j : Int) ≤ par i
theorem an_refl (par : Nat → Int) (k : Nat) : An par k k := ⟨Nat.le_refl k, fun i h1 h2 => by omega⟩
theorem an_up {par : Nat → Int} {N j k p : Nat} (h : PP par N) (hk : k < N) (ha : An par j k) (hp : par j = (p : Int)) : An par p k ∧ p < j := by
  have hjk := ha.1
  obtain ⟨h1, h2, h3⟩ := h j (by omega)
  refine ⟨⟨by omega, fun i hi1 hi2 => ?_⟩, by omega⟩
  by_cases z : i < j
  · have := h3 i (by omega) z
    omega
  · by_cases z2 : i = j
    · subst z2
      omega
    · have := ha.2 i (by omega) hi2
      omega
theorem an_down {par : Nat → Int} {N j k : Nat} (h : PP par N) (hk : k < N) (ha : An par j k) (hne : j ≠ k) : ∃ p : Nat, par k = (p : Int) ∧ p < k ∧ An par j p := by
  have hjk := ha.1
  have h1 := ha.2 k (by omega) (Nat.le_refl k)
  obtain ⟨-, h2, -⟩ := h k hk
  refine ⟨(par k).toNat, by omega, by omega, by omega, fun i hi1 hi2 => ha.2 i hi1 (by omega)⟩
theorem an_prev {par : Nat → Int} {N n p : Nat} (h : PP par N) (hn : n + 1 < N) (hp : par (n + 1) = (p : Int)) : An par p n := by
  obtain ⟨-, h2, h3⟩ := h (n + 1) hn
  exact ⟨by omega, fun i h4 h5 => by have := h3 i (by omega) (by omega); omega⟩
/-- one more node, under one that is above the last -/
theorem pp_add {par par' : Nat → Int} {N : Nat} (h : PP par N) (he : ∀ i, i < N → par' i = par i) (hn : par' N = -1 ∨ ∃ p : Nat, par' N = (p : Int) ∧ 0 < N ∧ An par p (N - 1)) : PP par' (N + 1) := by
  intro n hlt
  by_cases z : n < N
  · rw [he n z]
    obtain ⟨h1, h2, h3⟩ := h n z
    exact ⟨h1, h2, fun i h4 h5 => by rw [he i (by omega)]; exact h3 i h4 h5⟩
  · obtain rfl : n = N := by omega
    rcases hn with hn | ⟨p, hp, h0, ha⟩
    · refine ⟨by omega, by omega, fun i h4 h5 => ?_⟩
      rw [he i h5]
      have := (h i h5).1
      omega
    · have := ha.1
      refine ⟨by omega, by omega, fun i h4 h5 => ?_⟩
      rw [he i h5]
      have := ha.2 i (by omega) (by omega)
      omega
/-- how many parts a node has among the first n -/
def pcnt (par : Nat → Int) (k : Nat) : Nat → Nat
  | 0 => 0
  | n + 1 => pcnt par k n + if par n = (k : Int) then 1 else 0
theorem pcnt_0 {par : Nat → Int} {N k n : Nat} (h : PP par N) (hn : n ≤ N) (hk : n ≤ k + 1) : pcnt par k n = 0 := by
  induction n with
  | zero => rfl
  | succ n ih =>
    obtain ⟨-, h2, -⟩ := h n (by omega)
    unfold pcnt
    rw [ih (by omega) (by omega), if_neg (by omega)]
theorem pcnt_mono {par : Nat → Int} {k n m : Nat} (h : n ≤ m) : pcnt par k n ≤ pcnt par k m := by
  induction m with
  | zero => rw [Nat.le_zero.mp h]; exact Nat.le_refl _
  | succ m ih =>
    by_cases z : n = m + 1
    · rw [z]; exact Nat.le_refl _
    · exact Nat.le_trans (ih (by omega)) (Nat.le_add_right _ _)
theorem pcnt_congr {par par' : Nat → Int} {k n : Nat} (h : ∀ i, i < n → par' i = par i) : pcnt par' k n = pcnt par k n := by
  induction n with
  | zero => rfl
  | succ n ih =>
    unfold pcnt
    rw [ih (fun i hi => h i (by omega)), h n (by omega)]
/-- behind the end of a node it has no parts -/
theorem pcnt_end {par : Nat → Int} {N k e n : Nat} (h : PP par N) (hke : k < e) (he : par e < (k : Int)) (hen : e ≤ n) (hn : n ≤ N) : pcnt par k n = pcnt par k e := by
  induction n with
  | zero => omega
  | succ n ih =>
    by_cases z : e = n + 1
    · rw [z]
    · show pcnt par k n + (if par n = (k : Int) then 1 else 0) = pcnt par k e
      rw [ih (by omega) (by omega)]
      by_cases z2 : par n = (k : Int)
      · exfalso
        obtain ⟨-, h2, h3⟩ := h n (by omega)
        by_cases z3 : e = n
        · subst z3; omega
        · have := h3 e (by omega) (by omega)
          omega
      · rw [if_neg z2]
        rfl
