/-! TEXTS: bytes -/
def isL (a : Int32) : Bool := decide (97 ≤ a) && decide (a ≤ 122)
def isD (a : Int32) : Bool := decide (48 ≤ a) && decide (a ≤ 57)
def isW (a : Int32) : Bool := isL a || (isD a || decide (a = 45))
def isB (a : Int32) : Bool := decide (a = 32) || decide (a = 10)
theorem ff : ¬ false = true := by decide
theorem i32_nlt {a b : Int32} : ¬ a < b ↔ b ≤ a := Int32.not_lt
theorem m38_eq (a : Int32) (s : xSt) : m38 a s = some (isL a, s) := by
  unfold m38 isL
  by_cases h1 : a < 97
  · rw [if_pos h1, decide_eq_false (p := 97 ≤ a) (fun h => i32_nlt.mpr h h1)]
    rfl
  · rw [if_neg h1, decide_eq_true (p := 97 ≤ a) (i32_nlt.mp h1)]
    by_cases h2 : 122 < a
    · rw [if_pos h2, decide_eq_false (p := a ≤ 122) (fun h => i32_nlt.mpr h h2)]
      rfl
    · rw [if_neg h2, decide_eq_true (p := a ≤ 122) (i32_nlt.mp h2)]
      rfl
theorem m42_eq (a : Int32) (s : xSt) : m42 a s = some (isD a, s) := by
  unfold m42 isD
  by_cases h1 : a < 48
  · rw [if_pos h1, decide_eq_false (p := 48 ≤ a) (fun h => i32_nlt.mpr h h1)]
    rfl
  · rw [if_neg h1, decide_eq_true (p := 48 ≤ a) (i32_nlt.mp h1)]
    by_cases h2 : 57 < a
    · rw [if_pos h2, decide_eq_false (p := a ≤ 57) (fun h => i32_nlt.mpr h h2)]
      rfl
    · rw [if_neg h2, decide_eq_true (p := a ≤ 57) (i32_nlt.mp h2)]
      rfl
theorem m152_eq (a : Int32) (s : xSt) : m152 a s = some (isL a, s) := m38_eq a s
theorem m153_eq (a : Int32) (s : xSt) : m153 a s = some (isD a, s) := m42_eq a s
theorem m41_eq (a : Int32) (s : xSt) : m41 a s = some (isW a, s) := by
  unfold m41 isW
  rw [m38_eq, bs]
  cases isL a
  · rw [if_neg ff, m42_eq, bs]
    cases isD a
    · rw [if_neg ff]
      by_cases h : a = 45
      · rw [if_pos h, decide_eq_true h]
        rfl
      · rw [if_neg h, decide_eq_false h]
        rfl
    · rfl
  · rfl
/-- a byte of ours, a byte of the reference -/
def tcr (b r : Int32) : Prop := (b = r ∧ 0 ≤ r ∧ r < 128) ∨ (128 ≤ b ∧ r < 0)
theorem i32_le_trans {a b c : Int32} (h : a ≤ b) (h2 : b ≤ c) : a ≤ c := Int32.le_trans h h2
theorem isL_hi {a : Int32} (h : 128 ≤ a) : isL a = false := by
  unfold isL
  rw [decide_eq_false (p := a ≤ 122) (fun h2 => absurd (i32_le_trans h h2) (by decide)), Bool.and_false]
theorem isL_lo {a : Int32} (h : a < 0) : isL a = false := by
  unfold isL
  rw [decide_eq_false (p := 97 ≤ a) (fun h2 => i32_nlt.mpr (i32_le_trans (by decide : (0 : Int32) ≤ 97) h2) h), Bool.false_and]
theorem isD_hi {a : Int32} (h : 128 ≤ a) : isD a = false := by
  unfold isD
  rw [decide_eq_false (p := a ≤ 57) (fun h2 => absurd (i32_le_trans h h2) (by decide)), Bool.and_false]
theorem isD_lo {a : Int32} (h : a < 0) : isD a = false := by
  unfold isD
  rw [decide_eq_false (p := 48 ≤ a) (fun h2 => i32_nlt.mpr (i32_le_trans (by decide : (0 : Int32) ≤ 48) h2) h), Bool.false_and]
theorem tcr_L {b r : Int32} (h : tcr b r) : isL r = isL b := by
  rcases h with ⟨rfl, -, -⟩ | ⟨h1, h2⟩
  · rfl
  · rw [isL_hi h1, isL_lo h2]
theorem tcr_D {b r : Int32} (h : tcr b r) : isD r = isD b := by
  rcases h with ⟨rfl, -, -⟩ | ⟨h1, h2⟩
  · rfl
  · rw [isD_hi h1, isD_lo h2]
theorem tcr_c {b r c : Int32} (h : tcr b r) (h0 : 0 ≤ c) (h1 : c < 128) : (r = c) = (b = c) := by
  rcases h with ⟨rfl, -, -⟩ | ⟨h3, h4⟩
  · rfl
  · refine propext ⟨fun e => ?_, fun e => ?_⟩
    · subst e
      exact absurd h4 (i32_nlt.mpr h0)
    · subst e
      exact absurd h1 (i32_nlt.mpr h3)
theorem tcr_eq {b r : Int32} (h : tcr b r) (hl : isL b = true ∨ isD b = true) : r = b := by
  rcases h with ⟨rfl, -, -⟩ | ⟨h1, h2⟩
  · rfl
  · rw [isL_hi h1, isD_hi h1] at hl
    rcases hl with h | h <;> cases h
/-- the tape and the text -/
def TR (T U : List Int32) (n : Nat) : Prop := T.length = n ∧ n ≤ 8192 ∧ U.length = 8192 ∧ ∀ i, i < n → tcr (T.getD i 0) (U.getD i 0)
theorem tr_W {T U : List Int32} {n i : Nat} (h : TR T U n) (hi : i < n) : isW (U.getD i 0) = isW (T.getD i 0) := by
  have e := h.2.2.2 i hi
  unfold isW
  rw [tcr_L e, tcr_D e]
  congr 2
  exact decide_eq_decide.mpr (iff_of_eq (tcr_c e (by decide) (by decide)))
theorem m151_eq {T U : List Int32} {n k : Nat} {t : xSt} (h : TR T U n) (hU : gR t 1 = U) (hn : gI t 20 = nI n) (hk : k < 2 ^ 30) : m151 (nI k) t = some (decide (k < n) && isW (T.getD k 0), t) := by
  have hh := h
  obtain ⟨h1, h2, h3, h4⟩ := hh
  unfold m151
  rw [hn]
  by_cases z : n ≤ k
  · rw [if_pos (by rw [leN (by omega) (by omega)]; exact z), decide_eq_false (by omega), Bool.false_and]
  · rw [if_neg (by rw [leN (by omega) (by omega)]; exact z), hU, xsGet_d (by omega) (by omega), bs, m152_eq, bs, decide_eq_true (by omega), Bool.true_and, ← tr_W h (by omega)]
    unfold isW
    cases isL (U.getD k 0)
    · rw [if_neg ff]
      simp only
      rw [hU, xsGet_d (by omega) (by omega), bs, m153_eq, bs]
      cases isD (U.getD k 0)
      · rw [if_neg ff]
        simp only
        rw [hU, xsGet_d (by omega) (by omega), bs]
        by_cases e : U.getD k 0 = 45
        · rw [if_pos e, decide_eq_true e]
          rfl
        · rw [if_neg e, decide_eq_false e]
          rfl
      · rfl
    · rfl
