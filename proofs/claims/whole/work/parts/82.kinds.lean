/-! the words of the reference by the codes of ours -/
def cd (k : Nat) : Nat := if k = 18 then 1 else if k = 19 then 2 else if k = 20 then 3 else if k = 21 then 4 else if k = 22 then 5 else if k = 23 then 6 else if k = 24 then 7 else if k = 25 then 8 else if k = 26 then 9 else if k = 27 then 10 else if k = 28 then 11 else if k = 29 then 12 else if k = 30 then 13 else if k = 16 then 14 else if k = 17 then 15 else if k = 31 then 16 else if k = 32 then 17 else if k = 33 then 18 else if k = 34 then 19 else if k = 14 then 20 else if k = 15 then 21 else if k = 12 then 22 else 23
theorem wfL_some {l : List Int32} : ∀ (ks : List Nat) (c : Nat), 1 ≤ c → wfL l ks c = 0 ∨ ∃ j, j < ks.length ∧ wfL l ks c = c + j ∧ l = zBy (ks.getD j 0) := by
  intro ks
  induction ks with
  | nil => intro c _; exact Or.inl rfl
  | cons k ks ih =>
    intro c hc
    by_cases z : l = zBy k
    · refine Or.inr ⟨0, by rw [List.length_cons]; omega, ?_, z⟩
      show (if l = zBy k then c else _) = c + 0
      rw [if_pos z]
      rfl
    · have e : wfL l (k :: ks) c = wfL l ks (c + 1) := by
        show (if l = zBy k then c else _) = _
        rw [if_neg z]
      rw [e]
      rcases ih (c + 1) (by omega) with h | ⟨j, j1, j2, j3⟩
      · exact Or.inl h
      · exact Or.inr ⟨j + 1, by rw [List.length_cons]; omega, by rw [j2]; omega, j3⟩
theorem wcode_cd : ∀ k ∈ wl, wcode (zBy k) = cd k := by decide +kernel
theorem wl_cd : ∀ j, j < 23 → cd (wl.getD j 0) = 1 + j ∧ wl.getD j 0 ∈ wl := by decide +kernel
theorem wl_inj : ∀ k ∈ wl, ∀ j, j < 23 → cd k = 1 + j → k = wl.getD j 0 := by decide +kernel
theorem wl_pos : ∀ k ∈ wl, ¬ cd k = 0 := by decide +kernel
theorem wcode_iff {l : List Int32} {k : Nat} (hk : k ∈ wl) : (l = zBy k) = (wcode l = cd k) := by
  refine propext ⟨fun e => by rw [e]; exact wcode_cd k hk, fun e => ?_⟩
  rcases wfL_some (l := l) wl 1 (by decide) with h | ⟨j, j1, j2, j3⟩
  · have h0 : cd k = 0 := by rw [← e]; exact h
    exact absurd h0 (wl_pos k hk)
  · have e2 : cd k = 1 + j := by rw [← e]; exact j2
    rw [wl_inj k hk j j1 e2]
    exact j3
theorem wcode_lt (l : List Int32) : wcode l ≤ 23 := by
  rcases wfL_some (l := l) wl 1 (by decide) with h | ⟨j, j1, j2, j3⟩
  · have : wcode l = 0 := h
    omega
  · have e : wcode l = 1 + j := j2
    have : j < 23 := j1
    omega
/-- the reference's word is that of code c (0: none) -/
def IsWd (t : xSt) (c : Nat) : Prop := ∀ k ∈ wl, m159 k t = some (decide (c = cd k), t)
theorem iswd_name {T U : List Int32} {n a e : Nat} {t : xSt} (h : TR T U n) (hU : gR t 1 = U) (h24 : gI t 24 = 2) (ha : gI t 25 = nI a) (he : gI t 23 = nI e) (hae : a ≤ e) (hen : e ≤ n) (hL : allL T a (e - a) = true) : IsWd t (wcode (seg T a (e - a))) := by
  intro k hk
  have h1 := h.1
  have hz := zBy_ok k hk
  have hLi : ∀ (m i : Nat), allL T i m = true → ∀ j, i ≤ j → j < i + m → isL (T.getD j 0) = true := by
    intro m
    induction m with
    | zero => intro i _ j x y; omega
    | succ m ih =>
      intro i hh j x y
      have hh' : (isL (T.getD i 0) && allL T (i + 1) m) = true := hh
      rw [Bool.and_eq_true] at hh'
      by_cases z : j = i
      · rw [z]; exact hh'.1
      · exact ih (i + 1) hh'.2 j (by omega) (by omega)
  rw [lex_is h hU h24 ha he hae hen hz.2.2 (by omega) (fun i x y => hLi _ _ hL i x (by omega))]
  congr 2
  exact decide_eq_decide.mpr (iff_of_eq (wcode_iff hk))
theorem iswd_no {t : xSt} (h : gI t 24 ≠ 2) : IsWd t 0 := by
  intro k hk
  unfold m159
  rw [if_neg h, decide_eq_false (p := 0 = cd k) (by revert k; decide +kernel)]
def tyI (c : Nat) : Int32 := if c = 20 then 0 else if c = 21 then 1 else if c = 14 then 2 else if c = 15 then 3 else -1
def opI (c : Nat) : Int32 := if c = 1 then 3 else if c = 2 then 4 else if c = 3 then 5 else if c = 4 then 6 else if c = 5 then 7 else if c = 6 then 8 else if c = 7 then 9 else -1
def stI (c : Nat) : Int32 := if opI c < 0 then (if c = 8 then 10 else if c = 9 then 11 else if c = 10 then 12 else if c = 11 then 13 else if c = 12 then 14 else if c = 13 then 15 else if c = 14 then 16 else if c = 15 then 17 else -1) else opI c
def chI (c : Nat) : Int32 := if c = 16 then 18 else if c = 17 then 19 else if c = 8 then 20 else if c = 9 then 21 else if c = 10 then 22 else if c = 18 then 23 else -1
section WK
variable {t : xSt} {c : Nat}
theorem m161_eq (h : IsWd t c) (hc : c ≤ 23) : m161 t = some (tyI c, t) := by
  have hcc : c = 0 ∨ c = 1 ∨ c = 2 ∨ c = 3 ∨ c = 4 ∨ c = 5 ∨ c = 6 ∨ c = 7 ∨ c = 8 ∨ c = 9 ∨ c = 10 ∨ c = 11 ∨ c = 12 ∨ c = 13 ∨ c = 14 ∨ c = 15 ∨ c = 16 ∨ c = 17 ∨ c = 18 ∨ c = 19 ∨ c = 20 ∨ c = 21 ∨ c = 22 ∨ c = 23 := by omega
  rcases hcc with rfl | rfl | rfl | rfl | rfl | rfl | rfl | rfl | rfl | rfl | rfl | rfl | rfl | rfl | rfl | rfl | rfl | rfl | rfl | rfl | rfl | rfl | rfl | rfl
  all_goals
    simp (decide := true) only [m161, h 14 (by decide), h 15 (by decide), h 16 (by decide), h 17 (by decide), bs, reduceIte]
    try rfl
theorem m163_eq (h : IsWd t c) (hc : c ≤ 23) : m163 t = some (opI c, t) := by
  have hcc : c = 0 ∨ c = 1 ∨ c = 2 ∨ c = 3 ∨ c = 4 ∨ c = 5 ∨ c = 6 ∨ c = 7 ∨ c = 8 ∨ c = 9 ∨ c = 10 ∨ c = 11 ∨ c = 12 ∨ c = 13 ∨ c = 14 ∨ c = 15 ∨ c = 16 ∨ c = 17 ∨ c = 18 ∨ c = 19 ∨ c = 20 ∨ c = 21 ∨ c = 22 ∨ c = 23 := by omega
  rcases hcc with rfl | rfl | rfl | rfl | rfl | rfl | rfl | rfl | rfl | rfl | rfl | rfl | rfl | rfl | rfl | rfl | rfl | rfl | rfl | rfl | rfl | rfl | rfl | rfl
  all_goals
    simp (decide := true) only [m163, h 18 (by decide), h 19 (by decide), h 20 (by decide), h 21 (by decide), h 22 (by decide), h 23 (by decide), h 24 (by decide), bs, reduceIte]
    try rfl
theorem m162_eq (h : IsWd t c) (hc : c ≤ 23) : m162 t = some (stI c, t) := by
  have e := m163_eq h hc
  have hcc : c = 0 ∨ c = 1 ∨ c = 2 ∨ c = 3 ∨ c = 4 ∨ c = 5 ∨ c = 6 ∨ c = 7 ∨ c = 8 ∨ c = 9 ∨ c = 10 ∨ c = 11 ∨ c = 12 ∨ c = 13 ∨ c = 14 ∨ c = 15 ∨ c = 16 ∨ c = 17 ∨ c = 18 ∨ c = 19 ∨ c = 20 ∨ c = 21 ∨ c = 22 ∨ c = 23 := by omega
  rcases hcc with rfl | rfl | rfl | rfl | rfl | rfl | rfl | rfl | rfl | rfl | rfl | rfl | rfl | rfl | rfl | rfl | rfl | rfl | rfl | rfl | rfl | rfl | rfl | rfl
  all_goals
    simp (decide := true) only [m162, e, h 25 (by decide), h 26 (by decide), h 27 (by decide), h 28 (by decide), h 29 (by decide), h 30 (by decide), h 16 (by decide), h 17 (by decide), bs, reduceIte]
    try rfl
theorem m164_eq (h : IsWd t c) (hc : c ≤ 23) : m164 t = some (chI c, t) := by
  have hcc : c = 0 ∨ c = 1 ∨ c = 2 ∨ c = 3 ∨ c = 4 ∨ c = 5 ∨ c = 6 ∨ c = 7 ∨ c = 8 ∨ c = 9 ∨ c = 10 ∨ c = 11 ∨ c = 12 ∨ c = 13 ∨ c = 14 ∨ c = 15 ∨ c = 16 ∨ c = 17 ∨ c = 18 ∨ c = 19 ∨ c = 20 ∨ c = 21 ∨ c = 22 ∨ c = 23 := by omega
  rcases hcc with rfl | rfl | rfl | rfl | rfl | rfl | rfl | rfl | rfl | rfl | rfl | rfl | rfl | rfl | rfl | rfl | rfl | rfl | rfl | rfl | rfl | rfl | rfl | rfl
  all_goals
    simp (decide := true) only [m164, h 31 (by decide), h 32 (by decide), h 25 (by decide), h 26 (by decide), h 27 (by decide), h 33 (by decide), bs, reduceIte]
    try rfl
theorem m160_eq (h : IsWd t c) (hc : c ≤ 23) (h24 : gI t 24 = 2) : m160 t = some (decide (c = 0), t) := by
  have e1 := m161_eq h hc
  have e2 := m162_eq h hc
  have e3 := m164_eq h hc
  have hcc : c = 0 ∨ c = 1 ∨ c = 2 ∨ c = 3 ∨ c = 4 ∨ c = 5 ∨ c = 6 ∨ c = 7 ∨ c = 8 ∨ c = 9 ∨ c = 10 ∨ c = 11 ∨ c = 12 ∨ c = 13 ∨ c = 14 ∨ c = 15 ∨ c = 16 ∨ c = 17 ∨ c = 18 ∨ c = 19 ∨ c = 20 ∨ c = 21 ∨ c = 22 ∨ c = 23 := by omega
  rcases hcc with rfl | rfl | rfl | rfl | rfl | rfl | rfl | rfl | rfl | rfl | rfl | rfl | rfl | rfl | rfl | rfl | rfl | rfl | rfl | rfl | rfl | rfl | rfl | rfl
  all_goals
    simp (decide := true) only [m160, h24, e1, e2, e3, h 12 (by decide), h 13 (by decide), h 34 (by decide), bs, reduceIte]
    try rfl
theorem m160_no (h24 : gI t 24 ≠ 2) : m160 t = some (false, t) := by
  unfold m160
  rw [if_neg h24]
end WK
