/-! outputAt and inputAt of the reference -/
section At
variable {s t : xSt}
theorem outR (hO : RO s t) (a : Int32) : (∃ i, i < (gR s 16).length ∧ a = nI i ∧ m231 a t = some ((gR s 16).getD i 0, sI t 0 0)) ∨ ((a < 0 ∨ nI (gR s 16).length ≤ a) ∧ m231 a t = some (0, sI t 0 1)) := by
  obtain ⟨⟨o1, o2, o3, o4⟩, o5, o6, o7, o8⟩ := hO
  have bad : m231_25 a true t = some (0, sI t 0 1) := by
    unfold m231_25
    rw [if_neg (by decide)]
    rfl
  unfold m231 m231_24
  cases z : gZ s 2
  · rw [← o4, z, if_neg ff, bad]
    refine Or.inr ⟨?_, rfl⟩
    rw [o8 z]
    by_cases y : a < 0
    · exact Or.inl y
    · exact Or.inr (i32_nlt.mp y)
  · obtain ⟨p1, p2, p3⟩ := o7 z
    rw [← o4, z, if_pos rfl]
    by_cases y : a < 0
    · rw [if_pos y, bad]
      exact Or.inr ⟨Or.inl y, rfl⟩
    · obtain ⟨i, hi, rfl⟩ := iv_n y
      rw [if_neg y, p2]
      by_cases y2 : nI (gR s 16).length ≤ nI i
      · rw [if_pos y2, bad]
        exact Or.inr ⟨Or.inr y2, rfl⟩
      · rw [if_neg y2]
        rw [leN (by omega) hi] at y2
        refine Or.inl ⟨i, by omega, rfl, ?_⟩
        unfold m231_25
        rw [if_pos (by decide), xsGet_d hi (by have := p3.1; omega), bs, p3.2 i (by omega)]
        rfl
theorem inR (hI : RI s t) (hE : RE s t) (a : Int32) (d : Bool) : (∃ i, i < (if d = true then gR s 15 else gR s 14).length ∧ a = nI i ∧ m232 a d t = some ((if d = true then gR s 15 else gR s 14).getD i 0, sI t 0 0)) ∨ ((a < 0 ∨ nI (if d = true then gR s 15 else gR s 14).length ≤ a) ∧ m232 a d t = some (0, sI t 0 1)) := by
  have bad : m232_29 a d true t = some (0, sI t 0 1) := by
    unfold m232_29
    rw [if_neg (by decide)]
    rfl
  unfold m232 m232_21 m232_28
  by_cases y : a < 0
  · rw [if_pos y, bad]
    exact Or.inr ⟨Or.inl y, rfl⟩
  · obtain ⟨i, hi, rfl⟩ := iv_n y
    rw [if_neg y]
    cases d
    · obtain ⟨h1, h2, h3, h4⟩ := hI
      rw [if_neg ff, if_neg ff, h2]
      by_cases y2 : nI (gR s 14).length ≤ nI i
      · rw [if_pos y2, bad]
        exact Or.inr ⟨Or.inr y2, rfl⟩
      · rw [if_neg y2]
        rw [leN (by omega) hi] at y2
        refine Or.inl ⟨i, by omega, rfl, ?_⟩
        unfold m232_29
        rw [if_pos (by decide), if_neg ff, xsGet_d hi (by have := h3.1; omega), bs, h3.2 i (by omega)]
        rfl
    · obtain ⟨h1, h2, h3, h4, -⟩ := hE
      rw [if_pos rfl, if_pos rfl, h2]
      by_cases y2 : nI (gR s 15).length ≤ nI i
      · rw [if_pos y2, bad]
        exact Or.inr ⟨Or.inr y2, rfl⟩
      · rw [if_neg y2]
        rw [leN (by omega) hi] at y2
        refine Or.inl ⟨i, by omega, rfl, ?_⟩
        unfold m232_29
        rw [if_pos (by decide), if_pos rfl, xsGet_d hi (by have := h3.1; omega), bs, h3.2 i (by omega)]
        rfl
end At
