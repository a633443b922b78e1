/-! our turns -/
section Turn
variable {f x : Nat} {S S1 S2 S3 : xSt} {σ : Int32}
theorem m13_0 (h : gI S 2 = 0) : m13 S = some (false, S) := by
  unfold m13
  rw [if_pos h]
theorem m13_1 (h : ¬ gI S 2 = 0) : m13 S = some (true, S) := by
  unfold m13
  rw [if_neg h]
/-- the loop is over -/
theorem turn_end (hx : x < 1000000) (h : gZ S 4 = true ∨ ¬ gI S 2 = 0) : m76_11 (f + 1) (nI x) S = some S := by
  conv => lhs; unfold m76_11
  rw [if_neg (show ¬ 1000000 ≤ nI x by rw [geL_1000000 (by omega)]; omega)]
  by_cases c : gZ S 4 = true
  · rw [if_pos c]
  · rw [if_neg c, m13_1 (by rcases h with h | h; exact absurd h c; exact h), bs, if_pos rfl]
theorem turn_go (hx : x < 1000000) (h4 : gZ S 4 = false) (h2 : gI S 2 = 0) (h78 : m78 S = some (σ, S1)) : m76_11 (f + 1) (nI x) S = if σ = 66 then (m37 (xsAt (gP S1 (gZ S1 3) 2) (xsTop (gR S1 1))) S1).bind fun q7 => (m80 q7.1 q7.2).bind fun q8 => m76_11 f (nI (x + 1)) q8 else if σ = 85 then m76_11 f (nI (x + 1)) (sI S1 11 ((gI S1 11) - 1)) else (m81 σ S1).bind fun q10 => if q10.1 = true then (if σ = 42 then (m82 q10.2).bind fun q13 => (m83 q13.1 q13.2).bind fun q14 => m76_11 f (nI (x + 1)) q14 else (m83 σ q10.2).bind fun q14 => m76_11 f (nI (x + 1)) q14) else m76_11 f (nI (x + 1)) q10.2 := by
  conv => lhs; unfold m76_11
  rw [if_neg (show ¬ 1000000 ≤ nI x by rw [geL_1000000 (by omega)]; omega), h4, if_neg ff, m13_0 h2, bs, if_neg ff, h78, bs]
  unfold m76_115
  rw [nI_1]
theorem turn_tok (hx : x < 1000000) (h4 : gZ S 4 = false) (h2 : gI S 2 = 0) (h78 : m78 S = some (σ, S1)) (n1 : σ ≠ 66) (n2 : σ ≠ 85) (n3 : σ ≠ 42) (h81 : m81 σ S1 = some (true, S2)) (h83 : m83 σ S2 = some S3) : m76_11 (f + 1) (nI x) S = m76_11 f (nI (x + 1)) S3 := by
  rw [turn_go hx h4 h2 h78, if_neg n1, if_neg n2, h81, bs, if_pos rfl, if_neg n3, h83, bs]
theorem turn_no (hx : x < 1000000) (h4 : gZ S 4 = false) (h2 : gI S 2 = 0) (h78 : m78 S = some (σ, S1)) (n1 : σ ≠ 66) (n2 : σ ≠ 85) (h81 : m81 σ S1 = some (false, S2)) : m76_11 (f + 1) (nI x) S = m76_11 f (nI (x + 1)) S2 := by
  rw [turn_go hx h4 h2 h78, if_neg n1, if_neg n2, h81, bs, if_neg ff]
theorem turn_star {τ : Int32} {S4 : xSt} (hx : x < 1000000) (h4 : gZ S 4 = false) (h2 : gI S 2 = 0) (h78 : m78 S = some (42, S1)) (h81 : m81 42 S1 = some (true, S2)) (h82 : m82 S2 = some (τ, S3)) (h83 : m83 τ S3 = some S4) : m76_11 (f + 1) (nI x) S = m76_11 f (nI (x + 1)) S4 := by
  rw [turn_go hx h4 h2 h78, if_neg (by decide), if_neg (by decide), h81, bs, if_pos rfl, if_pos rfl, h82, bs, h83, bs]
theorem turn_U (hx : x < 1000000) (h4 : gZ S 4 = false) (h2 : gI S 2 = 0) (h78 : m78 S = some (85, S1)) : m76_11 (f + 1) (nI x) S = m76_11 f (nI (x + 1)) (sI S1 11 ((gI S1 11) - 1)) := by
  rw [turn_go hx h4 h2 h78, if_neg (by decide), if_pos rfl]
theorem turn_B {y : Int64} (hx : x < 1000000) (h4 : gZ S 4 = false) (h2 : gI S 2 = 0) (h78 : m78 S = some (66, S1)) (h37 : m37 (xsAt (gP S1 (gZ S1 3) 2) (xsTop (gR S1 1))) S1 = some (y, S1)) (h80 : m80 y S1 = some S3) : m76_11 (f + 1) (nI x) S = m76_11 f (nI (x + 1)) S3 := by
  rw [turn_go hx h4 h2 h78, if_pos rfl, h37, bs, h80, bs]
end Turn
