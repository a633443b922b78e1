/-! all definitions -/
section DLoop
variable {T U : List Int32} {n p N D F x y d f : Nat} {σ σ0 : Nat → Nd} {δ : Nat → Dd} {C R : xSt} {s t : xSt} {z : Bool}
theorem hi_8 {sp : Nat} (hI : HI T n s t z D p sp σ N δ C R) : (dP (δ D)).length ≤ 8 ∧ p ≤ n ∧ D < 64 := by
  obtain ⟨g, nn, i3, i5, i6, i7, i8, i9, j0, l0, qr2, qr3, qr4, qr5, qr6, qr7, qr8, qr9, qr10, qr11, qr12, qr13, qr14, qr15, qr16, qi22, qi24, qi25, qi26, qi29, qi30, qj0, ql0, ql1, ql2, ql3, -, -, -, -, -, ⟨kg, -⟩, -, -, -, -, hpn, hD⟩ := hI
  exact ⟨kg.1, hpn, hD⟩
theorem gi_64 (hI : GI T n s t z D p σ N δ C R) : D ≤ 64 ∧ p ≤ n ∧ gI R 21 = 0 := by
  obtain ⟨g, nn, i3, i5, i6, i7, i8, i9, j0, l0, qr2, qr3, qr4, qr5, qr6, qr7, qr8, qr9, qr10, qr11, qr12, qr13, qr14, qr15, qr16, qi22, qi24, qi25, qi26, qi29, qi30, qj0, ql0, ql1, ql2, ql3, -, rfl, -, -, -, -, -, -, -, hpn, hD⟩ := hI
  exact ⟨hD, hpn, by rw [rdR_i21]⟩
theorem st5L (h : TR T U n) (hT : gR s 0 = T) (hU : gR t 1 = U) (hn : gI t 20 = nI n) (hz : gZ s 3 = z) (hn4 : n ≤ 4088) : ∀ (m f x p : Nat) (δ : Nat → Dd) (C R : xSt), 9 ≤ (dP (δ D)).length + m → m + 2 < f → x ≤ 3 * p → HI T n s t z D p 2 σ N δ C R → Flt s t z (m157_240 f (nI D) true R) (LC x C) ∨ ∃ (R2 C2 : xSt) (x2 p2 : Nat) (δ2 : Nat → Dd), m157_240 f (nI D) true R = m157_312 (nI D) R2 ∧ LC x C = LC x2 C2 ∧ HI T n s t z D p2 6 σ N δ2 C2 R2 ∧ x2 ≤ 3 * p2 := by
  intro m
  induction m with
  | zero =>
    intro f x p δ C R h1 h2 h3 hI
    have := (hi_8 hI).1
    omega
  | succ m ih =>
    intro f x p δ C R h1 h2 h3 hI
    obtain ⟨f, rfl⟩ : ∃ f', f = f' + 1 := ⟨f - 1, by omega⟩
    rcases st5 (f := f) h hT hU hn hz hn4 h3 (by omega) hI with hf | ⟨R2, C2, p2, e1, e2, e3, e4⟩ | ⟨R2, C2, p2, δ2, e1, e2, e3, e4, e5⟩
    · exact Or.inl hf
    · exact Or.inr ⟨R2, C2, x + 1, p2, δ, e1, e2, e3, by omega⟩
    · rw [e1, e2]
      exact ih f (x + 4) p2 δ2 C2 R2 (by omega) (by omega) (by omega) e3
theorem def_ok (h : TR T U n) (hT : gR s 0 = T) (hU : gR t 1 = U) (hn : gI t 20 = nI n) (hz : gZ s 3 = z) (hn4 : n ≤ 4088) (hx : x ≤ 3 * p) (hff : 1 < f) (hI : GI T n s t z D p σ N δ C R) : Fl2 s t z (X1 (f + 1) R) (LC x C) ∨ (∃ R2 C2, X1 (f + 1) R = some (0, R2) ∧ LC x C = some C2 ∧ GE T n s t z D σ N δ C2 R2) ∨ ∃ (R2 C2 : xSt) (p2 x2 N2 : Nat) (σ2 : Nat → Nd) (δ2 : Nat → Dd), X1 (f + 1) R = X1 f R2 ∧ LC x C = LC x2 C2 ∧ GI T n s t z (D + 1) p2 σ2 N2 δ2 C2 R2 ∧ x2 ≤ 3 * p2 := by
  rcases st123 h hT hU hn hz hn4 hx hff hI with hf | hd | ⟨R1, C1, p1, δ1, a1, a2, a3, a4⟩
  · exact Or.inl hf
  · exact Or.inr (Or.inl hd)
  rw [a1, a2]
  rcases st4 h hT hU hn hz hn4 (x := x + 3) (by omega) a3 with hf | ⟨R2, C2, p2, b1, b2, b3, b4⟩
  · exact Or.inl (fl_X5 (by omega) hf)
  rw [b1, b2]
  rcases st5L h hT hU hn hz hn4 9 1000000 (x + 3 + 1) p2 δ1 C2 R2 (by omega) (by omega) (by omega) b3 with hf | ⟨R3, C3, x3, p3, δ3, c1, c2, c3, c4⟩
  · exact Or.inl (fl_X5 (by omega) hf)
  rw [c1, c2]
  rcases st6 h hT hU hn hz hn4 c4 c3 with hf | ⟨R4, C4, p4, δ4, d1, d2, d3, d4⟩
  · exact Or.inl (fl_X5 (by omega) hf)
  rw [d1, d2]
  rcases st7 h hT hU hn hz hn4 (x := x3 + 1) (by omega) d3 with hf | ⟨R5, C5, p5, x5, N5, σ5, δ5, e1, e2, e3, e4⟩
  · exact Or.inl (fl_X5 (by omega) hf)
  refine Or.inr (Or.inr ⟨R5, C5, p5, x5, N5, σ5, δ5, ?_, e2, e3, e4⟩)
  rw [e1, bs]
  unfold X5
  rw [if_pos (gi_64 e3).2.2]
theorem defs_ok (h : TR T U n) (hT : gR s 0 = T) (hU : gR t 1 = U) (hn : gI t 20 = nI n) (hz : gZ s 3 = z) (hn4 : n ≤ 4088) : ∀ (m f D x p N : Nat) (σ : Nat → Nd) (δ : Nat → Dd) (C R : xSt), 65 ≤ D + m → m + 2 < f → x ≤ 3 * p → GI T n s t z D p σ N δ C R → Fl2 s t z (X1 f R) (LC x C) ∨ ∃ (R2 C2 : xSt) (D2 N2 : Nat) (σ2 : Nat → Nd) (δ2 : Nat → Dd), X1 f R = some (0, R2) ∧ LC x C = some C2 ∧ GE T n s t z D2 σ2 N2 δ2 C2 R2 := by
  intro m
  induction m with
  | zero =>
    intro f D x p N σ δ C R h1 h2 h3 hI
    have := (gi_64 hI).1
    omega
  | succ m ih =>
    intro f D x p N σ δ C R h1 h2 h3 hI
    obtain ⟨f, rfl⟩ : ∃ f', f = f' + 1 := ⟨f - 1, by omega⟩
    rcases def_ok (f := f) h hT hU hn hz hn4 h3 (by omega) hI with hf | ⟨R2, C2, e1, e2, e3⟩ | ⟨R2, C2, p2, x2, N2, σ2, δ2, e1, e2, e3, e4⟩
    · exact Or.inl hf
    · exact Or.inr ⟨R2, C2, D, N, σ, δ, e1, e2, e3⟩
    · rw [e1, e2]
      exact ih f (D + 1) x2 p2 N2 σ2 δ2 C2 R2 (by omega) (by omega) e4 e3
end DLoop
