/-! the loop over an expression -/
section Loop
variable {T U : List Int32} {n p N D x y d F k : Nat} {w : List Nat} {σ σ0 : Nat → Nd} {v nd : Nd} {ps : List Int64} {lv : Int32} {C R : xSt} {gg : Nat → List Int32} {s t : xSt} {z : Bool} {nn : List Int64} {qr2 qr3 qr4 qr5 qr6 qr7 : List Int32} {qi27 : Int32} {ql0 ql1 : List Int64}
theorem inv_so (hI : InvE T n d F ps lv s t z gg nn qr2 qr3 qr4 qr5 qr6 qr7 qi27 ql0 ql1 σ0 p (k :: w) σ N C R) : so (nK (σ k)) (nS (σ k)) = true := by
  obtain ⟨g, i3, i5, i6, i7, i8, i9, j0, l0, qr8, qr9, qr10, qr11, qr12, qr13, qr14, qr15, qr16, qi22, qi24, qi25, qi26, qj0, ql2, ql3, -, -, ⟨wf, -⟩, -⟩ := hI
  exact wf.2.2.2.1.1.2.2.2.1
theorem step_ok (h : TR T U n) (hT : gR s 0 = T) (hU : gR t 1 = U) (hn : gI t 20 = nI n) (hz : gZ s 3 = z) (hn4 : n ≤ 4088) (hnn : nn.length = 64) (a2 : qr2.length = 64) (a3 : qr3.length = 64) (a4 : qr4.length = 64) (a5 : qr5.length = 64) (a6 : qr6.length = 64) (a7 : qr7.length = 512) (b0 : ql0.length = 64) (b1 : ql1.length = 512) (hy : y < 900000) (hx : x + pd σ (k :: w) ≤ 3 * p) (hI : InvE T n d F ps lv s t z gg nn qr2 qr3 qr4 qr5 qr6 qr7 qi27 ql0 ql1 σ0 p (k :: w) σ N C R) : Flt s t z (LR y R) (LC x C) ∨ ∃ (R2 C2 : xSt) (x2 p2 : Nat) (w2 : List Nat) (σ2 : Nat → Nd) (N2 : Nat), LR y R = LR (y + 1) R2 ∧ LC x C = LC x2 C2 ∧ InvE T n d F ps lv s t z gg nn qr2 qr3 qr4 qr5 qr6 qr7 qi27 ql0 ql1 σ0 p2 w2 σ2 N2 C2 R2 ∧ x2 + pd σ2 w2 ≤ 3 * p2 ∧ 3 * (n - p2) + pd σ2 w2 < 3 * (n - p) + pd σ (k :: w) := by
  have hso := inv_so hI
  obtain ⟨s3, s24, s10⟩ := so_lt hso
  rcases form_tbl _ s24 _ s10 hso with ⟨e1, e2, e3, e4, e5, e6, e7, e8, e9, e10⟩ | ⟨e1, e2, e3, e4, e5, e6, e7, e8, e9, e10⟩ | ⟨e1, e2, e3, e4, e5, e6, e7⟩ | ⟨e1, e2, e3, e4, e5, e6, e7⟩ | ⟨e1, e2, e3, e4, e5, e6, e7⟩ | ⟨e1, e2, e3, e4, e5, e6, e7, e8, e9, e10, e11⟩ | ⟨e1, e2, e3, e4, e5, e6, e7, e8, e9, f1, f2, e10, e11, e12, e13⟩ | ⟨e1, e2, e3, e4, e5, e6, e7, e8, e9, f1, f2, e10, e11, e12⟩ | ⟨e1, e2, e3, e4⟩ | ⟨e1, e2, e3, e4, e5, e6, e7, e8, e9, e10⟩ | ⟨e1, e2, e2b, e3, e4, e5, e6, e7, e8, e9, e10⟩ | ⟨e1, e2, e3, e4⟩ | ⟨e1, e2, e3, e4, e5, e6, e7, e8, e9, e10, e11⟩
  · exact stp_E (b := true) h hT hU hn hz hn4 hnn a2 a3 a4 a5 a6 a7 b0 b1 hy hx hI (Or.inl ⟨rfl, rfl⟩) e1 (by rcases e2 with e2 | ⟨e2, e2'⟩; exact Or.inl ⟨e2, rfl⟩; exact Or.inr (Or.inr ⟨e2, Or.inl ⟨e2', rfl⟩⟩)) e3 e4 e5 e6 e7 e8 e9 e10
  · exact stp_E (b := false) h hT hU hn hz hn4 hnn a2 a3 a4 a5 a6 a7 b0 b1 hy hx hI (Or.inr ⟨rfl, rfl⟩) e1 (by rcases e2 with e2 | ⟨e2, e2'⟩; exact Or.inr (Or.inl ⟨e2, rfl⟩); exact Or.inr (Or.inr ⟨e2, Or.inr ⟨e2', rfl⟩⟩)) e3 e4 e5 e6 e7 e8 e9 e10
  · exact stp_C h hT hU hn hz hn4 hnn a2 a3 a4 a5 a6 a7 b0 b1 hy hx hI e1 e2 e3 e4 e5 e6 e7
  · exact stp_P (τ0 := 3) h hT hU hn hz hn4 hnn a2 a3 a4 a5 a6 a7 b0 b1 hy hx hI (Or.inr ⟨rfl, e2, rfl⟩) e1 e3 e4 e5 e6 e7
  · exact stp_P (τ0 := 2) h hT hU hn hz hn4 hnn a2 a3 a4 a5 a6 a7 b0 b1 hy hx hI (Or.inl ⟨rfl, e2, rfl⟩) e1 e3 e4 e5 e6 e7
  · exact stp_X h hT hU hn hz hn4 hnn a2 a3 a4 a5 a6 a7 b0 b1 hy hx hI e1 e2 e3 e4 e5 e6 e7 e8 e9 e10 e11
  · exact stp_V h hT hU hn hz hn4 hnn a2 a3 a4 a5 a6 a7 b0 b1 hy hx hI e1 e2 e3 e4 e5 e6 e7 e8 e9 f1 f2 e10 e11 e12 e13
  · exact stp_T h hT hU hn hz hn4 hnn a2 a3 a4 a5 a6 a7 b0 b1 hy hx hI e1 e2 e3 e4 e5 e6 e7 e8 e9 f1 f2 e10 e11 e12
  · exact stp_S h hT hU hn hz hn4 hnn a2 a3 a4 a5 a6 a7 b0 b1 hy hx hI e1 e2 e3 e4
  · exact stp_U h hT hU hn hz hn4 hnn a2 a3 a4 a5 a6 a7 b0 b1 hy hx hI e1 e2 e3 e4 e5 e6 e7 e8 e9
  · exact stp_UU h hT hU hn hz hn4 hnn a2 a3 a4 a5 a6 a7 b0 b1 hy hx hI e1 e2 e2b e3 e4 e5 e6 e7 e8 e9
  · exact stp_F h hT hU hn hz hn4 hnn a2 a3 a4 a5 a6 a7 b0 b1 hy hx hI e1 e2 e3 e4
  · exact stp_B h hT hU hn hz hn4 hnn a2 a3 a4 a5 a6 a7 b0 b1 hy hx hI e1 e2 e3 e4 e5 e6 e7 e8 e9 e11
/-- an expression is read by both -/
theorem loop_ok (h : TR T U n) (hT : gR s 0 = T) (hU : gR t 1 = U) (hn : gI t 20 = nI n) (hz : gZ s 3 = z) (hn4 : n ≤ 4088) (hnn : nn.length = 64) (a2 : qr2.length = 64) (a3 : qr3.length = 64) (a4 : qr4.length = 64) (a5 : qr5.length = 64) (a6 : qr6.length = 64) (a7 : qr7.length = 512) (b0 : ql0.length = 64) (b1 : ql1.length = 512) : ∀ (μ y x p : Nat) (w : List Nat) (σ : Nat → Nd) (N : Nat) (C R : xSt), 3 * (n - p) + pd σ w < μ → y + μ < 900000 → x + pd σ w ≤ 3 * p → InvE T n d F ps lv s t z gg nn qr2 qr3 qr4 qr5 qr6 qr7 qi27 ql0 ql1 σ0 p w σ N C R → Flt s t z (LR y R) (LC x C) ∨ ∃ (R2 C2 : xSt) (x2 p2 : Nat) (σ2 : Nat → Nd) (N2 : Nat), LR y R = some R2 ∧ LC x C = LC x2 C2 ∧ InvE T n d F ps lv s t z gg nn qr2 qr3 qr4 qr5 qr6 qr7 qi27 ql0 ql1 σ0 p2 [] σ2 N2 C2 R2 ∧ x2 ≤ 3 * p2 := by
  intro μ
  induction μ with
  | zero => intro y x p w σ N C R h1; omega
  | succ μ ih =>
    intro y x p w σ N C R h1 h2 h3 hI
    cases w with
    | nil =>
      refine Or.inr ⟨R, C, x, p, σ, N, ?_, rfl, hI, h3⟩
      obtain ⟨g, i3, i5, i6, i7, i8, i9, j0, l0, qr8, qr9, qr10, qr11, qr12, qr13, qr14, qr15, qr16, qi22, qi24, qi25, qi26, qj0, ql2, ql3, -, rfl, -⟩ := hI
      refine lr_end (by omega) (Or.inl ?_)
      rw [rdR_i29]
      show nI 0 ≤ 0
      decide
    | cons k w =>
      rcases step_ok (y := y) h hT hU hn hz hn4 hnn a2 a3 a4 a5 a6 a7 b0 b1 (by omega) h3 hI with hf | ⟨R2, C2, x2, p2, w2, σ2, N2, e1, e2, e3, e4, e5⟩
      · exact Or.inl hf
      · rw [e1, e2]
        exact ih (y + 1) x2 p2 w2 σ2 N2 C2 R2 (by omega) (by omega) e4 e3
end Loop
