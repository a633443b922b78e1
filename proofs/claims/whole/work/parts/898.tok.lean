/-! a token of both -/
def NA (T : List Int32) (pl : Int32) (x : Int64) : Prop := ∀ S : xSt, gR S 0 = T → m37 pl S = some (x, S)
/-- a token from a to e of kind τ, its word's code c, as ours and the reference have it -/
def GT (T U : List Int32) (a e τ c : Nat) (j jr : Int64) (x7 x26 : Int32) : Prop := (2 ≤ τ ∧ τ ≤ 5) ∧ c ≤ 23 ∧ (¬ τ = 4 → c = 0) ∧ (τ = 4 → j = jr ∧ 0 < j ∧ NA T (nI a) j) ∧ (τ = 5 → x7 = x26) ∧ ∀ S : xSt, gR S 1 = U → gI S 24 = nI (τ - 2) → gI S 25 = nI a → gI S 23 = nI e → IsWd S c
theorem encL_pos {l : List Int32} (hl : ∀ c ∈ l, isL c = true) (l12 : l.length ≤ 12) (hne : l ≠ []) : 0 < encL l := by
  obtain ⟨a, a1, a2, a3, a4⟩ := enc_nat l 0 hl
  have ha := encA_lt a.length a rfl a2
  have pa : 32 ^ a.length ≤ 32 ^ 12 := Nat.pow_le_pow_right (by decide) (by omega)
  have hane : a ≠ [] := fun e => hne (by rw [a3, e]; rfl)
  have h0 : 0 < encA 0 a := by
    rw [← List.dropLast_concat_getLast hane, encA_app]
    have := a2 (a.getLast hane) (List.getLast_mem hane)
    omega
  have e : encL l = lN (encA 0 a) := a4
  have e0 : (0 : Int64).toInt = 0 := by decide
  rw [e, Int64.lt_iff_toInt_lt, lN_toI (by omega), e0]
  omega
theorem na_name {T U : List Int32} {n a e : Nat} (h : TR T U n) (hae : a < e) (hen : e ≤ n) (h12 : e ≤ a + 12) (hL : allL T a (e - a) = true) (hend : e < n → isL (T.getD e 0) = false) : NA T (nI a) (encL (seg T a (e - a))) := by
  intro S hS
  have h1 := h.1
  have h2 := h.2.1
  have hE : e = a + 12 ∨ isL (T.getD e 0) = false := by
    by_cases y : e < n
    · exact Or.inr (hend y)
    · refine Or.inr ?_
      rw [List.getD_eq_getElem?_getD, List.getElem?_eq_none (by omega)]
      decide
  have hx := lex_nameAt (s := S) (T := T) (a := a) (e := e) hS (by omega) (by omega) h12 hE 1000000 a 0 (by omega) (by omega) hL
  rw [encF_seg _ _ _ (by omega)] at hx
  unfold m37
  exact hx
section Tok
variable {T U : List Int32} {n p x : Nat} {S S1 S2 S3 S4 : xSt} {σ τ : Int32} {s : xSt} {z : Bool} {g : Nat → List Int32} {nn : List Int64} {r1 r2 r3 : List Int32} {i2 i3 i4 i5 i6 i7 i8 i9 i10 i11 : Int32} {j0 : Int64} {l0 : List Int64} {z4 : Bool} {t : xSt} {qr2 qr3 qr4 qr5 qr6 qr7 qr8 qr9 qr10 qr11 qr12 qr13 qr14 qr15 qr16 : List Int32} {qi21 qi22 qi23 qi24 qi25 qi26 qi27 qi28 qi29 qi30 : Int32} {qj0 : Int64} {ql0 ql1 ql2 ql3 : List Int64}
theorem tok (h : TR T U n) (hT : gR s 0 = T) (hU : gR t 1 = U) (hn : gI t 20 = nI n) (hp : p ≤ n) : ∃ a e, p ≤ a ∧ a ≤ e ∧ e ≤ n ∧
    ((a = n ∧ m39 (rdC s z g nn r1 r2 r3 i2 i3 (nI p) i5 i6 i7 i8 i9 i10 i11 j0 l0 z4) = some (rdC s z g nn r1 r2 r3 i2 i3 (nI n) 0 (nI n) i7 0 i9 i10 i11 j0 l0 z4) ∧ m150 (rdR t qr2 qr3 qr4 qr5 qr6 qr7 qr8 qr9 qr10 qr11 qr12 qr13 qr14 qr15 qr16 0 qi22 (nI p) qi24 qi25 qi26 qi27 qi28 qi29 qi30 qj0 ql0 ql1 ql2 ql3) = some (rdR t qr2 qr3 qr4 qr5 qr6 qr7 qr8 qr9 qr10 qr11 qr12 qr13 qr14 qr15 qr16 0 qi22 (nI n) 4 (nI n) qi26 qi27 qi28 qi29 qi30 qj0 ql0 ql1 ql2 ql3)) ∨
    (a < e ∧ ∃ d' x k q pe, m39 (rdC s z g nn r1 r2 r3 i2 i3 (nI p) i5 i6 i7 i8 i9 i10 i11 j0 l0 z4) = some (rdC s z g nn r1 r2 r3 i2 i3 (nI e) 1 (nI a) d' 0 i9 i10 i11 j0 l0 z4) ∧ m150 (rdR t qr2 qr3 qr4 qr5 qr6 qr7 qr8 qr9 qr10 qr11 qr12 qr13 qr14 qr15 qr16 0 qi22 (nI p) qi24 qi25 qi26 qi27 qi28 qi29 qi30 qj0 ql0 ql1 ql2 ql3) = some (rdR t qr2 qr3 qr4 qr5 qr6 qr7 qr8 qr9 qr10 qr11 qr12 qr13 qr14 qr15 qr16 1 (nI a) pe k (nI a) x qi27 qi28 qi29 qi30 q ql0 ql1 ql2 ql3)) ∨
    (a < e ∧ ∃ τ c x7 x26 j jr, GT T U a e τ c j jr x7 x26 ∧ m39 (rdC s z g nn r1 r2 r3 i2 i3 (nI p) i5 i6 i7 i8 i9 i10 i11 j0 l0 z4) = some (rdC s z g nn r1 r2 r3 i2 i3 (nI e) (nI τ) (nI a) x7 (nI c) i9 i10 i11 j l0 z4) ∧ m150 (rdR t qr2 qr3 qr4 qr5 qr6 qr7 qr8 qr9 qr10 qr11 qr12 qr13 qr14 qr15 qr16 0 qi22 (nI p) qi24 qi25 qi26 qi27 qi28 qi29 qi30 qj0 ql0 ql1 ql2 ql3) = some (rdR t qr2 qr3 qr4 qr5 qr6 qr7 qr8 qr9 qr10 qr11 qr12 qr13 qr14 qr15 qr16 0 qi22 (nI e) (nI (τ - 2)) (nI a) x26 qi27 qi28 qi29 qi30 jr ql0 ql1 ql2 ql3))) := by
  obtain ⟨a, e, h1, h2, h3, hx⟩ := rd_next (g := g) (z := z) (nn := nn) (r1 := r1) (r2 := r2) (r3 := r3) (i2 := i2) (i3 := i3) (i5 := i5) (i6 := i6) (i7 := i7) (i8 := i8) (i9 := i9) (i10 := i10) (i11 := i11) (j0 := j0) (l0 := l0) (z4 := z4) (qr2 := qr2) (qr3 := qr3) (qr4 := qr4) (qr5 := qr5) (qr6 := qr6) (qr7 := qr7) (qr8 := qr8) (qr9 := qr9) (qr10 := qr10) (qr11 := qr11) (qr12 := qr12) (qr13 := qr13) (qr14 := qr14) (qr15 := qr15) (qr16 := qr16) (qi21 := 0) (qi22 := qi22) (qi24 := qi24) (qi25 := qi25) (qi26 := qi26) (qi27 := qi27) (qi28 := qi28) (qi29 := qi29) (qi30 := qi30) (qj0 := qj0) (ql0 := ql0) (ql1 := ql1) (ql2 := ql2) (ql3 := ql3) h hT hU hn hp
  refine ⟨a, e, h1, h2, h3, ?_⟩
  have hno : ∀ (y : Nat), y ≠ 2 → y < 5 → ∀ S : xSt, gR S 1 = U → gI S 24 = nI y → gI S 25 = nI a → gI S 23 = nI e → IsWd S 0 := by
    intro y hy hy5 S _ g2 _ _
    refine iswd_no ?_
    rw [g2]
    have hyy : y = 0 ∨ y = 1 ∨ y = 3 ∨ y = 4 := by omega
    rcases hyy with rfl | rfl | rfl | rfl <;> decide
  rcases hx with ⟨e1, e2, e3, e4⟩ | ⟨e1, d', x, k, q, pe, e2, e3⟩ | ⟨e1, e2, e3⟩ | ⟨e1, e2, e3⟩ | ⟨e1, e12, eL, eE, e2, e3⟩ | ⟨e1, x, e2, e3⟩
  · exact Or.inl ⟨e1, e3, e4⟩
  · rw [show fb 0 = 1 from rfl, show qb 0 qi22 (nI a) = nI a from rfl] at e3
    exact Or.inr (Or.inl ⟨e1, d', x, k, q, pe, e2, e3⟩)
  · exact Or.inr (Or.inr ⟨e1, 2, 0, i7, qi26, j0, qj0, ⟨⟨by omega, by omega⟩, by omega, fun _ => rfl, fun q => by omega, fun q => by omega, hno 0 (by decide) (by decide)⟩, e2, e3⟩)
  · exact Or.inr (Or.inr ⟨e1, 3, 0, i7, qi26, j0, qj0, ⟨⟨by omega, by omega⟩, by omega, fun _ => rfl, fun q => by omega, fun q => by omega, hno 1 (by decide) (by decide)⟩, e2, e3⟩)
  · have hlen : a + (e - a) ≤ T.length := by rw [h.1]; omega
    have hsl : (seg T a (e - a)).length = e - a := by
      unfold seg
      rw [List.length_take, List.length_drop]
      omega
    have hall := allL_seg (e - a) a hlen eL
    refine Or.inr (Or.inr ⟨e1, 4, wcode (seg T a (e - a)), i7, qi26, encL (seg T a (e - a)), encL (seg T a (e - a)), ⟨⟨by omega, by omega⟩, wcode_lt _, fun q => absurd rfl q, fun _ => ⟨rfl, encL_pos hall (by omega) (fun q => ?_), na_name h e1 h3 e12 eL eE⟩, fun q => by omega, fun S g1 g2 g3 g4 => iswd_name h g1 g2 g3 g4 h2 h3 eL⟩, e2, e3⟩)
    rw [q] at hsl
    rw [List.length_nil] at hsl
    omega
  · exact Or.inr (Or.inr ⟨e1, 5, 0, x, x, j0, qj0, ⟨⟨by omega, by omega⟩, by omega, fun _ => rfl, fun q => by omega, fun _ => rfl, hno 3 (by decide) (by decide)⟩, e2, e3⟩)
/-- our loop from turn x on -/
def LC (x : Nat) (S : xSt) : Option xSt := m76_11 (1000000 - x) (nI x) S
theorem fuel_x (hx : x < 1000000) : 1000000 - x = (1000000 - (x + 1)) + 1 := by omega
theorem lc_end (hx : x < 1000000) (h : gZ S 4 = true ∨ ¬ gI S 2 = 0) : LC x S = some S := by
  unfold LC
  rw [fuel_x hx]
  exact turn_end hx h
theorem lc_tok (hx : x < 1000000) (h4 : gZ S 4 = false) (h2 : gI S 2 = 0) (h78 : m78 S = some (σ, S1)) (n1 : σ ≠ 66) (n2 : σ ≠ 85) (n3 : σ ≠ 42) (h81 : m81 σ S1 = some (true, S2)) (h83 : m83 σ S2 = some S3) : LC x S = LC (x + 1) S3 := by
  unfold LC
  rw [fuel_x hx]
  exact turn_tok hx h4 h2 h78 n1 n2 n3 h81 h83
theorem lc_no (hx : x < 1000000) (h4 : gZ S 4 = false) (h2 : gI S 2 = 0) (h78 : m78 S = some (σ, S1)) (n1 : σ ≠ 66) (n2 : σ ≠ 85) (h81 : m81 σ S1 = some (false, S2)) : LC x S = LC (x + 1) S2 := by
  unfold LC
  rw [fuel_x hx]
  exact turn_no hx h4 h2 h78 n1 n2 h81
theorem lc_star (hx : x < 1000000) (h4 : gZ S 4 = false) (h2 : gI S 2 = 0) (h78 : m78 S = some (42, S1)) (h81 : m81 42 S1 = some (true, S2)) (h82 : m82 S2 = some (τ, S3)) (h83 : m83 τ S3 = some S4) : LC x S = LC (x + 1) S4 := by
  unfold LC
  rw [fuel_x hx]
  exact turn_star hx h4 h2 h78 h81 h82 h83
theorem lc_U (hx : x < 1000000) (h4 : gZ S 4 = false) (h2 : gI S 2 = 0) (h78 : m78 S = some (85, S1)) : LC x S = LC (x + 1) (sI S1 11 ((gI S1 11) - 1)) := by
  unfold LC
  rw [fuel_x hx]
  exact turn_U hx h4 h2 h78
theorem lc_B {y : Int64} (hx : x < 1000000) (h4 : gZ S 4 = false) (h2 : gI S 2 = 0) (h78 : m78 S = some (66, S1)) (h37 : m37 (xsAt (gP S1 (gZ S1 3) 2) (xsTop (gR S1 1))) S1 = some (y, S1)) (h80 : m80 y S1 = some S3) : LC x S = LC (x + 1) S3 := by
  unfold LC
  rw [fuel_x hx]
  exact turn_B hx h4 h2 h78 h37 h80
/-- where it ends at a token -/
theorem lc_early (hx : x + 1 < 1000000) (h4 : gZ S 4 = false) (h2 : gI S 2 = 0) (h78 : m78 S = some (σ, S1)) (n1 : σ ≠ 66) (n2 : σ ≠ 85) (n3 : σ ≠ 65) (h39 : m39 S1 = some (rdC s z g nn r1 r2 r3 0 i3 i4 0 i6 i7 i8 i9 i10 i11 j0 l0 z4)) : LC x S = some (rdC s z g nn r1 r2 r3 3 i6 i4 0 i6 i7 i8 i9 i10 i11 j0 l0 true) := by
  rw [lc_no (by omega) h4 h2 h78 n1 n2 (take_end h39 n3), lc_end hx (Or.inl (by rw [rdC_z4]))]
theorem lc_bad (hx : x + 1 < 1000000) (h4 : gZ S 4 = false) (h2 : gI S 2 = 0) (h78 : m78 S = some (σ, S1)) (n1 : σ ≠ 66) (n2 : σ ≠ 85) (h39 : m39 S1 = some (rdC s z g nn r1 r2 r3 0 i3 i4 1 i6 i7 i8 i9 i10 i11 j0 l0 z4)) : LC x S = some (rdC s z g nn r1 r2 r3 1 i6 i4 1 i6 i7 i8 i9 i10 i11 j0 l0 z4) := by
  rw [lc_no (by omega) h4 h2 h78 n1 n2 (take_bad h39), lc_end hx (Or.inr (by rw [rdC_i2]; decide))]
theorem lc_f2 (hx : x + 1 < 1000000) (h4 : gZ S 4 = false) (h2 : gI S 2 = 0) (h78 : m78 S = some (σ, S1)) (n1 : σ ≠ 66) (n2 : σ ≠ 85) (n3 : σ ≠ 42) (h81 : m81 σ S1 = some (true, S2)) (h83 : m83 σ S2 = some S3) (h : ¬ gI S3 2 = 0) : LC x S = some S3 := by
  rw [lc_tok (by omega) h4 h2 h78 n1 n2 n3 h81 h83, lc_end hx (Or.inr h)]
/-- the reference with a fault; ours -/
def RF (t : xSt) (f pl : Int32) (q : xSt) : Prop := ∃ (qr2 qr3 qr4 qr5 qr6 qr7 qr8 qr9 qr10 qr11 qr12 qr13 qr14 qr15 qr16 : List Int32) (qi23 qi24 qi25 qi26 qi27 qi28 qi29 qi30 : Int32) (qj0 : Int64) (ql0 ql1 ql2 ql3 : List Int64), q = (rdR t qr2 qr3 qr4 qr5 qr6 qr7 qr8 qr9 qr10 qr11 qr12 qr13 qr14 qr15 qr16 f pl qi23 qi24 qi25 qi26 qi27 qi28 qi29 qi30 qj0 ql0 ql1 ql2 ql3) ∧ (qr2.length = 64 ∧ qr3.length = 64 ∧ qr4.length = 64 ∧ qr5.length = 64 ∧ qr6.length = 64 ∧ qr7.length = 512 ∧ ql0.length = 64 ∧ ql1.length = 512) ∧ (qr8.length = 8192 ∧ qr9.length = 8192 ∧ qr10.length = 8192 ∧ qr11.length = 8192 ∧ qr12.length = 8192 ∧ qr13.length = 8192 ∧ qr14.length = 8192 ∧ ql2.length = 8192 ∧ ql3.length = 8192) ∧ qr15.length = 33000 ∧ qr16.length = 33000
def CF (s : xSt) (z : Bool) (f pl : Int32) (c : xSt) : Prop := ∃ (g : Nat → List Int32) (nn : List Int64) (r1 r2 r3 : List Int32) (i4 i5 i6 i7 i8 i9 i10 i11 : Int32) (j0 : Int64) (l0 : List Int64) (z4 : Bool), c = (rdC s z g nn r1 r2 r3 f pl i4 i5 i6 i7 i8 i9 i10 i11 j0 l0 z4) ∧ l0.length = 24 ∧ nn.length = 64
def Flt (s t : xSt) (z : Bool) (rr cc : Option xSt) : Prop := ∃ f pl q c, (f = 1 ∨ f = 2 ∨ f = 3) ∧ rr = some q ∧ cc = some c ∧ RF t f pl q ∧ CF s z f pl c
end Tok
