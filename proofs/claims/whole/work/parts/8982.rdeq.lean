/-! equations for the steps of reading -/
section RdEq
variable {T U : List Int32} {n p m N D c x : Nat} {S S2 S3 : xSt} {s : xSt} {z : Bool} {g : Nat → List Int32} {nn : List Int64} {r1 r2 r3 : List Int32} {i2 i3 i4 i5 i6 i7 i8 i9 i10 i11 : Int32} {j0 : Int64} {l0 : List Int64} {z4 : Bool} {t : xSt} {qr2 qr3 qr4 qr5 qr6 qr7 qr8 qr9 qr10 qr11 qr12 qr13 qr14 qr15 qr16 : List Int32} {qi21 qi22 qi23 qi24 qi25 qi26 qi27 qi28 qi29 qi30 : Int32} {qj0 : Int64} {ql0 ql1 ql2 ql3 : List Int64}
theorem m83_40 : m83 40 (rdC s z g nn r1 r2 r3 i2 i3 i4 i5 i6 i7 i8 i9 i10 i11 j0 l0 z4) = (m84 (decide (i5 = 2)) (rdC s z g nn r1 r2 r3 i2 i3 i4 i5 i6 i7 i8 i9 i10 i11 j0 l0 z4)).bind fun q => some q.2 := by
  unfold m83 m83_171
  rw [if_pos rfl, rdC_i5]
  by_cases h : i5 = 2
  · rw [if_pos h, decide_eq_true h]
  · rw [if_neg h, decide_eq_false h]
theorem m83_73 : m83 73 (rdC s z g nn r1 r2 r3 i2 i3 i4 i5 i6 i7 i8 i9 i10 i11 j0 l0 z4) = (m84 (decide (i5 = 3)) (rdC s z g nn r1 r2 r3 i2 i3 i4 i5 i6 i7 i8 i9 i10 i11 j0 l0 z4)).bind fun q => some q.2 := by
  unfold m83 m83_195
  rw [if_neg (by decide), if_neg (by decide), if_neg (by decide), if_neg (by decide), if_neg (by decide), if_neg (by decide), if_pos rfl, rdC_i5]
  by_cases h : i5 = 3
  · rw [if_pos h, decide_eq_true h]
  · rw [if_neg h, decide_eq_false h]
theorem m83_41 : m83 41 S = m92 S := by
  unfold m83
  rw [if_neg (by decide), if_pos rfl]
  exact bind_id _
theorem m83_67 : m83 67 S = m88 1 S := by
  unfold m83
  rw [if_neg (by decide), if_neg (by decide), if_neg (by decide), if_pos rfl]
  exact bind_id _
theorem m83_69 : m83 69 S = m88 0 S := by
  unfold m83
  rw [if_neg (by decide), if_neg (by decide), if_neg (by decide), if_neg (by decide), if_pos rfl]
  exact bind_id _
theorem m83_72 : m83 72 S = m86 S := by
  unfold m83
  rw [if_neg (by decide), if_neg (by decide), if_neg (by decide), if_neg (by decide), if_neg (by decide), if_pos rfl]
  exact bind_id _
theorem m83_83 : m83 83 S = m88 (xsTop (gR S 3)) S := by
  unfold m83
  rw [if_neg (by decide), if_neg (by decide), if_neg (by decide), if_neg (by decide), if_neg (by decide), if_neg (by decide), if_neg (by decide), if_pos rfl]
  exact bind_id _
theorem m83_o {σ : Int32} (h1 : σ ≠ 40) (h2 : σ ≠ 41) (h3 : σ ≠ 65) (h4 : σ ≠ 67) (h5 : σ ≠ 69) (h6 : σ ≠ 72) (h7 : σ ≠ 73) (h8 : σ ≠ 83) : m83 σ S = m93 σ S := by
  unfold m83
  rw [if_neg h1, if_neg h2, if_neg h3, if_neg h4, if_neg h5, if_neg h6, if_neg h7, if_neg h8]
  exact bind_id _
theorem m83_70 : m83 70 S = m95 S := by
  rw [m83_o (by decide) (by decide) (by decide) (by decide) (by decide) (by decide) (by decide) (by decide)]
  unfold m93
  rw [if_neg (by decide), if_pos rfl]
  exact bind_id _
theorem m83_v {σ : Int32} (h : σ = 84 ∨ σ = 86 ∨ σ = 88 ∨ σ = 78) : m83 σ S = m98 σ S := by
  rcases h with rfl | rfl | rfl | rfl
  all_goals
    rw [m83_o (by decide) (by decide) (by decide) (by decide) (by decide) (by decide) (by decide) (by decide)]
    unfold m93
    rw [if_neg (by decide), if_neg (by decide), if_neg (by decide), if_neg (by decide), if_neg (by decide), if_neg (by decide)]
    exact bind_id _
theorem m87_st (h : gI S 10 = 0) (hc : c ≤ 23) : m87 (nI c) S = some (decide (1 ≤ c ∧ c ≤ 15), S) := by
  unfold m87 m19
  rw [h, if_neg (by decide), if_pos rfl]
  have hcc : c = 0 ∨ c = 1 ∨ c = 2 ∨ c = 3 ∨ c = 4 ∨ c = 5 ∨ c = 6 ∨ c = 7 ∨ c = 8 ∨ c = 9 ∨ c = 10 ∨ c = 11 ∨ c = 12 ∨ c = 13 ∨ c = 14 ∨ c = 15 ∨ c = 16 ∨ c = 17 ∨ c = 18 ∨ c = 19 ∨ c = 20 ∨ c = 21 ∨ c = 22 ∨ c = 23 := by omega
  rcases hcc with rfl | rfl | rfl | rfl | rfl | rfl | rfl | rfl | rfl | rfl | rfl | rfl | rfl | rfl | rfl | rfl | rfl | rfl | rfl | rfl | rfl | rfl | rfl | rfl <;> rfl
theorem m87_ch (h : gI S 10 = 1) (hc : c ≤ 23) : m87 (nI c) S = some (decide ((8 ≤ c ∧ c ≤ 10) ∨ (16 ≤ c ∧ c ≤ 18)), S) := by
  unfold m87 m20 m20_12
  rw [h, if_neg (by decide), if_neg (by decide)]
  have hcc : c = 0 ∨ c = 1 ∨ c = 2 ∨ c = 3 ∨ c = 4 ∨ c = 5 ∨ c = 6 ∨ c = 7 ∨ c = 8 ∨ c = 9 ∨ c = 10 ∨ c = 11 ∨ c = 12 ∨ c = 13 ∨ c = 14 ∨ c = 15 ∨ c = 16 ∨ c = 17 ∨ c = 18 ∨ c = 19 ∨ c = 20 ∨ c = 21 ∨ c = 22 ∨ c = 23 := by omega
  rcases hcc with rfl | rfl | rfl | rfl | rfl | rfl | rfl | rfl | rfl | rfl | rfl | rfl | rfl | rfl | rfl | rfl | rfl | rfl | rfl | rfl | rfl | rfl | rfl | rfl <;> rfl
/-- the kind that a word begins -/
def kdS (c : Nat) : Nat := if 1 ≤ c ∧ c ≤ 15 then c + 2 else 0
def kdC (c : Nat) : Nat := if 8 ≤ c ∧ c ≤ 10 then c + 12 else if c = 16 ∨ c = 17 then c + 2 else if c = 18 then 23 else 0
theorem kd_tbl : ∀ c, c < 24 → (kdS c = 0 → stI c = -1 ∧ decide (1 ≤ c ∧ c ≤ 15) = false) ∧ (¬ kdS c = 0 → stI c = nI (kdS c) ∧ decide (1 ≤ c ∧ c ≤ 15) = true ∧ ck (kdS c) = c ∧ 3 ≤ kdS c ∧ kdS c < 18) ∧ (kdC c = 0 → chI c = -1 ∧ decide ((8 ≤ c ∧ c ≤ 10) ∨ (16 ≤ c ∧ c ≤ 18)) = false) ∧ (¬ kdC c = 0 → chI c = nI (kdC c) ∧ decide ((8 ≤ c ∧ c ≤ 10) ∨ (16 ≤ c ∧ c ≤ 18)) = true ∧ ck (kdC c) = c ∧ 18 ≤ kdC c ∧ kdC c ≤ 23) := by decide +kernel
theorem m158_flt {b : Bool} (h : ¬ qi21 = 0) : m158 b (rdR t qr2 qr3 qr4 qr5 qr6 qr7 qr8 qr9 qr10 qr11 qr12 qr13 qr14 qr15 qr16 qi21 qi22 qi23 qi24 qi25 qi26 qi27 qi28 qi29 qi30 qj0 ql0 ql1 ql2 ql3) = some (false, (rdR t qr2 qr3 qr4 qr5 qr6 qr7 qr8 qr9 qr10 qr11 qr12 qr13 qr14 qr15 qr16 qi21 qi22 qi23 qi24 qi25 qi26 qi27 qi28 qi29 qi30 qj0 ql0 ql1 ql2 ql3)) := by
  unfold m158 m158_24 m158_44
  rw [rdR_i21, if_neg h, if_neg h, if_neg h]
theorem beg_par {b : Bool} {k : Int32} : m169 b k (rdR t qr2 qr3 qr4 qr5 qr6 qr7 qr8 qr9 qr10 qr11 qr12 qr13 qr14 qr15 qr16 0 qi22 qi23 0 qi25 qi26 qi27 qi28 qi29 qi30 qj0 ql0 ql1 ql2 ql3) = m169_94 b k true (rdR t qr2 qr3 qr4 qr5 qr6 qr7 qr8 qr9 qr10 qr11 qr12 qr13 qr14 qr15 qr16 0 qi22 qi23 0 qi25 qi26 qi27 qi28 qi29 qi30 qj0 ql0 ql1 ql2 ql3) := by
  have hw : IsWd (rdR t qr2 qr3 qr4 qr5 qr6 qr7 qr8 qr9 qr10 qr11 qr12 qr13 qr14 qr15 qr16 0 qi22 qi23 0 qi25 qi26 qi27 qi28 qi29 qi30 qj0 ql0 ql1 ql2 ql3) 0 := iswd_no (by rw [rdR_i24]; decide)
  have e81 : m169_81 b k (rdR t qr2 qr3 qr4 qr5 qr6 qr7 qr8 qr9 qr10 qr11 qr12 qr13 qr14 qr15 qr16 0 qi22 qi23 0 qi25 qi26 qi27 qi28 qi29 qi30 qj0 ql0 ql1 ql2 ql3) = m169_94 b k true (rdR t qr2 qr3 qr4 qr5 qr6 qr7 qr8 qr9 qr10 qr11 qr12 qr13 qr14 qr15 qr16 0 qi22 qi23 0 qi25 qi26 qi27 qi28 qi29 qi30 qj0 ql0 ql1 ql2 ql3) := by
    unfold m169_81
    rw [rdR_i24, if_pos rfl]
  unfold m169 m169_32 m169_58
  rw [rdR_i24, if_neg (by decide)]
  cases b
  · rw [if_neg ff, if_neg ff]; exact e81
  · rw [if_pos rfl, m160_no (by rw [rdR_i24]; decide), bs, if_neg ff, if_pos rfl, hw 34 (by decide), bs, if_neg (show ¬ decide (0 = cd 34) = true by decide)]; exact e81
theorem rf_mk (a2 : qr2.length = 64) (a3 : qr3.length = 64) (a4 : qr4.length = 64) (a5 : qr5.length = 64) (a6 : qr6.length = 64) (a7 : qr7.length = 512) (b0 : ql0.length = 64) (b1 : ql1.length = 512) (a8 : qr8.length = 8192) (a9 : qr9.length = 8192) (a10 : qr10.length = 8192) (a11 : qr11.length = 8192) (a12 : qr12.length = 8192) (a13 : qr13.length = 8192) (a14 : qr14.length = 8192) (b2 : ql2.length = 8192) (b3 : ql3.length = 8192) (a15 : qr15.length = 33000) (a16 : qr16.length = 33000) : RF t qi21 qi22 (rdR t qr2 qr3 qr4 qr5 qr6 qr7 qr8 qr9 qr10 qr11 qr12 qr13 qr14 qr15 qr16 qi21 qi22 qi23 qi24 qi25 qi26 qi27 qi28 qi29 qi30 qj0 ql0 ql1 ql2 ql3) :=
  ⟨qr2, qr3, qr4, qr5, qr6, qr7, qr8, qr9, qr10, qr11, qr12, qr13, qr14, qr15, qr16, qi23, qi24, qi25, qi26, qi27, qi28, qi29, qi30, qj0, ql0, ql1, ql2, ql3, rfl, ⟨a2, a3, a4, a5, a6, a7, b0, b1⟩, ⟨a8, a9, a10, a11, a12, a13, a14, b2, b3⟩, a15, a16⟩
theorem cf_mk (h1 : l0.length = 24) (h2 : nn.length = 64) : CF s z i2 i3 (rdC s z g nn r1 r2 r3 i2 i3 i4 i5 i6 i7 i8 i9 i10 i11 j0 l0 z4) :=
  ⟨g, nn, r1, r2, r3, i4, i5, i6, i7, i8, i9, i10, i11, j0, l0, z4, rfl, h1, h2⟩
theorem flt_mk {f pl : Int32} {rr cc : Option xSt} {q c : xSt} (hf : f = 1 ∨ f = 2 ∨ f = 3) (h1 : rr = some q) (h2 : cc = some c) (h3 : RF t f pl q) (h4 : CF s z f pl c) : Flt s t z rr cc := ⟨f, pl, q, c, hf, h1, h2, h3, h4⟩
theorem lc_step {σ : Int32} {S1 : xSt} (hx : x < 1000000) (h4 : gZ S 4 = false) (h2 : gI S 2 = 0) (h78 : m78 S = some (σ, S1)) (n1 : σ ≠ 66) (n2 : σ ≠ 85) (n3 : σ ≠ 42) (h81 : m81 σ S1 = some (true, S2)) : LC x S = (m83 σ S2).bind fun q => LC (x + 1) q := by
  unfold LC
  rw [fuel_x hx, turn_go hx h4 h2 h78, if_neg n1, if_neg n2, h81, bs, if_pos rfl, if_neg n3]
theorem lc_stepS {S1 : xSt} {τ : Int32} (hx : x < 1000000) (h4 : gZ S 4 = false) (h2 : gI S 2 = 0) (h78 : m78 S = some (42, S1)) (h81 : m81 42 S1 = some (true, S2)) (h82 : m82 S2 = some (τ, S3)) : LC x S = (m83 τ S3).bind fun q => LC (x + 1) q := by
  unfold LC
  rw [fuel_x hx, turn_go hx h4 h2 h78, if_neg (by decide), if_neg (by decide), h81, bs, if_pos rfl, if_pos rfl, h82, bs]
theorem lix_congr {l k : List Int64} {y : Int64} : ∀ m, (∀ i, i < m → l.getD i 0 = k.getD i 0) → lix l y m = lix k y m := by
  intro m
  induction m with
  | zero => intro _; rfl
  | succ m ih =>
    intro h
    show (if l.getD m 0 = y then nI m else lix l y m) = (if k.getD m 0 = y then nI m else lix k y m)
    rw [h m (by omega), ih (fun i hi => h i (by omega))]
end RdEq
