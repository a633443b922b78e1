/-! a token is taken -/
section Take
variable {s : xSt} {z : Bool} {g : Nat → List Int32} {nn : List Int64} {r1 r2 r3 : List Int32} {i2 i3 i4 i5 i6 i7 i8 i9 i10 i11 : Int32} {j0 : Int64} {l0 : List Int64} {z4 : Bool} {S : xSt} {σ : Int32}
theorem take_end (h : m39 S = some (rdC s z g nn r1 r2 r3 0 i3 i4 0 i6 i7 i8 i9 i10 i11 j0 l0 z4)) (hσ : ¬ σ = 65) : m81 σ S = some (false, (rdC s z g nn r1 r2 r3 3 i6 i4 0 i6 i7 i8 i9 i10 i11 j0 l0 true)) := by
  unfold m81 m14
  rw [h, bs, rdC_i5, if_pos rfl, if_neg hσ]
  simp (decide := true) only [rdC_r1, rdC_r2, rdC_r3, rdC_i2, rdC_i3, rdC_i4, rdC_i5, rdC_i6, rdC_i7, rdC_i8, rdC_i9, rdC_i10, rdC_i11, rdC_j0, rdC_l0, rdC_z4, rdC_or0, rdC_oz3, rdC_gP, rdC_gN, rdC_sP, rdC_sN, rdC_sr1, rdC_sr2, rdC_sr3, rdC_si2, rdC_si3, rdC_si4, rdC_si5, rdC_si6, rdC_si7, rdC_si8, rdC_si9, rdC_si10, rdC_si11, rdC_sj0, rdC_sl0, rdC_sz4, reduceIte, Option.bind_some]
theorem take_done (h : m39 S = some (rdC s z g nn r1 r2 r3 i2 i3 i4 0 i6 i7 i8 i9 i10 i11 j0 l0 z4)) : m81 65 S = some (false, (rdC s z g nn r1 r2 r3 i2 i3 i4 0 i6 i7 i8 i9 i10 i11 j0 l0 true)) := by
  unfold m81
  rw [h, bs, rdC_i5, if_pos rfl, if_pos rfl]
  simp only [rdC_r1, rdC_r2, rdC_r3, rdC_i2, rdC_i3, rdC_i4, rdC_i5, rdC_i6, rdC_i7, rdC_i8, rdC_i9, rdC_i10, rdC_i11, rdC_j0, rdC_l0, rdC_z4, rdC_or0, rdC_oz3, rdC_gP, rdC_gN, rdC_sP, rdC_sN, rdC_sr1, rdC_sr2, rdC_sr3, rdC_si2, rdC_si3, rdC_si4, rdC_si5, rdC_si6, rdC_si7, rdC_si8, rdC_si9, rdC_si10, rdC_si11, rdC_sj0, rdC_sl0, rdC_sz4]
theorem take_bad (h : m39 S = some (rdC s z g nn r1 r2 r3 0 i3 i4 1 i6 i7 i8 i9 i10 i11 j0 l0 z4)) : m81 σ S = some (false, (rdC s z g nn r1 r2 r3 1 i6 i4 1 i6 i7 i8 i9 i10 i11 j0 l0 z4)) := by
  unfold m81 m14
  rw [h, bs, rdC_i5, if_neg (by decide), if_pos rfl]
  simp (decide := true) only [rdC_r1, rdC_r2, rdC_r3, rdC_i2, rdC_i3, rdC_i4, rdC_i5, rdC_i6, rdC_i7, rdC_i8, rdC_i9, rdC_i10, rdC_i11, rdC_j0, rdC_l0, rdC_z4, rdC_or0, rdC_oz3, rdC_gP, rdC_gN, rdC_sP, rdC_sN, rdC_sr1, rdC_sr2, rdC_sr3, rdC_si2, rdC_si3, rdC_si4, rdC_si5, rdC_si6, rdC_si7, rdC_si8, rdC_si9, rdC_si10, rdC_si11, rdC_sj0, rdC_sl0, rdC_sz4, reduceIte, Option.bind_some]
theorem take_ok (h : m39 S = some (rdC s z g nn r1 r2 r3 i2 i3 i4 i5 i6 i7 i8 i9 i10 i11 j0 l0 z4)) (h0 : ¬ i5 = 0) (h1 : ¬ i5 = 1) : m81 σ S = some (true, (rdC s z g nn r1 r2 r3 i2 i3 i4 i5 i6 i7 i8 i9 i10 i11 j0 l0 z4)) := by
  unfold m81
  rw [h, bs, rdC_i5, if_neg h0, if_neg h1]
end Take
