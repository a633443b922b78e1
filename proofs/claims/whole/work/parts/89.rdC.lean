/-! our reader, method by method -/
def lix (l0 : List Int64) (x : Int64) : Nat → Int32
  | 0 => -1
  | m + 1 => if l0.getD m 0 = x then nI m else lix l0 x m
section RdC
variable {T U : List Int32} {n p m : Nat} {s t : xSt} {z : Bool} {g : Nat → List Int32} {nn : List Int64} {r1 r2 r3 : List Int32} {i2 i3 i4 i5 i6 i7 i8 i9 i10 i11 : Int32} {j0 : Int64} {l0 : List Int64} {z4 : Bool}
theorem m84_t (S : xSt) : m84 true S = some (true, S) := rfl
theorem m84_f : m84 false (rdC s z g nn r1 r2 r3 0 i3 i4 i5 i6 i7 i8 i9 i10 i11 j0 l0 z4) = some (false, (rdC s z g nn r1 r2 r3 2 i6 i4 i5 i6 i7 i8 i9 i10 i11 j0 l0 z4)) := by
  unfold m84 m14
  rw [if_neg ff, rdC_i2, rdC_i6, if_pos rfl]
  simp only [Option.bind_some, rdC_r1, rdC_r2, rdC_r3, rdC_i2, rdC_i3, rdC_i4, rdC_i5, rdC_i6, rdC_i7, rdC_i8, rdC_i9, rdC_i10, rdC_i11, rdC_j0, rdC_l0, rdC_z4, rdC_or0, rdC_oz3, rdC_gP, rdC_gN, rdC_sP, rdC_sN, rdC_sr1, rdC_sr2, rdC_sr3, rdC_si2, rdC_si3, rdC_si4, rdC_si5, rdC_si6, rdC_si7, rdC_si8, rdC_si9, rdC_si10, rdC_si11, rdC_sj0, rdC_sl0, rdC_sz4]
theorem m90_y : m90 (rdC s z g nn r1 r2 r3 i2 i3 i4 4 i6 i7 0 i9 i10 i11 j0 l0 z4) = some (true, (rdC s z g nn r1 r2 r3 i2 i3 i4 4 i6 i7 0 i9 i10 i11 j0 l0 z4)) := by
  unfold m90 m90_27
  rw [rdC_i5, rdC_i8, if_pos rfl, if_pos rfl, m84_t, bs]
theorem m90_n (h : ¬ (i5 = 4 ∧ i8 = 0)) : m90 (rdC s z g nn r1 r2 r3 0 i3 i4 i5 i6 i7 i8 i9 i10 i11 j0 l0 z4) = some (false, (rdC s z g nn r1 r2 r3 2 i6 i4 i5 i6 i7 i8 i9 i10 i11 j0 l0 z4)) := by
  unfold m90 m90_26 m90_27
  rw [rdC_i5, rdC_i8, m84_f, bs, m84_t, bs]
  by_cases h1 : i5 = 4
  · rw [if_pos h1, if_neg (fun q => h ⟨h1, q⟩)]
  · rw [if_neg h1]
theorem m91_go {x : Int64} (hl : l0.length = 24) (S : xSt) (hS : gL S 0 = l0) : ∀ (f m : Nat), m ≤ 24 → m < f → m91_15 f x (nI m - 1) S = some (lix l0 x m, S) := by
  intro f
  induction f with
  | zero => intro m a b; omega
  | succ f ih =>
    intro m a b
    unfold m91_15
    cases m with
    | zero => rw [if_pos (by decide)]; rfl
    | succ m =>
      rw [nI_pred, if_neg (nI_pos (by omega)), hS, xlGet_d (by omega) (by omega), bs]
      show _ = some (if l0.getD m 0 = x then nI m else lix l0 x m, S)
      by_cases c : l0.getD m 0 = x
      · rw [if_pos c, if_pos ((lg_cmp_eq _ _).mpr c)]
      · rw [if_neg c, if_neg (fun q => c ((lg_cmp_eq _ _).mp q)), show nI m + (-1) = nI m - 1 from (Int32.sub_eq_add_neg _ _).symm, ih m (by omega) (by omega)]
theorem m91_eq {x : Int64} (hl : l0.length = 24) (hm : m ≤ 24) : m91 x (rdC s z g nn r1 r2 r3 i2 i3 i4 i5 i6 i7 i8 i9 i10 (nI m) j0 l0 z4) = some (lix l0 x m, (rdC s z g nn r1 r2 r3 i2 i3 i4 i5 i6 i7 i8 i9 i10 (nI m) j0 l0 z4)) := by
  unfold m91
  rw [rdC_i11, rdC_l0, hl, if_neg (by rw [ltN (by decide) (by omega)]; omega)]
  exact m91_go hl _ rfl 1000000 m hm (by omega)
theorem m80_eq {x : Int64} (hl : l0.length = 24) (hm : m < 24) : m80 x (rdC s z g nn r1 r2 r3 i2 i3 i4 i5 i6 i7 i8 i9 i10 (nI m) j0 l0 z4) = some (rdC s z g nn r1 r2 r3 i2 i3 i4 i5 i6 i7 i8 i9 i10 (nI (m + 1)) j0 (l0.set m x) z4) := by
  unfold m80
  rw [rdC_i11, rdC_l0, hl, if_neg (nI_pos (by omega)), if_neg (by rw [leN (by decide) (by omega)]; omega), xlPut_n (by omega) (by omega), bs, nI_1]
  simp only [rdC_r1, rdC_r2, rdC_r3, rdC_i2, rdC_i3, rdC_i4, rdC_i5, rdC_i6, rdC_i7, rdC_i8, rdC_i9, rdC_i10, rdC_i11, rdC_j0, rdC_l0, rdC_z4, rdC_or0, rdC_oz3, rdC_gP, rdC_gN, rdC_sP, rdC_sN, rdC_sr1, rdC_sr2, rdC_sr3, rdC_si2, rdC_si3, rdC_si4, rdC_si5, rdC_si6, rdC_si7, rdC_si8, rdC_si9, rdC_si10, rdC_si11, rdC_sj0, rdC_sl0, rdC_sz4]
/-- a node of our program -/
def addN (g : Nat → List Int32) (k pl v d : Int32) : Nat → List Int32 := bUp (bUp (bUp (bUp (bUp g 0 (xsPush 4097 (g 0) k)) 1 (xsPush 4097 (g 1) pl)) 2 (xsPush 4097 (g 2) v)) 3 (xsPush 4097 (g 3) d)) 4 (xsPush 4097 (g 4) (nI (g 0).length + 1))
theorem m89_num (hz : gZ s 3 = z) : m89 (rdC s z g nn r1 r2 r3 i2 i3 i4 5 i6 i7 i8 i9 i10 i11 j0 l0 z4) = some (rdC s z (addN g 24 i6 i7 i11) nn r1 r2 r3 i2 i3 i4 5 i6 i7 i8 i9 i10 i11 j0 l0 z4) := by
  unfold m89 addN
  rw [rdC_i5, if_pos rfl]
  simp only [rdC_r1, rdC_r2, rdC_r3, rdC_i2, rdC_i3, rdC_i4, rdC_i5, rdC_i6, rdC_i7, rdC_i8, rdC_i9, rdC_i10, rdC_i11, rdC_j0, rdC_l0, rdC_z4, rdC_or0, rdC_oz3, rdC_gP, rdC_gN, rdC_sP, rdC_sN, rdC_sr1, rdC_sr2, rdC_sr3, rdC_si2, rdC_si3, rdC_si4, rdC_si5, rdC_si6, rdC_si7, rdC_si8, rdC_si9, rdC_si10, rdC_si11, rdC_sj0, rdC_sl0, rdC_sz4, hz]
theorem m89_nil (hz : gZ s 3 = z) (h5 : ¬ i5 = 5) : m89 (rdC s z g nn r1 r2 r3 i2 i3 i4 i5 i6 i7 19 i9 i10 i11 j0 l0 z4) = some (rdC s z (addN g 19 i6 0 i11) nn r1 r2 r3 i2 i3 i4 i5 i6 i7 19 i9 i10 i11 j0 l0 z4) := by
  unfold m89 addN
  rw [rdC_i5, if_neg h5, rdC_i8, if_pos rfl]
  simp only [rdC_r1, rdC_r2, rdC_r3, rdC_i2, rdC_i3, rdC_i4, rdC_i5, rdC_i6, rdC_i7, rdC_i8, rdC_i9, rdC_i10, rdC_i11, rdC_j0, rdC_l0, rdC_z4, rdC_or0, rdC_oz3, rdC_gP, rdC_gN, rdC_sP, rdC_sN, rdC_sr1, rdC_sr2, rdC_sr3, rdC_si2, rdC_si3, rdC_si4, rdC_si5, rdC_si6, rdC_si7, rdC_si8, rdC_si9, rdC_si10, rdC_si11, rdC_sj0, rdC_sl0, rdC_sz4, hz]
theorem m89_var (hz : gZ s 3 = z) (hl : l0.length = 24) (hm : m ≤ 24) : m89 (rdC s z g nn r1 r2 r3 i2 i3 i4 4 i6 i7 0 i9 i10 (nI m) j0 l0 z4) = some (rdC s z (addN g 25 i6 (lix l0 j0 m) (nI m)) nn r1 r2 r3 i2 i3 i4 4 i6 i7 0 i9 i10 (nI m) j0 l0 z4) := by
  unfold m89 addN
  rw [rdC_i5, if_neg (by decide), rdC_i8, if_neg (by decide), m90_y, bs, if_pos rfl, rdC_j0, m91_eq hl hm, bs]
  simp only [rdC_r1, rdC_r2, rdC_r3, rdC_i2, rdC_i3, rdC_i4, rdC_i5, rdC_i6, rdC_i7, rdC_i8, rdC_i9, rdC_i10, rdC_i11, rdC_j0, rdC_l0, rdC_z4, rdC_or0, rdC_oz3, rdC_gP, rdC_gN, rdC_sP, rdC_sN, rdC_sr1, rdC_sr2, rdC_sr3, rdC_si2, rdC_si3, rdC_si4, rdC_si5, rdC_si6, rdC_si7, rdC_si8, rdC_si9, rdC_si10, rdC_si11, rdC_sj0, rdC_sl0, rdC_sz4, hz]
theorem m89_bad (h5 : ¬ i5 = 5) (h8 : ¬ i8 = 19) (h : ¬ (i5 = 4 ∧ i8 = 0)) : m89 (rdC s z g nn r1 r2 r3 0 i3 i4 i5 i6 i7 i8 i9 i10 i11 j0 l0 z4) = some (rdC s z g nn r1 r2 r3 2 i6 i4 i5 i6 i7 i8 i9 i10 i11 j0 l0 z4) := by
  unfold m89
  rw [rdC_i5, if_neg h5, rdC_i8, if_neg h8, m90_n h, bs, if_neg ff]
/-- an expression that begins with a ( -/
theorem m88_par (a1 : Int32) : m88 a1 (rdC s z g nn r1 r2 r3 i2 i3 i4 2 i6 i7 i8 i9 i10 i11 j0 l0 z4) = some (rdC s z g nn r1 r2 r3 i2 i3 i4 2 i6 i7 i8 i6 a1 i11 j0 l0 z4) := by
  unfold m88
  rw [rdC_i5, if_pos rfl]
  simp only [rdC_r1, rdC_r2, rdC_r3, rdC_i2, rdC_i3, rdC_i4, rdC_i5, rdC_i6, rdC_i7, rdC_i8, rdC_i9, rdC_i10, rdC_i11, rdC_j0, rdC_l0, rdC_z4, rdC_or0, rdC_oz3, rdC_gP, rdC_gN, rdC_sP, rdC_sN, rdC_sr1, rdC_sr2, rdC_sr3, rdC_si2, rdC_si3, rdC_si4, rdC_si5, rdC_si6, rdC_si7, rdC_si8, rdC_si9, rdC_si10, rdC_si11, rdC_sj0, rdC_sl0, rdC_sz4]
theorem m88_leaf (h5 : ¬ i5 = 2) (h3 : ¬ i5 = 3) : m88 0 (rdC s z g nn r1 r2 r3 i2 i3 i4 i5 i6 i7 i8 i9 i10 i11 j0 l0 z4) = m89 (rdC s z g nn r1 r2 r3 i2 i3 i4 i5 i6 i7 i8 i9 i10 i11 j0 l0 z4) := by
  unfold m88 m88_40
  rw [rdC_i5, if_neg h5, if_pos rfl, if_neg h3, m84_t, bs, if_pos rfl]
  exact bind_id _
theorem m88_bad (a1 : Int32) (h5 : ¬ i5 = 2) (h : ¬ a1 = 0 ∨ i5 = 3) : m88 a1 (rdC s z g nn r1 r2 r3 0 i3 i4 i5 i6 i7 i8 i9 i10 i11 j0 l0 z4) = some (rdC s z g nn r1 r2 r3 2 i6 i4 i5 i6 i7 i8 i9 i10 i11 j0 l0 z4) := by
  unfold m88 m88_39 m88_40
  rw [rdC_i5, if_neg h5, m84_f, bs, if_neg ff]
  by_cases c : a1 = 0
  · rw [if_pos c]
    rcases h with h | h
    · exact absurd c h
    · rw [if_pos h]
  · rw [if_neg c]
end RdC
