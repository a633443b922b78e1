/-! our reader, on -/
def fx (κ : Nat) : Nat := if κ = 8 then 1 else if κ = 9 then 2 else if κ = 10 then 3 else if κ = 12 ∨ κ = 13 ∨ κ = 18 then 4 else if κ = 14 ∨ κ = 15 then 5 else if κ = 16 then 6 else if κ = 17 then 7 else if κ = 22 ∨ κ = 23 then 0 else 8
/-- the symbol at a spot of a kind's form -/
def sym (κ sp : Nat) : Int32 := if sp < (zBy (fx κ)).length then (zBy (fx κ)).getD sp 0 else 41
theorem fx_lt (κ : Nat) : fx κ < zN ∧ (zBy (fx κ)).length < 1000 := by
  unfold fx
  repeat' split
  all_goals decide
section RdC2
variable {T U : List Int32} {n p m : Nat} {s t : xSt} {z : Bool} {g : Nat → List Int32} {nn : List Int64} {r1 r2 r3 : List Int32} {i2 i3 i4 i5 i6 i7 i8 i9 i10 i11 : Int32} {j0 : Int64} {l0 : List Int64} {z4 : Bool} {ns ss ls : List Int32}
theorem m79_eq {κ : Nat} (h : κ < 100) (S : xSt) : m79 (nI κ) S = some (fx κ, S) := by
  unfold m79 fx
  simp (disch := omega) only [eqL_0, eqL_1, eqL_2, eqL_3, eqL_4, eqL_5, eqL_6, eqL_7, eqL_8, eqL_9, eqL_10, eqL_11, eqL_12, eqL_13, eqL_14, eqL_15, eqL_16, eqL_17, eqL_18, eqL_19, eqL_20, eqL_21, eqL_22, eqL_23, eqL_24, eqL_25, eqL_26, eqL_27, eqL_28, eqL_29, eqL_30, eqL_31, eqL_32, leL_0, geL_0, ltL_0, gtL_0, leL_1, geL_1, ltL_1, gtL_1, leL_2, geL_2, ltL_2, gtL_2, leL_3, geL_3, ltL_3, gtL_3, leL_8, geL_8, ltL_8, gtL_8, leL_9, geL_9, ltL_9, gtL_9, leL_10, geL_10, ltL_10, gtL_10, leL_11, geL_11, ltL_11, gtL_11, leL_12, geL_12, ltL_12, gtL_12, leL_17, geL_17, ltL_17, gtL_17, leL_18, geL_18, ltL_18, gtL_18, leL_23, geL_23, ltL_23, gtL_23, leL_24, geL_24, ltL_24, gtL_24, leL_26, geL_26, ltL_26, gtL_26, leL_31, geL_31, ltL_31, gtL_31, leL_32, geL_32, ltL_32, gtL_32, leL_48, geL_48, ltL_48, gtL_48, leL_57, geL_57, ltL_57, gtL_57, leL_63, geL_63, ltL_63, gtL_63, leL_64, geL_64, ltL_64, gtL_64, leL_97, geL_97, ltL_97, gtL_97, leL_122, geL_122, ltL_122, gtL_122, leL_4096, geL_4096, ltL_4096, gtL_4096, leL_6000, geL_6000, ltL_6000, gtL_6000, leL_8192, geL_8192, ltL_8192, gtL_8192, leL_1000000, geL_1000000, ltL_1000000, gtL_1000000, eqN, leN, ltN, nI_ne1, m1_ne]
  repeat' split
  all_goals first | rfl | omega
theorem m78_eq {c κ sp : Nat} {hz : gZ s 3 = z} (hκ : κ < 100) (hk : xsAt (g 0) (nI c) = nI κ) (hn : ns.length < 2 ^ 30) (hs : ss.length < 2 ^ 30) (hsp : sp < 2 ^ 20) : m78 (rdC s z g nn ((nI c :: ns).reverse) ((nI sp :: ss).reverse) r3 i2 i3 i4 i5 i6 i7 i8 i9 (-1) i11 j0 l0 z4) = some (sym κ sp, (rdC s z g nn ((nI c :: ns).reverse) ((nI (sp + 1) :: ss).reverse) r3 i2 i3 i4 i5 i6 i7 i8 i9 (-1) i11 j0 l0 z4)) := by
  obtain ⟨f1, f2⟩ := fx_lt κ
  unfold m78 sym
  simp (disch := omega) only [rdC_r1, rdC_r2, rdC_r3, rdC_i2, rdC_i3, rdC_i4, rdC_i5, rdC_i6, rdC_i7, rdC_i8, rdC_i9, rdC_i10, rdC_i11, rdC_j0, rdC_l0, rdC_z4, rdC_or0, rdC_oz3, rdC_gP, rdC_gN, rdC_sP, rdC_sN, rdC_sr1, rdC_sr2, rdC_sr3, rdC_si2, rdC_si3, rdC_si4, rdC_si5, rdC_si6, rdC_si7, rdC_si8, rdC_si9, rdC_si10, rdC_si11, rdC_sj0, rdC_sl0, rdC_sz4, xsTop_r, xsSetTop_r, hz, nI_1, hk]
  rw [if_pos trivial, if_neg (by rw [List.length_reverse, List.length_cons, eqL_0 (by omega)]; omega), m79_eq hκ, bs]
  simp (disch := omega) only [rdC_r1, rdC_r2, rdC_r3, rdC_i2, rdC_i3, rdC_i4, rdC_i5, rdC_i6, rdC_i7, rdC_i8, rdC_i9, rdC_i10, rdC_i11, rdC_j0, rdC_l0, rdC_z4, rdC_or0, rdC_oz3, rdC_gP, rdC_gN, rdC_sP, rdC_sN, rdC_sr1, rdC_sr2, rdC_sr3, rdC_si2, rdC_si3, rdC_si4, rdC_si5, rdC_si6, rdC_si7, rdC_si8, rdC_si9, rdC_si10, rdC_si11, rdC_sj0, rdC_sl0, rdC_sz4, xsTop_r, xsSetTop_r, nI_1]
  rw [if_neg (nI_pos (by omega)), xtLen_n f1, bs]
  simp (disch := omega) only [eqL_0, eqL_1, eqL_2, eqL_3, eqL_4, eqL_5, eqL_6, eqL_7, eqL_8, eqL_9, eqL_10, eqL_11, eqL_12, eqL_13, eqL_14, eqL_15, eqL_16, eqL_17, eqL_18, eqL_19, eqL_20, eqL_21, eqL_22, eqL_23, eqL_24, eqL_25, eqL_26, eqL_27, eqL_28, eqL_29, eqL_30, eqL_31, eqL_32, leL_0, geL_0, ltL_0, gtL_0, leL_1, geL_1, ltL_1, gtL_1, leL_2, geL_2, ltL_2, gtL_2, leL_3, geL_3, ltL_3, gtL_3, leL_8, geL_8, ltL_8, gtL_8, leL_9, geL_9, ltL_9, gtL_9, leL_10, geL_10, ltL_10, gtL_10, leL_11, geL_11, ltL_11, gtL_11, leL_12, geL_12, ltL_12, gtL_12, leL_17, geL_17, ltL_17, gtL_17, leL_18, geL_18, ltL_18, gtL_18, leL_23, geL_23, ltL_23, gtL_23, leL_24, geL_24, ltL_24, gtL_24, leL_26, geL_26, ltL_26, gtL_26, leL_31, geL_31, ltL_31, gtL_31, leL_32, geL_32, ltL_32, gtL_32, leL_48, geL_48, ltL_48, gtL_48, leL_57, geL_57, ltL_57, gtL_57, leL_63, geL_63, ltL_63, gtL_63, leL_64, geL_64, ltL_64, gtL_64, leL_97, geL_97, ltL_97, gtL_97, leL_122, geL_122, ltL_122, gtL_122, leL_4096, geL_4096, ltL_4096, gtL_4096, leL_6000, geL_6000, ltL_6000, gtL_6000, leL_8192, geL_8192, ltL_8192, gtL_8192, leL_1000000, geL_1000000, ltL_1000000, gtL_1000000, eqN, leN, ltN, nI_ne1, m1_ne]
  by_cases c1 : (zBy (fx κ)).length ≤ sp
  · rw [if_pos c1, if_neg (by omega)]
  · rw [if_neg c1, xtAt_n f1 (by omega) (by omega), bs, if_pos (by omega)]
theorem m78_H (h : ¬ i10 = -1) : m78 (rdC s z g nn r1 r2 r3 i2 i3 i4 i5 i6 i7 i8 i9 i10 i11 j0 l0 z4) = some (72, (rdC s z g nn r1 r2 r3 i2 i3 i4 i5 i6 i7 i8 i9 i10 i11 j0 l0 z4)) := by
  unfold m78
  rw [rdC_i10, if_neg h]
theorem m78_A : m78 (rdC s z g nn [] r2 r3 i2 i3 i4 i5 i6 i7 i8 i9 (-1) i11 j0 l0 z4) = some (65, (rdC s z g nn [] r2 r3 i2 i3 i4 i5 i6 i7 i8 i9 (-1) i11 j0 l0 z4)) := by
  unfold m78
  rw [rdC_i10, if_pos rfl, rdC_r1, if_pos (by decide)]
/-- the first word behind a ( -/
theorem m86_no (hw : m87 i8 (rdC s z g nn r1 r2 r3 0 i3 i4 i5 i6 i7 i8 i9 i10 i11 j0 l0 z4) = some (false, (rdC s z g nn r1 r2 r3 0 i3 i4 i5 i6 i7 i8 i9 i10 i11 j0 l0 z4))) : m86 (rdC s z g nn r1 r2 r3 0 i3 i4 i5 i6 i7 i8 i9 i10 i11 j0 l0 z4) = some (rdC s z g nn r1 r2 r3 2 i6 i4 i5 i6 i7 i8 i9 i10 i11 j0 l0 z4) := by
  unfold m86
  rw [rdC_i8, hw, bs, m84_f, bs, if_neg ff]
theorem m86_yes (hz : gZ s 3 = z) (h10 : ¬ i10 = 2) (hw : m87 i8 (rdC s z g nn r1 r2 r3 i2 i3 i4 i5 i6 i7 i8 i9 i10 i11 j0 l0 z4) = some (true, (rdC s z g nn r1 r2 r3 i2 i3 i4 i5 i6 i7 i8 i9 i10 i11 j0 l0 z4))) : m86 (rdC s z g nn r1 r2 r3 i2 i3 i4 i5 i6 i7 i8 i9 i10 i11 j0 l0 z4) = some (rdC s z (addN g i8 i9 (nI (g 6).length) i11) nn (xsPush 4097 r1 (nI (g 0).length)) (xsPush 4097 r2 0) (xsPush 4097 r3 i10) i2 i3 i4 i5 i6 i7 i8 i9 (-1) i11 j0 l0 z4) := by
  unfold m86
  rw [rdC_i8, hw, bs, m84_t, bs, if_pos rfl, rdC_i10, if_neg h10]
  unfold m86_43 addN
  simp only [rdC_r1, rdC_r2, rdC_r3, rdC_i2, rdC_i3, rdC_i4, rdC_i5, rdC_i6, rdC_i7, rdC_i8, rdC_i9, rdC_i10, rdC_i11, rdC_j0, rdC_l0, rdC_z4, rdC_or0, rdC_oz3, rdC_gP, rdC_gN, rdC_sP, rdC_sN, rdC_sr1, rdC_sr2, rdC_sr3, rdC_si2, rdC_si3, rdC_si4, rdC_si5, rdC_si6, rdC_si7, rdC_si8, rdC_si9, rdC_si10, rdC_si11, rdC_sj0, rdC_sl0, rdC_sz4, hz]
/-- a ) of the whole -/
theorem m92_no (h5 : ¬ i5 = 3) : m92 (rdC s z g nn r1 r2 r3 0 i3 i4 i5 i6 i7 i8 i9 i10 i11 j0 l0 z4) = some (rdC s z g nn r1 r2 r3 2 i6 i4 i5 i6 i7 i8 i9 i10 i11 j0 l0 z4) := by
  unfold m92 m92_17
  rw [rdC_i5, if_neg h5, m84_f, bs, if_neg ff]
theorem m92_yes (hz : gZ s 3 = z) {c : Int32} {x y : Int32} (hne : ns ≠ []) (hn : ns.length < 2 ^ 30) : m92 (rdC s z g nn ((c :: ns).reverse) ((x :: ss).reverse) ((y :: ls).reverse) i2 i3 i4 3 i6 i7 i8 i9 i10 i11 j0 l0 z4) = some (rdC s z (bUp g 4 (xsSet (g 4) c (nI (g 0).length))) nn ns.reverse ss.reverse ls.reverse i2 i3 i4 3 i6 i7 i8 i9 i10 i11 j0 l0 z4) := by
  unfold m92 m92_17
  rw [rdC_i5, if_pos rfl, m84_t, bs, if_pos rfl]
  simp (disch := omega) only [rdC_r1, rdC_r2, rdC_r3, rdC_i2, rdC_i3, rdC_i4, rdC_i5, rdC_i6, rdC_i7, rdC_i8, rdC_i9, rdC_i10, rdC_i11, rdC_j0, rdC_l0, rdC_z4, rdC_or0, rdC_oz3, rdC_gP, rdC_gN, rdC_sP, rdC_sN, rdC_sr1, rdC_sr2, rdC_sr3, rdC_si2, rdC_si3, rdC_si4, rdC_si5, rdC_si6, rdC_si7, rdC_si8, rdC_si9, rdC_si10, rdC_si11, rdC_sj0, rdC_sl0, rdC_sz4, xsTop_r, xsPop_r, hz]
  rw [if_neg (by rw [List.length_reverse, eqL_0 (by omega)]; intro q; exact hne (List.length_eq_zero_iff.mp q))]
/-- the name of a definition that is used -/
theorem m95_yes (hz : gZ s 3 = z) : m95 (rdC s z g nn r1 r2 r3 i2 i3 i4 4 i6 i7 0 i9 i10 i11 j0 l0 z4) = some (rdC s z (bUp g 2 (xsSet (g 2) (xsTop r1) i6)) nn r1 r2 r3 i2 i3 i4 4 i6 i7 0 i9 i10 i11 j0 l0 z4) := by
  unfold m95
  rw [m90_y, bs, if_pos rfl]
  simp only [rdC_r1, rdC_r2, rdC_r3, rdC_i2, rdC_i3, rdC_i4, rdC_i5, rdC_i6, rdC_i7, rdC_i8, rdC_i9, rdC_i10, rdC_i11, rdC_j0, rdC_l0, rdC_z4, rdC_or0, rdC_oz3, rdC_gP, rdC_gN, rdC_sP, rdC_sN, rdC_sr1, rdC_sr2, rdC_sr3, rdC_si2, rdC_si3, rdC_si4, rdC_si5, rdC_si6, rdC_si7, rdC_si8, rdC_si9, rdC_si10, rdC_si11, rdC_sj0, rdC_sl0, rdC_sz4, hz]
theorem m95_no (h : ¬ (i5 = 4 ∧ i8 = 0)) : m95 (rdC s z g nn r1 r2 r3 0 i3 i4 i5 i6 i7 i8 i9 i10 i11 j0 l0 z4) = some (rdC s z g nn r1 r2 r3 2 i6 i4 i5 i6 i7 i8 i9 i10 i11 j0 l0 z4) := by
  unfold m95
  rw [m90_n h, bs, if_neg ff]
/-- the name of a variable -/
theorem m98_no {a : Int32} (h : ¬ (i5 = 4 ∧ i8 = 0)) : m98 a (rdC s z g nn r1 r2 r3 0 i3 i4 i5 i6 i7 i8 i9 i10 i11 j0 l0 z4) = some (rdC s z g nn r1 r2 r3 2 i6 i4 i5 i6 i7 i8 i9 i10 i11 j0 l0 z4) := by
  unfold m98
  rw [m90_n h, bs, if_neg ff]
theorem m98_go {a : Int32} (hl : l0.length = 24) (hm : m < 24) : m98 a (rdC s z g nn r1 r2 r3 i2 i3 i4 4 i6 i7 0 i9 i10 (nI m) j0 l0 z4) = if a = 84 then (if lix l0 j0 m = nI m - 1 then m98_68 a (rdC s z g nn r1 r2 r3 i2 i3 i4 4 i6 i7 0 i9 i10 (nI m) j0 l0 z4) else m98_57 a (lix l0 j0 m) (rdC s z g nn r1 r2 r3 i2 i3 i4 4 i6 i7 0 i9 i10 (nI m) j0 l0 z4)) else m98_57 a (lix l0 j0 m) (rdC s z g nn r1 r2 r3 i2 i3 i4 4 i6 i7 0 i9 i10 (nI m) j0 l0 z4) := by
  unfold m98 m98_22
  rw [m90_y, bs, if_pos rfl, rdC_i11, if_neg (by rw [geL_24 (by omega)]; omega), m84_t, bs, if_pos rfl, rdC_j0, m91_eq hl (by omega), bs, rdC_i11]
theorem m98_full {a : Int32} : m98 a (rdC s z g nn r1 r2 r3 0 i3 i4 4 i6 i7 0 i9 i10 (nI 24) j0 l0 z4) = some (rdC s z g nn r1 r2 r3 2 i6 i4 4 i6 i7 0 i9 i10 (nI 24) j0 l0 z4) := by
  unfold m98 m98_22
  rw [m90_y, bs, if_pos rfl, rdC_i11, if_pos (by decide), m84_f, bs, if_neg ff]
theorem m98_X (hz : gZ s 3 = z) (hl : l0.length = 24) (hm : m < 24) : m98 88 (rdC s z g nn r1 r2 r3 i2 i3 i4 4 i6 i7 0 i9 i10 (nI m) j0 l0 z4) = some (rdC s z (bUp g 2 (xsSet (g 2) (xsTop r1) i6)) nn r1 r2 r3 i2 i3 i4 4 i6 i7 0 i9 i10 (nI m) j0 l0 z4) := by
  rw [m98_go hl hm, if_neg (by decide)]
  unfold m98_57 m98_72 m98_73
  rw [if_neg (by decide), if_pos rfl]
  simp only [rdC_r1, rdC_r2, rdC_r3, rdC_i2, rdC_i3, rdC_i4, rdC_i5, rdC_i6, rdC_i7, rdC_i8, rdC_i9, rdC_i10, rdC_i11, rdC_j0, rdC_l0, rdC_z4, rdC_or0, rdC_oz3, rdC_gP, rdC_gN, rdC_sP, rdC_sN, rdC_sr1, rdC_sr2, rdC_sr3, rdC_si2, rdC_si3, rdC_si4, rdC_si5, rdC_si6, rdC_si7, rdC_si8, rdC_si9, rdC_si10, rdC_si11, rdC_sj0, rdC_sl0, rdC_sz4, hz]
theorem m98_V (hl : l0.length = 24) (hm : m < 24) : m98 86 (rdC s z g nn r1 r2 r3 i2 i3 i4 4 i6 i7 0 i9 i10 (nI m) j0 l0 z4) = some (rdC s z g nn r1 r2 r3 i2 i3 i4 4 i6 i7 0 i9 i10 (nI (m + 1)) j0 (l0.set m j0) z4) := by
  rw [m98_go hl hm, if_neg (by decide)]
  unfold m98_57 m98_72 m98_73 m98_114
  rw [if_neg (by decide), if_neg (by decide), if_neg ff, m84_t, bs, if_pos rfl, rdC_j0, m80_eq hl hm, bs]
theorem m98_T1 (hl : l0.length = 24) (hm : m < 24) (h : ¬ lix l0 j0 m = nI m - 1) : m98 84 (rdC s z g nn r1 r2 r3 i2 i3 i4 4 i6 i7 0 i9 i10 (nI m) j0 l0 z4) = some (rdC s z g nn r1 r2 r3 i2 i3 i4 4 i6 i7 0 i9 i10 (nI (m + 1)) j0 (l0.set m j0) z4) := by
  rw [m98_go hl hm, if_pos rfl, if_neg h]
  unfold m98_57 m98_72 m98_73 m98_114
  rw [if_neg (by decide), if_neg (by decide), if_neg ff, m84_t, bs, if_pos rfl, rdC_j0, m80_eq hl hm, bs]
theorem m98_T0 (hl : l0.length = 24) (hm : m < 24) (h : lix l0 j0 m = nI m - 1) : m98 84 (rdC s z g nn r1 r2 r3 0 i3 i4 4 i6 i7 0 i9 i10 (nI m) j0 l0 z4) = some (rdC s z g nn r1 r2 r3 2 i6 i4 4 i6 i7 0 i9 i10 (nI m) j0 l0 z4) := by
  rw [m98_go hl hm, if_pos rfl, if_pos h]
  unfold m98_68 m98_73 m98_114
  rw [if_neg (by decide), if_pos rfl, m84_f, bs, if_neg ff]
theorem m98_N1 (hl : l0.length = 24) (hm : m < 24) (h : lix l0 j0 m = -1) : m98 78 (rdC s z g nn r1 r2 r3 i2 i3 i4 4 i6 i7 0 i9 i10 (nI m) j0 l0 z4) = some (rdC s z g nn r1 r2 r3 i2 i3 i4 4 i6 i7 0 i9 i10 (nI (m + 1)) j0 (l0.set m j0) z4) := by
  rw [m98_go hl hm, if_neg (by decide), h]
  unfold m98_57 m98_72 m98_73 m98_114
  rw [if_pos rfl, if_pos rfl, if_neg (by decide), if_neg ff, m84_t, bs, if_pos rfl, rdC_j0, m80_eq hl hm, bs]
theorem m98_N0 (hl : l0.length = 24) (hm : m < 24) (h : ¬ lix l0 j0 m = -1) : m98 78 (rdC s z g nn r1 r2 r3 0 i3 i4 4 i6 i7 0 i9 i10 (nI m) j0 l0 z4) = some (rdC s z g nn r1 r2 r3 2 i6 i4 4 i6 i7 0 i9 i10 (nI m) j0 l0 z4) := by
  rw [m98_go hl hm, if_neg (by decide)]
  unfold m98_57 m98_68 m98_73 m98_114
  rw [if_pos rfl, if_neg h, if_neg (by decide), if_pos rfl, m84_f, bs, if_neg ff]
end RdC2
