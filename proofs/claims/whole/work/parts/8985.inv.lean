/-! the reference's loop over an expression, and what both hold in it -/
def LR (y : Nat) (S : xSt) : Option xSt := m166_19 (1000000 - y) S
section Inv0
variable {T U : List Int32} {n p m N D x y d F k : Nat} {S S2 q : xSt} {ww kk : Int32} {s : xSt} {z : Bool} {g : Nat → List Int32} {nn : List Int64} {r1 r2 r3 : List Int32} {i2 i3 i4 i5 i6 i7 i8 i9 i10 i11 : Int32} {j0 : Int64} {l0 : List Int64} {z4 : Bool} {t : xSt} {qr2 qr3 qr4 qr5 qr6 qr7 qr8 qr9 qr10 qr11 qr12 qr13 qr14 qr15 qr16 : List Int32} {qi21 qi22 qi23 qi24 qi25 qi26 qi27 qi28 qi29 qi30 : Int32} {qj0 : Int64} {ql0 ql1 ql2 ql3 : List Int64}
theorem lr_end (hy : y < 1000000) (h : gI S 29 ≤ 0 ∨ ¬ gI S 21 = 0) : LR y S = some S := by
  unfold LR
  rw [fuel_x hy]
  unfold m166_19
  by_cases c : gI S 29 ≤ 0
  · rw [if_pos c]
  · rw [if_neg c, if_neg (by rcases h with h | h; exact absurd h c; exact h)]
theorem lr_step (hy : y < 1000000) (hD : D < 33000) (l15 : qr15.length = 33000) (hw : qr15.getD D 0 = ww) (h10 : ¬ ww = 10) (h : m168 (rdR t qr2 qr3 qr4 qr5 qr6 qr7 qr8 qr9 qr10 qr11 qr12 qr13 qr14 qr15 qr16 0 qi22 qi23 qi24 qi25 qi26 qi27 qi28 (nI (D + 1)) qi30 qj0 ql0 ql1 ql2 ql3) = some q) : LR y (rdR t qr2 qr3 qr4 qr5 qr6 qr7 qr8 qr9 qr10 qr11 qr12 qr13 qr14 qr15 qr16 0 qi22 qi23 qi24 qi25 qi26 qi27 qi28 (nI (D + 1)) qi30 qj0 ql0 ql1 ql2 ql3) = LR (y + 1) q := by
  unfold LR
  rw [fuel_x hy]
  conv => lhs; unfold m166_19
  rw [rdR_i29, rdR_i21, rdR_r15, if_neg (show ¬ nI (D + 1) ≤ 0 by rw [leL_0 (by omega)]; omega), if_pos rfl, nI_pred, xsGet_d (by omega) (by omega), bs, hw, if_neg h10, h, bs]
theorem lr_enter (hy : y < 1000000) (hD : D < 33000) (l15 : qr15.length = 33000) (hw : qr15.getD D 0 = 10) : LR y (rdR t qr2 qr3 qr4 qr5 qr6 qr7 qr8 qr9 qr10 qr11 qr12 qr13 qr14 qr15 qr16 0 qi22 qi23 qi24 qi25 qi26 qi27 qi28 (nI (D + 1)) qi30 qj0 ql0 ql1 ql2 ql3) = LR (y + 1) (rdR t qr2 qr3 qr4 qr5 qr6 qr7 qr8 qr9 qr10 qr11 qr12 qr13 qr14 qr15 qr16 0 qi22 qi23 qi24 qi25 qi26 qi27 qi28 (nI D) (qi30 + 1) qj0 ql0 ql1 ql2 ql3) := by
  unfold LR
  rw [fuel_x hy]
  conv => lhs; unfold m166_19
  rw [rdR_i29, rdR_i21, rdR_r15, if_neg (show ¬ nI (D + 1) ≤ 0 by rw [leL_0 (by omega)]; omega), if_pos rfl, nI_pred, xsGet_d (by omega) (by omega), bs, hw, if_pos rfl]
  simp only [rdR_r2, rdR_r3, rdR_r4, rdR_r5, rdR_r6, rdR_r7, rdR_r8, rdR_r9, rdR_r10, rdR_r11, rdR_r12, rdR_r13, rdR_r14, rdR_r15, rdR_r16, rdR_i21, rdR_i22, rdR_i23, rdR_i24, rdR_i25, rdR_i26, rdR_i27, rdR_i28, rdR_i29, rdR_i30, rdR_j0, rdR_l0, rdR_l1, rdR_l2, rdR_l3, rdR_or1, rdR_oi20, rdR_P, rdR_N, rdR_Z, rdR_sr2, rdR_sr3, rdR_sr4, rdR_sr5, rdR_sr6, rdR_sr7, rdR_sr8, rdR_sr9, rdR_sr10, rdR_sr11, rdR_sr12, rdR_sr13, rdR_sr14, rdR_sr15, rdR_sr16, rdR_si21, rdR_si22, rdR_si23, rdR_si24, rdR_si25, rdR_si26, rdR_si27, rdR_si28, rdR_si29, rdR_si30, rdR_sj0, rdR_sl0, rdR_sl1, rdR_sl2, rdR_sl3]
theorem m168_go (hD : D < 33000) (l15 : qr15.length = 33000) (l16 : qr16.length = 33000) (hw : qr15.getD D 0 = ww) (hk : qr16.getD D 0 = kk) (h8 : ¬ ww = 8) (h150 : m150 (rdR t qr2 qr3 qr4 qr5 qr6 qr7 qr8 qr9 qr10 qr11 qr12 qr13 qr14 qr15 qr16 0 qi22 qi23 qi24 qi25 qi26 qi27 qi28 (nI D) qi30 qj0 ql0 ql1 ql2 ql3) = some q) : m168 (rdR t qr2 qr3 qr4 qr5 qr6 qr7 qr8 qr9 qr10 qr11 qr12 qr13 qr14 qr15 qr16 0 qi22 qi23 qi24 qi25 qi26 qi27 qi28 (nI (D + 1)) qi30 qj0 ql0 ql1 ql2 ql3) = if (gI q 21) ≤ 0 then (if ww = 1 ∨ ww = 2 then (if ww = 1 then m168_139 kk true q else m168_139 kk false q) else if ww = 3 then (if (gI q 24) = 1 then m168_160 true q else m168_160 false q) else if ww = 4 then (if (gI q 24) = 0 then m168_180 true q else m168_180 false q) else if ww = 5 then ((m160 q).bind fun q20 => (m158 q20.1 q20.2).bind fun q21 => if q21.1 = true then (m171 kk q21.2).bind fun q23 => (xsGet (gR q23 8) kk).bind fun v24 => if v24 = 11 then m168_225 kk q23 else (xsGet (gR q23 8) kk).bind fun v27 => if v27 = 21 then m168_225 kk q23 else (m174 q23).bind fun q29 => some q29 else some q21.2) else if ww = 6 then ((m160 q).bind fun q31 => if q31.1 = true then (xlGet (gL q31.2 2) kk).bind fun v33 => if (lg_cmp (gJ q31.2 0) v33) = 0 then m168_266 kk q31.2 else m168_267 kk true q31.2 else m168_266 kk q31.2) else if ww = 7 then (if (gI q 24) = 1 then some (sI q 29 ((gI q 29) - 1)) else (m167 7 kk q).bind fun q42 => (m169 true kk q42).bind fun q43 => some q43) else ((m160 q).bind fun q44 => (m158 q44.1 q44.2).bind fun q45 => if q45.1 = true then (m171 kk q45.2).bind fun q47 => some q47 else some q45.2)) else some q := by
  unfold m168
  rw [rdR_i29, rdR_r15, rdR_r16, nI_pred, xsGet_d (by omega) (by omega), bs, xsGet_d (by omega) (by omega), bs, hw, hk, if_neg h8, rdR_si29, h150, bs]
theorem m168_8 {k r : Nat} (hD : D < 33000) (l15 : qr15.length = 33000) (l16 : qr16.length = 33000) (hw : qr15.getD D 0 = 8) (hk : qr16.getD D 0 = nI k) (h8 : qr8.length = 8192) (hk2 : k < 8192) (hr : qr8.getD k 0 = nI r) (hr2 : r < 100) : m168 (rdR t qr2 qr3 qr4 qr5 qr6 qr7 qr8 qr9 qr10 qr11 qr12 qr13 qr14 qr15 qr16 0 qi22 qi23 qi24 qi25 qi26 qi27 qi28 (nI (D + 1)) qi30 qj0 ql0 ql1 ql2 ql3) = some (rdR t qr2 qr3 qr4 qr5 qr6 qr7 qr8 qr9 qr10 qr11 qr12 qr13 qr14 qr15 qr16 0 qi22 qi23 qi24 qi25 qi26 qi27 qi28 (nI D) (qi30 - (if kz r = true then 2 else 1)) qj0 ql0 ql1 ql2 ql3) := by
  unfold m168
  rw [rdR_i29, rdR_r15, rdR_r16, nI_pred, xsGet_d (by omega) (by omega), bs, xsGet_d (by omega) (by omega), bs, hw, hk, if_pos rfl, rdR_r8, xsGet_d (by omega) (by omega), bs, bs, hr, rdR_i30, rdR_si29, rdR_si30, rdR_si30]
  unfold kz
  by_cases c1 : r = 12
  · rw [if_pos (by rw [eqL_12 (by omega)]; exact c1), if_pos (by rw [c1]; rfl)]
  · rw [if_neg (by rw [eqL_12 (by omega)]; exact c1)]
    by_cases c2 : r = 22
    · rw [if_pos (by rw [eqL_22 (by omega)]; exact c2), if_pos (by rw [c2]; rfl)]
    · rw [if_neg (by rw [eqL_22 (by omega)]; exact c2), if_neg (by simp [c1, c2])]
/-- the end of the text where something is due -/
theorem m168_end {w : Nat} (hD : D < 33000) (l15 : qr15.length = 33000) (l16 : qr16.length = 33000) (hw : qr15.getD D 0 = nI w) (hk : qr16.getD D 0 = kk) (hww : w = 1 ∨ w = 2 ∨ w = 3 ∨ w = 4 ∨ w = 5 ∨ w = 6 ∨ w = 7 ∨ w = 9) (hn : gI t 20 = nI n) (a2 : qr2.length = 64) (a3 : qr3.length = 64) (a4 : qr4.length = 64) (a5 : qr5.length = 64) (a6 : qr6.length = 64) (a7 : qr7.length = 512) (b0 : ql0.length = 64) (b1 : ql1.length = 512) (h8 : qr8.length = 8192) (h9 : qr9.length = 8192) (h10 : qr10.length = 8192) (h11 : qr11.length = 8192) (h12 : qr12.length = 8192) (h13 : qr13.length = 8192) (h14 : qr14.length = 8192) (g2 : ql2.length = 8192) (g3 : ql3.length = 8192) (h150 : m150 (rdR t qr2 qr3 qr4 qr5 qr6 qr7 qr8 qr9 qr10 qr11 qr12 qr13 qr14 qr15 qr16 0 qi22 qi23 qi24 qi25 qi26 qi27 qi28 (nI D) qi30 qj0 ql0 ql1 ql2 ql3) = some (rdR t qr2 qr3 qr4 qr5 qr6 qr7 qr8 qr9 qr10 qr11 qr12 qr13 qr14 qr15 qr16 0 qi22 (nI n) 4 (nI n) qi26 qi27 qi28 (nI D) qi30 qj0 ql0 ql1 ql2 ql3)) : ∃ q, m168 (rdR t qr2 qr3 qr4 qr5 qr6 qr7 qr8 qr9 qr10 qr11 qr12 qr13 qr14 qr15 qr16 0 qi22 qi23 qi24 qi25 qi26 qi27 qi28 (nI (D + 1)) qi30 qj0 ql0 ql1 ql2 ql3) = some q ∧ RF t 3 (nI n) q := by
  have key : m168 (rdR t qr2 qr3 qr4 qr5 qr6 qr7 qr8 qr9 qr10 qr11 qr12 qr13 qr14 qr15 qr16 0 qi22 qi23 qi24 qi25 qi26 qi27 qi28 (nI (D + 1)) qi30 qj0 ql0 ql1 ql2 ql3) = some (rdR t qr2 qr3 qr4 qr5 qr6 qr7 qr8 qr9 qr10 qr11 qr12 qr13 qr14 qr15 qr16 3 (nI n) (nI n) 4 (nI n) qi26 qi27 qi28 (nI D) qi30 qj0 ql0 ql1 ql2 ql3) ∨ m168 (rdR t qr2 qr3 qr4 qr5 qr6 qr7 qr8 qr9 qr10 qr11 qr12 qr13 qr14 qr15 qr16 0 qi22 qi23 qi24 qi25 qi26 qi27 qi28 (nI (D + 1)) qi30 qj0 ql0 ql1 ql2 ql3) = some (rdR t qr2 qr3 qr4 qr5 qr6 qr7 qr8 qr9 qr10 qr11 qr12 qr13 qr14 (qr15.set D (nI 7)) (qr16.set D kk) 3 (nI n) (nI n) 4 (nI n) qi26 qi27 qi28 (nI (D + 1)) qi30 qj0 ql0 ql1 ql2 ql3) := by
    rw [m168_go hD l15 l16 hw hk (by rcases hww with rfl | rfl | rfl | rfl | rfl | rfl | rfl | rfl <;> decide) h150, rdR_i21, if_pos (show (0 : Int32) ≤ 0 by decide)]
    rcases hww with rfl | rfl | rfl | rfl | rfl | rfl | rfl | rfl
    · refine Or.inl ?_
      rw [if_pos (by decide), if_pos (by decide)]
      unfold m168_139
      rw [beg_end, bs, hn]
    · refine Or.inl ?_
      rw [if_pos (by decide), if_neg (by decide)]
      unfold m168_139
      rw [beg_end, bs, hn]
    · refine Or.inl ?_
      rw [if_neg (by decide), if_pos (by decide), rdR_i24, if_neg (by decide)]
      unfold m168_160
      rw [m158_end, bs, hn]
    · refine Or.inl ?_
      rw [if_neg (by decide), if_neg (by decide), if_pos (by decide), rdR_i24, if_neg (by decide)]
      unfold m168_180
      rw [m158_end, bs, hn]
    · refine Or.inl ?_
      rw [if_neg (by decide), if_neg (by decide), if_neg (by decide), if_pos (by decide), m160_no (by rw [rdR_i24]; decide), bs, m158_end, bs, if_neg ff, hn]
    · refine Or.inl ?_
      rw [if_neg (by decide), if_neg (by decide), if_neg (by decide), if_neg (by decide), if_pos (by decide), m160_no (by rw [rdR_i24]; decide), bs, if_neg ff]
      unfold m168_266 m168_267
      rw [m158_end, bs, if_neg ff, hn]
    · refine Or.inr ?_
      rw [if_neg (by decide), if_neg (by decide), if_neg (by decide), if_neg (by decide), if_neg (by decide), if_pos (by decide), rdR_i24, if_neg (by decide), show (7 : Int32) = nI 7 from rfl, m167_eq (by decide) kk hD l15 l16, bs, beg_end, bs, hn]
    · refine Or.inl ?_
      rw [if_neg (by decide), if_neg (by decide), if_neg (by decide), if_neg (by decide), if_neg (by decide), if_neg (by decide), m160_no (by rw [rdR_i24]; decide), bs, m158_end, bs, if_neg ff, hn]
  rcases key with key | key
  · exact ⟨_, key, rf_mk (by (try simp only [List.length_set]); first | assumption | omega) (by (try simp only [List.length_set]); first | assumption | omega) (by (try simp only [List.length_set]); first | assumption | omega) (by (try simp only [List.length_set]); first | assumption | omega) (by (try simp only [List.length_set]); first | assumption | omega) (by (try simp only [List.length_set]); first | assumption | omega) (by (try simp only [List.length_set]); first | assumption | omega) (by (try simp only [List.length_set]); first | assumption | omega) (by (try simp only [List.length_set]); first | assumption | omega) (by (try simp only [List.length_set]); first | assumption | omega) (by (try simp only [List.length_set]); first | assumption | omega) (by (try simp only [List.length_set]); first | assumption | omega) (by (try simp only [List.length_set]); first | assumption | omega) (by (try simp only [List.length_set]); first | assumption | omega) (by (try simp only [List.length_set]); first | assumption | omega) (by (try simp only [List.length_set]); first | assumption | omega) (by (try simp only [List.length_set]); first | assumption | omega) (by (try simp only [List.length_set]); first | assumption | omega) (by (try simp only [List.length_set]); first | assumption | omega)⟩
  · exact ⟨_, key, rf_mk (by (try simp only [List.length_set]); first | assumption | omega) (by (try simp only [List.length_set]); first | assumption | omega) (by (try simp only [List.length_set]); first | assumption | omega) (by (try simp only [List.length_set]); first | assumption | omega) (by (try simp only [List.length_set]); first | assumption | omega) (by (try simp only [List.length_set]); first | assumption | omega) (by (try simp only [List.length_set]); first | assumption | omega) (by (try simp only [List.length_set]); first | assumption | omega) (by (try simp only [List.length_set]); first | assumption | omega) (by (try simp only [List.length_set]); first | assumption | omega) (by (try simp only [List.length_set]); first | assumption | omega) (by (try simp only [List.length_set]); first | assumption | omega) (by (try simp only [List.length_set]); first | assumption | omega) (by (try simp only [List.length_set]); first | assumption | omega) (by (try simp only [List.length_set]); first | assumption | omega) (by (try simp only [List.length_set]); first | assumption | omega) (by (try simp only [List.length_set]); first | assumption | omega) (by (try simp only [List.length_set]); first | assumption | omega) (by (try simp only [List.length_set]); first | assumption | omega)⟩
/-- a token where one is due: both tell the same fault, or both have it -/
theorem step_tok {w : Nat} {C : xSt} {sy : Int32} (h : TR T U n) (hT : gR s 0 = T) (hU : gR t 1 = U) (hn : gI t 20 = nI n) (hx : x < 900000) (hy : y < 900000) (hp : p ≤ n) (hl0 : l0.length = 24) (hnn : nn.length = 64) (hD : D < 33000) (l15 : qr15.length = 33000) (l16 : qr16.length = 33000) (hw : qr15.getD D 0 = nI w) (hk : qr16.getD D 0 = kk) (hww : w = 1 ∨ w = 2 ∨ w = 3 ∨ w = 4 ∨ w = 5 ∨ w = 6 ∨ w = 7 ∨ w = 9) (a2 : qr2.length = 64) (a3 : qr3.length = 64) (a4 : qr4.length = 64) (a5 : qr5.length = 64) (a6 : qr6.length = 64) (a7 : qr7.length = 512) (b0 : ql0.length = 64) (b1 : ql1.length = 512) (h8 : qr8.length = 8192) (h9 : qr9.length = 8192) (h10 : qr10.length = 8192) (h11 : qr11.length = 8192) (h12 : qr12.length = 8192) (h13 : qr13.length = 8192) (h14 : qr14.length = 8192) (g2 : ql2.length = 8192) (g3 : ql3.length = 8192) (z4' : gZ C 4 = false) (z2' : gI C 2 = 0) (h78 : m78 C = some (sy, (rdC s z g nn r1 r2 r3 0 i3 (nI p) i5 i6 i7 i8 i9 i10 i11 j0 l0 false))) (n1 : sy ≠ 66) (n2 : sy ≠ 85) (n3 : sy ≠ 65) : Flt s t z (LR y (rdR t qr2 qr3 qr4 qr5 qr6 qr7 qr8 qr9 qr10 qr11 qr12 qr13 qr14 qr15 qr16 0 qi22 (nI p) qi24 qi25 qi26 qi27 qi28 (nI (D + 1)) qi30 qj0 ql0 ql1 ql2 ql3)) (LC x C) ∨ ∃ a e τ c x7 x26 j jr, p ≤ a ∧ a < e ∧ e ≤ n ∧ GT T U a e τ c j jr x7 x26 ∧ m81 sy (rdC s z g nn r1 r2 r3 0 i3 (nI p) i5 i6 i7 i8 i9 i10 i11 j0 l0 false) = some (true, (rdC s z g nn r1 r2 r3 0 i3 (nI e) (nI τ) (nI a) x7 (nI c) i9 i10 i11 j l0 false)) ∧ m150 (rdR t qr2 qr3 qr4 qr5 qr6 qr7 qr8 qr9 qr10 qr11 qr12 qr13 qr14 qr15 qr16 0 qi22 (nI p) qi24 qi25 qi26 qi27 qi28 (nI D) qi30 qj0 ql0 ql1 ql2 ql3) = some (rdR t qr2 qr3 qr4 qr5 qr6 qr7 qr8 qr9 qr10 qr11 qr12 qr13 qr14 qr15 qr16 0 qi22 (nI e) (nI (τ - 2)) (nI a) x26 qi27 qi28 (nI D) qi30 jr ql0 ql1 ql2 ql3) := by
  have h10' : ¬ nI w = 10 := by rcases hww with rfl | rfl | rfl | rfl | rfl | rfl | rfl | rfl <;> decide
  have h8' : ¬ nI w = 8 := by rcases hww with rfl | rfl | rfl | rfl | rfl | rfl | rfl | rfl <;> decide
  obtain ⟨a, e, p1, p2, p3, ht⟩ := tok (s := s) (z := z) (g := g) (nn := nn) (r1 := r1) (r2 := r2) (r3 := r3) (i2 := 0) (i3 := i3) (i5 := i5) (i6 := i6) (i7 := i7) (i8 := i8) (i9 := i9) (i10 := i10) (i11 := i11) (j0 := j0) (l0 := l0) (z4 := false) (t := t) (qr2 := qr2) (qr3 := qr3) (qr4 := qr4) (qr5 := qr5) (qr6 := qr6) (qr7 := qr7) (qr8 := qr8) (qr9 := qr9) (qr10 := qr10) (qr11 := qr11) (qr12 := qr12) (qr13 := qr13) (qr14 := qr14) (qr15 := qr15) (qr16 := qr16) (qi22 := qi22) (qi24 := qi24) (qi25 := qi25) (qi26 := qi26) (qi27 := qi27) (qi28 := qi28) (qi29 := nI D) (qi30 := qi30) (qj0 := qj0) (ql0 := ql0) (ql1 := ql1) (ql2 := ql2) (ql3 := ql3) (p := p) h hT hU hn hp
  rcases ht with ⟨f1, f2, f3⟩ | ⟨f1, d', y', k, q, pe, f2, f3⟩ | ⟨f1, τ, c, y7, y26, yj, yr, hG, f2, f3⟩
  · left
    obtain ⟨q, q1, q2⟩ := m168_end (t := t) (qr2 := qr2) (qr3 := qr3) (qr4 := qr4) (qr5 := qr5) (qr6 := qr6) (qr7 := qr7) (qr8 := qr8) (qr9 := qr9) (qr10 := qr10) (qr11 := qr11) (qr12 := qr12) (qr13 := qr13) (qr14 := qr14) (qr15 := qr15) (qr16 := qr16) (qi22 := qi22) (qi23 := nI p) (qi24 := qi24) (qi25 := qi25) (qi26 := qi26) (qi27 := qi27) (qi28 := qi28) (qi30 := qi30) (qj0 := qj0) (ql0 := ql0) (ql1 := ql1) (ql2 := ql2) (ql3 := ql3) (kk := kk) (n := n) hD l15 l16 hw hk hww hn a2 a3 a4 a5 a6 a7 b0 b1 h8 h9 h10 h11 h12 h13 h14 g2 g3 f3
    have hc := lc_early (x := x) (by omega) z4' z2' h78 n1 n2 n3 f2
    have hr : LR y (rdR t qr2 qr3 qr4 qr5 qr6 qr7 qr8 qr9 qr10 qr11 qr12 qr13 qr14 qr15 qr16 0 qi22 (nI p) qi24 qi25 qi26 qi27 qi28 (nI (D + 1)) qi30 qj0 ql0 ql1 ql2 ql3) = some q := by
      rw [lr_step (by omega) hD l15 hw h10' q1]
      obtain ⟨_, _, _, _, _, _, _, _, _, _, _, _, _, _, _, _, _, _, _, _, _, _, _, _, _, _, _, _, rfl, -⟩ := q2
      exact lr_end (by omega) (Or.inr (by rw [rdR_i21]; decide))
    exact flt_mk (Or.inr (Or.inr rfl)) hr hc q2 (cf_mk hl0 hnn)
  · left
    have hc := lc_bad (x := x) (by omega) z4' z2' h78 n1 n2 f2
    have hr : LR y (rdR t qr2 qr3 qr4 qr5 qr6 qr7 qr8 qr9 qr10 qr11 qr12 qr13 qr14 qr15 qr16 0 qi22 (nI p) qi24 qi25 qi26 qi27 qi28 (nI (D + 1)) qi30 qj0 ql0 ql1 ql2 ql3) = some (rdR t qr2 qr3 qr4 qr5 qr6 qr7 qr8 qr9 qr10 qr11 qr12 qr13 qr14 qr15 qr16 1 (nI a) pe k (nI a) y' qi27 qi28 (nI D) qi30 q ql0 ql1 ql2 ql3) := by
      rw [lr_step (q := (rdR t qr2 qr3 qr4 qr5 qr6 qr7 qr8 qr9 qr10 qr11 qr12 qr13 qr14 qr15 qr16 1 (nI a) pe k (nI a) y' qi27 qi28 (nI D) qi30 q ql0 ql1 ql2 ql3)) (by omega) hD l15 hw h10' (by rw [m168_go hD l15 l16 hw hk h8' f3, rdR_i21, if_neg (by decide)])]
      exact lr_end (by omega) (Or.inr (by rw [rdR_i21]; decide))
    exact flt_mk (Or.inl rfl) hr hc (rf_mk (by (try simp only [List.length_set]); first | assumption | omega) (by (try simp only [List.length_set]); first | assumption | omega) (by (try simp only [List.length_set]); first | assumption | omega) (by (try simp only [List.length_set]); first | assumption | omega) (by (try simp only [List.length_set]); first | assumption | omega) (by (try simp only [List.length_set]); first | assumption | omega) (by (try simp only [List.length_set]); first | assumption | omega) (by (try simp only [List.length_set]); first | assumption | omega) (by (try simp only [List.length_set]); first | assumption | omega) (by (try simp only [List.length_set]); first | assumption | omega) (by (try simp only [List.length_set]); first | assumption | omega) (by (try simp only [List.length_set]); first | assumption | omega) (by (try simp only [List.length_set]); first | assumption | omega) (by (try simp only [List.length_set]); first | assumption | omega) (by (try simp only [List.length_set]); first | assumption | omega) (by (try simp only [List.length_set]); first | assumption | omega) (by (try simp only [List.length_set]); first | assumption | omega) (by (try simp only [List.length_set]); first | assumption | omega) (by (try simp only [List.length_set]); first | assumption | omega)) (cf_mk hl0 hnn)
  · exact Or.inr ⟨a, e, τ, c, y7, y26, yj, yr, p1, f1, p3, hG, take_ok f2 (tau_ne hG.1).2.1 (tau_ne hG.1).2.2, f3⟩
end Inv0
