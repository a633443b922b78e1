/-! blanks, words, names -/
section Lex1
variable {T U : List Int32} {n : Nat} {s t : xSt}
theorem lex_skip (h : TR T U n) (hT : gR s 0 = T) (hU : gR t 1 = U) (hn : gI t 20 = nI n) : ∀ (f p : Nat), p ≤ n → n < p + f → ∃ p', p ≤ p' ∧ p' ≤ n ∧ (p' < n → isB (T.getD p' 0) = false) ∧ m40_0 f (sI s 4 (nI p)) = some (sI s 4 (nI p')) ∧ m150_0 f (sI t 23 (nI p)) = m150_52 (sI t 23 (nI p')) := by
  obtain ⟨h1, h2, h3, h4⟩ := h
  intro f
  induction f with
  | zero => intro p hp hf; omega
  | succ f ih =>
    intro p hp hf
    unfold m40_0 m150_0
    simp (disch := omega) only [gR_sR, gR_sI, gR_sJ, gR_sL, gR_sZ, gR_sP, gR_sN, gI_sR, gI_sI, gI_sJ, gI_sL, gI_sZ, gI_sP, gI_sN, gJ_sR, gJ_sI, gJ_sJ, gJ_sL, gJ_sZ, gJ_sP, gJ_sN, gL_sR, gL_sI, gL_sJ, gL_sL, gL_sZ, gL_sP, gL_sN, gZ_sR, gZ_sI, gZ_sJ, gZ_sL, gZ_sZ, gZ_sP, gZ_sN, gP_sR, gP_sI, gP_sJ, gP_sL, gP_sZ, gP_sN, gN_sR, gN_sI, gN_sJ, gN_sL, gN_sZ, gN_sP, gP_sP, gP_sQ, gN_sN, gN_sM, reduceIte, Nat.reduceEqDiff, hT, hU, hn, h1, eqL_0, eqL_1, eqL_2, eqL_3, eqL_4, eqL_5, eqL_6, eqL_7, eqL_8, eqL_9, eqL_10, eqL_11, eqL_12, eqL_13, eqL_14, eqL_15, eqL_16, eqL_17, eqL_18, eqL_19, eqL_20, eqL_21, eqL_22, eqL_23, eqL_24, eqL_25, eqL_26, eqL_27, eqL_28, eqL_29, eqL_30, eqL_31, eqL_32, leL_0, geL_0, ltL_0, gtL_0, leL_1, geL_1, ltL_1, gtL_1, leL_2, geL_2, ltL_2, gtL_2, leL_3, geL_3, ltL_3, gtL_3, leL_8, geL_8, ltL_8, gtL_8, leL_9, geL_9, ltL_9, gtL_9, leL_10, geL_10, ltL_10, gtL_10, leL_11, geL_11, ltL_11, gtL_11, leL_12, geL_12, ltL_12, gtL_12, leL_17, geL_17, ltL_17, gtL_17, leL_18, geL_18, ltL_18, gtL_18, leL_23, geL_23, ltL_23, gtL_23, leL_24, geL_24, ltL_24, gtL_24, leL_26, geL_26, ltL_26, gtL_26, leL_31, geL_31, ltL_31, gtL_31, leL_32, geL_32, ltL_32, gtL_32, leL_48, geL_48, ltL_48, gtL_48, leL_57, geL_57, ltL_57, gtL_57, leL_63, geL_63, ltL_63, gtL_63, leL_64, geL_64, ltL_64, gtL_64, leL_97, geL_97, ltL_97, gtL_97, leL_122, geL_122, ltL_122, gtL_122, leL_4096, geL_4096, ltL_4096, gtL_4096, leL_6000, geL_6000, ltL_6000, gtL_6000, leL_8192, geL_8192, ltL_8192, gtL_8192, leL_1000000, geL_1000000, ltL_1000000, gtL_1000000, eqN, leN, ltN, nI_ne1, m1_ne]
    by_cases z : n ≤ p
    · rw [if_pos z, if_pos z]
      exact ⟨p, Nat.le_refl _, hp, fun hlt => by omega, rfl, rfl⟩
    · have e := h4 p (by omega)
      have c1 : (U.getD p 0 = 32) = (T.getD p 0 = 32) := tcr_c e (by decide) (by decide)
      have c2 : (U.getD p 0 = 10) = (T.getD p 0 = 10) := tcr_c e (by decide) (by decide)
      rw [if_neg z, if_neg z, xsAt_n (by omega), xsGet_d (by omega) (by omega), bs, bs]
      simp only [c1, c2, sI_sI, nI_1]
      by_cases b1 : T.getD p 0 = 32
      · rw [if_pos b1, if_pos b1]
        obtain ⟨p', i1, i2, i3, i4, i5⟩ := ih (p + 1) (by omega) (by omega)
        exact ⟨p', by omega, i2, i3, i4, i5⟩
      · rw [if_neg b1, if_neg b1]
        by_cases b2 : T.getD p 0 = 10
        · rw [if_pos b2, if_pos b2]
          obtain ⟨p', i1, i2, i3, i4, i5⟩ := ih (p + 1) (by omega) (by omega)
          exact ⟨p', by omega, i2, i3, i4, i5⟩
        · rw [if_neg b2, if_neg b2]
          exact ⟨p, Nat.le_refl _, hp, fun _ => by unfold isB; rw [decide_eq_false b1, decide_eq_false b2]; rfl, rfl, rfl⟩
def wtail (q : xSt) : Option xSt := if (gI q 23) = (gI q 25) then (m154 1 (gI q 25) q).bind fun q12 => some q12 else (xsGet (gR q 1) (gI q 25)).bind fun v13 => (m152 v13 q).bind fun q14 => if q14.1 = true then (m155 q14.2).bind fun q16 => some q16 else (m156 q14.2).bind fun q17 => some q17
theorem lex_word (h : TR T U n) (hT : gR s 0 = T) (hU : gR t 1 = U) (hn : gI t 20 = nI n) : ∀ (f p : Nat), p ≤ n → n < p + f → ∃ e, p ≤ e ∧ e ≤ n ∧ (∀ i, p ≤ i → i < e → isW (T.getD i 0) = true) ∧ (e < n → isW (T.getD e 0) = false) ∧ m43_0 f (sI s 4 (nI p)) = m43_44 (sI s 4 (nI e)) ∧ m150_139 f (sI t 23 (nI p)) = wtail (sI t 23 (nI e)) := by
  have hh := h
  obtain ⟨h1, h2, h3, h4⟩ := h
  intro f
  induction f with
  | zero => intro p hp hf; omega
  | succ f ih =>
    intro p hp hf
    unfold m43_0 m150_139
    simp (disch := omega) only [gR_sR, gR_sI, gR_sJ, gR_sL, gR_sZ, gR_sP, gR_sN, gI_sR, gI_sI, gI_sJ, gI_sL, gI_sZ, gI_sP, gI_sN, gJ_sR, gJ_sI, gJ_sJ, gJ_sL, gJ_sZ, gJ_sP, gJ_sN, gL_sR, gL_sI, gL_sJ, gL_sL, gL_sZ, gL_sP, gL_sN, gZ_sR, gZ_sI, gZ_sJ, gZ_sL, gZ_sZ, gZ_sP, gZ_sN, gP_sR, gP_sI, gP_sJ, gP_sL, gP_sZ, gP_sN, gN_sR, gN_sI, gN_sJ, gN_sL, gN_sZ, gN_sP, gP_sP, gP_sQ, gN_sN, gN_sM, reduceIte, Nat.reduceEqDiff, hT, h1, eqL_0, eqL_1, eqL_2, eqL_3, eqL_4, eqL_5, eqL_6, eqL_7, eqL_8, eqL_9, eqL_10, eqL_11, eqL_12, eqL_13, eqL_14, eqL_15, eqL_16, eqL_17, eqL_18, eqL_19, eqL_20, eqL_21, eqL_22, eqL_23, eqL_24, eqL_25, eqL_26, eqL_27, eqL_28, eqL_29, eqL_30, eqL_31, eqL_32, leL_0, geL_0, ltL_0, gtL_0, leL_1, geL_1, ltL_1, gtL_1, leL_2, geL_2, ltL_2, gtL_2, leL_3, geL_3, ltL_3, gtL_3, leL_8, geL_8, ltL_8, gtL_8, leL_9, geL_9, ltL_9, gtL_9, leL_10, geL_10, ltL_10, gtL_10, leL_11, geL_11, ltL_11, gtL_11, leL_12, geL_12, ltL_12, gtL_12, leL_17, geL_17, ltL_17, gtL_17, leL_18, geL_18, ltL_18, gtL_18, leL_23, geL_23, ltL_23, gtL_23, leL_24, geL_24, ltL_24, gtL_24, leL_26, geL_26, ltL_26, gtL_26, leL_31, geL_31, ltL_31, gtL_31, leL_32, geL_32, ltL_32, gtL_32, leL_48, geL_48, ltL_48, gtL_48, leL_57, geL_57, ltL_57, gtL_57, leL_63, geL_63, ltL_63, gtL_63, leL_64, geL_64, ltL_64, gtL_64, leL_97, geL_97, ltL_97, gtL_97, leL_122, geL_122, ltL_122, gtL_122, leL_4096, geL_4096, ltL_4096, gtL_4096, leL_6000, geL_6000, ltL_6000, gtL_6000, leL_8192, geL_8192, ltL_8192, gtL_8192, leL_1000000, geL_1000000, ltL_1000000, gtL_1000000, eqN, leN, ltN, nI_ne1, m1_ne]
    rw [m151_eq hh (t := sI t 23 (nI p)) hU hn (by omega), bs]
    by_cases z : n ≤ p
    · rw [if_pos z, decide_eq_false (by omega), Bool.false_and, if_neg ff]
      exact ⟨p, Nat.le_refl _, hp, fun i a b => by omega, fun hlt => by omega, rfl, rfl⟩
    · rw [if_neg z, decide_eq_true (by omega), Bool.true_and, m41_eq, bs, xsAt_n (by omega)]
      cases b : isW (T.getD p 0)
      · rw [if_neg ff, if_neg ff]
        exact ⟨p, Nat.le_refl _, hp, fun i a b => by omega, fun _ => b, rfl, rfl⟩
      · rw [if_pos rfl, if_pos rfl]
        simp only [gR_sR, gR_sI, gR_sJ, gR_sL, gR_sZ, gR_sP, gR_sN, gI_sR, gI_sI, gI_sJ, gI_sL, gI_sZ, gI_sP, gI_sN, gJ_sR, gJ_sI, gJ_sJ, gJ_sL, gJ_sZ, gJ_sP, gJ_sN, gL_sR, gL_sI, gL_sJ, gL_sL, gL_sZ, gL_sP, gL_sN, gZ_sR, gZ_sI, gZ_sJ, gZ_sL, gZ_sZ, gZ_sP, gZ_sN, gP_sR, gP_sI, gP_sJ, gP_sL, gP_sZ, gP_sN, gN_sR, gN_sI, gN_sJ, gN_sL, gN_sZ, gN_sP, gP_sP, gP_sQ, gN_sN, gN_sM, reduceIte, Nat.reduceEqDiff, sI_sI, nI_1]
        obtain ⟨e, i1, i2, i3, i4, i5, i6⟩ := ih (p + 1) (by omega) (by omega)
        refine ⟨e, by omega, i2, fun i a c => ?_, i4, i5, i6⟩
        by_cases y : i = p
        · rw [y]; exact b
        · exact i3 i (by omega) c
def allL (T : List Int32) (i : Nat) : Nat → Bool
  | 0 => true
  | m + 1 => isL (T.getD i 0) && allL T (i + 1) m
def encF (T : List Int32) (acc : Int64) (i : Nat) : Nat → Int64
  | 0 => acc
  | m + 1 => encF T (acc * 32 + Int32.toInt64 (T.getD i 0 - 97 + 1)) (i + 1) m
theorem lex_isName {a e : Nat} (hT : gR s 0 = T) (he : gI s 4 = nI e) (ha : gI s 6 = nI a) (hae : a ≤ e) (hle : e < 2 ^ 20) : ∀ (f i : Nat), i ≤ e → e < i + f → m44_5 f (nI i) s = some (allL T i (e - i) && decide (e - a ≤ 12), s) := by
  intro f
  induction f with
  | zero => intro i h1 h2; omega
  | succ f ih =>
    intro i h1 h2
    unfold m44_5
    rw [he, ha, nI_subI hae, hT]
    simp (disch := omega) only [eqL_0, eqL_1, eqL_2, eqL_3, eqL_4, eqL_5, eqL_6, eqL_7, eqL_8, eqL_9, eqL_10, eqL_11, eqL_12, eqL_13, eqL_14, eqL_15, eqL_16, eqL_17, eqL_18, eqL_19, eqL_20, eqL_21, eqL_22, eqL_23, eqL_24, eqL_25, eqL_26, eqL_27, eqL_28, eqL_29, eqL_30, eqL_31, eqL_32, leL_0, geL_0, ltL_0, gtL_0, leL_1, geL_1, ltL_1, gtL_1, leL_2, geL_2, ltL_2, gtL_2, leL_3, geL_3, ltL_3, gtL_3, leL_8, geL_8, ltL_8, gtL_8, leL_9, geL_9, ltL_9, gtL_9, leL_10, geL_10, ltL_10, gtL_10, leL_11, geL_11, ltL_11, gtL_11, leL_12, geL_12, ltL_12, gtL_12, leL_17, geL_17, ltL_17, gtL_17, leL_18, geL_18, ltL_18, gtL_18, leL_23, geL_23, ltL_23, gtL_23, leL_24, geL_24, ltL_24, gtL_24, leL_26, geL_26, ltL_26, gtL_26, leL_31, geL_31, ltL_31, gtL_31, leL_32, geL_32, ltL_32, gtL_32, leL_48, geL_48, ltL_48, gtL_48, leL_57, geL_57, ltL_57, gtL_57, leL_63, geL_63, ltL_63, gtL_63, leL_64, geL_64, ltL_64, gtL_64, leL_97, geL_97, ltL_97, gtL_97, leL_122, geL_122, ltL_122, gtL_122, leL_4096, geL_4096, ltL_4096, gtL_4096, leL_6000, geL_6000, ltL_6000, gtL_6000, leL_8192, geL_8192, ltL_8192, gtL_8192, leL_1000000, geL_1000000, ltL_1000000, gtL_1000000, eqN, leN, ltN, nI_ne1, m1_ne]
    by_cases z : e ≤ i
    · rw [if_pos z, show e - i = 0 by omega]
      show _ = some (true && decide (e - a ≤ 12), s)
      by_cases y : 12 < e - a
      · rw [if_pos y, decide_eq_false (by omega)]; rfl
      · rw [if_neg y, decide_eq_true (by omega)]; rfl
    · rw [if_neg z, m38_eq, bs, xsAt_n (by omega), show e - i = e - (i + 1) + 1 by omega]
      show _ = some (isL (T.getD i 0) && allL T (i + 1) (e - (i + 1)) && decide (e - a ≤ 12), s)
      cases b : isL (T.getD i 0)
      · rw [if_neg ff]; rfl
      · rw [if_pos rfl, nI_1, ih (i + 1) (by omega) (by omega), Bool.true_and]
theorem lex_nameAt {a e : Nat} (hT : gR s 0 = T) (hae : a ≤ e) (hle : e < 2 ^ 20) (h12 : e ≤ a + 12) (hend : e = a + 12 ∨ isL (T.getD e 0) = false) : ∀ (f i : Nat) (acc : Int64), i ≤ e → e < i + f → allL T i (e - i) = true → m37_5 f (nI a) acc (nI i) s = some (encF T acc i (e - i), s) := by
  intro f
  induction f with
  | zero => intro i acc h1 h2; omega
  | succ f ih =>
    intro i acc h1 h2 h3
    unfold m37_5
    rw [hT, show nI a + 12 = nI (a + 12) from nI_add a 12]
    simp (disch := omega) only [eqL_0, eqL_1, eqL_2, eqL_3, eqL_4, eqL_5, eqL_6, eqL_7, eqL_8, eqL_9, eqL_10, eqL_11, eqL_12, eqL_13, eqL_14, eqL_15, eqL_16, eqL_17, eqL_18, eqL_19, eqL_20, eqL_21, eqL_22, eqL_23, eqL_24, eqL_25, eqL_26, eqL_27, eqL_28, eqL_29, eqL_30, eqL_31, eqL_32, leL_0, geL_0, ltL_0, gtL_0, leL_1, geL_1, ltL_1, gtL_1, leL_2, geL_2, ltL_2, gtL_2, leL_3, geL_3, ltL_3, gtL_3, leL_8, geL_8, ltL_8, gtL_8, leL_9, geL_9, ltL_9, gtL_9, leL_10, geL_10, ltL_10, gtL_10, leL_11, geL_11, ltL_11, gtL_11, leL_12, geL_12, ltL_12, gtL_12, leL_17, geL_17, ltL_17, gtL_17, leL_18, geL_18, ltL_18, gtL_18, leL_23, geL_23, ltL_23, gtL_23, leL_24, geL_24, ltL_24, gtL_24, leL_26, geL_26, ltL_26, gtL_26, leL_31, geL_31, ltL_31, gtL_31, leL_32, geL_32, ltL_32, gtL_32, leL_48, geL_48, ltL_48, gtL_48, leL_57, geL_57, ltL_57, gtL_57, leL_63, geL_63, ltL_63, gtL_63, leL_64, geL_64, ltL_64, gtL_64, leL_97, geL_97, ltL_97, gtL_97, leL_122, geL_122, ltL_122, gtL_122, leL_4096, geL_4096, ltL_4096, gtL_4096, leL_6000, geL_6000, ltL_6000, gtL_6000, leL_8192, geL_8192, ltL_8192, gtL_8192, leL_1000000, geL_1000000, ltL_1000000, gtL_1000000, eqN, leN, ltN, nI_ne1, m1_ne]
    by_cases z : e ≤ i
    · obtain rfl : i = e := by omega
      rw [Nat.sub_self]
      show _ = some (acc, s)
      by_cases y : a + 12 ≤ i
      · rw [if_pos y]
      · rw [if_neg y, m38_eq, bs, xsAt_n (by omega)]
        rcases hend with h | h
        · omega
        · rw [h, if_neg ff]
    · rw [show e - i = e - (i + 1) + 1 by omega] at h3 ⊢
      have h3' : (isL (T.getD i 0) && allL T (i + 1) (e - (i + 1))) = true := h3
      rw [Bool.and_eq_true] at h3'
      rw [if_neg (by omega), m38_eq, bs, xsAt_n (by omega), h3'.1, if_pos rfl, hT, xsAt_n (by omega), nI_1, ih (i + 1) _ (by omega) (by omega) h3'.2]
      rfl
end Lex1
