/-! names and numbers, in both -/
theorem lN_toI {n : Nat} (h : n < 2 ^ 62) : (lN n).toInt = (n : Int) := lg_ofNat_toInt (by omega)
theorem lN_leB {a b : Nat} (ha : a < 2 ^ 62) (hb : b < 2 ^ 62) : lN a ≤ lN b ↔ a ≤ b := by
  rw [Int64.le_iff_toInt_le, lN_toI ha, lN_toI hb]
  omega
theorem isD_dig {a : Int32} (h : isD a = true) : ∃ d, d ≤ 9 ∧ Int32.toInt64 (a - 48) = lN d ∧ a = nI (d + 48) := by
  unfold isD at h
  rw [Bool.and_eq_true, decide_eq_true_eq, decide_eq_true_eq] at h
  obtain ⟨c, hc, rfl⟩ := iv_n (a := a) (i32_nlt.mpr (i32_le_trans (by decide : (0 : Int32) ≤ 48) h.1))
  have h1 := h.1
  have h2 := h.2
  rw [geL_48 hc] at h1
  rw [leL_57 hc] at h2
  have e : nI c - 48 = nI (c - 48) := nI_subI h1
  exact ⟨c - 48, by omega, by rw [e, nI_l (by omega)], by rw [show c - 48 + 48 = c by omega]⟩
def dgt (a : Int32) : Nat := a.toNatClampNeg - 48
theorem dgt_ok {a : Int32} (h : isD a = true) : dgt a ≤ 9 ∧ Int32.toInt64 (a - 48) = lN (dgt a) := by
  obtain ⟨d, h1, h2, h3⟩ := isD_dig h
  have e : dgt a = d := by
    unfold dgt
    rw [h3, nI_clamp (by omega)]
    omega
  rw [e]
  exact ⟨h1, h2⟩
def allD (T : List Int32) (i : Nat) : Nat → Bool
  | 0 => true
  | m + 1 => isD (T.getD i 0) && allD T (i + 1) m
def dval (T : List Int32) (v i : Nat) : Nat → Nat
  | 0 => v
  | m + 1 => dval T (v * 10 + dgt (T.getD i 0)) (i + 1) m
theorem dval_ge (T : List Int32) : ∀ (m v i : Nat), v ≤ dval T v i m := by
  intro m
  induction m with
  | zero => intro v i; exact Nat.le_refl _
  | succ m ih =>
    intro v i
    have := ih (v * 10 + dgt (T.getD i 0)) (i + 1)
    show v ≤ dval T (v * 10 + dgt (T.getD i 0)) (i + 1) m
    omega
section Lex2
variable {T U : List Int32} {n : Nat} {s t : xSt}
theorem lex_readName (h : TR T U n) (hU : gR t 1 = U) {e : Nat} (he : gI t 23 = nI e) (hen : e ≤ n) : ∀ (f i : Nat) (g : Bool) (acc : Int64), i ≤ e → e < i + f → ∃ X, ((g && allL T i (e - i)) = true → X = encF T acc i (e - i)) ∧ m155_35 f g (nI i) (sJ t 0 acc) = if (g && allL T i (e - i)) = true then some (sJ t 0 X) else m154 1 (gI t 25) (sJ t 0 X) := by
  obtain ⟨h1, h2, h3, h4⟩ := h
  intro f
  induction f with
  | zero => intro i g acc a b; omega
  | succ f ih =>
    intro i g acc a b
    unfold m155_35
    simp (disch := omega) only [gR_sR, gR_sI, gR_sJ, gR_sL, gR_sZ, gR_sP, gR_sN, gI_sR, gI_sI, gI_sJ, gI_sL, gI_sZ, gI_sP, gI_sN, gJ_sR, gJ_sI, gJ_sJ, gJ_sL, gJ_sZ, gJ_sP, gJ_sN, gL_sR, gL_sI, gL_sJ, gL_sL, gL_sZ, gL_sP, gL_sN, gZ_sR, gZ_sI, gZ_sJ, gZ_sL, gZ_sZ, gZ_sP, gZ_sN, gP_sR, gP_sI, gP_sJ, gP_sL, gP_sZ, gP_sN, gN_sR, gN_sI, gN_sJ, gN_sL, gN_sZ, gN_sP, gP_sP, gP_sQ, gN_sN, gN_sM, reduceIte, Nat.reduceEqDiff, he, hU, eqL_0, eqL_1, eqL_2, eqL_3, eqL_4, eqL_5, eqL_6, eqL_7, eqL_8, eqL_9, eqL_10, eqL_11, eqL_12, eqL_13, eqL_14, eqL_15, eqL_16, eqL_17, eqL_18, eqL_19, eqL_20, eqL_21, eqL_22, eqL_23, eqL_24, eqL_25, eqL_26, eqL_27, eqL_28, eqL_29, eqL_30, eqL_31, eqL_32, leL_0, geL_0, ltL_0, gtL_0, leL_1, geL_1, ltL_1, gtL_1, leL_2, geL_2, ltL_2, gtL_2, leL_3, geL_3, ltL_3, gtL_3, leL_8, geL_8, ltL_8, gtL_8, leL_9, geL_9, ltL_9, gtL_9, leL_10, geL_10, ltL_10, gtL_10, leL_11, geL_11, ltL_11, gtL_11, leL_12, geL_12, ltL_12, gtL_12, leL_17, geL_17, ltL_17, gtL_17, leL_18, geL_18, ltL_18, gtL_18, leL_23, geL_23, ltL_23, gtL_23, leL_24, geL_24, ltL_24, gtL_24, leL_26, geL_26, ltL_26, gtL_26, leL_31, geL_31, ltL_31, gtL_31, leL_32, geL_32, ltL_32, gtL_32, leL_48, geL_48, ltL_48, gtL_48, leL_57, geL_57, ltL_57, gtL_57, leL_63, geL_63, ltL_63, gtL_63, leL_64, geL_64, ltL_64, gtL_64, leL_97, geL_97, ltL_97, gtL_97, leL_122, geL_122, ltL_122, gtL_122, leL_4096, geL_4096, ltL_4096, gtL_4096, leL_6000, geL_6000, ltL_6000, gtL_6000, leL_8192, geL_8192, ltL_8192, gtL_8192, leL_1000000, geL_1000000, ltL_1000000, gtL_1000000, eqN, leN, ltN, nI_ne1, m1_ne]
    by_cases z : e ≤ i
    · rw [if_pos z, show e - i = 0 by omega]
      refine ⟨acc, fun _ => rfl, ?_⟩
      cases g
      · rw [if_neg ff, bind_id]
        rfl
      · rfl
    · have hi := h4 i (by omega)
      rw [if_neg z, show e - i = e - (i + 1) + 1 by omega]
      have hK : ∀ g' : Bool, ∃ X, ((g' && allL T (i + 1) (e - (i + 1))) = true → X = encF T (32 * acc + Int32.toInt64 (U.getD i 0 - 97 + 1)) (i + 1) (e - (i + 1))) ∧ m155_64 (m155_35 f) (nI i) g' (sJ t 0 acc) = if (g' && allL T (i + 1) (e - (i + 1))) = true then some (sJ t 0 X) else m154 1 (gI t 25) (sJ t 0 X) := by
        intro g'
        obtain ⟨X, x1, x2⟩ := ih (i + 1) g' (32 * acc + Int32.toInt64 (U.getD i 0 - 97 + 1)) (by omega) (by omega)
        refine ⟨X, x1, ?_⟩
        unfold m155_64
        simp only [gR_sR, gR_sI, gR_sJ, gR_sL, gR_sZ, gR_sP, gR_sN, gI_sR, gI_sI, gI_sJ, gI_sL, gI_sZ, gI_sP, gI_sN, gJ_sR, gJ_sI, gJ_sJ, gJ_sL, gJ_sZ, gJ_sP, gJ_sN, gL_sR, gL_sI, gL_sJ, gL_sL, gL_sZ, gL_sP, gL_sN, gZ_sR, gZ_sI, gZ_sJ, gZ_sL, gZ_sZ, gZ_sP, gZ_sN, gP_sR, gP_sI, gP_sJ, gP_sL, gP_sZ, gP_sN, gN_sR, gN_sI, gN_sJ, gN_sL, gN_sZ, gN_sP, gP_sP, gP_sQ, gN_sN, gN_sM, reduceIte, Nat.reduceEqDiff, hU]
        rw [xsGet_d (by omega) (by omega), bs, nI_1, sJ_sJ]
        exact x2
      cases g
      · rw [if_neg ff]
        unfold m155_63
        obtain ⟨X, x1, x2⟩ := hK false
        exact ⟨X, (fun y => by cases y), x2⟩
      · rw [if_pos rfl, xsGet_d (by omega) (by omega), bs, m152_eq, bs, tcr_L hi]
        have ea : allL T i (e - (i + 1) + 1) = (isL (T.getD i 0) && allL T (i + 1) (e - (i + 1))) := rfl
        cases c : isL (T.getD i 0)
        · rw [if_neg ff]
          unfold m155_63
          obtain ⟨X, x1, x2⟩ := hK false
          refine ⟨X, (fun y => by rw [ea, c] at y; cases y), ?_⟩
          rw [ea, c]
          exact x2
        · rw [if_pos rfl]
          obtain ⟨X, x1, x2⟩ := hK true
          have eu := tcr_eq hi (Or.inl c)
          refine ⟨X, fun y => ?_, ?_⟩
          · rw [ea, c] at y
            rw [x1 y, eu, Int64.mul_comm]
            rfl
          · rw [ea, c]
            exact x2
theorem lex_numC {a e most : Nat} {x1 : Bool} {x2 : Int32} (hT : gR s 0 = T) (he : gI s 4 = nI e) (hle : e < 2 ^ 20) (hm : most ≤ 2147483648) : ∀ (f i v : Nat), i ≤ e → e < i + f → v ≤ most → m45_60 f x1 x2 (lN most) (lN v) (nI i) s = if (allD T i (e - i) && decide (dval T v i (e - i) ≤ most)) = true then m45_136 x2 (if x1 = true then -(lN (dval T v i (e - i))) else lN (dval T v i (e - i))) s else some (false, s) := by
  intro f
  induction f with
  | zero => intro i v h1 h2; omega
  | succ f ih =>
    intro i v h1 h2 h3
    unfold m45_60
    rw [he, hT]
    simp (disch := omega) only [eqL_0, eqL_1, eqL_2, eqL_3, eqL_4, eqL_5, eqL_6, eqL_7, eqL_8, eqL_9, eqL_10, eqL_11, eqL_12, eqL_13, eqL_14, eqL_15, eqL_16, eqL_17, eqL_18, eqL_19, eqL_20, eqL_21, eqL_22, eqL_23, eqL_24, eqL_25, eqL_26, eqL_27, eqL_28, eqL_29, eqL_30, eqL_31, eqL_32, leL_0, geL_0, ltL_0, gtL_0, leL_1, geL_1, ltL_1, gtL_1, leL_2, geL_2, ltL_2, gtL_2, leL_3, geL_3, ltL_3, gtL_3, leL_8, geL_8, ltL_8, gtL_8, leL_9, geL_9, ltL_9, gtL_9, leL_10, geL_10, ltL_10, gtL_10, leL_11, geL_11, ltL_11, gtL_11, leL_12, geL_12, ltL_12, gtL_12, leL_17, geL_17, ltL_17, gtL_17, leL_18, geL_18, ltL_18, gtL_18, leL_23, geL_23, ltL_23, gtL_23, leL_24, geL_24, ltL_24, gtL_24, leL_26, geL_26, ltL_26, gtL_26, leL_31, geL_31, ltL_31, gtL_31, leL_32, geL_32, ltL_32, gtL_32, leL_48, geL_48, ltL_48, gtL_48, leL_57, geL_57, ltL_57, gtL_57, leL_63, geL_63, ltL_63, gtL_63, leL_64, geL_64, ltL_64, gtL_64, leL_97, geL_97, ltL_97, gtL_97, leL_122, geL_122, ltL_122, gtL_122, leL_4096, geL_4096, ltL_4096, gtL_4096, leL_6000, geL_6000, ltL_6000, gtL_6000, leL_8192, geL_8192, ltL_8192, gtL_8192, leL_1000000, geL_1000000, ltL_1000000, gtL_1000000, eqN, leN, ltN, nI_ne1, m1_ne]
    by_cases z : e ≤ i
    · rw [if_pos z, show e - i = 0 by omega]
      have e0 : (allD T i 0 && decide (dval T v i 0 ≤ most)) = true := by
        show (true && decide (v ≤ most)) = true
        rw [decide_eq_true h3]
        rfl
      rw [if_pos e0]
      show _ = m45_136 x2 (if x1 = true then -(lN v) else lN v) s
      cases x1
      · rw [if_neg ff, if_neg ff]
      · rw [if_pos rfl, if_pos rfl]
    · rw [if_neg z, m42_eq, bs, xsAt_n (by omega), show e - i = e - (i + 1) + 1 by omega]
      have ea : allD T i (e - (i + 1) + 1) = (isD (T.getD i 0) && allD T (i + 1) (e - (i + 1))) := rfl
      have ed : dval T v i (e - (i + 1) + 1) = dval T (v * 10 + dgt (T.getD i 0)) (i + 1) (e - (i + 1)) := rfl
      rw [ea, ed]
      cases c : isD (T.getD i 0)
      · rw [if_neg ff]
        rfl
      · obtain ⟨d1, d2⟩ := dgt_ok c
        rw [if_pos rfl, hT, xsAt_n (by omega), d2, show (10 : Int64) = lN 10 from rfl, lN_mul, lN_add, nI_1, Bool.true_and]
        by_cases y : v * 10 + dgt (T.getD i 0) ≤ most
        · rw [if_pos (by rw [lg_cmp_le, lN_leB (by omega) (by omega)]; exact y), ih (i + 1) _ (by omega) (by omega) y]
        · rw [if_neg (by rw [lg_cmp_le, lN_leB (by omega) (by omega)]; exact y)]
          have := dval_ge T (e - (i + 1)) (v * 10 + dgt (T.getD i 0)) (i + 1)
          rw [decide_eq_false (by omega), Bool.and_false]
          rfl
theorem lex_numB (h : TR T U n) (hU : gR t 1 = U) {e a : Nat} {fr : Int32} (he : gI t 23 = nI e) (ha : gI t 25 = nI a) (hen : e ≤ n) : ∀ (f i : Nat) (x : Int64), i ≤ e → e < i + f → ∃ y, m156_52 f fr false x (nI i) t = m156_134 false y t := by
  obtain ⟨h1, h2, h3, h4⟩ := h
  intro f
  induction f with
  | zero => intro i x a b; omega
  | succ f ih =>
    intro i x x1 x2
    unfold m156_52
    rw [he, ha]
    simp (disch := omega) only [eqL_0, eqL_1, eqL_2, eqL_3, eqL_4, eqL_5, eqL_6, eqL_7, eqL_8, eqL_9, eqL_10, eqL_11, eqL_12, eqL_13, eqL_14, eqL_15, eqL_16, eqL_17, eqL_18, eqL_19, eqL_20, eqL_21, eqL_22, eqL_23, eqL_24, eqL_25, eqL_26, eqL_27, eqL_28, eqL_29, eqL_30, eqL_31, eqL_32, leL_0, geL_0, ltL_0, gtL_0, leL_1, geL_1, ltL_1, gtL_1, leL_2, geL_2, ltL_2, gtL_2, leL_3, geL_3, ltL_3, gtL_3, leL_8, geL_8, ltL_8, gtL_8, leL_9, geL_9, ltL_9, gtL_9, leL_10, geL_10, ltL_10, gtL_10, leL_11, geL_11, ltL_11, gtL_11, leL_12, geL_12, ltL_12, gtL_12, leL_17, geL_17, ltL_17, gtL_17, leL_18, geL_18, ltL_18, gtL_18, leL_23, geL_23, ltL_23, gtL_23, leL_24, geL_24, ltL_24, gtL_24, leL_26, geL_26, ltL_26, gtL_26, leL_31, geL_31, ltL_31, gtL_31, leL_32, geL_32, ltL_32, gtL_32, leL_48, geL_48, ltL_48, gtL_48, leL_57, geL_57, ltL_57, gtL_57, leL_63, geL_63, ltL_63, gtL_63, leL_64, geL_64, ltL_64, gtL_64, leL_97, geL_97, ltL_97, gtL_97, leL_122, geL_122, ltL_122, gtL_122, leL_4096, geL_4096, ltL_4096, gtL_4096, leL_6000, geL_6000, ltL_6000, gtL_6000, leL_8192, geL_8192, ltL_8192, gtL_8192, leL_1000000, geL_1000000, ltL_1000000, gtL_1000000, eqN, leN, ltN, nI_ne1, m1_ne]
    by_cases z : e ≤ i
    · rw [if_pos z]
      by_cases y : fr ≤ nI a
      · rw [if_pos y]; exact ⟨_, rfl⟩
      · rw [if_neg y]; exact ⟨_, rfl⟩
    · rw [if_neg z, if_neg ff]
      unfold m156_82 m156_83
      rw [hU, nI_1]
      by_cases y : lg_cmp x 99999999999 ≤ 0
      · rw [if_pos y, xsGet_d (by omega) (by omega), bs]
        exact ih (i + 1) _ (by omega) (by omega)
      · rw [if_neg y]
        exact ih (i + 1) _ (by omega) (by omega)
theorem lex_numR (h : TR T U n) (hU : gR t 1 = U) {e a fr : Nat} (he : gI t 23 = nI e) (ha : gI t 25 = nI a) (hfr : fr < 2 ^ 20) (hae : a ≤ n) (hen : e ≤ n) : ∀ (f i v : Nat), i ≤ e → e < i + f → v < 2 ^ 40 → (allD T i (e - i) = true → ∃ w, m156_52 f (nI fr) true (lN v) (nI i) t = m156_134 true (if fr ≤ a then lN w else -(lN w)) t ∧ w < 2 ^ 41 ∧ (dval T v i (e - i) ≤ 99999999999 → w = dval T v i (e - i)) ∧ (99999999999 < dval T v i (e - i) → 99999999999 < w)) ∧ (allD T i (e - i) = false → ∃ y, m156_52 f (nI fr) true (lN v) (nI i) t = m156_134 false y t) := by
  have hh := h
  obtain ⟨h1, h2, h3, h4⟩ := h
  intro f
  induction f with
  | zero => intro i v a b; omega
  | succ f ih =>
    intro i v x1 x2 x3
    unfold m156_52
    rw [he, ha, hU]
    simp (disch := omega) only [eqL_0, eqL_1, eqL_2, eqL_3, eqL_4, eqL_5, eqL_6, eqL_7, eqL_8, eqL_9, eqL_10, eqL_11, eqL_12, eqL_13, eqL_14, eqL_15, eqL_16, eqL_17, eqL_18, eqL_19, eqL_20, eqL_21, eqL_22, eqL_23, eqL_24, eqL_25, eqL_26, eqL_27, eqL_28, eqL_29, eqL_30, eqL_31, eqL_32, leL_0, geL_0, ltL_0, gtL_0, leL_1, geL_1, ltL_1, gtL_1, leL_2, geL_2, ltL_2, gtL_2, leL_3, geL_3, ltL_3, gtL_3, leL_8, geL_8, ltL_8, gtL_8, leL_9, geL_9, ltL_9, gtL_9, leL_10, geL_10, ltL_10, gtL_10, leL_11, geL_11, ltL_11, gtL_11, leL_12, geL_12, ltL_12, gtL_12, leL_17, geL_17, ltL_17, gtL_17, leL_18, geL_18, ltL_18, gtL_18, leL_23, geL_23, ltL_23, gtL_23, leL_24, geL_24, ltL_24, gtL_24, leL_26, geL_26, ltL_26, gtL_26, leL_31, geL_31, ltL_31, gtL_31, leL_32, geL_32, ltL_32, gtL_32, leL_48, geL_48, ltL_48, gtL_48, leL_57, geL_57, ltL_57, gtL_57, leL_63, geL_63, ltL_63, gtL_63, leL_64, geL_64, ltL_64, gtL_64, leL_97, geL_97, ltL_97, gtL_97, leL_122, geL_122, ltL_122, gtL_122, leL_4096, geL_4096, ltL_4096, gtL_4096, leL_6000, geL_6000, ltL_6000, gtL_6000, leL_8192, geL_8192, ltL_8192, gtL_8192, leL_1000000, geL_1000000, ltL_1000000, gtL_1000000, eqN, leN, ltN, nI_ne1, m1_ne]
    by_cases z : e ≤ i
    · rw [if_pos z, show e - i = 0 by omega]
      refine ⟨fun _ => ⟨v, ?_, by omega, fun _ => rfl, fun y => y⟩, fun y => by cases y⟩
      by_cases y : fr ≤ a
      · rw [if_pos y, if_pos y]
      · rw [if_neg y, if_neg y]
    · have hi := h4 i (by omega)
      have ea : allD T i (e - (i + 1) + 1) = (isD (T.getD i 0) && allD T (i + 1) (e - (i + 1))) := rfl
      have ed : dval T v i (e - (i + 1) + 1) = dval T (v * 10 + dgt (T.getD i 0)) (i + 1) (e - (i + 1)) := rfl
      rw [if_neg z, show e - i = e - (i + 1) + 1 by omega, ea, ed, if_pos trivial, xsGet_d (by omega) (by omega), bs, m153_eq, bs, tcr_D hi]
      cases c : isD (T.getD i 0)
      · rw [if_neg ff]
        unfold m156_82 m156_83
        rw [hU, nI_1]
        refine ⟨(fun y => by cases y), fun _ => ?_⟩
        by_cases y : lg_cmp (lN v) 99999999999 ≤ 0
        · rw [if_pos y, xsGet_d (by omega) (by omega), bs]
          exact lex_numB hh hU he ha hen f (i + 1) _ (by omega) (by omega)
        · rw [if_neg y]
          exact lex_numB hh hU he ha hen f (i + 1) _ (by omega) (by omega)
      · rw [if_pos rfl, Bool.true_and]
        obtain ⟨d1, d2⟩ := dgt_ok c
        have eu := tcr_eq hi (Or.inr c)
        unfold m156_83
        by_cases y : v ≤ 99999999999
        · rw [if_pos (by rw [lg_cmp_le, show (99999999999 : Int64) = lN 99999999999 from rfl, lN_leB (by omega) (by omega)]; exact y), hU, xsGet_d (by omega) (by omega), bs, eu, d2, show (10 : Int64) = lN 10 from rfl, lN_mul, lN_add, nI_1, Nat.mul_comm 10 v]
          exact ih (i + 1) (v * 10 + dgt (T.getD i 0)) (by omega) (by omega) (by omega)
        · rw [if_neg (by rw [lg_cmp_le, show (99999999999 : Int64) = lN 99999999999 from rfl, lN_leB (by omega) (by omega)]; exact y), nI_1]
          obtain ⟨w1, w2⟩ := ih (i + 1) v (by omega) (by omega) x3
          refine ⟨fun q => ?_, w2⟩
          obtain ⟨w, u1, u2, u3, u4⟩ := w1 q
          have d3 := dval_ge T (e - (i + 1)) (v * 10 + dgt (T.getD i 0)) (i + 1)
          have d4 := dval_ge T (e - (i + 1)) v (i + 1)
          exact ⟨w, u1, u2, fun r => by omega, fun _ => u4 (by omega)⟩
end Lex2
