/-! a token of both, all kinds -/
section Tok
variable {T U : List Int32} {n : Nat} {s t : xSt} {a e : Nat} {f : Int32}
theorem num_ok (h : TR T U n) (hT : gR s 0 = T) (hU : gR t 1 = U) (hae : a < e) (hen : e ≤ n) {k5 d j0 q22 v k24 : Int32} {jj qq : Int64} :
    (∃ x, m45 (lexS s (nI e) k5 (nI a) d j0 jj) = some (true, lexS s (nI e) k5 (nI a) x j0 jj) ∧ m156 (lexR t f q22 (nI e) k24 (nI a) v qq) = some (lexR t f q22 (nI e) 3 (nI a) x qq)) ∨
    (∃ d' x, m45 (lexS s (nI e) k5 (nI a) d j0 jj) = some (false, lexS s (nI e) k5 (nI a) d' j0 jj) ∧ m156 (lexR t f q22 (nI e) k24 (nI a) v qq) = some (lexR t (fb f) (qb f q22 (nI a)) (nI e) 3 (nI a) x qq)) := by
  have h2 := h.2.1
  have h1 := h.1
  have h3 := h.2.2.1
  have hR0 : gR (lexS s (nI e) k5 (nI a) d j0 jj) 0 = T := hT
  have hR1 : gR (lexR t f q22 (nI e) k24 (nI a) v qq) 1 = U := hU
  have c45 : (U.getD a 0 = 45) = (T.getD a 0 = 45) := tcr_c (h.2.2.2 a (by omega)) (by decide) (by decide)
  have hc : m45 (lexS s (nI e) k5 (nI a) d j0 jj) = m45_39 (decide (T.getD a 0 = 45)) (nI (if decide (T.getD a 0 = 45) = true then a + 1 else a)) (lexS s (nI e) k5 (nI a) d j0 jj) := by
    unfold m45 m45_21
    rw [hR0, lexS_i6, xsAt_n (by omega)]
    by_cases z : T.getD a 0 = 45
    · rw [if_pos z, if_pos rfl, decide_eq_true z, if_pos rfl, nI_1]
    · rw [if_neg z, if_neg ff, decide_eq_false z, if_neg ff]
  have hr : m156 (lexR t f q22 (nI e) k24 (nI a) v qq) = m156_32 (nI (if decide (T.getD a 0 = 45) = true then a + 1 else a)) (lexR t f q22 (nI e) 3 (nI a) v qq) := by
    unfold m156
    rw [hR1, lexR_i25, xsGet_d (by omega) (by omega), bs]
    simp only [c45, lexR_i21, lexR_i22, lexR_i23, lexR_i24, lexR_i25, lexR_i26, lexR_j0, lexR_oi20, lexR_oi27, lexR_oi28, lexR_oi29, lexR_oi30, lexR_P, lexR_N, lexR_R, lexR_L, lexR_Z, lexR_si21, lexR_si22, lexR_si23, lexR_si24, lexR_si25, lexR_si26, lexR_sj0]
    by_cases z : T.getD a 0 = 45
    · rw [if_pos z, decide_eq_true z, if_pos rfl, nI_1]
    · rw [if_neg z, decide_eq_false z, if_neg ff]
  rw [hc, hr]
  exact num_go h hT hU hae hen _ _ rfl
/-- behind a word: a name, a number, or bad bytes -/
theorem word_ok (h : TR T U n) (hT : gR s 0 = T) (hU : gR t 1 = U) (hae : a < e) (hen : e ≤ n) (hW : ∀ i, a ≤ i → i < e → isW (T.getD i 0) = true) (hE : e < n → isW (T.getD e 0) = false) {k5 d q22 v k24 : Int32} {jj qq : Int64} :
    (e ≤ a + 12 ∧ allL T a (e - a) = true ∧ m43_44 (lexS s (nI e) k5 (nI a) d 0 jj) = some (lexS s (nI e) 4 (nI a) d (nI (wcode (seg T a (e - a)))) (encL (seg T a (e - a)))) ∧ wtail (lexR t f q22 (nI e) k24 (nI a) v qq) = some (lexR t f q22 (nI e) 2 (nI a) v (encL (seg T a (e - a))))) ∨
    (∃ x, m43_44 (lexS s (nI e) k5 (nI a) d 0 jj) = some (lexS s (nI e) 5 (nI a) x 0 jj) ∧ wtail (lexR t f q22 (nI e) k24 (nI a) v qq) = some (lexR t f q22 (nI e) 3 (nI a) x qq)) ∨
    (∃ d' x k q, m43_44 (lexS s (nI e) k5 (nI a) d 0 jj) = some (lexS s (nI e) 1 (nI a) d' 0 jj) ∧ wtail (lexR t f q22 (nI e) k24 (nI a) v qq) = some (lexR t (fb f) (qb f q22 (nI a)) (nI e) k (nI a) x q)) := by
  have hh := h
  obtain ⟨h1, h2, h3, h4⟩ := h
  have hR0 : gR (lexS s (nI e) k5 (nI a) d 0 jj) 0 = T := hT
  have hR1 : gR (lexR t f q22 (nI e) k24 (nI a) v qq) 1 = U := hU
  have hi := h4 a (by omega)
  have hC : m43_44 (lexS s (nI e) k5 (nI a) d 0 jj) = if (allL T a (e - a) && decide (e - a ≤ 12)) = true then (m37 (nI a) (lexS s (nI e) 4 (nI a) d 0 jj)).bind fun q4 => (m18 q4.1 (sJ q4.2 0 q4.1)).bind fun q5 => some (sI q5.2 8 q5.1) else (m45 (lexS s (nI e) k5 (nI a) d 0 jj)).bind fun q6 => if q6.1 = true then some (sI q6.2 5 5) else some (sI q6.2 5 1) := by
    unfold m43_44 m44
    rw [lexS_i6, lex_isName (s := lexS s (nI e) k5 (nI a) d 0 jj) (T := T) hT rfl rfl (by omega) (by omega) 1000000 a (by omega) (by omega), bs]
    cases (allL T a (e - a) && decide (e - a ≤ 12))
    · rw [if_neg ff, if_neg ff]
    · rw [if_pos rfl, if_pos rfl]
      simp only [lexS_i4, lexS_i5, lexS_i6, lexS_i7, lexS_i8, lexS_j0, lexS_oi2, lexS_oi3, lexS_oi9, lexS_oi10, lexS_oi11, lexS_P, lexS_N, lexS_R, lexS_L, lexS_Z, lexS_si4, lexS_si5, lexS_si6, lexS_si7, lexS_si8, lexS_sj0]
  have hR : wtail (lexR t f q22 (nI e) k24 (nI a) v qq) = if isL (T.getD a 0) = true then m155 (lexR t f q22 (nI e) k24 (nI a) v qq) else m156 (lexR t f q22 (nI e) k24 (nI a) v qq) := by
    unfold wtail
    rw [lexR_i23, lexR_i25, if_neg (by rw [eqN (by omega) (by omega)]; omega), hR1, xsGet_d (by omega) (by omega), bs, m152_eq, bs, tcr_L hi]
    cases isL (T.getD a 0)
    · rw [if_neg ff, if_neg ff, bind_id]
    · rw [if_pos rfl, if_pos rfl, bind_id]
  have hlen : a + (e - a) ≤ T.length := by omega
  cases hL : isL (T.getD a 0)
  · rw [hL, if_neg ff] at hR
    rw [allL_no (by omega) hL, Bool.false_and, if_neg ff] at hC
    rcases num_ok (f := f) hh hT hU hae hen (k5 := k5) (d := d) (j0 := 0) (q22 := q22) (v := v) (k24 := k24) (jj := jj) (qq := qq) with ⟨x, x1, x2⟩ | ⟨d', x, x1, x2⟩
    · refine Or.inr (Or.inl ⟨x, ?_, by rw [hR, x2]⟩)
      rw [hC, x1, bs, if_pos rfl]
      simp only [lexS_i4, lexS_i5, lexS_i6, lexS_i7, lexS_i8, lexS_j0, lexS_oi2, lexS_oi3, lexS_oi9, lexS_oi10, lexS_oi11, lexS_P, lexS_N, lexS_R, lexS_L, lexS_Z, lexS_si4, lexS_si5, lexS_si6, lexS_si7, lexS_si8, lexS_sj0]
    · refine Or.inr (Or.inr ⟨d', x, 3, qq, ?_, by rw [hR, x2]⟩)
      rw [hC, x1, bs, if_neg ff]
      simp only [lexS_i4, lexS_i5, lexS_i6, lexS_i7, lexS_i8, lexS_j0, lexS_oi2, lexS_oi3, lexS_oi9, lexS_oi10, lexS_oi11, lexS_P, lexS_N, lexS_R, lexS_L, lexS_Z, lexS_si4, lexS_si5, lexS_si6, lexS_si7, lexS_si8, lexS_sj0]
  · rw [hL, if_pos rfl] at hR
    have hM : ∃ X, ((decide (e - a ≤ 12) && allL T a (e - a)) = true → X = encF T 0 a (e - a)) ∧ m155 (lexR t f q22 (nI e) k24 (nI a) v qq) = if (decide (e - a ≤ 12) && allL T a (e - a)) = true then some (lexR t f q22 (nI e) 2 (nI a) v X) else some (lexR t (fb f) (qb f q22 (nI a)) (nI e) 2 (nI a) v X) := by
      have hb : m155 (lexR t f q22 (nI e) k24 (nI a) v qq) = m155_35 1000000 (decide (e - a ≤ 12)) (nI a) (sJ (lexR t f q22 (nI e) 2 (nI a) v qq) 0 0) := by
        unfold m155 m155_29
        rw [lexR_i23, lexR_i25, nI_subI (by omega)]
        simp (disch := omega) only [lexR_i21, lexR_i22, lexR_i23, lexR_i24, lexR_i25, lexR_i26, lexR_j0, lexR_oi20, lexR_oi27, lexR_oi28, lexR_oi29, lexR_oi30, lexR_P, lexR_N, lexR_R, lexR_L, lexR_Z, lexR_si21, lexR_si22, lexR_si23, lexR_si24, lexR_si25, lexR_si26, lexR_sj0, eqL_0, eqL_1, eqL_2, eqL_3, eqL_4, eqL_5, eqL_6, eqL_7, eqL_8, eqL_9, eqL_10, eqL_11, eqL_12, eqL_13, eqL_14, eqL_15, eqL_16, eqL_17, eqL_18, eqL_19, eqL_20, eqL_21, eqL_22, eqL_23, eqL_24, eqL_25, eqL_26, eqL_27, eqL_28, eqL_29, eqL_30, eqL_31, eqL_32, leL_0, geL_0, ltL_0, gtL_0, leL_1, geL_1, ltL_1, gtL_1, leL_2, geL_2, ltL_2, gtL_2, leL_3, geL_3, ltL_3, gtL_3, leL_8, geL_8, ltL_8, gtL_8, leL_9, geL_9, ltL_9, gtL_9, leL_10, geL_10, ltL_10, gtL_10, leL_11, geL_11, ltL_11, gtL_11, leL_12, geL_12, ltL_12, gtL_12, leL_17, geL_17, ltL_17, gtL_17, leL_18, geL_18, ltL_18, gtL_18, leL_23, geL_23, ltL_23, gtL_23, leL_24, geL_24, ltL_24, gtL_24, leL_26, geL_26, ltL_26, gtL_26, leL_31, geL_31, ltL_31, gtL_31, leL_32, geL_32, ltL_32, gtL_32, leL_48, geL_48, ltL_48, gtL_48, leL_57, geL_57, ltL_57, gtL_57, leL_63, geL_63, ltL_63, gtL_63, leL_64, geL_64, ltL_64, gtL_64, leL_97, geL_97, ltL_97, gtL_97, leL_122, geL_122, ltL_122, gtL_122, leL_4096, geL_4096, ltL_4096, gtL_4096, leL_6000, geL_6000, ltL_6000, gtL_6000, leL_8192, geL_8192, ltL_8192, gtL_8192, leL_1000000, geL_1000000, ltL_1000000, gtL_1000000, eqN, leN, ltN, nI_ne1, m1_ne]
        by_cases z : 12 < e - a
        · rw [if_pos z, decide_eq_false (by omega)]
        · rw [if_neg z, decide_eq_true (by omega)]
      obtain ⟨X, x1, x2⟩ := lex_readName (t := lexR t f q22 (nI e) 2 (nI a) v qq) (e := e) hh hU rfl hen 1000000 a (decide (e - a ≤ 12)) 0 (by omega) (by omega)
      refine ⟨X, x1, ?_⟩
      rw [hb, x2]
      cases (decide (e - a ≤ 12) && allL T a (e - a))
      · rw [if_neg ff, if_neg ff]
        unfold m154 fb qb
        simp only [lexR_i21, lexR_i22, lexR_i23, lexR_i24, lexR_i25, lexR_i26, lexR_j0, lexR_oi20, lexR_oi27, lexR_oi28, lexR_oi29, lexR_oi30, lexR_P, lexR_N, lexR_R, lexR_L, lexR_Z, lexR_si21, lexR_si22, lexR_si23, lexR_si24, lexR_si25, lexR_si26, lexR_sj0]
        by_cases z : f = 0
        · rw [if_pos z, if_pos z, if_pos z]
        · rw [if_neg z, if_neg z, if_neg z]
      · rw [if_pos rfl, if_pos rfl]
        simp only [lexR_i21, lexR_i22, lexR_i23, lexR_i24, lexR_i25, lexR_i26, lexR_j0, lexR_oi20, lexR_oi27, lexR_oi28, lexR_oi29, lexR_oi30, lexR_P, lexR_N, lexR_R, lexR_L, lexR_Z, lexR_si21, lexR_si22, lexR_si23, lexR_si24, lexR_si25, lexR_si26, lexR_sj0]
    obtain ⟨X, x1, x2⟩ := hM
    cases c : (decide (e - a ≤ 12) && allL T a (e - a))
    · rw [c, if_neg ff] at x2
      rw [Bool.and_comm, c, if_neg ff] at hC
      obtain ⟨l1, l2⟩ := isL_D hL
      rcases num_ok (f := f) hh hT hU hae hen (k5 := k5) (d := d) (j0 := 0) (q22 := q22) (v := v) (k24 := k24) (jj := jj) (qq := qq) with ⟨x, y1, y2⟩ | ⟨d', x, y1, y2⟩
      · exfalso
        have hb : m45 (lexS s (nI e) k5 (nI a) d 0 jj) = some (false, lexS s (nI e) k5 (nI a) d 0 jj) := by
          unfold m45 m45_21 m45_39 m45_53
          rw [hR0, lexS_i6, xsAt_n (by omega), if_neg l2, if_neg ff, if_neg ff, show (2147483647 : Int64) = lN 2147483647 from rfl, show (0 : Int64) = lN 0 from rfl, lex_numC (s := lexS s (nI e) k5 (nI a) d 0 jj) (T := T) (e := e) (a := a) hT rfl (by omega) (by decide) 1000000 a 0 (by omega) (by omega) (by decide), allD_no (by omega) l1, Bool.false_and, if_neg ff]
        rw [hb] at y1
        cases y1
      · refine Or.inr (Or.inr ⟨d', v, 2, X, ?_, by rw [hR, x2]⟩)
        rw [hC, y1, bs, if_neg ff]
        simp only [lexS_i4, lexS_i5, lexS_i6, lexS_i7, lexS_i8, lexS_j0, lexS_oi2, lexS_oi3, lexS_oi9, lexS_oi10, lexS_oi11, lexS_P, lexS_N, lexS_R, lexS_L, lexS_Z, lexS_si4, lexS_si5, lexS_si6, lexS_si7, lexS_si8, lexS_sj0]
    · rw [c, if_pos rfl] at x2
      have c' := c
      rw [Bool.and_eq_true, decide_eq_true_eq] at c'
      rw [Bool.and_comm, c, if_pos rfl] at hC
      have hX : X = encL (seg T a (e - a)) := by rw [x1 c, encF_seg _ _ _ hlen]; rfl
      have hsl := allL_seg _ _ hlen c'.2
      have hs12 : (seg T a (e - a)).length ≤ 12 := by
        unfold seg
        rw [List.length_take, List.length_drop]
        omega
      have hend : e = a + 12 ∨ isL (T.getD e 0) = false := by
        by_cases z : e < n
        · refine Or.inr ?_
          have := hE z
          unfold isW at this
          cases y : isL (T.getD e 0)
          · rfl
          · rw [y] at this
            cases this
        · refine Or.inr ?_
          rw [List.getD_eq_getElem?_getD, List.getElem?_eq_none (by omega)]
          decide
      refine Or.inl ⟨by omega, c'.2, ?_, by rw [hR, x2, hX]⟩
      rw [hC]
      unfold m37
      rw [lex_nameAt (s := lexS s (nI e) 4 (nI a) d 0 jj) (T := T) hT (by omega) (by omega) (by omega) hend 1000000 a 0 (by omega) (by omega) c'.2, bs, ← x1 c, hX, m18_eq hsl hs12, bs]
      simp only [lexS_i4, lexS_i5, lexS_i6, lexS_i7, lexS_i8, lexS_j0, lexS_oi2, lexS_oi3, lexS_oi9, lexS_oi10, lexS_oi11, lexS_P, lexS_N, lexS_R, lexS_L, lexS_Z, lexS_si4, lexS_si5, lexS_si6, lexS_si7, lexS_si8, lexS_sj0]
end Tok
