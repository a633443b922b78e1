/-! a token of both -/
theorem lNn_toI {w : Nat} (h : w < 2 ^ 62) : (-(lN w)).toInt = -(w : Int) := by
  rw [Int64.toInt_neg, lN_toI h]
  exact Int.bmod_eq_of_le (by omega) (by omega)
theorem cmp_lo {w : Nat} (h : w < 2 ^ 62) : (lg_cmp (-(lN w)) (-2147483648) < 0) = (2147483648 < w) := by
  rw [lg_cmp_lt, show (-2147483648 : Int64) = -(lN 2147483648) from rfl, Int64.lt_iff_toInt_lt, lNn_toI h, lNn_toI (by decide)]
  exact propext ⟨fun _ => by omega, fun _ => by omega⟩
theorem cmp_lo2 {w : Nat} (h : w < 2 ^ 62) : (lg_cmp (lN w) (-2147483648) < 0) = False := by
  rw [lg_cmp_lt, show (-2147483648 : Int64) = -(lN 2147483648) from rfl, Int64.lt_iff_toInt_lt, lN_toI h, lNn_toI (by decide)]
  exact propext ⟨fun _ => by omega, fun h => h.elim⟩
theorem cmp_hi {w : Nat} (h : w < 2 ^ 62) : (lg_cmp (lN w) 2147483647 ≤ 0) = (w ≤ 2147483647) := by
  rw [lg_cmp_le, show (2147483647 : Int64) = lN 2147483647 from rfl, lN_leB h (by decide)]
theorem cmp_hi2 {w : Nat} (h : w < 2 ^ 62) : (lg_cmp (-(lN w)) 2147483647 ≤ 0) = True := by
  rw [lg_cmp_le, show (2147483647 : Int64) = lN 2147483647 from rfl, Int64.le_iff_toInt_le, lNn_toI h, lN_toI (by decide)]
  exact propext ⟨fun _ => trivial, fun _ => by omega⟩
/-- the first fault stays -/
def fb (f : Int32) : Int32 := if f = 0 then 1 else f
def qb (f q a : Int32) : Int32 := if f = 0 then a else q
section LexOk
variable {T U : List Int32} {n : Nat} {s t : xSt} {a e : Nat} {f : Int32}
theorem allL_no {m i : Nat} (hm : 0 < m) (h : isL (T.getD i 0) = false) : allL T i m = false := by
  obtain ⟨m, rfl⟩ : ∃ G, m = G + 1 := ⟨m - 1, by omega⟩
  show (isL (T.getD i 0) && _) = false
  rw [h]; rfl
theorem allD_no {m i : Nat} (hm : 0 < m) (h : isD (T.getD i 0) = false) : allD T i m = false := by
  obtain ⟨m, rfl⟩ : ∃ G, m = G + 1 := ⟨m - 1, by omega⟩
  show (isD (T.getD i 0) && _) = false
  rw [h]; rfl
theorem isL_D {c : Int32} (h : isL c = true) : isD c = false ∧ c ≠ 45 := by
  obtain ⟨d, d1, d2, rfl, -⟩ := isL_dig h
  refine ⟨?_, by rw [ne_eq, show (45 : Int32) = nI 45 from rfl, nI_eq (by omega) (by omega)]; omega⟩
  unfold isD
  rw [decide_eq_false (p := nI (d + 96) ≤ 57) (by rw [leL_57 (by omega)]; omega), Bool.and_false]
theorem m156_bad {q22 k24 v : Int32} {qq y : Int64} : m156_155 y (lexR t f q22 (nI e) k24 (nI a) v qq) = some (lexR t (fb f) (qb f q22 (nI a)) (nI e) k24 (nI a) (Int64.toInt32 y) qq) := by
  unfold m156_155 m154 fb qb
  rw [lexR_i21, lexR_i25]
  by_cases z : f = 0
  · rw [if_pos z, if_pos z, if_pos z]
    simp only [Option.bind_some, lexR_i21, lexR_i22, lexR_i23, lexR_i24, lexR_i25, lexR_i26, lexR_j0, lexR_oi20, lexR_oi27, lexR_oi28, lexR_oi29, lexR_oi30, lexR_P, lexR_N, lexR_R, lexR_L, lexR_Z, lexR_si21, lexR_si22, lexR_si23, lexR_si24, lexR_si25, lexR_si26, lexR_sj0]
  · rw [if_neg z, if_neg z, if_neg z]
    simp only [Option.bind_some, lexR_i21, lexR_i22, lexR_i23, lexR_i24, lexR_i25, lexR_i26, lexR_j0, lexR_oi20, lexR_oi27, lexR_oi28, lexR_oi29, lexR_oi30, lexR_P, lexR_N, lexR_R, lexR_L, lexR_Z, lexR_si21, lexR_si22, lexR_si23, lexR_si24, lexR_si25, lexR_si26, lexR_sj0]
theorem num_go (h : TR T U n) (hT : gR s 0 = T) (hU : gR t 1 = U) (hae : a < e) (hen : e ≤ n) {k5 d j0 q22 v : Int32} {jj qq : Int64} (neg : Bool) (fr : Nat) (hfr : fr = if neg = true then a + 1 else a) :
    (∃ x, m45_39 neg (nI fr) (lexS s (nI e) k5 (nI a) d j0 jj) = some (true, lexS s (nI e) k5 (nI a) x j0 jj) ∧ m156_32 (nI fr) (lexR t f q22 (nI e) 3 (nI a) v qq) = some (lexR t f q22 (nI e) 3 (nI a) x qq)) ∨
    (∃ d' x, m45_39 neg (nI fr) (lexS s (nI e) k5 (nI a) d j0 jj) = some (false, lexS s (nI e) k5 (nI a) d' j0 jj) ∧ m156_32 (nI fr) (lexR t f q22 (nI e) 3 (nI a) v qq) = some (lexR t (fb f) (qb f q22 (nI a)) (nI e) 3 (nI a) x qq)) := by
  have h2 := h.2.1
  have hfe : fr ≤ e ∧ a ≤ fr := by
    rw [hfr]
    split <;> omega
  have hmost : ∃ most, most ≤ 2147483648 ∧ 2147483647 ≤ most ∧ (most = 2147483648 ↔ neg = true) ∧ m45_39 neg (nI fr) (lexS s (nI e) k5 (nI a) d j0 jj) = m45_60 1000000 neg (nI fr) (lN most) (lN 0) (nI fr) (lexS s (nI e) k5 (nI a) d j0 jj) := by
    unfold m45_39 m45_53
    cases neg
    · exact ⟨2147483647, by decide, by decide, by decide, by rw [if_neg ff, show (2147483647 : Int64) = lN 2147483647 from rfl, show (0 : Int64) = lN 0 from rfl]⟩
    · exact ⟨2147483648, by decide, by decide, by decide, by rw [if_pos rfl, show (2147483648 : Int64) = lN 2147483648 from rfl, show (0 : Int64) = lN 0 from rfl]⟩
  obtain ⟨most, m1, m2, m3, m4⟩ := hmost
  rw [m4, lex_numC (s := lexS s (nI e) k5 (nI a) d j0 jj) (T := T) (e := e) (a := a) hT rfl (by omega) m1 1000000 fr 0 hfe.1 (by omega) (by omega)]
  have hge : (fr ≤ a) = (¬ neg = true) := by
    rw [hfr]
    cases neg
    · rw [if_neg ff]; simp
    · rw [if_pos rfl]
      exact propext ⟨fun _ => by omega, fun q => absurd rfl q⟩
  have hr : m156_32 (nI fr) (lexR t f q22 (nI e) 3 (nI a) v qq) = if e ≤ fr then m156_52 1000000 (nI fr) false (lN 0) (nI fr) (lexR t f q22 (nI e) 3 (nI a) v qq) else m156_52 1000000 (nI fr) true (lN 0) (nI fr) (lexR t f q22 (nI e) 3 (nI a) v qq) := by
    unfold m156_32 m156_46
    rw [lexR_i23, show (0 : Int64) = lN 0 from rfl]
    by_cases z : e ≤ fr
    · rw [if_pos z, if_pos (show nI e ≤ nI fr by rw [leN (by omega) (by omega)]; exact z)]
    · rw [if_neg z, if_neg (show ¬ nI e ≤ nI fr by rw [leN (by omega) (by omega)]; exact z)]
  by_cases z : e ≤ fr
  · obtain rfl : e = fr := by omega
    rw [if_pos z] at hr
    have e0 : (allD T e (e - e) && decide (dval T 0 e (e - e) ≤ most)) = true := by
      rw [Nat.sub_self]
      show (true && decide (0 ≤ most)) = true
      rw [decide_eq_true (by omega)]; rfl
    rw [if_pos e0]
    obtain ⟨y, hy⟩ := lex_numB (t := lexR t f q22 (nI e) 3 (nI a) v qq) (fr := nI e) (a := a) h hU rfl rfl hen 1000000 e (lN 0) (Nat.le_refl _) (by omega)
    rw [hy] at hr
    unfold m156_134 at hr
    rw [if_neg ff, m156_bad] at hr
    refine Or.inr ⟨Int64.toInt32 (if neg = true then -lN (dval T 0 e (e - e)) else lN (dval T 0 e (e - e))), _, ?_, hr⟩
    unfold m45_136
    rw [lexS_i4, if_pos (show nI e ≤ nI e by rw [leN (by omega) (by omega)]; exact Nat.le_refl _)]
    simp only [lexS_i4, lexS_i5, lexS_i6, lexS_i7, lexS_i8, lexS_j0, lexS_oi2, lexS_oi3, lexS_oi9, lexS_oi10, lexS_oi11, lexS_P, lexS_N, lexS_R, lexS_L, lexS_Z, lexS_si4, lexS_si5, lexS_si6, lexS_si7, lexS_si8, lexS_sj0]
  · rw [if_neg z] at hr
    obtain ⟨r1, r2⟩ := lex_numR (t := lexR t f q22 (nI e) 3 (nI a) v qq) (fr := fr) (a := a) h hU rfl rfl (by omega) (by omega) hen 1000000 fr 0 hfe.1 (by omega) (by decide)
    cases c : allD T fr (e - fr)
    · obtain ⟨y, hy⟩ := r2 c
      rw [hy] at hr
      unfold m156_134 at hr
      rw [if_neg ff, m156_bad] at hr
      exact Or.inr ⟨_, _, by rw [Bool.false_and, if_neg ff], hr⟩
    · obtain ⟨w, w1, w2, w3, w4⟩ := r1 c
      rw [w1] at hr
      unfold m156_134 at hr
      rw [if_pos rfl] at hr
      by_cases y : dval T 0 fr (e - fr) ≤ most
      · have hw : w = dval T 0 fr (e - fr) := w3 (by omega)
        refine Or.inl ⟨Int64.toInt32 (if neg = true then -lN w else lN w), ?_, ?_⟩
        · rw [Bool.true_and, decide_eq_true y, if_pos rfl, ← hw]
          unfold m45_136
          rw [lexS_i4, if_neg (show ¬ nI e ≤ nI fr by rw [leN (by omega) (by omega)]; exact z)]
          simp only [lexS_i4, lexS_i5, lexS_i6, lexS_i7, lexS_i8, lexS_j0, lexS_oi2, lexS_oi3, lexS_oi9, lexS_oi10, lexS_oi11, lexS_P, lexS_N, lexS_R, lexS_L, lexS_Z, lexS_si4, lexS_si5, lexS_si6, lexS_si7, lexS_si8, lexS_sj0]
        · rw [← hw] at y
          rw [hr]
          cases neg
          · have hle : fr ≤ a := by rw [hge]; exact ff
            have : ¬ most = 2147483648 := fun q => ff (m3.mp q)
            rw [if_pos hle, if_neg (show ¬ lg_cmp (lN w) (-2147483648) < 0 by rw [cmp_lo2 (by omega)]; exact not_false), if_pos (show lg_cmp (lN w) 2147483647 ≤ 0 by rw [cmp_hi (by omega)]; omega), if_neg ff]
            simp only [lexR_i21, lexR_i22, lexR_i23, lexR_i24, lexR_i25, lexR_i26, lexR_j0, lexR_oi20, lexR_oi27, lexR_oi28, lexR_oi29, lexR_oi30, lexR_P, lexR_N, lexR_R, lexR_L, lexR_Z, lexR_si21, lexR_si22, lexR_si23, lexR_si24, lexR_si25, lexR_si26, lexR_sj0]
          · have hle : ¬ fr ≤ a := by rw [hge]; exact fun q => q rfl
            rw [if_neg hle, if_neg (show ¬ lg_cmp (-(lN w)) (-2147483648) < 0 by rw [cmp_lo (by omega)]; omega), if_pos (show lg_cmp (-(lN w)) 2147483647 ≤ 0 by rw [cmp_hi2 (by omega)]; trivial), if_pos rfl]
            simp only [lexR_i21, lexR_i22, lexR_i23, lexR_i24, lexR_i25, lexR_i26, lexR_j0, lexR_oi20, lexR_oi27, lexR_oi28, lexR_oi29, lexR_oi30, lexR_P, lexR_N, lexR_R, lexR_L, lexR_Z, lexR_si21, lexR_si22, lexR_si23, lexR_si24, lexR_si25, lexR_si26, lexR_sj0]
      · have hbig : most < w := by
          by_cases q : dval T 0 fr (e - fr) ≤ 99999999999
          · rw [w3 q]; omega
          · have := w4 (by omega)
            omega
        have hr2 : ∃ x, m156_32 (nI fr) (lexR t f q22 (nI e) 3 (nI a) v qq) = some (lexR t (fb f) (qb f q22 (nI a)) (nI e) 3 (nI a) x qq) := by
          rw [hr]
          cases neg
          · have hle : fr ≤ a := by rw [hge]; exact ff
            rw [if_pos hle, if_neg (show ¬ lg_cmp (lN w) (-2147483648) < 0 by rw [cmp_lo2 (by omega)]; exact not_false), if_neg (show ¬ lg_cmp (lN w) 2147483647 ≤ 0 by rw [cmp_hi (by omega)]; omega), m156_bad]
            exact ⟨_, rfl⟩
          · have hle : ¬ fr ≤ a := by rw [hge]; exact fun q => q rfl
            have : most = 2147483648 := m3.mpr rfl
            rw [if_neg hle, if_pos (show lg_cmp (-(lN w)) (-2147483648) < 0 by rw [cmp_lo (by omega)]; omega), m156_bad]
            exact ⟨_, rfl⟩
        obtain ⟨x, hx⟩ := hr2
        exact Or.inr ⟨_, x, by rw [decide_eq_false y, Bool.and_false, if_neg ff], hx⟩
end LexOk
