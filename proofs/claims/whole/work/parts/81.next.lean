/-! the next token of both -/
section Next
variable {T U : List Int32} {n : Nat} {s t : xSt} {f : Int32}
/-- what the next token is: kinds 0 end, 1 bad, 2 (, 3 ), 4 a name, 5 a number -/
theorem next_ok (h : TR T U n) (hT : gR s 0 = T) (hU : gR t 1 = U) (hn : gI t 20 = nI n) {p : Nat} (hp : p ≤ n) {k5 i6 d w8 q22 k24 i25 v : Int32} {jj qq : Int64} : ∃ a e, p ≤ a ∧ a ≤ e ∧ e ≤ n ∧
    ((a = n ∧ e = n ∧ m39 (lexS s (nI p) k5 i6 d w8 jj) = some (lexS s (nI n) 0 (nI n) d 0 jj) ∧ m150 (lexR t f q22 (nI p) k24 i25 v qq) = some (lexR t f q22 (nI n) 4 (nI n) v qq)) ∨
    (a < e ∧ ∃ d' x k q pe, m39 (lexS s (nI p) k5 i6 d w8 jj) = some (lexS s (nI e) 1 (nI a) d' 0 jj) ∧ m150 (lexR t f q22 (nI p) k24 i25 v qq) = some (lexR t (fb f) (qb f q22 (nI a)) pe k (nI a) x q)) ∨
    (a < e ∧ m39 (lexS s (nI p) k5 i6 d w8 jj) = some (lexS s (nI e) 2 (nI a) d 0 jj) ∧ m150 (lexR t f q22 (nI p) k24 i25 v qq) = some (lexR t f q22 (nI e) 0 (nI a) v qq)) ∨
    (a < e ∧ m39 (lexS s (nI p) k5 i6 d w8 jj) = some (lexS s (nI e) 3 (nI a) d 0 jj) ∧ m150 (lexR t f q22 (nI p) k24 i25 v qq) = some (lexR t f q22 (nI e) 1 (nI a) v qq)) ∨
    (a < e ∧ e ≤ a + 12 ∧ allL T a (e - a) = true ∧ (e < n → isL (T.getD e 0) = false) ∧ m39 (lexS s (nI p) k5 i6 d w8 jj) = some (lexS s (nI e) 4 (nI a) d (nI (wcode (seg T a (e - a)))) (encL (seg T a (e - a)))) ∧ m150 (lexR t f q22 (nI p) k24 i25 v qq) = some (lexR t f q22 (nI e) 2 (nI a) v (encL (seg T a (e - a))))) ∨
    (a < e ∧ ∃ x, m39 (lexS s (nI p) k5 i6 d w8 jj) = some (lexS s (nI e) 5 (nI a) x 0 jj) ∧ m150 (lexR t f q22 (nI p) k24 i25 v qq) = some (lexR t f q22 (nI e) 3 (nI a) x qq))) := by
  have hh := h
  obtain ⟨h1, h2, h3, h4⟩ := h
  obtain ⟨a, a1, a2, a3, a4, a5⟩ := lex_skip (s := lexS s (nI p) k5 i6 d w8 jj) (t := lexR t f q22 (nI p) k24 i25 v qq) hh hT hU hn 1000000 p hp (by omega)
  rw [lexS_si4, lexS_si4] at a4
  rw [lexR_si23, lexR_si23] at a5
  have hC : m39 (lexS s (nI p) k5 i6 d w8 jj) = if a < n then (if isW (T.getD a 0) = true then m43 (lexS s (nI a) k5 (nI a) d 0 jj) else if T.getD a 0 = 40 then some (lexS s (nI (a + 1)) 2 (nI a) d 0 jj) else if T.getD a 0 = 41 then some (lexS s (nI (a + 1)) 3 (nI a) d 0 jj) else some (lexS s (nI (a + 1)) 1 (nI a) d 0 jj)) else some (lexS s (nI a) 0 (nI a) d 0 jj) := by
    unfold m39 m40
    rw [a4, bs, show gR (lexS s (nI a) k5 i6 d w8 jj) 0 = T from hT, lexS_i4, h1]
    by_cases z : a < n
    · rw [if_pos (show nI a < nI n by rw [ltN (by omega) (by omega)]; exact z), if_pos z, m41_eq, bs, xsAt_n (by omega)]
      simp only [lexS_i4, lexS_i5, lexS_i6, lexS_i7, lexS_i8, lexS_j0, lexS_oi2, lexS_oi3, lexS_oi9, lexS_oi10, lexS_oi11, lexS_P, lexS_N, lexS_R, lexS_L, lexS_Z, lexS_si4, lexS_si5, lexS_si6, lexS_si7, lexS_si8, lexS_sj0, nI_1]
      cases isW (T.getD a 0)
      · rw [if_neg ff, if_neg ff]
      · rw [if_pos rfl, if_pos rfl, bind_id]
    · rw [if_neg (show ¬ nI a < nI n by rw [ltN (by omega) (by omega)]; exact z), if_neg z]
      simp only [lexS_i4, lexS_i5, lexS_i6, lexS_i7, lexS_i8, lexS_j0, lexS_oi2, lexS_oi3, lexS_oi9, lexS_oi10, lexS_oi11, lexS_P, lexS_N, lexS_R, lexS_L, lexS_Z, lexS_si4, lexS_si5, lexS_si6, lexS_si7, lexS_si8, lexS_sj0]
  have hR : m150 (lexR t f q22 (nI p) k24 i25 v qq) = m150_52 (lexR t f q22 (nI a) k24 i25 v qq) := a5
  by_cases z : a < n
  · rw [if_pos z] at hC
    have hi := h4 a z
    have c1 : (U.getD a 0 = 40) = (T.getD a 0 = 40) := tcr_c hi (by decide) (by decide)
    have c2 : (U.getD a 0 = 41) = (T.getD a 0 = 41) := tcr_c hi (by decide) (by decide)
    have hR2 : m150_52 (lexR t f q22 (nI a) k24 i25 v qq) = if T.getD a 0 = 40 then some (lexR t f q22 (nI (a + 1)) 0 (nI a) v qq) else if T.getD a 0 = 41 then some (lexR t f q22 (nI (a + 1)) 1 (nI a) v qq) else m150_139 1000000 (lexR t f q22 (nI a) k24 (nI a) v qq) := by
      unfold m150_52
      rw [lexR_i23, show gI (lexR t f q22 (nI a) k24 i25 v qq) 20 = nI n from hn, if_neg (by rw [eqN (by omega) (by omega)]; omega), show gR (lexR t f q22 (nI a) k24 i25 v qq) 1 = U from hU, xsGet_d (by omega) (by omega), bs, bs]
      unfold m150_105
      simp only [c1, c2, lexR_i21, lexR_i22, lexR_i23, lexR_i24, lexR_i25, lexR_i26, lexR_j0, lexR_oi20, lexR_oi27, lexR_oi28, lexR_oi29, lexR_oi30, lexR_P, lexR_N, lexR_R, lexR_L, lexR_Z, lexR_si21, lexR_si22, lexR_si23, lexR_si24, lexR_si25, lexR_si26, lexR_sj0]
      rw [hU, xsGet_d (by omega) (by omega), bs]
      simp only [c1, nI_1]
      by_cases y1 : T.getD a 0 = 40
      · simp only [y1, reduceIte]
      · by_cases y2 : T.getD a 0 = 41
        · simp (decide := true) only [y2, reduceIte]
        · simp only [y1, y2, reduceIte]
    rw [hR2] at hR
    cases hw : isW (T.getD a 0)
    · rw [hw, if_neg ff] at hC
      by_cases y1 : T.getD a 0 = 40
      · rw [if_pos y1] at hC hR
        exact ⟨a, a + 1, a1, by omega, by omega, Or.inr (Or.inr (Or.inl ⟨by omega, hC, hR⟩))⟩
      · rw [if_neg y1] at hC hR
        by_cases y2 : T.getD a 0 = 41
        · rw [if_pos y2] at hC hR
          exact ⟨a, a + 1, a1, by omega, by omega, Or.inr (Or.inr (Or.inr (Or.inl ⟨by omega, hC, hR⟩)))⟩
        · rw [if_neg y2] at hC hR
          have hb : m150_139 1000000 (lexR t f q22 (nI a) k24 (nI a) v qq) = some (lexR t (fb f) (qb f q22 (nI a)) (nI a) k24 (nI a) v qq) := by
            rw [show (1000000 : Nat) = 999999 + 1 from rfl]
            unfold m150_139
            rw [lexR_i23, m151_eq (t := lexR t f q22 (nI a) k24 (nI a) v qq) (k := a) hh hU hn (by omega), bs, hw, Bool.and_false, if_neg ff, lexR_i23, lexR_i25, if_pos rfl, bind_id]
            unfold m154 fb qb
            rw [lexR_i21]
            by_cases z9 : f = 0
            · rw [if_pos z9, if_pos z9, if_pos z9]
              simp only [lexR_i21, lexR_i22, lexR_i23, lexR_i24, lexR_i25, lexR_i26, lexR_j0, lexR_oi20, lexR_oi27, lexR_oi28, lexR_oi29, lexR_oi30, lexR_P, lexR_N, lexR_R, lexR_L, lexR_Z, lexR_si21, lexR_si22, lexR_si23, lexR_si24, lexR_si25, lexR_si26, lexR_sj0]
            · rw [if_neg z9, if_neg z9, if_neg z9]
          rw [hb] at hR
          exact ⟨a, a + 1, a1, by omega, by omega, Or.inr (Or.inl ⟨by omega, _, _, _, _, _, hC, hR⟩)⟩
    · rw [hw, if_pos rfl] at hC
      have n1 : ¬ T.getD a 0 = 40 := fun q => by rw [q] at hw; exact absurd hw (by decide)
      have n2 : ¬ T.getD a 0 = 41 := fun q => by rw [q] at hw; exact absurd hw (by decide)
      rw [if_neg n1, if_neg n2] at hR
      obtain ⟨e, e1, e2, e3, e4, e5, e6⟩ := lex_word (s := lexS s (nI a) k5 (nI a) d 0 jj) (t := lexR t f q22 (nI a) k24 (nI a) v qq) hh hT hU hn 1000000 a (by omega) (by omega)
      rw [lexS_si4, lexS_si4] at e5
      rw [lexR_si23, lexR_si23] at e6
      have hae : a < e := by
        by_cases y : e = a
        · rw [y] at e4
          have := e4 z
          rw [hw] at this
          cases this
        · omega
      unfold m43 at hC
      rw [e5] at hC
      rw [e6] at hR
      rcases word_ok (f := f) hh hT hU hae e2 e3 e4 (k5 := k5) (d := d) (q22 := q22) (v := v) (k24 := k24) (jj := jj) (qq := qq) with ⟨x1, x2, x3, x4⟩ | ⟨x, x1, x2⟩ | ⟨d', x, k, q, x1, x2⟩
      · rw [x3] at hC
        rw [x4] at hR
        refine ⟨a, e, a1, by omega, e2, Or.inr (Or.inr (Or.inr (Or.inr (Or.inl ⟨hae, x1, x2, fun y => ?_, hC, hR⟩))))⟩
        have := e4 y
        unfold isW at this
        cases u : isL (T.getD e 0)
        · rfl
        · rw [u] at this
          cases this
      · rw [x1] at hC
        rw [x2] at hR
        exact ⟨a, e, a1, by omega, e2, Or.inr (Or.inr (Or.inr (Or.inr (Or.inr ⟨hae, x, hC, hR⟩))))⟩
      · rw [x1] at hC
        rw [x2] at hR
        exact ⟨a, e, a1, by omega, e2, Or.inr (Or.inl ⟨hae, _, _, _, _, _, hC, hR⟩)⟩
  · rw [if_neg z] at hC
    obtain rfl : a = n := by omega
    refine ⟨a, a, a1, Nat.le_refl _, Nat.le_refl _, Or.inl ⟨rfl, rfl, hC, ?_⟩⟩
    rw [hR]
    unfold m150_52
    rw [lexR_i23, show gI (lexR t f q22 (nI a) k24 i25 v qq) 20 = nI a from hn, if_pos rfl]
    simp only [lexR_i21, lexR_i22, lexR_i23, lexR_i24, lexR_i25, lexR_i26, lexR_j0, lexR_oi20, lexR_oi27, lexR_oi28, lexR_oi29, lexR_oi30, lexR_P, lexR_N, lexR_R, lexR_L, lexR_Z, lexR_si21, lexR_si22, lexR_si23, lexR_si24, lexR_si25, lexR_si26, lexR_sj0]
end Next
