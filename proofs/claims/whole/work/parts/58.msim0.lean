/-! the loops of both machines, turn by turn -/
section ML
variable {s : xSt} {N P V Sl Hd Tl : List Int32} {b nx : Int32}
theorem cl_begin {F X c st : Nat} (hX : X < 1000000) (hs : st ≤ 6000) (hN : N.length < 2 ^ 30) (hc : c < 2 ^ 30) : m115_r78_43 (F + 1) (nI X) (cS s N P V Sl Hd Tl b (nI c) (nI st)) = (m120 (nI c) (cS s N P V Sl Hd Tl b (nI c) (nI st))).bind fun q => m115_r78_43 F (nI (X + 1)) q := by
  conv => lhs; unfold m115_r78_43
  rw [if_neg (by rw [geL_1000000 (by omega)]; omega), mc119 (by omega) (by omega), bs, if_pos (decide_eq_true ⟨hs, Or.inl (fun e => nI_pos (by omega : c < 2 ^ 31) (by rw [e]; decide))⟩), cS_i13, if_neg (fun e => nI_pos (by omega : c < 2 ^ 31) (by rw [e]; decide)), nI_1]
theorem cl_go {F X st : Nat} (hX : X < 1000000) (hs : st ≤ 6000) (hN : N.length < 2 ^ 30) (hne : N ≠ []) : m115_r78_43 (F + 1) (nI X) (cS s N P V Sl Hd Tl b (-1) (nI st)) = (m121 (cS s N P V Sl Hd Tl b (-1) (nI st))).bind fun q => m115_r78_43 F (nI (X + 1)) q := by
  conv => lhs; unfold m115_r78_43
  rw [if_neg (by rw [geL_1000000 (by omega)]; omega), mc119 (by omega) (by omega), bs, if_pos (decide_eq_true ⟨hs, Or.inr hne⟩), cS_i13, if_pos rfl, nI_1]
theorem cl_end {F X st : Nat} (hX : X < 1000000) (hs : st < 7000) (hN : N.length < 2 ^ 30) (he : ¬ (st ≤ 6000 ∧ (nx ≠ -1 ∨ N ≠ []))) : m115_r78_43 (F + 1) (nI X) (cS s N P V Sl Hd Tl b nx (nI st)) = some (decide (st ≤ 6000), cS s N P V Sl Hd Tl b nx (nI st)) := by
  conv => lhs; unfold m115_r78_43
  rw [if_neg (by rw [geL_1000000 (by omega)]; omega), mc119 hs (by omega), bs, decide_eq_false he, if_neg (fun h : false = true => by cases h)]
  show m115_r78_85 (cS s N P V Sl Hd Tl b nx (nI st)) = _
  unfold m115_r78_85
  rw [cS_i14]
  by_cases z : 6000 < st
  · rw [if_pos (by rw [gtL_6000 (by omega)]; exact z), decide_eq_false (by omega)]
  · rw [if_neg (by rw [gtL_6000 (by omega)]; exact z), decide_eq_true (by omega)]
end ML
section ML2
variable {t : xSt} {hds tls hd vars wn wp wb ops : List Int32} {cl md rb wt om nw : Int32}
theorem rl_begin {n k c : Nat} (hk : k < 2 ^ 30) (hc : c ≤ 6000) : m211_105 (n + 1) (rS t hds tls hd vars wn wp wb ops cl md rb wt om (nI c) (nI k)) = (m214 (nI k) (rS t hds tls hd vars wn wp wb ops cl md rb wt om (nI c) (nI k))).bind fun q => m211_105 n q := by
  conv => lhs; unfold m211_105
  rw [rS_i17, rS_i18, if_neg (by rw [gtL_6000 (by omega)]; omega), if_pos (by rw [geL_0 (by omega)]; omega)]
  unfold m211_129
  rw [rS_i18, if_neg (nI_pos (by omega))]
theorem rl_go {n W c : Nat} {k i rv : Nat} (hW : W < 12100) (hc : c ≤ 6000) (h1 : wn.length = 12100) (h2 : wp.length = 12100) (h3 : wb.length = 12100) (e1 : wn.getD W 0 = nI k) (e2 : wp.getD W 0 = nI i) (e3 : wb.getD W 0 = nI rv) : m211_105 (n + 1) (rS t hds tls hd vars wn wp wb ops cl md rb (nI (W + 1)) om (nI c) (-1)) = (m219 (nI k) (nI i) (rS t hds tls hd vars wn wp wb ops cl md (nI rv) (nI W) om (nI c) (-1))).bind fun q => m211_105 n q := by
  conv => lhs; unfold m211_105
  rw [rS_i17, rS_i18, rS_i15, if_neg (by rw [gtL_6000 (by omega)]; omega), if_neg (by decide), if_neg (by rw [leL_0 (by omega)]; omega)]
  unfold m211_129
  rw [rS_i18, if_pos (by decide)]
  rw [rS_i15, nI_pred, rS_g52, xsGet_d (by omega) (by omega), bs, rS_g54, xsGet_d (by omega) (by omega), bs, rS_g53, xsGet_d (by omega) (by omega), bs, e1, e2, e3, rS_t15, rS_t14]
theorem rl_end {n c W : Nat} (hc : c < 7000) (hW : W < 2 ^ 30) (he : 6000 < c ∨ (nw < 0 ∧ W = 0)) : m211_105 (n + 1) (rS t hds tls hd vars wn wp wb ops cl md rb (nI W) om (nI c) nw) = some (decide (c ≤ 6000), rS t hds tls hd vars wn wp wb ops cl md rb (nI W) om (nI c) nw) := by
  have e : m211_199 (rS t hds tls hd vars wn wp wb ops cl md rb (nI W) om (nI c) nw) = some (decide (c ≤ 6000), rS t hds tls hd vars wn wp wb ops cl md rb (nI W) om (nI c) nw) := by
    unfold m211_199
    rw [rS_i17]
    by_cases z : 6000 < c
    · rw [if_pos (by rw [gtL_6000 (by omega)]; exact z), decide_eq_false (by omega)]
    · rw [if_neg (by rw [gtL_6000 (by omega)]; exact z), decide_eq_true (by omega)]
  conv => lhs; unfold m211_105
  rw [rS_i17, rS_i18, rS_i15]
  by_cases z : 6000 < c
  · rw [if_pos (by rw [gtL_6000 (by omega)]; exact z)]
    exact e
  · rw [if_neg (by rw [gtL_6000 (by omega)]; exact z)]
    rcases he with he | ⟨h1, h2⟩
    · exact absurd he z
    · subst h2
      rw [if_neg (fun h => Int32.lt_irrefl (Int32.lt_of_lt_of_le h1 h)), if_pos (by decide)]
      exact e
end ML2
