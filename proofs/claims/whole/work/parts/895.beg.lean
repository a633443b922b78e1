/-! the reference begins an expression -/
section Beg
variable {T U : List Int32} {n p m N D c : Nat} {s t : xSt} {qr2 qr3 qr4 qr5 qr6 qr7 qr8 qr9 qr10 qr11 qr12 qr13 qr14 qr15 qr16 : List Int32} {qi21 qi22 qi23 qi24 qi25 qi26 qi27 qi28 qi29 qi30 : Int32} {qj0 : Int64} {ql0 ql1 ql2 ql3 : List Int64}
theorem beg_num {k : Int32} (hN : N < 8192) (h8 : qr8.length = 8192) (h9 : qr9.length = 8192) (h10 : qr10.length = 8192) (h11 : qr11.length = 8192) (h12 : qr12.length = 8192) (h13 : qr13.length = 8192) (h14 : qr14.length = 8192) (g2 : ql2.length = 8192) (g3 : ql3.length = 8192) : m169 true k (rdR t qr2 qr3 qr4 qr5 qr6 qr7 qr8 qr9 qr10 qr11 qr12 qr13 qr14 qr15 qr16 qi21 qi22 qi23 3 qi25 qi26 qi27 (nI N) qi29 qi30 qj0 ql0 ql1 ql2 ql3) = some (rdR t qr2 qr3 qr4 qr5 qr6 qr7 (qr8.set N 0) (qr9.set N k) (qr10.set N qi25) (qr11.set N (-1)) (qr12.set N (-1)) (qr13.set N qi30) (qr14.set N qi26) qr15 qr16 qi21 qi22 qi23 3 qi25 qi26 qi27 (nI (N + 1)) qi29 qi30 qj0 ql0 ql1 (ql2.set N 0) (ql3.set N 0)) := by
  unfold m169
  rw [rdR_i24, if_pos rfl, if_pos rfl, m170_eq 0 k hN h8 h9 h10 h11 h12 h13 h14 g2 g3, bs]
  simp only [rdR_r2, rdR_r3, rdR_r4, rdR_r5, rdR_r6, rdR_r7, rdR_r8, rdR_r9, rdR_r10, rdR_r11, rdR_r12, rdR_r13, rdR_r14, rdR_r15, rdR_r16, rdR_i21, rdR_i22, rdR_i23, rdR_i24, rdR_i25, rdR_i26, rdR_i27, rdR_i28, rdR_i29, rdR_i30, rdR_j0, rdR_l0, rdR_l1, rdR_l2, rdR_l3, rdR_or1, rdR_oi20, rdR_P, rdR_N, rdR_Z, rdR_sr2, rdR_sr3, rdR_sr4, rdR_sr5, rdR_sr6, rdR_sr7, rdR_sr8, rdR_sr9, rdR_sr10, rdR_sr11, rdR_sr12, rdR_sr13, rdR_sr14, rdR_sr15, rdR_sr16, rdR_si21, rdR_si22, rdR_si23, rdR_si24, rdR_si25, rdR_si26, rdR_si27, rdR_si28, rdR_si29, rdR_si30, rdR_sj0, rdR_sl0, rdR_sl1, rdR_sl2, rdR_sl3]
  rw [xsPut_n (by omega) (by rw [List.length_set]; omega), bs, List.set_set]
theorem beg_own {k : Int32} (hw : IsWd (rdR t qr2 qr3 qr4 qr5 qr6 qr7 qr8 qr9 qr10 qr11 qr12 qr13 qr14 qr15 qr16 qi21 qi22 qi23 2 qi25 qi26 qi27 (nI N) qi29 qi30 qj0 ql0 ql1 ql2 ql3) 0) (hN : N < 8192) (h8 : qr8.length = 8192) (h9 : qr9.length = 8192) (h10 : qr10.length = 8192) (h11 : qr11.length = 8192) (h12 : qr12.length = 8192) (h13 : qr13.length = 8192) (h14 : qr14.length = 8192) (g2 : ql2.length = 8192) (g3 : ql3.length = 8192) : m169 true k (rdR t qr2 qr3 qr4 qr5 qr6 qr7 qr8 qr9 qr10 qr11 qr12 qr13 qr14 qr15 qr16 qi21 qi22 qi23 2 qi25 qi26 qi27 (nI N) qi29 qi30 qj0 ql0 ql1 ql2 ql3) = some (rdR t qr2 qr3 qr4 qr5 qr6 qr7 (qr8.set N 1) (qr9.set N k) (qr10.set N qi25) (qr11.set N qi25) (qr12.set N (-1)) (qr13.set N qi30) (qr14.set N 0) qr15 qr16 qi21 qi22 qi23 2 qi25 qi26 qi27 (nI (N + 1)) qi29 qi30 qj0 ql0 ql1 (ql2.set N qj0) (ql3.set N 0)) := by
  unfold m169 m169_32
  rw [rdR_i24, if_neg (by decide), if_pos rfl, m160_eq hw (by decide) rfl, bs, if_pos (show decide (0 = 0) = true by decide), m170_eq 1 k hN h8 h9 h10 h11 h12 h13 h14 g2 g3, bs, m171_eq (k := N) hN (by rw [List.length_set]; exact h11) (by rw [List.length_set]; exact g2), bs, List.set_set, List.set_set]
theorem beg_nil {k : Int32} (hw : IsWd (rdR t qr2 qr3 qr4 qr5 qr6 qr7 qr8 qr9 qr10 qr11 qr12 qr13 qr14 qr15 qr16 qi21 qi22 qi23 2 qi25 qi26 qi27 (nI N) qi29 qi30 qj0 ql0 ql1 ql2 ql3) 19) (hN : N < 8192) (h8 : qr8.length = 8192) (h9 : qr9.length = 8192) (h10 : qr10.length = 8192) (h11 : qr11.length = 8192) (h12 : qr12.length = 8192) (h13 : qr13.length = 8192) (h14 : qr14.length = 8192) (g2 : ql2.length = 8192) (g3 : ql3.length = 8192) : m169 true k (rdR t qr2 qr3 qr4 qr5 qr6 qr7 qr8 qr9 qr10 qr11 qr12 qr13 qr14 qr15 qr16 qi21 qi22 qi23 2 qi25 qi26 qi27 (nI N) qi29 qi30 qj0 ql0 ql1 ql2 ql3) = some (rdR t qr2 qr3 qr4 qr5 qr6 qr7 (qr8.set N 2) (qr9.set N k) (qr10.set N qi25) (qr11.set N (-1)) (qr12.set N (-1)) (qr13.set N qi30) (qr14.set N 0) qr15 qr16 qi21 qi22 qi23 2 qi25 qi26 qi27 (nI (N + 1)) qi29 qi30 qj0 ql0 ql1 (ql2.set N 0) (ql3.set N 0)) := by
  unfold m169 m169_32 m169_58
  rw [rdR_i24, if_neg (by decide), if_pos rfl, m160_eq hw (by decide) rfl, bs, if_neg (show ¬ decide (19 = 0) = true by decide), if_pos rfl, hw 34 (by decide), bs, if_pos (show decide (19 = cd 34) = true by decide), m170_eq 2 k hN h8 h9 h10 h11 h12 h13 h14 g2 g3, bs]
theorem beg_bad {k : Int32} {b : Bool} (h4 : ¬ qi24 = 4) (h0 : ¬ qi24 = 0) (hw : IsWd (rdR t qr2 qr3 qr4 qr5 qr6 qr7 qr8 qr9 qr10 qr11 qr12 qr13 qr14 qr15 qr16 0 qi22 qi23 qi24 qi25 qi26 qi27 qi28 qi29 qi30 qj0 ql0 ql1 ql2 ql3) c) (hc : c ≤ 23) (hs : b = true → ¬ qi24 = 3 ∧ ¬ (qi24 = 2 ∧ c = 0) ∧ ¬ c = 19) : m169 b k (rdR t qr2 qr3 qr4 qr5 qr6 qr7 qr8 qr9 qr10 qr11 qr12 qr13 qr14 qr15 qr16 0 qi22 qi23 qi24 qi25 qi26 qi27 qi28 qi29 qi30 qj0 ql0 ql1 ql2 ql3) = some (rdR t qr2 qr3 qr4 qr5 qr6 qr7 qr8 qr9 qr10 qr11 qr12 qr13 qr14 qr15 qr16 2 qi25 qi23 qi24 qi25 qi26 qi27 qi28 qi29 qi30 qj0 ql0 ql1 ql2 ql3) := by
  have e81 : m169_81 b k (rdR t qr2 qr3 qr4 qr5 qr6 qr7 qr8 qr9 qr10 qr11 qr12 qr13 qr14 qr15 qr16 0 qi22 qi23 qi24 qi25 qi26 qi27 qi28 qi29 qi30 qj0 ql0 ql1 ql2 ql3) = some (rdR t qr2 qr3 qr4 qr5 qr6 qr7 qr8 qr9 qr10 qr11 qr12 qr13 qr14 qr15 qr16 2 qi25 qi23 qi24 qi25 qi26 qi27 qi28 qi29 qi30 qj0 ql0 ql1 ql2 ql3) := by
    unfold m169_81 m169_94
    rw [rdR_i24, if_neg h0, m158_f h4, bs, if_neg ff]
  have e58 : m169_58 b k (rdR t qr2 qr3 qr4 qr5 qr6 qr7 qr8 qr9 qr10 qr11 qr12 qr13 qr14 qr15 qr16 0 qi22 qi23 qi24 qi25 qi26 qi27 qi28 qi29 qi30 qj0 ql0 ql1 ql2 ql3) = some (rdR t qr2 qr3 qr4 qr5 qr6 qr7 qr8 qr9 qr10 qr11 qr12 qr13 qr14 qr15 qr16 2 qi25 qi23 qi24 qi25 qi26 qi27 qi28 qi29 qi30 qj0 ql0 ql1 ql2 ql3) := by
    unfold m169_58
    cases b
    · rw [if_neg ff]; exact e81
    · rw [if_pos rfl, hw 34 (by decide), bs, if_neg (fun q : decide (c = cd 34) = true => (hs rfl).2.2 (of_decide_eq_true q))]; exact e81
  have e32 : m169_32 b k (rdR t qr2 qr3 qr4 qr5 qr6 qr7 qr8 qr9 qr10 qr11 qr12 qr13 qr14 qr15 qr16 0 qi22 qi23 qi24 qi25 qi26 qi27 qi28 qi29 qi30 qj0 ql0 ql1 ql2 ql3) = some (rdR t qr2 qr3 qr4 qr5 qr6 qr7 qr8 qr9 qr10 qr11 qr12 qr13 qr14 qr15 qr16 2 qi25 qi23 qi24 qi25 qi26 qi27 qi28 qi29 qi30 qj0 ql0 ql1 ql2 ql3) := by
    unfold m169_32
    cases b
    · rw [if_neg ff]; exact e58
    · rw [if_pos rfl]
      by_cases y : qi24 = 2
      · rw [m160_eq hw hc (by rw [rdR_i24]; exact y), bs, if_neg (fun q : decide (c = 0) = true => (hs rfl).2.1 ⟨y, of_decide_eq_true q⟩)]; exact e58
      · rw [m160_no (by rw [rdR_i24]; exact y), bs, if_neg ff]; exact e58
  unfold m169
  rw [rdR_i24]
  by_cases y : qi24 = 3
  · cases b
    · rw [if_pos y, if_neg ff]; exact e32
    · exact absurd y (hs rfl).1
  · rw [if_neg y]; exact e32
theorem beg_end {k : Int32} {b : Bool} : m169 b k (rdR t qr2 qr3 qr4 qr5 qr6 qr7 qr8 qr9 qr10 qr11 qr12 qr13 qr14 qr15 qr16 0 qi22 qi23 4 qi25 qi26 qi27 qi28 qi29 qi30 qj0 ql0 ql1 ql2 ql3) = some (rdR t qr2 qr3 qr4 qr5 qr6 qr7 qr8 qr9 qr10 qr11 qr12 qr13 qr14 qr15 qr16 3 (gI t 20) qi23 4 qi25 qi26 qi27 qi28 qi29 qi30 qj0 ql0 ql1 ql2 ql3) := by
  have hw : IsWd (rdR t qr2 qr3 qr4 qr5 qr6 qr7 qr8 qr9 qr10 qr11 qr12 qr13 qr14 qr15 qr16 0 qi22 qi23 4 qi25 qi26 qi27 qi28 qi29 qi30 qj0 ql0 ql1 ql2 ql3) 0 := iswd_no (by rw [rdR_i24]; decide)
  have e81 : m169_81 b k (rdR t qr2 qr3 qr4 qr5 qr6 qr7 qr8 qr9 qr10 qr11 qr12 qr13 qr14 qr15 qr16 0 qi22 qi23 4 qi25 qi26 qi27 qi28 qi29 qi30 qj0 ql0 ql1 ql2 ql3) = some (rdR t qr2 qr3 qr4 qr5 qr6 qr7 qr8 qr9 qr10 qr11 qr12 qr13 qr14 qr15 qr16 3 (gI t 20) qi23 4 qi25 qi26 qi27 qi28 qi29 qi30 qj0 ql0 ql1 ql2 ql3) := by
    unfold m169_81 m169_94
    rw [rdR_i24, if_neg (by decide), m158_end, bs, if_neg ff]
  unfold m169 m169_32 m169_58
  rw [rdR_i24, if_neg (by decide)]
  cases b
  · rw [if_neg ff, if_neg ff]; exact e81
  · rw [if_pos rfl, m160_no (by rw [rdR_i24]; decide), bs, if_neg ff, if_pos rfl, hw 34 (by decide), bs, if_neg (show ¬ decide (0 = cd 34) = true by decide)]; exact e81
end Beg
