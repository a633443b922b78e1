/-! the edits as calls -/
def RE (s t : xSt) : Prop := (gR s 15).length ≤ 64 ∧ gI t 8 = nI (gR s 15).length ∧ ArrR (gR t 46) (gR s 15) ∧ (gR t 46).length = 64 ∧ ∃ k, k ≤ 32 ∧ gI s 15 = nI k ∧ gI t 9 = nI k
def SF (s s' : xSt) : Prop := ∃ x y, s' = sI (sR s 15 x) 15 y
def TF (t t' : xSt) : Prop := ∃ x b c, t' = sR (sI (sI (sI t 0 0) 8 b) 9 c) 46 x
section Calls
variable {s t : xSt}
theorem sf_id (s : xSt) : SF s s := ⟨gR s 15, gI s 15, by rw [sR_id, sI_id]⟩
theorem tf_id (t : xSt) : TF t (sI t 0 0) := by
  refine ⟨gR t 46, gI t 8, gI t 9, ?_⟩
  have e1 : sI (sI t 0 0) 8 (gI t 8) = sI t 0 0 := sI_id (sI t 0 0) 8
  have e2 : sI (sI t 0 0) 9 (gI t 9) = sI t 0 0 := sI_id (sI t 0 0) 9
  have e3 : sR (sI t 0 0) 46 (gR t 46) = sI t 0 0 := sR_id (sI t 0 0) 46
  rw [e1, e2, e3]
theorem m27_eq {k : Nat} (hk : k ≤ 32) (h : gI s 15 = nI k) : m27 s = some (decide (k = 32), s) := by
  unfold m27
  rw [h]
  simp (disch := omega) only [eqL_0, eqL_1, eqL_2, eqL_3, eqL_4, eqL_5, eqL_6, eqL_7, eqL_8, eqL_9, eqL_10, eqL_11, eqL_12, eqL_13, eqL_14, eqL_15, eqL_16, eqL_17, eqL_18, eqL_19, eqL_20, eqL_21, eqL_22, eqL_23, eqL_24, eqL_25, eqL_26, eqL_27, eqL_28, eqL_29, eqL_30, eqL_31, eqL_32, leL_0, geL_0, ltL_0, gtL_0, leL_1, geL_1, ltL_1, gtL_1, leL_2, geL_2, ltL_2, gtL_2, leL_3, geL_3, ltL_3, gtL_3, leL_8, geL_8, ltL_8, gtL_8, leL_9, geL_9, ltL_9, gtL_9, leL_10, geL_10, ltL_10, gtL_10, leL_11, geL_11, ltL_11, gtL_11, leL_12, geL_12, ltL_12, gtL_12, leL_17, geL_17, ltL_17, gtL_17, leL_18, geL_18, ltL_18, gtL_18, leL_23, geL_23, ltL_23, gtL_23, leL_24, geL_24, ltL_24, gtL_24, leL_26, geL_26, ltL_26, gtL_26, leL_31, geL_31, ltL_31, gtL_31, leL_32, geL_32, ltL_32, gtL_32, leL_48, geL_48, ltL_48, gtL_48, leL_57, geL_57, ltL_57, gtL_57, leL_63, geL_63, ltL_63, gtL_63, leL_64, geL_64, ltL_64, gtL_64, leL_97, geL_97, ltL_97, gtL_97, leL_122, geL_122, ltL_122, gtL_122, leL_4096, geL_4096, ltL_4096, gtL_4096, leL_6000, geL_6000, ltL_6000, gtL_6000, leL_8192, geL_8192, ltL_8192, gtL_8192, leL_1000000, geL_1000000, ltL_1000000, gtL_1000000, eqN, leN, ltN, nI_ne1, m1_ne, eqL_64]
  by_cases z : k < 32
  · rw [if_pos z, decide_eq_false (by omega)]
  · rw [if_neg z, decide_eq_true (by omega)]
theorem re_0 (h : RE s t) : RE s (sI t 0 0) := h
/-- insertAhead -/
theorem ins_ok (h : RE s t) (a1 a2 : Int32) : ∃ b s' t', m137 a1 a2 s = some (b, s') ∧ m224 a1 a2 t = some (b, t') ∧ RE s' t' ∧ SF s s' ∧ TF t t' := by
  have hh := h
  obtain ⟨h1, h2, h3, h4, k, h5, h6, h7⟩ := h
  unfold m137 m26 m224
  rw [m27_eq h5 h6, bs, h2, h7]
  simp (disch := omega) only [eqL_0, eqL_1, eqL_2, eqL_3, eqL_4, eqL_5, eqL_6, eqL_7, eqL_8, eqL_9, eqL_10, eqL_11, eqL_12, eqL_13, eqL_14, eqL_15, eqL_16, eqL_17, eqL_18, eqL_19, eqL_20, eqL_21, eqL_22, eqL_23, eqL_24, eqL_25, eqL_26, eqL_27, eqL_28, eqL_29, eqL_30, eqL_31, eqL_32, leL_0, geL_0, ltL_0, gtL_0, leL_1, geL_1, ltL_1, gtL_1, leL_2, geL_2, ltL_2, gtL_2, leL_3, geL_3, ltL_3, gtL_3, leL_8, geL_8, ltL_8, gtL_8, leL_9, geL_9, ltL_9, gtL_9, leL_10, geL_10, ltL_10, gtL_10, leL_11, geL_11, ltL_11, gtL_11, leL_12, geL_12, ltL_12, gtL_12, leL_17, geL_17, ltL_17, gtL_17, leL_18, geL_18, ltL_18, gtL_18, leL_23, geL_23, ltL_23, gtL_23, leL_24, geL_24, ltL_24, gtL_24, leL_26, geL_26, ltL_26, gtL_26, leL_31, geL_31, ltL_31, gtL_31, leL_32, geL_32, ltL_32, gtL_32, leL_48, geL_48, ltL_48, gtL_48, leL_57, geL_57, ltL_57, gtL_57, leL_63, geL_63, ltL_63, gtL_63, leL_64, geL_64, ltL_64, gtL_64, leL_97, geL_97, ltL_97, gtL_97, leL_122, geL_122, ltL_122, gtL_122, leL_4096, geL_4096, ltL_4096, gtL_4096, leL_6000, geL_6000, ltL_6000, gtL_6000, leL_8192, geL_8192, ltL_8192, gtL_8192, leL_1000000, geL_1000000, ltL_1000000, gtL_1000000, eqN, leN, ltN, nI_ne1, m1_ne, eqL_64]
  have no : ∃ b s' t', some (false, s) = some (b, s') ∧ some (false, sI t 0 0) = some (b, t') ∧ RE s' t' ∧ SF s s' ∧ TF t t' := ⟨false, s, sI t 0 0, rfl, rfl, re_0 hh, sf_id s, tf_id t⟩
  by_cases z0 : k = 32
  · rw [decide_eq_true z0, if_pos rfl, bs]
    simp only [z0, reduceIte]
    by_cases z1 : a1 < 0
    · rw [if_pos z1]; exact no
    · rw [if_neg z1]
      by_cases z2 : nI (gR s 15).length < a1
      · rw [if_pos z2]; exact no
      · rw [if_neg z2]
        by_cases z3 : (gR s 15).length = 64
        · rw [if_pos z3]; exact no
        · rw [if_neg z3]; exact no
  · rw [decide_eq_false z0, if_neg ff]
    simp only [z0, reduceIte]
    by_cases z1 : a1 < 0
    · rw [if_pos z1, if_pos z1, bs]; exact no
    · rw [if_neg z1, if_neg z1]
      by_cases z2 : nI (gR s 15).length < a1
      · rw [if_pos z2, if_pos z2, bs]; exact no
      · rw [if_neg z2, if_neg z2]
        by_cases z3 : (gR s 15).length = 64
        · rw [if_pos z3, if_neg (by omega), bs]; exact no
        · rw [if_neg z3, if_pos (by omega)]
          obtain ⟨i, hi, rfl⟩ := iv_n z1
          have hi2 : i ≤ (gR s 15).length := by
            rw [ltN (by omega) hi] at z2
            omega
          rw [xsPush_n (by omega), List.length_append]
          obtain ⟨zs', ys', e1, e2, e3, e4, e5⟩ := ins_lock (s := s) (t := sI t 0 0) a2 i 1000000 (gR s 15).length (gR s 15 ++ [a2]) (gR t 46) hi2 (by rw [List.length_append]; show _ < _ + 1; omega) (by rw [List.length_append]; show _ + 1 ≤ _; omega) h4 (fun j hj hne => by
            rw [List.length_append] at hj
            have hj : j < (gR s 15).length + 1 := hj
            rw [getD_push, if_neg hne]
            exact h3.2 j (by omega)) (by rw [getD_push, if_pos rfl]) (by omega)
          have eT : sR (sI t 0 0) 46 (gR t 46) = sI t 0 0 := sR_id (sI t 0 0) 46
          rw [eT] at e2
          rw [show nI ((gR s 15).length + [a2].length) - 1 = nI (gR s 15).length from nI_pred _, e1, e2, bs]
          rw [List.length_append] at e3
          have e3 : zs'.length = (gR s 15).length + 1 := e3
          refine ⟨true, _, _, rfl, rfl, ⟨by show zs'.length ≤ 64; omega, ?_, e5, e4, k + 1, by omega, ?_, ?_⟩, ⟨zs', _, rfl⟩, ⟨ys', _, _, rfl⟩⟩
          · show gI t 8 + 1 = nI zs'.length
            rw [h2, nI_1, e3]
          · show gI s 15 + 1 = nI (k + 1)
            rw [h6, nI_1]
          · show gI t 9 + 1 = nI (k + 1)
            rw [h7, nI_1]
/-- replaceAt -/
theorem rep_ok (h : RE s t) (a1 a2 : Int32) : ∃ b s' t', m138 a1 a2 s = some (b, s') ∧ m225 a1 a2 t = some (b, t') ∧ RE s' t' ∧ SF s s' ∧ TF t t' := by
  have hh := h
  obtain ⟨h1, h2, h3, h4, k, h5, h6, h7⟩ := h
  unfold m138 m29 m225 m30
  rw [m27_eq h5 h6, bs, h2, h7]
  simp (disch := omega) only [eqL_0, eqL_1, eqL_2, eqL_3, eqL_4, eqL_5, eqL_6, eqL_7, eqL_8, eqL_9, eqL_10, eqL_11, eqL_12, eqL_13, eqL_14, eqL_15, eqL_16, eqL_17, eqL_18, eqL_19, eqL_20, eqL_21, eqL_22, eqL_23, eqL_24, eqL_25, eqL_26, eqL_27, eqL_28, eqL_29, eqL_30, eqL_31, eqL_32, leL_0, geL_0, ltL_0, gtL_0, leL_1, geL_1, ltL_1, gtL_1, leL_2, geL_2, ltL_2, gtL_2, leL_3, geL_3, ltL_3, gtL_3, leL_8, geL_8, ltL_8, gtL_8, leL_9, geL_9, ltL_9, gtL_9, leL_10, geL_10, ltL_10, gtL_10, leL_11, geL_11, ltL_11, gtL_11, leL_12, geL_12, ltL_12, gtL_12, leL_17, geL_17, ltL_17, gtL_17, leL_18, geL_18, ltL_18, gtL_18, leL_23, geL_23, ltL_23, gtL_23, leL_24, geL_24, ltL_24, gtL_24, leL_26, geL_26, ltL_26, gtL_26, leL_31, geL_31, ltL_31, gtL_31, leL_32, geL_32, ltL_32, gtL_32, leL_48, geL_48, ltL_48, gtL_48, leL_57, geL_57, ltL_57, gtL_57, leL_63, geL_63, ltL_63, gtL_63, leL_64, geL_64, ltL_64, gtL_64, leL_97, geL_97, ltL_97, gtL_97, leL_122, geL_122, ltL_122, gtL_122, leL_4096, geL_4096, ltL_4096, gtL_4096, leL_6000, geL_6000, ltL_6000, gtL_6000, leL_8192, geL_8192, ltL_8192, gtL_8192, leL_1000000, geL_1000000, ltL_1000000, gtL_1000000, eqN, leN, ltN, nI_ne1, m1_ne, eqL_64]
  have no : ∃ b s' t', some (false, s) = some (b, s') ∧ some (false, sI t 0 0) = some (b, t') ∧ RE s' t' ∧ SF s s' ∧ TF t t' := ⟨false, s, sI t 0 0, rfl, rfl, re_0 hh, sf_id s, tf_id t⟩
  by_cases z1 : a1 < 0
  · rw [if_pos z1, if_pos z1]
    by_cases z0 : k = 32
    · rw [decide_eq_true z0, if_pos rfl, bs]; exact no
    · rw [decide_eq_false z0, if_neg ff, bs, if_neg ff, bs]; exact no
  · rw [if_neg z1, if_neg z1]
    obtain ⟨i, hi, rfl⟩ := iv_n z1
    simp (disch := omega) only [eqL_0, eqL_1, eqL_2, eqL_3, eqL_4, eqL_5, eqL_6, eqL_7, eqL_8, eqL_9, eqL_10, eqL_11, eqL_12, eqL_13, eqL_14, eqL_15, eqL_16, eqL_17, eqL_18, eqL_19, eqL_20, eqL_21, eqL_22, eqL_23, eqL_24, eqL_25, eqL_26, eqL_27, eqL_28, eqL_29, eqL_30, eqL_31, eqL_32, leL_0, geL_0, ltL_0, gtL_0, leL_1, geL_1, ltL_1, gtL_1, leL_2, geL_2, ltL_2, gtL_2, leL_3, geL_3, ltL_3, gtL_3, leL_8, geL_8, ltL_8, gtL_8, leL_9, geL_9, ltL_9, gtL_9, leL_10, geL_10, ltL_10, gtL_10, leL_11, geL_11, ltL_11, gtL_11, leL_12, geL_12, ltL_12, gtL_12, leL_17, geL_17, ltL_17, gtL_17, leL_18, geL_18, ltL_18, gtL_18, leL_23, geL_23, ltL_23, gtL_23, leL_24, geL_24, ltL_24, gtL_24, leL_26, geL_26, ltL_26, gtL_26, leL_31, geL_31, ltL_31, gtL_31, leL_32, geL_32, ltL_32, gtL_32, leL_48, geL_48, ltL_48, gtL_48, leL_57, geL_57, ltL_57, gtL_57, leL_63, geL_63, ltL_63, gtL_63, leL_64, geL_64, ltL_64, gtL_64, leL_97, geL_97, ltL_97, gtL_97, leL_122, geL_122, ltL_122, gtL_122, leL_4096, geL_4096, ltL_4096, gtL_4096, leL_6000, geL_6000, ltL_6000, gtL_6000, leL_8192, geL_8192, ltL_8192, gtL_8192, leL_1000000, geL_1000000, ltL_1000000, gtL_1000000, eqN, leN, ltN, nI_ne1, m1_ne, eqL_64]
    by_cases z2 : (gR s 15).length ≤ i
    · rw [if_pos z2]
      by_cases z0 : k = 32
      · rw [decide_eq_true z0, if_pos rfl, bs]; exact no
      · rw [decide_eq_false z0, if_neg ff]
        by_cases z3 : (gR s 15).length < i
        · rw [if_pos z3, bs, if_neg ff, bs]; exact no
        · obtain rfl : i = (gR s 15).length := by omega
          rw [if_neg z3, nI_subI (Nat.le_refl _), Nat.sub_self, if_pos (by decide), bs, if_neg ff, bs]; exact no
    · rw [if_neg z2]
      by_cases z0 : k = 32
      · rw [decide_eq_true z0, if_pos rfl, bs, if_pos z0]; exact no
      · rw [decide_eq_false z0, if_neg ff, if_neg (by omega), nI_subI (by omega), if_neg (by rw [ltL_1 (by omega)]; omega), bs, if_pos rfl, bs, if_neg z0, xsSet_n hi, xsPut_n hi (by omega), bs]
        refine ⟨true, _, _, rfl, rfl, ⟨by show ((gR s 15).set i a2).length ≤ 64; rw [List.length_set]; exact h1, by show gI t 8 = nI ((gR s 15).set i a2).length; rw [List.length_set]; exact h2, arR_set h3 i a2 (by omega), by show ((gR t 46).set i a2).length = 64; rw [List.length_set]; exact h4, k + 1, by omega, ?_, ?_⟩, ⟨(gR s 15).set i a2, gI s 15 + 1, rfl⟩, ⟨(gR t 46).set i a2, gI t 8, nI k + 1, ?_⟩⟩
        · show gI s 15 + 1 = nI (k + 1)
          rw [h6, nI_1]
        · show nI k + 1 = nI (k + 1)
          rw [nI_1]
        · rw [show sI (sI t 0 0) 8 (gI t 8) = sI t 0 0 from sI_id (sI t 0 0) 8]
          rfl
/-- the part of the draft that deleteFrom and reverseFrom speak of -/
theorem part_ok (h : RE s t) (a1 a2 : Int32) {l : Nat} (hl : 1 ≤ l ∧ l ≤ 2) : (∃ i m k, a1 = nI i ∧ a2 = nI m ∧ l ≤ m ∧ i + m ≤ (gR s 15).length ∧ k < 32 ∧ gI s 15 = nI k ∧ gI t 9 = nI k ∧ m27 s = some (false, s) ∧ ¬ a2 < nI l ∧ m30 a1 a2 s = some (true, s) ∧ m227 a1 a2 (nI l) (sI t 0 0) = some (true, sI t 0 0)) ∨
    ((m27 s = some (true, s) ∨ (m27 s = some (false, s) ∧ (a2 < nI l ∨ (¬ a2 < nI l ∧ m30 a1 a2 s = some (false, s))))) ∧ m227 a1 a2 (nI l) (sI t 0 0) = some (false, sI t 0 0)) := by
  obtain ⟨h1, h2, h3, h4, k, h5, h6, h7⟩ := h
  have g8 : gI (sI t 0 0) 8 = nI (gR s 15).length := h2
  have g9 : gI (sI t 0 0) 9 = nI k := h7
  have e27 := m27_eq h5 h6
  by_cases y1 : a2 < nI l
  · refine Or.inr ⟨?_, by unfold m227; rw [if_pos y1]⟩
    by_cases z0 : k = 32
    · rw [decide_eq_true z0] at e27; exact Or.inl e27
    · rw [decide_eq_false z0] at e27; exact Or.inr ⟨e27, Or.inl y1⟩
  · have y2 : ¬ a2 < 0 := fun q => y1 (Int32.lt_trans q (by rcases (show l = 1 ∨ l = 2 by omega) with rfl | rfl <;> decide))
    obtain ⟨m, hm, rfl⟩ := iv_n y2
    have y1' := y1
    rw [ltN (by omega) (by omega)] at y1'
    by_cases z1 : a1 < 0
    · have e30 : m30 a1 (nI m) s = some (false, s) := by unfold m30; rw [if_pos z1]
      refine Or.inr ⟨?_, by unfold m227; rw [if_neg y1, if_pos z1]⟩
      by_cases z0 : k = 32
      · rw [decide_eq_true z0] at e27; exact Or.inl e27
      · rw [decide_eq_false z0] at e27; exact Or.inr ⟨e27, Or.inr ⟨y1, e30⟩⟩
    · obtain ⟨i, hi, rfl⟩ := iv_n z1
      by_cases z2 : i + m ≤ (gR s 15).length
      · have e30 : m30 (nI i) (nI m) s = some (true, s) := by
          unfold m30
          rw [if_neg z1, if_neg (by rw [ltN (by omega) (by omega)]; omega), nI_subI (by omega), if_neg (by rw [ltN (by omega) (by omega)]; omega)]
        by_cases z0 : k = 32
        · rw [decide_eq_true z0] at e27
          refine Or.inr ⟨Or.inl e27, ?_⟩
          unfold m227
          rw [if_neg y1, if_neg z1, g8, nI_subI (by omega), if_neg (by rw [ltN (by omega) (by omega)]; omega), if_neg (by rw [ltN (by omega) (by omega)]; omega), g9, if_pos (by rw [geL_32 (by omega)]; omega)]
        · rw [decide_eq_false z0] at e27
          refine Or.inl ⟨i, m, k, rfl, rfl, by omega, z2, by omega, h6, h7, e27, y1, e30, ?_⟩
          unfold m227
          rw [if_neg y1, if_neg z1, g8, nI_subI (by omega), if_neg (by rw [ltN (by omega) (by omega)]; omega), if_neg (by rw [ltN (by omega) (by omega)]; omega), g9, if_neg (by rw [geL_32 (by omega)]; omega)]
      · have e30 : m30 (nI i) (nI m) s = some (false, s) := by
          unfold m30
          rw [if_neg z1]
          by_cases z3 : (gR s 15).length < i
          · rw [if_pos (by rw [ltN (by omega) (by omega)]; omega)]
          · rw [if_neg (by rw [ltN (by omega) (by omega)]; omega), nI_subI (by omega), if_pos (by rw [ltN (by omega) (by omega)]; omega)]
        refine Or.inr ⟨?_, ?_⟩
        · by_cases z0 : k = 32
          · rw [decide_eq_true z0] at e27; exact Or.inl e27
          · rw [decide_eq_false z0] at e27; exact Or.inr ⟨e27, Or.inr ⟨y1, e30⟩⟩
        · unfold m227
          rw [if_neg y1, if_neg z1, g8]
          by_cases z3 : m ≤ (gR s 15).length
          · rw [nI_subI z3, if_pos (by rw [ltN (by omega) (by omega)]; omega)]
          · by_cases z4 : nI (gR s 15).length - nI m < nI i
            · rw [if_pos z4]
            · rw [if_neg z4, if_pos (by rw [ltN (by omega) (by omega)]; omega)]
theorem del_ok (h : RE s t) (a1 a2 : Int32) : ∃ b s' t', m139 a1 a2 s = some (b, s') ∧ m226 a1 a2 t = some (b, t') ∧ RE s' t' ∧ SF s s' ∧ TF t t' := by
  have hh := h
  unfold m139 m31 m226
  rcases part_ok h a1 a2 (l := 1) (by decide) with ⟨i, m, k, rfl, rfl, p3, p4, p5, p6, p7, p8, p9, p10, p11⟩ | ⟨p1, p2⟩
  · obtain ⟨h1, h2, h3, h4, -⟩ := h
    rw [p8, bs, if_neg ff, show (1 : Int32) = nI 1 from rfl, if_neg p9, p10, bs, if_pos rfl, p11, bs, if_pos rfl, nI_subI (a := (gR s 15).length) (b := m) (by omega)]
    obtain ⟨zs', ys', e1, e2, e3, e4, e5⟩ := del_lock (s := s) (t := sI t 0 0) m ((gR s 15).length - m) (by omega) 1000000 i (gR s 15) (gR t 46) (by omega) (by omega) h4 h3 (by omega) (by omega) (by show gI t 8 = _; rw [h2]; congr 1; omega)
    have eT : sR (sI t 0 0) 46 (gR t 46) = sI t 0 0 := sR_id (sI t 0 0) 46
    rw [eT] at e2
    rw [sR_id] at e1
    rw [e1, e2, bs]
    refine ⟨true, _, _, rfl, rfl, ⟨by show zs'.length ≤ 64; omega, by show nI _ = nI zs'.length; rw [e3], e5, e4, k + 1, by omega, ?_, ?_⟩, ⟨zs', gI s 15 + 1, rfl⟩, ⟨ys', _, _, rfl⟩⟩
    · show gI s 15 + 1 = nI (k + 1)
      rw [p6, nI_1]
    · show gI t 9 + 1 = nI (k + 1)
      rw [p7, nI_1]
  · rw [show (1 : Int32) = nI 1 from rfl, p2, bs, if_neg ff]
    have no : ∃ b s' t', some (false, s) = some (b, s') ∧ some (false, sI t 0 0) = some (b, t') ∧ RE s' t' ∧ SF s s' ∧ TF t t' := ⟨false, s, sI t 0 0, rfl, rfl, re_0 hh, sf_id s, tf_id t⟩
    rcases p1 with p | ⟨p, q | ⟨q, q2⟩⟩
    · rw [p, bs, if_pos rfl, bs]; exact no
    · rw [p, bs, if_neg ff, if_pos q, bs]; exact no
    · rw [p, bs, if_neg ff, if_neg q, q2, bs, if_neg ff, bs]; exact no
theorem rev_ok (h : RE s t) (a1 a2 : Int32) : ∃ b s' t', m140 a1 a2 s = some (b, s') ∧ m228 a1 a2 t = some (b, t') ∧ RE s' t' ∧ SF s s' ∧ TF t t' := by
  have hh := h
  unfold m140 m32 m228
  rcases part_ok h a1 a2 (l := 2) (by decide) with ⟨i, m, k, rfl, rfl, p3, p4, p5, p6, p7, p8, p9, p10, p11⟩ | ⟨p1, p2⟩
  · obtain ⟨h1, h2, h3, h4, -⟩ := h
    rw [p8, bs, if_neg ff, show (2 : Int32) = nI 2 from rfl, if_neg p9, p10, bs, if_pos rfl, p11, bs, if_pos rfl, show (0 : Int32) = nI 0 from rfl]
    obtain ⟨zs', ys', e1, e2, e3, e4, e5⟩ := rev_lock (s := s) (t := sI t 0 0) i m (by omega) 1000000 0 (gR s 15) (gR t 46) (by omega) h1 h4 h3 (by omega) (by omega)
    have eT : sR (sI t 0 0) 46 (gR t 46) = sI t 0 0 := sR_id (sI t 0 0) 46
    rw [eT] at e2
    rw [sR_id] at e1
    rw [show (nI 0 : Int32) = 0 from rfl] at e1 e2 ⊢
    rw [e1, e2, bs]
    refine ⟨true, _, _, rfl, rfl, ⟨by show zs'.length ≤ 64; omega, by show gI t 8 = nI zs'.length; rw [e3]; exact h2, e5, e4, k + 1, by omega, ?_, ?_⟩, ⟨zs', gI s 15 + 1, rfl⟩, ⟨ys', gI t 8, gI t 9 + 1, ?_⟩⟩
    · show gI s 15 + 1 = nI (k + 1)
      rw [p6, nI_1]
    · show gI t 9 + 1 = nI (k + 1)
      rw [p7, nI_1]
    · rw [show sI (sI t 0 0) 8 (gI t 8) = sI t 0 0 from sI_id (sI t 0 0) 8]
      rfl
  · rw [show (2 : Int32) = nI 2 from rfl, p2, bs, if_neg ff]
    have no : ∃ b s' t', some (false, s) = some (b, s') ∧ some (false, sI t 0 0) = some (b, t') ∧ RE s' t' ∧ SF s s' ∧ TF t t' := ⟨false, s, sI t 0 0, rfl, rfl, re_0 hh, sf_id s, tf_id t⟩
    rcases p1 with p | ⟨p, q | ⟨q, q2⟩⟩
    · rw [p, bs, if_pos rfl, bs]; exact no
    · rw [p, bs, if_neg ff, if_pos q, bs]; exact no
    · rw [p, bs, if_neg ff, if_neg q, q2, bs, if_neg ff, bs]; exact no
end Calls
