/-! the edits of ours and reference, side by side -/
section Edits
variable {s t : xSt} {zs ys : List Int32}
theorem arR_len {e : Nat} (h : ArrR ys zs) (he : e = zs.length) : e ≤ ys.length := by rw [he]; exact h.1
theorem arR_set (h : ArrR ys zs) (j : Nat) (v : Int32) (hj : j < zs.length) : ArrR (ys.set j v) (zs.set j v) := by
  refine ⟨by rw [List.length_set, List.length_set]; exact h.1, fun i hi => ?_⟩
  rw [List.length_set] at hi
  rw [getD_setn (Nat.lt_of_lt_of_le hj h.1), getD_setn hj, h.2 i hi]
theorem arR_take (h : ArrR ys zs) (n : Nat) : ArrR ys (zs.take n) := by
  refine ⟨by rw [List.length_take]; have := h.1; omega, fun i hi => ?_⟩
  rw [List.length_take] at hi
  rw [getD_take_n (by omega), h.2 i (by omega)]
/-- insert: ours swaps down, the reference moves up -/
theorem ins_lock (v : Int32) (i : Nat) : ∀ (n k : Nat) (zs ys : List Int32), i ≤ k → k < zs.length → zs.length ≤ 64 → ys.length = 64 → (∀ j, j < zs.length → j ≠ k → ys.getD j 0 = zs.getD j 0) → zs.getD k 0 = v → k < i + n →
    ∃ zs' ys', m26_54 n (nI i) (nI k) (sR s 15 zs) = some (true, sI (sR s 15 zs') 15 (gI s 15 + 1)) ∧ m224_42 n (nI i) v (nI k) (sR t 46 ys) = some (true, sR (sI (sI t 8 (gI t 8 + 1)) 9 (gI t 9 + 1)) 46 ys') ∧ zs'.length = zs.length ∧ ys'.length = 64 ∧ ArrR ys' zs' := by
  intro n
  induction n with
  | zero => intro k zs ys h1 h2 h3 h4 h5 h6 h7; omega
  | succ n ih =>
    intro k zs ys h1 h2 h3 h4 h5 h6 h7
    unfold m26_54 m224_42
    by_cases z : k = i
    · subst z
      rw [if_pos (by rw [nI_leI (by omega) (by omega)]; exact Nat.le_refl _), if_pos (by rw [nI_leI (by omega) (by omega)]; exact Nat.le_refl _)]
      refine ⟨zs, ys.set k v, rfl, ?_, rfl, by rw [List.length_set]; exact h4, by rw [List.length_set]; omega, fun j hj => ?_⟩
      · simp only [gR_sR, gR_sI, gR_sJ, gR_sL, gR_sZ, gR_sP, gR_sN, gI_sR, gI_sI, gI_sJ, gI_sL, gI_sZ, gI_sP, gI_sN, gJ_sR, gJ_sI, gJ_sJ, gJ_sL, gJ_sZ, gJ_sP, gJ_sN, gL_sR, gL_sI, gL_sJ, gL_sL, gL_sZ, gL_sP, gL_sN, gZ_sR, gZ_sI, gZ_sJ, gZ_sL, gZ_sZ, gZ_sP, gZ_sN, gP_sR, gP_sI, gP_sJ, gP_sL, gP_sZ, gP_sN, gN_sR, gN_sI, gN_sJ, gN_sL, gN_sZ, gN_sP, gP_sP, gP_sQ, gN_sN, gN_sM, reduceIte, Nat.reduceEqDiff]
        rw [xsPut_n (by omega) (by omega)]
        simp only [Option.bind_some]
        rw [sR_sR]
        rfl
      · rw [getD_setn (by omega)]
        by_cases e : j = k
        · rw [if_pos e, e, h6]
        · rw [if_neg e]
          exact h5 j hj e
    · obtain ⟨k, rfl⟩ : ∃ j, k = j + 1 := ⟨k - 1, by omega⟩
      rw [if_neg (by rw [nI_leI (by omega) (by omega)]; omega), if_neg (by rw [nI_leI (by omega) (by omega)]; omega)]
      simp only [gR_sR, gR_sI, gR_sJ, gR_sL, gR_sZ, gR_sP, gR_sN, gI_sR, gI_sI, gI_sJ, gI_sL, gI_sZ, gI_sP, gI_sN, gJ_sR, gJ_sI, gJ_sJ, gJ_sL, gJ_sZ, gJ_sP, gJ_sN, gL_sR, gL_sI, gL_sJ, gL_sL, gL_sZ, gL_sP, gL_sN, gZ_sR, gZ_sI, gZ_sJ, gZ_sL, gZ_sZ, gZ_sP, gZ_sN, gP_sR, gP_sI, gP_sJ, gP_sL, gP_sZ, gP_sN, gN_sR, gN_sI, gN_sJ, gN_sL, gN_sZ, gN_sP, gP_sP, gP_sQ, gN_sN, gN_sM, reduceIte, Nat.reduceEqDiff, nI_pred, nI_dec]
      rw [xsAt_n (by omega), xsAt_n (by omega), xsSet_n (by omega), xsSet_n (by omega), xsGet_d (by omega) (by omega)]
      simp only [Option.bind_some]
      rw [xsPut_n (by omega) (by omega)]
      simp only [Option.bind_some]
      rw [sR_sR, sR_sR]
      obtain ⟨zs', ys', e1, e2, e3, e4, e5⟩ := ih k ((zs.set (k + 1) (zs.getD k 0)).set k (zs.getD (k + 1) 0)) (ys.set (k + 1) (ys.getD k 0)) (by omega) (by rw [List.length_set, List.length_set]; omega) (by rw [List.length_set, List.length_set]; omega) (by rw [List.length_set]; exact h4) (fun j hj hne => by
        rw [List.length_set, List.length_set] at hj
        rw [getD_setn (by omega), getD_setn (by rw [List.length_set]; omega), if_neg hne, getD_setn (by omega)]
        by_cases e : j = k + 1
        · rw [if_pos e, if_pos e]
          exact h5 k (by omega) (by omega)
        · rw [if_neg e, if_neg e]
          exact h5 j hj e) (by rw [getD_setn (by rw [List.length_set]; omega), if_pos rfl]; exact h6) (by omega)
      exact ⟨zs', ys', e1, e2, by rw [e3, List.length_set, List.length_set], e4, e5⟩
/-- delete -/
theorem del_lock (m left : Nat) (hm : m ≤ 64) : ∀ (n k : Nat) (zs ys : List Int32), zs.length = left + m → left + m ≤ 64 → ys.length = 64 → ArrR ys zs → k ≤ left → left < k + n → gI t 8 = nI (left + m) →
    ∃ zs' ys', m31_36 n (nI m) (nI left) (nI k) (sR s 15 zs) = some (true, sR (sI s 15 (gI s 15 + 1)) 15 zs') ∧ m226_19 n (nI m) (nI k) (sR t 46 ys) = some (true, sR (sI (sI t 8 (nI left)) 9 (gI t 9 + 1)) 46 ys') ∧ zs'.length = left ∧ ys'.length = 64 ∧ ArrR ys' zs' := by
  intro n
  induction n with
  | zero => intro k zs ys h1 h2 h3 h4 h5 h6; omega
  | succ n ih =>
    intro k zs ys h1 h2 h3 h4 h5 h6 h8
    unfold m31_36 m226_19
    simp only [gR_sR, gR_sI, gR_sJ, gR_sL, gR_sZ, gR_sP, gR_sN, gI_sR, gI_sI, gI_sJ, gI_sL, gI_sZ, gI_sP, gI_sN, gJ_sR, gJ_sI, gJ_sJ, gJ_sL, gJ_sZ, gJ_sP, gJ_sN, gL_sR, gL_sI, gL_sJ, gL_sL, gL_sZ, gL_sP, gL_sN, gZ_sR, gZ_sI, gZ_sJ, gZ_sL, gZ_sZ, gZ_sP, gZ_sN, gP_sR, gP_sI, gP_sJ, gP_sL, gP_sZ, gP_sN, gN_sR, gN_sI, gN_sJ, gN_sL, gN_sZ, gN_sP, gP_sP, gP_sQ, gN_sN, gN_sM, reduceIte, Nat.reduceEqDiff, nI_add, h8]
    by_cases z : k = left
    · subst z
      rw [if_pos (by rw [nI_leI (by omega) (by omega)]; exact Nat.le_refl _), if_pos (by rw [nI_leI (by omega) (by omega)]; exact Nat.le_refl _)]
      refine ⟨zs.take k, ys, ?_, ?_, by rw [List.length_take]; omega, h3, arR_take h4 k⟩
      · rw [xsCut_n (by omega)]
        show some (true, sR (sI (sR s 15 zs) 15 (gI s 15 + 1)) 15 (zs.take k)) = _
        rw [show sR (sI (sR s 15 zs) 15 (gI s 15 + 1)) 15 (zs.take k) = sR (sR (sI s 15 (gI s 15 + 1)) 15 zs) 15 (zs.take k) from rfl, sR_sR]
      · rw [nI_subI (by omega), Nat.add_sub_cancel]
        rfl
    · rw [if_neg (by rw [nI_leI (by omega) (by omega)]; omega), if_neg (by rw [nI_leI (by omega) (by omega)]; omega)]
      rw [xsGet_d (by omega) (by omega)]
      simp only [Option.bind_some]
      rw [xsPut_n (by omega) (by omega)]
      simp only [Option.bind_some]
      rw [xsAt_n (by omega), xsSet_n (by omega), sR_sR, sR_sR, nI_1, h4.2 (k + m) (by omega)]
      obtain ⟨zs', ys', e1, e2, e3, e4, e5⟩ := ih (k + 1) (zs.set k (zs.getD (k + m) 0)) (ys.set k (zs.getD (k + m) 0)) (by rw [List.length_set]; exact h1) h2 (by rw [List.length_set]; exact h3) (arR_set h4 k _ (by omega)) (by omega) (by omega) h8
      exact ⟨zs', ys', e1, e2, e3, e4, e5⟩
/-- reverse -/
theorem nI_half {m : Nat} (h : m ≤ 64) : nI m / 2 = nI (m / 2) := by
  have h1 : ∀ m : Fin 65, nI m.1 / 2 = nI (m.1 / 2) := by decide +kernel
  exact h1 ⟨m, by omega⟩
theorem rev_lock (i m : Nat) (him : i + m ≤ 64) : ∀ (n k : Nat) (zs ys : List Int32), i + m ≤ zs.length → zs.length ≤ 64 → ys.length = 64 → ArrR ys zs → k ≤ m / 2 → m / 2 < k + n →
    ∃ zs' ys', m32_25 n (nI i) (nI m) (nI k) (sR s 15 zs) = some (true, sR (sI s 15 (gI s 15 + 1)) 15 zs') ∧ m228_19 n (nI i) (nI m) (nI k) (sR t 46 ys) = some (true, sR (sI t 9 (gI t 9 + 1)) 46 ys') ∧ zs'.length = zs.length ∧ ys'.length = 64 ∧ ArrR ys' zs' := by
  intro n
  induction n with
  | zero => intro k zs ys h1 h2 h3 h4 h5 h6; omega
  | succ n ih =>
    intro k zs ys h1 h2 h3 h4 h5 h6
    unfold m32_25 m228_19
    simp only [gR_sR, gR_sI, gR_sJ, gR_sL, gR_sZ, gR_sP, gR_sN, gI_sR, gI_sI, gI_sJ, gI_sL, gI_sZ, gI_sP, gI_sN, gJ_sR, gJ_sI, gJ_sJ, gJ_sL, gJ_sZ, gJ_sP, gJ_sN, gL_sR, gL_sI, gL_sJ, gL_sL, gL_sZ, gL_sP, gL_sN, gZ_sR, gZ_sI, gZ_sJ, gZ_sL, gZ_sZ, gZ_sP, gZ_sN, gP_sR, gP_sI, gP_sJ, gP_sL, gP_sZ, gP_sN, gN_sR, gN_sI, gN_sJ, gN_sL, gN_sZ, gN_sP, gP_sP, gP_sQ, gN_sN, gN_sM, reduceIte, Nat.reduceEqDiff]
    rw [nI_half (by omega)]
    by_cases z : k = m / 2
    · rw [if_pos (by rw [nI_leI (by omega) (by omega)]; omega), if_pos (by rw [nI_leI (by omega) (by omega)]; omega)]
      exact ⟨zs, ys, rfl, rfl, rfl, h3, h4⟩
    · rw [if_neg (by rw [nI_leI (by omega) (by omega)]; omega), if_neg (by rw [nI_leI (by omega) (by omega)]; omega)]
      have e0 : nI i + nI m - 1 - nI k = nI (i + m - 1 - k) := by
        rw [nI_add, show i + m = (i + m - 1) + 1 by omega, nI_pred, nI_subI (by omega)]
        rfl
      rw [e0, nI_add]
      rw [xsGet_d (by omega) (by omega)]
      simp only [Option.bind_some]
      rw [xsGet_d (by omega) (by omega)]
      simp only [Option.bind_some]
      rw [xsPut_n (by omega) (by omega)]
      simp only [Option.bind_some]
      rw [xsPut_n (by omega) (by rw [List.length_set]; omega)]
      simp only [Option.bind_some]
      rw [xsAt_n (by omega), xsAt_n (by omega), xsSet_n (by omega), xsSet_n (by omega), sR_sR, sR_sR, nI_1, h4.2 (i + k) (by omega), h4.2 (i + m - 1 - k) (by omega)]
      obtain ⟨zs', ys', e1, e2, e3, e4, e5⟩ := ih (k + 1) ((zs.set (i + k) (zs.getD (i + m - 1 - k) 0)).set (i + m - 1 - k) (zs.getD (i + k) 0)) ((ys.set (i + k) (zs.getD (i + m - 1 - k) 0)).set (i + m - 1 - k) (zs.getD (i + k) 0)) (by rw [List.length_set, List.length_set]; exact h1) (by rw [List.length_set, List.length_set]; exact h2) (by rw [List.length_set, List.length_set]; exact h3) (arR_set (arR_set h4 _ _ (by omega)) _ _ (by rw [List.length_set]; omega)) (by omega) (by omega)
      exact ⟨zs', ys', e1, e2, by rw [e3, List.length_set, List.length_set], e4, e5⟩
end Edits
