/-! drop, become, look -/
def RI (s t : xSt) : Prop := (gR s 14).length ≤ 64 ∧ gI t 7 = nI (gR s 14).length ∧ ArrR (gR t 45) (gR s 14) ∧ (gR t 45).length = 64
section Drop
variable {s t : xSt} {xs : List Int32}
theorem drop_lock (h7 : gI t 7 = nI xs.length) (hx : xs.length ≤ 64) (h45 : ArrR (gR t 45) xs) : ∀ (f j : Nat) (ys : List Int32), j ≤ xs.length → xs.length < j + f → ys.length = 64 → (∀ i, i < j → ys.getD i 0 = xs.getD i 0) → ∃ ys', m205_15 f (nI j) (sR t 46 ys) = some (sI (sR t 46 ys') 9 0) ∧ ys'.length = 64 ∧ ArrR ys' xs := by
  intro f
  induction f with
  | zero => intro j ys a b; omega
  | succ f ih =>
    intro j ys a b c d
    unfold m205_15
    simp (disch := omega) only [gR_sR, gR_sI, gR_sJ, gR_sL, gR_sZ, gR_sP, gR_sN, gI_sR, gI_sI, gI_sJ, gI_sL, gI_sZ, gI_sP, gI_sN, gJ_sR, gJ_sI, gJ_sJ, gJ_sL, gJ_sZ, gJ_sP, gJ_sN, gL_sR, gL_sI, gL_sJ, gL_sL, gL_sZ, gL_sP, gL_sN, gZ_sR, gZ_sI, gZ_sJ, gZ_sL, gZ_sZ, gZ_sP, gZ_sN, gP_sR, gP_sI, gP_sJ, gP_sL, gP_sZ, gP_sN, gN_sR, gN_sI, gN_sJ, gN_sL, gN_sZ, gN_sP, gP_sP, gP_sQ, gN_sN, gN_sM, reduceIte, Nat.reduceEqDiff, h7, eqL_0, eqL_1, eqL_2, eqL_3, eqL_4, eqL_5, eqL_6, eqL_7, eqL_8, eqL_9, eqL_10, eqL_11, eqL_12, eqL_13, eqL_14, eqL_15, eqL_16, eqL_17, eqL_18, eqL_19, eqL_20, eqL_21, eqL_22, eqL_23, eqL_24, eqL_25, eqL_26, eqL_27, eqL_28, eqL_29, eqL_30, eqL_31, eqL_32, leL_0, geL_0, ltL_0, gtL_0, leL_1, geL_1, ltL_1, gtL_1, leL_2, geL_2, ltL_2, gtL_2, leL_3, geL_3, ltL_3, gtL_3, leL_8, geL_8, ltL_8, gtL_8, leL_9, geL_9, ltL_9, gtL_9, leL_10, geL_10, ltL_10, gtL_10, leL_11, geL_11, ltL_11, gtL_11, leL_12, geL_12, ltL_12, gtL_12, leL_17, geL_17, ltL_17, gtL_17, leL_18, geL_18, ltL_18, gtL_18, leL_23, geL_23, ltL_23, gtL_23, leL_24, geL_24, ltL_24, gtL_24, leL_26, geL_26, ltL_26, gtL_26, leL_31, geL_31, ltL_31, gtL_31, leL_32, geL_32, ltL_32, gtL_32, leL_48, geL_48, ltL_48, gtL_48, leL_57, geL_57, ltL_57, gtL_57, leL_63, geL_63, ltL_63, gtL_63, leL_64, geL_64, ltL_64, gtL_64, leL_97, geL_97, ltL_97, gtL_97, leL_122, geL_122, ltL_122, gtL_122, leL_4096, geL_4096, ltL_4096, gtL_4096, leL_6000, geL_6000, ltL_6000, gtL_6000, leL_8192, geL_8192, ltL_8192, gtL_8192, leL_1000000, geL_1000000, ltL_1000000, gtL_1000000, eqN, leN, ltN, nI_ne1, m1_ne]
    by_cases z : xs.length ≤ j
    · rw [if_pos z]
      exact ⟨ys, rfl, c, by omega, fun i hi => d i (by omega)⟩
    · rw [if_neg z, xsGet_d (by omega) (by have := h45.1; omega), bs, xsPut_n (by omega) (by omega), bs, sR_sR, nI_1]
      refine ih (j + 1) _ (by omega) (by omega) (by rw [List.length_set]; exact c) (fun i hi => ?_)
      rw [getD_setn (by omega)]
      by_cases y : i = j
      · rw [if_pos y, y, h45.2 j (by omega)]
      · rw [if_neg y]
        exact d i (by omega)
theorem become_lock (h8 : gI t 8 = nI xs.length) (hx : xs.length ≤ 64) (h46 : ArrR (gR t 46) xs) : ∀ (f j : Nat) (ys : List Int32), j ≤ xs.length → xs.length < j + f → ys.length = 64 → (∀ i, i < j → ys.getD i 0 = xs.getD i 0) → ∃ ys', m230_10 f (nI j) (sR t 45 ys) = some (sI (sR t 45 ys') 9 0) ∧ ys'.length = 64 ∧ ArrR ys' xs := by
  intro f
  induction f with
  | zero => intro j ys a b; omega
  | succ f ih =>
    intro j ys a b c d
    unfold m230_10
    simp (disch := omega) only [gR_sR, gR_sI, gR_sJ, gR_sL, gR_sZ, gR_sP, gR_sN, gI_sR, gI_sI, gI_sJ, gI_sL, gI_sZ, gI_sP, gI_sN, gJ_sR, gJ_sI, gJ_sJ, gJ_sL, gJ_sZ, gJ_sP, gJ_sN, gL_sR, gL_sI, gL_sJ, gL_sL, gL_sZ, gL_sP, gL_sN, gZ_sR, gZ_sI, gZ_sJ, gZ_sL, gZ_sZ, gZ_sP, gZ_sN, gP_sR, gP_sI, gP_sJ, gP_sL, gP_sZ, gP_sN, gN_sR, gN_sI, gN_sJ, gN_sL, gN_sZ, gN_sP, gP_sP, gP_sQ, gN_sN, gN_sM, reduceIte, Nat.reduceEqDiff, h8, eqL_0, eqL_1, eqL_2, eqL_3, eqL_4, eqL_5, eqL_6, eqL_7, eqL_8, eqL_9, eqL_10, eqL_11, eqL_12, eqL_13, eqL_14, eqL_15, eqL_16, eqL_17, eqL_18, eqL_19, eqL_20, eqL_21, eqL_22, eqL_23, eqL_24, eqL_25, eqL_26, eqL_27, eqL_28, eqL_29, eqL_30, eqL_31, eqL_32, leL_0, geL_0, ltL_0, gtL_0, leL_1, geL_1, ltL_1, gtL_1, leL_2, geL_2, ltL_2, gtL_2, leL_3, geL_3, ltL_3, gtL_3, leL_8, geL_8, ltL_8, gtL_8, leL_9, geL_9, ltL_9, gtL_9, leL_10, geL_10, ltL_10, gtL_10, leL_11, geL_11, ltL_11, gtL_11, leL_12, geL_12, ltL_12, gtL_12, leL_17, geL_17, ltL_17, gtL_17, leL_18, geL_18, ltL_18, gtL_18, leL_23, geL_23, ltL_23, gtL_23, leL_24, geL_24, ltL_24, gtL_24, leL_26, geL_26, ltL_26, gtL_26, leL_31, geL_31, ltL_31, gtL_31, leL_32, geL_32, ltL_32, gtL_32, leL_48, geL_48, ltL_48, gtL_48, leL_57, geL_57, ltL_57, gtL_57, leL_63, geL_63, ltL_63, gtL_63, leL_64, geL_64, ltL_64, gtL_64, leL_97, geL_97, ltL_97, gtL_97, leL_122, geL_122, ltL_122, gtL_122, leL_4096, geL_4096, ltL_4096, gtL_4096, leL_6000, geL_6000, ltL_6000, gtL_6000, leL_8192, geL_8192, ltL_8192, gtL_8192, leL_1000000, geL_1000000, ltL_1000000, gtL_1000000, eqN, leN, ltN, nI_ne1, m1_ne]
    by_cases z : xs.length ≤ j
    · rw [if_pos z]
      exact ⟨ys, rfl, c, by omega, fun i hi => d i (by omega)⟩
    · rw [if_neg z, xsGet_d (by omega) (by have := h46.1; omega), bs, xsPut_n (by omega) (by omega), bs, sR_sR, nI_1]
      refine ih (j + 1) _ (by omega) (by omega) (by rw [List.length_set]; exact c) (fun i hi => ?_)
      rw [getD_setn (by omega)]
      by_cases y : i = j
      · rw [if_pos y, y, h46.2 j (by omega)]
      · rw [if_neg y]
        exact d i (by omega)
/-- dropBatch -/
theorem drop_ok (hI : RI s t) (h46 : (gR t 46).length = 64) : ∃ s' t', m25_r78 s = some s' ∧ m205 t = some t' ∧ RI s' t' ∧ RE s' t' ∧ SF s s' ∧ TF t t' := by
  obtain ⟨h1, h2, h3, h4⟩ := hI
  obtain ⟨ys', e1, e2, e3⟩ := drop_lock (t := sI (sI t 0 0) 8 (gI t 7)) (xs := gR s 14) h2 h1 h3 1000000 0 (gR t 46) (by omega) (by omega) h46 (fun i hi => by omega)
  have eT : sR (sI (sI t 0 0) 8 (gI t 7)) 46 (gR t 46) = sI (sI t 0 0) 8 (gI t 7) := sR_id (sI (sI t 0 0) 8 (gI t 7)) 46
  rw [eT, nI_0] at e1
  unfold m25_r78 m205
  rw [if_pos h1, e1]
  refine ⟨_, _, rfl, rfl, ⟨h1, h2, h3, h4⟩, ⟨h1, h2, e3, e2, 0, by omega, rfl, rfl⟩, ⟨gR s 14, 0, rfl⟩, ⟨ys', gI t 7, 0, rfl⟩⟩
/-- the draft becomes the input -/
theorem become_ok (hI : RI s t) (hE : RE s t) : ∃ s' t' y, m143 s = some s' ∧ m230 t = some t' ∧ RI s' t' ∧ RE s' t' ∧ s' = sI (sR (sR s 14 (gR s 15)) 15 (gR s 15)) 15 0 ∧ t' = sI (sR (sI t 7 (gI t 8)) 45 y) 9 0 := by
  obtain ⟨h1, h2, h3, h4, k, h5, h6, h7⟩ := hE
  obtain ⟨i1, i2, i3, i4⟩ := hI
  obtain ⟨ys', e1, e2, e3⟩ := become_lock (t := sI t 7 (gI t 8)) (xs := gR s 15) h2 h1 h3 1000000 0 (gR t 45) (by omega) (by omega) i4 (fun i hi => by omega)
  have eT : sR (sI t 7 (gI t 8)) 45 (gR t 45) = sI t 7 (gI t 8) := sR_id (sI t 7 (gI t 8)) 45
  rw [eT, nI_0] at e1
  unfold m143 m230 m25_r78
  rw [if_pos h1, show gR (sR s 14 (gR s 15)) 14 = gR s 15 from rfl, if_pos h1, bs, e1]
  exact ⟨_, _, ys', rfl, rfl, ⟨h1, h2, e3, e2⟩, ⟨h1, h2, h3, h4, 0, by omega, rfl, rfl⟩, rfl, rfl⟩
/-- the sum of the output -/
theorem sum_lock (hz : gZ t 0 = true) (h10 : gI t 10 = nI xs.length) (hx : xs.length ≤ 12200) (h47 : ArrR (gR t 47) xs) : ∀ (f j : Nat) (a : Int32), j ≤ xs.length → xs.length < j + f → m234_4 f a (nI j) t = some ((xs.drop j).foldl (fun x y => x + y) a, t) := by
  intro f
  induction f with
  | zero => intro j a b c; omega
  | succ f ih =>
    intro j a b c
    unfold m234_4
    rw [h10, hz]
    simp (disch := omega) only [eqL_0, eqL_1, eqL_2, eqL_3, eqL_4, eqL_5, eqL_6, eqL_7, eqL_8, eqL_9, eqL_10, eqL_11, eqL_12, eqL_13, eqL_14, eqL_15, eqL_16, eqL_17, eqL_18, eqL_19, eqL_20, eqL_21, eqL_22, eqL_23, eqL_24, eqL_25, eqL_26, eqL_27, eqL_28, eqL_29, eqL_30, eqL_31, eqL_32, leL_0, geL_0, ltL_0, gtL_0, leL_1, geL_1, ltL_1, gtL_1, leL_2, geL_2, ltL_2, gtL_2, leL_3, geL_3, ltL_3, gtL_3, leL_8, geL_8, ltL_8, gtL_8, leL_9, geL_9, ltL_9, gtL_9, leL_10, geL_10, ltL_10, gtL_10, leL_11, geL_11, ltL_11, gtL_11, leL_12, geL_12, ltL_12, gtL_12, leL_17, geL_17, ltL_17, gtL_17, leL_18, geL_18, ltL_18, gtL_18, leL_23, geL_23, ltL_23, gtL_23, leL_24, geL_24, ltL_24, gtL_24, leL_26, geL_26, ltL_26, gtL_26, leL_31, geL_31, ltL_31, gtL_31, leL_32, geL_32, ltL_32, gtL_32, leL_48, geL_48, ltL_48, gtL_48, leL_57, geL_57, ltL_57, gtL_57, leL_63, geL_63, ltL_63, gtL_63, leL_64, geL_64, ltL_64, gtL_64, leL_97, geL_97, ltL_97, gtL_97, leL_122, geL_122, ltL_122, gtL_122, leL_4096, geL_4096, ltL_4096, gtL_4096, leL_6000, geL_6000, ltL_6000, gtL_6000, leL_8192, geL_8192, ltL_8192, gtL_8192, leL_1000000, geL_1000000, ltL_1000000, gtL_1000000, eqN, leN, ltN, nI_ne1, m1_ne]
    by_cases z : xs.length ≤ j
    · rw [if_pos z, List.drop_eq_nil_of_le z]
      rfl
    · rw [if_neg z, if_pos trivial, xsGet_d (by omega) (by have := h47.1; omega), bs, nI_1, ih (j + 1) _ (by omega) (by omega), drop_step (xs := xs) (j := j) (by omega), List.foldl_cons, h47.2 j (by omega)]
end Drop
