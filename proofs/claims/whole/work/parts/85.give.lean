/-! bytes of a long -/
theorem tcr_byte : ∀ b : BitVec 8, tcr (Int32.ofBitVec (b.setWidth 32)) (Int32.ofBitVec (b.signExtend 32)) := by
  unfold tcr
  decide +kernel
theorem bits255 : ∀ i, i < 32 → (255#32).getLsbD i = decide (i < 8) := by decide
theorem sx_low {m n : Nat} (x : BitVec m) (h : n ≤ m) : x.signExtend n = x.setWidth n := BitVec.signExtend_eq_setWidth_of_le _ h
theorem low8 (x : BitVec 64) : (x.signExtend 32) &&& 255#32 = (x.setWidth 8).setWidth 32 := by
  rw [sx_low x (by decide)]
  apply BitVec.eq_of_getLsbD_eq
  intro i hi
  rw [BitVec.getLsbD_and, bits255 i hi, BitVec.getLsbD_setWidth, BitVec.getLsbD_setWidth, BitVec.getLsbD_setWidth]
  by_cases h : i < 8 <;> simp [h, hi]
theorem sext8 (b : BitVec 8) : (b.signExtend 32).signExtend 8 = b := by
  rw [sx_low (b.signExtend 32) (by decide)]
  apply BitVec.eq_of_getLsbD_eq
  intro i hi
  rw [BitVec.getLsbD_setWidth, BitVec.getLsbD_signExtend]
  simp [hi]
  omega
theorem shr8 (x : BitVec 64) (n : Nat) (h : n ≤ 56) : ((x.sshiftRight n).signExtend 32).signExtend 8 = (x >>> n).setWidth 8 := by
  rw [sx_low _ (by decide : 8 ≤ 32), sx_low _ (by decide : 32 ≤ 64)]
  apply BitVec.eq_of_getLsbD_eq
  intro i hi
  rw [BitVec.getLsbD_setWidth, BitVec.getLsbD_setWidth, BitVec.getLsbD_setWidth, BitVec.getLsbD_sshiftRight, BitVec.getLsbD_ushiftRight]
  have h1 : ¬ 64 ≤ i := by omega
  have h2 : n + i < 64 := by omega
  have h3 : i < 32 := by omega
  simp [hi, h1, h2, h3]
theorem sh_u (v : Int64) (w : UInt64) (n : Nat) (hw : (w % 64).toBitVec.toNat = n) : ((v.toUInt64 >>> w).toInt64).toBitVec = v.toBitVec >>> n := by
  subst hw
  rfl
theorem sh_s (v w : Int64) (n : Nat) (hw : (w.toBitVec.smod 64).toNat = n) : (v >>> w).toBitVec = v.toBitVec.sshiftRight n := by
  subst hw
  rfl
theorem byte_c (v : Int64) (k : Nat) (hk : k < 8) : (Int64.toInt32 ((Int64.toUInt64 v) >>> ((Int64.toUInt64 (Int32.toInt64 (8 * nI k))) &&& Int64.toUInt64 63)).toInt64) &&& 255 = Int32.ofBitVec (((v.toBitVec >>> (8 * k)).setWidth 8).setWidth 32) := by
  have hs : ∀ k : Fin 8, ((((Int64.toUInt64 (Int32.toInt64 (8 * nI k.1))) &&& Int64.toUInt64 63)) % 64).toBitVec.toNat = 8 * k.1 := by decide +kernel
  have e := sh_u v _ _ (hs ⟨k, hk⟩)
  rw [← low8]
  apply Int32.toBitVec_inj.mp
  show (((Int64.toUInt64 v) >>> ((Int64.toUInt64 (Int32.toInt64 (8 * nI k))) &&& Int64.toUInt64 63)).toInt64).toBitVec.signExtend 32 &&& 255#32 = _
  rw [e]
  rfl
theorem byte_r (v : Int64) (k : Nat) (hk : k < 8) : Int8.toInt32 (Int32.toInt8 (Int8.toInt32 (Int32.toInt8 (Int64.toInt32 (v >>> ((Int32.toInt64 (8 * nI k)) &&& 63)))))) = Int32.ofBitVec (((v.toBitVec >>> (8 * k)).setWidth 8).signExtend 32) := by
  have hs : ∀ k : Fin 8, (((Int32.toInt64 (8 * nI k.1)) &&& 63).toBitVec.smod 64).toNat = 8 * k.1 := by decide +kernel
  have e := sh_s v _ _ (hs ⟨k, hk⟩)
  apply Int32.toBitVec_inj.mp
  show ((((((v >>> ((Int32.toInt64 (8 * nI k)) &&& 63)).toBitVec.signExtend 32).signExtend 8).signExtend 32).signExtend 8).signExtend 32) = ((v.toBitVec >>> (8 * k)).setWidth 8).signExtend 32
  rw [sext8, e, shr8 _ _ (by show 8 * k ≤ 56; omega)]
theorem byte_ok (v : Int64) (k : Nat) (hk : k < 8) : tcr ((Int64.toInt32 ((Int64.toUInt64 v) >>> ((Int64.toUInt64 (Int32.toInt64 (8 * nI k))) &&& Int64.toUInt64 63)).toInt64) &&& 255) (Int8.toInt32 (Int32.toInt8 (Int8.toInt32 (Int32.toInt8 (Int64.toInt32 (v >>> ((Int32.toInt64 (8 * nI k)) &&& 63))))))) := by
  have h1 := byte_c v k hk
  have h2 := byte_r v k hk
  rw [h1, h2]
  exact tcr_byte _
/-! giveText -/
def RT (s t : xSt) : Prop := TR (gR s 0) (gR t 0) (gR s 0).length ∧ gI t 1 = nI (gR s 0).length
theorem give_lock {s t : xSt} (v : Int64) : ∀ (j f : Nat) (T U : List Int32), j ≤ 8 → j < f → TR T U T.length → T.length + j ≤ 8192 → ∃ T' U', m133_33 f v (nI j - 1) (sR s 0 T) = some (true, sR s 0 T') ∧ m203_35 f v (nI j - 1) (sI (sR t 0 U) 1 (nI T.length)) = some (true, sI (sR t 0 U') 1 (nI T'.length)) ∧ TR T' U' T'.length ∧ T'.length = T.length + j := by
  intro j
  induction j with
  | zero =>
    intro f T U h1 h2 h3 h4
    obtain ⟨f, rfl⟩ : ∃ G, f = G + 1 := ⟨f - 1, by omega⟩
    unfold m133_33 m203_35
    rw [if_pos (by decide), if_pos (by decide)]
    exact ⟨T, U, rfl, rfl, h3, rfl⟩
  | succ j ih =>
    intro f T U h1 h2 h3 h4
    obtain ⟨f, rfl⟩ : ∃ G, f = G + 1 := ⟨f - 1, by omega⟩
    obtain ⟨g1, g2, g3, g4⟩ := h3
    have hb := byte_ok v j (by omega)
    unfold m133_33 m203_35
    rw [nI_pred, if_neg (nI_pos (by omega)), if_neg (nI_pos (by omega))]
    generalize (Int64.toInt32 ((Int64.toUInt64 v) >>> ((Int64.toUInt64 (Int32.toInt64 (8 * nI j))) &&& Int64.toUInt64 63)).toInt64) &&& 255 = bc at hb ⊢
    generalize Int8.toInt32 (Int32.toInt8 (Int8.toInt32 (Int32.toInt8 (Int64.toInt32 (v >>> ((Int32.toInt64 (8 * nI j)) &&& 63)))))) = br at hb ⊢
    have e1 : gI (sI (sR t 0 U) 1 (nI T.length)) 1 = nI T.length := rfl
    have e2 : gR (sI (sR t 0 U) 1 (nI T.length)) 0 = U := rfl
    have e3 : gR (sR s 0 T) 0 = T := rfl
    rw [e1, e2, e3, xsPut_n (by omega) (by omega), bs, xsPush_n (by omega), show nI j + (-1) = nI j - 1 from (Int32.sub_eq_add_neg _ _).symm, nI_1, sR_sR]
    have e4 : sI (sR (sI (sR t 0 U) 1 (nI T.length)) 0 (U.set T.length br)) 1 (nI (T.length + 1)) = sI (sR t 0 (U.set T.length br)) 1 (nI (T ++ [bc]).length) := by
      rw [List.length_append]
      show sI (sI (sR (sR t 0 U) 0 (U.set T.length br)) 1 (nI T.length)) 1 (nI (T.length + 1)) = sI (sR t 0 (U.set T.length br)) 1 (nI (T.length + 1))
      rw [sI_sI, sR_sR]
    rw [e4]
    have hl : (T ++ [bc]).length = T.length + 1 := by rw [List.length_append]; rfl
    obtain ⟨T', U', i1, i2, i3, i4⟩ := ih f (T ++ [bc]) (U.set T.length br) (by omega) (by omega) ⟨rfl, by omega, by rw [List.length_set]; exact g3, fun i hi => by
      rw [hl] at hi
      rw [getD_push, getD_setn (by omega)]
      by_cases y : i = T.length
      · rw [if_pos y, if_pos y]; exact hb
      · rw [if_neg y, if_neg y]; exact g4 i (by omega)⟩ (by omega)
    exact ⟨T', U', i1, i2, i3, by omega⟩
theorem give_ok {s t : xSt} (h : RT s t) (v : Int64) (a : Int32) : ∃ b s' t', m133 v a s = some (b, s') ∧ m203 v a t = some (b, t') ∧ RT s' t' ∧ (∃ T', s' = sR s 0 T' ∧ T'.length ≤ (gR s 0).length + 8) ∧ ∃ U' n', t' = sI (sR (sI t 0 0) 0 U') 1 n' := by
  obtain ⟨h1, h2⟩ := h
  have hh := h1
  obtain ⟨g1, g2, g3, g4⟩ := h1
  have no : ∃ b s' t', some (false, s) = some (b, s') ∧ some (false, sI t 0 0) = some (b, t') ∧ RT s' t' ∧ (∃ T', s' = sR s 0 T' ∧ T'.length ≤ (gR s 0).length + 8) ∧ ∃ U' n', t' = sI (sR (sI t 0 0) 0 U') 1 n' := by
    refine ⟨false, s, sI t 0 0, rfl, rfl, ⟨hh, h2⟩, ⟨gR s 0, (sR_id s 0).symm, by omega⟩, gR t 0, gI t 1, ?_⟩
    rw [show sR (sI t 0 0) 0 (gR t 0) = sI t 0 0 from sR_id (sI t 0 0) 0]
    exact (sI_id (sI t 0 0) 1).symm
  unfold m133 m203
  by_cases z1 : a < 1
  · rw [if_pos z1, if_pos z1]; exact no
  · rw [if_neg z1, if_neg z1]
    by_cases z2 : 8 < a
    · rw [if_pos z2, if_pos z2]; exact no
    · rw [if_neg z2, if_neg z2, h2]
      obtain ⟨j, hj, rfl⟩ := iv_n (a := a) (fun q => z1 (Int32.lt_trans q (by decide)))
      rw [ltL_1 hj] at z1
      rw [gtL_8 hj] at z2
      rw [nI_add]
      by_cases z3 : (gR s 0).length + j ≤ 8192
      · rw [if_pos (by rw [leL_8192 (by omega)]; exact z3), if_pos (by rw [leL_8192 (by omega)]; exact z3)]
        obtain ⟨T', U', i1, i2, i3, i4⟩ := give_lock (s := s) (t := sI t 0 0) v j 1000000 (gR s 0) (gR t 0) (by omega) (by omega) hh (by omega)
        rw [sR_id] at i1
        rw [show sI (sR (sI t 0 0) 0 (gR t 0)) 1 (nI (gR s 0).length) = sI t 0 0 from by rw [show sR (sI t 0 0) 0 (gR t 0) = sI t 0 0 from sR_id (sI t 0 0) 0, ← h2]; exact sI_id (sI t 0 0) 1] at i2
        exact ⟨true, _, _, i1, i2, ⟨i3, rfl⟩, ⟨T', rfl, by omega⟩, U', _, rfl⟩
      · rw [if_neg (by rw [leL_8192 (by omega)]; exact z3), if_neg (by rw [leL_8192 (by omega)]; exact z3)]; exact no
