/-! the reference's reader, method by method -/
section RdR
variable {T U : List Int32} {n p m N D : Nat} {s t : xSt} {qr2 qr3 qr4 qr5 qr6 qr7 qr8 qr9 qr10 qr11 qr12 qr13 qr14 qr15 qr16 : List Int32} {qi21 qi22 qi23 qi24 qi25 qi26 qi27 qi28 qi29 qi30 : Int32} {qj0 : Int64} {ql0 ql1 ql2 ql3 : List Int64}
theorem m158_end (b : Bool) : m158 b (rdR t qr2 qr3 qr4 qr5 qr6 qr7 qr8 qr9 qr10 qr11 qr12 qr13 qr14 qr15 qr16 0 qi22 qi23 4 qi25 qi26 qi27 qi28 qi29 qi30 qj0 ql0 ql1 ql2 ql3) = some (false, (rdR t qr2 qr3 qr4 qr5 qr6 qr7 qr8 qr9 qr10 qr11 qr12 qr13 qr14 qr15 qr16 3 (gI t 20) qi23 4 qi25 qi26 qi27 qi28 qi29 qi30 qj0 ql0 ql1 ql2 ql3)) := by
  unfold m158 m154
  simp only [rdR_r2, rdR_r3, rdR_r4, rdR_r5, rdR_r6, rdR_r7, rdR_r8, rdR_r9, rdR_r10, rdR_r11, rdR_r12, rdR_r13, rdR_r14, rdR_r15, rdR_r16, rdR_i21, rdR_i22, rdR_i23, rdR_i24, rdR_i25, rdR_i26, rdR_i27, rdR_i28, rdR_i29, rdR_i30, rdR_j0, rdR_l0, rdR_l1, rdR_l2, rdR_l3, rdR_or1, rdR_oi20, rdR_P, rdR_N, rdR_Z, rdR_sr2, rdR_sr3, rdR_sr4, rdR_sr5, rdR_sr6, rdR_sr7, rdR_sr8, rdR_sr9, rdR_sr10, rdR_sr11, rdR_sr12, rdR_sr13, rdR_sr14, rdR_sr15, rdR_sr16, rdR_si21, rdR_si22, rdR_si23, rdR_si24, rdR_si25, rdR_si26, rdR_si27, rdR_si28, rdR_si29, rdR_si30, rdR_sj0, rdR_sl0, rdR_sl1, rdR_sl2, rdR_sl3, reduceIte, Option.bind_some]
  unfold m158_24 m158_44
  simp (decide := true) only [rdR_r2, rdR_r3, rdR_r4, rdR_r5, rdR_r6, rdR_r7, rdR_r8, rdR_r9, rdR_r10, rdR_r11, rdR_r12, rdR_r13, rdR_r14, rdR_r15, rdR_r16, rdR_i21, rdR_i22, rdR_i23, rdR_i24, rdR_i25, rdR_i26, rdR_i27, rdR_i28, rdR_i29, rdR_i30, rdR_j0, rdR_l0, rdR_l1, rdR_l2, rdR_l3, rdR_or1, rdR_oi20, rdR_P, rdR_N, rdR_Z, rdR_sr2, rdR_sr3, rdR_sr4, rdR_sr5, rdR_sr6, rdR_sr7, rdR_sr8, rdR_sr9, rdR_sr10, rdR_sr11, rdR_sr12, rdR_sr13, rdR_sr14, rdR_sr15, rdR_sr16, rdR_si21, rdR_si22, rdR_si23, rdR_si24, rdR_si25, rdR_si26, rdR_si27, rdR_si28, rdR_si29, rdR_si30, rdR_sj0, rdR_sl0, rdR_sl1, rdR_sl2, rdR_sl3, reduceIte]
theorem m158_t (h : ¬ qi24 = 4) : m158 true (rdR t qr2 qr3 qr4 qr5 qr6 qr7 qr8 qr9 qr10 qr11 qr12 qr13 qr14 qr15 qr16 0 qi22 qi23 qi24 qi25 qi26 qi27 qi28 qi29 qi30 qj0 ql0 ql1 ql2 ql3) = some (true, (rdR t qr2 qr3 qr4 qr5 qr6 qr7 qr8 qr9 qr10 qr11 qr12 qr13 qr14 qr15 qr16 0 qi22 qi23 qi24 qi25 qi26 qi27 qi28 qi29 qi30 qj0 ql0 ql1 ql2 ql3)) := by
  unfold m158 m158_24 m158_44
  rw [rdR_i21, if_pos rfl, rdR_i24, if_neg h, if_pos rfl, if_pos rfl, if_pos rfl]
theorem m158_f (h : ¬ qi24 = 4) : m158 false (rdR t qr2 qr3 qr4 qr5 qr6 qr7 qr8 qr9 qr10 qr11 qr12 qr13 qr14 qr15 qr16 0 qi22 qi23 qi24 qi25 qi26 qi27 qi28 qi29 qi30 qj0 ql0 ql1 ql2 ql3) = some (false, (rdR t qr2 qr3 qr4 qr5 qr6 qr7 qr8 qr9 qr10 qr11 qr12 qr13 qr14 qr15 qr16 2 qi25 qi23 qi24 qi25 qi26 qi27 qi28 qi29 qi30 qj0 ql0 ql1 ql2 ql3)) := by
  unfold m158 m158_24 m158_44 m154
  rw [rdR_i21, if_pos rfl, rdR_i24, if_neg h, if_pos rfl, if_neg ff, if_pos rfl, bs, rdR_i25]
  simp (decide := true) only [rdR_r2, rdR_r3, rdR_r4, rdR_r5, rdR_r6, rdR_r7, rdR_r8, rdR_r9, rdR_r10, rdR_r11, rdR_r12, rdR_r13, rdR_r14, rdR_r15, rdR_r16, rdR_i21, rdR_i22, rdR_i23, rdR_i24, rdR_i25, rdR_i26, rdR_i27, rdR_i28, rdR_i29, rdR_i30, rdR_j0, rdR_l0, rdR_l1, rdR_l2, rdR_l3, rdR_or1, rdR_oi20, rdR_P, rdR_N, rdR_Z, rdR_sr2, rdR_sr3, rdR_sr4, rdR_sr5, rdR_sr6, rdR_sr7, rdR_sr8, rdR_sr9, rdR_sr10, rdR_sr11, rdR_sr12, rdR_sr13, rdR_sr14, rdR_sr15, rdR_sr16, rdR_si21, rdR_si22, rdR_si23, rdR_si24, rdR_si25, rdR_si26, rdR_si27, rdR_si28, rdR_si29, rdR_si30, rdR_sj0, rdR_sl0, rdR_sl1, rdR_sl2, rdR_sl3, reduceIte]
theorem due_b {w : Nat} (h : w < 100) : Int8.toInt32 (Int32.toInt8 (Int8.toInt32 (Int32.toInt8 (nI w)))) = nI w := by
  have e : ∀ w : Fin 100, Int8.toInt32 (Int32.toInt8 (Int8.toInt32 (Int32.toInt8 (nI w.1)))) = nI w.1 := by decide +kernel
  exact e ⟨w, h⟩
theorem m167_eq {w : Nat} (hw : w < 100) (k : Int32) (hD : D < 33000) (h1 : qr15.length = 33000) (h2 : qr16.length = 33000) : m167 (nI w) k (rdR t qr2 qr3 qr4 qr5 qr6 qr7 qr8 qr9 qr10 qr11 qr12 qr13 qr14 qr15 qr16 qi21 qi22 qi23 qi24 qi25 qi26 qi27 qi28 (nI D) qi30 qj0 ql0 ql1 ql2 ql3) = some (rdR t qr2 qr3 qr4 qr5 qr6 qr7 qr8 qr9 qr10 qr11 qr12 qr13 qr14 (qr15.set D (nI w)) (qr16.set D k) qi21 qi22 qi23 qi24 qi25 qi26 qi27 qi28 (nI (D + 1)) qi30 qj0 ql0 ql1 ql2 ql3) := by
  unfold m167
  simp only [rdR_r2, rdR_r3, rdR_r4, rdR_r5, rdR_r6, rdR_r7, rdR_r8, rdR_r9, rdR_r10, rdR_r11, rdR_r12, rdR_r13, rdR_r14, rdR_r15, rdR_r16, rdR_i21, rdR_i22, rdR_i23, rdR_i24, rdR_i25, rdR_i26, rdR_i27, rdR_i28, rdR_i29, rdR_i30, rdR_j0, rdR_l0, rdR_l1, rdR_l2, rdR_l3, rdR_or1, rdR_oi20, rdR_P, rdR_N, rdR_Z, rdR_sr2, rdR_sr3, rdR_sr4, rdR_sr5, rdR_sr6, rdR_sr7, rdR_sr8, rdR_sr9, rdR_sr10, rdR_sr11, rdR_sr12, rdR_sr13, rdR_sr14, rdR_sr15, rdR_sr16, rdR_si21, rdR_si22, rdR_si23, rdR_si24, rdR_si25, rdR_si26, rdR_si27, rdR_si28, rdR_si29, rdR_si30, rdR_sj0, rdR_sl0, rdR_sl1, rdR_sl2, rdR_sl3]
  rw [due_b hw, xsPut_n (by omega) (by omega), bs, xsPut_n (by omega) (by omega), bs, nI_1]
theorem m170_eq (κ k : Int32) (hN : N < 8192) (h8 : qr8.length = 8192) (h9 : qr9.length = 8192) (h10 : qr10.length = 8192) (h11 : qr11.length = 8192) (h12 : qr12.length = 8192) (h13 : qr13.length = 8192) (h14 : qr14.length = 8192) (g2 : ql2.length = 8192) (g3 : ql3.length = 8192) : m170 κ k (rdR t qr2 qr3 qr4 qr5 qr6 qr7 qr8 qr9 qr10 qr11 qr12 qr13 qr14 qr15 qr16 qi21 qi22 qi23 qi24 qi25 qi26 qi27 (nI N) qi29 qi30 qj0 ql0 ql1 ql2 ql3) = some (nI N, (rdR t qr2 qr3 qr4 qr5 qr6 qr7 (qr8.set N κ) (qr9.set N k) (qr10.set N qi25) (qr11.set N (-1)) (qr12.set N (-1)) (qr13.set N qi30) (qr14.set N 0) qr15 qr16 qi21 qi22 qi23 qi24 qi25 qi26 qi27 (nI (N + 1)) qi29 qi30 qj0 ql0 ql1 (ql2.set N 0) (ql3.set N 0))) := by
  unfold m170
  simp only [rdR_r2, rdR_r3, rdR_r4, rdR_r5, rdR_r6, rdR_r7, rdR_r8, rdR_r9, rdR_r10, rdR_r11, rdR_r12, rdR_r13, rdR_r14, rdR_r15, rdR_r16, rdR_i21, rdR_i22, rdR_i23, rdR_i24, rdR_i25, rdR_i26, rdR_i27, rdR_i28, rdR_i29, rdR_i30, rdR_j0, rdR_l0, rdR_l1, rdR_l2, rdR_l3, rdR_or1, rdR_oi20, rdR_P, rdR_N, rdR_Z, rdR_sr2, rdR_sr3, rdR_sr4, rdR_sr5, rdR_sr6, rdR_sr7, rdR_sr8, rdR_sr9, rdR_sr10, rdR_sr11, rdR_sr12, rdR_sr13, rdR_sr14, rdR_sr15, rdR_sr16, rdR_si21, rdR_si22, rdR_si23, rdR_si24, rdR_si25, rdR_si26, rdR_si27, rdR_si28, rdR_si29, rdR_si30, rdR_sj0, rdR_sl0, rdR_sl1, rdR_sl2, rdR_sl3]
  rw [xsPut_n (by omega) (by omega), bs, xsPut_n (by omega) (by omega), bs, xsPut_n (by omega) (by omega), bs, xsPut_n (by omega) (by omega), bs, xsPut_n (by omega) (by omega), bs, xlPut_n (by omega) (by omega), bs, xlPut_n (by omega) (by omega), bs, xsPut_n (by omega) (by omega), bs, xsPut_n (by omega) (by omega), bs, nI_1]
theorem m171_eq {k : Nat} (hk : k < 8192) (h11 : qr11.length = 8192) (g2 : ql2.length = 8192) : m171 (nI k) (rdR t qr2 qr3 qr4 qr5 qr6 qr7 qr8 qr9 qr10 qr11 qr12 qr13 qr14 qr15 qr16 qi21 qi22 qi23 qi24 qi25 qi26 qi27 qi28 qi29 qi30 qj0 ql0 ql1 ql2 ql3) = some (rdR t qr2 qr3 qr4 qr5 qr6 qr7 qr8 qr9 qr10 (qr11.set k qi25) qr12 qr13 qr14 qr15 qr16 qi21 qi22 qi23 qi24 qi25 qi26 qi27 qi28 qi29 qi30 qj0 ql0 ql1 (ql2.set k qj0) ql3) := by
  unfold m171
  simp only [rdR_r2, rdR_r3, rdR_r4, rdR_r5, rdR_r6, rdR_r7, rdR_r8, rdR_r9, rdR_r10, rdR_r11, rdR_r12, rdR_r13, rdR_r14, rdR_r15, rdR_r16, rdR_i21, rdR_i22, rdR_i23, rdR_i24, rdR_i25, rdR_i26, rdR_i27, rdR_i28, rdR_i29, rdR_i30, rdR_j0, rdR_l0, rdR_l1, rdR_l2, rdR_l3, rdR_or1, rdR_oi20, rdR_P, rdR_N, rdR_Z, rdR_sr2, rdR_sr3, rdR_sr4, rdR_sr5, rdR_sr6, rdR_sr7, rdR_sr8, rdR_sr9, rdR_sr10, rdR_sr11, rdR_sr12, rdR_sr13, rdR_sr14, rdR_sr15, rdR_sr16, rdR_si21, rdR_si22, rdR_si23, rdR_si24, rdR_si25, rdR_si26, rdR_si27, rdR_si28, rdR_si29, rdR_si30, rdR_sj0, rdR_sl0, rdR_sl1, rdR_sl2, rdR_sl3]
  rw [xlPut_n (by omega) (by omega), bs, xsPut_n (by omega) (by omega), bs]
/-- what is due, the next one first -/
def dat : List (Nat × Int32) → List Int32 → List Int32 → Prop
  | [], _, _ => True
  | (w, k) :: ds, a, b => a.getD ds.length 0 = nI w ∧ b.getD ds.length 0 = k ∧ dat ds a b
theorem dat_set {ds : List (Nat × Int32)} {a b : List Int32} {x y : Int32} {n : Nat} (h : dat ds a b) (hn : ds.length ≤ n) : dat ds (a.set n x) (b.set n y) := by
  induction ds with
  | nil => trivial
  | cons e ds ih =>
    obtain ⟨w, k⟩ := e
    rw [List.length_cons] at hn
    refine ⟨?_, ?_, ih h.2.2 (by omega)⟩
    · rw [getD_set_n, if_neg (by omega)]; exact h.1
    · rw [getD_set_n, if_neg (by omega)]; exact h.2.1
theorem dat_push {ds : List (Nat × Int32)} {a b : List Int32} {w : Nat} {k : Int32} (h : dat ds a b) (h1 : ds.length < a.length) (h2 : ds.length < b.length) : dat ((w, k) :: ds) (a.set ds.length (nI w)) (b.set ds.length k) := by
  refine ⟨?_, ?_, dat_set h (Nat.le_refl _)⟩
  · rw [getD_setn h1, if_pos rfl]
  · rw [getD_setn h2, if_pos rfl]
end RdR
