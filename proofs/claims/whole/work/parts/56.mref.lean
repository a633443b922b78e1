/-! the reference's machine over the states of a run -/
theorem yo_ge {σ : xG} (hP : SP σ) {k : Nat} (hk : k < yN σ) : ∀ i, i ≤ yn σ k → k + 1 + i ≤ yo σ k i := by
  intro i
  induction i with
  | zero => intro _; exact Nat.le_refl _
  | succ i ih =>
    intro hi
    have h1 := ih (by omega)
    have h2 := ((hP.1 k hk).1.2.2.2.2 i (by omega)).1
    have h3 := (hP.1 _ h2).1.2.1
    show _ ≤ yo σ k i + yz σ (yo σ k i)
    omega
theorem yn_le {σ : xG} (hP : SP σ) {k : Nat} (hk : k < yN σ) : yn σ k ≤ yN σ := by
  by_cases z : yn σ k = 0
  · omega
  · have h1 := yo_ge hP hk (yn σ k - 1) (by omega)
    have h2 := ((hP.1 k hk).1.2.2.2.2 (yn σ k - 1) (by omega)).1
    omega
/-- arrays as stacks -/
def oat : List Int32 → List Int32 → Prop
  | [], _ => True
  | r :: os, arr => arr.getD os.length 0 = r ∧ oat os arr
theorem oat_set {os arr : List Int32} {n : Nat} {v : Int32} (h : oat os arr) (hn : os.length ≤ n) : oat os (arr.set n v) := by
  induction os with
  | nil => trivial
  | cons r os ih =>
    rw [List.length_cons] at hn
    refine ⟨?_, ih h.2 (by omega)⟩
    rw [getD_set_n, if_neg (by omega)]
    exact h.1
theorem oat_push {os arr : List Int32} {v : Int32} (h : oat os arr) (hn : os.length < arr.length) : oat (v :: os) (arr.set os.length v) := by
  refine ⟨?_, oat_set h (Nat.le_refl _)⟩
  rw [getD_setn hn, if_pos rfl]
def wat : List (Nat × Nat × Nat) → List Int32 → List Int32 → List Int32 → Prop
  | [], _, _, _ => True
  | (k, i, rb) :: w, wn, wp, wb => wn.getD w.length 0 = nI k ∧ wp.getD w.length 0 = nI i ∧ wb.getD w.length 0 = nI rb ∧ wat w wn wp wb
theorem wat_set {w : List (Nat × Nat × Nat)} {wn wp wb : List Int32} {n : Nat} {x y z : Int32} (h : wat w wn wp wb) (hn : w.length ≤ n) : wat w (wn.set n x) (wp.set n y) (wb.set n z) := by
  induction w with
  | nil => trivial
  | cons e w ih =>
    obtain ⟨k, i, rb⟩ := e
    rw [List.length_cons] at hn
    refine ⟨?_, ?_, ?_, ih h.2.2.2 (by omega)⟩
    · rw [getD_set_n, if_neg (by omega)]; exact h.1
    · rw [getD_set_n, if_neg (by omega)]; exact h.2.1
    · rw [getD_set_n, if_neg (by omega)]; exact h.2.2.1
theorem wat_push {w : List (Nat × Nat × Nat)} {wn wp wb : List Int32} {k i rb : Nat} (h : wat w wn wp wb) (h1 : w.length < wn.length) (h2 : w.length < wp.length) (h3 : w.length < wb.length) : wat ((k, i, rb) :: w) (wn.set w.length (nI k)) (wp.set w.length (nI i)) (wb.set w.length (nI rb)) := by
  refine ⟨?_, ?_, ?_, wat_set h (Nat.le_refl _)⟩
  · rw [getD_setn h1, if_pos rfl]
  · rw [getD_setn h2, if_pos rfl]
  · rw [getD_setn h3, if_pos rfl]
/-- the operands of a call -/
theorem opr_args {cl md : Nat} {hd arr : List Int32} {ty : Nat → Nat} : ∀ {n : Nat} {vs os vs' os' : List Int32}, opr cl md hd ty n vs os vs' os' → oat os arr → ∃ as, vs = as ++ vs' ∧ as.length = n ∧ os.length = os'.length + n ∧ oat os' arr ∧ ∀ j, j < n → vr cl md hd (ty j) (as.reverse.getD j 0) (arr.getD (os'.length + j) 0) := by
  intro n
  induction n with
  | zero =>
    intro vs os vs' os' h ho
    obtain ⟨rfl, rfl⟩ := h
    exact ⟨[], rfl, rfl, rfl, ho, fun j hj => absurd hj (by omega)⟩
  | succ n ih =>
    intro vs os vs' os' h ho
    obtain ⟨v, r, vs1, os1, rfl, rfl, h3, h4⟩ := h
    obtain ⟨as, rfl, e2, e3, e4, e5⟩ := ih h4 ho.2
    refine ⟨v :: as, rfl, by rw [List.length_cons, e2], by rw [List.length_cons, e3]; omega, e4, fun j hj => ?_⟩
    rw [List.reverse_cons, getD_push, List.length_reverse, e2]
    by_cases z : j = n
    · rw [if_pos z, z, ← e3, ho.1]
      exact h3
    · rw [if_neg z]
      exact e5 j (by omega)
def vput (nb O : Nat) (ops : List Int32) : Nat → List Int32 → List Int32
  | 0, vs => vs
  | n + 1, vs => vput nb O ops n (vs.set (nb + n) (ops.getD (O + n) 0))
theorem vput_len {nb O : Nat} {ops : List Int32} : ∀ {n : Nat} {vs : List Int32}, (vput nb O ops n vs).length = vs.length := by
  intro n
  induction n with
  | zero => intro vs; rfl
  | succ n ih => intro vs; show (vput nb O ops n _).length = _; rw [ih, List.length_set]
theorem vput_at {nb O : Nat} {ops : List Int32} : ∀ {n : Nat} {vs : List Int32} {j : Nat}, nb + n ≤ vs.length → (vput nb O ops n vs).getD j 0 = if nb ≤ j ∧ j < nb + n then ops.getD (O + (j - nb)) 0 else vs.getD j 0 := by
  intro n
  induction n with
  | zero => intro vs j h; rw [if_neg (by omega)]; rfl
  | succ n ih =>
    intro vs j h
    show (vput nb O ops n _).getD j 0 = _
    rw [ih (by rw [List.length_set]; omega), getD_setn (by omega)]
    by_cases z : nb ≤ j ∧ j < nb + n
    · rw [if_pos z, if_pos (by omega)]
    · rw [if_neg z]
      by_cases z2 : j = nb + n
      · rw [if_pos z2, if_pos (by omega), z2, Nat.add_sub_cancel_left]
      · rw [if_neg z2, if_neg (by omega)]
section MR2
variable {σ : xG} {t : xSt} {hds tls hd vars wn wp wb ops : List Int32} {cl md rb wt om ct nw : Int32}
theorem sr_kind (hR : SR σ t) {k : Nat} (hk : k < yN σ) (hN : yN σ ≤ 4200) : xsGet (gR t 31) (nI k) = some (nI (yk σ k)) := by
  rw [xsGet_d (by omega) (by rw [hR.2.2.2.1]; omega), (hR.1 k hk).1]
theorem sr_size (hR : SR σ t) {k : Nat} (hk : k < yN σ) (hN : yN σ ≤ 4200) : xsGet (gR t 32) (nI k) = some (nI (yz σ k)) := by
  rw [xsGet_d (by omega) (by rw [hR.2.2.2.2.1]; omega), (hR.1 k hk).2.1]
theorem sr_parts (hR : SR σ t) {k : Nat} (hk : k < yN σ) (hN : yN σ ≤ 4200) : xsGet (gR t 33) (nI k) = some (nI (yn σ k)) := by
  rw [xsGet_d (by omega) (by rw [hR.2.2.2.2.2.1]; omega), (hR.1 k hk).2.2.1]
theorem sr_slot (hR : SR σ t) {k : Nat} (hk : k < yN σ) (hN : yN σ ≤ 4200) (h : yk σ k = 1 ∨ yLet σ k ∨ yCase σ k ∨ yk σ k = 18) : xsGet (gR t 35) (nI k) = some (nI (yl σ k)) := by
  rw [xsGet_d (by omega) (by rw [hR.2.2.2.2.2.2.2.1]; omega), (hR.1 k hk).2.2.2.2.1 h]
theorem mr220_go (hP : SP σ) (hR : SR σ t) {k : Nat} (hk : k < yN σ) (T : xSt) (hT : gR T 32 = gR t 32) : ∀ (f i j : Nat), j ≤ i → i ≤ yn σ k → i < j + f → m220_7 f (nI i) (nI (yo σ k j)) (nI j) T = some (nI (yo σ k i), T) := by
  have hN := hP.2.2.2.2.2.1
  have hn := yn_le hP hk
  intro f
  induction f with
  | zero => intro i j h1 h2 h3; omega
  | succ f ih =>
    intro i j h1 h2 h3
    unfold m220_7
    simp (disch := omega) only [eqL_0, eqL_1, eqL_2, eqL_3, eqL_4, eqL_5, eqL_6, eqL_7, eqL_8, eqL_9, eqL_10, eqL_11, eqL_12, eqL_13, eqL_14, eqL_15, eqL_16, eqL_17, eqL_18, eqL_19, eqL_20, eqL_21, eqL_22, eqL_23, eqL_24, eqL_25, eqL_26, eqL_27, eqL_28, eqL_29, eqL_30, eqL_31, eqL_32, leL_0, geL_0, ltL_0, gtL_0, leL_1, geL_1, ltL_1, gtL_1, leL_2, geL_2, ltL_2, gtL_2, leL_3, geL_3, ltL_3, gtL_3, leL_8, geL_8, ltL_8, gtL_8, leL_9, geL_9, ltL_9, gtL_9, leL_10, geL_10, ltL_10, gtL_10, leL_11, geL_11, ltL_11, gtL_11, leL_12, geL_12, ltL_12, gtL_12, leL_17, geL_17, ltL_17, gtL_17, leL_18, geL_18, ltL_18, gtL_18, leL_23, geL_23, ltL_23, gtL_23, leL_24, geL_24, ltL_24, gtL_24, leL_26, geL_26, ltL_26, gtL_26, leL_31, geL_31, ltL_31, gtL_31, leL_32, geL_32, ltL_32, gtL_32, leL_48, geL_48, ltL_48, gtL_48, leL_57, geL_57, ltL_57, gtL_57, leL_63, geL_63, ltL_63, gtL_63, leL_64, geL_64, ltL_64, gtL_64, leL_97, geL_97, ltL_97, gtL_97, leL_122, geL_122, ltL_122, gtL_122, leL_4096, geL_4096, ltL_4096, gtL_4096, leL_6000, geL_6000, ltL_6000, gtL_6000, leL_8192, geL_8192, ltL_8192, gtL_8192, leL_1000000, geL_1000000, ltL_1000000, gtL_1000000, eqN, leN, ltN, nI_ne1, m1_ne]
    by_cases z : i ≤ j
    · rw [if_pos z, show i = j by omega]
    · have h4 := ((hP.1 k hk).1.2.2.2.2 j (by omega)).1
      rw [if_neg z, hT, sr_size hR h4 hN]
      simp only [Option.bind_some]
      rw [nI_add, nI_1]
      exact ih i (j + 1) (by omega) h2 (by omega)
theorem mr220 (hP : SP σ) (hR : SR σ t) {k i : Nat} (hk : k < yN σ) (hi : i ≤ yn σ k) {T : xSt} (hT : gR T 32 = gR t 32) : m220 (nI k) (nI i) T = some (nI (yo σ k i), T) := by
  have hN := hP.2.2.2.2.2.1
  have hn := yn_le hP hk
  unfold m220
  rw [nI_1]
  exact mr220_go hP hR hk T hT 1000000 i 0 (by omega) hi (by omega)
theorem mr216_go (hP : SP σ) (hR : SR σ t) {k : Nat} (hk : k < yN σ) (hc : yCall σ k) {nb O : Nat} (hO : O < 90000) (hnb : nb < 200000) (hops : ops.length = 100000) : ∀ (f n : Nat) (vars : List Int32), n ≤ 8 → n < f → vars.length = 290000 → m216_26 f (nI k) (nI nb) (nI n - 1) (rS t hds tls hd vars wn wp wb ops cl md rb wt (nI (O + n)) ct nw) = some (rS t hds tls hd (vput nb O ops n vars) wn wp wb ops cl md (nI nb) wt (nI O) ct (nI (yb σ (yg σ k)))) := by
  have hN := hP.2.2.2.2.2.1
  intro f
  induction f with
  | zero => intro n vars h1 h2; omega
  | succ f ih =>
    intro n vars h1 h2 h3
    unfold m216_26
    cases n with
    | zero =>
      rw [if_pos (by decide)]
      simp only [rS_g48, rS_g49, rS_g50, rS_g51, rS_g52, rS_g53, rS_g54, rS_g55, rS_i12, rS_i13, rS_i14, rS_i15, rS_i16, rS_i17, rS_i18, rS_o31, rS_o32, rS_o33, rS_o34, rS_o35, rS_o36, rS_o37, rS_o45, rS_o46, rS_o47, rS_p5, rS_p7, rS_p8, rS_p10, rS_p11, rS_P, rS_Z, rS_L, rS_J, rS_N, rS_s48, rS_s49, rS_s50, rS_s51, rS_s52, rS_s53, rS_s54, rS_s55, rS_t12, rS_t13, rS_t14, rS_t15, rS_t16, rS_t17, rS_t18]
      have hg := (hP.1 k hk).2.2.2.2.2.2.2.2.2.1 hc
      have hM := hP.2.2.2.2.2.2.1
      rw [xsGet_d (by omega) (by rw [hR.2.2.2.2.2.2.2.2.1]; omega), (hR.1 k hk).2.2.2.2.2 hc]
      simp only [Option.bind_some]
      rw [xsGet_d (by omega) (by rw [hR.2.2.2.2.2.2.2.2.2]; omega), hR.2.1 _ hg.1]
      simp only [Option.bind_some, rS_g48, rS_g49, rS_g50, rS_g51, rS_g52, rS_g53, rS_g54, rS_g55, rS_i12, rS_i13, rS_i14, rS_i15, rS_i16, rS_i17, rS_i18, rS_o31, rS_o32, rS_o33, rS_o34, rS_o35, rS_o36, rS_o37, rS_o45, rS_o46, rS_o47, rS_p5, rS_p7, rS_p8, rS_p10, rS_p11, rS_P, rS_Z, rS_L, rS_J, rS_N, rS_s48, rS_s49, rS_s50, rS_s51, rS_s52, rS_s53, rS_s54, rS_s55, rS_t12, rS_t13, rS_t14, rS_t15, rS_t16, rS_t17, rS_t18]
      rfl
    | succ n =>
      rw [nI_pred, if_neg (nI_pos (by omega)), ← Nat.add_assoc, mr218 (by omega) hops]
      simp only [Option.bind_some, rS_g48, rS_g49, rS_g50, rS_g51, rS_g52, rS_g53, rS_g54, rS_g55, rS_i12, rS_i13, rS_i14, rS_i15, rS_i16, rS_i17, rS_i18, rS_o31, rS_o32, rS_o33, rS_o34, rS_o35, rS_o36, rS_o37, rS_o45, rS_o46, rS_o47, rS_p5, rS_p7, rS_p8, rS_p10, rS_p11, rS_P, rS_Z, rS_L, rS_J, rS_N, rS_s48, rS_s49, rS_s50, rS_s51, rS_s52, rS_s53, rS_s54, rS_s55, rS_t12, rS_t13, rS_t14, rS_t15, rS_t16, rS_t17, rS_t18, nI_add]
      rw [xsPut_n (by omega) (by omega)]
      simp only [Option.bind_some, rS_g48, rS_g49, rS_g50, rS_g51, rS_g52, rS_g53, rS_g54, rS_g55, rS_i12, rS_i13, rS_i14, rS_i15, rS_i16, rS_i17, rS_i18, rS_o31, rS_o32, rS_o33, rS_o34, rS_o35, rS_o36, rS_o37, rS_o45, rS_o46, rS_o47, rS_p5, rS_p7, rS_p8, rS_p10, rS_p11, rS_P, rS_Z, rS_L, rS_J, rS_N, rS_s48, rS_s49, rS_s50, rS_s51, rS_s52, rS_s53, rS_s54, rS_s55, rS_t12, rS_t13, rS_t14, rS_t15, rS_t16, rS_t17, rS_t18]
      rw [show nI n + (-1) = nI n - 1 from (Int32.sub_eq_add_neg _ _).symm, ih n (vars.set (nb + n) (ops.getD (O + n) 0)) (by omega) (by omega) (by rw [List.length_set]; exact h3)]
      rfl
theorem mr216 (hP : SP σ) (hR : SR σ t) {k : Nat} (hk : k < yN σ) (hc : yCall σ k) {rv O W : Nat} (hO : O < 90000) (hrv : rv < 190000) (hW : W < 12100) (hops : ops.length = 100000) (hv : vars.length = 290000) (h1 : wn.length = 12100) (h2 : wp.length = 12100) (h3 : wb.length = 12100) : m216 (nI k) (rS t hds tls hd vars wn wp wb ops cl md (nI rv) (nI W) (nI (O + yn σ k)) ct nw) = some (rS t hds tls hd (vput (rv + 24) O ops (yn σ k) vars) (wn.set W (nI k)) (wp.set W (nI (yn σ k))) (wb.set W (nI rv)) ops cl md (nI (rv + 24)) (nI (W + 1)) (nI O) ct (nI (yb σ (yg σ k)))) := by
  have hN := hP.2.2.2.2.2.1
  have hg := (hP.1 k hk).2.2.2.2.2.2.2.2.2.1 hc
  have h8 := (hP.2.1 _ hg.1).2.2.2
  have e1 : xsGet (gR (rS t hds tls hd vars wn wp wb ops cl md (nI rv) (nI W) (nI (O + yn σ k)) ct nw) 33) (nI k) = some (nI (yn σ k)) := sr_parts hR hk hN
  have e2 := mr217 (t := t) (hds := hds) (tls := tls) (hd := hd) (vars := vars) (ops := ops) (cl := cl) (md := md) (rb := nI rv) (om := nI (O + yn σ k)) (ct := ct) (nw := nw) (a1 := nI k) (a2 := nI (yn σ k)) hW h1 h2 h3
  have e3 := mr216_go (hds := hds) (tls := tls) (hd := hd) (wn := wn.set W (nI k)) (wp := wp.set W (nI (yn σ k))) (wb := wb.set W (nI rv)) (cl := cl) (md := md) (rb := nI rv) (wt := nI (W + 1)) (ct := ct) (nw := nw) hP hR hk hc (nb := rv + 24) hO (by omega) hops 1000000 (yn σ k) vars (by omega) (by omega) hv
  have e24 : nI rv + 24 = nI (rv + 24) := nI_add rv 24
  rw [← e24] at e3
  unfold m216
  rw [e1, bs, e2, bs, rS_i14, ← e24]
  exact e3
section Come
theorem mr214_0 (hP : SP σ) (hR : SR σ t) {k O c : Nat} (hk : k < yN σ) (hO : O < 90000) (hops : ops.length = 100000) (h : yk σ k = 0) : m214 (nI k) (rS t hds tls hd vars wn wp wb ops cl md rb wt (nI O) (nI c) nw) = some (rS t hds tls hd vars wn wp wb (ops.set O (yv σ k)) cl md rb wt (nI (O + 1)) (nI (c + 1)) (-1)) := by
  have hN := hP.2.2.2.2.2.1
  unfold m214
  simp only [rS_g48, rS_g49, rS_g50, rS_g51, rS_g52, rS_g53, rS_g54, rS_g55, rS_i12, rS_i13, rS_i14, rS_i15, rS_i16, rS_i17, rS_i18, rS_o31, rS_o32, rS_o33, rS_o34, rS_o35, rS_o36, rS_o37, rS_o45, rS_o46, rS_o47, rS_p5, rS_p7, rS_p8, rS_p10, rS_p11, rS_P, rS_Z, rS_L, rS_J, rS_N, rS_s48, rS_s49, rS_s50, rS_s51, rS_s52, rS_s53, rS_s54, rS_s55, rS_t12, rS_t13, rS_t14, rS_t15, rS_t16, rS_t17, rS_t18]
  rw [sr_kind hR hk hN, h]
  simp only [Option.bind_some]
  rw [if_neg (by decide), if_pos (by decide), xsGet_d (by omega) (by rw [hR.2.2.2.2.2.2.1]; omega), (hR.1 k hk).2.2.2.1 h]
  simp only [Option.bind_some, m214_69, rS_g48, rS_g49, rS_g50, rS_g51, rS_g52, rS_g53, rS_g54, rS_g55, rS_i12, rS_i13, rS_i14, rS_i15, rS_i16, rS_i17, rS_i18, rS_o31, rS_o32, rS_o33, rS_o34, rS_o35, rS_o36, rS_o37, rS_o45, rS_o46, rS_o47, rS_p5, rS_p7, rS_p8, rS_p10, rS_p11, rS_P, rS_Z, rS_L, rS_J, rS_N, rS_s48, rS_s49, rS_s50, rS_s51, rS_s52, rS_s53, rS_s54, rS_s55, rS_t12, rS_t13, rS_t14, rS_t15, rS_t16, rS_t17, rS_t18, nI_1]
  rw [mr215 (by omega) hops]
  simp only [Option.bind_some, rS_g48, rS_g49, rS_g50, rS_g51, rS_g52, rS_g53, rS_g54, rS_g55, rS_i12, rS_i13, rS_i14, rS_i15, rS_i16, rS_i17, rS_i18, rS_o31, rS_o32, rS_o33, rS_o34, rS_o35, rS_o36, rS_o37, rS_o45, rS_o46, rS_o47, rS_p5, rS_p7, rS_p8, rS_p10, rS_p11, rS_P, rS_Z, rS_L, rS_J, rS_N, rS_s48, rS_s49, rS_s50, rS_s51, rS_s52, rS_s53, rS_s54, rS_s55, rS_t12, rS_t13, rS_t14, rS_t15, rS_t16, rS_t17, rS_t18]
theorem mr214_1 (hP : SP σ) (hR : SR σ t) {k O c : Nat} (hk : k < yN σ) (hO : O < 90000) (hops : ops.length = 100000) (h : yk σ k = 1) {rv : Nat} (hrv : rv + yl σ k < 290000) (hv : vars.length = 290000) : m214 (nI k) (rS t hds tls hd vars wn wp wb ops cl md (nI rv) wt (nI O) (nI c) nw) = some (rS t hds tls hd vars wn wp wb (ops.set O (vars.getD (rv + yl σ k) 0)) cl md (nI rv) wt (nI (O + 1)) (nI (c + 1)) (-1)) := by
  have hN := hP.2.2.2.2.2.1
  unfold m214
  simp only [rS_g48, rS_g49, rS_g50, rS_g51, rS_g52, rS_g53, rS_g54, rS_g55, rS_i12, rS_i13, rS_i14, rS_i15, rS_i16, rS_i17, rS_i18, rS_o31, rS_o32, rS_o33, rS_o34, rS_o35, rS_o36, rS_o37, rS_o45, rS_o46, rS_o47, rS_p5, rS_p7, rS_p8, rS_p10, rS_p11, rS_P, rS_Z, rS_L, rS_J, rS_N, rS_s48, rS_s49, rS_s50, rS_s51, rS_s52, rS_s53, rS_s54, rS_s55, rS_t12, rS_t13, rS_t14, rS_t15, rS_t16, rS_t17, rS_t18]
  rw [sr_kind hR hk hN, h]
  simp only [Option.bind_some]
  rw [if_neg (by decide), if_neg (by decide), if_pos (by decide), sr_slot hR hk hN (Or.inl h)]
  simp only [Option.bind_some, nI_add]
  rw [xsGet_d (by omega) (by omega)]
  simp only [Option.bind_some, m214_69, rS_g48, rS_g49, rS_g50, rS_g51, rS_g52, rS_g53, rS_g54, rS_g55, rS_i12, rS_i13, rS_i14, rS_i15, rS_i16, rS_i17, rS_i18, rS_o31, rS_o32, rS_o33, rS_o34, rS_o35, rS_o36, rS_o37, rS_o45, rS_o46, rS_o47, rS_p5, rS_p7, rS_p8, rS_p10, rS_p11, rS_P, rS_Z, rS_L, rS_J, rS_N, rS_s48, rS_s49, rS_s50, rS_s51, rS_s52, rS_s53, rS_s54, rS_s55, rS_t12, rS_t13, rS_t14, rS_t15, rS_t16, rS_t17, rS_t18, nI_1]
  rw [mr215 (by omega) hops]
  simp only [Option.bind_some, rS_g48, rS_g49, rS_g50, rS_g51, rS_g52, rS_g53, rS_g54, rS_g55, rS_i12, rS_i13, rS_i14, rS_i15, rS_i16, rS_i17, rS_i18, rS_o31, rS_o32, rS_o33, rS_o34, rS_o35, rS_o36, rS_o37, rS_o45, rS_o46, rS_o47, rS_p5, rS_p7, rS_p8, rS_p10, rS_p11, rS_P, rS_Z, rS_L, rS_J, rS_N, rS_s48, rS_s49, rS_s50, rS_s51, rS_s52, rS_s53, rS_s54, rS_s55, rS_t12, rS_t13, rS_t14, rS_t15, rS_t16, rS_t17, rS_t18]
theorem mr214_2 (hP : SP σ) (hR : SR σ t) {k O c : Nat} (hk : k < yN σ) (hO : O < 90000) (hops : ops.length = 100000) (h : yk σ k = 2) : m214 (nI k) (rS t hds tls hd vars wn wp wb ops cl md rb wt (nI O) (nI c) nw) = some (rS t hds tls hd vars wn wp wb (ops.set O 0) cl md rb wt (nI (O + 1)) (nI (c + 1)) (-1)) := by
  have hN := hP.2.2.2.2.2.1
  unfold m214
  simp only [rS_g48, rS_g49, rS_g50, rS_g51, rS_g52, rS_g53, rS_g54, rS_g55, rS_i12, rS_i13, rS_i14, rS_i15, rS_i16, rS_i17, rS_i18, rS_o31, rS_o32, rS_o33, rS_o34, rS_o35, rS_o36, rS_o37, rS_o45, rS_o46, rS_o47, rS_p5, rS_p7, rS_p8, rS_p10, rS_p11, rS_P, rS_Z, rS_L, rS_J, rS_N, rS_s48, rS_s49, rS_s50, rS_s51, rS_s52, rS_s53, rS_s54, rS_s55, rS_t12, rS_t13, rS_t14, rS_t15, rS_t16, rS_t17, rS_t18]
  rw [sr_kind hR hk hN, h]
  simp only [Option.bind_some]
  rw [if_neg (by decide), if_neg (by decide), if_neg (by decide)]
  simp only [m214_69, rS_g48, rS_g49, rS_g50, rS_g51, rS_g52, rS_g53, rS_g54, rS_g55, rS_i12, rS_i13, rS_i14, rS_i15, rS_i16, rS_i17, rS_i18, rS_o31, rS_o32, rS_o33, rS_o34, rS_o35, rS_o36, rS_o37, rS_o45, rS_o46, rS_o47, rS_p5, rS_p7, rS_p8, rS_p10, rS_p11, rS_P, rS_Z, rS_L, rS_J, rS_N, rS_s48, rS_s49, rS_s50, rS_s51, rS_s52, rS_s53, rS_s54, rS_s55, rS_t12, rS_t13, rS_t14, rS_t15, rS_t16, rS_t17, rS_t18, nI_1]
  rw [mr215 (by omega) hops]
  simp only [Option.bind_some, rS_g48, rS_g49, rS_g50, rS_g51, rS_g52, rS_g53, rS_g54, rS_g55, rS_i12, rS_i13, rS_i14, rS_i15, rS_i16, rS_i17, rS_i18, rS_o31, rS_o32, rS_o33, rS_o34, rS_o35, rS_o36, rS_o37, rS_o45, rS_o46, rS_o47, rS_p5, rS_p7, rS_p8, rS_p10, rS_p11, rS_P, rS_Z, rS_L, rS_J, rS_N, rS_s48, rS_s49, rS_s50, rS_s51, rS_s52, rS_s53, rS_s54, rS_s55, rS_t12, rS_t13, rS_t14, rS_t15, rS_t16, rS_t17, rS_t18]
theorem mr214_n (hP : SP σ) (hR : SR σ t) {k c : Nat} (hk : k < yN σ) (h : 3 ≤ yk σ k) (hn : yn σ k ≠ 0) {W : Nat} (hW : W < 12100) (h1 : wn.length = 12100) (h2 : wp.length = 12100) (h3 : wb.length = 12100) : m214 (nI k) (rS t hds tls hd vars wn wp wb ops cl md rb (nI W) om (nI c) nw) = some (rS t hds tls hd vars (wn.set W (nI k)) (wp.set W 0) (wb.set W rb) ops cl md rb (nI (W + 1)) om (nI (c + 1)) (nI (k + 1))) := by
  have hN := hP.2.2.2.2.2.1
  have hn2 := yn_le hP hk
  have h23 := (hP.1 k hk).1.1
  unfold m214
  simp only [rS_g48, rS_g49, rS_g50, rS_g51, rS_g52, rS_g53, rS_g54, rS_g55, rS_i12, rS_i13, rS_i14, rS_i15, rS_i16, rS_i17, rS_i18, rS_o31, rS_o32, rS_o33, rS_o34, rS_o35, rS_o36, rS_o37, rS_o45, rS_o46, rS_o47, rS_p5, rS_p7, rS_p8, rS_p10, rS_p11, rS_P, rS_Z, rS_L, rS_J, rS_N, rS_s48, rS_s49, rS_s50, rS_s51, rS_s52, rS_s53, rS_s54, rS_s55, rS_t12, rS_t13, rS_t14, rS_t15, rS_t16, rS_t17, rS_t18]
  rw [sr_kind hR hk hN]
  simp (disch := omega) only [Option.bind_some, eqL_0, eqL_1, eqL_2, eqL_3, eqL_4, eqL_5, eqL_6, eqL_7, eqL_8, eqL_9, eqL_10, eqL_11, eqL_12, eqL_13, eqL_14, eqL_15, eqL_16, eqL_17, eqL_18, eqL_19, eqL_20, eqL_21, eqL_22, eqL_23, eqL_24, eqL_25, eqL_26, eqL_27, eqL_28, eqL_29, eqL_30, eqL_31, eqL_32, leL_0, geL_0, ltL_0, gtL_0, leL_1, geL_1, ltL_1, gtL_1, leL_2, geL_2, ltL_2, gtL_2, leL_3, geL_3, ltL_3, gtL_3, leL_8, geL_8, ltL_8, gtL_8, leL_9, geL_9, ltL_9, gtL_9, leL_10, geL_10, ltL_10, gtL_10, leL_11, geL_11, ltL_11, gtL_11, leL_12, geL_12, ltL_12, gtL_12, leL_17, geL_17, ltL_17, gtL_17, leL_18, geL_18, ltL_18, gtL_18, leL_23, geL_23, ltL_23, gtL_23, leL_24, geL_24, ltL_24, gtL_24, leL_26, geL_26, ltL_26, gtL_26, leL_31, geL_31, ltL_31, gtL_31, leL_32, geL_32, ltL_32, gtL_32, leL_48, geL_48, ltL_48, gtL_48, leL_57, geL_57, ltL_57, gtL_57, leL_63, geL_63, ltL_63, gtL_63, leL_64, geL_64, ltL_64, gtL_64, leL_97, geL_97, ltL_97, gtL_97, leL_122, geL_122, ltL_122, gtL_122, leL_4096, geL_4096, ltL_4096, gtL_4096, leL_6000, geL_6000, ltL_6000, gtL_6000, leL_8192, geL_8192, ltL_8192, gtL_8192, leL_1000000, geL_1000000, ltL_1000000, gtL_1000000, eqN, leN, ltN, nI_ne1, m1_ne]
  rw [if_pos h, sr_parts hR hk hN]
  simp (disch := omega) only [Option.bind_some, eqL_0, eqL_1, eqL_2, eqL_3, eqL_4, eqL_5, eqL_6, eqL_7, eqL_8, eqL_9, eqL_10, eqL_11, eqL_12, eqL_13, eqL_14, eqL_15, eqL_16, eqL_17, eqL_18, eqL_19, eqL_20, eqL_21, eqL_22, eqL_23, eqL_24, eqL_25, eqL_26, eqL_27, eqL_28, eqL_29, eqL_30, eqL_31, eqL_32, leL_0, geL_0, ltL_0, gtL_0, leL_1, geL_1, ltL_1, gtL_1, leL_2, geL_2, ltL_2, gtL_2, leL_3, geL_3, ltL_3, gtL_3, leL_8, geL_8, ltL_8, gtL_8, leL_9, geL_9, ltL_9, gtL_9, leL_10, geL_10, ltL_10, gtL_10, leL_11, geL_11, ltL_11, gtL_11, leL_12, geL_12, ltL_12, gtL_12, leL_17, geL_17, ltL_17, gtL_17, leL_18, geL_18, ltL_18, gtL_18, leL_23, geL_23, ltL_23, gtL_23, leL_24, geL_24, ltL_24, gtL_24, leL_26, geL_26, ltL_26, gtL_26, leL_31, geL_31, ltL_31, gtL_31, leL_32, geL_32, ltL_32, gtL_32, leL_48, geL_48, ltL_48, gtL_48, leL_57, geL_57, ltL_57, gtL_57, leL_63, geL_63, ltL_63, gtL_63, leL_64, geL_64, ltL_64, gtL_64, leL_97, geL_97, ltL_97, gtL_97, leL_122, geL_122, ltL_122, gtL_122, leL_4096, geL_4096, ltL_4096, gtL_4096, leL_6000, geL_6000, ltL_6000, gtL_6000, leL_8192, geL_8192, ltL_8192, gtL_8192, leL_1000000, geL_1000000, ltL_1000000, gtL_1000000, eqN, leN, ltN, nI_ne1, m1_ne]
  rw [if_neg hn, nI_1, nI_1]
  rw [mr217 hW h1 h2 h3]
  simp only [Option.bind_some, rS_g48, rS_g49, rS_g50, rS_g51, rS_g52, rS_g53, rS_g54, rS_g55, rS_i12, rS_i13, rS_i14, rS_i15, rS_i16, rS_i17, rS_i18, rS_o31, rS_o32, rS_o33, rS_o34, rS_o35, rS_o36, rS_o37, rS_o45, rS_o46, rS_o47, rS_p5, rS_p7, rS_p8, rS_p10, rS_p11, rS_P, rS_Z, rS_L, rS_J, rS_N, rS_s48, rS_s49, rS_s50, rS_s51, rS_s52, rS_s53, rS_s54, rS_s55, rS_t12, rS_t13, rS_t14, rS_t15, rS_t16, rS_t17, rS_t18]
theorem mr214_c (hP : SP σ) (hR : SR σ t) {k c : Nat} (hk : k < yN σ) (h : 3 ≤ yk σ k) (hn : yn σ k = 0) : m214 (nI k) (rS t hds tls hd vars wn wp wb ops cl md rb wt om (nI c) nw) = m216 (nI k) (rS t hds tls hd vars wn wp wb ops cl md rb wt om (nI (c + 1)) nw) := by
  have hN := hP.2.2.2.2.2.1
  have h23 := (hP.1 k hk).1.1
  unfold m214
  simp only [rS_g48, rS_g49, rS_g50, rS_g51, rS_g52, rS_g53, rS_g54, rS_g55, rS_i12, rS_i13, rS_i14, rS_i15, rS_i16, rS_i17, rS_i18, rS_o31, rS_o32, rS_o33, rS_o34, rS_o35, rS_o36, rS_o37, rS_o45, rS_o46, rS_o47, rS_p5, rS_p7, rS_p8, rS_p10, rS_p11, rS_P, rS_Z, rS_L, rS_J, rS_N, rS_s48, rS_s49, rS_s50, rS_s51, rS_s52, rS_s53, rS_s54, rS_s55, rS_t12, rS_t13, rS_t14, rS_t15, rS_t16, rS_t17, rS_t18]
  rw [sr_kind hR hk hN]
  simp (disch := omega) only [Option.bind_some, eqL_0, eqL_1, eqL_2, eqL_3, eqL_4, eqL_5, eqL_6, eqL_7, eqL_8, eqL_9, eqL_10, eqL_11, eqL_12, eqL_13, eqL_14, eqL_15, eqL_16, eqL_17, eqL_18, eqL_19, eqL_20, eqL_21, eqL_22, eqL_23, eqL_24, eqL_25, eqL_26, eqL_27, eqL_28, eqL_29, eqL_30, eqL_31, eqL_32, leL_0, geL_0, ltL_0, gtL_0, leL_1, geL_1, ltL_1, gtL_1, leL_2, geL_2, ltL_2, gtL_2, leL_3, geL_3, ltL_3, gtL_3, leL_8, geL_8, ltL_8, gtL_8, leL_9, geL_9, ltL_9, gtL_9, leL_10, geL_10, ltL_10, gtL_10, leL_11, geL_11, ltL_11, gtL_11, leL_12, geL_12, ltL_12, gtL_12, leL_17, geL_17, ltL_17, gtL_17, leL_18, geL_18, ltL_18, gtL_18, leL_23, geL_23, ltL_23, gtL_23, leL_24, geL_24, ltL_24, gtL_24, leL_26, geL_26, ltL_26, gtL_26, leL_31, geL_31, ltL_31, gtL_31, leL_32, geL_32, ltL_32, gtL_32, leL_48, geL_48, ltL_48, gtL_48, leL_57, geL_57, ltL_57, gtL_57, leL_63, geL_63, ltL_63, gtL_63, leL_64, geL_64, ltL_64, gtL_64, leL_97, geL_97, ltL_97, gtL_97, leL_122, geL_122, ltL_122, gtL_122, leL_4096, geL_4096, ltL_4096, gtL_4096, leL_6000, geL_6000, ltL_6000, gtL_6000, leL_8192, geL_8192, ltL_8192, gtL_8192, leL_1000000, geL_1000000, ltL_1000000, gtL_1000000, eqN, leN, ltN, nI_ne1, m1_ne]
  rw [if_pos h, sr_parts hR hk hN, hn]
  simp only [Option.bind_some]
  rw [if_pos (by decide), nI_1]
  exact bind_id _
end Come
end MR2
