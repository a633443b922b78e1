/-! the reference keeps its program, and brings it back -/
section Keep
variable {t : xSt} {qr31 qr32 qr33 qr34 qr35 qr36 qr37 qr38 qr39 qr40 qr41 qr42 qr43 qr44 : List Int32} {qi5 qi6 : Int32}
theorem list_same {a b : List Int32} {n : Nat} (ha : a.length = n) (hb : b.length = n) (h : ∀ i, i < n → a.getD i 0 = b.getD i 0) : a = b := by
  refine List.ext_getElem (by omega) (fun i h1 h2 => ?_)
  have e := h i (by omega)
  rw [List.getD_eq_getElem?_getD, List.getD_eq_getElem?_getD, List.getElem?_eq_getElem h1, List.getElem?_eq_getElem h2] at e
  exact e
theorem cop_s {a b : List Int32} {n i : Nat} (hb : b.length = n) (hi : i < n) (h : ∀ j, j < i → b.getD j 0 = a.getD j 0) : ∀ j, j < i + 1 → (b.set i (a.getD i 0)).getD j 0 = a.getD j 0 := fun j hj => by
  rw [getD_setn (by omega)]
  by_cases c : j = i
  · rw [if_pos c, c]
  · rw [if_neg c]
    exact h j (by omega)
theorem k97_go (h37 : qr37.length = 64) : ∀ (m i f : Nat) (qr44 : List Int32), i + m = 64 → m < f → qr44.length = 64 → (∀ j, j < i → qr44.getD j 0 = qr37.getD j 0) → m209_97 f (nI i) (lnR t qr31 qr32 qr33 qr34 qr35 qr36 qr37 qr38 qr39 qr40 qr41 qr42 qr43 qr44 qi5 qi6) = some (lnR t qr31 qr32 qr33 qr34 qr35 qr36 qr37 qr38 qr39 qr40 qr41 qr42 qr43 qr37 qi5 qi6) := by
  intro m
  induction m with
  | zero =>
    intro i f qr44 hi hf h44 he
    obtain ⟨f, rfl⟩ : ∃ f', f = f' + 1 := ⟨f - 1, by omega⟩
    rw [m209_97, if_pos (by rw [geL_64 (by omega)]; omega), list_same h44 h37 (fun j hj => he j (by omega))]
  | succ m ih =>
    intro i f qr44 hi hf h44 he
    obtain ⟨f, rfl⟩ : ∃ f', f = f' + 1 := ⟨f - 1, by omega⟩
    rw [m209_97, if_neg (by rw [geL_64 (by omega)]; omega), lnR_r37, xsGet_d (by omega) (by omega), bs, lnR_r44, xsPut_n (by omega) (by omega), bs, lnR_sr44, nI_1]
    exact ih (i + 1) f _ (by omega) (by omega) (by rw [List.length_set]; exact h44) (cop_s h44 (by omega) he)
theorem ge4200 {a : Nat} (h : a < 2 ^ 30) : ((4200 : Int32) ≤ nI a) = (4200 ≤ a) := by
  rw [show (4200 : Int32) = nI 4200 from rfl, leN (by omega) (by omega)]
theorem k10_go (h31 : qr31.length = 4200) (h32 : qr32.length = 4200) (h33 : qr33.length = 4200) (h34 : qr34.length = 4200) (h35 : qr35.length = 4200) (h36 : qr36.length = 4200) (h37 : qr37.length = 64) (h44 : qr44.length = 64) : ∀ (m i f : Nat) (qr38 qr39 qr40 qr41 qr42 qr43 : List Int32), i + m = 4200 → m < f → qr38.length = 4200 → qr39.length = 4200 → qr40.length = 4200 → qr41.length = 4200 → qr42.length = 4200 → qr43.length = 4200 → (∀ j, j < i → qr38.getD j 0 = qr31.getD j 0) → (∀ j, j < i → qr39.getD j 0 = qr32.getD j 0) → (∀ j, j < i → qr40.getD j 0 = qr33.getD j 0) → (∀ j, j < i → qr41.getD j 0 = qr34.getD j 0) → (∀ j, j < i → qr42.getD j 0 = qr35.getD j 0) → (∀ j, j < i → qr43.getD j 0 = qr36.getD j 0) → m209_10 f (nI i) (lnR t qr31 qr32 qr33 qr34 qr35 qr36 qr37 qr38 qr39 qr40 qr41 qr42 qr43 qr44 qi5 qi6) = some (lnR t qr31 qr32 qr33 qr34 qr35 qr36 qr37 qr31 qr32 qr33 qr34 qr35 qr36 qr37 qi5 qi6) := by
  intro m
  induction m with
  | zero =>
    intro i f qr38 qr39 qr40 qr41 qr42 qr43 hi hf l38 l39 l40 l41 l42 l43 e38 e39 e40 e41 e42 e43
    obtain ⟨f, rfl⟩ : ∃ f', f = f' + 1 := ⟨f - 1, by omega⟩
    have hi' : i = 4200 := by omega
    subst hi'
    rw [m209_10, if_pos (by rw [ge4200 (by omega)]; omega), list_same l38 h31 e38, list_same l39 h32 e39, list_same l40 h33 e40, list_same l41 h34 e41, list_same l42 h35 e42, list_same l43 h36 e43]
    exact k97_go h37 64 0 1000000 qr44 (by omega) (by omega) h44 (fun j hj => by omega)
  | succ m ih =>
    intro i f qr38 qr39 qr40 qr41 qr42 qr43 hi hf l38 l39 l40 l41 l42 l43 e38 e39 e40 e41 e42 e43
    obtain ⟨f, rfl⟩ : ∃ f', f = f' + 1 := ⟨f - 1, by omega⟩
    rw [m209_10, if_neg (by rw [ge4200 (by omega)]; omega), lnR_r31, xsGet_d (by omega) (by omega), bs, lnR_r38, xsPut_n (by omega) (by omega), bs, lnR_r32, xsGet_d (by omega) (by omega), bs, lnR_r39, xsPut_n (by omega) (by omega), bs, lnR_r33, xsGet_d (by omega) (by omega), bs, lnR_r40, xsPut_n (by omega) (by omega), bs, lnR_r34, xsGet_d (by omega) (by omega), bs, lnR_r41, xsPut_n (by omega) (by omega), bs, lnR_r35, xsGet_d (by omega) (by omega), bs, lnR_r42, xsPut_n (by omega) (by omega), bs, lnR_r36, xsGet_d (by omega) (by omega), bs, lnR_r43, xsPut_n (by omega) (by omega), bs, lnR_sr38, lnR_sr39, lnR_sr40, lnR_sr41, lnR_sr42, lnR_sr43, nI_1]
    exact ih (i + 1) f _ _ _ _ _ _ (by omega) (by omega) (by rw [List.length_set]; exact l38) (by rw [List.length_set]; exact l39) (by rw [List.length_set]; exact l40) (by rw [List.length_set]; exact l41) (by rw [List.length_set]; exact l42) (by rw [List.length_set]; exact l43) (cop_s l38 (by omega) e38) (cop_s l39 (by omega) e39) (cop_s l40 (by omega) e40) (cop_s l41 (by omega) e41) (cop_s l42 (by omega) e42) (cop_s l43 (by omega) e43)
theorem keep_eq (h31 : qr31.length = 4200) (h32 : qr32.length = 4200) (h33 : qr33.length = 4200) (h34 : qr34.length = 4200) (h35 : qr35.length = 4200) (h36 : qr36.length = 4200) (h37 : qr37.length = 64) (h38 : qr38.length = 4200) (h39 : qr39.length = 4200) (h40 : qr40.length = 4200) (h41 : qr41.length = 4200) (h42 : qr42.length = 4200) (h43 : qr43.length = 4200) (h44 : qr44.length = 64) : m209 (lnR t qr31 qr32 qr33 qr34 qr35 qr36 qr37 qr38 qr39 qr40 qr41 qr42 qr43 qr44 qi5 qi6) = some (lnR t qr31 qr32 qr33 qr34 qr35 qr36 qr37 qr31 qr32 qr33 qr34 qr35 qr36 qr37 qi5 qi5) := by
  unfold m209
  rw [lnR_i5, lnR_si6]
  exact k10_go h31 h32 h33 h34 h35 h36 h37 h44 4200 0 1000000 qr38 qr39 qr40 qr41 qr42 qr43 (by omega) (by omega) h38 h39 h40 h41 h42 h43 (fun j hj => by omega) (fun j hj => by omega) (fun j hj => by omega) (fun j hj => by omega) (fun j hj => by omega) (fun j hj => by omega)
theorem b97_go (h44 : qr44.length = 64) : ∀ (m i f : Nat) (qr37 : List Int32), i + m = 64 → m < f → qr37.length = 64 → (∀ j, j < i → qr37.getD j 0 = qr44.getD j 0) → m222_97 f (nI i) (lnR t qr31 qr32 qr33 qr34 qr35 qr36 qr37 qr38 qr39 qr40 qr41 qr42 qr43 qr44 qi5 qi6) = some (lnR t qr31 qr32 qr33 qr34 qr35 qr36 qr44 qr38 qr39 qr40 qr41 qr42 qr43 qr44 qi5 qi6) := by
  intro m
  induction m with
  | zero =>
    intro i f qr37 hi hf h37 he
    obtain ⟨f, rfl⟩ : ∃ f', f = f' + 1 := ⟨f - 1, by omega⟩
    rw [m222_97, if_pos (by rw [geL_64 (by omega)]; omega), list_same h37 h44 (fun j hj => he j (by omega))]
  | succ m ih =>
    intro i f qr37 hi hf h37 he
    obtain ⟨f, rfl⟩ : ∃ f', f = f' + 1 := ⟨f - 1, by omega⟩
    rw [m222_97, if_neg (by rw [geL_64 (by omega)]; omega), lnR_r44, xsGet_d (by omega) (by omega), bs, lnR_r37, xsPut_n (by omega) (by omega), bs, lnR_sr37, nI_1]
    exact ih (i + 1) f _ (by omega) (by omega) (by rw [List.length_set]; exact h37) (cop_s h37 (by omega) he)
theorem b10_go (h38 : qr38.length = 4200) (h39 : qr39.length = 4200) (h40 : qr40.length = 4200) (h41 : qr41.length = 4200) (h42 : qr42.length = 4200) (h43 : qr43.length = 4200) (h44 : qr44.length = 64) (h37 : qr37.length = 64) : ∀ (m i f : Nat) (qr31 qr32 qr33 qr34 qr35 qr36 : List Int32), i + m = 4200 → m < f → qr31.length = 4200 → qr32.length = 4200 → qr33.length = 4200 → qr34.length = 4200 → qr35.length = 4200 → qr36.length = 4200 → (∀ j, j < i → qr31.getD j 0 = qr38.getD j 0) → (∀ j, j < i → qr32.getD j 0 = qr39.getD j 0) → (∀ j, j < i → qr33.getD j 0 = qr40.getD j 0) → (∀ j, j < i → qr34.getD j 0 = qr41.getD j 0) → (∀ j, j < i → qr35.getD j 0 = qr42.getD j 0) → (∀ j, j < i → qr36.getD j 0 = qr43.getD j 0) → m222_10 f (nI i) (lnR t qr31 qr32 qr33 qr34 qr35 qr36 qr37 qr38 qr39 qr40 qr41 qr42 qr43 qr44 qi5 qi6) = some (lnR t qr38 qr39 qr40 qr41 qr42 qr43 qr44 qr38 qr39 qr40 qr41 qr42 qr43 qr44 qi5 qi6) := by
  intro m
  induction m with
  | zero =>
    intro i f qr31 qr32 qr33 qr34 qr35 qr36 hi hf l31 l32 l33 l34 l35 l36 e31 e32 e33 e34 e35 e36
    obtain ⟨f, rfl⟩ : ∃ f', f = f' + 1 := ⟨f - 1, by omega⟩
    have hi' : i = 4200 := by omega
    subst hi'
    rw [m222_10, if_pos (by rw [ge4200 (by omega)]; omega), list_same l31 h38 e31, list_same l32 h39 e32, list_same l33 h40 e33, list_same l34 h41 e34, list_same l35 h42 e35, list_same l36 h43 e36]
    exact b97_go h44 64 0 1000000 qr37 (by omega) (by omega) h37 (fun j hj => by omega)
  | succ m ih =>
    intro i f qr31 qr32 qr33 qr34 qr35 qr36 hi hf l31 l32 l33 l34 l35 l36 e31 e32 e33 e34 e35 e36
    obtain ⟨f, rfl⟩ : ∃ f', f = f' + 1 := ⟨f - 1, by omega⟩
    rw [m222_10, if_neg (by rw [ge4200 (by omega)]; omega), lnR_r38, xsGet_d (by omega) (by omega), bs, lnR_r31, xsPut_n (by omega) (by omega), bs, lnR_r39, xsGet_d (by omega) (by omega), bs, lnR_r32, xsPut_n (by omega) (by omega), bs, lnR_r40, xsGet_d (by omega) (by omega), bs, lnR_r33, xsPut_n (by omega) (by omega), bs, lnR_r41, xsGet_d (by omega) (by omega), bs, lnR_r34, xsPut_n (by omega) (by omega), bs, lnR_r42, xsGet_d (by omega) (by omega), bs, lnR_r35, xsPut_n (by omega) (by omega), bs, lnR_r43, xsGet_d (by omega) (by omega), bs, lnR_r36, xsPut_n (by omega) (by omega), bs, lnR_sr31, lnR_sr32, lnR_sr33, lnR_sr34, lnR_sr35, lnR_sr36, nI_1]
    exact ih (i + 1) f _ _ _ _ _ _ (by omega) (by omega) (by rw [List.length_set]; exact l31) (by rw [List.length_set]; exact l32) (by rw [List.length_set]; exact l33) (by rw [List.length_set]; exact l34) (by rw [List.length_set]; exact l35) (by rw [List.length_set]; exact l36) (cop_s l31 (by omega) e31) (cop_s l32 (by omega) e32) (cop_s l33 (by omega) e33) (cop_s l34 (by omega) e34) (cop_s l35 (by omega) e35) (cop_s l36 (by omega) e36)
theorem bring_eq (h31 : qr31.length = 4200) (h32 : qr32.length = 4200) (h33 : qr33.length = 4200) (h34 : qr34.length = 4200) (h35 : qr35.length = 4200) (h36 : qr36.length = 4200) (h37 : qr37.length = 64) (h38 : qr38.length = 4200) (h39 : qr39.length = 4200) (h40 : qr40.length = 4200) (h41 : qr41.length = 4200) (h42 : qr42.length = 4200) (h43 : qr43.length = 4200) (h44 : qr44.length = 64) : m222 (lnR t qr31 qr32 qr33 qr34 qr35 qr36 qr37 qr38 qr39 qr40 qr41 qr42 qr43 qr44 qi5 qi6) = some (lnR t qr38 qr39 qr40 qr41 qr42 qr43 qr44 qr38 qr39 qr40 qr41 qr42 qr43 qr44 qi6 qi6) := by
  unfold m222
  rw [lnR_i6, lnR_si5]
  exact b10_go h38 h39 h40 h41 h42 h43 h44 h37 4200 0 1000000 qr31 qr32 qr33 qr34 qr35 qr36 (by omega) (by omega) h31 h32 h33 h34 h35 h36 (fun j hj => by omega) (fun j hj => by omega) (fun j hj => by omega) (fun j hj => by omega) (fun j hj => by omega) (fun j hj => by omega)
end Keep
