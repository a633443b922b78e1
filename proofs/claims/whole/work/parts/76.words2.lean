/-! words of the texts, words of ours -/
section Words
variable {T U : List Int32} {n : Nat} {s t : xSt}
theorem xtLen_n {k : Nat} (hk : k < zN) : xtLen k = some (nI (zBy k).length) := if_pos hk
theorem xtAt_n {k j : Nat} (hk : k < zN) (hj : j < 2 ^ 31) (hl : j < (zBy k).length) : xtAt k (nI j) = some ((zBy k).getD j 0) := by
  unfold xtAt
  rw [if_pos hk, xsGet_d hj hl]
theorem drop_step {xs : List Int32} {j : Nat} (h : j < xs.length) : xs.drop j = xs.getD j 0 :: xs.drop (j + 1) := by
  rw [List.drop_eq_getElem_cons h, List.getD_eq_getElem?_getD, List.getElem?_eq_getElem h]
  rfl
theorem lex_is_go (h : TR T U n) (hU : gR t 1 = U) {a k : Nat} (ha : gI t 25 = nI a) (hk : k < zN) (hlen : a + (zBy k).length ≤ n) (hL : ∀ i, a ≤ i → i < a + (zBy k).length → isL (T.getD i 0) = true) : ∀ (f j : Nat) (g : Bool), j ≤ (zBy k).length → (zBy k).length < j + f → m159_30 f k g (nI j) t = some (g && decide (seg T (a + j) ((zBy k).length - j) = (zBy k).drop j), t) := by
  obtain ⟨h1, h2, h3, h4⟩ := h
  intro f
  induction f with
  | zero => intro j g x y; omega
  | succ f ih =>
    intro j g x y
    unfold m159_30
    rw [xtLen_n hk, bs]
    simp (disch := omega) only [eqL_0, eqL_1, eqL_2, eqL_3, eqL_4, eqL_5, eqL_6, eqL_7, eqL_8, eqL_9, eqL_10, eqL_11, eqL_12, eqL_13, eqL_14, eqL_15, eqL_16, eqL_17, eqL_18, eqL_19, eqL_20, eqL_21, eqL_22, eqL_23, eqL_24, eqL_25, eqL_26, eqL_27, eqL_28, eqL_29, eqL_30, eqL_31, eqL_32, leL_0, geL_0, ltL_0, gtL_0, leL_1, geL_1, ltL_1, gtL_1, leL_2, geL_2, ltL_2, gtL_2, leL_3, geL_3, ltL_3, gtL_3, leL_8, geL_8, ltL_8, gtL_8, leL_9, geL_9, ltL_9, gtL_9, leL_10, geL_10, ltL_10, gtL_10, leL_11, geL_11, ltL_11, gtL_11, leL_12, geL_12, ltL_12, gtL_12, leL_17, geL_17, ltL_17, gtL_17, leL_18, geL_18, ltL_18, gtL_18, leL_23, geL_23, ltL_23, gtL_23, leL_24, geL_24, ltL_24, gtL_24, leL_26, geL_26, ltL_26, gtL_26, leL_31, geL_31, ltL_31, gtL_31, leL_32, geL_32, ltL_32, gtL_32, leL_48, geL_48, ltL_48, gtL_48, leL_57, geL_57, ltL_57, gtL_57, leL_63, geL_63, ltL_63, gtL_63, leL_64, geL_64, ltL_64, gtL_64, leL_97, geL_97, ltL_97, gtL_97, leL_122, geL_122, ltL_122, gtL_122, leL_4096, geL_4096, ltL_4096, gtL_4096, leL_6000, geL_6000, ltL_6000, gtL_6000, leL_8192, geL_8192, ltL_8192, gtL_8192, leL_1000000, geL_1000000, ltL_1000000, gtL_1000000, eqN, leN, ltN, nI_ne1, m1_ne]
    by_cases z : (zBy k).length ≤ j
    · rw [if_pos z, show (zBy k).length - j = 0 by omega, List.drop_eq_nil_of_le z]
      have e : seg T (a + j) 0 = [] := by unfold seg; rw [List.take_zero]
      rw [e, decide_eq_true rfl, Bool.and_true]
    · rw [if_neg z, show (zBy k).length - j = (zBy k).length - (j + 1) + 1 by omega, seg_succ (by omega), drop_step (by omega), nI_1]
      cases g
      · rw [if_neg ff, ih (j + 1) false (by omega) (by omega)]
        rfl
      · have eu : U.getD (a + j) 0 = T.getD (a + j) 0 := tcr_eq (h4 _ (by omega)) (Or.inl (hL _ (by omega) (by omega)))
        rw [if_pos rfl, hU, ha, nI_add, xsGet_d (by omega) (by omega), bs, xtAt_n hk (by omega) (by omega), bs, eu]
        by_cases c : T.getD (a + j) 0 = (zBy k).getD j 0
        · rw [if_pos c, ih (j + 1) true (by omega) (by omega), Bool.true_and, Bool.true_and]
          congr 2
          refine decide_eq_decide.mpr ⟨fun q => ?_, fun q => ?_⟩
          · rw [show a + j + 1 = a + (j + 1) by omega, q, c]
          · rw [show a + j + 1 = a + (j + 1) by omega] at q
            exact (List.cons.inj q).2
        · rw [if_neg c, ih (j + 1) false (by omega) (by omega), Bool.true_and, decide_eq_false (fun q => c (List.cons.inj q).1), Bool.false_and]
theorem lex_is (h : TR T U n) (hU : gR t 1 = U) {a e k : Nat} (h24 : gI t 24 = 2) (ha : gI t 25 = nI a) (he : gI t 23 = nI e) (hae : a ≤ e) (hen : e ≤ n) (hk : k < zN) (hz : (zBy k).length < 1000) (hL : ∀ i, a ≤ i → i < e → isL (T.getD i 0) = true) : m159 k t = some (decide (seg T a (e - a) = zBy k), t) := by
  have hh := h
  obtain ⟨h1, h2, h3, h4⟩ := h
  unfold m159
  rw [h24, if_pos rfl, xtLen_n hk, bs, he, ha, nI_subI hae]
  simp (disch := omega) only [eqL_0, eqL_1, eqL_2, eqL_3, eqL_4, eqL_5, eqL_6, eqL_7, eqL_8, eqL_9, eqL_10, eqL_11, eqL_12, eqL_13, eqL_14, eqL_15, eqL_16, eqL_17, eqL_18, eqL_19, eqL_20, eqL_21, eqL_22, eqL_23, eqL_24, eqL_25, eqL_26, eqL_27, eqL_28, eqL_29, eqL_30, eqL_31, eqL_32, leL_0, geL_0, ltL_0, gtL_0, leL_1, geL_1, ltL_1, gtL_1, leL_2, geL_2, ltL_2, gtL_2, leL_3, geL_3, ltL_3, gtL_3, leL_8, geL_8, ltL_8, gtL_8, leL_9, geL_9, ltL_9, gtL_9, leL_10, geL_10, ltL_10, gtL_10, leL_11, geL_11, ltL_11, gtL_11, leL_12, geL_12, ltL_12, gtL_12, leL_17, geL_17, ltL_17, gtL_17, leL_18, geL_18, ltL_18, gtL_18, leL_23, geL_23, ltL_23, gtL_23, leL_24, geL_24, ltL_24, gtL_24, leL_26, geL_26, ltL_26, gtL_26, leL_31, geL_31, ltL_31, gtL_31, leL_32, geL_32, ltL_32, gtL_32, leL_48, geL_48, ltL_48, gtL_48, leL_57, geL_57, ltL_57, gtL_57, leL_63, geL_63, ltL_63, gtL_63, leL_64, geL_64, ltL_64, gtL_64, leL_97, geL_97, ltL_97, gtL_97, leL_122, geL_122, ltL_122, gtL_122, leL_4096, geL_4096, ltL_4096, gtL_4096, leL_6000, geL_6000, ltL_6000, gtL_6000, leL_8192, geL_8192, ltL_8192, gtL_8192, leL_1000000, geL_1000000, ltL_1000000, gtL_1000000, eqN, leN, ltN, nI_ne1, m1_ne]
  by_cases z : e - a = (zBy k).length
  · rw [if_pos z, show (0 : Int32) = nI 0 from rfl, lex_is_go hh hU ha hk (by omega) (fun i x y => hL i x (by omega)) 1000000 0 true (by omega) (by omega), Bool.true_and, Nat.add_zero, Nat.sub_zero, List.drop_zero, z]
  · rw [if_neg z, decide_eq_false (fun q => z ?_)]
    rw [← q]
    unfold seg
    rw [List.length_take, List.length_drop]
    omega
def wl : List Nat := [18, 19, 20, 21, 22, 23, 24, 25, 26, 27, 28, 29, 30, 16, 17, 31, 32, 33, 34, 14, 15, 12, 13]
def wfL (l : List Int32) : List Nat → Nat → Nat
  | [], _ => 0
  | k :: ks, c => if l = zBy k then c else wfL l ks (c + 1)
/-- the code of a word -/
def wcode (l : List Int32) : Nat := wfL l wl 1
theorem zBy9 : zBy 9 = (wl.map fun k => zBy k ++ [32]).flatten := by decide +kernel
theorem zBy_ok : ∀ k ∈ wl, (zBy k).all isL = true ∧ (zBy k).length ≤ 12 ∧ k < zN := by decide +kernel
theorem w_letters {l0 : Int64} : ∀ (w rest : List Int32) (i f c : Nat) (acc : Int64), (zBy 9).drop i = w ++ 32 :: rest → (∀ x ∈ w, isL x = true) → i < 1000 → m18_7 (f + w.length + 1) l0 (nI c) acc (nI i) s = if w.foldl (fun x y => x * 32 + Int32.toInt64 (y - 97 + 1)) acc = l0 then some (nI c, s) else m18_7 f l0 (nI (c + 1)) 0 (nI (i + w.length + 1)) s := by
  intro w
  induction w with
  | nil =>
    intro rest i f c acc h hw hi
    have hlt : i < (zBy 9).length := by
      by_cases z : i < (zBy 9).length
      · exact z
      · rw [List.drop_eq_nil_of_le (by omega)] at h
        cases h
    have e := drop_step hlt
    rw [h] at e
    have e1 := (List.cons.inj e).1
    have hz : (zBy 9).length < 1000 := by decide +kernel
    conv => lhs; unfold m18_7
    rw [xtLen_n (by decide), bs, if_neg (by rw [leN (by omega) (by omega)]; omega), xtAt_n (by decide) (by omega) hlt, bs, ← e1, if_pos rfl]
    show _ = if acc = l0 then _ else _
    by_cases y : acc = l0
    · rw [if_pos y, if_pos ((lg_cmp_eq _ _).mpr y)]
    · rw [if_neg y, if_neg (fun q => y ((lg_cmp_eq _ _).mp q)), nI_1, nI_1]
      rfl
  | cons x w ih =>
    intro rest i f c acc h hw hi
    have hlt : i < (zBy 9).length := by
      by_cases z : i < (zBy 9).length
      · exact z
      · rw [List.drop_eq_nil_of_le (by omega)] at h
        cases h
    have e := drop_step hlt
    rw [h] at e
    have e1 := (List.cons.inj e).1
    have e2 := (List.cons.inj e).2
    have hz : (zBy 9).length < 999 := by decide +kernel
    have hx : x ≠ 32 := fun q => by
      have := hw x List.mem_cons_self
      rw [q] at this
      exact absurd this (by decide)
    conv => lhs; unfold m18_7
    rw [xtLen_n (by decide), bs, if_neg (by rw [leN (by omega) (by omega)]; omega), xtAt_n (by decide) (by omega) hlt, bs, ← e1, if_neg hx, nI_1]
    rw [List.length_cons, show f + (w.length + 1) = f + w.length + 1 by omega, ih rest (i + 1) f c _ e2.symm (fun y hy => hw y (List.mem_cons_of_mem _ hy)) (by omega), List.foldl_cons, show i + 1 + w.length + 1 = i + (w.length + 1) + 1 by omega]
theorem w_find {l : List Int32} (hl : ∀ x ∈ l, isL x = true) (l12 : l.length ≤ 12) : ∀ (ks : List Nat) (i f c : Nat), (zBy 9).drop i = (ks.map fun k => zBy k ++ [32]).flatten → (∀ k ∈ ks, (zBy k).all isL = true ∧ (zBy k).length ≤ 12) → 13 * ks.length < f → i + 13 * ks.length < 1000 → m18_7 f (encL l) (nI c) 0 (nI i) s = some (nI (wfL l ks c), s) := by
  intro ks
  induction ks with
  | nil =>
    intro i f c h _ hf hi
    obtain ⟨f, rfl⟩ : ∃ G, f = G + 1 := ⟨f - 1, by omega⟩
    have hz : (zBy 9).length < 1000 := by decide +kernel
    have hge : (zBy 9).length ≤ i := by
      by_cases z : (zBy 9).length ≤ i
      · exact z
      · rw [drop_step (by omega)] at h
        cases h
    unfold m18_7
    rw [xtLen_n (by decide), bs, if_pos (by rw [leN (by omega) (by rw [List.length_nil] at hi; omega)]; exact hge)]
    rfl
  | cons k ks ih =>
    intro i f c h hks hf hi
    rw [List.length_cons] at hf hi
    obtain ⟨w1, w2⟩ := hks k List.mem_cons_self
    have w1' : ∀ x ∈ zBy k, isL x = true := fun x hx => List.all_eq_true.mp w1 x hx
    rw [List.map_cons, List.flatten_cons, List.append_assoc, List.singleton_append] at h
    obtain ⟨g, rfl⟩ : ∃ G, f = G + (zBy k).length + 1 := ⟨f - (zBy k).length - 1, by omega⟩
    rw [w_letters (zBy k) _ i g c 0 h w1' (by omega)]
    show (if encL (zBy k) = encL l then _ else _) = some (nI (if l = zBy k then c else wfL l ks (c + 1)), s)
    by_cases z : l = zBy k
    · rw [if_pos (by rw [z]), if_pos z]
    · rw [if_neg (fun q => z (encL_inj hl w1' l12 w2 q.symm)), if_neg z]
      refine ih (i + (zBy k).length + 1) g (c + 1) ?_ (fun k' hk' => hks k' (List.mem_cons_of_mem _ hk')) (by omega) (by omega)
      rw [show i + (zBy k).length + 1 = i + ((zBy k).length + 1) by omega, ← List.drop_drop, h, show zBy k ++ 32 :: (ks.map fun k => zBy k ++ [32]).flatten = (zBy k ++ [32]) ++ (ks.map fun k => zBy k ++ [32]).flatten from by rw [List.append_assoc]; rfl, List.drop_left' (by rw [List.length_append]; rfl)]
theorem m18_eq {l : List Int32} (hl : ∀ x ∈ l, isL x = true) (l12 : l.length ≤ 12) : m18 (encL l) s = some (nI (wcode l), s) := by
  unfold m18 wcode
  refine w_find hl l12 wl 0 1000000 1 (by rw [List.drop_zero]; exact zBy9) (fun k hk => ⟨(zBy_ok k hk).1, (zBy_ok k hk).2.1⟩) ?_ ?_
  · show 13 * 23 < 1000000
    decide
  · show 0 + 13 * 23 < 1000
    decide
end Words
