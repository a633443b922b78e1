/-! a run from its start; what comes out -/
theorem sI_id (s : xSt) (i : Nat) : sI s i (gI s i) = s := by
  show (s.1, bUp s.2.1 i (s.2.1 i), s.2.2) = s
  rw [bUp_id]
theorem cS_id (s : xSt) : cS s (gR s 8) (gR s 9) (gR s 10) (gR s 11) (gR s 12) (gR s 13) (gI s 12) (gI s 13) (gI s 14) = s := by
  unfold cS
  simp only [sR_id, sI_id]
theorem rS_id (t : xSt) : rS t (gR t 48) (gR t 49) (gR t 50) (gR t 51) (gR t 52) (gR t 53) (gR t 54) (gR t 55) (gI t 12) (gI t 13) (gI t 14) (gI t 15) (gI t 16) (gI t 17) (gI t 18) = t := by
  unfold rS
  simp only [sR_id, sI_id]
section Lists
variable {s t : xSt} {N P V Sl : List Int32} {b nx st : Int32} {vars wn wp wb ops : List Int32} {rb wt om ct nw : Int32}
/-- the list of the input, in both -/
def LRel (cl : Nat) (hd Hd Tl hds tls : List Int32) : Prop := HRel cl (cl + 1) hd Hd Tl hds tls ∧ hd.getD (cl + 1) 0 = nI cl
theorem lrel_add {cl : Nat} {hd Hd Tl hds tls : List Int32} {x : Int32} (h : LRel cl hd Hd Tl hds tls) (hc : cl < 1000) : LRel (cl + 1) (hd.set (cl + 2) (nI (cl + 1))) (Hd ++ [x]) (Tl ++ [nI cl]) (hds.set (cl + 1) x) (tls.set (cl + 1) (nI (cl + 1))) := by
  obtain ⟨⟨b1, b2, b3, b4, b5, b6⟩, b7⟩ := h
  have hd1 : ∀ m, m ≤ cl + 1 → (hd.set (cl + 2) (nI (cl + 1))).getD m 0 = hd.getD m 0 := fun m hm => by rw [getD_set_n, if_neg (by omega)]
  refine ⟨⟨by rw [List.length_append, b1]; rfl, by rw [List.length_append, b2]; rfl, by rw [List.length_set]; exact b3, by rw [List.length_set]; exact b4, by rw [List.length_set]; exact b5, fun a h1 h2 => ?_⟩, by rw [getD_setn (by omega), if_pos rfl]⟩
  rw [getD_push, getD_push, getD_setn (by omega), getD_setn (by omega), b1, b2]
  by_cases z : a = cl + 1
  · rw [if_pos z, if_pos z, if_pos z, if_pos z]
    exact ⟨rfl, cl + 1, cl, by omega, by omega, rfl, by rw [hd1 _ (Nat.le_refl _)]; exact b7, rfl⟩
  · rw [if_neg z, if_neg z, if_neg z, if_neg z]
    obtain ⟨c1, m, a', c2, c3, c4, c5, c6⟩ := b6 a h1 (by omega)
    exact ⟨c1, m, a', by omega, c3, c4, by rw [hd1 m c2]; exact c5, c6⟩
theorem list_c78 {xs : List Int32} (hxs : gR s 14 = xs) (hx : xs.length ≤ 64) : ∀ (j f cl : Nat) (hd Hd Tl hds tls : List Int32), j ≤ xs.length → j < f → cl + j ≤ 64 → LRel cl hd Hd Tl hds tls → ∃ hd' Hd' Tl' hds' tls', LRel (cl + j) hd' Hd' Tl' hds' tls' ∧ m118_r78_9 f (nI cl) (nI j - 1) (cS s N P V Sl Hd Tl b nx st) = some (nI (cl + j), cS s N P V Sl Hd' Tl' b nx st) ∧
    ∀ g, j < g → ArrR (gR t 45) xs → m211_41 g false (nI (cl + 1)) (nI j - 1) (rS t hds tls hd vars wn wp wb ops (nI cl) (nI (cl + 1)) rb wt om ct nw) = m211_41 (g - j) false (nI (cl + j + 1)) (nI 0 - 1) (rS t hds' tls' hd' vars wn wp wb ops (nI (cl + j)) (nI (cl + j + 1)) rb wt om ct nw) := by
  intro j
  induction j with
  | zero =>
    intro f cl hd Hd Tl hds tls h1 h2 h3 h4
    refine ⟨hd, Hd, Tl, hds, tls, h4, ?_, fun g hg ha => by rw [Nat.sub_zero]; rfl⟩
    obtain ⟨f, rfl⟩ : ∃ G, f = G + 1 := ⟨f - 1, by omega⟩
    unfold m118_r78_9
    rw [if_pos (by decide)]
    rfl
  | succ j ih =>
    intro f cl hd Hd Tl hds tls h1 h2 h3 h4
    obtain ⟨f, rfl⟩ : ∃ G, f = G + 1 := ⟨f - 1, by omega⟩
    have hb := h4.1
    have hL := lrel_add (x := xs.getD j 0) h4 (by omega)
    obtain ⟨hd', Hd', Tl', hds', tls', i1, i2, i3⟩ := ih f (cl + 1) _ _ _ _ _ (by omega) (by omega) (by omega) hL
    refine ⟨hd', Hd', Tl', hds', tls', by rw [show cl + (j + 1) = cl + 1 + j by omega]; exact i1, ?_, fun g hg ha => ?_⟩
    · unfold m118_r78_9
      rw [nI_pred, if_neg (nI_pos (by omega))]
      simp only [cS_g8, cS_g9, cS_g10, cS_g11, cS_g12, cS_g13, cS_i12, cS_i13, cS_i14, cS_o14, cS_o15, cS_o16, cS_o0, cS_P, cS_Z, cS_L, cS_J, cS_N, cS_s8, cS_s9, cS_s10, cS_s11, cS_s12, cS_s13, cS_t12, cS_t13, cS_t14]
      rw [hxs, xsAt_n (by omega), xsPush_n (xs := Hd) (by rw [hb.1]; omega), xsPush_n (xs := Tl) (by rw [hb.2.1]; omega), List.length_append, hb.1, show nI (cl + 1 + [xs.getD j 0].length) - 1 = nI (cl + 1) from nI_pred _, show nI j + (-1) = nI j - 1 from (Int32.sub_eq_add_neg _ _).symm, i2, show cl + (j + 1) = cl + 1 + j by omega]
    · obtain ⟨g, rfl⟩ : ∃ G, g = G + 1 := ⟨g - 1, by omega⟩
      have i3' := i3 g (by omega) ha
      conv => lhs; unfold m211_41
      rw [nI_pred, if_neg (nI_pos (by omega)), if_neg (by decide), rS_o45, xsGet_d (by omega) (by have := ha.1; omega), bs, ha.2 j (by omega)]
      unfold m211_69
      rw [mr213 (by omega) hb.2.2.1 hb.2.2.2.1, bs, mr212 (by omega) hb.2.2.2.2.1, bs, show nI j + (-1) = nI j - 1 from (Int32.sub_eq_add_neg _ _).symm]
      rw [show cl + 1 + 1 = cl + 2 from rfl] at i3' ⊢
      rw [i3', show g + 1 - (j + 1) = g - j by omega, show cl + 1 + j + 1 = cl + (j + 1) + 1 by omega, show cl + 1 + j = cl + (j + 1) by omega]
end Lists
