/-! runs over the input, and over the draft -/
section Lists2
variable {s t : xSt} {N P V Sl : List Int32} {b nx st : Int32} {vars wn wp wb ops : List Int32} {rb wt om ct nw : Int32}
theorem list_c81 {xs : List Int32} (hxs : gR s 15 = xs) (hx : xs.length ≤ 64) : ∀ (j f cl : Nat) (hd Hd Tl hds tls : List Int32), j ≤ xs.length → j < f → cl + j ≤ 64 → LRel cl hd Hd Tl hds tls → ∃ hd' Hd' Tl' hds' tls', LRel (cl + j) hd' Hd' Tl' hds' tls' ∧ m118_r81_9 f (nI cl) (nI j - 1) (cS s N P V Sl Hd Tl b nx st) = some (nI (cl + j), cS s N P V Sl Hd' Tl' b nx st) ∧
    ∀ g, j < g → ArrR (gR t 46) xs → m211_41 g true (nI (cl + 1)) (nI j - 1) (rS t hds tls hd vars wn wp wb ops (nI cl) (nI (cl + 1)) rb wt om ct nw) = m211_41 (g - j) true (nI (cl + j + 1)) (nI 0 - 1) (rS t hds' tls' hd' vars wn wp wb ops (nI (cl + j)) (nI (cl + j + 1)) rb wt om ct nw) := by
  intro j
  induction j with
  | zero =>
    intro f cl hd Hd Tl hds tls h1 h2 h3 h4
    refine ⟨hd, Hd, Tl, hds, tls, h4, ?_, fun g hg ha => by rw [Nat.sub_zero]; rfl⟩
    obtain ⟨f, rfl⟩ : ∃ G, f = G + 1 := ⟨f - 1, by omega⟩
    unfold m118_r81_9
    rw [if_pos (by decide)]
    rfl
  | succ j ih =>
    intro f cl hd Hd Tl hds tls h1 h2 h3 h4
    obtain ⟨f, rfl⟩ : ∃ G, f = G + 1 := ⟨f - 1, by omega⟩
    have hb := h4.1
    have hL := lrel_add (x := xs.getD j 0) h4 (by omega)
    obtain ⟨hd', Hd', Tl', hds', tls', i1, i2, i3⟩ := ih f (cl + 1) _ _ _ _ _ (by omega) (by omega) (by omega) hL
    refine ⟨hd', Hd', Tl', hds', tls', by rw [show cl + (j + 1) = cl + 1 + j by omega]; exact i1, ?_, fun g hg ha => ?_⟩
    · unfold m118_r81_9
      rw [nI_pred, if_neg (nI_pos (by omega))]
      simp only [cS_g8, cS_g9, cS_g10, cS_g11, cS_g12, cS_g13, cS_i12, cS_i13, cS_i14, cS_o14, cS_o15, cS_o16, cS_o0, cS_P, cS_Z, cS_L, cS_J, cS_N, cS_s8, cS_s9, cS_s10, cS_s11, cS_s12, cS_s13, cS_t12, cS_t13, cS_t14]
      rw [hxs, xsAt_n (by omega), xsPush_n (xs := Hd) (by rw [hb.1]; omega), xsPush_n (xs := Tl) (by rw [hb.2.1]; omega), List.length_append, hb.1, show nI (cl + 1 + [xs.getD j 0].length) - 1 = nI (cl + 1) from nI_pred _, show nI j + (-1) = nI j - 1 from (Int32.sub_eq_add_neg _ _).symm, i2, show cl + (j + 1) = cl + 1 + j by omega]
    · obtain ⟨g, rfl⟩ : ∃ G, g = G + 1 := ⟨g - 1, by omega⟩
      have i3' := i3 g (by omega) ha
      conv => lhs; unfold m211_41
      rw [nI_pred, if_neg (nI_pos (by omega)), if_pos rfl, rS_o46, xsGet_d (by omega) (by have := ha.1; omega), bs, ha.2 j (by omega)]
      unfold m211_69
      rw [mr213 (by omega) hb.2.2.1 hb.2.2.2.1, bs, mr212 (by omega) hb.2.2.2.2.1, bs, show nI j + (-1) = nI j - 1 from (Int32.sub_eq_add_neg _ _).symm]
      rw [show cl + 1 + 1 = cl + 2 from rfl] at i3' ⊢
      rw [i3', show g + 1 - (j + 1) = g - j by omega, show cl + 1 + j + 1 = cl + (j + 1) + 1 by omega, show cl + 1 + j = cl + (j + 1) by omega]
end Lists2
theorem lp81 : ∀ (n : Nat) (x : Int32) (s : xSt), m115_r81_43 n x s = m115_r78_43 n x s := by
  intro n
  induction n with
  | zero => intro x s; rfl
  | succ n ih =>
    intro x s
    unfold m115_r81_43 m115_r78_43
    simp only [ih]
    rfl
def RL (t : xSt) : Prop := (gR t 48).length = 12200 ∧ (gR t 49).length = 12200 ∧ (gR t 50).length = 12400 ∧ (gR t 51).length = 290000 ∧ (gR t 52).length = 12100 ∧ (gR t 53).length = 12100 ∧ (gR t 54).length = 12100 ∧ (gR t 55).length = 100000
section Runs
variable {σ : xG} {s t : xSt}
theorem m116_eq : m116 s = some (cS s [] [] [] [] [0] [0] 0 (gI s 13) 0) := by
  conv => lhs; rw [← cS_id s]
  unfold m116
  simp only [cS_g8, cS_g9, cS_g10, cS_g11, cS_g12, cS_g13, cS_i12, cS_i13, cS_i14, cS_o14, cS_o15, cS_o16, cS_o0, cS_P, cS_Z, cS_L, cS_J, cS_N, cS_s8, cS_s9, cS_s10, cS_s11, cS_s12, cS_s13, cS_t12, cS_t13, cS_t14, xsCut_0]
  rfl
/-- from the list on -/
theorem run_go (hP : SP σ) (hC : SC σ s (gZ s 6)) (hR : SR σ t) {n : Nat} (hn : n ≤ 64) {hd Hd Tl hds tls vars wn wp wb ops : List Int32} {nx nw : Int32} (hL : LRel n hd Hd Tl hds tls) (hv : vars.length = 290000) (h1 : wn.length = 12100) (h2 : wp.length = 12100) (h3 : wb.length = 12100) (h4 : ops.length = 100000) :
    GoalR s t n 1000000 1000000 0 (cS s [] [] [] [nI n] Hd Tl (nI 0) (nI (yf σ (yb σ (yM σ - 1)))) (nI 0)) (rS t hds tls hd (vars.set 0 (nI (n + 1))) wn wp wb ops (nI n) (nI (n + 1)) (nI 0) (nI 0) (nI 0) (nI 0) (nI (yb σ (yM σ - 1)))) := by
  obtain ⟨p1, p2, p3, p4, p5, p6, p7, p8⟩ := hP
  obtain ⟨b1, b2, b3, b4⟩ := p2 (yM σ - 1) (by omega)
  have hye : ye σ (yb σ (yM σ - 1)) = [3] := by rw [b3, p4]
  refine (sim ⟨p1, p2, p3, p4, p5, p6, p7, p8⟩ hC hR hn 1000000).1 (yb σ (yM σ - 1)) [] [] [] [] [] [nI n] Hd Tl hds tls hd (vars.set 0 (nI (n + 1))) wn wp wb ops 0 0 n (n + 1) 1 1 0 1000000 0 ⟨b1, Nat.zero_le _, ?_, by rw [hye]; rfl, by rw [hye]; rfl, rfl, rfl, rfl, rfl, rfl, p5⟩ hL.1 ⟨trivial, trivial, by rw [List.length_set]; exact hv, h1, h2, h3, h4⟩ ⟨Nat.le_refl _, ?_, ?_, ?_, ?_, ?_, ?_, rfl, rfl, ?_, ?_, ?_⟩ ?_ ?_ ?_
  · intro j hj
    rw [hye] at hj
    have hj0 : j = 0 := by
      have : j < 1 := hj
      omega
    subst hj0
    rw [hye, getD_setn (by omega), if_pos rfl]
    show vr n (n + 1) hd 3 (nI n) (nI (n + 1))
    unfold vr
    rw [if_neg (by decide), if_neg (by decide), if_neg (by decide)]
    exact ⟨n + 1, n, Nat.le_refl _, Nat.le_refl _, rfl, hL.2, rfl⟩
  · show 3 * n + 0 + 0 ≤ 0 + 3 * n
    omega
  · show 0 + 1 + 0 ≤ 0 + 1
    omega
  · show 1 ≤ 0 + 1
    omega
  · show 1 ≤ 1
    omega
  · show 0 ≤ 0
    omega
  · show 0 ≤ 0
    omega
  · show n + 1 + 0 ≤ n + 1 + 0
    omega
  · show 1 ≤ 24 * 0 + 24
    omega
  · omega
  · show 4 * (6001 - 0) + 2 * 0 < 1000000
    omega
  · show 2 * (4 * (6001 - 0) + 2 * 0) < 1000000
    omega
  · show 0 + 2 * (4 * (6001 - 0) + 2 * 0) < 1000000
    omega
end Runs
