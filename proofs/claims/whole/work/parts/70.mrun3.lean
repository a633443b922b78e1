/-! runs -/
section Runs2
variable {σ : xG} {s t : xSt}
theorem run78 (hP : SP σ) {z : Bool} (hC : SC σ s z) (hR : SR σ t) {xs : List Int32} (hxs : gR s 14 = xs) (hx : xs.length ≤ 64) (ha : ArrR (gR t 45) xs) (hl : RL t) : ∃ b S' T', m115_r78 z s = some (b, S') ∧ m211 (nI xs.length) false t = some (b, T') ∧ FIN (sZ s 6 z) t xs.length b S' T' := by
  obtain ⟨l1, l2, l3, l4, l5, l6, l7, l8⟩ := hl
  have hP' := hP
  obtain ⟨p1, p2, p3, p4, p5, p6, p7, p8⟩ := hP
  obtain ⟨b1, b2, b3, b4⟩ := p2 (yM σ - 1) (by omega)
  have hL0 : LRel 0 ((gR t 50).set 1 0) [0] [0] (gR t 48) (gR t 49) := ⟨⟨rfl, rfl, l1, l2, by rw [List.length_set]; exact l3, fun a h1 h2 => by omega⟩, by rw [getD_setn (by omega), if_pos rfl]; rfl⟩
  obtain ⟨hd, Hd, Tl, hds, tls, i1, i2, i3⟩ := list_c78 (s := sZ s 6 z) (t := t) (N := []) (P := []) (V := []) (Sl := []) (b := 0) (nx := gI (sZ s 6 z) 13) (st := 0) (vars := gR t 51) (wn := gR t 52) (wp := gR t 53) (wb := gR t 54) (ops := gR t 55) (rb := nI 0) (wt := nI 0) (om := nI 0) (ct := nI 0) (nw := gI t 18) (xs := xs) hxs hx xs.length 1000000 0 _ _ _ _ _ (Nat.le_refl _) (by omega) (by omega) hL0
  rw [Nat.zero_add] at i1 i2 i3
  obtain ⟨b, S', T', e1, e2, e3⟩ := run_go (s := sZ s 6 z) (t := t) (vars := gR t 51) (wn := gR t 52) (wp := gR t 53) (wb := gR t 54) (ops := gR t 55) hP' (show SC σ (sZ s 6 z) (gZ (sZ s 6 z) 6) from hC) hR hx (nx := gI s 13) (nw := gI t 18) i1 l4 l5 l6 l7 l8
  refine ⟨b, S', T', ?_, ?_, e3⟩
  · unfold m115_r78
    rw [m116_eq, bs]
    unfold m118_r78
    rw [cS_o14, show gR (sZ s 6 z) 14 = xs from hxs, ← nI_0]
    rw [← nI_0] at i2
    rw [i2, bs]
    have hb : xsAt (gP (sZ s 6 z) (gZ (sZ s 6 z) 6) 6) (nI (gP (sZ s 6 z) (gZ (sZ s 6 z) 6) 6).length - 1) + 1 = nI (yf σ (yb σ (yM σ - 1))) := by
      have h6 : gP (sZ s 6 z) (gZ (sZ s 6 z) 6) 6 = gP s z 6 := rfl
      rw [h6, hC.2.2, show yM σ = yM σ - 1 + 1 by omega, nI_pred, xsAt_n (by omega), (hC.2.1 (yM σ - 1) (by omega)).1, nI_1]
      unfold yf
      rw [show yM σ - 1 + 1 - 1 = yM σ - 1 by omega, b2]
    simp only [cS_g8, cS_g9, cS_g10, cS_g11, cS_g12, cS_g13, cS_i12, cS_i13, cS_i14, cS_o14, cS_o15, cS_o16, cS_o0, cS_P, cS_Z, cS_L, cS_J, cS_N, cS_s8, cS_s9, cS_s10, cS_s11, cS_s12, cS_s13, cS_t12, cS_t13, cS_t14]
    rw [hb, xsPush_n (by decide)]
    exact e1
  · have e0 : m212 0 (sI (sI (sI (sI (sI (sI t 12 0) 13 0) 15 0) 16 0) 17 0) 14 0) = some (nI 1, rS t (gR t 48) (gR t 49) ((gR t 50).set 1 0) (gR t 51) (gR t 52) (gR t 53) (gR t 54) (gR t 55) (nI 0) (nI 1) (nI 0) (nI 0) (nI 0) (nI 0) (gI t 18)) := by
      have e : sI (sI (sI (sI (sI (sI t 12 0) 13 0) 15 0) 16 0) 17 0) 14 0 = rS t (gR t 48) (gR t 49) (gR t 50) (gR t 51) (gR t 52) (gR t 53) (gR t 54) (gR t 55) (nI 0) (nI 0) (nI 0) (nI 0) (nI 0) (nI 0) (gI t 18) := by
        conv => lhs; rw [← rS_id t]
        simp only [rS_g48, rS_g49, rS_g50, rS_g51, rS_g52, rS_g53, rS_g54, rS_g55, rS_i12, rS_i13, rS_i14, rS_i15, rS_i16, rS_i17, rS_i18, rS_o31, rS_o32, rS_o33, rS_o34, rS_o35, rS_o36, rS_o37, rS_o45, rS_o46, rS_o47, rS_p5, rS_p7, rS_p8, rS_p10, rS_p11, rS_P, rS_Z, rS_L, rS_J, rS_N, rS_s48, rS_s49, rS_s50, rS_s51, rS_s52, rS_s53, rS_s54, rS_s55, rS_t12, rS_t13, rS_t14, rS_t15, rS_t16, rS_t17, rS_t18]
        rfl
      rw [e, mr212 (by omega) l3]
    unfold m211
    rw [e0, bs]
    have i3' := i3 1000000 (by omega) ha
    show m211_41 1000000 false (nI 1) (nI xs.length - 1) _ = _
    rw [i3', show 1000000 - xs.length = 1000000 - xs.length - 1 + 1 by omega]
    conv => lhs; unfold m211_41
    rw [if_pos (by decide), rS_g51, show (0 : Int32) = nI 0 from rfl, xsPut_n (by decide) (by omega), bs, rS_o37, rS_p5, hR.2.2.1, show yM σ = yM σ - 1 + 1 by omega, nI_pred, xsGet_d (by omega) (by rw [hR.2.2.2.2.2.2.2.2.2]; omega), bs, hR.2.1 _ (by omega), rS_s51, rS_t18]
    rw [Nat.zero_add]
    exact e2
theorem run81 (hP : SP σ) {z : Bool} (hC : SC σ s z) (hR : SR σ t) {xs : List Int32} (hxs : gR s 15 = xs) (hx : xs.length ≤ 64) (ha : ArrR (gR t 46) xs) (hl : RL t) : ∃ b S' T', m115_r81 z s = some (b, S') ∧ m211 (nI xs.length) true t = some (b, T') ∧ FIN (sZ s 6 z) t xs.length b S' T' := by
  obtain ⟨l1, l2, l3, l4, l5, l6, l7, l8⟩ := hl
  have hP' := hP
  obtain ⟨p1, p2, p3, p4, p5, p6, p7, p8⟩ := hP
  obtain ⟨b1, b2, b3, b4⟩ := p2 (yM σ - 1) (by omega)
  have hL0 : LRel 0 ((gR t 50).set 1 0) [0] [0] (gR t 48) (gR t 49) := ⟨⟨rfl, rfl, l1, l2, by rw [List.length_set]; exact l3, fun a h1 h2 => by omega⟩, by rw [getD_setn (by omega), if_pos rfl]; rfl⟩
  obtain ⟨hd, Hd, Tl, hds, tls, i1, i2, i3⟩ := list_c81 (s := sZ s 6 z) (t := t) (N := []) (P := []) (V := []) (Sl := []) (b := 0) (nx := gI (sZ s 6 z) 13) (st := 0) (vars := gR t 51) (wn := gR t 52) (wp := gR t 53) (wb := gR t 54) (ops := gR t 55) (rb := nI 0) (wt := nI 0) (om := nI 0) (ct := nI 0) (nw := gI t 18) (xs := xs) hxs hx xs.length 1000000 0 _ _ _ _ _ (Nat.le_refl _) (by omega) (by omega) hL0
  rw [Nat.zero_add] at i1 i2 i3
  obtain ⟨b, S', T', e1, e2, e3⟩ := run_go (s := sZ s 6 z) (t := t) (vars := gR t 51) (wn := gR t 52) (wp := gR t 53) (wb := gR t 54) (ops := gR t 55) hP' (show SC σ (sZ s 6 z) (gZ (sZ s 6 z) 6) from hC) hR hx (nx := gI s 13) (nw := gI t 18) i1 l4 l5 l6 l7 l8
  refine ⟨b, S', T', ?_, ?_, e3⟩
  · unfold m115_r81
    rw [m116_eq, bs]
    unfold m118_r81
    rw [cS_o15, show gR (sZ s 6 z) 15 = xs from hxs, ← nI_0]
    rw [← nI_0] at i2
    rw [i2, bs]
    have hb : xsAt (gP (sZ s 6 z) (gZ (sZ s 6 z) 6) 6) (nI (gP (sZ s 6 z) (gZ (sZ s 6 z) 6) 6).length - 1) + 1 = nI (yf σ (yb σ (yM σ - 1))) := by
      have h6 : gP (sZ s 6 z) (gZ (sZ s 6 z) 6) 6 = gP s z 6 := rfl
      rw [h6, hC.2.2, show yM σ = yM σ - 1 + 1 by omega, nI_pred, xsAt_n (by omega), (hC.2.1 (yM σ - 1) (by omega)).1, nI_1]
      unfold yf
      rw [show yM σ - 1 + 1 - 1 = yM σ - 1 by omega, b2]
    simp only [cS_g8, cS_g9, cS_g10, cS_g11, cS_g12, cS_g13, cS_i12, cS_i13, cS_i14, cS_o14, cS_o15, cS_o16, cS_o0, cS_P, cS_Z, cS_L, cS_J, cS_N, cS_s8, cS_s9, cS_s10, cS_s11, cS_s12, cS_s13, cS_t12, cS_t13, cS_t14]
    rw [lp81, hb, xsPush_n (by decide)]
    exact e1
  · have e0 : m212 0 (sI (sI (sI (sI (sI (sI t 12 0) 13 0) 15 0) 16 0) 17 0) 14 0) = some (nI 1, rS t (gR t 48) (gR t 49) ((gR t 50).set 1 0) (gR t 51) (gR t 52) (gR t 53) (gR t 54) (gR t 55) (nI 0) (nI 1) (nI 0) (nI 0) (nI 0) (nI 0) (gI t 18)) := by
      have e : sI (sI (sI (sI (sI (sI t 12 0) 13 0) 15 0) 16 0) 17 0) 14 0 = rS t (gR t 48) (gR t 49) (gR t 50) (gR t 51) (gR t 52) (gR t 53) (gR t 54) (gR t 55) (nI 0) (nI 0) (nI 0) (nI 0) (nI 0) (nI 0) (gI t 18) := by
        conv => lhs; rw [← rS_id t]
        simp only [rS_g48, rS_g49, rS_g50, rS_g51, rS_g52, rS_g53, rS_g54, rS_g55, rS_i12, rS_i13, rS_i14, rS_i15, rS_i16, rS_i17, rS_i18, rS_o31, rS_o32, rS_o33, rS_o34, rS_o35, rS_o36, rS_o37, rS_o45, rS_o46, rS_o47, rS_p5, rS_p7, rS_p8, rS_p10, rS_p11, rS_P, rS_Z, rS_L, rS_J, rS_N, rS_s48, rS_s49, rS_s50, rS_s51, rS_s52, rS_s53, rS_s54, rS_s55, rS_t12, rS_t13, rS_t14, rS_t15, rS_t16, rS_t17, rS_t18]
        rfl
      rw [e, mr212 (by omega) l3]
    unfold m211
    rw [e0, bs]
    have i3' := i3 1000000 (by omega) ha
    show m211_41 1000000 true (nI 1) (nI xs.length - 1) _ = _
    rw [i3', show 1000000 - xs.length = 1000000 - xs.length - 1 + 1 by omega]
    conv => lhs; unfold m211_41
    rw [if_pos (by decide), rS_g51, show (0 : Int32) = nI 0 from rfl, xsPut_n (by decide) (by omega), bs, rS_o37, rS_p5, hR.2.2.1, show yM σ = yM σ - 1 + 1 by omega, nI_pred, xsGet_d (by omega) (by rw [hR.2.2.2.2.2.2.2.2.2]; omega), bs, hR.2.1 _ (by omega), rS_s51, rS_t18]
    rw [Nat.zero_add]
    exact e2
end Runs2
