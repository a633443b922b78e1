/-! the machine's methods over the states of a run -/
theorem bind_id {α : Type} (x : Option α) : (x.bind fun q => some q) = x := by cases x <;> rfl
theorem bs {α β : Type} (a : α) (f : α → Option β) : (some a).bind f = f a := by
  have h : ∀ o : Option α, o = some a → o.bind f = f a := fun o ho => by subst ho; rfl
  exact h _ rfl
section MC
variable {s : xSt} {N P V Sl Hd Tl : List Int32} {b nx : Int32}
theorem mc119 {st : Nat} (hs : st < 7000) (hN : N.length < 2 ^ 31) : m119 (cS s N P V Sl Hd Tl b nx (nI st)) = some (decide (st ≤ 6000 ∧ (nx ≠ -1 ∨ N ≠ [])), cS s N P V Sl Hd Tl b nx (nI st)) := by
  unfold m119
  simp (disch := omega) only [cS_g8, cS_g9, cS_g10, cS_g11, cS_g12, cS_g13, cS_i12, cS_i13, cS_i14, cS_o14, cS_o15, cS_o16, cS_o0, cS_P, cS_Z, cS_L, cS_J, cS_N, cS_s8, cS_s9, cS_s10, cS_s11, cS_s12, cS_s13, cS_t12, cS_t13, cS_t14, eqL_0, eqL_1, eqL_2, eqL_3, eqL_4, eqL_5, eqL_6, eqL_7, eqL_8, eqL_9, eqL_10, eqL_11, eqL_12, eqL_13, eqL_14, eqL_15, eqL_16, eqL_17, eqL_18, eqL_19, eqL_20, eqL_21, eqL_22, eqL_23, eqL_24, eqL_25, eqL_26, eqL_27, eqL_28, eqL_29, eqL_30, eqL_31, eqL_32, leL_0, geL_0, ltL_0, gtL_0, leL_1, geL_1, ltL_1, gtL_1, leL_2, geL_2, ltL_2, gtL_2, leL_3, geL_3, ltL_3, gtL_3, leL_8, geL_8, ltL_8, gtL_8, leL_9, geL_9, ltL_9, gtL_9, leL_10, geL_10, ltL_10, gtL_10, leL_11, geL_11, ltL_11, gtL_11, leL_12, geL_12, ltL_12, gtL_12, leL_17, geL_17, ltL_17, gtL_17, leL_18, geL_18, ltL_18, gtL_18, leL_23, geL_23, ltL_23, gtL_23, leL_24, geL_24, ltL_24, gtL_24, leL_26, geL_26, ltL_26, gtL_26, leL_31, geL_31, ltL_31, gtL_31, leL_32, geL_32, ltL_32, gtL_32, leL_48, geL_48, ltL_48, gtL_48, leL_57, geL_57, ltL_57, gtL_57, leL_63, geL_63, ltL_63, gtL_63, leL_64, geL_64, ltL_64, gtL_64, leL_97, geL_97, ltL_97, gtL_97, leL_122, geL_122, ltL_122, gtL_122, leL_4096, geL_4096, ltL_4096, gtL_4096, leL_6000, geL_6000, ltL_6000, gtL_6000, leL_8192, geL_8192, ltL_8192, gtL_8192, leL_1000000, geL_1000000, ltL_1000000, gtL_1000000, eqN, leN, ltN, nI_ne1, m1_ne]
  by_cases h1 : 6000 < st
  · rw [if_pos h1, show decide (st ≤ 6000 ∧ (nx ≠ -1 ∨ N ≠ [])) = false from decide_eq_false (by omega)]
  · rw [if_neg h1]
    by_cases h2 : nx = -1
    · rw [if_pos h2]
      cases N with
      | nil => rw [if_pos (by decide), show decide (st ≤ 6000 ∧ (nx ≠ -1 ∨ ([] : List Int32) ≠ [])) = false from decide_eq_false (fun h => by rcases h.2 with h | h; exact h h2; exact h rfl)]
      | cons a N => 
        rw [if_neg (by rw [List.length_cons]; omega), show decide (st ≤ 6000 ∧ (nx ≠ -1 ∨ (a :: N) ≠ [])) = true from decide_eq_true ⟨by omega, Or.inr (by simp)⟩]
    · rw [if_neg h2, show decide (st ≤ 6000 ∧ (nx ≠ -1 ∨ N ≠ [])) = true from decide_eq_true ⟨by omega, Or.inl h2⟩]
theorem mc120 {c κ st : Nat} (hc : c < 2 ^ 30) (hs : st < 7000) (hκ : κ < 100) (hk : xsAt (gP s (gZ s 6) 0) (nI c) = nI κ) : m120 (nI c) (cS s N P V Sl Hd Tl b nx (nI st)) = if st + 1 ≤ 6000 then (if κ = 19 then some (cS s N P (xsPush 6001 V 0) Sl Hd Tl b (-1) (nI (st + 1))) else if κ = 24 then some (cS s N P (xsPush 6001 V (xsAt (gP s (gZ s 6) 2) (nI c))) Sl Hd Tl b (-1) (nI (st + 1))) else if κ = 25 then some (cS s N P (xsPush 6001 V (xsAt Sl (b + xsAt (gP s (gZ s 6) 2) (nI c)))) Sl Hd Tl b (-1) (nI (st + 1))) else some (cS s (xsPush 6001 N (nI c)) (xsPush 6001 P (nI (c + 1))) V Sl Hd Tl b (-1) (nI (st + 1)))) else some (cS s N P V Sl Hd Tl b (-1) (nI (st + 1))) := by
  unfold m120
  simp (disch := omega) only [cS_g8, cS_g9, cS_g10, cS_g11, cS_g12, cS_g13, cS_i12, cS_i13, cS_i14, cS_o14, cS_o15, cS_o16, cS_o0, cS_P, cS_Z, cS_L, cS_J, cS_N, cS_s8, cS_s9, cS_s10, cS_s11, cS_s12, cS_s13, cS_t12, cS_t13, cS_t14, hk, nI_1, eqL_0, eqL_1, eqL_2, eqL_3, eqL_4, eqL_5, eqL_6, eqL_7, eqL_8, eqL_9, eqL_10, eqL_11, eqL_12, eqL_13, eqL_14, eqL_15, eqL_16, eqL_17, eqL_18, eqL_19, eqL_20, eqL_21, eqL_22, eqL_23, eqL_24, eqL_25, eqL_26, eqL_27, eqL_28, eqL_29, eqL_30, eqL_31, eqL_32, leL_0, geL_0, ltL_0, gtL_0, leL_1, geL_1, ltL_1, gtL_1, leL_2, geL_2, ltL_2, gtL_2, leL_3, geL_3, ltL_3, gtL_3, leL_8, geL_8, ltL_8, gtL_8, leL_9, geL_9, ltL_9, gtL_9, leL_10, geL_10, ltL_10, gtL_10, leL_11, geL_11, ltL_11, gtL_11, leL_12, geL_12, ltL_12, gtL_12, leL_17, geL_17, ltL_17, gtL_17, leL_18, geL_18, ltL_18, gtL_18, leL_23, geL_23, ltL_23, gtL_23, leL_24, geL_24, ltL_24, gtL_24, leL_26, geL_26, ltL_26, gtL_26, leL_31, geL_31, ltL_31, gtL_31, leL_32, geL_32, ltL_32, gtL_32, leL_48, geL_48, ltL_48, gtL_48, leL_57, geL_57, ltL_57, gtL_57, leL_63, geL_63, ltL_63, gtL_63, leL_64, geL_64, ltL_64, gtL_64, leL_97, geL_97, ltL_97, gtL_97, leL_122, geL_122, ltL_122, gtL_122, leL_4096, geL_4096, ltL_4096, gtL_4096, leL_6000, geL_6000, ltL_6000, gtL_6000, leL_8192, geL_8192, ltL_8192, gtL_8192, leL_1000000, geL_1000000, ltL_1000000, gtL_1000000, eqN, leN, ltN, nI_ne1, m1_ne]
theorem mc121 {c κ : Nat} {pt st : Int32} {ns ps : List Int32} (hn : ns.length < 2 ^ 30) (hp : ps.length < 2 ^ 30) (hc : c < 2 ^ 30) (hκ : κ < 100) (hk : xsAt (gP s (gZ s 6) 0) (nI c) = nI κ) : m121 (cS s (nI c :: ns).reverse (pt :: ps).reverse V Sl Hd Tl b nx st) = if κ = 8 ∨ κ = 9 ∨ κ = 10 ∨ κ = 16 then (if pt = nI (c + 1) then some (cS s (nI c :: ns).reverse (xsAt (gP s (gZ s 6) 4) pt :: ps).reverse V Sl Hd Tl b pt st) else m123 (nI c) pt (cS s (nI c :: ns).reverse (pt :: ps).reverse V Sl Hd Tl b nx st)) else if κ = 14 ∨ κ = 15 ∨ κ = 17 then some (cS s ns.reverse ps.reverse V Sl Hd Tl b pt st) else if pt = -1 then some (cS s ns.reverse ps.reverse V Sl Hd Tl (b - xsAt (gP s (gZ s 6) 3) (nI c)) nx st) else if xsAt (gP s (gZ s 6) 4) (nI c) ≤ pt then m127 (nI c) (cS s (nI c :: ns).reverse (pt :: ps).reverse V Sl Hd Tl b nx st) else some (cS s (nI c :: ns).reverse (xsAt (gP s (gZ s 6) 4) pt :: ps).reverse V Sl Hd Tl b pt st) := by
  unfold m121
  simp (disch := omega) only [cS_g8, cS_g9, cS_g10, cS_g11, cS_g12, cS_g13, cS_i12, cS_i13, cS_i14, cS_o14, cS_o15, cS_o16, cS_o0, cS_P, cS_Z, cS_L, cS_J, cS_N, cS_s8, cS_s9, cS_s10, cS_s11, cS_s12, cS_s13, cS_t12, cS_t13, cS_t14, xsTop_r, xsPop_r, xsSetTop_r, hk, nI_1, eqL_0, eqL_1, eqL_2, eqL_3, eqL_4, eqL_5, eqL_6, eqL_7, eqL_8, eqL_9, eqL_10, eqL_11, eqL_12, eqL_13, eqL_14, eqL_15, eqL_16, eqL_17, eqL_18, eqL_19, eqL_20, eqL_21, eqL_22, eqL_23, eqL_24, eqL_25, eqL_26, eqL_27, eqL_28, eqL_29, eqL_30, eqL_31, eqL_32, leL_0, geL_0, ltL_0, gtL_0, leL_1, geL_1, ltL_1, gtL_1, leL_2, geL_2, ltL_2, gtL_2, leL_3, geL_3, ltL_3, gtL_3, leL_8, geL_8, ltL_8, gtL_8, leL_9, geL_9, ltL_9, gtL_9, leL_10, geL_10, ltL_10, gtL_10, leL_11, geL_11, ltL_11, gtL_11, leL_12, geL_12, ltL_12, gtL_12, leL_17, geL_17, ltL_17, gtL_17, leL_18, geL_18, ltL_18, gtL_18, leL_23, geL_23, ltL_23, gtL_23, leL_24, geL_24, ltL_24, gtL_24, leL_26, geL_26, ltL_26, gtL_26, leL_31, geL_31, ltL_31, gtL_31, leL_32, geL_32, ltL_32, gtL_32, leL_48, geL_48, ltL_48, gtL_48, leL_57, geL_57, ltL_57, gtL_57, leL_63, geL_63, ltL_63, gtL_63, leL_64, geL_64, ltL_64, gtL_64, leL_97, geL_97, ltL_97, gtL_97, leL_122, geL_122, ltL_122, gtL_122, leL_4096, geL_4096, ltL_4096, gtL_4096, leL_6000, geL_6000, ltL_6000, gtL_6000, leL_8192, geL_8192, ltL_8192, gtL_8192, leL_1000000, geL_1000000, ltL_1000000, gtL_1000000, eqN, leN, ltN, nI_ne1, m1_ne, bind_id]
theorem mc123 {c κ : Nat} {pt st v : Int32} {ns ps vs : List Int32} (hn : ns.length < 2 ^ 30) (hp : ps.length < 2 ^ 30) (hv : vs.length < 2 ^ 30) (hκ : κ < 100) (hk : xsAt (gP s (gZ s 6) 0) (nI c) = nI κ) {qt : Int32} : m123 (nI c) pt (cS s (nI c :: ns).reverse (qt :: ps).reverse (v :: vs).reverse Sl Hd Tl b nx st) = if κ = 8 then (if v = 0 then some (cS s ns.reverse ps.reverse vs.reverse Sl Hd Tl b (xsAt (gP s (gZ s 6) 4) pt) st) else some (cS s ns.reverse ps.reverse vs.reverse Sl Hd Tl b pt st)) else if κ = 10 then (if v = 0 then some (cS s ns.reverse ps.reverse vs.reverse Sl Hd Tl b pt st) else some (cS s ns.reverse ps.reverse vs.reverse (xsPush 6001 (xsPush 6001 (xsCut Sl (b + xsAt (gP s (gZ s 6) 3) (nI c))) (xsAt Hd v)) (xsAt Tl v)) Hd Tl b (xsAt (gP s (gZ s 6) 4) pt) st)) else some (cS s ns.reverse ps.reverse vs.reverse (xsPush 6001 (xsCut Sl (b + xsAt (gP s (gZ s 6) 3) (nI c))) v) Hd Tl b pt st) := by
  unfold m123 m123_44 m123_154
  simp (disch := omega) only [cS_g8, cS_g9, cS_g10, cS_g11, cS_g12, cS_g13, cS_i12, cS_i13, cS_i14, cS_o14, cS_o15, cS_o16, cS_o0, cS_P, cS_Z, cS_L, cS_J, cS_N, cS_s8, cS_s9, cS_s10, cS_s11, cS_s12, cS_s13, cS_t12, cS_t13, cS_t14, xsTop_r, xsPop_r, hk, eqL_0, eqL_1, eqL_2, eqL_3, eqL_4, eqL_5, eqL_6, eqL_7, eqL_8, eqL_9, eqL_10, eqL_11, eqL_12, eqL_13, eqL_14, eqL_15, eqL_16, eqL_17, eqL_18, eqL_19, eqL_20, eqL_21, eqL_22, eqL_23, eqL_24, eqL_25, eqL_26, eqL_27, eqL_28, eqL_29, eqL_30, eqL_31, eqL_32, leL_0, geL_0, ltL_0, gtL_0, leL_1, geL_1, ltL_1, gtL_1, leL_2, geL_2, ltL_2, gtL_2, leL_3, geL_3, ltL_3, gtL_3, leL_8, geL_8, ltL_8, gtL_8, leL_9, geL_9, ltL_9, gtL_9, leL_10, geL_10, ltL_10, gtL_10, leL_11, geL_11, ltL_11, gtL_11, leL_12, geL_12, ltL_12, gtL_12, leL_17, geL_17, ltL_17, gtL_17, leL_18, geL_18, ltL_18, gtL_18, leL_23, geL_23, ltL_23, gtL_23, leL_24, geL_24, ltL_24, gtL_24, leL_26, geL_26, ltL_26, gtL_26, leL_31, geL_31, ltL_31, gtL_31, leL_32, geL_32, ltL_32, gtL_32, leL_48, geL_48, ltL_48, gtL_48, leL_57, geL_57, ltL_57, gtL_57, leL_63, geL_63, ltL_63, gtL_63, leL_64, geL_64, ltL_64, gtL_64, leL_97, geL_97, ltL_97, gtL_97, leL_122, geL_122, ltL_122, gtL_122, leL_4096, geL_4096, ltL_4096, gtL_4096, leL_6000, geL_6000, ltL_6000, gtL_6000, leL_8192, geL_8192, ltL_8192, gtL_8192, leL_1000000, geL_1000000, ltL_1000000, gtL_1000000, eqN, leN, ltN, nI_ne1, m1_ne]
end MC
section MR
variable {t : xSt} {hds tls hd vars wn wp wb ops : List Int32} {cl md rb wt om ct nw : Int32}
theorem mr217 {W : Nat} {a1 a2 : Int32} (hW : W < 12100) (h1 : wn.length = 12100) (h2 : wp.length = 12100) (h3 : wb.length = 12100) : m217 a1 a2 (rS t hds tls hd vars wn wp wb ops cl md rb (nI W) om ct nw) = some (rS t hds tls hd vars (wn.set W a1) (wp.set W a2) (wb.set W rb) ops cl md rb (nI (W + 1)) om ct nw) := by
  unfold m217
  simp only [rS_g48, rS_g49, rS_g50, rS_g51, rS_g52, rS_g53, rS_g54, rS_g55, rS_i12, rS_i13, rS_i14, rS_i15, rS_i16, rS_i17, rS_i18, rS_o31, rS_o32, rS_o33, rS_o34, rS_o35, rS_o36, rS_o37, rS_o45, rS_o46, rS_o47, rS_p5, rS_p7, rS_p8, rS_p10, rS_p11, rS_P, rS_Z, rS_L, rS_J, rS_N, rS_s48, rS_s49, rS_s50, rS_s51, rS_s52, rS_s53, rS_s54, rS_s55, rS_t12, rS_t13, rS_t14, rS_t15, rS_t16, rS_t17, rS_t18]
  rw [xsPut_n (by omega) (by omega)]
  simp only [Option.bind_some]
  rw [xsPut_n (by omega) (by omega)]
  simp only [Option.bind_some]
  rw [xsPut_n (by omega) (by omega)]
  simp only [Option.bind_some, rS_g48, rS_g49, rS_g50, rS_g51, rS_g52, rS_g53, rS_g54, rS_g55, rS_i12, rS_i13, rS_i14, rS_i15, rS_i16, rS_i17, rS_i18, rS_o31, rS_o32, rS_o33, rS_o34, rS_o35, rS_o36, rS_o37, rS_o45, rS_o46, rS_o47, rS_p5, rS_p7, rS_p8, rS_p10, rS_p11, rS_P, rS_Z, rS_L, rS_J, rS_N, rS_s48, rS_s49, rS_s50, rS_s51, rS_s52, rS_s53, rS_s54, rS_s55, rS_t12, rS_t13, rS_t14, rS_t15, rS_t16, rS_t17, rS_t18, nI_1]
theorem mr218 {O : Nat} (hO : O < 100000) (h1 : ops.length = 100000) : m218 (rS t hds tls hd vars wn wp wb ops cl md rb wt (nI (O + 1)) ct nw) = some (ops.getD O 0, rS t hds tls hd vars wn wp wb ops cl md rb wt (nI O) ct nw) := by
  unfold m218
  simp only [rS_g48, rS_g49, rS_g50, rS_g51, rS_g52, rS_g53, rS_g54, rS_g55, rS_i12, rS_i13, rS_i14, rS_i15, rS_i16, rS_i17, rS_i18, rS_o31, rS_o32, rS_o33, rS_o34, rS_o35, rS_o36, rS_o37, rS_o45, rS_o46, rS_o47, rS_p5, rS_p7, rS_p8, rS_p10, rS_p11, rS_P, rS_Z, rS_L, rS_J, rS_N, rS_s48, rS_s49, rS_s50, rS_s51, rS_s52, rS_s53, rS_s54, rS_s55, rS_t12, rS_t13, rS_t14, rS_t15, rS_t16, rS_t17, rS_t18, nI_pred]
  rw [xsGet_d (by omega) (by omega)]
  rfl
theorem mr215 {O : Nat} {v : Int32} (hO : O < 100000) (h1 : ops.length = 100000) : m215 v (rS t hds tls hd vars wn wp wb ops cl md rb wt (nI O) ct nw) = some (rS t hds tls hd vars wn wp wb (ops.set O v) cl md rb wt (nI (O + 1)) ct nw) := by
  unfold m215
  simp only [rS_g48, rS_g49, rS_g50, rS_g51, rS_g52, rS_g53, rS_g54, rS_g55, rS_i12, rS_i13, rS_i14, rS_i15, rS_i16, rS_i17, rS_i18, rS_o31, rS_o32, rS_o33, rS_o34, rS_o35, rS_o36, rS_o37, rS_o45, rS_o46, rS_o47, rS_p5, rS_p7, rS_p8, rS_p10, rS_p11, rS_P, rS_Z, rS_L, rS_J, rS_N, rS_s48, rS_s49, rS_s50, rS_s51, rS_s52, rS_s53, rS_s54, rS_s55, rS_t12, rS_t13, rS_t14, rS_t15, rS_t16, rS_t17, rS_t18]
  rw [xsPut_n (by omega) (by omega)]
  simp only [Option.bind_some, rS_g48, rS_g49, rS_g50, rS_g51, rS_g52, rS_g53, rS_g54, rS_g55, rS_i12, rS_i13, rS_i14, rS_i15, rS_i16, rS_i17, rS_i18, rS_o31, rS_o32, rS_o33, rS_o34, rS_o35, rS_o36, rS_o37, rS_o45, rS_o46, rS_o47, rS_p5, rS_p7, rS_p8, rS_p10, rS_p11, rS_P, rS_Z, rS_L, rS_J, rS_N, rS_s48, rS_s49, rS_s50, rS_s51, rS_s52, rS_s53, rS_s54, rS_s55, rS_t12, rS_t13, rS_t14, rS_t15, rS_t16, rS_t17, rS_t18, nI_1]
theorem mr212 {m : Nat} {v : Int32} (hO : m + 1 < 12400) (h1 : hd.length = 12400) : m212 v (rS t hds tls hd vars wn wp wb ops cl (nI m) rb wt om ct nw) = some (nI (m + 1), rS t hds tls (hd.set (m + 1) v) vars wn wp wb ops cl (nI (m + 1)) rb wt om ct nw) := by
  unfold m212
  simp only [rS_g48, rS_g49, rS_g50, rS_g51, rS_g52, rS_g53, rS_g54, rS_g55, rS_i12, rS_i13, rS_i14, rS_i15, rS_i16, rS_i17, rS_i18, rS_o31, rS_o32, rS_o33, rS_o34, rS_o35, rS_o36, rS_o37, rS_o45, rS_o46, rS_o47, rS_p5, rS_p7, rS_p8, rS_p10, rS_p11, rS_P, rS_Z, rS_L, rS_J, rS_N, rS_s48, rS_s49, rS_s50, rS_s51, rS_s52, rS_s53, rS_s54, rS_s55, rS_t12, rS_t13, rS_t14, rS_t15, rS_t16, rS_t17, rS_t18, nI_1]
  rw [xsPut_n (by omega) (by omega)]
  simp only [Option.bind_some, rS_g48, rS_g49, rS_g50, rS_g51, rS_g52, rS_g53, rS_g54, rS_g55, rS_i12, rS_i13, rS_i14, rS_i15, rS_i16, rS_i17, rS_i18, rS_o31, rS_o32, rS_o33, rS_o34, rS_o35, rS_o36, rS_o37, rS_o45, rS_o46, rS_o47, rS_p5, rS_p7, rS_p8, rS_p10, rS_p11, rS_P, rS_Z, rS_L, rS_J, rS_N, rS_s48, rS_s49, rS_s50, rS_s51, rS_s52, rS_s53, rS_s54, rS_s55, rS_t12, rS_t13, rS_t14, rS_t15, rS_t16, rS_t17, rS_t18]
theorem mr213 {c : Nat} {v v2 : Int32} (hO : c + 1 < 12200) (h1 : hds.length = 12200) (h2 : tls.length = 12200) : m213 v v2 (rS t hds tls hd vars wn wp wb ops (nI c) md rb wt om ct nw) = some (nI (c + 1), rS t (hds.set (c + 1) v) (tls.set (c + 1) v2) hd vars wn wp wb ops (nI (c + 1)) md rb wt om ct nw) := by
  unfold m213
  simp only [rS_g48, rS_g49, rS_g50, rS_g51, rS_g52, rS_g53, rS_g54, rS_g55, rS_i12, rS_i13, rS_i14, rS_i15, rS_i16, rS_i17, rS_i18, rS_o31, rS_o32, rS_o33, rS_o34, rS_o35, rS_o36, rS_o37, rS_o45, rS_o46, rS_o47, rS_p5, rS_p7, rS_p8, rS_p10, rS_p11, rS_P, rS_Z, rS_L, rS_J, rS_N, rS_s48, rS_s49, rS_s50, rS_s51, rS_s52, rS_s53, rS_s54, rS_s55, rS_t12, rS_t13, rS_t14, rS_t15, rS_t16, rS_t17, rS_t18, nI_1]
  rw [xsPut_n (by omega) (by omega)]
  simp only [Option.bind_some]
  rw [xsPut_n (by omega) (by omega)]
  simp only [Option.bind_some, rS_g48, rS_g49, rS_g50, rS_g51, rS_g52, rS_g53, rS_g54, rS_g55, rS_i12, rS_i13, rS_i14, rS_i15, rS_i16, rS_i17, rS_i18, rS_o31, rS_o32, rS_o33, rS_o34, rS_o35, rS_o36, rS_o37, rS_o45, rS_o46, rS_o47, rS_p5, rS_p7, rS_p8, rS_p10, rS_p11, rS_P, rS_Z, rS_L, rS_J, rS_N, rS_s48, rS_s49, rS_s50, rS_s51, rS_s52, rS_s53, rS_s54, rS_s55, rS_t12, rS_t13, rS_t14, rS_t15, rS_t16, rS_t17, rS_t18]
end MR
section MC2
variable {s : xSt} {N P V Sl Hd Tl : List Int32} {b nx st : Int32}
theorem mc23y {κ : Nat} (h : κ = 12 ∨ κ = 13 ∨ κ = 18) (S : xSt) : m23 (nI κ) S = some (true, S) := by
  unfold m23
  simp (disch := omega) only [eqL_0, eqL_1, eqL_2, eqL_3, eqL_4, eqL_5, eqL_6, eqL_7, eqL_8, eqL_9, eqL_10, eqL_11, eqL_12, eqL_13, eqL_14, eqL_15, eqL_16, eqL_17, eqL_18, eqL_19, eqL_20, eqL_21, eqL_22, eqL_23, eqL_24, eqL_25, eqL_26, eqL_27, eqL_28, eqL_29, eqL_30, eqL_31, eqL_32, leL_0, geL_0, ltL_0, gtL_0, leL_1, geL_1, ltL_1, gtL_1, leL_2, geL_2, ltL_2, gtL_2, leL_3, geL_3, ltL_3, gtL_3, leL_8, geL_8, ltL_8, gtL_8, leL_9, geL_9, ltL_9, gtL_9, leL_10, geL_10, ltL_10, gtL_10, leL_11, geL_11, ltL_11, gtL_11, leL_12, geL_12, ltL_12, gtL_12, leL_17, geL_17, ltL_17, gtL_17, leL_18, geL_18, ltL_18, gtL_18, leL_23, geL_23, ltL_23, gtL_23, leL_24, geL_24, ltL_24, gtL_24, leL_26, geL_26, ltL_26, gtL_26, leL_31, geL_31, ltL_31, gtL_31, leL_32, geL_32, ltL_32, gtL_32, leL_48, geL_48, ltL_48, gtL_48, leL_57, geL_57, ltL_57, gtL_57, leL_63, geL_63, ltL_63, gtL_63, leL_64, geL_64, ltL_64, gtL_64, leL_97, geL_97, ltL_97, gtL_97, leL_122, geL_122, ltL_122, gtL_122, leL_4096, geL_4096, ltL_4096, gtL_4096, leL_6000, geL_6000, ltL_6000, gtL_6000, leL_8192, geL_8192, ltL_8192, gtL_8192, leL_1000000, geL_1000000, ltL_1000000, gtL_1000000, eqN, leN, ltN, nI_ne1, m1_ne]
  rcases h with rfl | rfl | rfl <;> rfl
theorem mc23n {κ : Nat} (hκ : κ < 100) (h : ¬ (κ = 12 ∨ κ = 13 ∨ κ = 18)) (S : xSt) : m23 (nI κ) S = some (false, S) := by
  unfold m23
  simp (disch := omega) only [eqL_0, eqL_1, eqL_2, eqL_3, eqL_4, eqL_5, eqL_6, eqL_7, eqL_8, eqL_9, eqL_10, eqL_11, eqL_12, eqL_13, eqL_14, eqL_15, eqL_16, eqL_17, eqL_18, eqL_19, eqL_20, eqL_21, eqL_22, eqL_23, eqL_24, eqL_25, eqL_26, eqL_27, eqL_28, eqL_29, eqL_30, eqL_31, eqL_32, leL_0, geL_0, ltL_0, gtL_0, leL_1, geL_1, ltL_1, gtL_1, leL_2, geL_2, ltL_2, gtL_2, leL_3, geL_3, ltL_3, gtL_3, leL_8, geL_8, ltL_8, gtL_8, leL_9, geL_9, ltL_9, gtL_9, leL_10, geL_10, ltL_10, gtL_10, leL_11, geL_11, ltL_11, gtL_11, leL_12, geL_12, ltL_12, gtL_12, leL_17, geL_17, ltL_17, gtL_17, leL_18, geL_18, ltL_18, gtL_18, leL_23, geL_23, ltL_23, gtL_23, leL_24, geL_24, ltL_24, gtL_24, leL_26, geL_26, ltL_26, gtL_26, leL_31, geL_31, ltL_31, gtL_31, leL_32, geL_32, ltL_32, gtL_32, leL_48, geL_48, ltL_48, gtL_48, leL_57, geL_57, ltL_57, gtL_57, leL_63, geL_63, ltL_63, gtL_63, leL_64, geL_64, ltL_64, gtL_64, leL_97, geL_97, ltL_97, gtL_97, leL_122, geL_122, ltL_122, gtL_122, leL_4096, geL_4096, ltL_4096, gtL_4096, leL_6000, geL_6000, ltL_6000, gtL_6000, leL_8192, geL_8192, ltL_8192, gtL_8192, leL_1000000, geL_1000000, ltL_1000000, gtL_1000000, eqN, leN, ltN, nI_ne1, m1_ne]
  rw [if_neg (by omega), if_neg (by omega), if_neg (by omega)]
theorem mc128_go {x2 : Int32} {fr : Nat} : ∀ (f k : Nat) (Sl : List Int32), k ≤ V.length → V.length < k + f → V.length < 2 ^ 30 → fr < 2 ^ 30 → Sl.length + (V.length - k) ≤ 6001 → m128_57 f x2 (nI fr) (nI k) (cS s N P V Sl Hd Tl b nx st) = some (cS s N (xsSetTop P (-1)) (V.take fr) (Sl ++ V.drop k) Hd Tl b (xsAt (gP s (gZ s 6) 6) x2 + 1) st) := by
  intro f
  induction f with
  | zero => intro k Sl h1 h2; omega
  | succ f ih =>
    intro k Sl h1 h2 h3 h4 h5
    unfold m128_57
    simp (disch := omega) only [cS_g8, cS_g9, cS_g10, cS_g11, cS_g12, cS_g13, cS_i12, cS_i13, cS_i14, cS_o14, cS_o15, cS_o16, cS_o0, cS_P, cS_Z, cS_L, cS_J, cS_N, cS_s8, cS_s9, cS_s10, cS_s11, cS_s12, cS_s13, cS_t12, cS_t13, cS_t14, eqL_0, eqL_1, eqL_2, eqL_3, eqL_4, eqL_5, eqL_6, eqL_7, eqL_8, eqL_9, eqL_10, eqL_11, eqL_12, eqL_13, eqL_14, eqL_15, eqL_16, eqL_17, eqL_18, eqL_19, eqL_20, eqL_21, eqL_22, eqL_23, eqL_24, eqL_25, eqL_26, eqL_27, eqL_28, eqL_29, eqL_30, eqL_31, eqL_32, leL_0, geL_0, ltL_0, gtL_0, leL_1, geL_1, ltL_1, gtL_1, leL_2, geL_2, ltL_2, gtL_2, leL_3, geL_3, ltL_3, gtL_3, leL_8, geL_8, ltL_8, gtL_8, leL_9, geL_9, ltL_9, gtL_9, leL_10, geL_10, ltL_10, gtL_10, leL_11, geL_11, ltL_11, gtL_11, leL_12, geL_12, ltL_12, gtL_12, leL_17, geL_17, ltL_17, gtL_17, leL_18, geL_18, ltL_18, gtL_18, leL_23, geL_23, ltL_23, gtL_23, leL_24, geL_24, ltL_24, gtL_24, leL_26, geL_26, ltL_26, gtL_26, leL_31, geL_31, ltL_31, gtL_31, leL_32, geL_32, ltL_32, gtL_32, leL_48, geL_48, ltL_48, gtL_48, leL_57, geL_57, ltL_57, gtL_57, leL_63, geL_63, ltL_63, gtL_63, leL_64, geL_64, ltL_64, gtL_64, leL_97, geL_97, ltL_97, gtL_97, leL_122, geL_122, ltL_122, gtL_122, leL_4096, geL_4096, ltL_4096, gtL_4096, leL_6000, geL_6000, ltL_6000, gtL_6000, leL_8192, geL_8192, ltL_8192, gtL_8192, leL_1000000, geL_1000000, ltL_1000000, gtL_1000000, eqN, leN, ltN, nI_ne1, m1_ne]
    by_cases z : V.length ≤ k
    · rw [if_pos z, xsCut_n (by omega), List.drop_eq_nil_of_le z, List.append_nil]
    · rw [if_neg z, nI_1, xsAt_n (by omega), xsPush_n (by omega), ih (k + 1) (Sl ++ [V.getD k 0]) (by omega) (by omega) h3 h4 (by rw [List.length_append]; show Sl.length + 1 + _ ≤ _; omega)]
      rw [List.append_assoc, show V.drop k = V.getD k 0 :: V.drop (k + 1) from by rw [List.drop_eq_getElem_cons (by omega), List.getD_eq_getElem?_getD, List.getElem?_eq_getElem (by omega)]; rfl]
      rfl
theorem mc128 {c d n dp nd bb : Nat} {pt : Int32} {ps vs as : List Int32} (hc : c < 2 ^ 30) (hd : d < 2 ^ 30) (hp : ps.length < 2 ^ 30) (hV : xsAt (gP s (gZ s 6) 2) (nI c) = nI d) (hD : xsAt (gP s (gZ s 6) 3) (nI c) = nI dp) (hC : xsAt (gP s (gZ s 6) 8) (nI d) = nI n) (hN : xsAt (gP s (gZ s 6) 6) (nI d) = nI nd) (has : as.length = n) (hvs : vs.length + n < 10000) (hb : bb + dp + n ≤ 6001) : m128 (nI c) (cS s N (pt :: ps).reverse (as ++ vs).reverse Sl Hd Tl (nI bb) nx st) = some (cS s N ((-1) :: ps).reverse vs.reverse (Sl.take (bb + dp) ++ as.reverse) Hd Tl (nI (bb + dp)) (nI (nd + 1)) st) := by
  unfold m128
  simp only [cS_g8, cS_g9, cS_g10, cS_g11, cS_g12, cS_g13, cS_i12, cS_i13, cS_i14, cS_o14, cS_o15, cS_o16, cS_o0, cS_P, cS_Z, cS_L, cS_J, cS_N, cS_s8, cS_s9, cS_s10, cS_s11, cS_s12, cS_s13, cS_t12, cS_t13, cS_t14]
  rw [hV, hC, hD, nI_add, xsCut_n (by omega), List.length_reverse, List.length_append, has, nI_subI (by omega), Nat.add_sub_cancel_left]
  rw [mc128_go 1000000 vs.length (Sl.take (bb + dp)) (by rw [List.length_reverse, List.length_append]; omega) (by rw [List.length_reverse, List.length_append]; omega) (by rw [List.length_reverse, List.length_append]; omega) (by omega) (by rw [List.length_reverse, List.length_append, List.length_take]; omega)]
  rw [hN, nI_1, xsSetTop_r (by omega), List.reverse_append, List.take_left' (by rw [List.length_reverse]), List.drop_left' (by rw [List.length_reverse])]
theorem mc127a {c κ : Nat} {S : xSt} (hκ : κ = 12 ∨ κ = 13 ∨ κ = 18) (hk : xsAt (gP S (gZ S 6) 0) (nI c) = nI κ) : m127 (nI c) S = m128 (nI c) S := by
  unfold m127
  rw [hk, mc23y hκ]
  simp only [Option.bind_some, reduceIte]
  exact bind_id _
theorem mc127c {c : Nat} {v1 v2 : Int32} {vs ns ps : List Int32} {cl : Nat} {x y : Int32} (hk : xsAt (gP s (gZ s 6) 0) (nI c) = nI 11) (hvs : vs.length < 6001) (hcl : cl + 1 < 2065) (h1 : Hd.length = cl + 1) (h2 : Tl.length = cl + 1) : m127 (nI c) (cS s (x :: ns).reverse (y :: ps).reverse (v2 :: v1 :: vs).reverse Sl Hd Tl b nx st) = some (cS s ns.reverse ps.reverse (nI (cl + 1) :: vs).reverse Sl (Hd ++ [v1]) (Tl ++ [v2]) b nx st) := by
  unfold m127
  simp only [cS_g8, cS_g9, cS_g10, cS_g11, cS_g12, cS_g13, cS_i12, cS_i13, cS_i14, cS_o14, cS_o15, cS_o16, cS_o0, cS_P, cS_Z, cS_L, cS_J, cS_N, cS_s8, cS_s9, cS_s10, cS_s11, cS_s12, cS_s13, cS_t12, cS_t13, cS_t14, hk]
  rw [mc23n (by omega) (by omega)]
  simp only [Option.bind_some, cS_g8, cS_g9, cS_g10, cS_g11, cS_g12, cS_g13, cS_i12, cS_i13, cS_i14, cS_o14, cS_o15, cS_o16, cS_o0, cS_P, cS_Z, cS_L, cS_J, cS_N, cS_s8, cS_s9, cS_s10, cS_s11, cS_s12, cS_s13, cS_t12, cS_t13, cS_t14, Bool.false_eq_true, reduceIte]
  have t1 : xsTop (v2 :: v1 :: vs).reverse = v2 := xsTop_r (by rw [List.length_cons]; omega)
  have t2 : xsTop (v1 :: vs).reverse = v1 := xsTop_r (by omega)
  rw [if_pos (by decide)]
  simp only [xsPop_r, t1, t2]
  rw [xsPush_r (by omega), xsPush_n (xs := Hd) (by omega), xsPush_n (xs := Tl) (by omega), List.length_append, h1]
  rw [show nI (cl + 1 + [v1].length) - 1 = nI (cl + 1) from nI_pred _]
theorem mc127o {c κ : Nat} {v1 v2 : Int32} {vs ns ps : List Int32} {x y : Int32} (hκ : 1 ≤ κ ∧ κ ≤ 7) (hk : xsAt (gP s (gZ s 6) 0) (nI c) = nI κ) (hvs : vs.length < 6001) {r : Int32} (hr : ∀ S, m129 (nI κ) v1 v2 S = some (r, S)) : m127 (nI c) (cS s (x :: ns).reverse (y :: ps).reverse (v2 :: v1 :: vs).reverse Sl Hd Tl b nx st) = some (cS s ns.reverse ps.reverse (r :: vs).reverse Sl Hd Tl b nx st) := by
  unfold m127
  simp only [cS_g8, cS_g9, cS_g10, cS_g11, cS_g12, cS_g13, cS_i12, cS_i13, cS_i14, cS_o14, cS_o15, cS_o16, cS_o0, cS_P, cS_Z, cS_L, cS_J, cS_N, cS_s8, cS_s9, cS_s10, cS_s11, cS_s12, cS_s13, cS_t12, cS_t13, cS_t14, hk]
  rw [mc23n (by omega) (by omega)]
  simp (disch := omega) only [Option.bind_some, cS_g8, cS_g9, cS_g10, cS_g11, cS_g12, cS_g13, cS_i12, cS_i13, cS_i14, cS_o14, cS_o15, cS_o16, cS_o0, cS_P, cS_Z, cS_L, cS_J, cS_N, cS_s8, cS_s9, cS_s10, cS_s11, cS_s12, cS_s13, cS_t12, cS_t13, cS_t14, Bool.false_eq_true, reduceIte, eqL_0, eqL_1, eqL_2, eqL_3, eqL_4, eqL_5, eqL_6, eqL_7, eqL_8, eqL_9, eqL_10, eqL_11, eqL_12, eqL_13, eqL_14, eqL_15, eqL_16, eqL_17, eqL_18, eqL_19, eqL_20, eqL_21, eqL_22, eqL_23, eqL_24, eqL_25, eqL_26, eqL_27, eqL_28, eqL_29, eqL_30, eqL_31, eqL_32, leL_0, geL_0, ltL_0, gtL_0, leL_1, geL_1, ltL_1, gtL_1, leL_2, geL_2, ltL_2, gtL_2, leL_3, geL_3, ltL_3, gtL_3, leL_8, geL_8, ltL_8, gtL_8, leL_9, geL_9, ltL_9, gtL_9, leL_10, geL_10, ltL_10, gtL_10, leL_11, geL_11, ltL_11, gtL_11, leL_12, geL_12, ltL_12, gtL_12, leL_17, geL_17, ltL_17, gtL_17, leL_18, geL_18, ltL_18, gtL_18, leL_23, geL_23, ltL_23, gtL_23, leL_24, geL_24, ltL_24, gtL_24, leL_26, geL_26, ltL_26, gtL_26, leL_31, geL_31, ltL_31, gtL_31, leL_32, geL_32, ltL_32, gtL_32, leL_48, geL_48, ltL_48, gtL_48, leL_57, geL_57, ltL_57, gtL_57, leL_63, geL_63, ltL_63, gtL_63, leL_64, geL_64, ltL_64, gtL_64, leL_97, geL_97, ltL_97, gtL_97, leL_122, geL_122, ltL_122, gtL_122, leL_4096, geL_4096, ltL_4096, gtL_4096, leL_6000, geL_6000, ltL_6000, gtL_6000, leL_8192, geL_8192, ltL_8192, gtL_8192, leL_1000000, geL_1000000, ltL_1000000, gtL_1000000, eqN, leN, ltN, nI_ne1, m1_ne]
  have t1 : xsTop (v2 :: v1 :: vs).reverse = v2 := xsTop_r (by rw [List.length_cons]; omega)
  have t2 : xsTop (v1 :: vs).reverse = v1 := xsTop_r (by omega)
  rw [if_neg (by omega)]
  simp only [xsPop_r, t1, t2]
  rw [hr]
  simp only [Option.bind_some, cS_g8, cS_g9, cS_g10, cS_g11, cS_g12, cS_g13, cS_i12, cS_i13, cS_i14, cS_o14, cS_o15, cS_o16, cS_o0, cS_P, cS_Z, cS_L, cS_J, cS_N, cS_s8, cS_s9, cS_s10, cS_s11, cS_s12, cS_s13, cS_t12, cS_t13, cS_t14]
  rw [xsPush_r (by omega)]
theorem arith {r : Nat} (h3 : 3 ≤ r) (h9 : r ≤ 9) (a b : Int32) : ∃ x, (∀ S, m129 (nI (r - 2)) a b S = some (x, S)) ∧ ∀ T, m221 (nI r) a b T = some (x, T) := by
  have h : r = 3 ∨ r = 4 ∨ r = 5 ∨ r = 6 ∨ r = 7 ∨ r = 8 ∨ r = 9 := by omega
  rcases h with rfl | rfl | rfl | rfl | rfl | rfl | rfl
  · exact ⟨_, fun S => rfl, fun T => rfl⟩
  · exact ⟨_, fun S => rfl, fun T => rfl⟩
  · exact ⟨_, fun S => rfl, fun T => rfl⟩
  · by_cases hb : b = 0
    · exact ⟨0, fun S => by subst hb; rfl, fun T => by subst hb; rfl⟩
    · exact ⟨a / b, fun S => by show (if b = 0 then some (0, S) else if b = 0 then none else some (a / b, S)) = _; rw [if_neg hb, if_neg hb], fun T => by show (if b = 0 then some (0, T) else if b = 0 then none else some (a / b, T)) = _; rw [if_neg hb, if_neg hb]⟩
  · by_cases hb : b = 0
    · exact ⟨a, fun S => by subst hb; rfl, fun T => by subst hb; rfl⟩
    · exact ⟨a - a / b * b, fun S => by show (if b = 0 then some (a, S) else if b = 0 then none else some (a - a / b * b, S)) = _; rw [if_neg hb, if_neg hb], fun T => by show (if b = 0 then some (a, T) else if b = 0 then none else some (a - a / b * b, T)) = _; rw [if_neg hb, if_neg hb]⟩
  · by_cases hb : b ≤ a
    · exact ⟨0, fun S => by show (if b ≤ a then some (0, S) else some (1, S)) = _; rw [if_pos hb], fun T => by show (if b ≤ a then some (0, T) else some (1, T)) = _; rw [if_pos hb]⟩
    · exact ⟨1, fun S => by show (if b ≤ a then some (0, S) else some (1, S)) = _; rw [if_neg hb], fun T => by show (if b ≤ a then some (0, T) else some (1, T)) = _; rw [if_neg hb]⟩
  · by_cases hb : a = b
    · exact ⟨1, fun S => by show (if a = b then some (1, S) else some (0, S)) = _; rw [if_pos hb], fun T => by show (if a = b then some (1, T) else some (0, T)) = _; rw [if_pos hb]⟩
    · exact ⟨0, fun S => by show (if a = b then some (1, S) else some (0, S)) = _; rw [if_neg hb], fun T => by show (if a = b then some (1, T) else some (0, T)) = _; rw [if_neg hb]⟩
end MC2
