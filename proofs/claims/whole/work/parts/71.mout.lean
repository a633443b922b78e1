/-! what comes out of a run -/
theorem bUp_comm {α : Type} (f : Nat → α) {i j : Nat} (h : i ≠ j) (a b : α) : bUp (bUp f i a) j b = bUp (bUp f j b) i a := by
  funext k
  simp only [bUp_if]
  by_cases z : k = j
  · subst z
    rw [if_pos rfl, if_neg (fun e => h e.symm), if_pos rfl]
  · rw [if_neg z, if_neg z]
theorem sI_comm (s : xSt) {i j : Nat} (h : i ≠ j) (a b : Int32) : sI (sI s i a) j b = sI (sI s j b) i a := by
  show (s.1, bUp (bUp s.2.1 i a) j b, s.2.2) = (s.1, bUp (bUp s.2.1 j b) i a, s.2.2)
  rw [bUp_comm _ h]
section Out
variable {s t S T : xSt} {cl md : Nat} {hd Hd Tl hds tls : List Int32}
theorem out_lock (hH : HRel cl md hd Hd Tl hds tls) (hcl : cl ≤ 2064) (hmd : md < 12400) (s12 : gR S 12 = Hd) (s13 : gR S 13 = Tl) (t48 : gR T 48 = hds) (t49 : gR T 49 = tls) (t50 : gR T 50 = hd) : ∀ (f a k : Nat) (zs ys : List Int32), a ≤ cl → a < f → k + a ≤ cl → zs.length + a ≤ cl → ArrR ys zs → ys.length = 12200 →
    ∃ zs' ys', m130_r83_15 f (nI a) (nI k) (sR S 16 zs) = some (sR S 16 zs') ∧ m223_25 f (nI a) (sI (sR T 47 ys) 10 (nI zs.length)) = some (sI (sR T 47 ys') 10 (nI zs'.length)) ∧ ArrR ys' zs' ∧ ys'.length = 12200 ∧ zs'.length ≤ 2065 := by
  obtain ⟨b1, b2, b3, b4, b5, b6⟩ := hH
  intro f
  induction f with
  | zero => intro a k zs ys h1 h2; omega
  | succ f ih =>
    intro a k zs ys h1 h2 h3 h4 h5 h6
    unfold m130_r83_15 m223_25
    simp (disch := omega) only [gR_sR, gR_sI, gR_sJ, gR_sL, gR_sZ, gR_sP, gR_sN, gI_sR, gI_sI, gI_sJ, gI_sL, gI_sZ, gI_sP, gI_sN, gJ_sR, gJ_sI, gJ_sJ, gJ_sL, gJ_sZ, gJ_sP, gJ_sN, gL_sR, gL_sI, gL_sJ, gL_sL, gL_sZ, gL_sP, gL_sN, gZ_sR, gZ_sI, gZ_sJ, gZ_sL, gZ_sZ, gZ_sP, gZ_sN, gP_sR, gP_sI, gP_sJ, gP_sL, gP_sZ, gP_sN, gN_sR, gN_sI, gN_sJ, gN_sL, gN_sZ, gN_sP, gP_sP, gP_sQ, gN_sN, gN_sM, reduceIte, Nat.reduceEqDiff, s12, s13, t48, t49, t50, b1, eqL_0, eqL_1, eqL_2, eqL_3, eqL_4, eqL_5, eqL_6, eqL_7, eqL_8, eqL_9, eqL_10, eqL_11, eqL_12, eqL_13, eqL_14, eqL_15, eqL_16, eqL_17, eqL_18, eqL_19, eqL_20, eqL_21, eqL_22, eqL_23, eqL_24, eqL_25, eqL_26, eqL_27, eqL_28, eqL_29, eqL_30, eqL_31, eqL_32, leL_0, geL_0, ltL_0, gtL_0, leL_1, geL_1, ltL_1, gtL_1, leL_2, geL_2, ltL_2, gtL_2, leL_3, geL_3, ltL_3, gtL_3, leL_8, geL_8, ltL_8, gtL_8, leL_9, geL_9, ltL_9, gtL_9, leL_10, geL_10, ltL_10, gtL_10, leL_11, geL_11, ltL_11, gtL_11, leL_12, geL_12, ltL_12, gtL_12, leL_17, geL_17, ltL_17, gtL_17, leL_18, geL_18, ltL_18, gtL_18, leL_23, geL_23, ltL_23, gtL_23, leL_24, geL_24, ltL_24, gtL_24, leL_26, geL_26, ltL_26, gtL_26, leL_31, geL_31, ltL_31, gtL_31, leL_32, geL_32, ltL_32, gtL_32, leL_48, geL_48, ltL_48, gtL_48, leL_57, geL_57, ltL_57, gtL_57, leL_63, geL_63, ltL_63, gtL_63, leL_64, geL_64, ltL_64, gtL_64, leL_97, geL_97, ltL_97, gtL_97, leL_122, geL_122, ltL_122, gtL_122, leL_4096, geL_4096, ltL_4096, gtL_4096, leL_6000, geL_6000, ltL_6000, gtL_6000, leL_8192, geL_8192, ltL_8192, gtL_8192, leL_1000000, geL_1000000, ltL_1000000, gtL_1000000, eqN, leN, ltN, nI_ne1, m1_ne]
    rw [if_neg (by omega)]
    by_cases z : a = 0
    · rw [if_pos z, if_pos (by omega)]
      exact ⟨zs, ys, rfl, rfl, h5, h6, by omega⟩
    · obtain ⟨c1, m, a', c2, c3, c4, c5, c6⟩ := b6 a (by omega) h1
      rw [if_neg z, if_neg (by omega), xsAt_n (by omega), xsAt_n (by omega), xsPush_n (by omega), xsGet_d (by omega) (by omega), bs, xsPut_n (by omega) (by omega), bs, xsGet_d (by omega) (by omega), bs, c4, xsGet_d (by omega) (by omega), bs, c5, c6, nI_1, nI_1, sR_sR]
      obtain ⟨zs', ys', e1, e2, e3, e4, e5⟩ := ih a' (k + 1) (zs ++ [Hd.getD a 0]) (ys.set zs.length (hds.getD a 0)) (by omega) (by omega) (by omega) (by rw [List.length_append]; show zs.length + 1 + _ ≤ _; omega) ⟨by rw [List.length_append, List.length_set]; show zs.length + 1 ≤ _; omega, fun j hj => by
        rw [List.length_append] at hj
        have hj : j < zs.length + 1 := hj
        rw [getD_push, getD_setn (by omega), c1]
        by_cases zz : j = zs.length
        · rw [if_pos zz, if_pos zz]
        · rw [if_neg zz, if_neg zz]
          exact h5.2 j (by omega)⟩ (by rw [List.length_set]; exact h6)
      refine ⟨zs', ys', e1, ?_, e3, e4, e5⟩
      have e : sI (sR (sI (sR T 47 ys) 10 (nI zs.length)) 47 (ys.set zs.length (hds.getD a 0))) 10 (nI (zs.length + 1)) = sI (sR T 47 (ys.set zs.length (hds.getD a 0))) 10 (nI (zs ++ [Hd.getD a 0]).length) := by
        rw [List.length_append]
        show sI (sI (sR (sR T 47 ys) 47 (ys.set zs.length (hds.getD a 0))) 10 (nI zs.length)) 10 (nI (zs.length + 1)) = sI (sR T 47 (ys.set zs.length (hds.getD a 0))) 10 (nI (zs.length + 1))
        rw [sI_sI, sR_sR]
      rw [e]
      exact e2
theorem out_ok {n0 : Nat} (hn0 : n0 ≤ 64) (hF : FIN s t n0 true S T) (h47 : (gR t 47).length = 12200) : ∃ zs' ys', m136 S = some (sI (sR S 16 zs') 0 (gI S 14)) ∧ m223 T = some (sI (sR (sI T 11 (gI T 17)) 47 ys') 10 (nI zs'.length)) ∧ ArrR ys' zs' ∧ ys'.length = 12200 ∧ zs'.length ≤ 2065 ∧ gI S 14 = gI T 17 := by
  obtain ⟨N, P, V, Sl, Hd, Tl, i12, i13, hds, tls, hd, vars, wn, wp, wb, ops, j12, j13, j14, j15, j16, j18, st, rfl, rfl, hst, ⟨l1, l2, l3, l4, l5, l6, l7, l8⟩, hb⟩ := hF
  obtain ⟨cl, md, v, rfl, hv, hH, hcl, hmd⟩ := hb rfl
  unfold vr at hv
  rw [if_neg (by decide), if_neg (by decide), if_neg (by decide)] at hv
  obtain ⟨m, a, w1, w2, w3, w4, w5⟩ := hv
  subst w5
  obtain ⟨zs', ys', e1, e2, e3, e4, e5⟩ := out_lock (S := cS s N P [nI a] Sl Hd Tl i12 i13 (nI st)) (T := sI (rS t hds tls hd vars wn wp wb ops j12 j13 j14 j15 j16 (nI st) j18) 11 (nI st)) hH (by omega) hmd rfl rfl rfl rfl rfl 1000000 a 0 [] (gR t 47) w2 (by omega) (by omega) (by show 0 + a ≤ cl; omega) ⟨Nat.zero_le _, fun j hj => absurd hj (Nat.not_lt_zero _)⟩ h47
  refine ⟨zs', ys', ?_, ?_, e3, e4, e5, rfl⟩
  · unfold m136 m130_r83
    rw [cS_g10, cS_o16, xsCut_0, show xsTop [nI a] = nI a from xsTop_r (st := []) (by decide), ← nI_0, e1, bs]
    rfl
  · unfold m223
    rw [rS_g55, ← nI_0, xsGet_d (by decide) (by omega), bs, w3, rS_g50, xsGet_d (by omega) (by omega), bs, w4, rS_i17, ← e2]
    have e : sR (sI (rS t hds tls hd vars wn wp wb ops j12 j13 j14 j15 j16 (nI st) j18) 11 (nI st)) 47 (gR t 47) = sI (rS t hds tls hd vars wn wp wb ops j12 j13 j14 j15 j16 (nI st) j18) 11 (nI st) := sR_id (sI (rS t hds tls hd vars wn wp wb ops j12 j13 j14 j15 j16 (nI st) j18) 11 (nI st)) 47
    rw [e, List.length_nil]
end Out
