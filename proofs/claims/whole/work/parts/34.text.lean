/-! texts: length, charAt, indexOf -/
def xtLen (t : Nat) : Option Int32 := if t < zN then some (nI (zBy t).length) else none
def xtAt (t : Nat) (i : Int32) : Option Int32 := if t < zN then xsGet (zBy t) i else none
def xtIdx (t : Nat) (c : Int32) : Option Int32 := if t = 0 ∧ c = 80 then some 2 else if t = 0 ∧ c = 82 then some 6 else none
theorem xt_ltL {t : Nat} {v : Int32} (h : xtLen t = some v) : t < zN := by
  unfold xtLen at h
  split at h
  · assumption
  · cases h
theorem xt_ltA {t : Nat} {i v : Int32} (h : xtAt t i = some v) : t < zN := by
  unfold xtAt at h
  split at h
  · assumption
  · cases h
theorem xt_ltI {t : Nat} {i v : Int32} (h : xtIdx t i = some v) : t < zN := by
  unfold xtIdx at h
  split at h
  next h1 => rw [h1.1]; decide
  next =>
    split at h
    next h1 => rw [h1.1]; decide
    next => cases h
/-! texts, walked -/
section TxtW
variable {V : xmV} {L : List Nat} {Kc Ks k : Nat} {r : Option Value} {H H' : xHp} {pc pc' : Nat} {lv lv' : xmL} {st st' : List Value} {aux : List Nat} {idx : Nat}
theorem h_up (f : ∀ d G G', xmEv V (xmCall V d) k (pc', lv', st', G) r G' → xmEv V (xmCall V d) k (pc, lv, st, G) r G') (e : HE V L Kc Ks k (pc', lv', st', H) r H') : HE V L Kc Ks k (pc, lv, st, H) r H' := by
  obtain ⟨d, e⟩ := e
  exact ⟨d, fun G hG => by obtain ⟨G', h1, h2⟩ := e G hG; exact ⟨G', h1, f d G G' h2⟩⟩
theorem h_sval {a : Nat} (hc : xmCd k pc = some (.getfield idx, 3, aux)) (hm : aux.getD 0 0 = 2000) (ha : a < zN) (e : HE V L Kc Ks k (pc + 3, lv, .retAddr (1000 + a) :: st, H) r H') : HE V L Kc Ks k (pc, lv, .retAddr a :: st, H) r H' := h_up (fun _ _ _ e => ev_sval hc hm ha e) e
theorem h_scod {a : Nat} (hc : xmCd k pc = some (.getfield idx, 3, aux)) (hm : aux.getD 0 0 = 2001) (ha : a < zN) (e : HE V L Kc Ks k (pc + 3, lv, .int 0 :: st, H) r H') : HE V L Kc Ks k (pc, lv, .retAddr a :: st, H) r H' := h_up (fun _ _ _ e => ev_scod hc hm ha e) e
theorem h_cs (hc : xmCd k pc = some (.getstatic idx, 3, aux)) (hm : aux.getD 0 0 = 2002) (e : HE V L Kc Ks k (pc + 3, lv, .int 1 :: st, H) r H') : HE V L Kc Ks k (pc, lv, st, H) r H' := h_up (fun _ _ _ e => ev_cs hc hm e) e
theorem h_fm (hc : xmCd k pc = some (.getstatic idx, 3, aux)) (hm : aux.getD 0 0 = 2003) (e : HE V L Kc Ks k (pc + 3, lv, .float 0 :: st, H) r H') : HE V L Kc Ks k (pc, lv, st, H) r H' := h_up (fun _ _ _ e => ev_fm hc hm e) e
theorem h_slen {a : Nat} (hc : xmCd k pc = some (.arraylength, 1, aux)) (ha : a < zN) (e : HE V L Kc Ks k (pc + 1, lv, .int (nI (zBy a).length) :: st, H) r H') : HE V L Kc Ks k (pc, lv, .retAddr (1000 + a) :: st, H) r H' := h_up (fun _ _ _ e => ev_slen hc ha e) e
theorem h_sbald {a : Nat} {j z : Int32} (hc : xmCd k pc = some (.baload, 1, aux)) (ha : a < zN) (h0 : ¬ j < 0) (hz : (zBy a)[j.toNatClampNeg]? = some z) (e : HE V L Kc Ks k (pc + 1, lv, .int z :: st, H) r H') : HE V L Kc Ks k (pc, lv, .int j :: .retAddr (1000 + a) :: st, H) r H' := h_up (fun _ _ _ e => ev_sbald hc ha h0 hz e) e
theorem h_max {a b : Int32} (hc : xmCd k pc = some (.invokestatic idx, 3, aux)) (hm : aux.getD 0 0 = 1004) (h8 : (st.map fun v => v.category).sum ≤ 8) (e : HE V L Kc Ks k (pc + 3, lv, .int (if a < b then b else a) :: st, H) r H') : HE V L Kc Ks k (pc, lv, .int b :: .int a :: st, H) r H' := h_up (fun _ _ _ e => ev_max hc hm h8 e) e
theorem t237 {t : Nat} (ht : t < zN) : HC V L Kc Ks 237 [.retAddr t] H (some (.int 0)) H := by
  refine hc_of (by decide) rfl ?_
  refine h_cs rfl rfl ?_
  refine h_it 2 (x' := (7, [(0, .retAddr t)], [.retAddr t], H)) rfl ?_
  refine h_scod rfl rfl ht ?_
  refine h_it 1 (x' := (14, [(0, .retAddr t)], [.int 0], H)) rfl ?_
  exact ⟨0, ea_iret rfl rfl rfl⟩
theorem t239 {t : Nat} (ht : t < zN) : HC V L Kc Ks 239 [.retAddr t] H (some (.int 1)) H := by
  refine hc_of (by decide) rfl ?_
  refine h_cs rfl rfl ?_
  refine h_it 2 (x' := (7, [(0, .retAddr t)], [.retAddr t], H)) rfl ?_
  refine h_scod rfl rfl ht ?_
  refine h_it 3 (x' := (18, [(0, .retAddr t)], [.int 1], H)) rfl ?_
  exact ⟨0, ea_iret rfl rfl rfl⟩
theorem t236 {t : Nat} {v : Int32} (h : xtLen t = some v) : HC V L Kc Ks 236 [.retAddr t] H (some (.int v)) H := by
  have ht := xt_ltL h
  have hv : v = nI (zBy t).length := by
    unfold xtLen at h
    rw [if_pos ht] at h
    exact (Option.some.inj h).symm
  subst hv
  refine hc_of (by decide) rfl ?_
  refine h_it 1 (x' := (1, [(0, .retAddr t)], [.retAddr t], H)) rfl ?_
  refine h_sval rfl rfl ht ?_
  refine h_slen rfl ht ?_
  refine h_it 1 (x' := (6, [(0, .retAddr t)], [.retAddr t, .int (nI (zBy t).length)], H)) rfl ?_
  refine h_callT (As := []) (r1 := some (.int 0)) (st := [.int (nI (zBy t).length)]) rfl rfl ht rfl rfl rfl (t237 ht) ?_
  refine h_it 1 (x' := (10, [(0, .retAddr t)], [.int (nI (zBy t).length >>> ((0 : Int32) &&& 31))], H)) rfl ?_
  have e : nI (zBy t).length >>> ((0 : Int32) &&& 31) = nI (zBy t).length := by
    rw [show (0 : Int32) &&& 31 = 0 from rfl, Int32.shiftRight_zero]
  rw [e]
  exact h_iret rfl rfl
theorem t242 {i n : Int32} (h0 : ¬ i < 0) (h1 : i < n) : HC V L Kc Ks 242 [.int i, .int n, .float 0] H (some (.int i)) H := by
  refine hc_of (by decide) rfl ?_
  refine h_it 1 (x' := (1, [(0, .int i), (1, .int n), (2, .float 0)], [.int i], H)) rfl ?_
  refine h_br (b := decide (i < 0)) (t := 9) (f := 4) (lv' := [(0, .int i), (1, .int n), (2, .float 0)]) (st' := []) rfl rfl ?_
  refine h_n h0 ?_
  refine h_it 2 (x' := (6, [(0, .int i), (1, .int n), (2, .float 0)], [.int n, .int i], H)) rfl ?_
  refine h_br (b := decide (i < n)) (t := 16) (f := 9) (lv' := [(0, .int i), (1, .int n), (2, .float 0)]) (st' := []) rfl rfl ?_
  refine h_y h1 ?_
  refine h_it 1 (x' := (17, [(0, .int i), (1, .int n), (2, .float 0)], [.int i], H)) rfl ?_
  exact h_iret rfl rfl
theorem t241 {i n : Int32} (h0 : ¬ i < 0) (h1 : i < n) : HC V L Kc Ks 241 [.int i, .int n] H none H := by
  refine hc_of (by decide) rfl ?_
  refine h_it 2 (x' := (2, [(0, .int i), (1, .int n)], [.int n, .int i], H)) rfl ?_
  refine h_fm rfl rfl ?_
  refine h_callS (av := [.int i, .int n, .float 0]) (r1 := some (.int i)) (st := []) rfl rfl rfl rfl rfl (t242 h0 h1) ?_
  refine h_it 1 (x' := (9, [(0, .int i), (1, .int n)], [], H)) rfl ?_
  exact h_vret rfl rfl
theorem zBy_asc : ∀ t, t < 35 → (zBy t).all (fun z => decide (narrow .char (.int (z &&& 255)) = .int z) && decide (narrow .char (.int z) = .int z)) = true ∧ (zBy t).length < 1000 := by decide +kernel
end TxtW
section TxtX
variable {V : xmV} {L : List Nat} {Kc Ks k : Nat} {H H' : xHp}
theorem asc {t : Nat} {j : Nat} {z : Int32} (ht : t < zN) (hz : (zBy t)[j]? = some z) : narrow .char (.int (z &&& 255)) = .int z ∧ narrow .char (.int z) = .int z := by
  have h := (zBy_asc t ht).1
  rw [List.all_eq_true] at h
  have h2 := h z (List.mem_of_getElem? hz)
  rw [Bool.and_eq_true, decide_eq_true_eq, decide_eq_true_eq] at h2
  exact h2
theorem xtAt_i {t : Nat} {i v : Int32} (h : xtAt t i = some v) : t < zN ∧ ¬ i < 0 ∧ (zBy t)[i.toNatClampNeg]? = some v ∧ i < nI (zBy t).length := by
  have ht := xt_ltA h
  unfold xtAt at h
  rw [if_pos ht] at h
  obtain ⟨h0, h1⟩ := xsGet_some h
  refine ⟨ht, h0, h1, ?_⟩
  obtain ⟨n, hn, rfl⟩ := nI_of h0
  rw [nI_clamp hn] at h1
  have hl : n < (zBy t).length := by
    by_cases z : n < (zBy t).length
    · exact z
    · rw [List.getElem?_eq_none (by omega)] at h1
      cases h1
  rw [nI_ltI hn (by have := (zBy_asc t ht).2; omega)]
  exact hl
theorem xt_nar {t : Nat} {i v : Int32} (h : xtAt t i = some v) : narrow .char (.int v) = .int v := by
  obtain ⟨h1, h2, h3, h4⟩ := xtAt_i h
  exact (asc h1 h3).2
theorem t240 {t : Nat} {i v : Int32} (h : xtAt t i = some v) : HC V L Kc Ks 240 [.retAddr (1000 + t), .int i] H (some (.int v)) H := by
  obtain ⟨ht, h0, h1, h2⟩ := xtAt_i h
  refine hc_of (by decide) rfl ?_
  refine h_it 2 (x' := (2, [(0, .retAddr (1000 + t)), (1, .int i)], [.retAddr (1000 + t), .int i], H)) rfl ?_
  refine h_slen rfl ht ?_
  refine h_callS (av := [.int i, .int (nI (zBy t).length)]) (r1 := none) (st := []) rfl rfl rfl rfl rfl (t241 h0 h2) ?_
  refine h_it 2 (x' := (8, [(0, .retAddr (1000 + t)), (1, .int i)], [.int i, .retAddr (1000 + t)], H)) rfl ?_
  refine h_sbald rfl ht h0 h1 ?_
  refine h_it 3 (x' := (14, [(0, .retAddr (1000 + t)), (1, .int i)], [narrow .char (.int (v &&& 255))], H)) rfl ?_
  rw [(asc ht h1).1]
  exact ⟨0, ea_iret rfl rfl (asc ht h1).2⟩
theorem t238 {t : Nat} {i v : Int32} (h : xtAt t i = some v) : HC V L Kc Ks 238 [.retAddr t, .int i] H (some (.int v)) H := by
  obtain ⟨ht, h0, h1, h2⟩ := xtAt_i h
  refine hc_of (by decide) rfl ?_
  refine h_it 1 (x' := (1, [(0, .retAddr t), (1, .int i)], [.retAddr t], H)) rfl ?_
  refine h_callT (As := []) (r1 := some (.int 1)) (st := []) rfl rfl ht rfl rfl rfl (t239 ht) ?_
  refine h_it 2 (x' := (8, [(0, .retAddr t), (1, .int i)], [.retAddr t], H)) rfl ?_
  refine h_sval rfl rfl ht ?_
  refine h_it 1 (x' := (12, [(0, .retAddr t), (1, .int i)], [.int i, .retAddr (1000 + t)], H)) rfl ?_
  refine h_callS (av := [.retAddr (1000 + t), .int i]) (r1 := some (.int v)) (st := []) rfl rfl rfl rfl rfl (t240 h) ?_
  exact ⟨0, ea_iret rfl rfl (asc ht h1).2⟩
end TxtX
section TxtY
variable {V : xmV} {L : List Nat} {Kc Ks k : Nat} {H H' : xHp}
theorem t246_80 : HC V L Kc Ks 246 [.int 80] H (some (.int 1)) H := by
  refine hc_of (by decide) rfl ?_
  refine h_it 7 (x' := (16, [(0, .int 80)], [.int 1], H)) rfl ?_
  exact ⟨0, ea_iret rfl rfl rfl⟩
theorem t247_80 : HC V L Kc Ks 247 [.retAddr (1000 + 0), .int 80, .int 0, .int 9] H (some (.int 2)) H := by
  refine hc_of (by decide) rfl ?_
  refine h_it 5 (x' := (7, [(5, .int 0), (4, .int 80), (0, .retAddr (1000 + 0)), (1, .int 80), (2, .int 0), (3, .int 9)], [], H)) rfl ?_
  refine h_it 5 (x' := (16, [(5, .int 0), (4, .int 80), (0, .retAddr (1000 + 0)), (1, .int 80), (2, .int 0), (3, .int 9)], [.int 0, .retAddr (1000 + 0)], H)) rfl ?_
  refine h_sbald (a := 0) (z := 68) rfl (by decide) (by decide) (by decide) ?_
  refine h_it 4 (x' := (7, [(5, .int 1), (4, .int 80), (0, .retAddr (1000 + 0)), (1, .int 80), (2, .int 0), (3, .int 9)], [], H)) rfl ?_
  refine h_it 5 (x' := (16, [(5, .int 1), (4, .int 80), (0, .retAddr (1000 + 0)), (1, .int 80), (2, .int 0), (3, .int 9)], [.int 1, .retAddr (1000 + 0)], H)) rfl ?_
  refine h_sbald (a := 0) (z := 40) rfl (by decide) (by decide) (by decide) ?_
  refine h_it 4 (x' := (7, [(5, .int 2), (4, .int 80), (0, .retAddr (1000 + 0)), (1, .int 80), (2, .int 0), (3, .int 9)], [], H)) rfl ?_
  refine h_it 5 (x' := (16, [(5, .int 2), (4, .int 80), (0, .retAddr (1000 + 0)), (1, .int 80), (2, .int 0), (3, .int 9)], [.int 2, .retAddr (1000 + 0)], H)) rfl ?_
  refine h_sbald (a := 0) (z := 80) rfl (by decide) (by decide) (by decide) ?_
  refine h_it 3 (x' := (24, [(5, .int 2), (4, .int 80), (0, .retAddr (1000 + 0)), (1, .int 80), (2, .int 0), (3, .int 9)], [.int 2], H)) rfl ?_
  exact h_iret rfl rfl
theorem t245_80 : HC V L Kc Ks 245 [.retAddr (1000 + 0), .int 80, .int 0, .int 9] H (some (.int 2)) H := by
  refine hc_of (by decide) rfl ?_
  refine h_it 1 (x' := (1, [(0, .retAddr (1000 + 0)), (1, .int 80), (2, .int 0), (3, .int 9)], [.int 80], H)) rfl ?_
  refine h_callS (av := [.int 80]) (r1 := some (.int 1)) (st := []) rfl rfl rfl rfl rfl t246_80 ?_
  refine h_it 3 (x' := (11, [(0, .retAddr (1000 + 0)), (1, .int 80), (2, .int 0), (3, .int 9)], [.int 0, .int 0], H)) rfl ?_
  refine h_max rfl rfl (by decide) ?_
  refine h_it 3 (x' := (17, [(2, .int 0), (0, .retAddr (1000 + 0)), (1, .int 80), (3, .int 9)], [.retAddr (1000 + 0), .int 9], H)) rfl ?_
  refine h_slen (a := 0) rfl (by decide) ?_
  refine h_min rfl rfl rfl ?_
  refine h_it 1 (x' := (22, [(3, .int 9), (2, .int 0), (0, .retAddr (1000 + 0)), (1, .int 80)], [], H)) rfl ?_
  refine h_it 7 (x' := (33, [(3, .int 9), (2, .int 0), (0, .retAddr (1000 + 0)), (1, .int 80)], [.int 9, .int 0, .int 80, .retAddr (1000 + 0)], H)) rfl ?_
  refine h_callS (av := [.retAddr (1000 + 0), .int 80, .int 0, .int 9]) (r1 := some (.int 2)) (st := []) rfl rfl rfl rfl rfl t247_80 ?_
  exact h_iret rfl rfl
theorem t244_80 : HC V L Kc Ks 244 [.retAddr 0, .int 80, .int 0] H (some (.int 2)) H := by
  refine hc_of (by decide) rfl ?_
  refine h_it 1 (x' := (1, [(0, .retAddr 0), (1, .int 80), (2, .int 0)], [.retAddr 0], H)) rfl ?_
  refine h_callT (As := []) (r1 := some (.int 1)) (st := []) rfl rfl (by decide) rfl rfl rfl (t239 (by decide)) ?_
  refine h_it 2 (x' := (8, [(0, .retAddr 0), (1, .int 80), (2, .int 0)], [.retAddr 0], H)) rfl ?_
  refine h_sval (a := 0) rfl rfl (by decide) ?_
  refine h_it 3 (x' := (14, [(0, .retAddr 0), (1, .int 80), (2, .int 0)], [.retAddr 0, .int 0, .int 80, .retAddr (1000 + 0)], H)) rfl ?_
  refine h_callT (As := []) (r1 := some (.int 9)) (st := [.int 0, .int 80, .retAddr (1000 + 0)]) rfl rfl (by decide) rfl rfl rfl (t236 (by decide)) ?_
  refine h_callS (av := [.retAddr (1000 + 0), .int 80, .int 0, .int 9]) (r1 := some (.int 2)) (st := []) rfl rfl rfl rfl rfl t245_80 ?_
  refine h_it 1 (x' := (36, [(0, .retAddr 0), (1, .int 80), (2, .int 0)], [.int 2], H)) rfl ?_
  exact h_iret rfl rfl
theorem t243_80 : HC V L Kc Ks 243 [.retAddr 0, .int 80] H (some (.int 2)) H := by
  refine hc_of (by decide) rfl ?_
  refine h_it 3 (x' := (3, [(0, .retAddr 0), (1, .int 80)], [.int 0, .int 80, .retAddr 0], H)) rfl ?_
  refine h_callT (As := [.int 80, .int 0]) (r1 := some (.int 2)) (st := []) rfl rfl (by decide) rfl rfl rfl t244_80 ?_
  exact h_iret rfl rfl
theorem t246_82 : HC V L Kc Ks 246 [.int 82] H (some (.int 1)) H := by
  refine hc_of (by decide) rfl ?_
  refine h_it 7 (x' := (16, [(0, .int 82)], [.int 1], H)) rfl ?_
  exact ⟨0, ea_iret rfl rfl rfl⟩
theorem t247_82 : HC V L Kc Ks 247 [.retAddr (1000 + 0), .int 82, .int 0, .int 9] H (some (.int 6)) H := by
  refine hc_of (by decide) rfl ?_
  refine h_it 5 (x' := (7, [(5, .int 0), (4, .int 82), (0, .retAddr (1000 + 0)), (1, .int 82), (2, .int 0), (3, .int 9)], [], H)) rfl ?_
  refine h_it 5 (x' := (16, [(5, .int 0), (4, .int 82), (0, .retAddr (1000 + 0)), (1, .int 82), (2, .int 0), (3, .int 9)], [.int 0, .retAddr (1000 + 0)], H)) rfl ?_
  refine h_sbald (a := 0) (z := 68) rfl (by decide) (by decide) (by decide) ?_
  refine h_it 4 (x' := (7, [(5, .int 1), (4, .int 82), (0, .retAddr (1000 + 0)), (1, .int 82), (2, .int 0), (3, .int 9)], [], H)) rfl ?_
  refine h_it 5 (x' := (16, [(5, .int 1), (4, .int 82), (0, .retAddr (1000 + 0)), (1, .int 82), (2, .int 0), (3, .int 9)], [.int 1, .retAddr (1000 + 0)], H)) rfl ?_
  refine h_sbald (a := 0) (z := 40) rfl (by decide) (by decide) (by decide) ?_
  refine h_it 4 (x' := (7, [(5, .int 2), (4, .int 82), (0, .retAddr (1000 + 0)), (1, .int 82), (2, .int 0), (3, .int 9)], [], H)) rfl ?_
  refine h_it 5 (x' := (16, [(5, .int 2), (4, .int 82), (0, .retAddr (1000 + 0)), (1, .int 82), (2, .int 0), (3, .int 9)], [.int 2, .retAddr (1000 + 0)], H)) rfl ?_
  refine h_sbald (a := 0) (z := 80) rfl (by decide) (by decide) (by decide) ?_
  refine h_it 4 (x' := (7, [(5, .int 3), (4, .int 82), (0, .retAddr (1000 + 0)), (1, .int 82), (2, .int 0), (3, .int 9)], [], H)) rfl ?_
  refine h_it 5 (x' := (16, [(5, .int 3), (4, .int 82), (0, .retAddr (1000 + 0)), (1, .int 82), (2, .int 0), (3, .int 9)], [.int 3, .retAddr (1000 + 0)], H)) rfl ?_
  refine h_sbald (a := 0) (z := 78) rfl (by decide) (by decide) (by decide) ?_
  refine h_it 4 (x' := (7, [(5, .int 4), (4, .int 82), (0, .retAddr (1000 + 0)), (1, .int 82), (2, .int 0), (3, .int 9)], [], H)) rfl ?_
  refine h_it 5 (x' := (16, [(5, .int 4), (4, .int 82), (0, .retAddr (1000 + 0)), (1, .int 82), (2, .int 0), (3, .int 9)], [.int 4, .retAddr (1000 + 0)], H)) rfl ?_
  refine h_sbald (a := 0) (z := 89) rfl (by decide) (by decide) (by decide) ?_
  refine h_it 4 (x' := (7, [(5, .int 5), (4, .int 82), (0, .retAddr (1000 + 0)), (1, .int 82), (2, .int 0), (3, .int 9)], [], H)) rfl ?_
  refine h_it 5 (x' := (16, [(5, .int 5), (4, .int 82), (0, .retAddr (1000 + 0)), (1, .int 82), (2, .int 0), (3, .int 9)], [.int 5, .retAddr (1000 + 0)], H)) rfl ?_
  refine h_sbald (a := 0) (z := 81) rfl (by decide) (by decide) (by decide) ?_
  refine h_it 4 (x' := (7, [(5, .int 6), (4, .int 82), (0, .retAddr (1000 + 0)), (1, .int 82), (2, .int 0), (3, .int 9)], [], H)) rfl ?_
  refine h_it 5 (x' := (16, [(5, .int 6), (4, .int 82), (0, .retAddr (1000 + 0)), (1, .int 82), (2, .int 0), (3, .int 9)], [.int 6, .retAddr (1000 + 0)], H)) rfl ?_
  refine h_sbald (a := 0) (z := 82) rfl (by decide) (by decide) (by decide) ?_
  refine h_it 3 (x' := (24, [(5, .int 6), (4, .int 82), (0, .retAddr (1000 + 0)), (1, .int 82), (2, .int 0), (3, .int 9)], [.int 6], H)) rfl ?_
  exact h_iret rfl rfl
theorem t245_82 : HC V L Kc Ks 245 [.retAddr (1000 + 0), .int 82, .int 0, .int 9] H (some (.int 6)) H := by
  refine hc_of (by decide) rfl ?_
  refine h_it 1 (x' := (1, [(0, .retAddr (1000 + 0)), (1, .int 82), (2, .int 0), (3, .int 9)], [.int 82], H)) rfl ?_
  refine h_callS (av := [.int 82]) (r1 := some (.int 1)) (st := []) rfl rfl rfl rfl rfl t246_82 ?_
  refine h_it 3 (x' := (11, [(0, .retAddr (1000 + 0)), (1, .int 82), (2, .int 0), (3, .int 9)], [.int 0, .int 0], H)) rfl ?_
  refine h_max rfl rfl (by decide) ?_
  refine h_it 3 (x' := (17, [(2, .int 0), (0, .retAddr (1000 + 0)), (1, .int 82), (3, .int 9)], [.retAddr (1000 + 0), .int 9], H)) rfl ?_
  refine h_slen (a := 0) rfl (by decide) ?_
  refine h_min rfl rfl rfl ?_
  refine h_it 1 (x' := (22, [(3, .int 9), (2, .int 0), (0, .retAddr (1000 + 0)), (1, .int 82)], [], H)) rfl ?_
  refine h_it 7 (x' := (33, [(3, .int 9), (2, .int 0), (0, .retAddr (1000 + 0)), (1, .int 82)], [.int 9, .int 0, .int 82, .retAddr (1000 + 0)], H)) rfl ?_
  refine h_callS (av := [.retAddr (1000 + 0), .int 82, .int 0, .int 9]) (r1 := some (.int 6)) (st := []) rfl rfl rfl rfl rfl t247_82 ?_
  exact h_iret rfl rfl
theorem t244_82 : HC V L Kc Ks 244 [.retAddr 0, .int 82, .int 0] H (some (.int 6)) H := by
  refine hc_of (by decide) rfl ?_
  refine h_it 1 (x' := (1, [(0, .retAddr 0), (1, .int 82), (2, .int 0)], [.retAddr 0], H)) rfl ?_
  refine h_callT (As := []) (r1 := some (.int 1)) (st := []) rfl rfl (by decide) rfl rfl rfl (t239 (by decide)) ?_
  refine h_it 2 (x' := (8, [(0, .retAddr 0), (1, .int 82), (2, .int 0)], [.retAddr 0], H)) rfl ?_
  refine h_sval (a := 0) rfl rfl (by decide) ?_
  refine h_it 3 (x' := (14, [(0, .retAddr 0), (1, .int 82), (2, .int 0)], [.retAddr 0, .int 0, .int 82, .retAddr (1000 + 0)], H)) rfl ?_
  refine h_callT (As := []) (r1 := some (.int 9)) (st := [.int 0, .int 82, .retAddr (1000 + 0)]) rfl rfl (by decide) rfl rfl rfl (t236 (by decide)) ?_
  refine h_callS (av := [.retAddr (1000 + 0), .int 82, .int 0, .int 9]) (r1 := some (.int 6)) (st := []) rfl rfl rfl rfl rfl t245_82 ?_
  refine h_it 1 (x' := (36, [(0, .retAddr 0), (1, .int 82), (2, .int 0)], [.int 6], H)) rfl ?_
  exact h_iret rfl rfl
theorem t243_82 : HC V L Kc Ks 243 [.retAddr 0, .int 82] H (some (.int 6)) H := by
  refine hc_of (by decide) rfl ?_
  refine h_it 3 (x' := (3, [(0, .retAddr 0), (1, .int 82)], [.int 0, .int 82, .retAddr 0], H)) rfl ?_
  refine h_callT (As := [.int 82, .int 0]) (r1 := some (.int 6)) (st := []) rfl rfl (by decide) rfl rfl rfl t244_82 ?_
  exact h_iret rfl rfl
theorem t243 {t : Nat} {i v : Int32} (h : xtIdx t i = some v) : HC V L Kc Ks 243 [.retAddr t, .int i] H (some (.int v)) H := by
  unfold xtIdx at h
  split at h
  next h1 =>
    obtain ⟨rfl, rfl⟩ := h1
    cases h
    exact t243_80
  next =>
    split at h
    next h1 =>
      obtain ⟨rfl, rfl⟩ := h1
      cases h
      exact t243_82
    next => cases h
end TxtY
section Txt
variable {V : xmV} {L : List Nat} {Kc Ks : Nat} {H : xHp}
theorem xt_len_ok {t : Nat} {v : Int32} (h : xtLen t = some v) : HC V L Kc Ks 236 [.retAddr t] H (some (.int v)) H := t236 h
theorem xt_at_ok {t : Nat} {i v : Int32} (h : xtAt t i = some v) : HC V L Kc Ks 238 [.retAddr t, .int i] H (some (.int v)) H := t238 h
theorem xt_idx_ok {t : Nat} {i v : Int32} (h : xtIdx t i = some v) : HC V L Kc Ks 243 [.retAddr t, .int i] H (some (.int v)) H := t243 h
theorem xt_narrow {t : Nat} {i v : Int32} (h : xtAt t i = some v) : narrow .char (.int v) = .int v := xt_nar h
end Txt
