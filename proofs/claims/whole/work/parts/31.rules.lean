/-! the other rules over list heaps -/
def b01 (b : Bool) : Int32 := bif b then 1 else 0
def xsGet (xs : List Int32) (j : Int32) : Option Int32 := if j < 0 then none else xs[j.toNatClampNeg]?
def xsPut (xs : List Int32) (j v : Int32) : Option (List Int32) := if j < 0 then none else if j.toNatClampNeg < xs.length then some (xs.set j.toNatClampNeg v) else none
def xlGet (xs : List Int64) (j : Int32) : Option Int64 := if j < 0 then none else xs[j.toNatClampNeg]?
def xlPut (xs : List Int64) (j : Int32) (v : Int64) : Option (List Int64) := if j < 0 then none else if j.toNatClampNeg < xs.length then some (xs.set j.toNatClampNeg v) else none
theorem xsGet_some {xs : List Int32} {j v : Int32} (h : xsGet xs j = some v) : ¬ j < 0 ∧ xs[j.toNatClampNeg]? = some v := by
  unfold xsGet at h
  split at h
  · cases h
  · exact ⟨by assumption, h⟩
theorem xlGet_some {xs : List Int64} {j : Int32} {v : Int64} (h : xlGet xs j = some v) : ¬ j < 0 ∧ xs[j.toNatClampNeg]? = some v := by
  unfold xlGet at h
  split at h
  · cases h
  · exact ⟨by assumption, h⟩
theorem xsPut_some {xs ys : List Int32} {j v : Int32} (h : xsPut xs j v = some ys) : ¬ j < 0 ∧ j.toNatClampNeg < xs.length ∧ ys = xs.set j.toNatClampNeg v := by
  unfold xsPut at h
  split at h
  · cases h
  · split at h
    · cases h
      exact ⟨by assumption, by assumption, rfl⟩
    · cases h
theorem xlPut_some {xs ys : List Int64} {j : Int32} {v : Int64} (h : xlPut xs j v = some ys) : ¬ j < 0 ∧ j.toNatClampNeg < xs.length ∧ ys = xs.set j.toNatClampNeg v := by
  unfold xlPut at h
  split at h
  · cases h
  · split at h
    · cases h
      exact ⟨by assumption, by assumption, rfl⟩
    · cases h
theorem b01_z (b : Bool) : narrow .boolean (.int (b01 b)) = .int (b01 b) := by cases b <;> rfl
theorem b01_f (b : Bool) : fits .boolean (.int (b01 b)) = true := by cases b <;> rfl
section RulesH
variable {V : xmV} {L : List Nat} {Kc Ks k : Nat} {r : Option Value} {H H1 H' : xHp} {pc : Nat} {lv lv' : xmL} {st st' : List Value} {aux : List Nat} {idx : Nat} {x x' : xfC}
theorem h_br {i : xmI} {b : Bool} {t f : Nat} (hc : xmCd k pc = some i) (h : xmPure id i (pc, lv, st, xm0) = some (bif b then t else f, lv', st', xm0)) (e : HE V L Kc Ks k (bif b then t else f, lv', st', H) r H') : HE V L Kc Ks k (pc, lv, st, H) r H' := by
  obtain ⟨d, e⟩ := e
  exact ⟨d, xs_pure hc h e⟩
/-- a way is taken -/
theorem h_y {p : Prop} {q : Decidable p} (hp : p) {t f : Nat} (e : HE V L Kc Ks k (t, lv, st, H) r H') : HE V L Kc Ks k (bif @decide p q then t else f, lv, st, H) r H' := by
  rw [decide_eq_true hp]
  exact e
theorem h_n {p : Prop} {q : Decidable p} (hp : ¬ p) {t f : Nat} (e : HE V L Kc Ks k (f, lv, st, H) r H') : HE V L Kc Ks k (bif @decide p q then t else f, lv, st, H) r H' := by
  rw [decide_eq_false hp]
  exact e
theorem h_ts {d lo hi : Int} {os : Array Int} {n : Nat} {x : Int32} {t : Nat} (hc : xmCd k pc = some (.tableswitch d lo hi os, n, aux)) (ht : (if x.toInt < lo ∨ hi < x.toInt then ((pc : Int) + d).toNat else ((pc : Int) + os.getD (x.toInt - lo).toNat 0).toNat) = t) (e : HE V L Kc Ks k (t, lv, st, H) r H') : HE V L Kc Ks k (pc, lv, .int x :: st, H) r H' := by
  obtain ⟨d, e⟩ := e
  subst ht
  exact ⟨d, xs_pure (y := (_, lv, st, xm0)) hc rfl e⟩
theorem h_ls {d : Int} {ps : Array (Int × Int)} {n : Nat} {x : Int32} {t : Nat} (hc : xmCd k pc = some (.lookupswitch d ps, n, aux)) (ht : ((pc : Int) + Op.lookupswitch.offset ps.toList d x.toInt).toNat = t) (e : HE V L Kc Ks k (t, lv, st, H) r H') : HE V L Kc Ks k (pc, lv, .int x :: st, H) r H' := by
  obtain ⟨d, e⟩ := e
  subst ht
  exact ⟨d, xs_pure (y := (_, lv, st, xm0)) hc rfl e⟩
theorem ts_d {d lo hi : Int} {os : Array Int} {x : Int32} {t : Nat} (bad : List Int32) (hd : ((pc : Int) + d).toNat = t) (hb : ∀ j : Nat, j < (hi - lo + 1).toNat → ((pc : Int) + os.getD j 0).toNat = t ∨ Int32.ofInt (lo + j) ∈ bad) (hx : ∀ v ∈ bad, x ≠ v) : (if x.toInt < lo ∨ hi < x.toInt then ((pc : Int) + d).toNat else ((pc : Int) + os.getD (x.toInt - lo).toNat 0).toNat) = t := by
  by_cases h : x.toInt < lo ∨ hi < x.toInt
  · rw [if_pos h]
    exact hd
  · rw [if_neg h]
    rcases hb (x.toInt - lo).toNat (by omega) with h1 | h1
    · exact h1
    · refine absurd ?_ (hx _ h1)
      rw [show lo + ((x.toInt - lo).toNat : Int) = x.toInt by omega, Int32.ofInt_toInt]
theorem ls_d {d : Int} {ps : List (Int × Int)} {x : Int32} {t : Nat} (bad : List Int32) (hd : ((pc : Int) + d).toNat = t) (hb : ∀ p ∈ ps, ((pc : Int) + p.2).toNat = t ∨ Int32.ofInt p.1 ∈ bad) (hx : ∀ v ∈ bad, x ≠ v) : ((pc : Int) + Op.lookupswitch.offset ps d x.toInt).toNat = t := by
  induction ps with
  | nil => exact hd
  | cons p ps ih =>
    obtain ⟨a, o⟩ := p
    rw [Op.lookupswitch.offset_cons]
    by_cases e : a = x.toInt
    · rw [if_pos e]
      rcases hb (a, o) List.mem_cons_self with h1 | h1
      · exact h1
      · refine absurd ?_ (hx _ h1)
        rw [show (a, o).1 = x.toInt from e, Int32.ofInt_toInt]
    · rw [if_neg e]
      exact ih (fun p hp => hb p (List.mem_cons_of_mem _ hp))
theorem h_div {a b : Int32} (hc : xmCd k pc = some (.idiv, 1, aux)) (hb : ¬ b = 0) (e : HE V L Kc Ks k (pc + 1, lv, .int (a / b) :: st, H) r H') : HE V L Kc Ks k (pc, lv, .int b :: .int a :: st, H) r H' := by
  obtain ⟨d, e⟩ := e
  exact ⟨d, xs_pure (y := (_, lv, _ :: st, xm0)) hc (if_neg hb) e⟩
theorem h_rem {a b : Int32} (hc : xmCd k pc = some (.irem, 1, aux)) (hb : ¬ b = 0) (e : HE V L Kc Ks k (pc + 1, lv, .int (a - a / b * b) :: st, H) r H') : HE V L Kc Ks k (pc, lv, .int b :: .int a :: st, H) r H' := by
  obtain ⟨d, e⟩ := e
  exact ⟨d, xs_pure (y := (_, lv, _ :: st, xm0)) hc (if_neg hb) e⟩
theorem h_iald {a : Nat} {xs : List Int32} {j v : Int32} (hc : xmCd k pc = some (.iaload, 1, aux)) (hA : xL H a = (1, 0, xs, [], [])) (hv : xsGet xs j = some v) (e : HE V L Kc Ks k (pc + 1, lv, .int v :: st, H) r H') : HE V L Kc Ks k (pc, lv, .int j :: .ref a :: st, H) r H' := by
  obtain ⟨d, e⟩ := e
  obtain ⟨h0, h1⟩ := xsGet_some hv
  exact ⟨d, ea_iald (vs := xs.map Value.int) hc (by unfold xA; rw [hA]; rfl) h0 (by rw [List.getElem?_map, h1]; rfl) e⟩
theorem h_bald {a t : Nat} {xs : List Int32} {j v : Int32} (hc : xmCd k pc = some (.baload, 1, aux)) (ht : t = 3 ∨ t = 4) (hA : xL H a = (t, 0, xs, [], [])) (hv : xsGet xs j = some v) (e : HE V L Kc Ks k (pc + 1, lv, .int v :: st, H) r H') : HE V L Kc Ks k (pc, lv, .int j :: .ref a :: st, H) r H' := by
  obtain ⟨d, e⟩ := e
  obtain ⟨h0, h1⟩ := xsGet_some hv
  exact ⟨d, ea_bald (vs := xs.map Value.int) (t := t) hc (by unfold xA; rw [hA]; rcases ht with rfl | rfl <;> rfl) ht h0 (by rw [List.getElem?_map, h1]; rfl) e⟩
theorem h_lald {a : Nat} {xs : List Int64} {j : Int32} {v : Int64} (hc : xmCd k pc = some (.laload, 1, aux)) (hA : xL H a = (2, 0, [], xs, [])) (hv : xlGet xs j = some v) (e : HE V L Kc Ks k (pc + 1, lv, .long v :: st, H) r H') : HE V L Kc Ks k (pc, lv, .int j :: .ref a :: st, H) r H' := by
  obtain ⟨d, e⟩ := e
  obtain ⟨h0, h1⟩ := xlGet_some hv
  exact ⟨d, ea_lald (vs := xs.map Value.long) hc (by unfold xA; rw [hA]; rfl) h0 (by rw [List.getElem?_map, h1]; rfl) e⟩
theorem h_iast {a : Nat} {xs ys : List Int32} {j v : Int32} (hc : xmCd k pc = some (.iastore, 1, aux)) (hA : xL H a = (1, 0, xs, [], [])) (hv : xsPut xs j v = some ys) (e : HE V L Kc Ks k (pc + 1, lv, st, xS H a (1, 0, ys, [], [])) r H') : HE V L Kc Ks k (pc, lv, .int v :: .int j :: .ref a :: st, H) r H' := by
  obtain ⟨d, e⟩ := e
  obtain ⟨h0, h1, rfl⟩ := xsPut_some hv
  refine ⟨d, ea_iast (vs := xs.map Value.int) hc (by unfold xA; rw [hA]; rfl) h0 (by rw [List.length_map]; exact h1) ?_⟩
  rw [← List.map_set, show ((1, (xs.set j.toNatClampNeg v).map Value.int) : xmE) = xD (1, 0, xs.set j.toNatClampNeg v, [], []) from rfl, ← xA_S (by rw [hA]; exact (by decide : (1 : Nat) ≠ 0))]
  exact e
theorem h_last {a : Nat} {xs ys : List Int64} {j : Int32} {v : Int64} (hc : xmCd k pc = some (.lastore, 1, aux)) (hA : xL H a = (2, 0, [], xs, [])) (hv : xlPut xs j v = some ys) (e : HE V L Kc Ks k (pc + 1, lv, st, xS H a (2, 0, [], ys, [])) r H') : HE V L Kc Ks k (pc, lv, .long v :: .int j :: .ref a :: st, H) r H' := by
  obtain ⟨d, e⟩ := e
  obtain ⟨h0, h1, rfl⟩ := xlPut_some hv
  refine ⟨d, ea_last (vs := xs.map Value.long) hc (by unfold xA; rw [hA]; rfl) h0 (by rw [List.length_map]; exact h1) ?_⟩
  rw [← List.map_set, show ((2, (xs.set j.toNatClampNeg v).map Value.long) : xmE) = xD (2, 0, [], xs.set j.toNatClampNeg v, []) from rfl, ← xA_S (by rw [hA]; exact (by decide : (2 : Nat) ≠ 0))]
  exact e
theorem h_bast {a : Nat} {xs ys : List Int32} {j v : Int32} (hc : xmCd k pc = some (.bastore, 1, aux)) (hA : xL H a = (3, 0, xs, [], [])) (hv : xsPut xs j v.toInt8.toInt32 = some ys) (e : HE V L Kc Ks k (pc + 1, lv, st, xS H a (3, 0, ys, [], [])) r H') : HE V L Kc Ks k (pc, lv, .int v :: .int j :: .ref a :: st, H) r H' := by
  obtain ⟨d, e⟩ := e
  obtain ⟨h0, h1, rfl⟩ := xsPut_some hv
  refine ⟨d, ea_bast (vs := xs.map Value.int) (t := 3) hc (by unfold xA; rw [hA]; rfl) (Or.inl rfl) h0 (by rw [List.length_map]; exact h1) ?_⟩
  rw [show narrow (xmTy 3) (.int v) = .int v.toInt8.toInt32 from rfl, ← List.map_set, show ((3, (xs.set j.toNatClampNeg v.toInt8.toInt32).map Value.int) : xmE) = xD (3, 0, xs.set j.toNatClampNeg v.toInt8.toInt32, [], []) from rfl, ← xA_S (by rw [hA]; exact (by decide : (3 : Nat) ≠ 0))]
  exact e
theorem h_zast {a : Nat} {xs ys : List Int32} {j v : Int32} (hc : xmCd k pc = some (.bastore, 1, aux)) (hA : xL H a = (4, 0, xs, [], [])) (hv : xsPut xs j (v &&& 1) = some ys) (e : HE V L Kc Ks k (pc + 1, lv, st, xS H a (4, 0, ys, [], [])) r H') : HE V L Kc Ks k (pc, lv, .int v :: .int j :: .ref a :: st, H) r H' := by
  obtain ⟨d, e⟩ := e
  obtain ⟨h0, h1, rfl⟩ := xsPut_some hv
  refine ⟨d, ea_bast (vs := xs.map Value.int) (t := 4) hc (by unfold xA; rw [hA]; rfl) (Or.inr rfl) h0 (by rw [List.length_map]; exact h1) ?_⟩
  rw [show narrow (xmTy 4) (.int v) = .int (v &&& 1) from rfl, ← List.map_set, show ((4, (xs.set j.toNatClampNeg (v &&& 1)).map Value.int) : xmE) = xD (4, 0, xs.set j.toNatClampNeg (v &&& 1), [], []) from rfl, ← xA_S (by rw [hA]; exact (by decide : (4 : Nat) ≠ 0))]
  exact e
theorem h_ilen {a : Nat} {xs : List Int32} (hc : xmCd k pc = some (.arraylength, 1, aux)) (hA : xL H a = (1, 0, xs, [], [])) (e : HE V L Kc Ks k (pc + 1, lv, .int (nI xs.length) :: st, H) r H') : HE V L Kc Ks k (pc, lv, .ref a :: st, H) r H' := by
  obtain ⟨d, e⟩ := e
  refine ⟨d, ea_len (vs := xs.map Value.int) (t := 1) hc (by unfold xA; rw [hA]; rfl) (Or.inl rfl) ?_⟩
  rw [List.length_map]
  exact e
theorem h_llen {a : Nat} {xs : List Int64} (hc : xmCd k pc = some (.arraylength, 1, aux)) (hA : xL H a = (2, 0, [], xs, [])) (e : HE V L Kc Ks k (pc + 1, lv, .int (nI xs.length) :: st, H) r H') : HE V L Kc Ks k (pc, lv, .ref a :: st, H) r H' := by
  obtain ⟨d, e⟩ := e
  refine ⟨d, ea_len (vs := xs.map Value.long) (t := 2) hc (by unfold xA; rw [hA]; rfl) (Or.inr (Or.inl rfl)) ?_⟩
  rw [List.length_map]
  exact e
/-- a boolean into a field -/
theorem h_putZ {a : Nat} {fs : List Value} {b : Bool} {ty : FieldType} (hc : xmCd k pc = some (.putfield idx, 3, aux)) (hA : xL H a = (16 + aux.getD 0 0, 0, [], [], fs)) (hty : xmTyp (aux.getD 0 0) (aux.getD 1 0) = .boolean) (e : HE V L Kc Ks k (pc + 3, lv, st, xS H a (16 + aux.getD 0 0, 0, [], [], fs.set (aux.getD 1 0) (.int (b01 b)))) r H') : HE V L Kc Ks k (pc, lv, .int (b01 b) :: .ref a :: st, H) r H' := by
  obtain ⟨d, e⟩ := e
  refine ⟨d, ea_put hc (by unfold xA; rw [hA]; exact xD_obj rfl) (by rw [hty]; exact b01_z b) (by rw [hty]; exact b01_f b) ?_⟩
  rw [← xD_obj (e := (16 + aux.getD 0 0, 0, [], [], fs.set (aux.getD 1 0) (.int (b01 b)))) rfl, ← xA_S (by rw [hA]; show 16 + _ ≠ 0; omega)]
  exact e
theorem h_callO {b : Nat} {As : List Value} {r1 : Option Value} {st0 : List Value} (hc : xmCd k pc = some (.invokevirtual idx, 3, aux)) (hm : Nat.ble 99 (aux.getD 2 0) = false) (hst : st0 = As.reverse ++ .ref b :: st) (hn : As.length = aux.getD 1 0) (h8 : Nat.ble (xCat st) 8 = true) (hA : (xL H b).1 = 16 + aux.getD 2 0) (ho : HC V L Kc Ks (aux.getD 0 0) (.ref b :: As) H r1 H1) (e : HE V L Kc Ks k (pc + 3, lv, r1.toList ++ st, H1) r H') : HE V L Kc Ks k (pc, lv, st0, H) r H' := by
  obtain ⟨d1, ho⟩ := ho
  obtain ⟨d2, e⟩ := e
  exact ⟨d1 + d2, ea_callO hc hm hst hn (Nat.le_of_ble_eq_true h8) (xD_obj hA) (ho.up (Nat.le_add_right _ _)) (e.up (Nat.le_add_left _ _))⟩
theorem h_callR {b : Nat} {As : List Value} {r1 : Option Value} {st0 : List Value} (hc : xmCd k pc = some (.invokevirtual idx, 3, aux)) (hm : aux.getD 2 0 = 0) (hst : st0 = As.reverse ++ .ref b :: st) (hn : As.length = aux.getD 1 0) (h8 : Nat.ble (xCat st) 8 = true) (hA : (xL H b).1 = 7) (ho : HC V L Kc Ks (aux.getD 0 0) (.ref b :: As) H r1 H1) (e : HE V L Kc Ks k (pc + 3, lv, r1.toList ++ st, H1) r H') : HE V L Kc Ks k (pc, lv, st0, H) r H' := by
  obtain ⟨d1, ho⟩ := ho
  obtain ⟨d2, e⟩ := e
  exact ⟨d1 + d2, ea_callR hc hm hst hn (Nat.le_of_ble_eq_true h8) (xD_row hA) (ho.up (Nat.le_add_right _ _)) (e.up (Nat.le_add_left _ _))⟩
theorem h_callS {av : List Value} {r1 : Option Value} {st0 : List Value} (hc : xmCd k pc = some (.invokestatic idx, 3, aux)) (hm : Nat.ble 1000 (aux.getD 0 0) = false) (hst : st0 = av.reverse ++ st) (hn : av.length = aux.getD 1 0) (h8 : Nat.ble (xCat st) 8 = true) (ho : HC V L Kc Ks (aux.getD 0 0) av H r1 H1) (e : HE V L Kc Ks k (pc + 3, lv, r1.toList ++ st, H1) r H') : HE V L Kc Ks k (pc, lv, st0, H) r H' := by
  obtain ⟨d1, ho⟩ := ho
  obtain ⟨d2, e⟩ := e
  exact ⟨d1 + d2, ea_callS hc hm hst hn (Nat.le_of_ble_eq_true h8) (ho.up (Nat.le_add_right _ _)) (e.up (Nat.le_add_left _ _))⟩
theorem h_callT {b : Nat} {As : List Value} {r1 : Option Value} {st0 : List Value} (hc : xmCd k pc = some (.invokevirtual idx, 3, aux)) (hm : aux.getD 2 0 = 99) (hb : b < zN) (hst : st0 = As.reverse ++ .retAddr b :: st) (hn : As.length = aux.getD 1 0) (h8 : Nat.ble (xCat st) 8 = true) (ho : HC V L Kc Ks (aux.getD 0 0) (.retAddr b :: As) H r1 H1) (e : HE V L Kc Ks k (pc + 3, lv, r1.toList ++ st, H1) r H') : HE V L Kc Ks k (pc, lv, st0, H) r H' := by
  obtain ⟨d1, ho⟩ := ho
  obtain ⟨d2, e⟩ := e
  exact ⟨d1 + d2, ea_callT hc hm hb hst hn (Nat.le_of_ble_eq_true h8) (ho.up (Nat.le_add_right _ _)) (e.up (Nat.le_add_left _ _))⟩
theorem h_min {a b : Int32} (hc : xmCd k pc = some (.invokestatic idx, 3, aux)) (hm : aux.getD 0 0 = 1001) (h8 : Nat.ble (xCat st) 8 = true) (e : HE V L Kc Ks k (pc + 3, lv, .int (if b < a then b else a) :: st, H) r H') : HE V L Kc Ks k (pc, lv, .int b :: .int a :: st, H) r H' := by
  obtain ⟨d, e⟩ := e
  exact ⟨d, ea_min hc hm (Nat.le_of_ble_eq_true h8) e⟩
theorem h_iret {v : Int32} (hc : xmCd k pc = some (.ireturn, 1, aux)) (hr : xmRt k = some .int) : HE V L Kc Ks k (pc, lv, [.int v], H) (some (.int v)) H := ⟨0, ea_iret hc hr rfl⟩
theorem h_zret {b : Bool} (hc : xmCd k pc = some (.ireturn, 1, aux)) (hr : xmRt k = some .boolean) : HE V L Kc Ks k (pc, lv, [.int (b01 b)], H) (some (.int (b01 b))) H := ⟨0, ea_iret hc hr (b01_z b)⟩
theorem h_cret {v : Int32} (hc : xmCd k pc = some (.ireturn, 1, aux)) (hr : xmRt k = some .char) (hv : narrow .char (.int v) = .int v) : HE V L Kc Ks k (pc, lv, [.int v], H) (some (.int v)) H := ⟨0, ea_iret hc hr hv⟩
theorem h_lret {v : Int64} (hc : xmCd k pc = some (.lreturn, 1, aux)) (hr : xmRt k = some .long) : HE V L Kc Ks k (pc, lv, [.long v], H) (some (.long v)) H := ⟨0, ea_lret hc hr⟩
theorem h_aret {a : Nat} {n : String} (hc : xmCd k pc = some (.areturn, 1, aux)) (hr : xmRt k = some (.object n)) : HE V L Kc Ks k (pc, lv, [.ref a], H) (some (.ref a)) H := ⟨0, ea_aret hc hr (Or.inl ⟨n, rfl⟩)⟩
theorem h_tret {a : Nat} {n : String} (hc : xmCd k pc = some (.areturn, 1, aux)) (hr : xmRt k = some (.object n)) : HE V L Kc Ks k (pc, lv, [.retAddr a], H) (some (.retAddr a)) H := ⟨0, ea_tret hc hr (Or.inl ⟨n, rfl⟩)⟩
theorem h_vret (hc : xmCd k pc = some (.return_, 1, aux)) (hr : xmRt k = none) : HE V L Kc Ks k (pc, lv, [], H) none H := ⟨0, ea_vret hc hr⟩
theorem hc_of {av : List Value} (hk : k < xmCount) (hl : Nat.ble (lg_sl av).length (xmML k) = true) (h : HE V L Kc Ks k (0, lv_args 0 av, [], H) r H') : HC V L Kc Ks k av H r H' := by
  obtain ⟨d, h⟩ := h
  exact ⟨d + 1, xmCA_of hk (Nat.le_of_ble_eq_true hl) h⟩
/-- copyFrom and sum of rows -/
theorem h_copy {a b : Nat} {mo mo2 : Nat} {xs ys : List Int32} (hA : xL H a = (7, mo, xs, [], [])) (hB : xL H b = (7, mo2, ys, [], [])) (hab : b ≠ a) (hm : Nat.ble mo 65536 = true) (hy : ys.length ≤ mo) : HC V L Kc Ks 9 [.ref a, .ref b] H none (xS H a (7, mo, ys, [], [])) := by
  refine ⟨0 + 3, ?_⟩
  rw [xA_S (by rw [hA]; exact (by decide : (7 : Nat) ≠ 0))]
  exact row_copy (by unfold xA; rw [hA]; rfl) (by unfold xA; rw [hB]; rfl) hab (Nat.le_of_ble_eq_true hm) hy
theorem h_sum {a : Nat} {mo : Nat} {xs : List Int32} (hA : xL H a = (7, mo, xs, [], [])) (hx : xs.length < 2 ^ 30) : HC V L Kc Ks 10 [.ref a] H (some (.int (xs.foldl (fun x y => x + y) 0))) H := ⟨0 + 2, row_sum (by unfold xA; rw [hA]; rfl) hx⟩
end RulesH
/-! states: rows and int arrays, ints, longs, long arrays, booleans; the programs' rows and names -/
abbrev xSt : Type := (Nat → List Int32) × (Nat → Int32) × (Nat → Int64) × (Nat → List Int64) × (Nat → Bool) × (Bool → Nat → List Int32) × (Bool → List Int64)
def bUp {α : Type} (f : Nat → α) (a : Nat) (x : α) : Nat → α := fun j => bif Nat.beq j a then x else f j
def zUp {α : Type} (f : Bool → α) (a : Bool) (x : α) : Bool → α := fun j => bif Bool.xor j a then f j else x
def gR (s : xSt) (i : Nat) : List Int32 := s.1 i
def gI (s : xSt) (i : Nat) : Int32 := s.2.1 i
def gJ (s : xSt) (i : Nat) : Int64 := s.2.2.1 i
def gL (s : xSt) (i : Nat) : List Int64 := s.2.2.2.1 i
def gZ (s : xSt) (i : Nat) : Bool := s.2.2.2.2.1 i
def gP (s : xSt) (z : Bool) (i : Nat) : List Int32 := s.2.2.2.2.2.1 z i
def gN (s : xSt) (z : Bool) : List Int64 := s.2.2.2.2.2.2 z
def sR (s : xSt) (i : Nat) (v : List Int32) : xSt := (bUp s.1 i v, s.2)
def sI (s : xSt) (i : Nat) (v : Int32) : xSt := (s.1, bUp s.2.1 i v, s.2.2)
def sJ (s : xSt) (i : Nat) (v : Int64) : xSt := (s.1, s.2.1, bUp s.2.2.1 i v, s.2.2.2)
def sL (s : xSt) (i : Nat) (v : List Int64) : xSt := (s.1, s.2.1, s.2.2.1, bUp s.2.2.2.1 i v, s.2.2.2.2)
def sZ (s : xSt) (i : Nat) (v : Bool) : xSt := (s.1, s.2.1, s.2.2.1, s.2.2.2.1, bUp s.2.2.2.2.1 i v, s.2.2.2.2.2)
def sP (s : xSt) (z : Bool) (i : Nat) (v : List Int32) : xSt := (s.1, s.2.1, s.2.2.1, s.2.2.2.1, s.2.2.2.2.1, zUp s.2.2.2.2.2.1 z (bUp (s.2.2.2.2.2.1 z) i v), s.2.2.2.2.2.2)
def sN (s : xSt) (z : Bool) (v : List Int64) : xSt := (s.1, s.2.1, s.2.2.1, s.2.2.2.1, s.2.2.2.2.1, s.2.2.2.2.2.1, zUp s.2.2.2.2.2.2 z v)
def pa (z : Bool) : Nat := bif z then 23 else 1
