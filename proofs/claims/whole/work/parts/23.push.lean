theorem xmUp_same {α : Type} (f : Nat → α) (a : Nat) {x : α} (h : f a = x) : xmUp f a x = f := by
  funext j
  unfold xmUp
  split
  next e => rw [e, h]
  next => rfl
theorem cpy_grow (vs : List Value) {m : Nat} (v0 : Value) (h : vs.length ≤ m) : xmCpy vs (List.replicate m v0) 0 0 vs.length = vs ++ List.replicate (m - vs.length) v0 := by
  refine List.ext_getElem? (fun j => ?_)
  unfold xmCpy
  rw [List.length_replicate, List.getElem?_map]
  by_cases hj : j < m
  · rw [List.getElem?_range hj]
    show some (va_cpy _ _ 0 0 vs.length j) = _
    unfold va_cpy
    by_cases h1 : j < vs.length
    · rw [if_pos ⟨Nat.zero_le _, by omega⟩, List.getElem?_append_left h1]
      show some (vs.getD (0 + (j - 0)) .null) = _
      rw [show 0 + (j - 0) = j by omega, List.getD_eq_getElem?_getD, List.getElem?_eq_getElem h1]
      rfl
    · rw [if_neg (fun z => h1 (by omega)), List.getElem?_append_right (by omega)]
      show some ((List.replicate m v0).getD j .null) = _
      rw [List.getD_eq_getElem?_getD, List.getElem?_replicate, List.getElem?_replicate, if_pos hj, if_pos (by omega)]
      rfl
  · rw [List.getElem?_eq_none (by rw [List.length_range]; omega), List.getElem?_eq_none (by rw [List.length_append, List.length_replicate]; omega)]
    rfl
/-- Arrays.copyOf(int[], m) that makes it longer -/
theorem ev_copyOf {V : xmV} {d : Nat} {G : xmH} {b m : Nat} {ys : List Int32} (hb : G.1 b = (1, ys.map Value.int)) (hlt : b < G.2.1) (h1 : ys.length < m) (h2 : m ≤ 65536) :
    xmCall V (d + 1) 235 [.ref b, .int (nI m)] G (some (.ref G.2.1)) (xmUp G.1 G.2.1 (1, (ys ++ List.replicate (m - ys.length) 0).map Value.int), G.2.1 + 1, G.2.2 + m) := by
  refine xmCall_of (by decide) (Nat.le_of_ble_eq_true rfl) ?_
  refine ev_it 2 (x' := (2, [(0, .ref b), (1, .int (nI m))], [.ref b, .int (nI m)], G)) rfl ?_
  refine ev_len rfl hb (Or.inl rfl) ?_
  rw [List.length_map]
  refine ev_br rfl rfl (fun h3 => ?_) (fun h3 => ?_)
  · refine ev_it 1 (x' := (15, [(0, .ref b), (1, .int (nI m))], [.int (nI m)], G)) rfl ?_
    refine ev_newa rfl (nI_pos (by omega)) (by rw [nI_clamp (by omega)]; exact Nat.le_trans h2 (by decide)) ?_
    rw [nI_clamp (by omega)]
    refine ev_it 5 (x' := (22, [(2, .ref G.2.1), (0, .ref b), (1, .int (nI m))], [.int 0, .ref G.2.1, .int 0, .ref b], (xmUp G.1 G.2.1 (1, List.replicate m (.int 0)), G.2.1 + 1, G.2.2 + m))) rfl ?_
    have hbn : b ≠ G.2.1 := by omega
    have g1 : ((xmUp G.1 G.2.1 (1, List.replicate m (Value.int 0)), G.2.1 + 1, G.2.2 + m) : xmH).1 b = (1, ys.map Value.int) := (xmUp_ne _ _ hbn).trans hb
    have g2 : ((xmUp G.1 G.2.1 (1, List.replicate m (Value.int 0)), G.2.1 + 1, G.2.2 + m) : xmH).1 G.2.1 = (1, List.replicate m (Value.int 0)) := xmUp_self _ _ _
    refine ev_it 1 (x' := (23, [(2, .ref G.2.1), (0, .ref b), (1, .int (nI m))], [.ref b, .int 0, .ref G.2.1, .int 0, .ref b], (xmUp G.1 G.2.1 (1, List.replicate m (.int 0)), G.2.1 + 1, G.2.2 + m))) rfl ?_
    refine ev_len rfl g1 (Or.inl rfl) ?_
    rw [List.length_map]
    refine ev_it 1 (x' := (25, [(2, .ref G.2.1), (0, .ref b), (1, .int (nI m))], [.int (nI m), .int (nI ys.length), .int 0, .ref G.2.1, .int 0, .ref b], (xmUp G.1 G.2.1 (1, List.replicate m (.int 0)), G.2.1 + 1, G.2.2 + m))) rfl ?_
    refine ev_min rfl rfl (Nat.le_of_ble_eq_true rfl) ?_
    rw [if_neg (nI_nlt (by omega) (by omega))]
    refine ev_cpy rfl rfl g1 g2 (fun v hv => by obtain ⟨z, -, e⟩ := List.mem_map.mp hv; exact ⟨z, e.symm⟩) (by decide) (by decide) (nI_pos (by omega)) ?_ ?_ (Nat.le_of_ble_eq_true rfl) ?_
    · rw [nI_clamp (by omega), List.length_map, show (0 : Int32).toNatClampNeg = 0 from rfl]; omega
    · rw [nI_clamp (by omega), List.length_replicate, show (0 : Int32).toNatClampNeg = 0 from rfl]; omega
    · have e1 : xmCpy (ys.map Value.int) (List.replicate m (Value.int 0)) (0 : Int32).toNatClampNeg (0 : Int32).toNatClampNeg (nI ys.length).toNatClampNeg = (ys ++ List.replicate (m - ys.length) 0).map Value.int := by
        rw [nI_clamp (by omega), show (0 : Int32).toNatClampNeg = 0 from rfl]
        have h9 := cpy_grow (ys.map Value.int) (m := m) (.int 0) (by rw [List.length_map]; omega)
        rw [List.length_map] at h9
        rw [h9, List.map_append, List.map_replicate]
      rw [e1]
      have e2 : xmUp (xmUp G.1 G.2.1 (1, List.replicate m (Value.int 0))) G.2.1 (1, (ys ++ List.replicate (m - ys.length) 0).map Value.int) = xmUp G.1 G.2.1 (1, (ys ++ List.replicate (m - ys.length) 0).map Value.int) := by
        funext j
        unfold xmUp
        split <;> rfl
      dsimp only
      rw [e2]
      refine ev_it 1 (x' := (32, [(2, .ref G.2.1), (0, .ref b), (1, .int (nI m))], [.ref G.2.1], (xmUp G.1 G.2.1 (1, (ys ++ List.replicate (m - ys.length) 0).map Value.int), G.2.1 + 1, G.2.2 + m))) rfl ?_
      exact ev_aret rfl rfl (Or.inr ⟨_, rfl⟩)
  · have h3 : ¬ ¬ nI m = nI ys.length := of_decide_eq_false h3
    exact absurd (fun z => by rw [nI_eq (by omega) (by omega)] at z; omega) h3
section Push
variable {V : xmV} {L : List Nat} {Kc Ks d : Nat} {A : Nat → xmE} {a mo : Nat} {xs : List Int32}
theorem set_int (xs jk : List Int32) (v : Int32) (h : jk ≠ []) : ((xs ++ jk).map Value.int).set xs.length (.int v) = ((xs ++ [v]) ++ jk.tail).map Value.int := by
  cases jk with
  | nil => exact absurd rfl h
  | cons j jk =>
    rw [← List.map_set, List.set_append_right _ _ (Nat.le_refl _), Nat.sub_self]
    simp
/-- the tail of push: the array has a place left -/
theorem push_in {G : xmH} {w : Nat} {jk : List Int32} {cpw : Nat} (e1 : G.1 a = (16, [.int (nI mo), .ref w, .int (nI xs.length)])) (e2 : G.1 w = (1, (xs ++ jk).map Value.int)) (e3 : (xs ++ jk).length = cpw) (hc : xs.length < cpw) (hb : cpw ≤ 65536) (hw : w ≠ a) (v : Int32) {O : xmO} :
    xmEv V O 2 (49, [(0, .ref a), (1, .int v)], [], G) none (xmUp (xmUp G.1 w (1, ((xs ++ [v]) ++ jk.tail).map Value.int)) a (16, [.int (nI mo), .ref w, .int (nI (xs ++ [v]).length)]), G.2) := by
  have hj : jk ≠ [] := fun z => by rw [z, List.append_nil] at e3; omega
  refine ev_it 1 (x' := (50, [(0, .ref a), (1, .int v)], [.ref a], G)) rfl ?_
  refine ev_get rfl rfl e1 rfl ?_
  refine ev_it 1 (x' := (54, [(0, .ref a), (1, .int v)], [.ref a, .int (nI xs.length)], G)) rfl ?_
  refine ev_get rfl rfl e1 rfl ?_
  refine ev_len rfl e2 (Or.inl rfl) ?_
  rw [List.length_map, e3]
  refine ev_br rfl rfl (fun h => ?_) (fun h => ?_)
  · have h : nI cpw ≤ nI xs.length := of_decide_eq_true h
    rw [nI_leI (by omega) (by omega)] at h
    omega
  · refine ev_it 1 (x' := (62, [(0, .ref a), (1, .int v)], [.ref a], G)) rfl ?_
    refine ev_get rfl rfl e1 rfl ?_
    refine ev_it 1 (x' := (66, [(0, .ref a), (1, .int v)], [.ref a, .ref w], G)) rfl ?_
    refine ev_get rfl rfl e1 rfl ?_
    refine ev_it 1 (x' := (70, [(0, .ref a), (1, .int v)], [.int v, .int (nI xs.length), .ref w], G)) rfl ?_
    refine ev_iast rfl e2 (nI_pos (by omega)) (by rw [nI_clamp (by omega), List.length_map, e3]; exact hc) ?_
    rw [nI_clamp (by omega), set_int xs jk v hj]
    have g1 : ((xmUp G.1 w (1, ((xs ++ [v]) ++ jk.tail).map Value.int), G.2) : xmH).1 a = (16, [.int (nI mo), .ref w, .int (nI xs.length)]) := (xmUp_ne _ _ (Ne.symm hw)).trans e1
    refine ev_it 2 (x' := (73, [(0, .ref a), (1, .int v)], [.ref a, .ref a], (xmUp G.1 w (1, ((xs ++ [v]) ++ jk.tail).map Value.int), G.2))) rfl ?_
    refine ev_get rfl rfl g1 rfl ?_
    refine ev_it 2 (x' := (78, [(0, .ref a), (1, .int v)], [.int (nI xs.length + 1), .ref a], (xmUp G.1 w (1, ((xs ++ [v]) ++ jk.tail).map Value.int), G.2))) rfl ?_
    refine ev_put rfl g1 rfl rfl ?_
    have e : nI xs.length + 1 = nI (xs ++ [v]).length := by rw [nI_1, List.length_append]; rfl
    rw [e]
    exact ev_vret rfl rfl
theorem row_push (hA : A a = xrow mo xs) (hm : mo ≤ 65536) (v : Int32) : xmCA V L Kc Ks (d + 2) 2 [.ref a, .int v] A none (xmUp A a (xrow mo (if xs.length < mo then xs ++ [v] else xs))) := by
  intro G hG
  obtain ⟨mo0, ow, cp, h⟩ := hG
  obtain ⟨hL, hmm, jk, e1, e2, e3, e4, e5, e6, e7, e8⟩ := xm_row h hA
  have hmo : mo0 a = mo := by rw [nI_eq (by omega) (by omega)] at hmm; exact hmm
  rw [hmo] at e1 e5
  have hx : xs.length ≤ cp a := by rw [← e3, List.length_append]; omega
  by_cases hf : xs.length < mo
  · rw [if_pos hf]
    by_cases hc : xs.length < cp a
    · refine ⟨(xmUp (xmUp G.1 (ow a) (1, ((xs ++ [v]) ++ jk.tail).map Value.int)) a (16, [.int (nI mo), .ref (ow a), .int (nI (xs ++ [v]).length)]), G.2), ?_, xmCall_of (by decide) (Nat.le_of_ble_eq_true rfl) ?_⟩
      · have hj : jk ≠ [] := fun z => by rw [z, List.append_nil] at e3; omega
        have hl : ((xs ++ [v]) ++ jk.tail).length = cp a := by
          rw [← e3]
          cases jk with
          | nil => exact absurd rfl hj
          | cons j jk => simp
        have h9 := xmAw.row (b := ow a) (xs' := xs ++ [v]) (jk' := jk.tail) (G' := (xmUp (xmUp G.1 (ow a) (1, ((xs ++ [v]) ++ jk.tail).map Value.int)) a (16, [.int (nI mo), .ref (ow a), .int (nI (xs ++ [v]).length)]), G.2)) h hL
          (by rw [hmo]; exact xmUp_self _ _ _) ((xmUp_ne _ _ e8).trans (xmUp_self _ _ _)) (by rw [hl]; exact e4) (by rw [hl, hmo]; exact e5) (Or.inl ⟨rfl, rfl⟩) (fun q h1 h2 => by show xmUp _ _ _ q = _; rw [xmUp_ne _ _ h1, xmUp_ne _ _ h2]) (by rw [hl]; exact Nat.le_refl _) (by rw [hl]; exact Nat.le_refl _)
        rw [hmo] at h9
        exact h9
      · refine ev_it 1 (x' := (1, [(0, .ref a), (1, .int v)], [.ref a], G)) rfl ?_
        refine ev_get rfl rfl e1 rfl ?_
        refine ev_it 1 (x' := (5, [(0, .ref a), (1, .int v)], [.ref a, .int (nI xs.length)], G)) rfl ?_
        refine ev_get rfl rfl e1 rfl ?_
        refine ev_br rfl rfl (fun h1 => ?_) (fun h1 => ?_)
        · refine ev_it 1 (x' := (13, [(0, .ref a), (1, .int v)], [.ref a], G)) rfl ?_
          refine ev_get rfl rfl e1 rfl ?_
          refine ev_it 1 (x' := (17, [(0, .ref a), (1, .int v)], [.ref a, .int (nI xs.length)], G)) rfl ?_
          refine ev_get rfl rfl e1 rfl ?_
          refine ev_len rfl e2 (Or.inl rfl) ?_
          rw [List.length_map, e3]
          refine ev_br rfl rfl (fun h2 => ?_) (fun h2 => ?_)
          · exact push_in e1 e2 e3 hc (by omega) e8 v
          · have h2 : ¬ nI xs.length < nI (cp a) := of_decide_eq_false h2
            rw [nI_ltI (by omega) (by omega)] at h2
            omega
        · have h1 : ¬ nI xs.length < nI mo := of_decide_eq_false h1
          rw [nI_ltI (by omega) (by omega)] at h1
          omega
    · have hxc : xs.length = cp a := by omega
      have hjk : jk = [] := by
        rw [List.length_append] at e3
        exact List.length_eq_zero_iff.mp (by omega)
      subst hjk
      rw [List.append_nil] at e2
      obtain ⟨m, hmin, hm1, hm2, hm3⟩ : ∃ m, (if nI (cp a) * 2 < nI mo then nI (cp a) * 2 else nI mo) = nI m ∧ cp a < m ∧ m ≤ mo ∧ (m = 2 * cp a ∨ m = mo) := by
        have e9 : nI (cp a) * 2 = nI (2 * cp a) := by rw [Nat.mul_comm]; exact pk_mul (cp a) 2
        rw [e9]
        by_cases z : 2 * cp a < mo
        · exact ⟨2 * cp a, if_pos (nI_lt z (by omega)), by omega, by omega, Or.inl rfl⟩
        · exact ⟨mo, if_neg (nI_nlt (by omega) (by omega)), by omega, Nat.le_refl _, Or.inr rfl⟩
      have hage : a < G.2.1 := (h.2.2.2.2.1 a (by rw [hA]; exact (by decide : (7 : Nat) ≠ 0))).1
      have hqa : G.2.1 ≠ a := by omega
      have hlen : (xs ++ List.replicate (m - xs.length) (0 : Int32)).length = m := by rw [List.length_append, List.length_replicate]; omega
      have g2 : ((xmUp (xmUp G.1 G.2.1 (1, (xs ++ List.replicate (m - xs.length) 0).map Value.int)) a (16, [.int (nI mo), .ref G.2.1, .int (nI xs.length)]), G.2.1 + 1, G.2.2 + m) : xmH).1 G.2.1 = (1, (xs ++ List.replicate (m - xs.length) 0).map Value.int) := (xmUp_ne _ _ hqa).trans (xmUp_self _ _ _)
      refine ⟨(xmUp (xmUp (xmUp (xmUp G.1 G.2.1 (1, (xs ++ List.replicate (m - xs.length) 0).map Value.int)) a (16, [.int (nI mo), .ref G.2.1, .int (nI xs.length)])) G.2.1 (1, ((xs ++ [v]) ++ (List.replicate (m - xs.length) (0 : Int32)).tail).map Value.int)) a (16, [.int (nI mo), .ref G.2.1, .int (nI (xs ++ [v]).length)]), G.2.1 + 1, G.2.2 + m), ?_, xmCall_of (by decide) (Nat.le_of_ble_eq_true rfl) ?_⟩
      · have hl : ((xs ++ [v]) ++ (List.replicate (m - xs.length) (0 : Int32)).tail).length = m := by
          rw [List.length_append, List.length_append, List.length_tail, List.length_replicate]
          show xs.length + 1 + _ = m
          omega
        have h9 := xmAw.row (b := G.2.1) (xs' := xs ++ [v]) (jk' := (List.replicate (m - xs.length) (0 : Int32)).tail) (G' := (xmUp (xmUp (xmUp (xmUp G.1 G.2.1 (1, (xs ++ List.replicate (m - xs.length) 0).map Value.int)) a (16, [.int (nI mo), .ref G.2.1, .int (nI xs.length)])) G.2.1 (1, ((xs ++ [v]) ++ (List.replicate (m - xs.length) (0 : Int32)).tail).map Value.int)) a (16, [.int (nI mo), .ref G.2.1, .int (nI (xs ++ [v]).length)]), G.2.1 + 1, G.2.2 + m)) h hL
          (by rw [hmo]; exact xmUp_self _ _ _) ((xmUp_ne _ _ hqa).trans (xmUp_self _ _ _)) (by rw [hl]; omega) (by rw [hl, hmo]; exact hm2) (Or.inr ⟨rfl, rfl⟩) (fun q h1 h2 => by show xmUp _ _ _ q = _; rw [xmUp_ne _ _ h1, xmUp_ne _ _ h2, xmUp_ne _ _ h1, xmUp_ne _ _ h2])
          (by rw [hl, hmo]; show G.2.1 + 1 + _ ≤ _; omega)
          (by
            rw [hl, hmo]
            show G.2.2 + m + _ ≤ _
            have hlt : cp a < mo := by omega
            unfold xphi
            rw [if_pos hlt]
            split
            next hz => rcases hm3 with z | z <;> omega
            next hz => omega)
        rw [hmo] at h9
        exact h9
      · refine ev_it 1 (x' := (1, [(0, .ref a), (1, .int v)], [.ref a], G)) rfl ?_
        refine ev_get rfl rfl e1 rfl ?_
        refine ev_it 1 (x' := (5, [(0, .ref a), (1, .int v)], [.ref a, .int (nI xs.length)], G)) rfl ?_
        refine ev_get rfl rfl e1 rfl ?_
        refine ev_br rfl rfl (fun h1 => ?_) (fun h1 => ?_)
        · refine ev_it 1 (x' := (13, [(0, .ref a), (1, .int v)], [.ref a], G)) rfl ?_
          refine ev_get rfl rfl e1 rfl ?_
          refine ev_it 1 (x' := (17, [(0, .ref a), (1, .int v)], [.ref a, .int (nI xs.length)], G)) rfl ?_
          refine ev_get rfl rfl e1 rfl ?_
          refine ev_len rfl e2 (Or.inl rfl) ?_
          rw [List.length_map]
          refine ev_br rfl rfl (fun h2 => ?_) (fun h2 => ?_)
          · have h2 : nI xs.length < nI xs.length := of_decide_eq_true h2
            rw [nI_ltI (by omega) (by omega)] at h2
            omega
          · refine ev_it 2 (x' := (26, [(0, .ref a), (1, .int v)], [.ref a, .ref a], G)) rfl ?_
            refine ev_get rfl rfl e1 rfl ?_
            refine ev_it 1 (x' := (30, [(0, .ref a), (1, .int v)], [.ref a, .ref (ow a), .ref a], G)) rfl ?_
            refine ev_get rfl rfl e1 rfl ?_
            refine ev_it 1 (x' := (34, [(0, .ref a), (1, .int v)], [.ref a, .int (nI mo), .ref (ow a), .ref a], G)) rfl ?_
            refine ev_get rfl rfl e1 rfl ?_
            refine ev_len rfl e2 (Or.inl rfl) ?_
            rw [List.length_map]
            rw [← hxc] at hmin
            refine ev_it 2 (x' := (40, [(0, .ref a), (1, .int v)], [.int (nI xs.length * 2), .int (nI mo), .ref (ow a), .ref a], G)) rfl ?_
            refine ev_min rfl rfl (Nat.le_of_ble_eq_true rfl) ?_
            rw [hmin]
            refine ev_callS (av := [.ref (ow a), .int (nI m)]) (st := [.ref a]) rfl (by decide) rfl rfl (Nat.le_of_ble_eq_true rfl) (ev_copyOf e2 e7 (by omega) (by omega)) ?_
            have g1 : ((xmUp G.1 G.2.1 (1, (xs ++ List.replicate (m - xs.length) 0).map Value.int), G.2.1 + 1, G.2.2 + m) : xmH).1 a = (16, [.int (nI mo), .ref (ow a), .int (nI xs.length)]) := (xmUp_ne _ _ (Ne.symm hqa)).trans e1
            refine ev_put (v := .ref G.2.1) rfl g1 rfl rfl ?_
            exact push_in (xmUp_self _ _ _) g2 hlen (by omega) (by omega) hqa v
        · have h1 : ¬ nI xs.length < nI mo := of_decide_eq_false h1
          rw [nI_ltI (by omega) (by omega)] at h1
          omega
  · rw [if_neg hf, xmUp_same A a hA]
    refine ⟨G, ⟨mo0, ow, cp, h⟩, xmCall_of (by decide) (Nat.le_of_ble_eq_true rfl) ?_⟩
    refine ev_it 1 (x' := (1, [(0, .ref a), (1, .int v)], [.ref a], G)) rfl ?_
    refine ev_get rfl rfl e1 rfl ?_
    refine ev_it 1 (x' := (5, [(0, .ref a), (1, .int v)], [.ref a, .int (nI xs.length)], G)) rfl ?_
    refine ev_get rfl rfl e1 rfl ?_
    refine ev_br rfl rfl (fun h1 => ?_) (fun h1 => ?_)
    · have h1 : nI xs.length < nI mo := of_decide_eq_true h1
      rw [nI_ltI (by omega) (by omega)] at h1
      omega
    · exact ev_vret rfl rfl
end Push
