section Rows2
variable {V : xmV} {L : List Nat} {Kc Ks d : Nat} {A : Nat → xmE} {a mo : Nat} {xs : List Int32}
theorem xs_len_set (xs : List Int32) (i v : Int32) : (xsSet xs i v).length = xs.length := by
  unfold xsSet
  split
  · rfl
  · rw [List.length_set]
theorem row_set (hA : A a = xrow mo xs) (hm : mo ≤ 65536) (i v : Int32) : xmCA V L Kc Ks (d + 1) 7 [.ref a, .int i, .int v] A none (xmUp A a (xrow mo (xsSet xs i v))) := by
  intro G hG
  obtain ⟨mo0, ow, cp, h⟩ := hG
  obtain ⟨hL, hmm, jk, e1, e2, e3, e4, e5, e6, e7, e8⟩ := xm_row h hA
  have hmo : mo0 a = mo := by rw [nI_eq (by omega) (by omega)] at hmm; exact hmm
  have hx : xs.length ≤ cp a := by rw [← e3, List.length_append]; omega
  have hsame : ∀ (he : xsSet xs i v = xs), xmAb L Kc Ks (xmUp A a (xrow mo (xsSet xs i v))) G := fun he => by
    rw [he, xmUp_same A a hA]
    exact ⟨mo0, ow, cp, h⟩
  by_cases h1 : i < 0
  · refine ⟨G, hsame (if_pos h1), xmCall_of (by decide) (Nat.le_of_ble_eq_true rfl) ?_⟩
    refine ev_it 1 (x' := (1, [(0, .ref a), (1, .int i), (2, .int v)], [.int i], G)) rfl ?_
    refine ev_br rfl rfl (fun h2 => ?_) (fun h2 => ?_)
    · exact ev_vret rfl rfl
    · exact absurd h1 (of_decide_eq_false h2)
  · obtain ⟨j, hj, rfl⟩ := nI_of h1
    by_cases h3 : j < xs.length
    · refine ⟨(xmUp G.1 (ow a) (1, (xs.set j v ++ jk).map Value.int), G.2), ?_, xmCall_of (by decide) (Nat.le_of_ble_eq_true rfl) ?_⟩
      · have e9 : xsSet xs (nI j) v = xs.set j v := by rw [xsSet, if_neg h1, nI_clamp hj]
        rw [e9]
        have hl : (xs.set j v ++ jk).length = cp a := by rw [← e3, List.length_append, List.length_append, List.length_set]
        have h9 := xmAw.row (b := ow a) (xs' := xs.set j v) (jk' := jk) (G' := (xmUp G.1 (ow a) (1, (xs.set j v ++ jk).map Value.int), G.2)) h hL
          (by rw [List.length_set]; exact (xmUp_ne _ _ (Ne.symm e8)).trans e1) (xmUp_self _ _ _) (by rw [hl]; exact e4) (by rw [hl]; exact e5) (Or.inl ⟨rfl, rfl⟩) (fun q g1 g2 => xmUp_ne _ _ g2) (by rw [hl]; exact Nat.le_refl _) (by rw [hl]; exact Nat.le_refl _)
        rw [hmo] at h9
        exact h9
      · refine ev_it 1 (x' := (1, [(0, .ref a), (1, .int (nI j)), (2, .int v)], [.int (nI j)], G)) rfl ?_
        refine ev_br rfl rfl (fun h2 => ?_) (fun h2 => ?_)
        · exact absurd (of_decide_eq_true h2) h1
        · refine ev_it 2 (x' := (6, [(0, .ref a), (1, .int (nI j)), (2, .int v)], [.ref a, .int (nI j)], G)) rfl ?_
          refine ev_get rfl rfl e1 rfl ?_
          refine ev_br rfl rfl (fun h4 => ?_) (fun h4 => ?_)
          · have h4 : nI xs.length ≤ nI j := of_decide_eq_true h4
            rw [nI_leI (by omega) hj] at h4
            omega
          · refine ev_it 2 (x' := (14, [(0, .ref a), (1, .int (nI j)), (2, .int v)], [.ref a, .int (nI j)], G)) rfl ?_
            refine ev_get rfl rfl e1 rfl ?_
            refine ev_len rfl e2 (Or.inl rfl) ?_
            rw [List.length_map, e3]
            refine ev_br rfl rfl (fun h5 => ?_) (fun h5 => ?_)
            · have h5 : nI (cp a) ≤ nI j := of_decide_eq_true h5
              rw [nI_leI (by omega) hj] at h5
              omega
            · refine ev_it 1 (x' := (22, [(0, .ref a), (1, .int (nI j)), (2, .int v)], [.ref a], G)) rfl ?_
              refine ev_get rfl rfl e1 rfl ?_
              refine ev_it 2 (x' := (27, [(0, .ref a), (1, .int (nI j)), (2, .int v)], [.int v, .int (nI j), .ref (ow a)], G)) rfl ?_
              refine ev_iast rfl e2 h1 (by rw [nI_clamp hj, List.length_map, e3]; omega) ?_
              rw [nI_clamp hj]
              have e9 : ((xs ++ jk).map Value.int).set j (.int v) = (xs.set j v ++ jk).map Value.int := by rw [← List.map_set, List.set_append_left _ _ h3]
              rw [e9]
              exact ev_vret rfl rfl
    · refine ⟨G, hsame (by rw [xsSet, if_neg h1, nI_clamp hj, List.set_eq_of_length_le (by omega)]), xmCall_of (by decide) (Nat.le_of_ble_eq_true rfl) ?_⟩
      refine ev_it 1 (x' := (1, [(0, .ref a), (1, .int (nI j)), (2, .int v)], [.int (nI j)], G)) rfl ?_
      refine ev_br rfl rfl (fun h2 => ?_) (fun h2 => ?_)
      · exact absurd (of_decide_eq_true h2) h1
      · refine ev_it 2 (x' := (6, [(0, .ref a), (1, .int (nI j)), (2, .int v)], [.ref a, .int (nI j)], G)) rfl ?_
        refine ev_get rfl rfl e1 rfl ?_
        refine ev_br rfl rfl (fun h4 => ?_) (fun h4 => ?_)
        · exact ev_vret rfl rfl
        · have h4 : ¬ nI xs.length ≤ nI j := of_decide_eq_false h4
          rw [nI_leI (by omega) hj] at h4
          omega
/-- what cut leaves -/
def xsCut (xs : List Int32) (n : Int32) : List Int32 := if n < 0 then xs else xs.take n.toNatClampNeg
theorem row_cut (hA : A a = xrow mo xs) (hm : mo ≤ 65536) (n : Int32) : xmCA V L Kc Ks (d + 1) 3 [.ref a, .int n] A none (xmUp A a (xrow mo (xsCut xs n))) := by
  intro G hG
  obtain ⟨mo0, ow, cp, h⟩ := hG
  obtain ⟨hL, hmm, jk, e1, e2, e3, e4, e5, e6, e7, e8⟩ := xm_row h hA
  have hmo : mo0 a = mo := by rw [nI_eq (by omega) (by omega)] at hmm; exact hmm
  have hx : xs.length ≤ cp a := by rw [← e3, List.length_append]; omega
  have hsame : ∀ (he : xsCut xs n = xs), xmAb L Kc Ks (xmUp A a (xrow mo (xsCut xs n))) G := fun he => by
    rw [he, xmUp_same A a hA]
    exact ⟨mo0, ow, cp, h⟩
  by_cases h1 : n < 0
  · refine ⟨G, hsame (if_pos h1), xmCall_of (by decide) (Nat.le_of_ble_eq_true rfl) ?_⟩
    refine ev_it 1 (x' := (1, [(0, .ref a), (1, .int n)], [.int n], G)) rfl ?_
    refine ev_br rfl rfl (fun h2 => ?_) (fun h2 => ?_)
    · exact ev_vret rfl rfl
    · exact absurd h1 (of_decide_eq_false h2)
  · obtain ⟨j, hj, rfl⟩ := nI_of h1
    by_cases h3 : j < xs.length
    · refine ⟨(xmUp G.1 a (16, [.int (nI (mo0 a)), .ref (ow a), .int (nI j)]), G.2), ?_, xmCall_of (by decide) (Nat.le_of_ble_eq_true rfl) ?_⟩
      · have e9 : xsCut xs (nI j) = xs.take j := by rw [xsCut, if_neg h1, nI_clamp hj]
        rw [e9]
        have hlt : (xs.take j).length = j := by rw [List.length_take]; omega
        have e10 : xs.take j ++ (xs.drop j ++ jk) = xs ++ jk := by rw [← List.append_assoc, List.take_append_drop]
        have hl : (xs.take j ++ (xs.drop j ++ jk)).length = cp a := by rw [e10]; exact e3
        have h9 := xmAw.row (b := ow a) (xs' := xs.take j) (jk' := xs.drop j ++ jk) (G' := (xmUp G.1 a (16, [.int (nI (mo0 a)), .ref (ow a), .int (nI j)]), G.2)) h hL
          (by rw [hlt]; exact xmUp_self _ _ _) (by rw [e10]; exact (xmUp_ne _ _ e8).trans e2) (by rw [hl]; exact e4) (by rw [hl]; exact e5) (Or.inl ⟨rfl, rfl⟩) (fun q g1 g2 => xmUp_ne _ _ g1) (by rw [hl]; exact Nat.le_refl _) (by rw [hl]; exact Nat.le_refl _)
        rw [hmo] at h9 ⊢
        exact h9
      · refine ev_it 1 (x' := (1, [(0, .ref a), (1, .int (nI j))], [.int (nI j)], G)) rfl ?_
        refine ev_br rfl rfl (fun h2 => ?_) (fun h2 => ?_)
        · exact absurd (of_decide_eq_true h2) h1
        · refine ev_it 2 (x' := (6, [(0, .ref a), (1, .int (nI j))], [.ref a, .int (nI j)], G)) rfl ?_
          refine ev_get rfl rfl e1 rfl ?_
          refine ev_br rfl rfl (fun h4 => ?_) (fun h4 => ?_)
          · have h4 : nI xs.length ≤ nI j := of_decide_eq_true h4
            rw [nI_leI (by omega) hj] at h4
            omega
          · refine ev_it 2 (x' := (14, [(0, .ref a), (1, .int (nI j))], [.int (nI j), .ref a], G)) rfl ?_
            refine ev_put rfl e1 rfl rfl ?_
            exact ev_vret rfl rfl
    · refine ⟨G, hsame (by rw [xsCut, if_neg h1, nI_clamp hj, List.take_of_length_le (by omega)]), xmCall_of (by decide) (Nat.le_of_ble_eq_true rfl) ?_⟩
      refine ev_it 1 (x' := (1, [(0, .ref a), (1, .int (nI j))], [.int (nI j)], G)) rfl ?_
      refine ev_br rfl rfl (fun h2 => ?_) (fun h2 => ?_)
      · exact absurd (of_decide_eq_true h2) h1
      · refine ev_it 2 (x' := (6, [(0, .ref a), (1, .int (nI j))], [.ref a, .int (nI j)], G)) rfl ?_
        refine ev_get rfl rfl e1 rfl ?_
        refine ev_br rfl rfl (fun h4 => ?_) (fun h4 => ?_)
        · exact ev_vret rfl rfl
        · have h4 : ¬ nI xs.length ≤ nI j := of_decide_eq_false h4
          rw [nI_leI (by omega) hj] at h4
          omega
/-- top() -/
theorem row_top (hA : A a = xrow mo xs) : xmCA V L Kc Ks (d + 2) 4 [.ref a] A (some (.int (xsAt xs (nI xs.length - 1)))) A := by
  refine xmCA_of (by decide) (Nat.le_of_ble_eq_true rfl) ?_
  refine ea_it 2 (pc' := 2) (lv' := [(0, .ref a)]) (st' := [.ref a, .ref a]) (fun _ => rfl) ?_
  refine ea_rsz rfl ⟨rfl, rfl⟩ hA ?_
  refine ea_it 2 (pc' := 7) (lv' := [(0, .ref a)]) (st' := [.int (nI xs.length - 1), .ref a]) (fun _ => rfl) ?_
  refine ea_callR (As := [.int (nI xs.length - 1)]) (st := []) rfl rfl rfl rfl (Nat.le_of_ble_eq_true rfl) hA (row_get hA _) ?_
  exact ea_iret rfl rfl rfl
/-- setTop(v) -/
theorem row_setTop (hA : A a = xrow mo xs) (hm : mo ≤ 65536) (v : Int32) : xmCA V L Kc Ks (d + 2) 6 [.ref a, .int v] A none (xmUp A a (xrow mo (xsSet xs (nI xs.length - 1) v))) := by
  refine xmCA_of (by decide) (Nat.le_of_ble_eq_true rfl) ?_
  refine ea_it 2 (pc' := 2) (lv' := [(0, .ref a), (1, .int v)]) (st' := [.ref a, .ref a]) (fun _ => rfl) ?_
  refine ea_rsz rfl ⟨rfl, rfl⟩ hA ?_
  refine ea_it 3 (pc' := 8) (lv' := [(0, .ref a), (1, .int v)]) (st' := [.int v, .int (nI xs.length - 1), .ref a]) (fun _ => rfl) ?_
  refine ea_callR (As := [.int (nI xs.length - 1), .int v]) (st := []) rfl rfl rfl rfl (Nat.le_of_ble_eq_true rfl) hA (row_set hA hm _ _) ?_
  exact ea_vret rfl rfl
theorem row_pop (hA : A a = xrow mo xs) (hm : mo ≤ 65536) : xmCA V L Kc Ks (d + 1) 8 [.ref a] A (some (.int (xsAt xs (nI xs.length - 1)))) (xmUp A a (xrow mo xs.dropLast)) := by
  intro G hG
  obtain ⟨mo0, ow, cp, h⟩ := hG
  obtain ⟨hL, hmm, jk, e1, e2, e3, e4, e5, e6, e7, e8⟩ := xm_row h hA
  have hmo : mo0 a = mo := by rw [nI_eq (by omega) (by omega)] at hmm; exact hmm
  have hx : xs.length ≤ cp a := by rw [← e3, List.length_append]; omega
  by_cases h0 : xs = []
  · subst h0
    refine ⟨G, by rw [List.dropLast_nil, xmUp_same A a hA]; exact ⟨mo0, ow, cp, h⟩, xmCall_of (by decide) (Nat.le_of_ble_eq_true rfl) ?_⟩
    refine ev_it 1 (x' := (1, [(0, .ref a)], [.ref a], G)) rfl ?_
    refine ev_get rfl rfl e1 rfl ?_
    refine ev_it 1 (x' := (5, [(0, .ref a)], [.int 1, .int (nI 0)], G)) rfl ?_
    refine ev_br rfl rfl (fun h2 => ?_) (fun h2 => ?_)
    · refine ev_it 1 (x' := (21, [(0, .ref a)], [.int 0], G)) rfl ?_
      exact ev_iret rfl rfl rfl
    · exact absurd (show xmCmp .lt (nI 0) 1 = true by decide) (by rw [h2]; decide)
  · have hpos : 0 < xs.length := List.length_pos_iff.mpr h0
    obtain ⟨n, hn⟩ : ∃ n, xs.length = n + 1 := ⟨xs.length - 1, by omega⟩
    have en : nI xs.length - 1 = nI n := by rw [hn]; exact nI_pred n
    have hlt : n < xs.length := by omega
    have ea : xsAt xs (nI xs.length - 1) = xs[n] := by
      rw [en, xsAt, if_neg (nI_pos (by omega)), nI_clamp (by omega), List.getD_eq_getElem?_getD, List.getElem?_eq_getElem hlt]
      rfl
    refine ⟨(xmUp G.1 a (16, [.int (nI (mo0 a)), .ref (ow a), .int (nI n)]), G.2), ?_, xmCall_of (by decide) (Nat.le_of_ble_eq_true rfl) ?_⟩
    · have ed : xs.dropLast = xs.take n := by rw [List.dropLast_eq_take]; congr 1; omega
      rw [ed]
      have hlt2 : (xs.take n).length = n := by rw [List.length_take]; omega
      have e10 : xs.take n ++ (xs.drop n ++ jk) = xs ++ jk := by rw [← List.append_assoc, List.take_append_drop]
      have hl : (xs.take n ++ (xs.drop n ++ jk)).length = cp a := by rw [e10]; exact e3
      have h9 := xmAw.row (b := ow a) (xs' := xs.take n) (jk' := xs.drop n ++ jk) (G' := (xmUp G.1 a (16, [.int (nI (mo0 a)), .ref (ow a), .int (nI n)]), G.2)) h hL
        (by rw [hlt2]; exact xmUp_self _ _ _) (by rw [e10]; exact (xmUp_ne _ _ e8).trans e2) (by rw [hl]; exact e4) (by rw [hl]; exact e5) (Or.inl ⟨rfl, rfl⟩) (fun q g1 g2 => xmUp_ne _ _ g1) (by rw [hl]; exact Nat.le_refl _) (by rw [hl]; exact Nat.le_refl _)
      rw [hmo] at h9 ⊢
      exact h9
    · refine ev_it 1 (x' := (1, [(0, .ref a)], [.ref a], G)) rfl ?_
      refine ev_get rfl rfl e1 rfl ?_
      refine ev_it 1 (x' := (5, [(0, .ref a)], [.int 1, .int (nI xs.length)], G)) rfl ?_
      refine ev_br rfl rfl (fun h2 => ?_) (fun h2 => ?_)
      · have h2 : nI xs.length < nI 1 := of_decide_eq_true h2
        rw [nI_ltI (by omega) (by omega)] at h2
        omega
      · refine ev_it 1 (x' := (9, [(0, .ref a)], [.ref a], G)) rfl ?_
        refine ev_get rfl rfl e1 rfl ?_
        refine ev_it 1 (x' := (13, [(0, .ref a)], [.ref a, .int (nI xs.length)], G)) rfl ?_
        refine ev_get rfl rfl e1 rfl ?_
        refine ev_len rfl e2 (Or.inl rfl) ?_
        rw [List.length_map, e3]
        refine ev_br rfl rfl (fun h3 => ?_) (fun h3 => ?_)
        · refine ev_it 2 (x' := (24, [(0, .ref a)], [.ref a, .ref a], G)) rfl ?_
          refine ev_get rfl rfl e1 rfl ?_
          refine ev_it 2 (x' := (29, [(0, .ref a)], [.int (nI xs.length - 1), .ref a], G)) rfl ?_
          rw [ea, en]
          refine ev_put rfl e1 rfl rfl ?_
          have g1 : ((xmUp G.1 a (16, [.int (nI (mo0 a)), .ref (ow a), .int (nI n)]), G.2) : xmH).1 a = (16, [.int (nI (mo0 a)), .ref (ow a), .int (nI n)]) := xmUp_self _ _ _
          have g2 : ((xmUp G.1 a (16, [.int (nI (mo0 a)), .ref (ow a), .int (nI n)]), G.2) : xmH).1 (ow a) = (1, (xs ++ jk).map Value.int) := (xmUp_ne _ _ e8).trans e2
          refine ev_it 1 (x' := (33, [(0, .ref a)], [.ref a], (xmUp G.1 a (16, [.int (nI (mo0 a)), .ref (ow a), .int (nI n)]), G.2))) rfl ?_
          refine ev_get rfl rfl g1 rfl ?_
          refine ev_it 1 (x' := (37, [(0, .ref a)], [.ref a, .ref (ow a)], (xmUp G.1 a (16, [.int (nI (mo0 a)), .ref (ow a), .int (nI n)]), G.2))) rfl ?_
          refine ev_get rfl rfl g1 rfl ?_
          refine ev_iald (v := .int xs[n]) rfl g2 (nI_pos (by omega)) (by rw [nI_clamp (by omega), List.getElem?_map, List.getElem?_append_left hlt, List.getElem?_eq_getElem hlt]; rfl) ?_
          exact ev_iret rfl rfl rfl
        · have h3 : ¬ nI xs.length ≤ nI (cp a) := of_decide_eq_false h3
          rw [nI_leI (by omega) (by omega)] at h3
          omega
theorem row_sum_go (hA : A a = xrow mo xs) (hx : xs.length < 2 ^ 30) : ∀ (n j : Nat) (s : Int32), j + n = xs.length → xmEA V L Kc Ks (d + 1) 10 (4, [(2, .int (nI j)), (1, .int s), (0, .ref a)], [], A) (some (.int ((xs.drop j).foldl (fun x y => x + y) s))) A := by
  intro n
  induction n with
  | zero =>
    intro j s hj
    refine ea_it 2 (pc' := 6) (lv' := [(2, .int (nI j)), (1, .int s), (0, .ref a)]) (st' := [.ref a, .int (nI j)]) (fun _ => rfl) ?_
    refine ea_rsz rfl ⟨rfl, rfl⟩ hA ?_
    refine ea_br rfl rfl (fun h => ?_) (fun h => ?_)
    · rw [List.drop_of_length_le (by omega)]
      refine ea_it 1 (pc' := 27) (lv' := [(2, .int (nI j)), (1, .int s), (0, .ref a)]) (st' := [.int s]) (fun _ => rfl) ?_
      exact ea_iret rfl rfl rfl
    · have h : ¬ nI xs.length ≤ nI j := of_decide_eq_false h
      rw [nI_leI (by omega) (by omega)] at h
      omega
  | succ n ih =>
    intro j s hj
    have hlt : j < xs.length := by omega
    refine ea_it 2 (pc' := 6) (lv' := [(2, .int (nI j)), (1, .int s), (0, .ref a)]) (st' := [.ref a, .int (nI j)]) (fun _ => rfl) ?_
    refine ea_rsz rfl ⟨rfl, rfl⟩ hA ?_
    refine ea_br rfl rfl (fun h => ?_) (fun h => ?_)
    · have h : nI xs.length ≤ nI j := of_decide_eq_true h
      rw [nI_leI (by omega) (by omega)] at h
      omega
    · refine ea_it 3 (pc' := 15) (lv' := [(2, .int (nI j)), (1, .int s), (0, .ref a)]) (st' := [.int (nI j), .ref a, .int s]) (fun _ => rfl) ?_
      refine ea_callR (As := [.int (nI j)]) (st := [.int s]) rfl rfl rfl rfl (Nat.le_of_ble_eq_true rfl) hA (row_get hA _) ?_
      have e : xsAt xs (nI j) = xs[j] := by
        rw [xsAt, if_neg (nI_pos (by omega)), nI_clamp (by omega), List.getD_eq_getElem?_getD, List.getElem?_eq_getElem hlt]
        rfl
      rw [e]
      refine ea_it 4 (pc' := 4) (lv' := [(2, .int (nI j + 1)), (1, .int (s + xs[j])), (0, .ref a)]) (st' := []) (fun _ => rfl) ?_
      rw [nI_1, List.drop_eq_getElem_cons hlt, List.foldl_cons]
      exact ih (j + 1) (s + xs[j]) (by omega)
theorem row_sum (hA : A a = xrow mo xs) (hx : xs.length < 2 ^ 30) : xmCA V L Kc Ks (d + 2) 10 [.ref a] A (some (.int (xs.foldl (fun x y => x + y) 0))) A := by
  refine xmCA_of (by decide) (Nat.le_of_ble_eq_true rfl) ?_
  refine ea_it 4 (pc' := 4) (lv' := [(2, .int (nI 0)), (1, .int 0), (0, .ref a)]) (st' := []) (fun _ => rfl) ?_
  exact row_sum_go hA hx xs.length 0 0 (by omega)
end Rows2
