section EditsL
theorem xsAt_mid (p q : List Int32) (x : Int32) (h : p.length < 2 ^ 31) : xsAt (p ++ x :: q) (nI p.length) = x := by
  rw [xsAt, if_neg (nI_pos h), nI_clamp h, List.getD_eq_getElem?_getD, List.getElem?_append_right (Nat.le_refl _), Nat.sub_self]
  rfl
theorem xsSet_mid (p q : List Int32) (x v : Int32) (h : p.length < 2 ^ 31) : xsSet (p ++ x :: q) (nI p.length) v = p ++ v :: q := by
  rw [xsSet, if_neg (nI_pos h), nI_clamp h, List.set_append_right _ _ (Nat.le_refl _), Nat.sub_self]
  rfl
theorem mid2 (p q : List Int32) (x y : Int32) : p ++ x :: y :: q = (p ++ [x]) ++ y :: q := by simp
theorem swap_mid (p q : List Int32) (x v : Int32) (h : p.length + 1 < 2 ^ 31) : xsSwap (p ++ x :: v :: q) (nI (p.length + 1)) (nI p.length) = p ++ v :: x :: q := by
  have h1 : (p ++ [x]).length = p.length + 1 := by simp
  have h2 : (p ++ [v]).length = p.length + 1 := by simp
  unfold xsSwap
  rw [xsAt_mid p (v :: q) x (by omega)]
  have e1 : xsAt (p ++ x :: v :: q) (nI (p.length + 1)) = v := by rw [mid2, ← h1]; exact xsAt_mid _ _ _ (by omega)
  have e2 : xsSet (p ++ x :: v :: q) (nI (p.length + 1)) x = p ++ x :: x :: q := by rw [mid2, ← h1, xsSet_mid _ _ _ _ (by omega), ← mid2]
  rw [e1, e2, xsSet_mid p (x :: q) x v (by omega)]
def xsIns (xs : List Int32) (i : Nat) (v : Int32) : List Int32 := xs.take i ++ v :: xs.drop i
def xsDel (xs : List Int32) (i n : Nat) : List Int32 := xs.take i ++ xs.drop (i + n)
theorem xsIns_step {xs : List Int32} {t : Nat} (ht : t < xs.length) (hl : xs.length < 2 ^ 30) (v : Int32) : xsSwap (xsIns xs (t + 1) v) (nI (t + 1)) (nI t) = xsIns xs t v := by
  have e1 : xs.take (t + 1) = xs.take t ++ [xs[t]] := List.take_succ_eq_append_getElem ht
  have e2 : xs.drop t = xs[t] :: xs.drop (t + 1) := List.drop_eq_getElem_cons ht
  have e3 : (xs.take t).length = t := by rw [List.length_take]; omega
  have h := swap_mid (xs.take t) (xs.drop (t + 1)) xs[t] v (by omega)
  rw [e3] at h
  unfold xsIns
  rw [e1, e2, ← mid2]
  exact h
theorem xsIns_len (xs : List Int32) {i : Nat} (v : Int32) (h : i ≤ xs.length) : (xsIns xs i v).length = xs.length + 1 := by
  unfold xsIns
  rw [List.length_append, List.length_cons, List.length_take, List.length_drop]
  omega
theorem xsIns_end (xs : List Int32) (v : Int32) : xsIns xs xs.length v = xs ++ [v] := by
  unfold xsIns
  rw [List.take_length, List.drop_length]
end EditsL
section BatchE
variable {V : xmV} {L : List Nat} {Kc Ks d : Nat} {A : Nat → xmE} {b dr : Nat} {e0 : Int32} {xs : List Int32}
/-- the last rows of an edit: one more, and 1 -/
theorem bat_one {k pc : Nat} {lv : xmL} {dr : Nat} {e0 : Int32} (hA : A b = xbat dr e0) (h1 : ∀ G, xmIter k 2 (pc, lv, [], G) = some (pc + 2, lv, [.ref b, .ref b], G)) {i5 i6 : Nat} {a5 a6 a7 : List Nat} (hg : xmCd k (pc + 2) = some (.getfield i5, 3, a5)) (ha5 : a5.getD 0 0 = 2 ∧ a5.getD 1 0 = 1) (h2 : ∀ G, xmIter k 2 (pc + 5, lv, [.int e0, .ref b], G) = some (pc + 7, lv, [.int (e0 + 1), .ref b], G)) (hp : xmCd k (pc + 7) = some (.putfield i6, 3, a6)) (ha6 : a6.getD 0 0 = 2 ∧ a6.getD 1 0 = 1)
    (h3 : ∀ G, xmIter k 1 (pc + 10, lv, [], G) = some (pc + 11, lv, [.int 1], G)) (hr : xmCd k (pc + 11) = some (.ireturn, 1, a7)) (hrt : xmRt k = some .boolean) : xmEA V L Kc Ks d k (pc, lv, [], A) (some (.int 1)) (xmUp A b (xbat dr (e0 + 1))) := by
  refine ea_it 2 h1 ?_
  refine ea_get hg (by rw [ha5.1]; rfl) (by rw [ha5.1]; exact hA) (by rw [ha5.2]; rfl) ?_
  refine ea_it 2 h2 ?_
  refine ea_put hp (by rw [ha6.1]; exact hA) (by rw [ha6.1, ha6.2]; rfl) (by rw [ha6.1, ha6.2]; rfl) ?_
  rw [ha6.1, ha6.2]
  refine ea_it 1 h3 ?_
  exact ea_iret hr hrt rfl
theorem bat_ins_go (hA : A b = xbat dr e0) (hb : b ≠ dr) (hl : xs.length < 64) (i : Nat) (v : Int32) : ∀ n t : Nat, t = i + n → t ≤ xs.length → xmEA V L Kc Ks (d + 2) 26 (54, [(3, .int (nI t)), (0, .ref b), (1, .int (nI i)), (2, .int v)], [], xmUp A dr (xrow 64 (xsIns xs t v))) (some (.int 1)) (xmUp (xmUp A dr (xrow 64 (xsIns xs i v))) b (xbat dr (e0 + 1))) := by
  intro n
  induction n with
  | zero =>
    intro t ht hx
    have ht : t = i := ht
    subst ht
    refine ea_it 2 (pc' := 56) (lv' := [(3, .int (nI t)), (0, .ref b), (1, .int (nI t)), (2, .int v)]) (st' := [.int (nI t), .int (nI t)]) (fun _ => rfl) ?_
    refine ea_br rfl rfl (fun h => ?_) (fun h => ?_)
    · exact bat_one ((xmUp_ne _ _ hb).trans hA) (fun _ => rfl) rfl ⟨rfl, rfl⟩ (fun _ => rfl) rfl ⟨rfl, rfl⟩ (fun _ => rfl) rfl rfl
    · have h : ¬ nI t ≤ nI t := of_decide_eq_false h
      rw [nI_leI (by omega) (by omega)] at h
      omega
  | succ n ih =>
    intro t ht hx
    obtain ⟨t, rfl⟩ : ∃ t', t = t' + 1 := ⟨t - 1, by omega⟩
    refine ea_it 2 (pc' := 56) (lv' := [(3, .int (nI (t + 1))), (0, .ref b), (1, .int (nI i)), (2, .int v)]) (st' := [.int (nI i), .int (nI (t + 1))]) (fun _ => rfl) ?_
    refine ea_br rfl rfl (fun h => ?_) (fun h => ?_)
    · have h : nI (t + 1) ≤ nI i := of_decide_eq_true h
      rw [nI_leI (by omega) (by omega)] at h
      omega
    · refine ea_it 5 (pc' := 64) (lv' := [(3, .int (nI (t + 1))), (0, .ref b), (1, .int (nI i)), (2, .int v)]) (st' := [.int (nI (t + 1) - 1), .int (nI (t + 1)), .ref b]) (fun _ => rfl) ?_
      rw [nI_pred]
      have hA1 : xmUp A dr (xrow 64 (xsIns xs (t + 1) v)) b = xbat dr e0 := (xmUp_ne _ _ hb).trans hA
      refine ea_callO (As := [.int (nI (t + 1)), .int (nI t)]) (st := []) rfl rfl rfl rfl (Nat.le_of_ble_eq_true rfl) hA1 (bat_swap hA1 (xmUp_self _ _ _) hb (by decide) _ _) ?_
      rw [xmUp_up, xsIns_step (by omega) (by omega) v]
      refine ea_it 2 (pc' := 54) (lv' := [(3, .int (nI (t + 1) + Int32.ofInt (-1))), (0, .ref b), (1, .int (nI i)), (2, .int v)]) (st' := []) (fun _ => rfl) ?_
      rw [show nI (t + 1) + Int32.ofInt (-1) = nI t from pk_m1 t]
      exact ih t (by omega) (by omega)
/-- insert(i, v) that is refused -/
theorem bat_ins_no (hA : A b = xbat dr e0) (hD : A dr = xrow 64 xs) (hl : xs.length ≤ 64) (i v : Int32) (hno : ¬ e0 < 32 ∨ i < 0 ∨ nI xs.length < i ∨ xs.length = 64) : xmCA V L Kc Ks (d + 2) 26 [.ref b, .int i, .int v] A (some (.int 0)) A := by
  refine xmCA_of (by decide) (Nat.le_of_ble_eq_true rfl) ?_
  have fin : xmEA V L Kc Ks (d + 1) 26 (34, [(0, .ref b), (1, .int i), (2, .int v)], [], A) (some (.int 0)) A := by
    refine ea_it 1 (pc' := 35) (lv' := [(0, .ref b), (1, .int i), (2, .int v)]) (st' := [.int 0]) (fun _ => rfl) ?_
    exact ea_iret rfl rfl rfl
  refine ea_it 1 (pc' := 1) (lv' := [(0, .ref b), (1, .int i), (2, .int v)]) (st' := [.ref b]) (fun _ => rfl) ?_
  refine ea_callO (As := []) (st := []) rfl rfl rfl rfl (Nat.le_of_ble_eq_true rfl) hA (bat_isFull hA) ?_
  refine ea_br rfl rfl (fun h => fin) (fun h => ?_)
  have h : ¬ ¬ (if e0 < 32 then (0 : Int32) else 1) = 0 := of_decide_eq_false h
  have h1 : e0 < 32 := by
    by_cases z : e0 < 32
    · exact z
    · rw [if_neg z] at h
      exact absurd (by decide) h
  refine ea_it 1 (pc' := 8) (lv' := [(0, .ref b), (1, .int i), (2, .int v)]) (st' := [.int i]) (fun _ => rfl) ?_
  refine ea_br rfl rfl (fun h2 => fin) (fun h2 => ?_)
  have h2 : ¬ i < 0 := of_decide_eq_false h2
  refine ea_it 2 (pc' := 13) (lv' := [(0, .ref b), (1, .int i), (2, .int v)]) (st' := [.ref b, .int i]) (fun _ => rfl) ?_
  refine ea_get rfl rfl hA rfl ?_
  refine ea_callR (As := []) (st := [.int i]) rfl rfl rfl rfl (Nat.le_of_ble_eq_true rfl) hD (row_size hD) ?_
  refine ea_br rfl rfl (fun h3 => fin) (fun h3 => ?_)
  have h3 : ¬ nI xs.length < i := of_decide_eq_false h3
  refine ea_it 1 (pc' := 23) (lv' := [(0, .ref b), (1, .int i), (2, .int v)]) (st' := [.ref b]) (fun _ => rfl) ?_
  refine ea_get rfl rfl hA rfl ?_
  refine ea_callR (As := []) (st := []) rfl rfl rfl rfl (Nat.le_of_ble_eq_true rfl) hD (row_size hD) ?_
  refine ea_it 1 (pc' := 31) (lv' := [(0, .ref b), (1, .int i), (2, .int v)]) (st' := [.int (nI 64), .int (nI xs.length)]) (fun _ => rfl) ?_
  refine ea_br rfl rfl (fun h4 => ?_) (fun h4 => fin)
  have h4 : nI xs.length < nI 64 := of_decide_eq_true h4
  rw [nI_ltI (by omega) (by omega)] at h4
  rcases hno with z | z | z | z
  · exact absurd h1 z
  · exact absurd z h2
  · exact absurd z h3
  · omega
/-- insert(i, v) that is done -/
theorem bat_ins_yes (hA : A b = xbat dr e0) (hD : A dr = xrow 64 xs) (hb : b ≠ dr) (h1 : e0 < 32) (hl : xs.length < 64) {i : Nat} (hi : i ≤ xs.length) (v : Int32) : xmCA V L Kc Ks (d + 3) 26 [.ref b, .int (nI i), .int v] A (some (.int 1)) (xmUp (xmUp A dr (xrow 64 (xsIns xs i v))) b (xbat dr (e0 + 1))) := by
  refine xmCA_of (by decide) (Nat.le_of_ble_eq_true rfl) ?_
  refine ea_it 1 (pc' := 1) (lv' := [(0, .ref b), (1, .int (nI i)), (2, .int v)]) (st' := [.ref b]) (fun _ => rfl) ?_
  refine ea_callO (As := []) (st := []) rfl rfl rfl rfl (Nat.le_of_ble_eq_true rfl) hA (bat_isFull hA) ?_
  rw [if_pos h1]
  refine ea_br rfl rfl (fun h => absurd h (by decide)) (fun h => ?_)
  refine ea_it 1 (pc' := 8) (lv' := [(0, .ref b), (1, .int (nI i)), (2, .int v)]) (st' := [.int (nI i)]) (fun _ => rfl) ?_
  refine ea_br rfl rfl (fun h2 => absurd (of_decide_eq_true h2 : nI i < 0) (nI_pos (by omega))) (fun h2 => ?_)
  refine ea_it 2 (pc' := 13) (lv' := [(0, .ref b), (1, .int (nI i)), (2, .int v)]) (st' := [.ref b, .int (nI i)]) (fun _ => rfl) ?_
  refine ea_get rfl rfl hA rfl ?_
  refine ea_callR (As := []) (st := [.int (nI i)]) rfl rfl rfl rfl (Nat.le_of_ble_eq_true rfl) hD (row_size hD) ?_
  refine ea_br rfl rfl (fun h3 => absurd (of_decide_eq_true h3 : nI xs.length < nI i) (nI_nlt hi (by omega))) (fun h3 => ?_)
  refine ea_it 1 (pc' := 23) (lv' := [(0, .ref b), (1, .int (nI i)), (2, .int v)]) (st' := [.ref b]) (fun _ => rfl) ?_
  refine ea_get rfl rfl hA rfl ?_
  refine ea_callR (As := []) (st := []) rfl rfl rfl rfl (Nat.le_of_ble_eq_true rfl) hD (row_size hD) ?_
  refine ea_it 1 (pc' := 31) (lv' := [(0, .ref b), (1, .int (nI i)), (2, .int v)]) (st' := [.int (nI 64), .int (nI xs.length)]) (fun _ => rfl) ?_
  refine ea_br rfl rfl (fun h4 => ?_) (fun h4 => absurd (nI_lt hl (by decide)) (of_decide_eq_false h4))
  refine ea_it 1 (pc' := 37) (lv' := [(0, .ref b), (1, .int (nI i)), (2, .int v)]) (st' := [.ref b]) (fun _ => rfl) ?_
  refine ea_get rfl rfl hA rfl ?_
  refine ea_it 1 (pc' := 41) (lv' := [(0, .ref b), (1, .int (nI i)), (2, .int v)]) (st' := [.int v, .ref dr]) (fun _ => rfl) ?_
  refine ea_callR (As := [.int v]) (st := []) rfl rfl rfl rfl (Nat.le_of_ble_eq_true rfl) hD (row_push hD (by decide) v) ?_
  rw [if_pos hl, ← xsIns_end]
  have hA1 : xmUp A dr (xrow 64 (xsIns xs xs.length v)) b = xbat dr e0 := (xmUp_ne _ _ hb).trans hA
  refine ea_it 1 (pc' := 45) (lv' := [(0, .ref b), (1, .int (nI i)), (2, .int v)]) (st' := [.ref b]) (fun _ => rfl) ?_
  refine ea_get rfl rfl hA1 rfl ?_
  refine ea_callR (As := []) (st := []) rfl rfl rfl rfl (Nat.le_of_ble_eq_true rfl) (xmUp_self _ _ _) (row_size (xmUp_self _ _ _)) ?_
  rw [xsIns_len xs v (Nat.le_refl _)]
  refine ea_it 3 (pc' := 54) (lv' := [(3, .int (nI (xs.length + 1) - 1)), (0, .ref b), (1, .int (nI i)), (2, .int v)]) (st' := []) (fun _ => rfl) ?_
  rw [nI_pred]
  exact bat_ins_go hA hb hl i v (xs.length - i) xs.length (by omega) (Nat.le_refl _)
end BatchE
