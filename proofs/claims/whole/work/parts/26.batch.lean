theorem xmUp_up {α : Type} (f : Nat → α) (a : Nat) (x y : α) : xmUp (xmUp f a x) a y = xmUp f a y := by
  funext j
  unfold xmUp
  split <;> rfl
theorem xsAt_nat {xs : List Int32} {j : Nat} (h : j < xs.length) (hj : j < 2 ^ 31) : xsAt xs (nI j) = xs[j] := by
  rw [xsAt, if_neg (nI_pos hj), nI_clamp hj, List.getD_eq_getElem?_getD, List.getElem?_eq_getElem h]
  rfl
section Copy
variable {V : xmV} {L : List Nat} {Kc Ks d : Nat} {A : Nat → xmE} {a b mo mo2 : Nat} {xs ys : List Int32}
theorem row_copy_go (hB : A b = xrow mo2 ys) (hab : b ≠ a) (hm : mo ≤ 65536) (hy : ys.length ≤ mo) : ∀ n j : Nat, j + n = ys.length → xmEA V L Kc Ks (d + 2) 9 (7, [(2, .int (nI j)), (0, .ref a), (1, .ref b)], [], xmUp A a (xrow mo (ys.take j))) none (xmUp A a (xrow mo ys)) := by
  intro n
  induction n with
  | zero =>
    intro j hj
    have hA1 : xmUp A a (xrow mo (ys.take j)) a = xrow mo (ys.take j) := xmUp_self _ _ _
    have hB1 : xmUp A a (xrow mo (ys.take j)) b = xrow mo2 ys := (xmUp_ne _ _ hab).trans hB
    refine ea_it 2 (pc' := 9) (lv' := [(2, .int (nI j)), (0, .ref a), (1, .ref b)]) (st' := [.ref b, .int (nI j)]) (fun _ => rfl) ?_
    refine ea_callR (As := []) (st := [.int (nI j)]) rfl rfl rfl rfl (Nat.le_of_ble_eq_true rfl) hB1 (row_size hB1) ?_
    refine ea_br rfl rfl (fun h => ?_) (fun h => ?_)
    · rw [List.take_of_length_le (by omega)]
      exact ea_vret rfl rfl
    · have h : ¬ nI ys.length ≤ nI j := of_decide_eq_false h
      rw [nI_leI (by omega) (by omega)] at h
      omega
  | succ n ih =>
    intro j hj
    have hlt : j < ys.length := by omega
    have hA1 : xmUp A a (xrow mo (ys.take j)) a = xrow mo (ys.take j) := xmUp_self _ _ _
    have hB1 : xmUp A a (xrow mo (ys.take j)) b = xrow mo2 ys := (xmUp_ne _ _ hab).trans hB
    refine ea_it 2 (pc' := 9) (lv' := [(2, .int (nI j)), (0, .ref a), (1, .ref b)]) (st' := [.ref b, .int (nI j)]) (fun _ => rfl) ?_
    refine ea_callR (As := []) (st := [.int (nI j)]) rfl rfl rfl rfl (Nat.le_of_ble_eq_true rfl) hB1 (row_size hB1) ?_
    refine ea_br rfl rfl (fun h => ?_) (fun h => ?_)
    · have h : nI ys.length ≤ nI j := of_decide_eq_true h
      rw [nI_leI (by omega) (by omega)] at h
      omega
    · refine ea_it 3 (pc' := 18) (lv' := [(2, .int (nI j)), (0, .ref a), (1, .ref b)]) (st' := [.int (nI j), .ref b, .ref a]) (fun _ => rfl) ?_
      refine ea_callR (As := [.int (nI j)]) (st := [.ref a]) rfl rfl rfl rfl (Nat.le_of_ble_eq_true rfl) hB1 (row_get hB1 _) ?_
      rw [xsAt_nat hlt (by omega)]
      refine ea_callR (As := [.int ys[j]]) (st := []) rfl rfl rfl rfl (Nat.le_of_ble_eq_true rfl) hA1 (row_push hA1 hm ys[j]) ?_
      have hl : (ys.take j).length < mo := by rw [List.length_take]; omega
      rw [if_pos hl, xmUp_up, show ys.take j ++ [ys[j]] = ys.take (j + 1) from (List.take_succ_eq_append_getElem hlt).symm]
      refine ea_it 2 (pc' := 7) (lv' := [(2, .int (nI j + 1)), (0, .ref a), (1, .ref b)]) (st' := []) (fun _ => rfl) ?_
      rw [nI_1]
      exact ih (j + 1) (by omega)
theorem row_copy (hA : A a = xrow mo xs) (hB : A b = xrow mo2 ys) (hab : b ≠ a) (hm : mo ≤ 65536) (hy : ys.length ≤ mo) : xmCA V L Kc Ks (d + 3) 9 [.ref a, .ref b] A none (xmUp A a (xrow mo ys)) := by
  refine xmCA_of (by decide) (Nat.le_of_ble_eq_true rfl) ?_
  refine ea_it 2 (pc' := 2) (lv' := [(0, .ref a), (1, .ref b)]) (st' := [.int 0, .ref a]) (fun _ => rfl) ?_
  refine ea_callR (As := [.int 0]) (st := []) rfl rfl rfl rfl (Nat.le_of_ble_eq_true rfl) hA ((row_cut hA hm 0).up (Nat.le_add_left 1 (d + 1))) ?_
  have e : xsCut xs 0 = ys.take 0 := by rw [xsCut, if_neg (by decide)]; rfl
  rw [e]
  refine ea_it 2 (pc' := 7) (lv' := [(2, .int (nI 0)), (0, .ref a), (1, .ref b)]) (st' := []) (fun _ => rfl) ?_
  exact row_copy_go hB hab hm hy ys.length 0 (by omega)
end Copy
section FaultS
variable {V : xmV} {L : List Nat} {Kc Ks d : Nat} {A : Nat → xmE} {f : Nat} {k0 p0 : Int32}
def xflt (k p : Int32) : xmE := (17, [.int k, .int p])
theorem flt_kind (hA : A f = xflt k0 p0) : xmCA V L Kc Ks (d + 1) 15 [.ref f] A (some (.int k0)) A := by
  refine xmCA_of (by decide) (Nat.le_of_ble_eq_true rfl) ?_
  refine ea_it 1 (pc' := 1) (lv' := [(0, .ref f)]) (st' := [.ref f]) (fun _ => rfl) ?_
  refine ea_get rfl rfl hA rfl ?_
  exact ea_iret rfl rfl rfl
theorem flt_place (hA : A f = xflt k0 p0) : xmCA V L Kc Ks (d + 1) 16 [.ref f] A (some (.int p0)) A := by
  refine xmCA_of (by decide) (Nat.le_of_ble_eq_true rfl) ?_
  refine ea_it 1 (pc' := 1) (lv' := [(0, .ref f)]) (st' := [.ref f]) (fun _ => rfl) ?_
  refine ea_get rfl rfl hA rfl ?_
  exact ea_iret rfl rfl rfl
theorem flt_isThere (hA : A f = xflt k0 p0) : xmCA V L Kc Ks (d + 1) 13 [.ref f] A (some (.int (if k0 = 0 then 0 else 1))) A := by
  refine xmCA_of (by decide) (Nat.le_of_ble_eq_true rfl) ?_
  refine ea_it 1 (pc' := 1) (lv' := [(0, .ref f)]) (st' := [.ref f]) (fun _ => rfl) ?_
  refine ea_get rfl rfl hA rfl ?_
  refine ea_br rfl rfl (fun h => ?_) (fun h => ?_)
  · rw [if_pos (of_decide_eq_true h)]
    refine ea_it 1 (pc' := 12) (lv' := [(0, .ref f)]) (st' := [.int 0]) (fun _ => rfl) ?_
    exact ea_iret rfl rfl rfl
  · rw [if_neg (of_decide_eq_false h)]
    refine ea_it 2 (pc' := 12) (lv' := [(0, .ref f)]) (st' := [.int 1]) (fun _ => rfl) ?_
    exact ea_iret rfl rfl rfl
theorem flt_clear (hA : A f = xflt k0 p0) : xmCA V L Kc Ks (d + 1) 12 [.ref f] A none (xmUp A f (xflt 0 (-1))) := by
  refine xmCA_of (by decide) (Nat.le_of_ble_eq_true rfl) ?_
  refine ea_it 2 (pc' := 2) (lv' := [(0, .ref f)]) (st' := [.int 0, .ref f]) (fun _ => rfl) ?_
  refine ea_put rfl hA rfl rfl ?_
  refine ea_it 2 (pc' := 7) (lv' := [(0, .ref f)]) (st' := [.int (-1), .ref f]) (fun _ => rfl) ?_
  refine ea_put (fs := [.int 0, .int p0]) rfl (xmUp_self _ _ _) rfl rfl ?_
  rw [xmUp_up]
  exact ea_vret rfl rfl
theorem flt_tell (hA : A f = xflt k0 p0) (k p : Int32) : xmCA V L Kc Ks (d + 1) 14 [.ref f, .int k, .int p] A none (if k0 = 0 then xmUp A f (xflt k p) else A) := by
  refine xmCA_of (by decide) (Nat.le_of_ble_eq_true rfl) ?_
  refine ea_it 1 (pc' := 1) (lv' := [(0, .ref f), (1, .int k), (2, .int p)]) (st' := [.ref f]) (fun _ => rfl) ?_
  refine ea_get rfl rfl hA rfl ?_
  refine ea_br rfl rfl (fun h => ?_) (fun h => ?_)
  · rw [if_neg (of_decide_eq_true h)]
    exact ea_vret rfl rfl
  · rw [if_pos (Decidable.not_not.mp (of_decide_eq_false h))]
    refine ea_it 2 (pc' := 9) (lv' := [(0, .ref f), (1, .int k), (2, .int p)]) (st' := [.int k, .ref f]) (fun _ => rfl) ?_
    refine ea_put rfl hA rfl rfl ?_
    refine ea_it 2 (pc' := 14) (lv' := [(0, .ref f), (1, .int k), (2, .int p)]) (st' := [.int p, .ref f]) (fun _ => rfl) ?_
    refine ea_put (fs := [.int k, .int p0]) rfl (xmUp_self _ _ _) rfl rfl ?_
    rw [xmUp_up]
    exact ea_vret rfl rfl
end FaultS
section BatchS
variable {V : xmV} {L : List Nat} {Kc Ks d : Nat} {A : Nat → xmE} {b dr mo inp : Nat} {e0 : Int32} {xs ys : List Int32}
def xbat (dr : Nat) (e : Int32) : xmE := (18, [.ref dr, .int e])
theorem bat_draft (hA : A b = xbat dr e0) : xmCA V L Kc Ks (d + 1) 33 [.ref b] A (some (.ref dr)) A := by
  refine xmCA_of (by decide) (Nat.le_of_ble_eq_true rfl) ?_
  refine ea_it 1 (pc' := 1) (lv' := [(0, .ref b)]) (st' := [.ref b]) (fun _ => rfl) ?_
  refine ea_get rfl rfl hA rfl ?_
  exact ea_aret rfl rfl (Or.inl ⟨_, rfl⟩)
theorem bat_edits (hA : A b = xbat dr e0) : xmCA V L Kc Ks (d + 1) 34 [.ref b] A (some (.int e0)) A := by
  refine xmCA_of (by decide) (Nat.le_of_ble_eq_true rfl) ?_
  refine ea_it 1 (pc' := 1) (lv' := [(0, .ref b)]) (st' := [.ref b]) (fun _ => rfl) ?_
  refine ea_get rfl rfl hA rfl ?_
  exact ea_iret rfl rfl rfl
theorem bat_isFull (hA : A b = xbat dr e0) : xmCA V L Kc Ks (d + 1) 27 [.ref b] A (some (.int (if e0 < 32 then 0 else 1))) A := by
  refine xmCA_of (by decide) (Nat.le_of_ble_eq_true rfl) ?_
  refine ea_it 1 (pc' := 1) (lv' := [(0, .ref b)]) (st' := [.ref b]) (fun _ => rfl) ?_
  refine ea_get rfl rfl hA rfl ?_
  refine ea_it 1 (pc' := 6) (lv' := [(0, .ref b)]) (st' := [.int 32, .int e0]) (fun _ => rfl) ?_
  refine ea_br rfl rfl (fun h => ?_) (fun h => ?_)
  · rw [if_pos (of_decide_eq_true h)]
    refine ea_it 1 (pc' := 14) (lv' := [(0, .ref b)]) (st' := [.int 0]) (fun _ => rfl) ?_
    exact ea_iret rfl rfl rfl
  · rw [if_neg (of_decide_eq_false h)]
    refine ea_it 2 (pc' := 14) (lv' := [(0, .ref b)]) (st' := [.int 1]) (fun _ => rfl) ?_
    exact ea_iret rfl rfl rfl
theorem bat_has (hA : A b = xbat dr e0) (hD : A dr = xrow mo xs) (i n : Int32) : xmCA V L Kc Ks (d + 2) 30 [.ref b, .int i, .int n] A (some (.int (if ¬ i < 0 ∧ ¬ nI xs.length < i ∧ ¬ nI xs.length - i < n then 1 else 0))) A := by
  refine xmCA_of (by decide) (Nat.le_of_ble_eq_true rfl) ?_
  refine ea_it 1 (pc' := 1) (lv' := [(0, .ref b), (1, .int i), (2, .int n)]) (st' := [.int i]) (fun _ => rfl) ?_
  refine ea_br rfl rfl (fun h => ?_) (fun h => ?_)
  · rw [if_neg (fun z => z.1 (of_decide_eq_true h))]
    refine ea_it 1 (pc' := 33) (lv' := [(0, .ref b), (1, .int i), (2, .int n)]) (st' := [.int 0]) (fun _ => rfl) ?_
    exact ea_iret rfl rfl rfl
  · refine ea_it 2 (pc' := 6) (lv' := [(0, .ref b), (1, .int i), (2, .int n)]) (st' := [.ref b, .int i]) (fun _ => rfl) ?_
    refine ea_get rfl rfl hA rfl ?_
    refine ea_callR (As := []) (st := [.int i]) rfl rfl rfl rfl (Nat.le_of_ble_eq_true rfl) hD (row_size hD) ?_
    refine ea_br rfl rfl (fun h2 => ?_) (fun h2 => ?_)
    · rw [if_neg (fun z => z.2.1 (of_decide_eq_true h2))]
      refine ea_it 1 (pc' := 33) (lv' := [(0, .ref b), (1, .int i), (2, .int n)]) (st' := [.int 0]) (fun _ => rfl) ?_
      exact ea_iret rfl rfl rfl
    · refine ea_it 2 (pc' := 17) (lv' := [(0, .ref b), (1, .int i), (2, .int n)]) (st' := [.ref b, .int n]) (fun _ => rfl) ?_
      refine ea_get rfl rfl hA rfl ?_
      refine ea_callR (As := []) (st := [.int n]) rfl rfl rfl rfl (Nat.le_of_ble_eq_true rfl) hD (row_size hD) ?_
      refine ea_it 2 (pc' := 25) (lv' := [(0, .ref b), (1, .int i), (2, .int n)]) (st' := [.int (nI xs.length - i), .int n]) (fun _ => rfl) ?_
      refine ea_br rfl rfl (fun h3 => ?_) (fun h3 => ?_)
      · rw [if_neg (fun z => z.2.2 (of_decide_eq_true h3))]
        refine ea_it 1 (pc' := 33) (lv' := [(0, .ref b), (1, .int i), (2, .int n)]) (st' := [.int 0]) (fun _ => rfl) ?_
        exact ea_iret rfl rfl rfl
      · rw [if_pos ⟨of_decide_eq_false h, of_decide_eq_false h2, of_decide_eq_false h3⟩]
        refine ea_it 2 (pc' := 33) (lv' := [(0, .ref b), (1, .int i), (2, .int n)]) (st' := [.int 1]) (fun _ => rfl) ?_
        exact ea_iret rfl rfl rfl
theorem bat_restart (hA : A b = xbat dr e0) (hD : A dr = xrow mo xs) (hI : A inp = xrow mo ys) (hne : inp ≠ dr) (hb : b ≠ dr) (hm : mo ≤ 65536) (hy : ys.length ≤ mo) : xmCA V L Kc Ks (d + 4) 25 [.ref b, .ref inp] A none (xmUp (xmUp A dr (xrow mo ys)) b (xbat dr 0)) := by
  refine xmCA_of (by decide) (Nat.le_of_ble_eq_true rfl) ?_
  refine ea_it 1 (pc' := 1) (lv' := [(0, .ref b), (1, .ref inp)]) (st' := [.ref b]) (fun _ => rfl) ?_
  refine ea_get rfl rfl hA rfl ?_
  refine ea_it 1 (pc' := 5) (lv' := [(0, .ref b), (1, .ref inp)]) (st' := [.ref inp, .ref dr]) (fun _ => rfl) ?_
  refine ea_callR (As := [.ref inp]) (st := []) rfl rfl rfl rfl (Nat.le_of_ble_eq_true rfl) hD (row_copy hD hI hne hm hy) ?_
  refine ea_it 2 (pc' := 10) (lv' := [(0, .ref b), (1, .ref inp)]) (st' := [.int 0, .ref b]) (fun _ => rfl) ?_
  refine ea_put rfl ((xmUp_ne _ _ hb).trans hA) rfl rfl ?_
  exact ea_vret rfl rfl
/-- what swap leaves -/
def xsSwap (xs : List Int32) (i j : Int32) : List Int32 := xsSet (xsSet xs i (xsAt xs j)) j (xsAt xs i)
theorem bat_swap (hA : A b = xbat dr e0) (hD : A dr = xrow mo xs) (hb : b ≠ dr) (hm : mo ≤ 65536) (i j : Int32) : xmCA V L Kc Ks (d + 2) 28 [.ref b, .int i, .int j] A none (xmUp A dr (xrow mo (xsSwap xs i j))) := by
  refine xmCA_of (by decide) (Nat.le_of_ble_eq_true rfl) ?_
  refine ea_it 1 (pc' := 1) (lv' := [(0, .ref b), (1, .int i), (2, .int j)]) (st' := [.ref b]) (fun _ => rfl) ?_
  refine ea_get rfl rfl hA rfl ?_
  refine ea_it 1 (pc' := 5) (lv' := [(0, .ref b), (1, .int i), (2, .int j)]) (st' := [.int i, .ref dr]) (fun _ => rfl) ?_
  refine ea_callR (As := [.int i]) (st := []) rfl rfl rfl rfl (Nat.le_of_ble_eq_true rfl) hD (row_get hD _) ?_
  refine ea_it 2 (pc' := 10) (lv' := [(3, .int (xsAt xs i)), (0, .ref b), (1, .int i), (2, .int j)]) (st' := [.ref b]) (fun _ => rfl) ?_
  refine ea_get rfl rfl hA rfl ?_
  refine ea_it 2 (pc' := 15) (lv' := [(3, .int (xsAt xs i)), (0, .ref b), (1, .int i), (2, .int j)]) (st' := [.ref b, .int i, .ref dr]) (fun _ => rfl) ?_
  refine ea_get rfl rfl hA rfl ?_
  refine ea_it 1 (pc' := 19) (lv' := [(3, .int (xsAt xs i)), (0, .ref b), (1, .int i), (2, .int j)]) (st' := [.int j, .ref dr, .int i, .ref dr]) (fun _ => rfl) ?_
  refine ea_callR (As := [.int j]) (st := [.int i, .ref dr]) rfl rfl rfl rfl (Nat.le_of_ble_eq_true rfl) hD (row_get hD _) ?_
  refine ea_callR (As := [.int i, .int (xsAt xs j)]) (st := []) rfl rfl rfl rfl (Nat.le_of_ble_eq_true rfl) hD (row_set hD hm _ _) ?_
  refine ea_it 1 (pc' := 26) (lv' := [(3, .int (xsAt xs i)), (0, .ref b), (1, .int i), (2, .int j)]) (st' := [.ref b]) (fun _ => rfl) ?_
  refine ea_get rfl rfl ((xmUp_ne _ _ hb).trans hA) rfl ?_
  refine ea_it 2 (pc' := 31) (lv' := [(3, .int (xsAt xs i)), (0, .ref b), (1, .int i), (2, .int j)]) (st' := [.int (xsAt xs i), .int j, .ref dr]) (fun _ => rfl) ?_
  refine ea_callR (As := [.int j, .int (xsAt xs i)]) (st := []) rfl rfl rfl rfl (Nat.le_of_ble_eq_true rfl) (xmUp_self _ _ _) (row_set (xmUp_self _ _ _) hm _ _) ?_
  rw [xmUp_up]
  exact ea_vret rfl rfl
end BatchS
