/-! PURE PART. Numbers, rows, stacks, states -/
theorem xsGet_n {xs : List Int32} {j : Nat} (h : j < 2 ^ 31) : xsGet xs (nI j) = xs[j]? := by
  unfold xsGet
  rw [if_neg (nI_pos h), nI_clamp h]
theorem xlGet_n {xs : List Int64} {j : Nat} (h : j < 2 ^ 31) : xlGet xs (nI j) = xs[j]? := by
  unfold xlGet
  rw [if_neg (nI_pos h), nI_clamp h]
theorem xsGet_d {xs : List Int32} {j : Nat} (h : j < 2 ^ 31) (hl : j < xs.length) : xsGet xs (nI j) = some (xs.getD j 0) := by
  rw [xsGet_n h, List.getD_eq_getElem?_getD, List.getElem?_eq_getElem hl]
  rfl
theorem xlGet_d {xs : List Int64} {j : Nat} (h : j < 2 ^ 31) (hl : j < xs.length) : xlGet xs (nI j) = some (xs.getD j 0) := by
  rw [xlGet_n h, List.getD_eq_getElem?_getD, List.getElem?_eq_getElem hl]
  rfl
theorem xsPut_n {xs : List Int32} {j : Nat} {v : Int32} (hj : j < 2 ^ 31) (h : j < xs.length) : xsPut xs (nI j) v = some (xs.set j v) := by
  unfold xsPut
  rw [if_neg (nI_pos hj), nI_clamp hj, if_pos h]
theorem xlPut_n {xs : List Int64} {j : Nat} {v : Int64} (hj : j < 2 ^ 31) (h : j < xs.length) : xlPut xs (nI j) v = some (xs.set j v) := by
  unfold xlPut
  rw [if_neg (nI_pos hj), nI_clamp hj, if_pos h]
theorem xsAt_n {xs : List Int32} {j : Nat} (hj : j < 2 ^ 31) : xsAt xs (nI j) = xs.getD j 0 := by
  unfold xsAt
  rw [if_neg (nI_pos hj), nI_clamp hj]
theorem xsSet_n {xs : List Int32} {j : Nat} {v : Int32} (hj : j < 2 ^ 31) : xsSet xs (nI j) v = xs.set j v := by
  unfold xsSet
  rw [if_neg (nI_pos hj), nI_clamp hj]
theorem xsCut_n {xs : List Int32} {j : Nat} (hj : j < 2 ^ 31) : xsCut xs (nI j) = xs.take j := by
  unfold xsCut
  rw [if_neg (nI_pos hj), nI_clamp hj]
theorem xsCut_0 (xs : List Int32) : xsCut xs 0 = [] := by
  have h := xsCut_n (xs := xs) (j := 0) (by decide)
  rw [nI_0] at h
  rw [h, List.take_zero]
theorem xsPush_n {xs : List Int32} {mo : Nat} {v : Int32} (h : xs.length < mo) : xsPush mo xs v = xs ++ [v] := if_pos h
theorem xsTop_r {x : Int32} {st : List Int32} (h : st.length < 2 ^ 31) : xsTop (x :: st).reverse = x := by
  unfold xsTop
  rw [List.length_reverse, List.length_cons, nI_pred, xsAt_n h, List.reverse_cons, List.getD_eq_getElem?_getD, List.getElem?_append_right (by rw [List.length_reverse]; exact Nat.le_refl _), List.length_reverse, Nat.sub_self]
  rfl
theorem xsSetTop_r {x v : Int32} {st : List Int32} (h : st.length < 2 ^ 31) : xsSetTop (x :: st).reverse v = (v :: st).reverse := by
  unfold xsSetTop
  rw [List.length_reverse, List.length_cons, nI_pred, xsSet_n h, List.reverse_cons, List.reverse_cons, List.set_append_right _ _ (by rw [List.length_reverse]; exact Nat.le_refl _), List.length_reverse, Nat.sub_self]
  rfl
theorem xsPop_r {x : Int32} {st : List Int32} : (x :: st).reverse.dropLast = st.reverse := by
  rw [List.reverse_cons, List.dropLast_concat]
theorem xsPush_r {st : List Int32} {mo : Nat} {v : Int32} (h : st.length < mo) : xsPush mo st.reverse v = (v :: st).reverse := by
  rw [xsPush_n (by rw [List.length_reverse]; exact h), List.reverse_cons]
theorem xsTop_0 : xsTop [] = 0 := by decide
theorem getD_set_n {α : Type} {xs : List α} {i j : Nat} {v d : α} : (xs.set i v).getD j d = if i = j ∧ i < xs.length then v else xs.getD j d := by
  rw [List.getD_eq_getElem?_getD, List.getElem?_set, List.getD_eq_getElem?_getD]
  by_cases h : i = j
  · subst h
    by_cases hl : i < xs.length
    · rw [if_pos rfl, if_pos hl, if_pos ⟨rfl, hl⟩]
      rfl
    · rw [if_pos rfl, if_neg hl, if_neg (fun z => hl z.2), List.getElem?_eq_none (by omega)]
  · rw [if_neg h, if_neg (fun z => h z.1)]
theorem getD_app_l {α : Type} {xs ys : List α} {j : Nat} {d : α} (h : j < xs.length) : (xs ++ ys).getD j d = xs.getD j d := by
  rw [List.getD_eq_getElem?_getD, List.getElem?_append_left h, List.getD_eq_getElem?_getD]
theorem getD_app_e {α : Type} {xs : List α} {v d : α} : (xs ++ [v]).getD xs.length d = v := by
  rw [List.getD_eq_getElem?_getD, List.getElem?_append_right (Nat.le_refl _), Nat.sub_self]
  rfl
theorem getD_take_n {α : Type} {xs : List α} {n j : Nat} {d : α} (h : j < n) : (xs.take n).getD j d = xs.getD j d := by
  rw [List.getD_eq_getElem?_getD, List.getElem?_take, if_pos h, List.getD_eq_getElem?_getD]
theorem take_set_e {α : Type} {xs : List α} {n : Nat} {v : α} (h : n < xs.length) : (xs.set n v).take (n + 1) = xs.take n ++ [v] := by
  rw [List.take_add_one, List.take_set_of_le (Nat.le_refl _), List.getElem?_set_self h]
  rfl
theorem take_one_more {xs : List Int32} {n : Nat} (h : n < xs.length) : xs.take (n + 1) = xs.take n ++ [xs.getD n 0] := by
  rw [List.take_add_one, List.getD_eq_getElem?_getD, List.getElem?_eq_getElem h]
  rfl
theorem iv_n {a : Int32} (h : ¬ a < 0) : ∃ n, n < 2 ^ 31 ∧ a = nI n := by
  obtain ⟨n, hn, e⟩ := nI_of h
  exact ⟨n, hn, e⟩
theorem nI_subI {a b : Nat} (h : b ≤ a) : nI a - nI b = nI (a - b) := by
  have h1 : nI (a - b) + nI b = nI a := by rw [nI_add]; congr 1; omega
  rw [← h1]
  exact Int32.add_sub_cancel _ _

theorem bUp_if {α : Type} (f : Nat → α) (a : Nat) (x : α) (j : Nat) : bUp f a x j = if j = a then x else f j := by
  unfold bUp
  by_cases h : j = a
  · subst h
    rw [if_pos rfl, Nat.beq_refl]
    rfl
  · rw [if_neg h, show Nat.beq j a = false from by cases e : Nat.beq j a with | false => rfl | true => exact absurd (Nat.eq_of_beq_eq_true e) h]
    rfl
theorem zUp_s {α : Type} (f : Bool → α) (a : Bool) (x : α) : zUp f a x a = x := by cases a <;> rfl
theorem zUp_n {α : Type} (f : Bool → α) (a : Bool) (x : α) : zUp f a x (!a) = f (!a) := by cases a <;> rfl
theorem bUp_bUp {α : Type} (f : Nat → α) (i : Nat) (a b : α) : bUp (bUp f i a) i b = bUp f i b := by
  funext j
  unfold bUp
  cases Nat.beq j i <;> rfl
theorem bUp_id {α : Type} (f : Nat → α) (i : Nat) : bUp f i (f i) = f := by
  funext j
  rw [bUp_if]
  by_cases h : j = i
  · rw [if_pos h, h]
  · rw [if_neg h]
theorem sR_id (s : xSt) (i : Nat) : sR s i (gR s i) = s := by
  show (bUp s.1 i (s.1 i), s.2) = s
  rw [bUp_id]
theorem nI_dec (n : Nat) : nI (n + 1) + (-1) = nI n := by
  rw [nI_succ, Int32.add_assoc, show (1 : Int32) + (-1) = 0 from rfl, Int32.add_zero]
theorem getD_push {α : Type} {xs : List α} {i : Nat} {v d : α} : (xs ++ [v]).getD i d = if i = xs.length then v else xs.getD i d := by
  rw [List.getD_eq_getElem?_getD, List.getD_eq_getElem?_getD]
  by_cases h : i = xs.length
  · rw [if_pos h, h, List.getElem?_append_right (Nat.le_refl _), Nat.sub_self]
    rfl
  · rw [if_neg h]
    by_cases h2 : i < xs.length
    · rw [List.getElem?_append_left h2]
    · rw [List.getElem?_eq_none (by rw [List.length_append]; show xs.length + 1 ≤ i; omega), List.getElem?_eq_none (by omega)]
theorem getD_setn {α : Type} {xs : List α} {n i : Nat} {v d : α} (h : n < xs.length) : (xs.set n v).getD i d = if i = n then v else xs.getD i d := by
  rw [List.getD_eq_getElem?_getD, List.getD_eq_getElem?_getD, List.getElem?_set]
  by_cases z : i = n
  · rw [if_pos z, if_pos z.symm, if_pos h]
    rfl
  · rw [if_neg z, if_neg (fun e => z e.symm)]
/-- an array that begins with a list -/
def ArrR (ys xs : List Int32) : Prop := xs.length ≤ ys.length ∧ ∀ j, j < xs.length → ys.getD j 0 = xs.getD j 0

theorem gR_sR (s : xSt) (i : Nat) (v : List Int32) (j : Nat) : gR (sR s i v) j = if j = i then v else gR s j := bUp_if _ _ _ _
theorem gR_sI (s : xSt) (i : Nat) (v : Int32) (j : Nat) : gR (sI s i v) j = gR s j := rfl
theorem gR_sJ (s : xSt) (i : Nat) (v : Int64) (j : Nat) : gR (sJ s i v) j = gR s j := rfl
theorem gR_sL (s : xSt) (i : Nat) (v : List Int64) (j : Nat) : gR (sL s i v) j = gR s j := rfl
theorem gR_sZ (s : xSt) (i : Nat) (v : Bool) (j : Nat) : gR (sZ s i v) j = gR s j := rfl
theorem gR_sP (s : xSt) (z : Bool) (i : Nat) (v : List Int32) (j : Nat) : gR (sP s z i v) j = gR s j := rfl
theorem gR_sN (s : xSt) (z : Bool) (v : List Int64) (j : Nat) : gR (sN s z v) j = gR s j := rfl
theorem gI_sR (s : xSt) (i : Nat) (v : List Int32) (j : Nat) : gI (sR s i v) j = gI s j := rfl
theorem gI_sI (s : xSt) (i : Nat) (v : Int32) (j : Nat) : gI (sI s i v) j = if j = i then v else gI s j := bUp_if _ _ _ _
theorem gI_sJ (s : xSt) (i : Nat) (v : Int64) (j : Nat) : gI (sJ s i v) j = gI s j := rfl
theorem gI_sL (s : xSt) (i : Nat) (v : List Int64) (j : Nat) : gI (sL s i v) j = gI s j := rfl
theorem gI_sZ (s : xSt) (i : Nat) (v : Bool) (j : Nat) : gI (sZ s i v) j = gI s j := rfl
theorem gI_sP (s : xSt) (z : Bool) (i : Nat) (v : List Int32) (j : Nat) : gI (sP s z i v) j = gI s j := rfl
theorem gI_sN (s : xSt) (z : Bool) (v : List Int64) (j : Nat) : gI (sN s z v) j = gI s j := rfl
theorem gJ_sR (s : xSt) (i : Nat) (v : List Int32) (j : Nat) : gJ (sR s i v) j = gJ s j := rfl
theorem gJ_sI (s : xSt) (i : Nat) (v : Int32) (j : Nat) : gJ (sI s i v) j = gJ s j := rfl
theorem gJ_sJ (s : xSt) (i : Nat) (v : Int64) (j : Nat) : gJ (sJ s i v) j = if j = i then v else gJ s j := bUp_if _ _ _ _
theorem gJ_sL (s : xSt) (i : Nat) (v : List Int64) (j : Nat) : gJ (sL s i v) j = gJ s j := rfl
theorem gJ_sZ (s : xSt) (i : Nat) (v : Bool) (j : Nat) : gJ (sZ s i v) j = gJ s j := rfl
theorem gJ_sP (s : xSt) (z : Bool) (i : Nat) (v : List Int32) (j : Nat) : gJ (sP s z i v) j = gJ s j := rfl
theorem gJ_sN (s : xSt) (z : Bool) (v : List Int64) (j : Nat) : gJ (sN s z v) j = gJ s j := rfl
theorem gL_sR (s : xSt) (i : Nat) (v : List Int32) (j : Nat) : gL (sR s i v) j = gL s j := rfl
theorem gL_sI (s : xSt) (i : Nat) (v : Int32) (j : Nat) : gL (sI s i v) j = gL s j := rfl
theorem gL_sJ (s : xSt) (i : Nat) (v : Int64) (j : Nat) : gL (sJ s i v) j = gL s j := rfl
theorem gL_sL (s : xSt) (i : Nat) (v : List Int64) (j : Nat) : gL (sL s i v) j = if j = i then v else gL s j := bUp_if _ _ _ _
theorem gL_sZ (s : xSt) (i : Nat) (v : Bool) (j : Nat) : gL (sZ s i v) j = gL s j := rfl
theorem gL_sP (s : xSt) (z : Bool) (i : Nat) (v : List Int32) (j : Nat) : gL (sP s z i v) j = gL s j := rfl
theorem gL_sN (s : xSt) (z : Bool) (v : List Int64) (j : Nat) : gL (sN s z v) j = gL s j := rfl
theorem gZ_sR (s : xSt) (i : Nat) (v : List Int32) (j : Nat) : gZ (sR s i v) j = gZ s j := rfl
theorem gZ_sI (s : xSt) (i : Nat) (v : Int32) (j : Nat) : gZ (sI s i v) j = gZ s j := rfl
theorem gZ_sJ (s : xSt) (i : Nat) (v : Int64) (j : Nat) : gZ (sJ s i v) j = gZ s j := rfl
theorem gZ_sL (s : xSt) (i : Nat) (v : List Int64) (j : Nat) : gZ (sL s i v) j = gZ s j := rfl
theorem gZ_sZ (s : xSt) (i : Nat) (v : Bool) (j : Nat) : gZ (sZ s i v) j = if j = i then v else gZ s j := bUp_if _ _ _ _
theorem gZ_sP (s : xSt) (z : Bool) (i : Nat) (v : List Int32) (j : Nat) : gZ (sP s z i v) j = gZ s j := rfl
theorem gZ_sN (s : xSt) (z : Bool) (v : List Int64) (j : Nat) : gZ (sN s z v) j = gZ s j := rfl
theorem gP_sR (s : xSt) (i : Nat) (v : List Int32) (y : Bool) (j : Nat) : gP (sR s i v) y j = gP s y j := rfl
theorem gP_sI (s : xSt) (i : Nat) (v : Int32) (y : Bool) (j : Nat) : gP (sI s i v) y j = gP s y j := rfl
theorem gP_sJ (s : xSt) (i : Nat) (v : Int64) (y : Bool) (j : Nat) : gP (sJ s i v) y j = gP s y j := rfl
theorem gP_sL (s : xSt) (i : Nat) (v : List Int64) (y : Bool) (j : Nat) : gP (sL s i v) y j = gP s y j := rfl
theorem gP_sZ (s : xSt) (i : Nat) (v : Bool) (y : Bool) (j : Nat) : gP (sZ s i v) y j = gP s y j := rfl
theorem gP_sN (s : xSt) (z : Bool) (v : List Int64) (y : Bool) (j : Nat) : gP (sN s z v) y j = gP s y j := rfl
theorem gN_sR (s : xSt) (i : Nat) (v : List Int32) (y : Bool) : gN (sR s i v) y = gN s y := rfl
theorem gN_sI (s : xSt) (i : Nat) (v : Int32) (y : Bool) : gN (sI s i v) y = gN s y := rfl
theorem gN_sJ (s : xSt) (i : Nat) (v : Int64) (y : Bool) : gN (sJ s i v) y = gN s y := rfl
theorem gN_sL (s : xSt) (i : Nat) (v : List Int64) (y : Bool) : gN (sL s i v) y = gN s y := rfl
theorem gN_sZ (s : xSt) (i : Nat) (v : Bool) (y : Bool) : gN (sZ s i v) y = gN s y := rfl
theorem gN_sP (s : xSt) (z : Bool) (i : Nat) (v : List Int32) (y : Bool) : gN (sP s z i v) y = gN s y := rfl
theorem gP_sP (s : xSt) (z : Bool) (i : Nat) (v : List Int32) (j : Nat) : gP (sP s z i v) z j = if j = i then v else gP s z j := by
  show zUp s.2.2.2.2.2.1 z (bUp (s.2.2.2.2.2.1 z) i v) z j = _
  rw [zUp_s]
  exact bUp_if _ _ _ _
theorem gP_sQ (s : xSt) (z : Bool) (i : Nat) (v : List Int32) (j : Nat) : gP (sP s z i v) (!z) j = gP s (!z) j := by
  show zUp s.2.2.2.2.2.1 z (bUp (s.2.2.2.2.2.1 z) i v) (!z) j = _
  rw [zUp_n]
  rfl
theorem gN_sN (s : xSt) (z : Bool) (v : List Int64) : gN (sN s z v) z = v := zUp_s _ _ _
theorem gN_sM (s : xSt) (z : Bool) (v : List Int64) : gN (sN s z v) (!z) = gN s (!z) := zUp_n _ _ _
theorem sR_sR (s : xSt) (i : Nat) (a b : List Int32) : sR (sR s i a) i b = sR s i b := by
  show (bUp (bUp s.1 i a) i b, s.2) = (bUp s.1 i b, s.2)
  rw [bUp_bUp]
theorem sI_sI (s : xSt) (i : Nat) (a b : Int32) : sI (sI s i a) i b = sI s i b := by
  show (s.1, bUp (bUp s.2.1 i a) i b, s.2.2) = (s.1, bUp s.2.1 i b, s.2.2)
  rw [bUp_bUp]
theorem sZ_sZ (s : xSt) (i : Nat) (a b : Bool) : sZ (sZ s i a) i b = sZ s i b := by
  show (s.1, s.2.1, s.2.2.1, s.2.2.2.1, bUp (bUp s.2.2.2.2.1 i a) i b, s.2.2.2.2.2) = (s.1, s.2.1, s.2.2.1, s.2.2.2.1, bUp s.2.2.2.2.1 i b, s.2.2.2.2.2)
  rw [bUp_bUp]
theorem sJ_sJ (s : xSt) (i : Nat) (a b : Int64) : sJ (sJ s i a) i b = sJ s i b := by
  show (s.1, s.2.1, bUp (bUp s.2.2.1 i a) i b, s.2.2.2) = (s.1, s.2.1, bUp s.2.2.1 i b, s.2.2.2)
  rw [bUp_bUp]
theorem sL_sL (s : xSt) (i : Nat) (a b : List Int64) : sL (sL s i a) i b = sL s i b := by
  show (s.1, s.2.1, s.2.2.1, bUp (bUp s.2.2.2.1 i a) i b, s.2.2.2.2) = (s.1, s.2.1, s.2.2.1, bUp s.2.2.2.1 i b, s.2.2.2.2)
  rw [bUp_bUp]
