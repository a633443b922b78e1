/-! CONSTRUCTORS BY COMPUTING: a heap as a list of cells in the order of their addresses -/
/-- a cell: kind, length of an array (all its places hold the default), fields of an object -/
abbrev sE : Type := Nat × Nat × List Value
def sD (z : sE) : xmE := bif Nat.blt z.1 16 then (z.1, List.replicate z.2.1 (defaultValue (xmTy z.1))) else (z.1, z.2.2)
abbrev cH : Type := List sE × Nat
abbrev cC : Type := Nat × xmL × List Value × cH
def cG (h : cH) : xmH := (fun a => (h.1.map sD).getD a (0, []), h.1.length, h.2)
def cX (x : cC) : xmC := (x.1, x.2.1, x.2.2.1, cG x.2.2.2)
theorem cG_new (h : cH) (z : sE) (n : Nat) : (xmUp (cG h).1 (cG h).2.1 (sD z), (cG h).2.1 + 1, (cG h).2.2 + n) = cG (h.1 ++ [z], h.2 + n) := by
  unfold cG
  dsimp only
  rw [List.length_append, List.map_append]
  refine Prod.ext ?_ rfl
  funext a
  dsimp only
  have hm : (h.1.map sD).length = h.1.length := List.length_map _
  by_cases e : a = h.1.length
  · subst e
    rw [xmUp_self, List.getD_eq_getElem?_getD, List.getElem?_append_right (Nat.le_of_eq hm), hm, Nat.sub_self]
    rfl
  · rw [xmUp_ne _ _ e, List.getD_eq_getElem?_getD, List.getD_eq_getElem?_getD]
    by_cases e2 : a < h.1.length
    · rw [List.getElem?_append_left (by rw [hm]; exact e2)]
    · rw [List.getElem?_eq_none (by omega), List.getElem?_eq_none (by rw [List.length_append, hm]; show h.1.length + 1 ≤ a; omega)]
theorem cG_set (h : cH) (a : Nat) (z z0 : sE) (h0 : h.1[a]? = some z0) : (xmUp (cG h).1 a (sD z), (cG h).2) = cG (h.1.set a z, h.2) := by
  have hl : a < h.1.length := (List.getElem?_eq_some_iff.mp h0).1
  unfold cG
  dsimp only
  rw [List.length_set, List.map_set]
  refine Prod.ext ?_ rfl
  funext b
  dsimp only
  by_cases e : b = a
  · subst e
    rw [xmUp_self, List.getD_eq_getElem?_getD, List.getElem?_set_self (by rw [List.length_map]; exact hl)]
    rfl
  · rw [xmUp_ne _ _ e, List.getD_eq_getElem?_getD, List.getD_eq_getElem?_getD, List.getElem?_set_ne (fun z => e z.symm)]
theorem cG_at {h : cH} {a : Nat} {z : sE} (h0 : h.1[a]? = some z) : (cG h).1 a = sD z := by
  show (h.1.map sD).getD a (0, []) = sD z
  rw [List.getD_eq_getElem?_getD, List.getElem?_map, h0]
  rfl
theorem sD_obj {z : sE} {c : Nat} (h : z.1 = 16 + c) : sD z = (16 + c, z.2.2) := by
  unfold sD
  rw [h]
  have h1 : Nat.blt (16 + c) 16 = false := by cases e : Nat.blt (16 + c) 16 with | false => rfl | true => exact absurd (Nat.le_of_ble_eq_true e) (by omega)
  rw [h1]
  rfl
theorem sD_arr {t n : Nat} {fs : List Value} (h : Nat.blt t 16 = true) : sD (t, n, fs) = (t, List.replicate n (defaultValue (xmTy t))) := by
  unfold sD
  dsimp only
  rw [h]
  rfl
abbrev cO : Type := Nat → List Value → cH → Option cH
def cNew (i : xmI) (x : cC) : Option cC := some (x.1 + 3, x.2.1, .ref x.2.2.2.1.length :: x.2.2.1, (x.2.2.2.1 ++ [(16 + xmN i 0, 0, xmDef (xmN i 0))], x.2.2.2.2 + (xmDef (xmN i 0)).length))
def cArr (i : xmI) (x : cC) : Option cC := match x.2.2.1 with
  | .int n :: r => bif (!(decide (n < 0)) && Nat.ble n.toNatClampNeg 300000) && Nat.blt (xmN i 0) 16 then some (x.1 + 2, x.2.1, .ref x.2.2.2.1.length :: r, (x.2.2.2.1 ++ [(xmN i 0, n.toNatClampNeg, [])], x.2.2.2.2 + n.toNatClampNeg)) else none
  | _ => none
def cGet (i : xmI) (x : cC) : Option cC := match x.2.2.1 with
  | .ref a :: r => match x.2.2.2.1[a]? with
    | some z => bif Nat.beq z.1 (16 + xmN i 0) && !(Nat.ble 2000 (xmN i 0)) then (match z.2.2[xmN i 1]? with
      | some v => some (x.1 + 3, x.2.1, v :: r, x.2.2.2)
      | none => none) else none
    | none => none
  | _ => none
def cPut (i : xmI) (x : cC) : Option cC := match x.2.2.1 with
  | v :: .ref a :: r => match x.2.2.2.1[a]? with
    | some z => bif Nat.beq z.1 (16 + xmN i 0) && xfFit (xmTyp (xmN i 0) (xmN i 1)) v then some (x.1 + 3, x.2.1, r, (x.2.2.2.1.set a (16 + xmN i 0, 0, z.2.2.set (xmN i 1) v), x.2.2.2.2)) else none
    | none => none
  | _ => none
def cSpec (call : cO) (i : xmI) (x : cC) : Option cC := bif Nat.beq (xmN i 0) 1000 then (match x.2.2.1 with
    | .ref _ :: r => bif Nat.ble (xCat r) 8 then some (x.1 + 3, x.2.1, r, x.2.2.2) else none
    | _ => none)
  else (match x.2.2.1.drop (xmN i 1) with
    | .ref b :: r => bif Nat.ble (xCat r) 8 && Nat.beq (x.2.2.1.take (xmN i 1)).length (xmN i 1) then (match call (xmN i 0) (.ref b :: (x.2.2.1.take (xmN i 1)).reverse) x.2.2.2 with
      | some h => some (x.1 + 3, x.2.1, r, h)
      | none => none) else none
    | _ => none)
def cPure (i : xmI) (x : cC) : Option cC := match xmPure id i (x.1, x.2.1, x.2.2.1, xm0) with
  | some y => some (y.1, y.2.1, y.2.2.1, x.2.2.2)
  | none => none
def cStep (call : cO) (i : xmI) (x : cC) : Option cC := match i.1 with
  | .new _ => cNew i x
  | .newarray _ => cArr i x
  | .getfield _ => cGet i x
  | .putfield _ => cPut i x
  | .invokespecial _ => cSpec call i x
  | _ => cPure i x
def cRets : ClassFile.Instr → Bool
  | .return_ => true
  | _ => false
def cRun (call : cO) (k : Nat) : Nat → cC → Option cH
  | 0, _ => none
  | n + 1, x => match xmCd k x.1 with
    | none => none
    | some i => bif cRets i.1 then (bif (decide (x.2.2.1.length = 0) && (xmRt k).isNone) then some x.2.2.2 else none) else (match cStep call i x with
      | some x' => cRun call k n x'
      | none => none)
def cCall : Nat → cO
  | 0 => fun _ _ _ => none
  | d + 1 => fun k av h => bif Nat.blt k xmCount && Nat.ble (lg_sl av).length (xmML k) then cRun (cCall d) k 300 (0, lv_args 0 av, [], h) else none
def cIter (call : cO) (k : Nat) : Nat → cC → Option cC
  | 0, x => some x
  | n + 1, x => match xmCd k x.1 with
    | none => none
    | some i => match cStep call i x with
      | some x' => cIter call k n x'
      | none => none
theorem cStep_ok {V : xmV} {O : xmO} {call : cO} (hO : ∀ j av h h', call j av h = some h' → O j av (cG h) none (cG h')) {i : xmI} {x x' : cC} (h : cStep call i x = some x') : xmPure id i (cX x) = some (cX x') ∨ xmHR V i (cX x) (cX x') ∨ xmIR O i (cX x) (cX x') := by
  obtain ⟨pc, lv, st, hp⟩ := x
  obtain ⟨ins, len, aux⟩ := i
  have hpure : cPure (ins, len, aux) (pc, lv, st, hp) = some x' → xmPure id (ins, len, aux) (cX (pc, lv, st, hp)) = some (cX x') := by
    intro h
    unfold cPure at h
    split at h
    next y hy => cases h; exact xmPure_G (cG hp) hy
    next => cases h
  cases ins
  case new idx =>
    have h : cNew (ClassFile.Instr.new idx, len, aux) (pc, lv, st, hp) = some x' := h
    unfold cNew at h
    cases h
    refine Or.inr (Or.inl ?_)
    show cX _ = _
    unfold cX
    rw [← cG_new, sD_obj rfl]
    rfl
  case newarray t =>
    have h : cArr (ClassFile.Instr.newarray t, len, aux) (pc, lv, st, hp) = some x' := h
    unfold cArr at h
    split at h
    next n r e =>
      obtain ⟨h1, h2⟩ := bif_some h
      rw [Bool.and_eq_true, Bool.and_eq_true] at h1
      cases h2
      refine Or.inr (Or.inl ⟨n, r, e, ?_, Nat.le_of_ble_eq_true h1.1.2, ?_⟩)
      · intro z
        have h3 := h1.1.1
        rw [decide_eq_true z] at h3
        cases h3
      · unfold cX
        rw [← cG_new, sD_arr h1.2]
        rfl
    next => cases h
  case getfield idx =>
    have h : cGet (ClassFile.Instr.getfield idx, len, aux) (pc, lv, st, hp) = some x' := h
    unfold cGet at h
    split at h
    next a r e =>
      split at h
      next z hz =>
        obtain ⟨h1, h2⟩ := bif_some h
        rw [Bool.and_eq_true] at h1
        split at h2
        next v hv =>
          cases h2
          refine Or.inr (Or.inl (Or.inr ⟨?_, a, z.2.2, v, r, e, ?_, hv, rfl⟩))
          · cases h9 : Nat.ble 2000 (xmN (ClassFile.Instr.getfield idx, len, aux) 0) with
            | true => rw [h9] at h1; cases h1.2
            | false => exact Nat.lt_of_not_le (fun z9 => by rw [Nat.ble_eq_true_of_le z9] at h9; cases h9)
          · show (cG hp).1 a = _
            rw [cG_at hz, sD_obj (Nat.eq_of_beq_eq_true h1.1)]
        next => cases h2
      next => cases h
    next => cases h
  case putfield idx =>
    have h : cPut (ClassFile.Instr.putfield idx, len, aux) (pc, lv, st, hp) = some x' := h
    unfold cPut at h
    split at h
    next v a r e =>
      split at h
      next z hz =>
        obtain ⟨h1, h2⟩ := bif_some h
        rw [Bool.and_eq_true] at h1
        cases h2
        have h3 := xfFit_ok (V := V) h1.2
        refine Or.inr (Or.inl ⟨a, z.2.2, v, r, e, ?_, h3.1, h3.2, ?_⟩)
        · show (cG hp).1 a = _
          rw [cG_at hz, sD_obj (Nat.eq_of_beq_eq_true h1.1)]
        · unfold cX
          rw [← cG_set _ _ _ _ hz, sD_obj rfl]
      next => cases h
    next => cases h
  case invokespecial idx =>
    have h : cSpec call (ClassFile.Instr.invokespecial idx, len, aux) (pc, lv, st, hp) = some x' := h
    unfold cSpec at h
    refine Or.inr (Or.inr ?_)
    cases hb : Nat.beq (xmN (ClassFile.Instr.invokespecial idx, len, aux) 0) 1000 with
    | true =>
      rw [hb, cond_true] at h
      split at h
      next b r e =>
        obtain ⟨h1, h2⟩ := bif_some h
        cases h2
        exact Or.inl ⟨Nat.eq_of_beq_eq_true hb, b, r, e, Nat.le_of_ble_eq_true h1, rfl⟩
      next => cases h
    | false =>
      rw [hb, cond_false] at h
      split at h
      next b r e =>
        obtain ⟨h1, h2⟩ := bif_some h
        rw [Bool.and_eq_true] at h1
        split at h2
        next h9 hc =>
          cases h2
          refine Or.inr ⟨Nat.ne_of_beq_eq_false hb, b, (st.take (xmN (ClassFile.Instr.invokespecial idx, len, aux) 1)).reverse, r, cG h9, ?_, ?_, Nat.le_of_ble_eq_true h1.1, hO _ _ _ _ hc, rfl⟩
          · show st = _
            rw [List.reverse_reverse, ← e]
            exact (List.take_append_drop _ _).symm
          · rw [List.length_reverse]
            exact Nat.eq_of_beq_eq_true h1.2
        next => cases h2
      next => cases h
  all_goals exact Or.inl (hpure h)
theorem cRun_ok {V : xmV} {O : xmO} {call : cO} {k : Nat} (hO : ∀ j av h h', call j av h = some h' → O j av (cG h) none (cG h')) : ∀ {n : Nat} {x : cC} {h' : cH}, cRun call k n x = some h' → ∃ n, xmRun V O k n (cX x) none (cG h') := by
  intro n
  induction n with
  | zero => intro x h' h; cases h
  | succ n ih =>
    intro x h' h
    unfold cRun at h
    split at h
    next => cases h
    next i hi =>
      cases hb : cRets i.1 with
      | true =>
        rw [hb, cond_true] at h
        obtain ⟨h1, h2⟩ := bif_some h
        cases h2
        rw [Bool.and_eq_true, decide_eq_true_eq] at h1
        refine ⟨1, i, hi, Or.inr ⟨?_, rfl⟩⟩
        obtain ⟨ins, len, aux⟩ := i
        cases ins
        case return_ => exact ⟨List.length_eq_zero_iff.mp h1.1, Option.isNone_iff_eq_none.mp h1.2, rfl⟩
        all_goals cases hb
      | false =>
        rw [hb, cond_false] at h
        split at h
        next x' hx =>
          obtain ⟨n2, h2⟩ := ih h
          exact ⟨n2 + 1, i, hi, Or.inl ⟨cX x', cStep_ok hO hx, h2⟩⟩
        next => cases h
theorem cCall_ok {V : xmV} : ∀ {d j : Nat} {av : List Value} {h h' : cH}, cCall d j av h = some h' → xmCall V d j av (cG h) none (cG h') := by
  intro d
  induction d with
  | zero => intro j av h h' e; cases e
  | succ d ih =>
    intro j av h h' e
    obtain ⟨h1, h2⟩ := bif_some (show (bif Nat.blt j xmCount && Nat.ble (lg_sl av).length (xmML j) then cRun (cCall d) j 300 (0, lv_args 0 av, [], h) else none) = some h' from e)
    rw [Bool.and_eq_true] at h1
    exact ⟨Nat.le_of_ble_eq_true h1.1, Nat.le_of_ble_eq_true h1.2, cRun_ok (fun j av h h' z => ih z) h2⟩
/-- equality by computing -/
def vEq : Value → Value → Bool
  | .int x, .int y => decide (x = y)
  | .long x, .long y => decide (x = y)
  | .ref x, .ref y => Nat.beq x y
  | .retAddr x, .retAddr y => Nat.beq x y
  | _, _ => false
theorem vEq_ok {a b : Value} (h : vEq a b = true) : a = b := by
  unfold vEq at h
  split at h
  · exact congrArg _ (of_decide_eq_true h)
  · exact congrArg _ (of_decide_eq_true h)
  · exact congrArg _ (Nat.eq_of_beq_eq_true h)
  · exact congrArg _ (Nat.eq_of_beq_eq_true h)
  · cases h
def lEq {α : Type} (f : α → α → Bool) : List α → List α → Bool
  | [], [] => true
  | a :: r, b :: q => f a b && lEq f r q
  | _, _ => false
theorem lEq_ok {α : Type} {f : α → α → Bool} (hf9 : ∀ a b, f a b = true → a = b) : ∀ {r q : List α}, lEq f r q = true → r = q
  | [], [], _ => rfl
  | a :: r, b :: q, h => by
    have h : (f a b && lEq f r q) = true := h
    rw [Bool.and_eq_true] at h
    rw [hf9 _ _ h.1, lEq_ok hf9 h.2]
  | [], b :: q, h => by cases h
  | a :: r, [], h => by cases h
def sEq (a b : sE) : Bool := Nat.beq a.1 b.1 && (Nat.beq a.2.1 b.2.1 && lEq vEq a.2.2 b.2.2)
theorem sEq_ok (a b : sE) (h : sEq a b = true) : a = b := by
  unfold sEq at h
  rw [Bool.and_eq_true, Bool.and_eq_true] at h
  exact Prod.ext (Nat.eq_of_beq_eq_true h.1) (Prod.ext (Nat.eq_of_beq_eq_true h.2.1) (lEq_ok (fun _ _ => vEq_ok) h.2.2))
def pEq (a b : Nat × Value) : Bool := Nat.beq a.1 b.1 && vEq a.2 b.2
def cEq (a : Option cC) (b : cC) : Bool := match a with
  | some a => Nat.beq a.1 b.1 && (lEq pEq a.2.1 b.2.1 && (lEq vEq a.2.2.1 b.2.2.1 && (lEq sEq a.2.2.2.1 b.2.2.2.1 && Nat.beq a.2.2.2.2 b.2.2.2.2)))
  | none => false
theorem cEq_ok {a : Option cC} {b : cC} (h : cEq a b = true) : a = some b := by
  unfold cEq at h
  split at h
  next a =>
    simp only [Bool.and_eq_true] at h
    obtain ⟨h1, h2, h3, h4, h5⟩ := h
    have hp : ∀ a b, pEq a b = true → a = b := fun a b z => by
      unfold pEq at z
      rw [Bool.and_eq_true] at z
      exact Prod.ext (Nat.eq_of_beq_eq_true z.1) (vEq_ok z.2)
    exact congrArg some (Prod.ext (Nat.eq_of_beq_eq_true h1) (Prod.ext (lEq_ok hp h2) (Prod.ext (lEq_ok (fun _ _ => vEq_ok) h3) (Prod.ext (lEq_ok sEq_ok h4) (Nat.eq_of_beq_eq_true h5)))))
  next => cases h
