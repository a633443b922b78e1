/-! WALKING BY COMPUTING: the heap is two lists of cells, ours and the other one's -/
abbrev xE : Type := Nat × Nat × List Int32 × List Int64 × List Value
def xz : xE := (0, 0, [], [], [])
def xD (e : xE) : xmE := bif Nat.beq e.1 7 then xrow e.2.1 e.2.2.1 else bif Nat.beq e.1 2 then (2, e.2.2.2.1.map Value.long) else bif Nat.blt e.1 16 then (e.1, e.2.2.1.map Value.int) else (e.1, e.2.2.2.2)
abbrev xHp : Type := List xE × List xE
def xN0 : Nat := 85
def xL (H : xHp) (a : Nat) : xE := bif Nat.blt a xN0 then H.1.getD a xz else H.2.getD (a - xN0) xz
def xS (H : xHp) (a : Nat) (e : xE) : xHp := bif Nat.blt a xN0 then (H.1.set a e, H.2) else (H.1, H.2.set (a - xN0) e)
def xA (H : xHp) : Nat → xmE := fun a => xD (xL H a)
theorem getD_set_self {l : List xE} {a : Nat} {e : xE} (h : (l.getD a xz).1 ≠ 0) : (l.set a e).getD a xz = e := by
  have hl : a < l.length := by
    by_cases z : a < l.length
    · exact z
    · rw [List.getD_eq_getElem?_getD, List.getElem?_eq_none (by omega)] at h
      exact absurd rfl h
  rw [List.getD_eq_getElem?_getD, List.getElem?_set_self hl]
  rfl
theorem getD_set_ne {l : List xE} {a b : Nat} {e : xE} (h : b ≠ a) : (l.set a e).getD b xz = l.getD b xz := by
  rw [List.getD_eq_getElem?_getD, List.getElem?_set_ne (fun z => h z.symm), List.getD_eq_getElem?_getD]
theorem xL_self {H : xHp} {a : Nat} {e : xE} (h : (xL H a).1 ≠ 0) : xL (xS H a e) a = e := by
  unfold xL xS at *
  cases hb : Nat.blt a xN0 <;> rw [hb] at h <;> exact getD_set_self h
theorem xL_ne {H : xHp} {a b : Nat} {e : xE} (h : b ≠ a) : xL (xS H a e) b = xL H b := by
  unfold xL xS
  cases hb : Nat.blt a xN0 <;> cases hb2 : Nat.blt b xN0
  · refine getD_set_ne (fun z => h ?_)
    have h1 : ¬ a < xN0 := fun z => by rw [show Nat.blt a xN0 = true from Nat.ble_eq_true_of_le z] at hb; cases hb
    have h2 : ¬ b < xN0 := fun z => by rw [show Nat.blt b xN0 = true from Nat.ble_eq_true_of_le z] at hb2; cases hb2
    omega
  · rfl
  · rfl
  · exact getD_set_ne h
theorem xA_S {H : xHp} {a : Nat} {e : xE} (h : (xL H a).1 ≠ 0) : xA (xS H a e) = xmUp (xA H) a (xD e) := by
  funext b
  by_cases z : b = a
  · subst z
    rw [xmUp_self]
    exact congrArg xD (xL_self h)
  · rw [xmUp_ne _ _ z]
    exact congrArg xD (xL_ne z)
abbrev xfC : Type := Nat × xmL × List Value × xHp
theorem xmEA.up {V : xmV} {L : List Nat} {Kc Ks d d' k : Nat} {x : xaC} {r : Option Value} {A' : Nat → xmE} (h : xmEA V L Kc Ks d k x r A') (hd : d ≤ d') : xmEA V L Kc Ks d' k x r A' := by
  intro G hG
  obtain ⟨G', h1, n, hn⟩ := h G hG
  exact ⟨G', h1, n, xmRun_mono (fun j av G r G' z => xmCall_up hd z) hn⟩
def HE (V : xmV) (L : List Nat) (Kc Ks k : Nat) (x : xfC) (r : Option Value) (H' : xHp) : Prop := ∃ d, xmEA V L Kc Ks d k (x.1, x.2.1, x.2.2.1, xA x.2.2.2) r (xA H')
def HC (V : xmV) (L : List Nat) (Kc Ks k : Nat) (av : List Value) (H : xHp) (r : Option Value) (H' : xHp) : Prop := ∃ d, xmCA V L Kc Ks d k av (xA H) r (xA H')
def xCat (st : List Value) : Nat := (st.map fun v => v.category).sum
def xfGet (i : xmI) (x : xfC) : Option xfC := match x.2.2.1 with
  | .ref a :: st => bif Nat.beq i.2.1 3 && (Nat.beq (xL x.2.2.2 a).1 (16 + i.2.2.getD 0 0) && !(Nat.ble 2000 (i.2.2.getD 0 0))) then (match (xL x.2.2.2 a).2.2.2.2[i.2.2.getD 1 0]? with
    | some v => some (x.1 + 3, x.2.1, v :: st, x.2.2.2)
    | none => none) else none
  | _ => none
def xfFit (t : FieldType) (v : Value) : Bool := match t, v with
  | .int, .int _ => true
  | .long, .long _ => true
  | .object _, .ref _ => true
  | .array _, .ref _ => true
  | _, _ => false
def xfPut (i : xmI) (x : xfC) : Option xfC := match x.2.2.1 with
  | v :: .ref a :: st => bif Nat.beq i.2.1 3 && (Nat.beq (xL x.2.2.2 a).1 (16 + i.2.2.getD 0 0) && xfFit (xmTyp (i.2.2.getD 0 0) (i.2.2.getD 1 0)) v) then some (x.1 + 3, x.2.1, st, xS x.2.2.2 a ((xL x.2.2.2 a).1, 0, [], [], (xL x.2.2.2 a).2.2.2.2.set (i.2.2.getD 1 0) v)) else none
  | _ => none
def xsPush (mo : Nat) (xs : List Int32) (v : Int32) : List Int32 := if xs.length < mo then xs ++ [v] else xs
def xsTop (xs : List Int32) : Int32 := xsAt xs (nI xs.length - 1)
def xsSetTop (xs : List Int32) (v : Int32) : List Int32 := xsSet xs (nI xs.length - 1) v
def xfR0 (j n a : Nat) (e : xE) (st : List Value) (x : xfC) : Option xfC := bif (Nat.beq e.1 7 && Nat.beq n 0) && (Nat.ble e.2.1 65536 && Nat.ble (xCat st) 8) then (bif Nat.beq j 1 then some (x.1 + 3, x.2.1, .int (nI e.2.2.1.length) :: st, x.2.2.2) else bif Nat.beq j 4 then some (x.1 + 3, x.2.1, .int (xsTop e.2.2.1) :: st, x.2.2.2) else bif Nat.beq j 8 then some (x.1 + 3, x.2.1, .int (xsTop e.2.2.1) :: st, xS x.2.2.2 a (7, e.2.1, e.2.2.1.dropLast, [], [])) else none) else none
def xfR1 (j n a : Nat) (v : Int32) (e : xE) (st : List Value) (x : xfC) : Option xfC := bif (Nat.beq e.1 7 && Nat.beq n 1) && (Nat.ble e.2.1 65536 && Nat.ble (xCat st) 8) then (bif Nat.beq j 5 then some (x.1 + 3, x.2.1, .int (xsAt e.2.2.1 v) :: st, x.2.2.2) else bif Nat.beq j 2 then some (x.1 + 3, x.2.1, st, xS x.2.2.2 a (7, e.2.1, xsPush e.2.1 e.2.2.1 v, [], [])) else bif Nat.beq j 3 then some (x.1 + 3, x.2.1, st, xS x.2.2.2 a (7, e.2.1, xsCut e.2.2.1 v, [], [])) else bif Nat.beq j 6 then some (x.1 + 3, x.2.1, st, xS x.2.2.2 a (7, e.2.1, xsSetTop e.2.2.1 v, [], [])) else none) else none
def xfR2 (j n a : Nat) (v w : Int32) (e : xE) (st : List Value) (x : xfC) : Option xfC := bif (Nat.beq e.1 7 && Nat.beq n 2) && (Nat.ble e.2.1 65536 && Nat.ble (xCat st) 8) then (bif Nat.beq j 7 then some (x.1 + 3, x.2.1, st, xS x.2.2.2 a (7, e.2.1, xsSet e.2.2.1 v w, [], [])) else none) else none
def xfRow (i : xmI) (x : xfC) : Option xfC := bif Nat.beq i.2.1 3 && Nat.beq (i.2.2.getD 2 0) 0 then (match x.2.2.1 with
  | .ref a :: st => xfR0 (i.2.2.getD 0 0) (i.2.2.getD 1 0) a (xL x.2.2.2 a) st x
  | .int v :: .ref a :: st => xfR1 (i.2.2.getD 0 0) (i.2.2.getD 1 0) a v (xL x.2.2.2 a) st x
  | .int w :: .int v :: .ref a :: st => xfR2 (i.2.2.getD 0 0) (i.2.2.getD 1 0) a v w (xL x.2.2.2 a) st x
  | _ => none) else none
def xfPure (i : xmI) (x : xfC) : Option xfC := match xmPure id i (x.1, x.2.1, x.2.2.1, xm0) with
  | some y => some (y.1, y.2.1, y.2.2.1, x.2.2.2)
  | none => none
def xfGo (i : xmI) (x : xfC) : Option xfC := match i.1 with
  | .getfield _ => xfGet i x
  | .putfield _ => xfPut i x
  | .invokevirtual _ => xfRow i x
  | _ => xfPure i x
def xfIter (k : Nat) : Nat → xfC → Option xfC
  | 0, x => some x
  | n + 1, x => match xmCd k x.1 with
    | some i => match xfGo i x with
      | some x' => xfIter k n x'
      | none => none
    | none => none
theorem bif_some {α : Type} {c : Bool} {f : Option α} {y : α} (h : (bif c then f else none) = some y) : c = true ∧ f = some y := by
  cases c
  · cases h
  · exact ⟨rfl, h⟩
theorem xfFit_ok {V : xmV} {t : FieldType} {v : Value} (h : xfFit t v = true) : narrow t (xmRo V v) = xmRo V v ∧ fits t (xmRo V v) = true := by
  unfold xfFit at h
  split at h
  · exact ⟨rfl, rfl⟩
  · exact ⟨rfl, rfl⟩
  · exact ⟨rfl, rfl⟩
  · exact ⟨rfl, rfl⟩
  · cases h
theorem xD_obj {e : xE} {c : Nat} (h : e.1 = 16 + c) : xD e = (16 + c, e.2.2.2.2) := by
  unfold xD
  have h1 : Nat.beq e.1 7 = false := by cases z : Nat.beq e.1 7 with | false => rfl | true => exact absurd (Nat.eq_of_beq_eq_true z) (by omega)
  have h2 : Nat.beq e.1 2 = false := by cases z : Nat.beq e.1 2 with | false => rfl | true => exact absurd (Nat.eq_of_beq_eq_true z) (by omega)
  have h3 : Nat.blt e.1 16 = false := by cases z : Nat.blt e.1 16 with | false => rfl | true => exact absurd (Nat.le_of_ble_eq_true z) (by omega)
  rw [h1, h2, h3, h]
  rfl
theorem xD_row {e : xE} (h : e.1 = 7) : xD e = xrow e.2.1 e.2.2.1 := by
  unfold xD
  rw [h]
  rfl
section Comp
variable {V : xmV} {L : List Nat} {Kc Ks k : Nat} {r : Option Value} {H H1 H' : xHp} {pc : Nat} {lv lv' : xmL} {st st' : List Value} {aux : List Nat} {idx : Nat} {x x' : xfC}
theorem xs_pure {i : xmI} {A A' : Nat → xmE} {d : Nat} {y : xmC} (hc : xmCd k pc = some i) (h : xmPure id i (pc, lv, st, xm0) = some y) (e : xmEA V L Kc Ks d k (y.1, y.2.1, y.2.2.1, A) r A') : xmEA V L Kc Ks d k (pc, lv, st, A) r A' := by
  intro G hG
  obtain ⟨G', h1, h2⟩ := e G hG
  exact ⟨G', h1, ev_pure (x := (pc, lv, st, G)) hc (xmPure_G G h) h2⟩
theorem xf_pure {i : xmI} (hc : xmCd k x.1 = some i) (h : xfPure i x = some x') (e : HE V L Kc Ks k x' r H') : HE V L Kc Ks k x r H' := by
  unfold xfPure at h
  split at h
  next y hy =>
    cases h
    obtain ⟨d, e⟩ := e
    exact ⟨d, xs_pure hc hy e⟩
  next => cases h
theorem xf_get {i : xmI} (hi : ∃ idx, i.1 = .getfield idx) (hc : xmCd k x.1 = some i) (h : xfGet i x = some x') (e : HE V L Kc Ks k x' r H') : HE V L Kc Ks k x r H' := by
  obtain ⟨ins, len, aux⟩ := i
  obtain ⟨idx, rfl⟩ := hi
  obtain ⟨pc, lv, st0, H⟩ := x
  unfold xfGet at h
  dsimp only at h hc
  split at h
  next a st =>
    have g9 := bif_some h
    clear h
    obtain ⟨hb, h⟩ := g9
    rw [Bool.and_eq_true, Bool.and_eq_true] at hb
    obtain ⟨b1, b2, b3⟩ := hb
    have b1 := Nat.eq_of_beq_eq_true b1
    have b2 := Nat.eq_of_beq_eq_true b2
    subst b1
    split at h
    next v hv =>
      cases h
      obtain ⟨d, e⟩ := e
      refine ⟨d, ea_get hc (by cases z : Nat.ble 2000 (aux.getD 0 0) with | false => rfl | true => rw [z] at b3; cases b3) (xD_obj b2) hv e⟩
    next => cases h
  next => cases h
theorem xf_put {i : xmI} (hi : ∃ idx, i.1 = .putfield idx) (hc : xmCd k x.1 = some i) (h : xfPut i x = some x') (e : HE V L Kc Ks k x' r H') : HE V L Kc Ks k x r H' := by
  obtain ⟨ins, len, aux⟩ := i
  obtain ⟨idx, rfl⟩ := hi
  obtain ⟨pc, lv, st0, H⟩ := x
  unfold xfPut at h
  dsimp only at h hc
  split at h
  next v a st =>
    have g9 := bif_some h
    clear h
    obtain ⟨hb, h⟩ := g9
    rw [Bool.and_eq_true, Bool.and_eq_true] at hb
    obtain ⟨b1, b2, b3⟩ := hb
    have b1 := Nat.eq_of_beq_eq_true b1
    have b2 := Nat.eq_of_beq_eq_true b2
    subst b1
    cases h
    obtain ⟨d, e⟩ := e
    obtain ⟨f1, f2⟩ := xfFit_ok (V := V) b3
    refine ⟨d, ea_put hc (xD_obj b2) f1 f2 ?_⟩
    have hne : (xL H a).1 ≠ 0 := by omega
    dsimp only at e
    rw [xA_S hne, xD_obj (show ((xL H a).1, 0, [], [], (xL H a).2.2.2.2.set (aux.getD 1 0) v).1 = 16 + aux.getD 0 0 from b2)] at e
    exact e
  next => cases h
theorem xf_row {i : xmI} (hi : ∃ idx, i.1 = .invokevirtual idx) (hc : xmCd k x.1 = some i) (h : xfRow i x = some x') (e : HE V L Kc Ks k x' r H') : HE V L Kc Ks k x r H' := by
  obtain ⟨ins, len, aux⟩ := i
  obtain ⟨idx, rfl⟩ := hi
  obtain ⟨pc, lv, st0, H⟩ := x
  unfold xfRow at h
  dsimp only at h hc
  have g9 := bif_some h
  clear h
  obtain ⟨hb, h⟩ := g9
  rw [Bool.and_eq_true] at hb
  obtain ⟨b1, b0⟩ := hb
  have b1 := Nat.eq_of_beq_eq_true b1
  have b0 := Nat.eq_of_beq_eq_true b0
  subst b1
  obtain ⟨d, e⟩ := e
  have e := e.up (Nat.le_add_right d 2)
  split at h
  next a st =>
    unfold xfR0 at h
    have g9 := bif_some h
    clear h
    obtain ⟨hb, h⟩ := g9
    rw [Bool.and_eq_true, Bool.and_eq_true, Bool.and_eq_true] at hb
    obtain ⟨⟨b7, bn⟩, bm, b8⟩ := hb
    have b7 := Nat.eq_of_beq_eq_true b7
    have bn := Nat.eq_of_beq_eq_true bn
    have bm := Nat.le_of_ble_eq_true bm
    have b8 := Nat.le_of_ble_eq_true b8
    have hne : (xL H a).1 ≠ 0 := by omega
    have hA : xA H a = xrow _ _ := xD_row b7
    have up : ∀ xs' : List Int32, xA (xS H a (7, (xL H a).2.1, xs', [], [])) = xmUp (xA H) a (xrow (xL H a).2.1 xs') := fun xs' => by rw [xA_S hne]; rfl
    cases z1 : Nat.beq (aux.getD 0 0) 1 <;> rw [z1] at h
    · cases z2 : Nat.beq (aux.getD 0 0) 4 <;> rw [z2] at h
      · have g9 := bif_some h
        clear h
        obtain ⟨z3, h⟩ := g9
        have z3 := Nat.eq_of_beq_eq_true z3
        cases h
        dsimp only at e
        rw [up] at e
        exact ⟨d + 2, ea_callR (As := []) (r1 := some (.int _)) (st := st) hc b0 rfl bn.symm b8 hA (by rw [z3]; exact row_pop hA bm) e⟩
      · have z2 := Nat.eq_of_beq_eq_true z2
        cases h
        exact ⟨d + 2, ea_callR (As := []) (r1 := some (.int _)) (st := st) hc b0 rfl bn.symm b8 hA (by rw [z2]; exact row_top hA) e⟩
    · have z1 := Nat.eq_of_beq_eq_true z1
      cases h
      exact ⟨d + 2, ea_callR (As := []) (r1 := some (.int _)) (st := st) hc b0 rfl bn.symm b8 hA (by rw [z1]; exact row_size hA) e⟩
  next v a st =>
    unfold xfR1 at h
    have g9 := bif_some h
    clear h
    obtain ⟨hb, h⟩ := g9
    rw [Bool.and_eq_true, Bool.and_eq_true, Bool.and_eq_true] at hb
    obtain ⟨⟨b7, bn⟩, bm, b8⟩ := hb
    have b7 := Nat.eq_of_beq_eq_true b7
    have bn := Nat.eq_of_beq_eq_true bn
    have bm := Nat.le_of_ble_eq_true bm
    have b8 := Nat.le_of_ble_eq_true b8
    have hne : (xL H a).1 ≠ 0 := by omega
    have hA : xA H a = xrow _ _ := xD_row b7
    have up : ∀ xs' : List Int32, xA (xS H a (7, (xL H a).2.1, xs', [], [])) = xmUp (xA H) a (xrow (xL H a).2.1 xs') := fun xs' => by rw [xA_S hne]; rfl
    cases z1 : Nat.beq (aux.getD 0 0) 5 <;> rw [z1] at h
    · cases z2 : Nat.beq (aux.getD 0 0) 2 <;> rw [z2] at h
      · cases z3 : Nat.beq (aux.getD 0 0) 3 <;> rw [z3] at h
        · have g9 := bif_some h
          clear h
          obtain ⟨z4, h⟩ := g9
          have z4 := Nat.eq_of_beq_eq_true z4
          cases h
          dsimp only at e
          rw [up] at e
          exact ⟨d + 2, ea_callR (As := [.int v]) (r1 := none) (st := st) hc b0 rfl bn.symm b8 hA (by rw [z4]; exact row_setTop hA bm v) e⟩
        · have z3 := Nat.eq_of_beq_eq_true z3
          cases h
          dsimp only at e
          rw [up] at e
          exact ⟨d + 2, ea_callR (As := [.int v]) (r1 := none) (st := st) hc b0 rfl bn.symm b8 hA (by rw [z3]; exact row_cut hA bm v) e⟩
      · have z2 := Nat.eq_of_beq_eq_true z2
        cases h
        dsimp only at e
        rw [up] at e
        exact ⟨d + 2, ea_callR (As := [.int v]) (r1 := none) (st := st) hc b0 rfl bn.symm b8 hA (by rw [z2]; exact row_push hA bm v) e⟩
    · have z1 := Nat.eq_of_beq_eq_true z1
      cases h
      exact ⟨d + 2, ea_callR (As := [.int v]) (r1 := some (.int _)) (st := st) hc b0 rfl bn.symm b8 hA (by rw [z1]; exact row_get hA v) e⟩
  next w v a st =>
    unfold xfR2 at h
    have g9 := bif_some h
    clear h
    obtain ⟨hb, h⟩ := g9
    rw [Bool.and_eq_true, Bool.and_eq_true, Bool.and_eq_true] at hb
    obtain ⟨⟨b7, bn⟩, bm, b8⟩ := hb
    have b7 := Nat.eq_of_beq_eq_true b7
    have bn := Nat.eq_of_beq_eq_true bn
    have bm := Nat.le_of_ble_eq_true bm
    have b8 := Nat.le_of_ble_eq_true b8
    have hne : (xL H a).1 ≠ 0 := by omega
    have hA : xA H a = xrow _ _ := xD_row b7
    have up : ∀ xs' : List Int32, xA (xS H a (7, (xL H a).2.1, xs', [], [])) = xmUp (xA H) a (xrow (xL H a).2.1 xs') := fun xs' => by rw [xA_S hne]; rfl
    have g9 := bif_some h
    clear h
    obtain ⟨z1, h⟩ := g9
    have z1 := Nat.eq_of_beq_eq_true z1
    cases h
    dsimp only at e
    rw [up] at e
    exact ⟨d + 2, ea_callR (As := [.int v, .int w]) (r1 := none) (st := st) hc b0 rfl bn.symm b8 hA (by rw [z1]; exact row_set hA bm v w) e⟩
  next => cases h
set_option maxHeartbeats 4000000 in
theorem xf_go {i : xmI} (hc : xmCd k x.1 = some i) (h : xfGo i x = some x') (e : HE V L Kc Ks k x' r H') : HE V L Kc Ks k x r H' := by
  obtain ⟨ins, len, aux⟩ := i
  cases ins
  case getfield idx => exact xf_get ⟨idx, rfl⟩ hc h e
  case putfield idx => exact xf_put ⟨idx, rfl⟩ hc h e
  case invokevirtual idx => exact xf_row ⟨idx, rfl⟩ hc h e
  all_goals exact xf_pure hc h e
theorem h_it (n : Nat) : ∀ {x x' : xfC}, xfIter k n x = some x' → HE V L Kc Ks k x' r H' → HE V L Kc Ks k x r H' := by
  induction n with
  | zero => intro x x' h e; cases h; exact e
  | succ n ih =>
    intro x x' h e
    unfold xfIter at h
    split at h
    next i hi =>
      split at h
      next x1 hx1 => exact xf_go hi hx1 (ih h e)
      next => cases h
    next => cases h
end Comp
