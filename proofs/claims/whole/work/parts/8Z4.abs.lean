/-! the heap behind the constructors, as states (printed by absinit.py) -/
theorem xD_i1 (n : Nat) : xD (1, 0, List.replicate n 0, [], []) = sD (1, n, []) := by
  show ((1 : Nat), (List.replicate n (0 : Int32)).map Value.int) = (1, List.replicate n (.int 0))
  rw [List.map_replicate]
theorem xD_i3 (n : Nat) : xD (3, 0, List.replicate n 0, [], []) = sD (3, n, []) := by
  show ((3 : Nat), (List.replicate n (0 : Int32)).map Value.int) = (3, List.replicate n (.int 0))
  rw [List.map_replicate]
theorem xD_i4 (n : Nat) : xD (4, 0, List.replicate n 0, [], []) = sD (4, n, []) := by
  show ((4 : Nat), (List.replicate n (0 : Int32)).map Value.int) = (4, List.replicate n (.int 0))
  rw [List.map_replicate]
theorem xD_l (n : Nat) : xD (2, 0, [], List.replicate n 0, []) = sD (2, n, []) := by
  show ((2 : Nat), (List.replicate n (0 : Int64)).map Value.long) = (2, List.replicate n (.long 0))
  rw [List.map_replicate]
def Al : List xE → List sE → Prop
  | [], [] => True
  | e :: r, z :: q => ((xD e).1 = 0 ∨ (xD e).1 = 7 ∨ xD e = sD z) ∧ Al r q
  | _, _ => False
theorem Al_len : ∀ {r : List xE} {q : List sE}, Al r q → r.length = q.length
  | [], [], _ => rfl
  | _ :: _, _ :: _, h => congrArg (· + 1) (Al_len h.2)
  | [], _ :: _, h => h.elim
  | _ :: _, [], h => h.elim
theorem Al_at : ∀ {r : List xE} {q : List sE}, Al r q → ∀ a, (xD (r.getD a xz)).1 ≠ 0 → a < q.length ∧ ((xD (r.getD a xz)).1 ≠ 7 → (q.map sD).getD a (0, []) = xD (r.getD a xz))
  | [], [], _, a, h0 => absurd rfl h0
  | e :: r, z :: q, h, 0, h0 => ⟨Nat.succ_pos _, fun h7 => by
      rcases h.1 with h1 | h1 | h1
      · exact absurd h1 h0
      · exact absurd h1 h7
      · exact h1.symm⟩
  | e :: r, z :: q, h, a + 1, h0 => by
      have h2 := Al_at h.2 a h0
      exact ⟨Nat.succ_lt_succ h2.1, h2.2⟩
  | [], _ :: _, h, _, _ => h.elim
  | _ :: _, [], h, _, _ => h.elim
set_option maxRecDepth 100000 in
theorem al_c : Al (hpC iS) (h0.take 85) := ⟨Or.inr (Or.inr rfl),
  Or.inr (Or.inr rfl),
  Or.inr (Or.inl rfl),
  Or.inl rfl,
  Or.inr (Or.inl rfl),
  Or.inl rfl,
  Or.inr (Or.inl rfl),
  Or.inl rfl,
  Or.inr (Or.inl rfl),
  Or.inl rfl,
  Or.inr (Or.inl rfl),
  Or.inl rfl,
  Or.inr (Or.inr (xD_l _)),
  Or.inr (Or.inl rfl),
  Or.inl rfl,
  Or.inr (Or.inl rfl),
  Or.inl rfl,
  Or.inr (Or.inl rfl),
  Or.inl rfl,
  Or.inr (Or.inl rfl),
  Or.inl rfl,
  Or.inr (Or.inl rfl),
  Or.inl rfl,
  Or.inr (Or.inr rfl),
  Or.inr (Or.inl rfl),
  Or.inl rfl,
  Or.inr (Or.inl rfl),
  Or.inl rfl,
  Or.inr (Or.inl rfl),
  Or.inl rfl,
  Or.inr (Or.inl rfl),
  Or.inl rfl,
  Or.inr (Or.inl rfl),
  Or.inl rfl,
  Or.inr (Or.inr (xD_l _)),
  Or.inr (Or.inl rfl),
  Or.inl rfl,
  Or.inr (Or.inl rfl),
  Or.inl rfl,
  Or.inr (Or.inl rfl),
  Or.inl rfl,
  Or.inr (Or.inl rfl),
  Or.inl rfl,
  Or.inr (Or.inl rfl),
  Or.inl rfl,
  Or.inr (Or.inl rfl),
  Or.inl rfl,
  Or.inr (Or.inr rfl),
  Or.inr (Or.inr rfl),
  Or.inr (Or.inr rfl),
  Or.inr (Or.inr (xD_l _)),
  Or.inr (Or.inl rfl),
  Or.inl rfl,
  Or.inr (Or.inl rfl),
  Or.inl rfl,
  Or.inr (Or.inl rfl),
  Or.inl rfl,
  Or.inr (Or.inr rfl),
  Or.inr (Or.inl rfl),
  Or.inl rfl,
  Or.inr (Or.inl rfl),
  Or.inl rfl,
  Or.inr (Or.inl rfl),
  Or.inl rfl,
  Or.inr (Or.inr (xD_i1 _)),
  Or.inr (Or.inr rfl),
  Or.inr (Or.inl rfl),
  Or.inl rfl,
  Or.inr (Or.inl rfl),
  Or.inl rfl,
  Or.inr (Or.inl rfl),
  Or.inl rfl,
  Or.inr (Or.inl rfl),
  Or.inl rfl,
  Or.inr (Or.inl rfl),
  Or.inl rfl,
  Or.inr (Or.inl rfl),
  Or.inl rfl,
  Or.inr (Or.inl rfl),
  Or.inl rfl,
  Or.inr (Or.inr rfl),
  Or.inr (Or.inl rfl),
  Or.inl rfl,
  Or.inr (Or.inl rfl),
  Or.inl rfl,
  trivial⟩
set_option maxRecDepth 100000 in
theorem al_r : Al (hpR iT) (h0.drop 85) := ⟨Or.inr (Or.inr rfl),
  Or.inr (Or.inr (xD_i3 _)),
  Or.inr (Or.inr rfl),
  Or.inr (Or.inr (xD_i3 _)),
  Or.inr (Or.inr (xD_i1 _)),
  Or.inr (Or.inr (xD_i1 _)),
  Or.inr (Or.inr (xD_i1 _)),
  Or.inr (Or.inr (xD_i1 _)),
  Or.inr (Or.inr (xD_i1 _)),
  Or.inr (Or.inr (xD_l _)),
  Or.inr (Or.inr (xD_l _)),
  Or.inr (Or.inr (xD_i1 _)),
  Or.inr (Or.inr (xD_i1 _)),
  Or.inr (Or.inr (xD_i1 _)),
  Or.inr (Or.inr (xD_i1 _)),
  Or.inr (Or.inr (xD_i1 _)),
  Or.inr (Or.inr (xD_i1 _)),
  Or.inr (Or.inr (xD_i1 _)),
  Or.inr (Or.inr (xD_i1 _)),
  Or.inr (Or.inr (xD_l _)),
  Or.inr (Or.inr (xD_l _)),
  Or.inr (Or.inr (xD_i3 _)),
  Or.inr (Or.inr (xD_i1 _)),
  Or.inr (Or.inr rfl),
  Or.inr (Or.inr (xD_i4 _)),
  Or.inr (Or.inr (xD_l _)),
  Or.inr (Or.inr (xD_i1 _)),
  Or.inr (Or.inr (xD_i1 _)),
  Or.inr (Or.inr (xD_l _)),
  Or.inr (Or.inr (xD_i1 _)),
  Or.inr (Or.inr (xD_i1 _)),
  Or.inr (Or.inr (xD_i1 _)),
  Or.inr (Or.inr (xD_l _)),
  Or.inr (Or.inr (xD_l _)),
  Or.inr (Or.inr (xD_i1 _)),
  Or.inr (Or.inr (xD_i1 _)),
  Or.inr (Or.inr (xD_i1 _)),
  Or.inr (Or.inr (xD_i1 _)),
  Or.inr (Or.inr (xD_i1 _)),
  Or.inr (Or.inr (xD_i1 _)),
  Or.inr (Or.inr (xD_i1 _)),
  Or.inr (Or.inr (xD_i1 _)),
  Or.inr (Or.inr (xD_i1 _)),
  Or.inr (Or.inr (xD_i1 _)),
  Or.inr (Or.inr (xD_i1 _)),
  Or.inr (Or.inr (xD_i1 _)),
  Or.inr (Or.inr (xD_i1 _)),
  Or.inr (Or.inr (xD_i1 _)),
  Or.inr (Or.inr (xD_i1 _)),
  Or.inr (Or.inr (xD_i1 _)),
  Or.inr (Or.inr (xD_i1 _)),
  Or.inr (Or.inr (xD_i1 _)),
  Or.inr (Or.inr (xD_i1 _)),
  Or.inr (Or.inr (xD_i1 _)),
  Or.inr (Or.inr (xD_i1 _)),
  Or.inr (Or.inr (xD_i1 _)),
  Or.inr (Or.inr (xD_i1 _)),
  Or.inr (Or.inr (xD_i1 _)),
  Or.inr (Or.inr (xD_i1 _)),
  Or.inr (Or.inr (xD_i1 _)),
  Or.inr (Or.inr (xD_i1 _)),
  Or.inr (Or.inr (xD_i1 _)),
  Or.inr (Or.inr (xD_i1 _)),
  Or.inr (Or.inr (xD_i1 _)),
  Or.inr (Or.inr (xD_i1 _)),
  Or.inr (Or.inr (xD_i1 _)),
  Or.inr (Or.inr (xD_i1 _)),
  Or.inr (Or.inr (xD_l _)),
  trivial⟩
def moF (a : Nat) : Nat := (Lm.getD (Lr.idxOf a) 0)
def chkRow (a : Nat) : Bool := (Nat.beq (xL (hpC iS, hpR iT) a).1 7 && (Nat.beq (xL (hpC iS, hpR iT) a).2.1 (moF a) && (xL (hpC iS, hpR iT) a).2.2.1.isEmpty)) && ((sEq (h0.getD a (0, 0, [])) (16, 0, [.int (nI (moF a)), .ref (a + 1), .int 0]) && sEq (h0.getD (a + 1) (0, 0, [])) (1, 16, [])) && ((Nat.ble 16 (moF a) && Nat.ble (moF a) 65536) && (Nat.beq (xL (hpC iS, hpR iT) (a + 1)).1 0 && Nat.blt (a + 1) 153)))
theorem chk_rows : Lr.all chkRow = true := by decide +kernel
theorem rows_in : (List.range 153).all (fun a => !(Nat.beq (xL (hpC iS, hpR iT) a).1 7) || Lr.contains a) = true := by decide +kernel
theorem h0_len : h0.length = 153 := by decide +kernel
theorem kinds_le : (List.range 153).all (fun a => Nat.beq (xL (hpC iS, hpR iT) a).1 7 || !(Nat.beq (xD (xL (hpC iS, hpR iT) a)).1 7)) = true := by decide +kernel
theorem cg_len : (cG (h0, u0)).2.1 = 153 := by
  unfold cG
  exact h0_len
theorem cg_slots : (cG (h0, u0)).2.2 = 730919 := rfl
theorem getD_map0 (a : Nat) : (h0.map sD).getD a (0, []) = (if a < 153 then sD (h0.getD a (0, 0, [])) else (0, [])) := by
  rw [List.getD_eq_getElem?_getD, List.getElem?_map, List.getD_eq_getElem?_getD]
  by_cases z : a < 153
  · rw [if_pos z, List.getElem?_eq_getElem (show a < h0.length from by rw [h0_len]; exact z)]
    rfl
  · rw [if_neg z, List.getElem?_eq_none (show h0.length ≤ a from by rw [h0_len]; omega)]
    rfl
theorem lt_of_kind {a : Nat} (h : (xA (hpC iS, hpR iT) a).1 ≠ 0) : a < 153 ∧ ((xA (hpC iS, hpR iT) a).1 ≠ 7 → (cG (h0, u0)).1 a = xA (hpC iS, hpR iT) a) := by
  unfold xA xL at h ⊢
  show a < 153 ∧ (_ → (h0.map sD).getD a (0, []) = _)
  cases hb : Nat.blt a xN0 with
  | true =>
    rw [hb] at h
    have hlt : a < 85 := Nat.le_of_ble_eq_true hb
    have h1 := Al_at al_c a h
    refine ⟨by omega, fun h7 => ?_⟩
    rw [cond_true] at h7 ⊢
    rw [← h1.2 h7, List.map_take, List.getD_eq_getElem?_getD, List.getD_eq_getElem?_getD, List.getElem?_take_of_lt hlt]
  | false =>
    rw [hb] at h
    have hge : ¬ a < 85 := fun z => by rw [show Nat.blt a xN0 = true from Nat.ble_eq_true_of_le z] at hb; cases hb
    have h1 := Al_at al_r (a - 85) h
    have h2 : (h0.drop 85).length = 68 := rfl
    refine ⟨by have := h1.1; omega, fun h7 => ?_⟩
    rw [cond_false] at h7 ⊢
    have h3 := h1.2 h7
    show _ = xD ((hpR iT).getD (a - 85) xz)
    rw [← h3, List.map_drop, List.getD_eq_getElem?_getD, List.getD_eq_getElem?_getD, List.getElem?_drop]
    congr 2
    omega
theorem ab_start {Kc Ks : Nat} (hc : 105184 ≤ Kc) (hs : 1046588 ≤ Ks) : xmAb Lr Kc Ks (xA (hpC iS, hpR iT)) (cG (h0, u0)) := by
  refine ⟨moF, fun a => a + 1, fun _ => 16, by decide, fun a ha => ?_, fun a ha => ?_, fun a _ b _ h => Nat.succ.inj h, fun a ha => lt_of_kind ha, ?_, ?_⟩
  · have hlt := (lt_of_kind (a := a) (by rw [ha]; decide)).1
    have h1 := List.all_eq_true.mp rows_in a (List.mem_range.mpr hlt)
    have h2 := List.all_eq_true.mp kinds_le a (List.mem_range.mpr hlt)
    rw [show Nat.beq (xD (xL (hpC iS, hpR iT) a)).1 7 = true from by rw [show (xD (xL (hpC iS, hpR iT) a)).1 = 7 from ha]; rfl] at h2
    simp only [Bool.or_eq_true, Bool.not_true, Bool.false_eq_true, or_false] at h2
    rw [h2] at h1
    simp only [Bool.not_true, Bool.false_or] at h1
    exact List.contains_iff_mem.mp h1
  · have h1 := List.all_eq_true.mp chk_rows a ha
    unfold chkRow at h1
    simp only [Bool.and_eq_true] at h1
    obtain ⟨⟨k1, k2, k3⟩, ⟨k4, k5⟩, ⟨k6, k7⟩, k8, k9⟩ := h1
    have k9 : a + 1 < 153 := Nat.le_of_ble_eq_true k9
    refine ⟨[], List.replicate 16 0, ?_, ?_, ?_, rfl, Nat.le_refl _, Nat.le_of_ble_eq_true k6, Nat.le_of_ble_eq_true k7, ?_, k9⟩
    · show xD (xL (hpC iS, hpR iT) a) = _
      rw [xD_row (Nat.eq_of_beq_eq_true k1), Nat.eq_of_beq_eq_true k2, List.isEmpty_iff.mp k3]
    · show (h0.map sD).getD a (0, []) = _
      rw [getD_map0, if_pos (by omega), sEq_ok _ _ k4]
      rfl
    · show (h0.map sD).getD (a + 1) (0, []) = _
      rw [getD_map0, if_pos k9, sEq_ok _ _ k5]
      rfl
    · have h9 : (xL (hpC iS, hpR iT) (a + 1)).1 = 0 := Nat.eq_of_beq_eq_true k8
      show (xD (xL (hpC iS, hpR iT) (a + 1))).1 = 0
      unfold xD
      rw [h9]
      rfl
  · have h1 : (Lr.map (fun a => moF a - 16)).sum = 105031 := by decide +kernel
    rw [cg_len]
    exact Nat.le_trans (Nat.add_le_add_left (Nat.le_of_eq h1) 153) hc
  · have h1 : (Lr.map (fun a => xphi (moF a) 16)).sum = 315669 := by decide +kernel
    rw [cg_slots]
    exact Nat.le_trans (Nat.add_le_add_left (Nat.le_of_eq h1) 730919) hs
