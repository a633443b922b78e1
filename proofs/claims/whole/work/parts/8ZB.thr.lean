/-! THE THROW, UP TO LevelFlow.outputAt -/
section Thr
variable {p : Program} {l : Launch} {e : Env} {R : Room} {s : State} {m : MethodId} {args : Array Value} {below : List Frame} {meth : Method} {c : Code} {Q : State → Prop} {V : xmV} {G : xmH} {H : Heap} {ls : Array Slot}
theorem thE.up {U t t' : State} {g : JFrame} {mk : MethodId} {a : Array Value} {x : Addr} (hU : U.heap = s.heap) (hW : s.WarmedH U.vm) (h : thE (U.calling g mk a) t x) (ht : t'.heap = t.heap) : thE s t' x := by
  obtain ⟨h1, h2, h3, ce, h4, h5, h6⟩ := h
  have e1 : (U.calling g mk a).heap = s.heap := hU
  rw [e1] at h1 h2 h3
  refine ⟨by rw [ht]; exact h1, fun q hq => by rw [ht]; exact h2 q hq, h3, ce, by rw [ht]; exact h4, ?_, h6⟩
  have e2 : (U.calling g mk a).vm.findClass xIOB = s.vm.findClass xIOB := hW.alike.findClass _ _
  rw [← e2]
  exact h5
set_option maxHeartbeats 1000000 in
theorem el_thr (B : bxC p s args V) (hall : xHall) (htr : e.platform.stackTraces = false) (hM : bxM s (xmY 146) (xmB 146) 2 (some .int) m meth c) (htab : c.exceptionTable.toList = []) (hR : 8 ≤ R.frames ∧ 150 ≤ R.locals ∧ 1 ≤ R.cells ∧ 6 ≤ R.slots) (hsz : ls.size = 2) (hH : s.heap = H) (hC : xmCon V G H) {r : Nat} {fs : List Value} {z i : Int32} (hG : G.1 r = (16, fs)) (hv : fs[2]? = some (.int z)) (hi : i < 0 ∨ ¬ i < z)
    (hl0 : ls[0]? = some (.val (.ref (V.2.2.2.1 + r)))) (hl1 : ls[1]? = some (.val (.int i))) (hq : ∀ (t : State) (a : Addr), thE s t a → cEnd below s t (.threw a) [] 1 6 → Q t) : W p l e R s m args below meth c H [] 0 0 Q (F0 m 0 ls []) := by
  subst hH
  have tail := el_tail (l := l) (below := below) (Q := Q) (R := R) (ls := ls) B htr hM htab hR hsz hq
  obtain ⟨hn, hm, hc, hb, hml, hr, hlk, hsig⟩ := hM
  have hown : s.vm.findClass (xmY 146).cls = some m.cls := findClass_of_methodNamed hn
  refine lv_iload_n B.1 hb (k := 1) (pc := 0) (show decode (xmB 146) 0 = _ by decide +kernel) rfl hl1 ?_
  refine lv_if_lt B.1 hb (pc := 1) (off := 11) (tgt := 12) (show decode (xmB 146) 1 = _ by decide +kernel) (by decide) (fun _ => tail) (fun h0 => ?_)
  have hiz : ¬ i < z := by
    rcases hi with h | h
    · exact absurd h h0
    · exact h
  refine lv_iload_n B.1 hb (k := 1) (pc := 4) (show decode (xmB 146) 4 = _ by decide +kernel) rfl hl1 ?_
  refine lv_aload_n B.1 hb (k := 0) (pc := 5) (show decode (xmB 146) 5 = _ by decide +kernel) rfl hl0 ?_
  obtain ⟨hdg, -, ⟨hco, -, -, -, hna⟩, hlink, hst, hsel, -⟩ := (hall 146 (by decide)).2 6 (.invokevirtual 82, 3, [1, 0, 0, 2, 68]) rfl
  obtain ⟨m1, meth1, c1, hM1, htab1⟩ := bx_meth B (k := 1) hco
  have hM1' := hM1
  obtain ⟨k1, k2, k3, k4, k5, k6, k7, k8⟩ := hM1
  obtain ⟨q, hq0, -, cell, g1, g2, g3, -⟩ := xm_obj (ci := 0) hC hG
  have hsg : meth1.sig = ⟨[], some .int⟩ := by
    have e9 : parseMethodDescriptor (xmY 1).desc = some ⟨[], some .int⟩ := by decide +kernel
    rw [e9] at k8
    exact (Option.some.inj k8).symm
  refine W.inV (As := []) (rest := [.int i]) (C := "LevelFlow$IntRow") (R' := { frames := 0, locals := 0, cells := 0, slots := 0 }) B.1 hb hown (B.2.1 _ hlink) (B.2.1 _ hst) (B.2.1 _ hsel) k1 k2 k3 k7 (by decide +kernel) ⟨hna.1, hna.2.1⟩ (by rw [hsg]; rfl) g1 (by rw [g3]; rfl) (by rw [g2]; exact (B.2.2.1.1.1 0 _ rfl).2.1) (show 0 + 1 ≤ R.frames by omega) (by show 1 + (c1.maxLocals + 11) + 0 ≤ R.locals; rw [k5]; show 1 + (1 + 11) + 0 ≤ R.locals; omega) (Nat.zero_le _) (Nat.zero_le _) (by rw [hml, hsz]) hdg ?_
  intro U hU hW
  have B1 := B.go (U := U) va_S.rf hU hW (F0 m 6 ls [.int i]) m1 [Value.ref (V.2.2.2.1 + r)].toArray
  have hM1b := hM1'.go (U := U.calling (F0 m 6 ls [.int i]) m1 [Value.ref (V.2.2.2.1 + r)].toArray) hW
  rw [k5]
  refine W.eq (lg_entry_eq m1 [Value.ref (V.2.2.2.1 + r)] 1) ?_
  refine lv_aload_n (x := V.2.2.2.1 + r) B1.1 k4 (k := 0) (pc := 0) (show decode (xmB 1) 0 = _ by decide +kernel) rfl rfl ?_
  refine wf_get B1 hall (k := 1) (pc := 1) (ci := 0) (fi := 2) (by decide) rfl (by decide) k4 (findClass_of_methodNamed hM1b.1) hC hG hv ?_
  refine W.iretC (pc := 4) B1.1 k4 k6 k7 (show decode (xmB 1) 4 = _ by decide +kernel) (fun t ht hE => ?_)
  refine ⟨.returned (some (.int z)), [], 0, 0, hE, ?_⟩
  show W p l e R s m args below meth c t.heap [] 0 0 Q (F0 m 9 ls [.int z, .int i])
  rw [ht]
  exact lv_icmp_lt B.1 hb (pc := 9) (off := 13) (tgt := 22) (show decode (xmB 146) 9 = _ by decide +kernel) (by decide) (fun h => absurd h hiz) (fun _ => tail)
set_option maxHeartbeats 1000000 in
/-- the call of elementOf out of LevelFlow.outputAt (145) or inputAt (147) -/
theorem el_call (B : bxC p s args V) (hall : xHall) (htr : e.platform.stackTraces = false) {k pc : Nat} {aux : List Nat} (hk : k < xmCount) (hcd : xmCd k pc = some (.invokestatic 149, 3, 146 :: 2 :: aux)) {mL : Nat} (hM : bxM s (xmY k) (xmB k) mL (some .int) m meth c) (htab : c.exceptionTable.toList = []) (hR : 9 ≤ R.frames ∧ 200 ≤ R.locals ∧ 1 ≤ R.cells ∧ 6 ≤ R.slots) (hsz : ls.size = mL) (hH : s.heap = H) (hC : xmCon V G H) {r : Nat} {fs : List Value} {z i : Int32} (hG : G.1 r = (16, fs)) (hv : fs[2]? = some (.int z)) (hi : i < 0 ∨ ¬ i < z)
    (hq : ∀ (t : State) (a : Addr), thE s t a → cEnd below s t (.threw a) [] 1 6 → Q t) : W p l e R s m args below meth c H [] 0 0 Q (F0 m pc ls [.int i, .ref (V.2.2.2.1 + r)]) := by
  subst hH
  obtain ⟨hn, hm, hc, hb, hml, hr, hlk, hsig⟩ := hM
  have hown : s.vm.findClass (xmY k).cls = some m.cls := findClass_of_methodNamed hn
  obtain ⟨hdg, -, hok⟩ := (hall k hk).2 pc _ hcd
  rcases hok with ⟨-, ⟨hco, -, -, hini, hna⟩, hlink, hst⟩ | ⟨-, -, ⟨h2, -⟩ | ⟨h2, -⟩ | ⟨h2, -⟩⟩
  · obtain ⟨m1, meth1, c1, hM1, htab1⟩ := bx_meth B (k := 146) hco
    have hM1' := hM1
    obtain ⟨k1, k2, k3, k4, k5, k6, k7, k8⟩ := hM1
    have hsg : meth1.sig = ⟨[.object "LevelFlow$IntRow", .int], some .int⟩ := by
      have e9 : parseMethodDescriptor (xmY 146).desc = some ⟨[.object "LevelFlow$IntRow", .int], some .int⟩ := by decide +kernel
      rw [e9] at k8
      exact (Option.some.inj k8).symm
    refine W.inS (As := [.ref (V.2.2.2.1 + r), .int i]) (rest := []) (R' := { frames := 8, locals := 150, cells := 1, slots := 6 }) B.1 hb hown (B.2.1 _ hlink) k1 k2 k3 k7 (Cond.static_spec k1 k2 (B.2.1 _ hst)) (B.2.1 _ hini) (show plainName (xmY 146).cls = true by decide +kernel) ⟨hna.1, hna.2.1⟩ (by rw [hsg]; rfl) (show 8 + 1 ≤ R.frames by omega) (by show 0 + (c1.maxLocals + 11) + 150 ≤ R.locals; rw [k5]; show 0 + (2 + 11) + 150 ≤ R.locals; omega) (by show 0 + 1 ≤ R.cells; omega) (by show 0 + 6 ≤ R.slots; omega) (by rw [hml, hsz]) hdg ?_
    intro U hU hW
    have B1 := B.go (U := U) va_S.rf hU hW (F0 m pc ls []) m1 [Value.ref (V.2.2.2.1 + r), .int i].toArray
    have hM1b := hM1'.go (U := U.calling (F0 m pc ls []) m1 [Value.ref (V.2.2.2.1 + r), .int i].toArray) hW
    rw [k5]
    refine W.eq (lg_entry_eq m1 [Value.ref (V.2.2.2.1 + r), .int i] 2) ?_
    refine el_thr B1 hall htr hM1b htab1 ⟨Nat.le_refl _, Nat.le_refl _, Nat.le_refl _, Nat.le_refl _⟩ rfl hU hC hG hv hi rfl rfl (fun t a hT hE => ?_)
    refine ⟨.threw a, [], 1, 6, hE, ?_⟩
    show WT p l e R s m args below meth c t.heap [] 1 6 Q (F0 m pc ls []) a
    exact WT.out rfl rfl rfl (fun x hx => by rw [htab] at hx; cases hx) hlk (fun t' ht' hE' => hq t' a (hT.up hU hW ht') hE')
  · exact absurd (show (146 : Nat) = 1001 from h2) (by decide)
  · exact absurd (show (146 : Nat) = 1004 from h2) (by decide)
  · exact absurd (show (146 : Nat) = 1002 from h2) (by decide)
theorem o145_thr (B : bxC p s args V) (hall : xHall) (htr : e.platform.stackTraces = false) (hM : bxM s (xmY 145) (xmB 145) 2 (some .int) m meth c) (htab : c.exceptionTable.toList = []) (hR : 9 ≤ R.frames ∧ 200 ≤ R.locals ∧ 1 ≤ R.cells ∧ 6 ≤ R.slots) (hsz : ls.size = 2) (hH : s.heap = H) (hC : xmCon V G H) {a0 r : Nat} {fs fs0 : List Value} {z i : Int32} (hG0 : G.1 a0 = (24, fs0)) (hv0 : fs0[10]? = some (.ref r)) (hG : G.1 r = (16, fs)) (hv : fs[2]? = some (.int z)) (hi : i < 0 ∨ ¬ i < z)
    (hl0 : ls[0]? = some (.val (.ref (V.2.2.2.1 + a0)))) (hl1 : ls[1]? = some (.val (.int i))) (hq : ∀ (t : State) (a : Addr), thE s t a → cEnd below s t (.threw a) [] 1 6 → Q t) : W p l e R s m args below meth c H [] 0 0 Q (F0 m 0 ls []) := by
  have hM' := hM
  obtain ⟨hn, hm, hc, hb, hml, hr, hlk, hsig⟩ := hM
  refine lv_aload_n B.1 hb (k := 0) (pc := 0) (show decode (xmB 145) 0 = _ by decide +kernel) rfl hl0 ?_
  refine wf_get B hall (k := 145) (pc := 1) (ci := 8) (fi := 10) (v := .ref r) (by decide) rfl (by decide) hb (findClass_of_methodNamed hn) hC hG0 hv0 ?_
  refine lv_iload_n B.1 hb (k := 1) (pc := 4) (show decode (xmB 145) 4 = _ by decide +kernel) rfl hl1 ?_
  exact el_call B hall htr (k := 145) (pc := 5) (by decide) rfl hM' htab hR hsz hH hC hG hv hi hq
end Thr
