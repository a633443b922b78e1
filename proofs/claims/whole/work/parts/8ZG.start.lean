/-! FROM THE LAW'S ENTRY TO ITS END -/
section LawStart
variable {p : Program} {l : Launch} {e : Env} {R : Room} {s : State} {m : MethodId} {args : Array Value} {below : List Frame} {meth : Method} {c : Code} {Q : State → Prop} {V : xmV} {G0 : xmH} {H : Heap} {locs : List Loc} {cells slots : Nat}
theorem lwO_le (hall : xHall) {l : Launch} : ∀ j av G r1 G1, lwO V j av G r1 G1 → xmLe G G1 := fun j av G r1 G1 z => by
  obtain ⟨d, z⟩ := z
  exact (xmCall_sound (l := l) hall d j av G r1 G1 z).1
theorem lg_cit (C : lwC p R s m args meth c V G0) : ∀ (n : Nat) {x x' : cC}, cIter (cCall 6) 248 n x = some x' → (cG x'.2.2.2).2.1 ≤ 600000 → (cG x'.2.2.2).2.2 ≤ 2000000 → xmGoal p l e R s m args below meth c Q V (xmML 248) G0 (cX x') → xmGoal p l e R s m args below meth c Q V (xmML 248) G0 (cX x) ∧ xmLe (cG x.2.2.2) (cG x'.2.2.2) := by
  intro n
  induction n with
  | zero => intro x x' h _ _ k; cases h; exact ⟨k, xmLe.rf⟩
  | succ n ih =>
    intro x x' h h1 h2 k
    unfold cIter at h
    split at h
    next => cases h
    next i hi =>
      split at h
      next x1 hx1 =>
        obtain ⟨k1, k2⟩ := ih h h1 h2 k
        have hst := cStep_ok (V := V) (O := lwO V) (fun j av h h' z => ⟨6, cCall_ok z⟩) hx1
        refine ⟨lg_raw C (x := cX x) (x' := cX x1) hi hst (Nat.le_trans k2.1 h1) (Nat.le_trans k2.2 h2) k1, xmLe.tr ?_ k2⟩
        rcases hst with h3 | h3 | h3
        · have h4 := xmPure_heap h3
          have h5 : cG x1.2.2.2 = cG x.2.2.2 := h4
          rw [h5]
          exact xmLe.rf
        · exact xmHR_le h3
        · exact xmIR_le (lwO_le (l := l) C.2.1) h3
      next => cases h
/-- what was written, but in new cells, and how much room is asked, may be forgotten -/
theorem W.shed {cells' slots' : Nat} {g : JFrame} (h : ∀ y ∈ locs, s.heap.size ≤ y.base) (hc : cells ≤ cells') (hs : slots ≤ slots') (k : W p l e R s m args below meth c H [] cells' slots' Q g) : W p l e R s m args below meth c H locs cells slots Q g := by
  intro T hT X
  exact k T hT ⟨X.admits, X.cas, X.clock, X.frames, X.room, X.hears, X.method, X.code, X.here, X.tail, X.warmed, X.limits, X.bytes, X.same.weaken (fun y hy hlt => absurd hlt (Nat.not_lt.mpr (h y hy))) hc hs⟩
/-- the whole law, out of what it stands on -/
theorem law_all (C : lwC p R s m args meth c V G0) (B : bxC p s args V) (htr : e.platform.stackTraces = false) (hL : V.2.2.2.2.2.2.2.1.length ≤ 2048) (hG0 : G0 = cG ([], 0)) (hC : xmCon V G0 s.heap) (hE : ∀ (H : Heap) (ls : Array Slot) (locs : List Loc) (k n : Nat), (∀ y ∈ locs, V.2.2.2.1 ≤ y.base) → k ≤ 600000 → n ≤ 2000000 → W p l e R s m args below meth c H locs k n Q (F0 m 522 ls [.int 1])) {ls : Array Slot} (hls : lv_has ls 7 [(0, xmRo V (.retAddr 2000))]) : W p l e R s m args below meth c s.heap [] 0 0 Q (F0 m 0 ls []) := by
  have g1 : G0.2.1 = 0 := by rw [hG0]; rfl
  have g2 : G0.2.2 = 0 := by rw [hG0]; rfl
  have hEnd : ∀ (Kc Ks : Nat) (lv : xmL) (H : xHp), lwK Kc Ks → LG p l e R s m args below meth c Q V G0 Kc Ks (522, lv, [.int 1], H) := by
    intro Kc Ks lv H K G hG H9 locs ls9 hl9 hC9 hS9
    have hr := ab_room hG
    have hk1 := K.1
    have hk2 := K.2
    exact hE H9 ls9 locs _ _ hS9.2.2 (by show G.2.1 - G0.2.1 ≤ _; omega) (by show G.2.2 - G0.2.2 ≤ _; omega)
  have loop := law_loop C (lw_out C B htr) (lw_in C B htr) hL hEnd 512 0 iS iT (by omega) ki_start (Nat.zero_le _)
  have at23 : xmGoal p l e R s m args below meth c Q V (xmML 248) G0 (cX (23, [(4, .int 0), (3, .ref 152), (2, .ref 85), (1, .ref 0), (0, .retAddr 2000)], [], (h0, u0))) := loop (cG (h0, u0)) (ab_start (Nat.le_refl _) (Nat.le_refl _))
  have at0 := (lg_cit C 13 law_init (show (cG (h0, u0)).2.1 ≤ 600000 from by rw [cg_len]; decide) (show (cG (h0, u0)).2.2 ≤ 2000000 from by rw [cg_slots]; decide) at23).1
  have k9 := at0 s.heap [] ls hls (by rw [hG0] at hC; exact hC) va_S.rf
  have e1 : (cX (0, [(0, .retAddr 2000)], [], ([], 0))).2.2.2.2.1 - G0.2.1 = 0 := by rw [g1]; rfl
  have e2 : (cX (0, [(0, .retAddr 2000)], [], ([], 0))).2.2.2.2.2 - G0.2.2 = 0 := by rw [g2]; rfl
  rw [e1, e2] at k9
  exact k9
end LawStart
