/-! THE LAW'S CALLS OF ITS TWO HELPERS -/
theorem ab_row {L : List Nat} {Kc Ks : Nat} {A : Nat → xmE} {G : xmH} {a mo : Nat} {xs : List Int32} (h : xmAb L Kc Ks A G) (hA : A a = xrow mo xs) : ∃ (mo' : Int32) (ow : Nat), G.1 a = (16, [.int mo', .ref ow, .int (nI xs.length)]) := by
  obtain ⟨mo', ow, cp, a1, a2, a3, -⟩ := h
  have ha : a ∈ L := a2 a (by rw [hA]; rfl)
  obtain ⟨xs', jk, e1, e2, -⟩ := a3 a ha
  have e3 := (xrow_inj (hA.symm.trans e1)).2
  subst e3
  exact ⟨_, _, e2⟩
theorem ab_more {L : List Nat} {Kc Ks : Nat} {A : Nat → xmE} {G : xmH} (h : xmAb L Kc Ks A G) : xmAb L (Kc + 1) (Ks + 16) A (G.1, G.2.1 + 1, G.2.2 + 6) := by
  obtain ⟨mo, ow, cp, a1, a2, a3, a4, a5, a6, a7⟩ := h
  refine ⟨mo, ow, cp, a1, a2, fun a ha => ?_, a4, fun a ha => ⟨Nat.lt_succ_of_lt (a5 a ha).1, (a5 a ha).2⟩, ?_, ?_⟩
  · obtain ⟨xs, jk, b1, b2, b3, b4, b5, b6, b7, b8, b9⟩ := a3 a ha
    exact ⟨xs, jk, b1, b2, b3, b4, b5, b6, b7, b8, Nat.lt_succ_of_lt b9⟩
  · show G.2.1 + 1 + _ ≤ _
    omega
  · show G.2.2 + 6 + _ ≤ _
    omega
theorem ab_out {Kc Ks : Nat} {G : xmH} {S T : xSt} {x : Int64} (h : xmAb Lr Kc Ks (xA (hpC S, hpR T)) G) : xmAb Lr Kc Ks (xA (hpC S, hpR (sL T 8 [x]))) (xmUp G.1 152 (2, [.long x]), G.2) := by
  have e1 : (hpC S, hpR (sL T 8 [x])) = xS (hpC S, hpR T) 152 (2, 0, [], [x], []) := rfl
  rw [e1, xA_S (show (xL (hpC S, hpR T) 152).1 ≠ 0 from by show (2 : Nat) ≠ 0; decide)]
  exact xmAb.cell (z := (2, [.long x])) h (by show (2 : Nat) ≠ 0; decide) (by show (2 : Nat) ≠ 7; decide) rfl
theorem con_more {V : xmV} {G : xmH} {H H1 : Heap} (hC : xmCon V G H) (h1 : H1.size = H.size + 1) (h2 : ∀ q : Nat, q < H.size → H1[q]? = H[q]?) : xmCon V (G.1, G.2.1 + 1, G.2.2 + 6) H1 := by
  refine ⟨by rw [h1, hC.1]; rfl, fun a ha => ?_⟩
  exact (hC.2 a ha).kept (h2 _ (hC.2 a ha).lt)
theorem vaS_more {A : Nat → Prop} {H0 H H1 : Heap} {locs L : List Loc} (h : va_S A H0 H locs) (h1 : va_S A H H1 L) : va_S A H0 H1 (locs ++ L) :=
  ⟨Nat.le_trans h.1 h1.1, fun q k1 k2 => (h1.2.1 q (Nat.lt_of_lt_of_le k1 h.1) k2).trans (h.2.1 q k1 k2), fun q hq => (List.mem_append.mp hq).elim (h.2.2 q) (h1.2.2 q)⟩
section LawHelp
variable {p : Program} {l : Launch} {e : Env} {R : Room} {s : State} {m : MethodId} {args : Array Value} {below : List Frame} {meth : Method} {c : Code} {Q : State → Prop} {V : xmV} {G0 : xmH}
set_option maxHeartbeats 1000000 in
theorem lw_out (C : lwC p R s m args meth c V G0) (B : bxC p s args V) (htr : e.platform.stackTraces = false) : lwOut p l e R s m args below meth c Q V G0 := by
  intro Kc Ks S T a lv K hlen hL8 k1 k2 G hG H locs ls hl hC hS
  obtain ⟨X, hall, hR, g1, g2, r1, r2⟩ := C
  obtain ⟨hx, hb, hml, hown, hts, hK, hr, hlocks, hnm, hbs⟩ := X
  have hrG := ab_room hG
  have hKc := K.1
  have hKs := K.2
  have hfr : 15 ≤ R.frames := hR.1
  have hlo : 329 ≤ R.locals := hR.2
  obtain ⟨m1, meth1, c1, hM1, htab1⟩ := bx_with B w_codeO
  have hM1' := hM1
  obtain ⟨j1, j2, j3, j4, j5, j6, j7, j8⟩ := hM1
  obtain ⟨fs0, hG00, hv10, hv9, hv8⟩ : ∃ fs0, G.1 0 = (24, fs0) ∧ fs0[10]? = some (.ref 83) ∧ fs0[9]? = some (.ref 80) ∧ fs0[8]? = some (.ref 78) := ⟨_, hG.at (show xA (hpC S, hpR T) 0 = _ from rfl) (show (24 : Nat) ≠ 0 by decide) (show (24 : Nat) ≠ 7 by decide), rfl, rfl, rfl⟩
  obtain ⟨mo9, ow9, hGr⟩ := ab_row (a := 83) (mo := 2065) (xs := gR S 16) hG rfl
  have hsg : meth1.sig = ⟨[.object "LevelFlow", .int, .array .long], some .int⟩ := by
    have e9 : parseMethodDescriptor yO.desc = some ⟨[.object "LevelFlow", .int, .array .long], some .int⟩ := by decide +kernel
    rw [e9] at j8
    exact (Option.some.inj j8).symm
  show W p l e R s m args below meth c H locs (G.2.1 - G0.2.1) (G.2.2 - G0.2.2) Q (F0 m 358 ls ([Value.ref (V.2.2.2.1 + 0), .int a, .ref (V.2.2.2.1 + 152)].reverse ++ []))
  refine W.inS (As := [Value.ref (V.2.2.2.1 + 0), .int a, .ref (V.2.2.2.1 + 152)]) (rest := []) (R' := { frames := 14, locals := 290, cells := R.cells - (G.2.1 - G0.2.1), slots := R.slots - (G.2.2 - G0.2.2) }) hx hb hown (hts _ w_lnkO) j1 j2 j3 j7 (Cond.static_spec j1 j2 (hts _ w_stO)) (hts _ w_iniL) (by decide +kernel) ⟨by decide +kernel, by decide +kernel⟩ (by rw [hsg]; rfl) hfr (by show 0 + (c1.maxLocals + 11) + 290 ≤ R.locals; rw [j5]; omega) (by show G.2.1 - G0.2.1 + (R.cells - (G.2.1 - G0.2.1)) ≤ R.cells; omega) (by show G.2.2 - G0.2.2 + (R.slots - (G.2.2 - G0.2.2)) ≤ R.slots; omega) (by rw [hml]; exact hl.1) (pc := 358) (show decode (xmB 248) 358 = _ by decide +kernel) ?_
  intro U hU hW
  have B1 := B.go (U := U) hS hU hW (F0 m 358 ls []) m1 [Value.ref (V.2.2.2.1 + 0), .int a, .ref (V.2.2.2.1 + 152)].toArray
  have hM1b := hM1'.go (U := U.calling (F0 m 358 ls []) m1 [Value.ref (V.2.2.2.1 + 0), .int a, .ref (V.2.2.2.1 + 152)].toArray) hW
  have hh : (U.calling (F0 m 358 ls []) m1 [Value.ref (V.2.2.2.1 + 0), .int a, .ref (V.2.2.2.1 + 152)].toArray).heap = H := hU
  rw [j5]
  refine W.eq (lg_entry_eq m1 [Value.ref (V.2.2.2.1 + 0), .int a, .ref (V.2.2.2.1 + 152)] 4) ?_
  have hl4 := lv_entry [Value.ref (V.2.2.2.1 + 0), .int a, .ref (V.2.2.2.1 + 152)] (n := 4) (Nat.le_of_ble_eq_true rfl)
  by_cases hin : inB (gR S 16) a
  · obtain ⟨d, ho⟩ := out_okC (V := V) (L := Lr) (Kc := Kc) (Ks := Ks) (Q := hpR T) hin
    obtain ⟨G', h1, h2⟩ := ho G hG
    obtain ⟨hle, hMet⟩ := xmCall_sound (l := l) hall d _ _ _ _ _ h2
    have hr1 := ab_room h1
    have hle1 : G.2.1 ≤ G'.2.1 := hle.1
    have hle2 : G.2.2 ≤ G'.2.2 := hle.2
    obtain ⟨w0, hw0⟩ := List.length_eq_one_iff.mp hL8
    have hGo : G'.1 152 = (2, [.long w0]) := by
      have h9 := h1.at (show xA (hpC S, hpR T) 152 = (2, (gL T 8).map Value.long) from rfl) (show (2 : Nat) ≠ 0 by decide) (show (2 : Nat) ≠ 7 by decide)
      rw [hw0] at h9
      exact h9
    have goal := hO_ret (l := l) (e := e) (R := { frames := 14, locals := 290, cells := R.cells - (G.2.1 - G0.2.1), slots := R.slots - (G.2.2 - G0.2.2) }) (below := .java (F0 m 358 ls []) :: below) (Q := cPost p l e R s m args below meth c locs (G.2.1 - G0.2.1) (G.2.2 - G0.2.2) Q 358 ls [] (U.calling (F0 m 358 ls []) m1 [Value.ref (V.2.2.2.1 + 0), .int a, .ref (V.2.2.2.1 + 152)].toArray)) (G := G) (G1 := G') (a0 := 0) (o := 152) (i := a) (v := xsAt (gR S 16) a) (b := false) B1 hM1b ⟨Nat.le_of_ble_eq_true rfl, Nat.le_of_ble_eq_true rfl⟩ hle ⟨by show G'.2.1 - G.2.1 ≤ R.cells - (G.2.1 - G0.2.1); omega, by show G'.2.2 - G.2.2 ≤ R.slots - (G.2.2 - G0.2.2); omega⟩ hMet hG00 hGo (fun t L hCt hSt hE => by
      refine ⟨.returned (some (.int 0)), L, G'.2.1 - G.2.1, G'.2.2 - G.2.2, hE, ?_⟩
      have kk := k1 hin _ (ab_mono (Nat.le_succ _) (Nat.le_add_right _ 16) (ab_out h1)) t.heap (locs ++ L) ls hl hCt (vaS_more hS (by rw [← hh]; exact hSt))
      have ea : G.2.1 - G0.2.1 + (G'.2.1 - G.2.1) = G'.2.1 - G0.2.1 := by omega
      have eb : G.2.2 - G0.2.2 + (G'.2.2 - G.2.2) = G'.2.2 - G0.2.2 := by omega
      show W p l e R s m args below meth c t.heap (locs ++ L) (G.2.1 - G0.2.1 + (G'.2.1 - G.2.1)) (G.2.2 - G0.2.2 + (G'.2.2 - G.2.2)) Q (F0 m 361 ls [.int 0])
      rw [ea, eb]
      exact kk)
    have goal2 := goal H [] _ hl4 hC (by rw [hh]; exact va_S.rf)
    dsimp only at goal2
    rw [Nat.sub_self, Nat.sub_self] at goal2
    exact goal2
  · have hi : a < 0 ∨ ¬ a < nI (gR S 16).length := by
      by_cases q1 : a < 0
      · exact Or.inl q1
      · exact Or.inr (fun q2 => hin ⟨q1, q2⟩)
    refine hO_thr B1 hall htr hM1b htab1 ⟨by show 10 ≤ 14; decide, by show 250 ≤ 290; decide, by show 1 ≤ R.cells - (G.2.1 - G0.2.1); omega, by show 6 ≤ R.slots - (G.2.2 - G0.2.2); omega⟩ hh hC hG00 hv10 hGr rfl hi hl4 (fun t hone hE => ?_)
    refine ⟨.returned (some (.int 1)), [], 1, 6, hE, ?_⟩
    obtain ⟨o1, o2⟩ := hone
    rw [hh] at o1 o2
    have kk := k2 hin _ (ab_more hG) t.heap locs ls hl (con_more hC o1 o2) ⟨Nat.le_trans hS.1 (by rw [o1]; exact Nat.le_succ _), fun q y1 y2 => (o2 q (Nat.lt_of_lt_of_le y1 hS.1)).trans (hS.2.1 q y1 y2), hS.2.2⟩
    have ea : G.2.1 + 1 - G0.2.1 = G.2.1 - G0.2.1 + 1 := by omega
    have eb : G.2.2 + 6 - G0.2.2 = G.2.2 - G0.2.2 + 6 := by omega
    show W p l e R s m args below meth c t.heap (locs ++ []) (G.2.1 - G0.2.1 + 1) (G.2.2 - G0.2.2 + 6) Q (F0 m 361 ls [.int 1])
    dsimp only at kk
    rw [ea, eb] at kk
    rw [List.append_nil]
    exact kk
set_option maxHeartbeats 1000000 in
theorem lw_in (C : lwC p R s m args meth c V G0) (B : bxC p s args V) (htr : e.platform.stackTraces = false) : lwIn p l e R s m args below meth c Q V G0 := by
  intro Kc Ks S T a b lv K hlen hL8 k1 k2 G hG H locs ls hl hC hS
  obtain ⟨X, hall, hR, g1, g2, r1, r2⟩ := C
  obtain ⟨hx, hb, hml, hown, hts, hK, hr, hlocks, hnm, hbs⟩ := X
  have hrG := ab_room hG
  have hKc := K.1
  have hKs := K.2
  have hfr : 15 ≤ R.frames := hR.1
  have hlo : 329 ≤ R.locals := hR.2
  obtain ⟨m1, meth1, c1, hM1, htab1⟩ := bx_with B w_codeI
  have hM1' := hM1
  obtain ⟨j1, j2, j3, j4, j5, j6, j7, j8⟩ := hM1
  obtain ⟨fs0, hG00, hv10, hv9, hv8⟩ : ∃ fs0, G.1 0 = (24, fs0) ∧ fs0[10]? = some (.ref 83) ∧ fs0[9]? = some (.ref 80) ∧ fs0[8]? = some (.ref 78) := ⟨_, hG.at (show xA (hpC S, hpR T) 0 = _ from rfl) (show (24 : Nat) ≠ 0 by decide) (show (24 : Nat) ≠ 7 by decide), rfl, rfl, rfl⟩
  obtain ⟨fb, hGb, hfb⟩ : ∃ fb, G.1 80 = (18, fb) ∧ fb[0]? = some (.ref 81) := ⟨_, hG.at (show xA (hpC S, hpR T) 80 = _ from rfl) (show (18 : Nat) ≠ 0 by decide) (show (18 : Nat) ≠ 7 by decide), rfl⟩
  obtain ⟨rr, mo9, ow9, hGr, hrow⟩ : ∃ (rr : Nat) (mo9 : Int32) (ow9 : Nat), G.1 rr = (16, [.int mo9, .ref ow9, .int (nI (inL S b).length)]) ∧ if b = true then fb[0]? = some (.ref rr) else fs0[8]? = some (.ref rr) := by
    cases b with
    | false =>
      obtain ⟨mo9, ow9, hGr⟩ := ab_row (a := 78) (mo := 64) (xs := gR S 14) hG rfl
      exact ⟨78, mo9, ow9, hGr, by rw [if_neg (by decide)]; exact hv8⟩
    | true =>
      obtain ⟨mo9, ow9, hGr⟩ := ab_row (a := 81) (mo := 64) (xs := gR S 15) hG rfl
      exact ⟨81, mo9, ow9, hGr, by rw [if_pos rfl]; exact hfb⟩
  have hsg : meth1.sig = ⟨[.object "LevelFlow", .int, .boolean, .array .long], some .int⟩ := by
    have e9 : parseMethodDescriptor yI.desc = some ⟨[.object "LevelFlow", .int, .boolean, .array .long], some .int⟩ := by decide +kernel
    rw [e9] at j8
    exact (Option.some.inj j8).symm
  show W p l e R s m args below meth c H locs (G.2.1 - G0.2.1) (G.2.2 - G0.2.2) Q (F0 m 428 ls ([Value.ref (V.2.2.2.1 + 0), .int a, .int (b01 b), .ref (V.2.2.2.1 + 152)].reverse ++ []))
  refine W.inS (As := [Value.ref (V.2.2.2.1 + 0), .int a, .int (b01 b), .ref (V.2.2.2.1 + 152)]) (rest := []) (R' := { frames := 14, locals := 290, cells := R.cells - (G.2.1 - G0.2.1), slots := R.slots - (G.2.2 - G0.2.2) }) hx hb hown (hts _ w_lnkI) j1 j2 j3 j7 (Cond.static_spec j1 j2 (hts _ w_stI)) (hts _ w_iniL) (by decide +kernel) ⟨by decide +kernel, by decide +kernel⟩ (by rw [hsg]; rfl) hfr (by show 0 + (c1.maxLocals + 11) + 290 ≤ R.locals; rw [j5]; omega) (by show G.2.1 - G0.2.1 + (R.cells - (G.2.1 - G0.2.1)) ≤ R.cells; omega) (by show G.2.2 - G0.2.2 + (R.slots - (G.2.2 - G0.2.2)) ≤ R.slots; omega) (by rw [hml]; exact hl.1) (pc := 428) (show decode (xmB 248) 428 = _ by decide +kernel) ?_
  intro U hU hW
  have B1 := B.go (U := U) hS hU hW (F0 m 428 ls []) m1 [Value.ref (V.2.2.2.1 + 0), .int a, .int (b01 b), .ref (V.2.2.2.1 + 152)].toArray
  have hM1b := hM1'.go (U := U.calling (F0 m 428 ls []) m1 [Value.ref (V.2.2.2.1 + 0), .int a, .int (b01 b), .ref (V.2.2.2.1 + 152)].toArray) hW
  have hh : (U.calling (F0 m 428 ls []) m1 [Value.ref (V.2.2.2.1 + 0), .int a, .int (b01 b), .ref (V.2.2.2.1 + 152)].toArray).heap = H := hU
  rw [j5]
  refine W.eq (lg_entry_eq m1 [Value.ref (V.2.2.2.1 + 0), .int a, .int (b01 b), .ref (V.2.2.2.1 + 152)] 5) ?_
  have hl4 := lv_entry [Value.ref (V.2.2.2.1 + 0), .int a, .int (b01 b), .ref (V.2.2.2.1 + 152)] (n := 5) (Nat.le_of_ble_eq_true rfl)
  by_cases hin : inB (inL S b) a
  · obtain ⟨d, ho⟩ := in_okC (V := V) (L := Lr) (Kc := Kc) (Ks := Ks) (Q := hpR T) hin
    obtain ⟨G', h1, h2⟩ := ho G hG
    obtain ⟨hle, hMet⟩ := xmCall_sound (l := l) hall d _ _ _ _ _ h2
    have hr1 := ab_room h1
    have hle1 : G.2.1 ≤ G'.2.1 := hle.1
    have hle2 : G.2.2 ≤ G'.2.2 := hle.2
    obtain ⟨w0, hw0⟩ := List.length_eq_one_iff.mp hL8
    have hGo : G'.1 152 = (2, [.long w0]) := by
      have h9 := h1.at (show xA (hpC S, hpR T) 152 = (2, (gL T 8).map Value.long) from rfl) (show (2 : Nat) ≠ 0 by decide) (show (2 : Nat) ≠ 7 by decide)
      rw [hw0] at h9
      exact h9
    have goal := hI_ret (l := l) (e := e) (R := { frames := 14, locals := 290, cells := R.cells - (G.2.1 - G0.2.1), slots := R.slots - (G.2.2 - G0.2.2) }) (below := .java (F0 m 428 ls []) :: below) (Q := cPost p l e R s m args below meth c locs (G.2.1 - G0.2.1) (G.2.2 - G0.2.2) Q 428 ls [] (U.calling (F0 m 428 ls []) m1 [Value.ref (V.2.2.2.1 + 0), .int a, .int (b01 b), .ref (V.2.2.2.1 + 152)].toArray)) (G := G) (G1 := G') (a0 := 0) (o := 152) (i := a) (v := xsAt (inL S b) a) (b := b) B1 hM1b ⟨Nat.le_of_ble_eq_true rfl, Nat.le_of_ble_eq_true rfl⟩ hle ⟨by show G'.2.1 - G.2.1 ≤ R.cells - (G.2.1 - G0.2.1); omega, by show G'.2.2 - G.2.2 ≤ R.slots - (G.2.2 - G0.2.2); omega⟩ hMet hG00 hGo (fun t L hCt hSt hE => by
      refine ⟨.returned (some (.int 0)), L, G'.2.1 - G.2.1, G'.2.2 - G.2.2, hE, ?_⟩
      have kk := k1 hin _ (ab_mono (Nat.le_succ _) (Nat.le_add_right _ 16) (ab_out h1)) t.heap (locs ++ L) ls hl hCt (vaS_more hS (by rw [← hh]; exact hSt))
      have ea : G.2.1 - G0.2.1 + (G'.2.1 - G.2.1) = G'.2.1 - G0.2.1 := by omega
      have eb : G.2.2 - G0.2.2 + (G'.2.2 - G.2.2) = G'.2.2 - G0.2.2 := by omega
      show W p l e R s m args below meth c t.heap (locs ++ L) (G.2.1 - G0.2.1 + (G'.2.1 - G.2.1)) (G.2.2 - G0.2.2 + (G'.2.2 - G.2.2)) Q (F0 m 431 ls [.int 0])
      rw [ea, eb]
      exact kk)
    have goal2 := goal H [] _ hl4 hC (by rw [hh]; exact va_S.rf)
    dsimp only at goal2
    rw [Nat.sub_self, Nat.sub_self] at goal2
    exact goal2
  · have hi : a < 0 ∨ ¬ a < nI (inL S b).length := by
      by_cases q1 : a < 0
      · exact Or.inl q1
      · exact Or.inr (fun q2 => hin ⟨q1, q2⟩)
    refine hI_thr B1 hall htr hM1b htab1 ⟨by show 10 ≤ 14; decide, by show 250 ≤ 290; decide, by show 1 ≤ R.cells - (G.2.1 - G0.2.1); omega, by show 6 ≤ R.slots - (G.2.2 - G0.2.2); omega⟩ hh hC hG00 hv9 hGb hrow hGr rfl hi hl4 (fun t hone hE => ?_)
    refine ⟨.returned (some (.int 1)), [], 1, 6, hE, ?_⟩
    obtain ⟨o1, o2⟩ := hone
    rw [hh] at o1 o2
    have kk := k2 hin _ (ab_more hG) t.heap locs ls hl (con_more hC o1 o2) ⟨Nat.le_trans hS.1 (by rw [o1]; exact Nat.le_succ _), fun q y1 y2 => (o2 q (Nat.lt_of_lt_of_le y1 hS.1)).trans (hS.2.1 q y1 y2), hS.2.2⟩
    have ea : G.2.1 + 1 - G0.2.1 = G.2.1 - G0.2.1 + 1 := by omega
    have eb : G.2.2 + 6 - G0.2.2 = G.2.2 - G0.2.2 + 6 := by omega
    show W p l e R s m args below meth c t.heap (locs ++ []) (G.2.1 - G0.2.1 + 1) (G.2.2 - G0.2.2 + 6) Q (F0 m 431 ls [.int 1])
    dsimp only at kk
    rw [ea, eb] at kk
    rw [List.append_nil]
    exact kk
end LawHelp
