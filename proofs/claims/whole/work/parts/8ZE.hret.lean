/-! THE LAW'S HELPERS, WHERE NOTHING IS THROWN -/
section HRet
variable {p : Program} {l : Launch} {e : Env} {R : Room} {s : State} {m : MethodId} {args : Array Value} {below : List Frame} {meth : Method} {c : Code} {Q : State → Prop} {V : xmV} {G0 G G1 : xmH} {nL : Nat}
theorem xs_callVc {cc : ByteArray} {own : String} {idx j b ci pc : Nat} {lv : xmL} {As rest fs : List Value} {r1 : Option Value} {q : vw_C} (B : bxC p s args V) (hb : c.code = cc) (hml : c.maxLocals = nL) (hown : s.vm.findClass own = some m.cls) (hG : G.1 b = (16 + ci, fs)) (hc : vwCl[ci]? = some q) (hq : q.1 = (xmY j).cls) (hM : xmMet l V j (.ref b :: As) r1 G G1) (hd : xmFr j + 1 ≤ R.frames ∧ 19 + xmML j + xmLo j ≤ R.locals) (hj : xmCode j) (hlink : Cond.methodLink own idx (xmY j) ∈ xmTs) (hst : Cond.instanceMethod (xmY j) ∈ xmTs) (hsel : Cond.selects (xmY j).cls (xmY j) (xmY j) ∈ xmTs) (hini : Cond.initialized (xmY j).cls ∈ xmTs)
    (hn : (xmY j).cls ≠ "java/lang/invoke/MethodHandle" ∧ (xmY j).cls ≠ "java/lang/invoke/VarHandle" ∧ (parseMethodDescriptor (xmY j).desc).map (fun d => d.parameters.length) = some As.length) (hrest : (rest.map fun v => v.category).sum ≤ 8) (hdg : decode cc pc = .ok (.invokevirtual idx, 3))
    (hg0 : G0.2.1 ≤ G.2.1 ∧ G0.2.2 ≤ G.2.2) (hg1 : G.2.1 ≤ G1.2.1 ∧ G.2.2 ≤ G1.2.2) (hroom : G1.2.1 - G0.2.1 ≤ R.cells ∧ G1.2.2 - G0.2.2 ≤ R.slots)
    (kk : xmGoal p l e R s m args below meth c Q V nL G0 (pc + 3, lv, r1.toList ++ rest, G1)) : xmGoal p l e R s m args below meth c Q V nL G0 (pc, lv, As.reverse ++ .ref b :: rest, G) := by
  intro H locs ls hl hC hS
  obtain ⟨hx, hts, hK, hbs, -, -, -⟩ := B
  obtain ⟨ea, eb⟩ := xm_next hg0 hg1
  have hrecv : ∃ cellB : Cell, H[V.2.2.2.1 + b]? = some cellB ∧ cellB.vm.isStatics = false ∧ s.vm.findClass (xmY j).cls = some cellB.cls := by
    obtain ⟨q', g0, -, cell, g1, g2, g3, -⟩ := xm_obj hC hG
    exact ⟨cell, g1, by rw [g3]; rfl, by rw [g2, ← hq]; exact (hK.1.1 ci q hc).2.1⟩
  show W p l e R s m args below meth c H locs (G.2.1 - G0.2.1) (G.2.2 - G0.2.2) Q (F0 m pc ls ((As.reverse ++ .ref b :: rest).map (xmRo V)))
  rw [List.map_append, List.map_reverse, List.map_cons]
  rw [← xm_cats V] at hrest
  refine xs_back (va_runV (As := As.map (xmRo V)) (rest := rest.map (xmRo V)) ⟨hx, hb, hml, hown, hts⟩ hM (cwV (As.map (xmRo V)).length hts (xmGood (W1 := [.methodLink own idx (xmY j), .instanceMethod (xmY j), .selects (xmY j).cls (xmY j) (xmY j), .initialized (xmY j).cls]) hj (by intro w hw; simp only [List.mem_cons, List.not_mem_nil, or_false] at hw; rcases hw with rfl | rfl | rfl | rfl <;> assumption)) rfl rfl rfl ⟨rfl, by rw [List.length_map]; exact hn⟩ ⟨hd.1, by show 8 + (xmML j + 11) + xmLo j ≤ R.locals; omega⟩) ⟨xmPc_blind, hrecv, fun U hU hW => ⟨rfl, by rw [hU]; exact hC, hK.go hS hbs hU hW⟩⟩ rfl rfl hl.1 rfl (lv_room hrest) hdg ⟨by show G.2.1 - G0.2.1 + _ ≤ _; rw [ea]; exact hroom.1, by show G.2.2 - G0.2.2 + _ ≤ _; rw [eb]; exact hroom.2⟩) hS fun H1 locs1 hC1 hS1 => ?_
  have k2 := kk H1 locs1 ls hl hC1 hS1
  dsimp only at k2 ⊢
  rw [ea, eb]
  first | (rw [xm_ret]; exact k2) | exact k2
theorem w_iniF : Cond.initialized "LevelFlow" ∈ xmTs := mem_Ts (by decide +kernel) (by decide +kernel)
set_option maxHeartbeats 1000000 in
theorem hO_ret (B : bxC p s args V) (hM : bxM s yO method_3_code 4 (some .int) m meth c) (hR : xmFr 145 + 1 ≤ R.frames ∧ 19 + xmML 145 + xmLo 145 ≤ R.locals) {a0 o : Nat} {i v : Int32} {b : Bool} {fs0 : List Value} {x : Value} (hle : xmLe G G1) (hroom : G1.2.1 - G.2.1 ≤ R.cells ∧ G1.2.2 - G.2.2 ≤ R.slots) (hMet : xmMet l V 145 (.ref a0 :: [.int i]) (some (.int v)) G G1) (hG0 : G.1 a0 = (24, fs0)) (hGo : G1.1 o = (2, [x]))
    (hq : ∀ (t : State) (L : List Loc), xmCon V (xmUp G1.1 o (2, [.long v.toInt64]), G1.2) t.heap → va_S (fun q => V.2.2.2.1 ≤ q) s.heap t.heap L → cEnd below s t (.returned (some (.int 0))) L (G1.2.1 - G.2.1) (G1.2.2 - G.2.2) → Q t) : xmGoal p l e R s m args below meth c Q V 4 G (0, [(0, .ref a0), (1, .int i), (2, .ref o)], [], G) := by
  obtain ⟨hn, hm, hc, hb, hml, hr, hlk, hsig⟩ := hM
  have hown : s.vm.findClass "LevelFlowLaw" = some m.cls := findClass_of_methodNamed hn
  refine xs_aload_n (cc := method_3_code) (i := 2) (v := .ref o) B.1 hb (pc := 0) (by decide +kernel) rfl ⟨_, rfl⟩ ?_
  refine xs_iconst (cc := method_3_code) (n := 0) B.1 hb (pc := 1) (by decide +kernel) ?_
  refine xs_aload_n (cc := method_3_code) (i := 0) (v := .ref a0) B.1 hb (pc := 2) (by decide +kernel) rfl ⟨_, rfl⟩ ?_
  refine xs_iload_n (cc := method_3_code) (i := 1) (x := i) B.1 hb (pc := 3) (by decide +kernel) rfl ?_
  refine xs_callVc (cc := method_3_code) (own := "LevelFlowLaw") (pc := 4) (j := 145) (As := [.int i]) (rest := [.int (Int32.ofInt 0), .ref o]) (ci := 8) B hb hml hown hG0 rfl rfl hMet hR w_c145 w_lnk7 w_i145 w_s145 w_iniF ⟨by decide +kernel, by decide +kernel, show (parseMethodDescriptor (xmY 145).desc).map (fun d => d.parameters.length) = some 1 by decide +kernel⟩ (Nat.le_of_ble_eq_true rfl) (by decide +kernel) ⟨Nat.le_refl _, Nat.le_refl _⟩ hle hroom ?_
  refine xs_i2l (cc := method_3_code) B.1 hb (pc := 7) (by decide +kernel) ?_
  refine xs_lastore (cc := method_3_code) (vs := [x]) B.1 hb (B.2.2.1.1.2 1 _ rfl).1 (pc := 8) (by decide +kernel) hGo (by decide) (show (Int32.ofInt 0).toNatClampNeg < 1 by decide) ?_
  refine xs_goto (cc := method_3_code) (o := 6) (t := 15) B.1 hb (pc := 9) (by decide +kernel) (by decide) ?_
  refine xs_iconst (cc := method_3_code) (n := 0) B.1 hb (pc := 15) (by decide +kernel) ?_
  intro H locs ls hl hC hS
  exact W.iretC (cc := method_3_code) (v := Int32.ofInt 0) (pc := 16) B.1 hb hr hlk (by decide +kernel) (fun t ht hE => hq t locs (by rw [ht]; exact hC) (by rw [ht]; exact hS) hE)
set_option maxHeartbeats 1000000 in
theorem hI_ret (B : bxC p s args V) (hM : bxM s yI method_4_code 5 (some .int) m meth c) (hR : xmFr 147 + 1 ≤ R.frames ∧ 19 + xmML 147 + xmLo 147 ≤ R.locals) {a0 o : Nat} {i v : Int32} {b : Bool} {fs0 : List Value} {x : Value} (hle : xmLe G G1) (hroom : G1.2.1 - G.2.1 ≤ R.cells ∧ G1.2.2 - G.2.2 ≤ R.slots) (hMet : xmMet l V 147 (.ref a0 :: [.int i, .int (b01 b)]) (some (.int v)) G G1) (hG0 : G.1 a0 = (24, fs0)) (hGo : G1.1 o = (2, [x]))
    (hq : ∀ (t : State) (L : List Loc), xmCon V (xmUp G1.1 o (2, [.long v.toInt64]), G1.2) t.heap → va_S (fun q => V.2.2.2.1 ≤ q) s.heap t.heap L → cEnd below s t (.returned (some (.int 0))) L (G1.2.1 - G.2.1) (G1.2.2 - G.2.2) → Q t) : xmGoal p l e R s m args below meth c Q V 5 G (0, [(0, .ref a0), (1, .int i), (2, .int (b01 b)), (3, .ref o)], [], G) := by
  obtain ⟨hn, hm, hc, hb, hml, hr, hlk, hsig⟩ := hM
  have hown : s.vm.findClass "LevelFlowLaw" = some m.cls := findClass_of_methodNamed hn
  refine xs_aload_n (cc := method_4_code) (i := 3) (v := .ref o) B.1 hb (pc := 0) (by decide +kernel) rfl ⟨_, rfl⟩ ?_
  refine xs_iconst (cc := method_4_code) (n := 0) B.1 hb (pc := 1) (by decide +kernel) ?_
  refine xs_aload_n (cc := method_4_code) (i := 0) (v := .ref a0) B.1 hb (pc := 2) (by decide +kernel) rfl ⟨_, rfl⟩ ?_
  refine xs_iload_n (cc := method_4_code) (i := 1) (x := i) B.1 hb (pc := 3) (by decide +kernel) rfl ?_
  refine xs_iload_n (cc := method_4_code) (i := 2) (x := b01 b) B.1 hb (pc := 4) (by decide +kernel) rfl ?_
  refine xs_callVc (cc := method_4_code) (own := "LevelFlowLaw") (pc := 5) (j := 147) (As := [.int i, .int (b01 b)]) (rest := [.int (Int32.ofInt 0), .ref o]) (ci := 8) B hb hml hown hG0 rfl rfl hMet hR w_c147 w_lnk15 w_i147 w_s147 w_iniF ⟨by decide +kernel, by decide +kernel, show (parseMethodDescriptor (xmY 147).desc).map (fun d => d.parameters.length) = some 2 by decide +kernel⟩ (Nat.le_of_ble_eq_true rfl) (by decide +kernel) ⟨Nat.le_refl _, Nat.le_refl _⟩ hle hroom ?_
  refine xs_i2l (cc := method_4_code) B.1 hb (pc := 8) (by decide +kernel) ?_
  refine xs_lastore (cc := method_4_code) (vs := [x]) B.1 hb (B.2.2.1.1.2 1 _ rfl).1 (pc := 9) (by decide +kernel) hGo (by decide) (show (Int32.ofInt 0).toNatClampNeg < 1 by decide) ?_
  refine xs_goto (cc := method_4_code) (o := 7) (t := 17) B.1 hb (pc := 10) (by decide +kernel) (by decide) ?_
  refine xs_iconst (cc := method_4_code) (n := 0) B.1 hb (pc := 17) (by decide +kernel) ?_
  intro H locs ls hl hC hS
  exact W.iretC (cc := method_4_code) (v := Int32.ofInt 0) (pc := 18) B.1 hb hr hlk (by decide +kernel) (fun t ht hE => hq t locs (by rw [ht]; exact hC) (by rw [ht]; exact hS) hE)
end HRet
