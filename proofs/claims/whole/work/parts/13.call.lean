/-- the words that every method of ours takes along -/
def xmTs : List Cond := lw_tbl.filter goodWord
theorem xmTs_ok {w : Cond} (h : w ∈ xmTs) : (w.onTables && w.keeps) = true ∨ ∃ ty, w = .arrayClass ty := good_of_word (List.mem_filter.mp h).2
def xmWs (k : Nat) : List Cond := .code (xmY k) (xmB k) (xmML k) (xmRt k) :: xmTs
def xmCode (k : Nat) : Prop := Cond.code (xmY k) (xmB k) (xmML k) (xmRt k) ∈ xmTs
theorem xmGood {k : Nat} {W1 : List Cond} (hk : xmCode k) (h : ∀ w ∈ W1, w ∈ xmTs) : GoodIn xmTs (W1 ++ xmWs k) := by
  intro w hw
  have h1 : w ∈ xmTs := by
    rcases List.mem_append.mp hw with h1 | h1
    · exact h w h1
    · rcases List.mem_cons.mp h1 with rfl | h1
      · exact hk
      · exact h1
  exact ⟨h1, xmTs_ok h1⟩
theorem xmGood0 {k : Nat} (hk : xmCode k) : GoodIn xmTs (xmWs k) := xmGood (W1 := []) hk (fun _ h => by cases h)
def xmNst : Cond → Bool
  | .fieldLinkNest _ _ _ _ _ _ => true
  | .methodLinkNest _ _ _ _ => true
  | _ => false
theorem xmNst_on {w : Cond} (h : xmNst w = true) : w.onTables = true := by
  cases w <;> first | rfl | cases h
theorem xmNst_warm {w : Cond} (h : xmNst w = true) {s U : State} (hW : s.WarmedH U.vm) (hZ : va_Nw w s) : va_Nw w U := by
  cases w <;> first | exact va_Nw.warmF hW hZ | exact va_Nw.warmM hW hZ | cases h
/-- what the tables say of the kinds that the pictures hold -/
def xmKK (V : xmV) (U : State) : Prop := va_K (V.1, V.2.1) vwCl [(V.2.2.1 1, .int), (V.2.2.1 2, .long), (V.2.2.1 3, .byte), (V.2.2.1 4, .boolean)] U ∧ va_X V.2.2.2.2.2.2.1 V.2.2.2.2.2.2.2.length (fun j => V.2.2.2.2.2.2.2.getD j 0) U U.heap ∧ V.2.2.2.2.2.2.1 < V.2.2.2.1 ∧ ∀ w ∈ lw_tbl, xmNst w = true → va_Nw w U
theorem xmKK.go {V : xmV} {s U : State} {H : Heap} {locs : List Loc} (h : xmKK V s) (hS : va_S (fun q => V.2.2.2.1 ≤ q) s.heap H locs) (hbs : V.2.2.2.1 ≤ s.heap.size) (hU : U.heap = H) (hW : s.WarmedH U.vm) : xmKK V U :=
  ⟨va_K.moved hW.alike h.1, by rw [hU]; exact (va_X.moved hW.alike h.2.1).kept (hS.2.1 _ (Nat.lt_of_lt_of_le h.2.2.1 hbs) (Nat.not_le.mpr h.2.2.1)), h.2.2.1, fun w hw hn => xmNst_warm hn hW (h.2.2.2 w hw hn)⟩
def xmPc (V : xmV) (av : List Value) (G : xmH) : Array Value → State → Prop := va_Pc av (fun U => xmCon V G U.heap ∧ xmKK V U)
theorem xmPc_blind {V : xmV} {av : List Value} {G : xmH} : FrameBlind (xmPc V av G) := fun a U g mk q => by
  obtain ⟨q0, q1, q2⟩ := q
  exact ⟨q0, q1, va_K.moved (u := U) (U := U.calling g mk a) (Vm.Alike.refl U.vm) q2.1, va_X.moved (u := U) (U := U.calling g mk a) (Vm.Alike.refl U.vm) q2.2.1, q2.2.2.1, fun w hw hn => va_Nw.same (u := U) (U := U.calling g mk a) (xmNst_on hn) rfl (q2.2.2.2 w hw hn)⟩
def xmQc (V : xmV) (r : Option Value) (G' : xmH) : Array Value → State → Outcome → State → Prop := fun _ st o t => o = .returned r ∧ xmCon V G' t.heap ∧ st.heap.size ≤ t.heap.size ∧ ∀ q : Nat, q < V.2.2.2.1 → t.heap[q]? = st.heap[q]?
def xmRm (k : Nat) (G G' : xmH) : Room := { frames := xmFr k, cells := G'.2.1 - G.2.1, slots := G'.2.2 - G.2.2, locals := xmLo k }
/-- method k, called with av over the picture G, comes back with r over G' -/
def xmMet (l : Launch) (V : xmV) (k : Nat) (av : List Value) (r : Option Value) (G G' : xmH) : Prop := Met l (xmY k) (xmWs k) (xmRm k G G') (xmPc V av G) (xmQc V r G') (G'.2.1 - G.2.1) (G'.2.2 - G.2.2) (fun q => V.2.2.2.1 ≤ q)
def xmCtx (p : Program) (s : State) (m : MethodId) (args : Array Value) (meth : Method) (c : Code) (V : xmV) (k : Nat) : Prop :=
  p.tables.exec = Jvm.exec ∧ c.code = xmB k ∧ c.maxLocals = xmML k ∧ s.vm.findClass (xmY k).cls = some m.cls ∧ (∀ w ∈ xmTs, w.before args s = true) ∧ xmKK V s ∧ meth.sig.returnType = xmRt k ∧ meth.locks = false ∧ meth.name = (xmY k).name ∧ V.2.2.2.1 ≤ s.heap.size
section XCall
variable {p : Program} {l : Launch} {e : Env} {R : Room} {s : State} {m : MethodId} {args : Array Value} {below : List Frame} {meth : Method} {c : Code} {Q : State → Prop} {V : xmV} {G0 G G1 : xmH} {k j idx : Nat}
variable {pc : Nat} {lv : xmL} {rest av As : List Value} {r1 : Option Value} {H : Heap} {locs : List Loc} {cells slots mc ms : Nat} {ls : Array Slot} {st0 : List Value} {a : Array Value}
theorem xs_back (hr : va_Run p l e R s m args below meth c H locs cells slots mc ms (F0 m pc ls st0) rest (xmQc V r1 G1 a) (fun q => V.2.2.2.1 ≤ q)) (hS : va_S (fun q => V.2.2.2.1 ≤ q) s.heap H locs)
    (kk : ∀ (H1 : Heap) (locs1 : List Loc), xmCon V G1 H1 → va_S (fun q => V.2.2.2.1 ≤ q) s.heap H1 locs1 → W p l e R s m args below meth c H1 locs1 (cells + mc) (slots + ms) Q (F0 m (pc + 3) ls (r1.toList ++ rest))) : W p l e R s m args below meth c H locs cells slots Q (F0 m pc ls st0) := by
  intro T hT X
  obtain ⟨v, st₀, t, T', L, h0, X', hL, e1, e2, ⟨hv, hc, hz, hk⟩, st⟩ := hr T hT X
  cases hv
  rw [h0] at hz hk
  obtain ⟨t2, a1, b1⟩ := kk T'.heap (locs ++ L) (by rw [e1]; exact hc) ⟨Nat.le_trans hS.1 (by rw [e1]; exact hz), fun q h1 h2 => by rw [e1, hk q (Nat.not_le.mp h2)]; exact hS.2.1 q h1 h2, fun q hq => (List.mem_append.mp hq).elim (hS.2.2 q) (hL q)⟩ T' rfl X'
  exact ⟨t2, st t2 a1, b1⟩
theorem xm_next (hg0 : G0.2.1 ≤ G.2.1 ∧ G0.2.2 ≤ G.2.2) (hg1 : G.2.1 ≤ G1.2.1 ∧ G.2.2 ≤ G1.2.2) : G.2.1 - G0.2.1 + (G1.2.1 - G.2.1) = G1.2.1 - G0.2.1 ∧ G.2.2 - G0.2.2 + (G1.2.2 - G.2.2) = G1.2.2 - G0.2.2 := by
  constructor <;> omega
theorem xs_callS (X : xmCtx p s m args meth c V k) (hM : xmMet l V j av r1 G G1) (hd : xmFr j + 1 ≤ R.frames ∧ 19 + xmML j + xmLo j ≤ R.locals) (hj : xmCode j) (hlink : Cond.methodLink (xmY k).cls idx (xmY j) ∈ xmTs) (hst : Cond.static (xmY j) ∈ xmTs) (hini : Cond.initialized (xmY j).cls ∈ xmTs)
    (hn : (xmY j).cls ≠ "java/lang/invoke/MethodHandle" ∧ (xmY j).cls ≠ "java/lang/invoke/VarHandle" ∧ (parseMethodDescriptor (xmY j).desc).map (fun d => d.parameters.length) = some av.length) (hrest : (rest.map fun v => v.category).sum ≤ 8) (hdg : decode (xmB k) pc = .ok (.invokestatic idx, 3))
    (hg0 : G0.2.1 ≤ G.2.1 ∧ G0.2.2 ≤ G.2.2) (hg1 : G.2.1 ≤ G1.2.1 ∧ G.2.2 ≤ G1.2.2) (hroom : G1.2.1 - G0.2.1 ≤ R.cells ∧ G1.2.2 - G0.2.2 ≤ R.slots)
    (kk : xmGoal p l e R s m args below meth c Q V (xmML k) G0 (pc + 3, lv, r1.toList ++ rest, G1)) : xmGoal p l e R s m args below meth c Q V (xmML k) G0 (pc, lv, av.reverse ++ rest, G) := by
  intro H locs ls hl hC hS
  obtain ⟨hx, hb, hml, hown, hts, hK, hr, hlocks, hnm, hbs⟩ := X
  obtain ⟨ea, eb⟩ := xm_next hg0 hg1
  refine xs_back (va_runS (As := av) (rest := rest) ⟨hx, hb, hml, hown, hts⟩ hM (va_cwS av.length hts (xmGood (W1 := [.methodLink (xmY k).cls idx (xmY j), .static (xmY j), .initialized (xmY j).cls]) hj (by intro w hw; simp only [List.mem_cons, List.not_mem_nil, or_false] at hw; rcases hw with rfl | rfl | rfl <;> assumption)) rfl rfl rfl hn ⟨hd.1, by show 8 + (xmML j + 11) + xmLo j ≤ R.locals; omega⟩) ⟨xmPc_blind, fun U hU hW => ⟨rfl, by rw [hU]; exact hC, hK.go hS hbs hU hW⟩⟩ rfl rfl hl.1 rfl (lv_room hrest) hdg ⟨by show G.2.1 - G0.2.1 + _ ≤ _; rw [ea]; exact hroom.1, by show G.2.2 - G0.2.2 + _ ≤ _; rw [eb]; exact hroom.2⟩) hS fun H1 locs1 hC1 hS1 => ?_
  have k2 := kk H1 locs1 ls hl hC1 hS1
  dsimp only at k2 ⊢
  rw [ea, eb]
  exact k2
theorem xs_callI (X : xmCtx p s m args meth c V k) {b : Nat} (hM : xmMet l V j (.ref b :: As) none G G1) (hd : xmFr j + 1 ≤ R.frames ∧ 19 + xmML j + xmLo j ≤ R.locals) (hj : xmCode j) (hrt : xmRt j = none) (hlink : Cond.methodLink (xmY k).cls idx (xmY j) ∈ xmTs) (hst : Cond.instanceMethod (xmY j) ∈ xmTs) (hini : Cond.initialized (xmY j).cls ∈ xmTs) (hnam : (xmY j).name = "<init>")
    (hn : (xmY j).cls ≠ "java/lang/invoke/MethodHandle" ∧ (xmY j).cls ≠ "java/lang/invoke/VarHandle" ∧ (parseMethodDescriptor (xmY j).desc).map (fun d => d.parameters.length) = some As.length) (hrest : (rest.map fun v => v.category).sum ≤ 8) (hdg : decode (xmB k) pc = .ok (.invokespecial idx, 3))
    (hg0 : G0.2.1 ≤ G.2.1 ∧ G0.2.2 ≤ G.2.2) (hg1 : G.2.1 ≤ G1.2.1 ∧ G.2.2 ≤ G1.2.2) (hroom : G1.2.1 - G0.2.1 ≤ R.cells ∧ G1.2.2 - G0.2.2 ≤ R.slots)
    (kk : xmGoal p l e R s m args below meth c Q V (xmML k) G0 (pc + 3, lv, rest, G1)) : xmGoal p l e R s m args below meth c Q V (xmML k) G0 (pc, lv, As.reverse ++ .ref b :: rest, G) := by
  intro H locs ls hl hC hS
  obtain ⟨hx, hb, hml, hown, hts, hK, hr, hlocks, hnm, hbs⟩ := X
  obtain ⟨ea, eb⟩ := xm_next hg0 hg1
  have hws : xmWs j = Cond.code (xmY j) (xmB j) (xmML j) none :: xmTs := by rw [← hrt]; rfl
  refine xs_back (va_runI (As := As) (rest := rest) ⟨hx, hb, hml, hown, hts⟩ hM (cwI As.length hts (xmGood0 hj) hws rfl rfl (hts _ hini) (hts _ hlink) (hts _ hst) hnam hn ⟨hd.1, by show 8 + (xmML j + 11) + xmLo j ≤ R.locals; omega⟩) ⟨xmPc_blind, fun U hU hW => ⟨rfl, by rw [hU]; exact hC, hK.go hS hbs hU hW⟩⟩ rfl rfl hl.1 rfl (lv_room hrest) hdg ⟨by show G.2.1 - G0.2.1 + _ ≤ _; rw [ea]; exact hroom.1, by show G.2.2 - G0.2.2 + _ ≤ _; rw [eb]; exact hroom.2⟩) hS fun H1 locs1 hC1 hS1 => ?_
  have k2 := kk H1 locs1 ls hl hC1 hS1
  dsimp only at k2 ⊢
  rw [ea, eb]
  exact k2
theorem xs_callIN (X : xmCtx p s m args meth c V k) {b : Nat} (hM : xmMet l V j (.ref b :: As) none G G1) (hd : xmFr j + 1 ≤ R.frames ∧ 19 + xmML j + xmLo j ≤ R.locals) (hj : xmCode j) (hrt : xmRt j = none) {host : String} (hlink : va_Nw (.methodLinkNest (xmY k).cls idx (xmY j) host) s) (hst : Cond.instanceMethod (xmY j) ∈ xmTs) (hini : Cond.initialized (xmY j).cls ∈ xmTs) (hnam : (xmY j).name = "<init>")
    (hn : (xmY j).cls ≠ "java/lang/invoke/MethodHandle" ∧ (xmY j).cls ≠ "java/lang/invoke/VarHandle" ∧ (parseMethodDescriptor (xmY j).desc).map (fun d => d.parameters.length) = some As.length) (hrest : (rest.map fun v => v.category).sum ≤ 8) (hdg : decode (xmB k) pc = .ok (.invokespecial idx, 3))
    (hg0 : G0.2.1 ≤ G.2.1 ∧ G0.2.2 ≤ G.2.2) (hg1 : G.2.1 ≤ G1.2.1 ∧ G.2.2 ≤ G1.2.2) (hroom : G1.2.1 - G0.2.1 ≤ R.cells ∧ G1.2.2 - G0.2.2 ≤ R.slots)
    (kk : xmGoal p l e R s m args below meth c Q V (xmML k) G0 (pc + 3, lv, rest, G1)) : xmGoal p l e R s m args below meth c Q V (xmML k) G0 (pc, lv, As.reverse ++ .ref b :: rest, G) := by
  intro H locs ls hl hC hS
  obtain ⟨hx, hb, hml, hown, hts, hK, hr, hlocks, hnm, hbs⟩ := X
  obtain ⟨ea, eb⟩ := xm_next hg0 hg1
  have hws : xmWs j = Cond.code (xmY j) (xmB j) (xmML j) none :: xmTs := by rw [← hrt]; rfl
  refine xs_back (va_runIN (As := As) (rest := rest) ⟨hx, hb, hml, hown, hts⟩ hM ⟨va_cnB As.length hts (xmGood0 hj) hws rfl rfl hlink (hts _ hini) hn ⟨hd.1, by show 8 + (xmML j + 11) + xmLo j ≤ R.locals; omega⟩, hnam, hts _ hst⟩ ⟨xmPc_blind, fun U hU hW => ⟨rfl, by rw [hU]; exact hC, hK.go hS hbs hU hW⟩⟩ rfl rfl hl.1 rfl (lv_room hrest) hdg ⟨by show G.2.1 - G0.2.1 + _ ≤ _; rw [ea]; exact hroom.1, by show G.2.2 - G0.2.2 + _ ≤ _; rw [eb]; exact hroom.2⟩) hS fun H1 locs1 hC1 hS1 => ?_
  have k2 := kk H1 locs1 ls hl hC1 hS1
  dsimp only at k2 ⊢
  rw [ea, eb]
  exact k2
theorem xs_callV (X : xmCtx p s m args meth c V k) {b ci : Nat} {fs : List Value} {q : vw_C} (hG : G.1 b = (16 + ci, fs)) (hc : vwCl[ci]? = some q) (hq : q.1 = (xmY j).cls) (hM : xmMet l V j (.ref b :: As) r1 G G1) (hd : xmFr j + 1 ≤ R.frames ∧ 19 + xmML j + xmLo j ≤ R.locals) (hj : xmCode j) (hlink : Cond.methodLink (xmY k).cls idx (xmY j) ∈ xmTs) (hst : Cond.instanceMethod (xmY j) ∈ xmTs) (hsel : Cond.selects (xmY j).cls (xmY j) (xmY j) ∈ xmTs) (hini : Cond.initialized (xmY j).cls ∈ xmTs)
    (hn : (xmY j).cls ≠ "java/lang/invoke/MethodHandle" ∧ (xmY j).cls ≠ "java/lang/invoke/VarHandle" ∧ (parseMethodDescriptor (xmY j).desc).map (fun d => d.parameters.length) = some As.length) (hrest : (rest.map fun v => v.category).sum ≤ 8) (hdg : decode (xmB k) pc = .ok (.invokevirtual idx, 3))
    (hg0 : G0.2.1 ≤ G.2.1 ∧ G0.2.2 ≤ G.2.2) (hg1 : G.2.1 ≤ G1.2.1 ∧ G.2.2 ≤ G1.2.2) (hroom : G1.2.1 - G0.2.1 ≤ R.cells ∧ G1.2.2 - G0.2.2 ≤ R.slots)
    (kk : xmGoal p l e R s m args below meth c Q V (xmML k) G0 (pc + 3, lv, r1.toList ++ rest, G1)) : xmGoal p l e R s m args below meth c Q V (xmML k) G0 (pc, lv, As.reverse ++ .ref b :: rest, G) := by
  intro H locs ls hl hC hS
  obtain ⟨hx, hb, hml, hown, hts, hK, hr, hlocks, hnm, hbs⟩ := X
  obtain ⟨ea, eb⟩ := xm_next hg0 hg1
  have hrecv : ∃ cellB : Cell, H[b]? = some cellB ∧ cellB.vm.isStatics = false ∧ s.vm.findClass (xmY j).cls = some cellB.cls := by
    obtain ⟨-, q', g0, -, cell, g1, g2, g3, -⟩ := xm_obj hC hG
    exact ⟨cell, g1, by rw [g3]; rfl, by rw [g2, ← hq]; exact (hK.1.1 ci q hc).2.1⟩
  refine xs_back (va_runV (As := As) (rest := rest) ⟨hx, hb, hml, hown, hts⟩ hM (cwV As.length hts (xmGood (W1 := [.methodLink (xmY k).cls idx (xmY j), .instanceMethod (xmY j), .selects (xmY j).cls (xmY j) (xmY j), .initialized (xmY j).cls]) hj (by intro w hw; simp only [List.mem_cons, List.not_mem_nil, or_false] at hw; rcases hw with rfl | rfl | rfl | rfl <;> assumption)) rfl rfl rfl ⟨rfl, hn⟩ ⟨hd.1, by show 8 + (xmML j + 11) + xmLo j ≤ R.locals; omega⟩) ⟨xmPc_blind, hrecv, fun U hU hW => ⟨rfl, by rw [hU]; exact hC, hK.go hS hbs hU hW⟩⟩ rfl rfl hl.1 rfl (lv_room hrest) hdg ⟨by show G.2.1 - G0.2.1 + _ ≤ _; rw [ea]; exact hroom.1, by show G.2.2 - G0.2.2 + _ ≤ _; rw [eb]; exact hroom.2⟩) hS fun H1 locs1 hC1 hS1 => ?_
  have k2 := kk H1 locs1 ls hl hC1 hS1
  dsimp only at k2 ⊢
  rw [ea, eb]
  exact k2
theorem xs_objInit (X : xmCtx p s m args meth c V k) {b : Nat} (hR : 1 ≤ R.frames ∧ 20 ≤ R.locals) (hlink : Cond.methodLink (xmY k).cls idx Lib.objectInit ∈ xmTs) (hst : Cond.instanceMethod Lib.objectInit ∈ xmTs) (hcode : Cond.code Lib.objectInit ⟨#[0xb1]⟩ 1 none ∈ xmTs) (hrest : (rest.map fun v => v.category).sum ≤ 8) (hdg : decode (xmB k) pc = .ok (.invokespecial idx, 3))
    (kk : xmGoal p l e R s m args below meth c Q V (xmML k) G0 (pc + 3, lv, rest, G)) : xmGoal p l e R s m args below meth c Q V (xmML k) G0 (pc, lv, .ref b :: rest, G) := by
  intro H locs ls hl hC hS
  obtain ⟨hx, hb, hml, hown, hts, hK, hr, hlocks, hnm, hbs⟩ := X
  refine W.objInit hx hb hown (hts _ hlink) (hts _ hst) (hts _ hcode) rfl (by rw [hml]; exact hl.1) rfl hdg hR.1 ?_ ?_
  · have h8 : 2 * (F0 m pc ls (.ref b :: rest)).monitorRoom + (rest.map fun v => v.category).sum ≤ 8 := lv_room hrest
    show 2 * (F0 m pc ls (.ref b :: rest)).monitorRoom + (rest.map fun v => v.category).sum + 12 ≤ R.locals
    omega
  · exact kk H locs ls hl hC hS
end XCall
