/-- the words that every method of ours takes along -/
def xmTs : List Cond := lw_tbl.filter goodWord
theorem xmTs_ok {w : Cond} (h : w ∈ xmTs) : (w.onTables && w.keeps) = true ∨ ∃ ty, w = .arrayClass ty := good_of_word (List.mem_filter.mp h).2
def xmWs (k : Nat) : List Cond := .code (xmY k) (xmB k) (xmML k) (xmRt k) :: xmTs
def xmCode (k : Nat) : Prop := Cond.code (xmY k) (xmB k) (xmML k) (xmRt k) ∈ xmTs
theorem xmGood {k : Nat} {W1 : List Cond} (hk : xmCode k) (h : ∀ w ∈ W1, w ∈ xmTs) : GoodIn xmTs (W1 ++ xmWs k) := by
  intro w hw
  have h1 : w ∈ xmTs := by
    rcases List.mem_append.mp hw with h1 | h1
    · exact h w h1
    · rcases List.mem_cons.mp h1 with rfl | h1
      · exact hk
      · exact h1
  exact ⟨h1, xmTs_ok h1⟩
theorem xmGood0 {k : Nat} (hk : xmCode k) : GoodIn xmTs (xmWs k) := xmGood (W1 := []) hk (fun _ h => by cases h)
def xmNst : Cond → Bool
  | .fieldLinkNest _ _ _ _ _ _ => true
  | .methodLinkNest _ _ _ _ => true
  | _ => false
theorem xmNst_on {w : Cond} (h : xmNst w = true) : w.onTables = true := by
  cases w <;> first | rfl | cases h
theorem xmNst_warm {w : Cond} (h : xmNst w = true) {s U : State} (hW : s.WarmedH U.vm) (hZ : va_Nw w s) : va_Nw w U := by
  cases w <;> first | exact va_Nw.warmF hW hZ | exact va_Nw.warmM hW hZ | cases h
/-- text k, and what lies behind it -/
def xmTx (V : xmV) (k : Nat) (U : State) (H : Heap) : Prop := va_O "java/lang/String" (V.2.2.2.2.1 k) (fun q => V.2.2.2.1 ≤ q) U H ∧ va_OF "java/lang/String" "coder" "B" (.int 0) (V.2.2.2.2.1 k) (fun q => V.2.2.2.1 ≤ q) U H ∧ va_OF "java/lang/String" "value" "[B" (.ref (V.2.2.2.2.2.1 k)) (V.2.2.2.2.1 k) (fun q => V.2.2.2.1 ≤ q) U H ∧ va_T .byte (V.2.2.2.2.2.1 k) (zBy k).length (fun j => .int ((zBy k).getD j 0)) (fun q => V.2.2.2.1 ≤ q) U H
theorem xmTx.go {V : xmV} {k : Nat} {s U : State} {H H1 : Heap} (hvm : s.vm.Alike U.vm) (hq : ∀ a : Nat, a < H.size → ¬ V.2.2.2.1 ≤ a → H1[a]? = H[a]?) (h : xmTx V k s H) : xmTx V k U H1 :=
  ⟨(va_O.moved hvm h.1).kept hq, (va_OF.moved hvm h.2.1).kept hq, (va_OF.moved hvm h.2.2.1).kept hq, (va_T.moved hvm h.2.2.2).kept hq⟩
/-- what the tables say of the kinds that the pictures hold; the script; mates' links; texts; statics -/
def xmKK (V : xmV) (U : State) : Prop := va_K (V.1, V.2.1) vwCl [(V.2.2.1 1, .int), (V.2.2.1 2, .long), (V.2.2.1 3, .byte), (V.2.2.1 4, .boolean)] U ∧ (va_X V.2.2.2.2.2.2.1 V.2.2.2.2.2.2.2.1.length (fun j => V.2.2.2.2.2.2.2.1.getD j 0) U U.heap ∧ V.2.2.2.2.2.2.1 < V.2.2.2.1) ∧ (∀ w ∈ lw_tbl, xmNst w = true → va_Nw w U) ∧ (∀ k, k < zN → xmTx V k U U.heap ∧ vk_R (zS k).1 (zS k).2.1 (zS k).2.2 (V.2.2.2.2.1 k) U) ∧ va_Z "java/lang/String" "COMPACT_STRINGS" "Z" (.int 1) (fun q => V.2.2.2.1 ≤ q) U U.heap ∧ va_Z "jdk/internal/util/Preconditions" "SIOOBE_FORMATTER" "Ljava/util/function/BiFunction;" (va_rf V.2.2.2.2.2.2.2.2) (fun q => V.2.2.2.1 ≤ q) U U.heap
theorem xmKK.go {V : xmV} {s U : State} {H : Heap} {locs : List Loc} (h : xmKK V s) (hS : va_S (fun q => V.2.2.2.1 ≤ q) s.heap H locs) (hbs : V.2.2.2.1 ≤ s.heap.size) (hU : U.heap = H) (hW : s.WarmedH U.vm) : xmKK V U := by
  subst hU
  have hq : ∀ a : Nat, a < s.heap.size → ¬ V.2.2.2.1 ≤ a → U.heap[a]? = s.heap[a]? := hS.2.1
  exact ⟨va_K.moved hW.alike h.1, ⟨(va_X.moved hW.alike h.2.1.1).kept (hq _ (Nat.lt_of_lt_of_le h.2.1.2 hbs) (Nat.not_le.mpr h.2.1.2)), h.2.1.2⟩, fun w hw hn => xmNst_warm hn hW (h.2.2.1 w hw hn), fun k hk => ⟨xmTx.go hW.alike hq (h.2.2.2.1 k hk).1, vk_R.warm hW (h.2.2.2.1 k hk).2⟩, (va_Z.moved hW.alike h.2.2.2.2.1).kept hq, (va_Z.moved hW.alike h.2.2.2.2.2).kept hq⟩
def xmPc (V : xmV) (av : List Value) (G : xmH) : Array Value → State → Prop := va_Pc (av.map (xmRo V)) (fun U => xmCon V G U.heap ∧ xmKK V U)
theorem xmPc_blind {V : xmV} {av : List Value} {G : xmH} : FrameBlind (xmPc V av G) := fun a U g mk q => by
  obtain ⟨q0, q1, q2⟩ := q
  have hq : ∀ a9 : Nat, a9 < U.heap.size → ¬ V.2.2.2.1 ≤ a9 → (U.calling g mk a).heap[a9]? = U.heap[a9]? := fun _ _ _ => rfl
  have hA : U.vm.Alike (U.calling g mk a).vm := Vm.Alike.refl U.vm
  exact ⟨q0, q1, va_K.moved (u := U) (U := U.calling g mk a) hA q2.1, ⟨va_X.moved (u := U) (U := U.calling g mk a) hA q2.2.1.1, q2.2.1.2⟩, fun w hw hn => va_Nw.same (u := U) (U := U.calling g mk a) (xmNst_on hn) rfl (q2.2.2.1 w hw hn), fun k hk => ⟨xmTx.go (s := U) (U := U.calling g mk a) hA hq (q2.2.2.2.1 k hk).1, vk_R.same (u := U) (U := U.calling g mk a) rfl (q2.2.2.2.1 k hk).2⟩, va_Z.moved (u := U) (U := U.calling g mk a) hA q2.2.2.2.2.1, va_Z.moved (u := U) (U := U.calling g mk a) hA q2.2.2.2.2.2⟩
def xmQc (V : xmV) (r : Option Value) (G' : xmH) : Array Value → State → Outcome → State → Prop := fun _ st o t => o = .returned (r.map (xmRo V)) ∧ xmCon V G' t.heap ∧ st.heap.size ≤ t.heap.size ∧ ∀ q : Nat, q < V.2.2.2.1 → t.heap[q]? = st.heap[q]?
def xmRm (k : Nat) (G G' : xmH) : Room := { frames := xmFr k, cells := G'.2.1 - G.2.1, slots := G'.2.2 - G.2.2, locals := xmLo k }
/-- method k, called with av over the picture G, comes back with r over G' -/
def xmMet (l : Launch) (V : xmV) (k : Nat) (av : List Value) (r : Option Value) (G G' : xmH) : Prop := Met l (xmY k) (xmWs k) (xmRm k G G') (xmPc V av G) (xmQc V r G') (G'.2.1 - G.2.1) (G'.2.2 - G.2.2) (fun q => V.2.2.2.1 ≤ q)
def xmCtx (p : Program) (s : State) (m : MethodId) (args : Array Value) (meth : Method) (c : Code) (V : xmV) (k : Nat) : Prop :=
  p.tables.exec = Jvm.exec ∧ c.code = xmB k ∧ c.maxLocals = xmML k ∧ s.vm.findClass (xmY k).cls = some m.cls ∧ (∀ w ∈ xmTs, w.before args s = true) ∧ xmKK V s ∧ meth.sig.returnType = xmRt k ∧ meth.locks = false ∧ meth.name = (xmY k).name ∧ V.2.2.2.1 ≤ s.heap.size
section XCall
variable {p : Program} {l : Launch} {e : Env} {R : Room} {s : State} {m : MethodId} {args : Array Value} {below : List Frame} {meth : Method} {c : Code} {Q : State → Prop} {V : xmV} {G0 G G1 : xmH} {k j idx : Nat}
variable {pc : Nat} {lv : xmL} {rest av As : List Value} {r1 : Option Value} {H : Heap} {locs : List Loc} {cells slots mc ms : Nat} {ls : Array Slot} {st0 : List Value} {a : Array Value}
theorem xs_back (hr : va_Run p l e R s m args below meth c H locs cells slots mc ms (F0 m pc ls st0) rest (xmQc V r1 G1 a) (fun q => V.2.2.2.1 ≤ q)) (hS : va_S (fun q => V.2.2.2.1 ≤ q) s.heap H locs)
    (kk : ∀ (H1 : Heap) (locs1 : List Loc), xmCon V G1 H1 → va_S (fun q => V.2.2.2.1 ≤ q) s.heap H1 locs1 → W p l e R s m args below meth c H1 locs1 (cells + mc) (slots + ms) Q (F0 m (pc + 3) ls ((r1.map (xmRo V)).toList ++ rest))) : W p l e R s m args below meth c H locs cells slots Q (F0 m pc ls st0) := by
  intro T hT X
  obtain ⟨v, st₀, t, T', L, h0, X', hL, e1, e2, ⟨hv, hc, hz, hk⟩, st⟩ := hr T hT X
  cases hv
  rw [h0] at hz hk
  obtain ⟨t2, a1, b1⟩ := kk T'.heap (locs ++ L) (by rw [e1]; exact hc) ⟨Nat.le_trans hS.1 (by rw [e1]; exact hz), fun q h1 h2 => by rw [e1, hk q (Nat.not_le.mp h2)]; exact hS.2.1 q h1 h2, fun q hq => (List.mem_append.mp hq).elim (hS.2.2 q) (hL q)⟩ T' rfl X'
  exact ⟨t2, st t2 a1, b1⟩
theorem xm_cats (V : xmV) (st : List Value) : ((st.map (xmRo V)).map fun v => v.category) = st.map fun v => v.category := by
  rw [List.map_map]
  exact List.map_congr_left (fun v _ => xmRo_cat V v)
theorem xm_ret (V : xmV) (r : Option Value) (st : List Value) : (r.map (xmRo V)).toList ++ st.map (xmRo V) = (r.toList ++ st).map (xmRo V) := by cases r <;> rfl
theorem xm_next (hg0 : G0.2.1 ≤ G.2.1 ∧ G0.2.2 ≤ G.2.2) (hg1 : G.2.1 ≤ G1.2.1 ∧ G.2.2 ≤ G1.2.2) : G.2.1 - G0.2.1 + (G1.2.1 - G.2.1) = G1.2.1 - G0.2.1 ∧ G.2.2 - G0.2.2 + (G1.2.2 - G.2.2) = G1.2.2 - G0.2.2 := by
  constructor <;> omega
theorem xs_callS (X : xmCtx p s m args meth c V k) (hM : xmMet l V j av r1 G G1) (hd : xmFr j + 1 ≤ R.frames ∧ 19 + xmML j + xmLo j ≤ R.locals) (hj : xmCode j) (hlink : Cond.methodLink (xmY k).cls idx (xmY j) ∈ xmTs) (hst : Cond.static (xmY j) ∈ xmTs) (hini : Cond.initialized (xmY j).cls ∈ xmTs)
    (hn : (xmY j).cls ≠ "java/lang/invoke/MethodHandle" ∧ (xmY j).cls ≠ "java/lang/invoke/VarHandle" ∧ (parseMethodDescriptor (xmY j).desc).map (fun d => d.parameters.length) = some av.length) (hrest : (rest.map fun v => v.category).sum ≤ 8) (hdg : decode (xmB k) pc = .ok (.invokestatic idx, 3))
    (hg0 : G0.2.1 ≤ G.2.1 ∧ G0.2.2 ≤ G.2.2) (hg1 : G.2.1 ≤ G1.2.1 ∧ G.2.2 ≤ G1.2.2) (hroom : G1.2.1 - G0.2.1 ≤ R.cells ∧ G1.2.2 - G0.2.2 ≤ R.slots)
    (kk : xmGoal p l e R s m args below meth c Q V (xmML k) G0 (pc + 3, lv, r1.toList ++ rest, G1)) : xmGoal p l e R s m args below meth c Q V (xmML k) G0 (pc, lv, av.reverse ++ rest, G) := by
  intro H locs ls hl hC hS
  obtain ⟨hx, hb, hml, hown, hts, hK, hr, hlocks, hnm, hbs⟩ := X
  obtain ⟨ea, eb⟩ := xm_next hg0 hg1
  show W p l e R s m args below meth c H locs (G.2.1 - G0.2.1) (G.2.2 - G0.2.2) Q (F0 m pc ls ((av.reverse ++ rest).map (xmRo V)))
  rw [List.map_append, List.map_reverse]
  rw [← xm_cats V] at hrest
  refine xs_back (va_runS (As := av.map (xmRo V)) (rest := rest.map (xmRo V)) ⟨hx, hb, hml, hown, hts⟩ hM (va_cwS (av.map (xmRo V)).length hts (xmGood (W1 := [.methodLink (xmY k).cls idx (xmY j), .static (xmY j), .initialized (xmY j).cls]) hj (by intro w hw; simp only [List.mem_cons, List.not_mem_nil, or_false] at hw; rcases hw with rfl | rfl | rfl <;> assumption)) rfl rfl rfl (by rw [List.length_map]; exact hn) ⟨hd.1, by show 8 + (xmML j + 11) + xmLo j ≤ R.locals; omega⟩) ⟨xmPc_blind, fun U hU hW => ⟨rfl, by rw [hU]; exact hC, hK.go hS hbs hU hW⟩⟩ rfl rfl hl.1 rfl (lv_room hrest) hdg ⟨by show G.2.1 - G0.2.1 + _ ≤ _; rw [ea]; exact hroom.1, by show G.2.2 - G0.2.2 + _ ≤ _; rw [eb]; exact hroom.2⟩) hS fun H1 locs1 hC1 hS1 => ?_
  have k2 := kk H1 locs1 ls hl hC1 hS1
  dsimp only at k2 ⊢
  rw [ea, eb]
  first | (rw [xm_ret]; exact k2) | exact k2
theorem xs_callI (X : xmCtx p s m args meth c V k) {b : Nat} (hM : xmMet l V j (.ref b :: As) none G G1) (hd : xmFr j + 1 ≤ R.frames ∧ 19 + xmML j + xmLo j ≤ R.locals) (hj : xmCode j) (hrt : xmRt j = none) (hlink : Cond.methodLink (xmY k).cls idx (xmY j) ∈ xmTs) (hst : Cond.instanceMethod (xmY j) ∈ xmTs) (hini : Cond.initialized (xmY j).cls ∈ xmTs) (hnam : (xmY j).name = "<init>")
    (hn : (xmY j).cls ≠ "java/lang/invoke/MethodHandle" ∧ (xmY j).cls ≠ "java/lang/invoke/VarHandle" ∧ (parseMethodDescriptor (xmY j).desc).map (fun d => d.parameters.length) = some As.length) (hrest : (rest.map fun v => v.category).sum ≤ 8) (hdg : decode (xmB k) pc = .ok (.invokespecial idx, 3))
    (hg0 : G0.2.1 ≤ G.2.1 ∧ G0.2.2 ≤ G.2.2) (hg1 : G.2.1 ≤ G1.2.1 ∧ G.2.2 ≤ G1.2.2) (hroom : G1.2.1 - G0.2.1 ≤ R.cells ∧ G1.2.2 - G0.2.2 ≤ R.slots)
    (kk : xmGoal p l e R s m args below meth c Q V (xmML k) G0 (pc + 3, lv, rest, G1)) : xmGoal p l e R s m args below meth c Q V (xmML k) G0 (pc, lv, As.reverse ++ .ref b :: rest, G) := by
  intro H locs ls hl hC hS
  obtain ⟨hx, hb, hml, hown, hts, hK, hr, hlocks, hnm, hbs⟩ := X
  obtain ⟨ea, eb⟩ := xm_next hg0 hg1
  have hws : xmWs j = Cond.code (xmY j) (xmB j) (xmML j) none :: xmTs := by rw [← hrt]; rfl
  show W p l e R s m args below meth c H locs (G.2.1 - G0.2.1) (G.2.2 - G0.2.2) Q (F0 m pc ls ((As.reverse ++ .ref b :: rest).map (xmRo V)))
  rw [List.map_append, List.map_reverse, List.map_cons]
  rw [← xm_cats V] at hrest
  refine xs_back (va_runI (As := As.map (xmRo V)) (rest := rest.map (xmRo V)) ⟨hx, hb, hml, hown, hts⟩ hM (cwI (As.map (xmRo V)).length hts (xmGood0 hj) hws rfl rfl (hts _ hini) (hts _ hlink) (hts _ hst) hnam (by rw [List.length_map]; exact hn) ⟨hd.1, by show 8 + (xmML j + 11) + xmLo j ≤ R.locals; omega⟩) ⟨xmPc_blind, fun U hU hW => ⟨rfl, by rw [hU]; exact hC, hK.go hS hbs hU hW⟩⟩ rfl rfl hl.1 rfl (lv_room hrest) hdg ⟨by show G.2.1 - G0.2.1 + _ ≤ _; rw [ea]; exact hroom.1, by show G.2.2 - G0.2.2 + _ ≤ _; rw [eb]; exact hroom.2⟩) hS fun H1 locs1 hC1 hS1 => ?_
  have k2 := kk H1 locs1 ls hl hC1 hS1
  dsimp only at k2 ⊢
  rw [ea, eb]
  first | (rw [xm_ret]; exact k2) | exact k2
theorem xs_callIN (X : xmCtx p s m args meth c V k) {b : Nat} (hM : xmMet l V j (.ref b :: As) none G G1) (hd : xmFr j + 1 ≤ R.frames ∧ 19 + xmML j + xmLo j ≤ R.locals) (hj : xmCode j) (hrt : xmRt j = none) {host : String} (hlink : va_Nw (.methodLinkNest (xmY k).cls idx (xmY j) host) s) (hst : Cond.instanceMethod (xmY j) ∈ xmTs) (hini : Cond.initialized (xmY j).cls ∈ xmTs) (hnam : (xmY j).name = "<init>")
    (hn : (xmY j).cls ≠ "java/lang/invoke/MethodHandle" ∧ (xmY j).cls ≠ "java/lang/invoke/VarHandle" ∧ (parseMethodDescriptor (xmY j).desc).map (fun d => d.parameters.length) = some As.length) (hrest : (rest.map fun v => v.category).sum ≤ 8) (hdg : decode (xmB k) pc = .ok (.invokespecial idx, 3))
    (hg0 : G0.2.1 ≤ G.2.1 ∧ G0.2.2 ≤ G.2.2) (hg1 : G.2.1 ≤ G1.2.1 ∧ G.2.2 ≤ G1.2.2) (hroom : G1.2.1 - G0.2.1 ≤ R.cells ∧ G1.2.2 - G0.2.2 ≤ R.slots)
    (kk : xmGoal p l e R s m args below meth c Q V (xmML k) G0 (pc + 3, lv, rest, G1)) : xmGoal p l e R s m args below meth c Q V (xmML k) G0 (pc, lv, As.reverse ++ .ref b :: rest, G) := by
  intro H locs ls hl hC hS
  obtain ⟨hx, hb, hml, hown, hts, hK, hr, hlocks, hnm, hbs⟩ := X
  obtain ⟨ea, eb⟩ := xm_next hg0 hg1
  have hws : xmWs j = Cond.code (xmY j) (xmB j) (xmML j) none :: xmTs := by rw [← hrt]; rfl
  show W p l e R s m args below meth c H locs (G.2.1 - G0.2.1) (G.2.2 - G0.2.2) Q (F0 m pc ls ((As.reverse ++ .ref b :: rest).map (xmRo V)))
  rw [List.map_append, List.map_reverse, List.map_cons]
  rw [← xm_cats V] at hrest
  refine xs_back (va_runIN (As := As.map (xmRo V)) (rest := rest.map (xmRo V)) ⟨hx, hb, hml, hown, hts⟩ hM ⟨va_cnB (As.map (xmRo V)).length hts (xmGood0 hj) hws rfl rfl hlink (hts _ hini) (by rw [List.length_map]; exact hn) ⟨hd.1, by show 8 + (xmML j + 11) + xmLo j ≤ R.locals; omega⟩, hnam, hts _ hst⟩ ⟨xmPc_blind, fun U hU hW => ⟨rfl, by rw [hU]; exact hC, hK.go hS hbs hU hW⟩⟩ rfl rfl hl.1 rfl (lv_room hrest) hdg ⟨by show G.2.1 - G0.2.1 + _ ≤ _; rw [ea]; exact hroom.1, by show G.2.2 - G0.2.2 + _ ≤ _; rw [eb]; exact hroom.2⟩) hS fun H1 locs1 hC1 hS1 => ?_
  have k2 := kk H1 locs1 ls hl hC1 hS1
  dsimp only at k2 ⊢
  rw [ea, eb]
  first | (rw [xm_ret]; exact k2) | exact k2
theorem xs_callV (X : xmCtx p s m args meth c V k) {b ci : Nat} {fs : List Value} {q : vw_C} (hG : G.1 b = (16 + ci, fs)) (hc : vwCl[ci]? = some q) (hq : q.1 = (xmY j).cls) (hM : xmMet l V j (.ref b :: As) r1 G G1) (hd : xmFr j + 1 ≤ R.frames ∧ 19 + xmML j + xmLo j ≤ R.locals) (hj : xmCode j) (hlink : Cond.methodLink (xmY k).cls idx (xmY j) ∈ xmTs) (hst : Cond.instanceMethod (xmY j) ∈ xmTs) (hsel : Cond.selects (xmY j).cls (xmY j) (xmY j) ∈ xmTs) (hini : Cond.initialized (xmY j).cls ∈ xmTs)
    (hn : (xmY j).cls ≠ "java/lang/invoke/MethodHandle" ∧ (xmY j).cls ≠ "java/lang/invoke/VarHandle" ∧ (parseMethodDescriptor (xmY j).desc).map (fun d => d.parameters.length) = some As.length) (hrest : (rest.map fun v => v.category).sum ≤ 8) (hdg : decode (xmB k) pc = .ok (.invokevirtual idx, 3))
    (hg0 : G0.2.1 ≤ G.2.1 ∧ G0.2.2 ≤ G.2.2) (hg1 : G.2.1 ≤ G1.2.1 ∧ G.2.2 ≤ G1.2.2) (hroom : G1.2.1 - G0.2.1 ≤ R.cells ∧ G1.2.2 - G0.2.2 ≤ R.slots)
    (kk : xmGoal p l e R s m args below meth c Q V (xmML k) G0 (pc + 3, lv, r1.toList ++ rest, G1)) : xmGoal p l e R s m args below meth c Q V (xmML k) G0 (pc, lv, As.reverse ++ .ref b :: rest, G) := by
  intro H locs ls hl hC hS
  obtain ⟨hx, hb, hml, hown, hts, hK, hr, hlocks, hnm, hbs⟩ := X
  obtain ⟨ea, eb⟩ := xm_next hg0 hg1
  have hrecv : ∃ cellB : Cell, H[V.2.2.2.1 + b]? = some cellB ∧ cellB.vm.isStatics = false ∧ s.vm.findClass (xmY j).cls = some cellB.cls := by
    obtain ⟨q', g0, -, cell, g1, g2, g3, -⟩ := xm_obj hC hG
    exact ⟨cell, g1, by rw [g3]; rfl, by rw [g2, ← hq]; exact (hK.1.1 ci q hc).2.1⟩
  show W p l e R s m args below meth c H locs (G.2.1 - G0.2.1) (G.2.2 - G0.2.2) Q (F0 m pc ls ((As.reverse ++ .ref b :: rest).map (xmRo V)))
  rw [List.map_append, List.map_reverse, List.map_cons]
  rw [← xm_cats V] at hrest
  refine xs_back (va_runV (As := As.map (xmRo V)) (rest := rest.map (xmRo V)) ⟨hx, hb, hml, hown, hts⟩ hM (cwV (As.map (xmRo V)).length hts (xmGood (W1 := [.methodLink (xmY k).cls idx (xmY j), .instanceMethod (xmY j), .selects (xmY j).cls (xmY j) (xmY j), .initialized (xmY j).cls]) hj (by intro w hw; simp only [List.mem_cons, List.not_mem_nil, or_false] at hw; rcases hw with rfl | rfl | rfl | rfl <;> assumption)) rfl rfl rfl ⟨rfl, by rw [List.length_map]; exact hn⟩ ⟨hd.1, by show 8 + (xmML j + 11) + xmLo j ≤ R.locals; omega⟩) ⟨xmPc_blind, hrecv, fun U hU hW => ⟨rfl, by rw [hU]; exact hC, hK.go hS hbs hU hW⟩⟩ rfl rfl hl.1 rfl (lv_room hrest) hdg ⟨by show G.2.1 - G0.2.1 + _ ≤ _; rw [ea]; exact hroom.1, by show G.2.2 - G0.2.2 + _ ≤ _; rw [eb]; exact hroom.2⟩) hS fun H1 locs1 hC1 hS1 => ?_
  have k2 := kk H1 locs1 ls hl hC1 hS1
  dsimp only at k2 ⊢
  rw [ea, eb]
  first | (rw [xm_ret]; exact k2) | exact k2
theorem xs_callT (X : xmCtx p s m args meth c V k) {b : Nat} (hb9 : b < zN) (hj9 : (xmY j).cls = "java/lang/String") (hM : xmMet l V j (.retAddr b :: As) r1 G G1) (hd : xmFr j + 1 ≤ R.frames ∧ 19 + xmML j + xmLo j ≤ R.locals) (hj : xmCode j) (hlink : Cond.methodLink (xmY k).cls idx (xmY j) ∈ xmTs) (hst : Cond.instanceMethod (xmY j) ∈ xmTs) (hsel : Cond.selects (xmY j).cls (xmY j) (xmY j) ∈ xmTs) (hini : Cond.initialized (xmY j).cls ∈ xmTs)
    (hn : (xmY j).cls ≠ "java/lang/invoke/MethodHandle" ∧ (xmY j).cls ≠ "java/lang/invoke/VarHandle" ∧ (parseMethodDescriptor (xmY j).desc).map (fun d => d.parameters.length) = some As.length) (hrest : (rest.map fun v => v.category).sum ≤ 8) (hdg : decode (xmB k) pc = .ok (.invokevirtual idx, 3))
    (hg0 : G0.2.1 ≤ G.2.1 ∧ G0.2.2 ≤ G.2.2) (hg1 : G.2.1 ≤ G1.2.1 ∧ G.2.2 ≤ G1.2.2) (hroom : G1.2.1 - G0.2.1 ≤ R.cells ∧ G1.2.2 - G0.2.2 ≤ R.slots)
    (kk : xmGoal p l e R s m args below meth c Q V (xmML k) G0 (pc + 3, lv, r1.toList ++ rest, G1)) : xmGoal p l e R s m args below meth c Q V (xmML k) G0 (pc, lv, As.reverse ++ .retAddr b :: rest, G) := by
  intro H locs ls hl hC hS
  obtain ⟨hx, hb, hml, hown, hts, hK, hr, hlocks, hnm, hbs⟩ := X
  obtain ⟨ea, eb⟩ := xm_next hg0 hg1
  have hst9 : xmSt V b = V.2.2.2.2.1 b := if_pos (Nat.lt_trans hb9 (by decide))
  have hrecv : ∃ cellB : Cell, H[V.2.2.2.2.1 b]? = some cellB ∧ cellB.vm.isStatics = false ∧ s.vm.findClass (xmY j).cls = some cellB.cls := by
    obtain ⟨cell, g1, g2, g3, -⟩ := ((hK.2.2.2.1 b hb9).1.1).kept hS.2.1
    exact ⟨cell, g1, g2, by rw [hj9]; exact g3⟩
  show W p l e R s m args below meth c H locs (G.2.1 - G0.2.1) (G.2.2 - G0.2.2) Q (F0 m pc ls ((As.reverse ++ .retAddr b :: rest).map (xmRo V)))
  rw [List.map_append, List.map_reverse, List.map_cons, show xmRo V (.retAddr b) = .ref (V.2.2.2.2.1 b) from congrArg Value.ref hst9]
  rw [← xm_cats V] at hrest
  refine xs_back (va_runV (As := As.map (xmRo V)) (rest := rest.map (xmRo V)) ⟨hx, hb, hml, hown, hts⟩ hM (cwV (As.map (xmRo V)).length hts (xmGood (W1 := [.methodLink (xmY k).cls idx (xmY j), .instanceMethod (xmY j), .selects (xmY j).cls (xmY j) (xmY j), .initialized (xmY j).cls]) hj (by intro w hw; simp only [List.mem_cons, List.not_mem_nil, or_false] at hw; rcases hw with rfl | rfl | rfl | rfl <;> assumption)) rfl rfl rfl ⟨rfl, by rw [List.length_map]; exact hn⟩ ⟨hd.1, by show 8 + (xmML j + 11) + xmLo j ≤ R.locals; omega⟩) ⟨xmPc_blind, hrecv, fun U hU hW => ⟨by rw [← hst9]; rfl, by rw [hU]; exact hC, hK.go hS hbs hU hW⟩⟩ rfl rfl hl.1 rfl (lv_room hrest) hdg ⟨by show G.2.1 - G0.2.1 + _ ≤ _; rw [ea]; exact hroom.1, by show G.2.2 - G0.2.2 + _ ≤ _; rw [eb]; exact hroom.2⟩) hS fun H1 locs1 hC1 hS1 => ?_
  have k2 := kk H1 locs1 ls hl hC1 hS1
  dsimp only at k2 ⊢
  rw [ea, eb]
  first | (rw [xm_ret]; exact k2) | exact k2
theorem xs_objInit (X : xmCtx p s m args meth c V k) {b : Nat} (hR : 1 ≤ R.frames ∧ 20 ≤ R.locals) (hlink : Cond.methodLink (xmY k).cls idx Lib.objectInit ∈ xmTs) (hst : Cond.instanceMethod Lib.objectInit ∈ xmTs) (hcode : Cond.code Lib.objectInit ⟨#[0xb1]⟩ 1 none ∈ xmTs) (hrest : (rest.map fun v => v.category).sum ≤ 8) (hdg : decode (xmB k) pc = .ok (.invokespecial idx, 3))
    (kk : xmGoal p l e R s m args below meth c Q V (xmML k) G0 (pc + 3, lv, rest, G)) : xmGoal p l e R s m args below meth c Q V (xmML k) G0 (pc, lv, .ref b :: rest, G) := by
  intro H locs ls hl hC hS
  obtain ⟨hx, hb, hml, hown, hts, hK, hr, hlocks, hnm, hbs⟩ := X
  refine W.objInit hx hb hown (hts _ hlink) (hts _ hst) (hts _ hcode) rfl (by rw [hml]; exact hl.1) rfl hdg hR.1 ?_ ?_
  · rw [← xm_cats V] at hrest
    have h8 : 2 * (F0 m pc ls (xmRo V (.ref b) :: rest.map (xmRo V))).monitorRoom + ((rest.map (xmRo V)).map fun v => v.category).sum ≤ 8 := lv_room hrest
    show 2 * (F0 m pc ls (xmRo V (.ref b) :: rest.map (xmRo V))).monitorRoom + ((rest.map (xmRo V)).map fun v => v.category).sum + 12 ≤ R.locals
    omega
  · exact kk H locs ls hl hC hS
theorem xs_min (X : xmCtx p s m args meth c V k) (hR : 1 ≤ R.frames ∧ 30 ≤ R.locals) (hlink : Cond.methodLink (xmY k).cls idx Lib.Math.min.name ∈ xmTs) (hst : Cond.static Lib.Math.min.name ∈ xmTs) (hini : Cond.initialized "java/lang/Math" ∈ xmTs) (hcode : Cond.code Lib.Math.min.name Lib.Math.min.code 2 (some .int) ∈ xmTs) (hrest : (rest.map fun v => v.category).sum ≤ 8) {x y : Int32} (hdg : decode (xmB k) pc = .ok (.invokestatic idx, 3)) (hroom : G.2.1 - G0.2.1 ≤ R.cells ∧ G.2.2 - G0.2.2 ≤ R.slots)
    (kk : xmGoal p l e R s m args below meth c Q V (xmML k) G0 (pc + 3, lv, .int (if y < x then y else x) :: rest, G)) : xmGoal p l e R s m args below meth c Q V (xmML k) G0 (pc, lv, .int y :: .int x :: rest, G) := by
  intro H locs ls hl hC hS
  obtain ⟨hx, hb, hml, hown, hts, hK, hr, hlocks, hnm, hbs⟩ := X
  rw [← xm_cats V] at hrest
  refine va_mmin hx hb (by rw [hml]; exact hl.1.symm) hown (hts _ hlink) (hts _ hst) (hts _ hini) (hts _ hcode) hR.1 (by omega) hroom.1 hroom.2 hdg ?_
  exact kk H locs ls hl hC hS
theorem xs_max (X : xmCtx p s m args meth c V k) (hR : 1 ≤ R.frames ∧ 30 ≤ R.locals) (hlink : Cond.methodLink (xmY k).cls idx Lib.Math.max.name ∈ xmTs) (hst : Cond.static Lib.Math.max.name ∈ xmTs) (hini : Cond.initialized "java/lang/Math" ∈ xmTs) (hcode : Cond.code Lib.Math.max.name Lib.Math.max.code 2 (some .int) ∈ xmTs) (hrest : (rest.map fun v => v.category).sum ≤ 8) {x y : Int32} (hdg : decode (xmB k) pc = .ok (.invokestatic idx, 3)) (hroom : G.2.1 - G0.2.1 ≤ R.cells ∧ G.2.2 - G0.2.2 ≤ R.slots)
    (kk : xmGoal p l e R s m args below meth c Q V (xmML k) G0 (pc + 3, lv, .int (if x < y then y else x) :: rest, G)) : xmGoal p l e R s m args below meth c Q V (xmML k) G0 (pc, lv, .int y :: .int x :: rest, G) := by
  intro H locs ls hl hC hS
  obtain ⟨hx, hb, hml, hown, hts, hK, hr, hlocks, hnm, hbs⟩ := X
  rw [← xm_cats V] at hrest
  refine va_mmax hx hb (by rw [hml]; exact hl.1.symm) hown (hts _ hlink) (hts _ hst) (hts _ hini) (hts _ hcode) hR.1 (by omega) hroom.1 hroom.2 hdg ?_
  exact kk H locs ls hl hC hS
/-- n places of vs from sp on come into ws from dp on -/
def xmCpy (vs ws : List Value) (sp dp n : Nat) : List Value := (List.range ws.length).map (va_cpy (fun j => vs.getD j .null) (fun j => ws.getD j .null) sp dp n)
theorem xs_copy (X : xmCtx p s m args meth c V k) (hR : 1 ≤ R.frames ∧ 30 ≤ R.locals) (hlink : Cond.methodLink (xmY k).cls idx arraycopyName ∈ xmTs) (hnat : Cond.native arraycopyName ∈ xmTs) (hst : Cond.static arraycopyName ∈ xmTs) (hini : Cond.initialized "java/lang/System" ∈ xmTs) {a0 a1 : Nat} {vs ws : List Value} (h0 : G.1 a0 = (1, vs)) (h1 : G.1 a1 = (1, ws)) (hint : ∀ v ∈ vs, ∃ z : Int32, v = .int z) {sp dp n : Int32} (hsp : ¬ sp < 0) (hdp : ¬ dp < 0) (hn : ¬ n < 0) (h4 : sp.toNatClampNeg + n.toNatClampNeg ≤ vs.length) (h5 : dp.toNatClampNeg + n.toNatClampNeg ≤ ws.length) (hrest : (rest.map fun v => v.category).sum ≤ 8) (hdg : decode (xmB k) pc = .ok (.invokestatic idx, 3))
    (kk : xmGoal p l e R s m args below meth c Q V (xmML k) G0 (pc + 3, lv, rest, (xmUp G.1 a1 (1, xmCpy vs ws sp.toNatClampNeg dp.toNatClampNeg n.toNatClampNeg), G.2))) : xmGoal p l e R s m args below meth c Q V (xmML k) G0 (pc, lv, .int n :: .int dp :: .ref a1 :: .int sp :: .ref a0 :: rest, G) := by
  intro H locs ls hl hC hS
  obtain ⟨hx, hb, hml, hown, hts, hK, hr, hlocks, hnm, hbs⟩ := X
  have nn : ∀ z : Int32, ¬ z < 0 → z.toInt = (z.toNatClampNeg : Int) := by
    intro z hz
    have hz0 : (0 : Int) ≤ z.toInt := by
      have := Int32.not_lt.mp hz
      simpa using Int32.le_iff_toInt_le.mp this
    show z.toInt = ((z.toInt.toNat : Nat) : Int)
    omega
  rw [← xm_cats V] at hrest
  have hc0 := xm_arr hC h0 (by decide) (by decide)
  have hc1 := xm_arr hC h1 (by decide) (by decide)
  rw [List.length_map] at hc0 hc1
  intro T hT X
  generalize hf : (fun j => (vs.map (xmRo V)).getD j .null) = f at hc0
  generalize hg : (fun j => (ws.map (xmRo V)).getD j .null) = g at hc1
  obtain ⟨-, k0, hk0, cm0, hkk0⟩ := (hK.1.2 0 _ rfl).1 vs.length f
  obtain ⟨-, k1, hk1, cm1, hkk1⟩ := (hK.1.2 0 _ rfl).1 ws.length g
  obtain ⟨vm', X', step⟩ := X.arraycopy hx hown (hts _ hlink) (hts _ hnat) (hts _ hst) (hts _ hini) (src := V.2.2.2.1 + a0) (dst := V.2.2.2.1 + a1) (cs := arrV (V.2.2.1 1) vs.length f) (cd := arrV (V.2.2.1 1) ws.length g) (srcPos := sp) (destPos := dp) (n := n) (by rw [hT]; exact hc0) (by rw [hT]; exact hc1)
    (fun _ h => by cases h) (fun _ h => by cases h) (fun h => by cases h) (fun h => by cases h) hk0 hk1 hkk0 hkk1 rfl hsp hdp hn
    (by rw [nn sp hsp, nn n hn, arrV_size]; omega)
    (by rw [nn dp hdp, nn n hn, arrV_size]; omega)
    (fun vm₁ _ i hi => by
      have hlt : sp.toNatClampNeg + i < vs.length := by omega
      obtain ⟨z, hz⟩ := hint _ (List.getElem_mem hlt)
      have e : (arrV (V.2.2.1 1) vs.length f).slots.getD (sp.toNatClampNeg + i) .null = .int z := by
        rw [Array.getD_eq_getD_getElem?, arrV_read _ _ hlt, ← hf]
        show (vs.map (xmRo V)).getD (sp.toNatClampNeg + i) .null = .int z
        rw [List.getD_eq_getElem?_getD, List.getElem?_map, List.getElem?_eq_getElem hlt, hz]
        rfl
      rw [e]
      exact ⟨rfl, trivial⟩)
    (g := F0 m pc ls (.int n :: .int dp :: .ref (V.2.2.2.1 + a1) :: .int sp :: .ref (V.2.2.2.1 + a0) :: rest.map (xmRo V))) rfl (by rw [hml]; exact hl.1) (rest := rest.map (xmRo V)) rfl (by rw [hb]; exact hdg) hR.1 (by
      have hw : nativeFrameWords "java/lang/System" "arraycopy" 5 ≤ 11 := by decide
      show 2 * 0 + _ + _ ≤ _
      omega)
  have e1 : copied (arrV (V.2.2.1 1) vs.length f) (arrV (V.2.2.1 1) ws.length g) sp dp n = arrV (V.2.2.1 1) ws.length (va_cpy f g sp.toNatClampNeg dp.toNatClampNeg n.toNatClampNeg) := va_copied (fun z => z) (V.2.2.1 1) (V.2.2.1 1) f g h4
  rw [e1] at X' step
  have hlt : V.2.2.2.1 + a1 < H.size := (Array.getElem?_eq_some_iff.mp hc1).1
  have hheap : ((T.setVm vm').setCell (V.2.2.2.1 + a1) (arrV (V.2.2.1 1) ws.length (va_cpy f g sp.toNatClampNeg dp.toNatClampNeg n.toNatClampNeg))).heap = H.setIfInBounds (V.2.2.2.1 + a1) (arrV (V.2.2.1 1) ws.length (va_cpy f g sp.toNatClampNeg dp.toNatClampNeg n.toNatClampNeg)) := by rw [← hT]; rfl
  have oq : ∀ q : Nat, q ≠ V.2.2.2.1 + a1 → (H.setIfInBounds (V.2.2.2.1 + a1) (arrV (V.2.2.1 1) ws.length (va_cpy f g sp.toNatClampNeg dp.toNatClampNeg n.toNatClampNeg)))[q]? = H[q]? := fun q hq => by simp [Array.getElem?_setIfInBounds, Ne.symm hq]
  have hlen : (xmCpy vs ws sp.toNatClampNeg dp.toNatClampNeg n.toNatClampNeg).length = ws.length := by simp [xmCpy]
  have hat : xmAt V a1 (1, xmCpy vs ws sp.toNatClampNeg dp.toNatClampNeg n.toNatClampNeg) (H.setIfInBounds (V.2.2.2.1 + a1) (arrV (V.2.2.1 1) ws.length (va_cpy f g sp.toNatClampNeg dp.toNatClampNeg n.toNatClampNeg))) := by
    unfold xmAt
    dsimp only
    rw [if_pos (by decide), hlen]
    simp only [Array.getElem?_setIfInBounds, hlt, if_true]
    refine congrArg some (arrV_ext fun j hj => ?_)
    have e2 : (xmCpy vs ws sp.toNatClampNeg dp.toNatClampNeg n.toNatClampNeg).getD j .null = va_cpy (fun j => vs.getD j .null) (fun j => ws.getD j .null) sp.toNatClampNeg dp.toNatClampNeg n.toNatClampNeg j := by
      simp [xmCpy, List.getD_eq_getElem?_getD, hj]
    have ro : ∀ (us : List Value) (i : Nat), (us.map (xmRo V)).getD i .null = xmRo V (us.getD i .null) := by
      intro us i
      rw [List.getD_eq_getElem?_getD, List.getD_eq_getElem?_getD, List.getElem?_map]
      cases us[i]? <;> rfl
    rw [e2, ← hf, ← hg]
    unfold va_cpy
    split <;> exact ro _ _
  obtain ⟨t, b1, b2⟩ := kk _ _ ls hl (hC.up (by simp) oq hat) ⟨by simp; exact hS.1, fun q g1 g2 => by
      rw [oq q (fun e => g2 (by rw [e]; exact Nat.le_add_right _ _))]
      exact hS.2.1 q g1 g2, fun q hq => by
      rcases List.mem_append.mp hq with h | h
      · exact hS.2.2 q h
      · obtain ⟨z, -, hz⟩ := List.mem_map.mp h
        rw [← hz]
        exact Nat.le_add_right _ _⟩ _ hheap X'
  exact ⟨t, step t b1, b2⟩
end XCall
