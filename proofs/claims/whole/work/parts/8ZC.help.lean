/-! THE THROW, UP TO THE LAW'S HELPERS, WHICH CATCH IT -/
theorem w_c145 : xmCode 145 := mem_Ts (by decide +kernel) (by decide +kernel)
theorem w_c147 : xmCode 147 := mem_Ts (by decide +kernel) (by decide +kernel)
theorem w_i145 : Cond.instanceMethod (xmY 145) ∈ xmTs := mem_Ts (by decide +kernel) (by decide +kernel)
theorem w_i147 : Cond.instanceMethod (xmY 147) ∈ xmTs := mem_Ts (by decide +kernel) (by decide +kernel)
theorem w_s145 : Cond.selects "LevelFlow" (xmY 145) (xmY 145) ∈ xmTs := mem_Ts (by decide +kernel) (by decide +kernel)
theorem w_s147 : Cond.selects "LevelFlow" (xmY 147) (xmY 147) ∈ xmTs := mem_Ts (by decide +kernel) (by decide +kernel)
section Help
variable {p : Program} {l : Launch} {e : Env} {R : Room} {s : State} {m : MethodId} {args : Array Value} {below : List Frame} {meth : Method} {c : Code} {Q : State → Prop} {V : xmV} {G : xmH} {H : Heap} {locs : List Loc} {cells slots : Nat} {ls : Array Slot}
theorem W.aretC {cc : ByteArray} {a : Addr} {n : String} {pc : Nat} (hexec : p.tables.exec = Jvm.exec) (hb : c.code = cc) (hr : meth.sig.returnType = some (.object n)) (hlocks : meth.locks = false) (hdg : decode cc pc = .ok (.areturn, 1))
    (hq : ∀ t : State, t.heap = H → cEnd below s t (.returned (some (.ref a))) locs cells slots → Q t) : W p l e R s m args below meth c H locs cells slots Q (F0 m pc ls [.ref a]) := by
  intro T hT X
  obtain ⟨fs, hret, hrun, hended, hW, hframe⟩ := X.leave (v := some (.ref a)) (hlocks := hlocks) (fun h => by rw [hr] at h; cases h)
  have hmeth' : T.vm.method? m = some meth := X.method'
  refine ⟨T.setFrames fs, ?_, hq _ hT ⟨hended, hW, hframe⟩⟩
  jvm_step X.here [X.here.top, hexec, hb, hdg, hmeth', hr]
  (try refine ⟨rfl, ?_⟩); (try refine ⟨rfl, ?_⟩)
  first | (intro acts; rw [hret _ acts rfl rfl rfl]) | rw [hret _ _ rfl rfl rfl]
  exact Steps.refl _
set_option maxHeartbeats 1000000 in
theorem o147_thr (B : bxC p s args V) (hall : xHall) (htr : e.platform.stackTraces = false) (hM : bxM s (xmY 147) (xmB 147) 3 (some .int) m meth c) (htab : c.exceptionTable.toList = []) (hR : 9 ≤ R.frames ∧ 200 ≤ R.locals ∧ 1 ≤ R.cells ∧ 6 ≤ R.slots) (hsz : ls.size = 3) (hH : s.heap = H) (hC : xmCon V G H) {a0 ba r : Nat} {fs fs0 fb : List Value} {z i : Int32} {b : Bool} (hG0 : G.1 a0 = (24, fs0)) (hv9 : fs0[9]? = some (.ref ba)) (hGb : G.1 ba = (18, fb)) (hrow : if b = true then fb[0]? = some (.ref r) else fs0[8]? = some (.ref r)) (hG : G.1 r = (16, fs)) (hv : fs[2]? = some (.int z)) (hi : i < 0 ∨ ¬ i < z)
    (hl0 : ls[0]? = some (.val (.ref (V.2.2.2.1 + a0)))) (hl1 : ls[1]? = some (.val (.int i))) (hl2 : ls[2]? = some (.val (.int (b01 b)))) (hq : ∀ (t : State) (a : Addr), thE s t a → cEnd below s t (.threw a) [] 1 6 → Q t) : W p l e R s m args below meth c H [] 0 0 Q (F0 m 0 ls []) := by
  subst hH
  have hM' := hM
  obtain ⟨hn, hm, hc, hb, hml, hr, hlk, hsig⟩ := hM
  have hown : s.vm.findClass (xmY 147).cls = some m.cls := findClass_of_methodNamed hn
  have tail : W p l e R s m args below meth c s.heap [] 0 0 Q (F0 m 18 ls [.ref (V.2.2.2.1 + r)]) := by
    refine lv_iload_n B.1 hb (k := 1) (pc := 18) (show decode (xmB 147) 18 = _ by decide +kernel) rfl hl1 ?_
    exact el_call B hall htr (k := 147) (pc := 19) (by decide) rfl hM' htab hR hsz rfl hC hG hv hi hq
  refine lv_iload_n B.1 hb (k := 2) (pc := 0) (show decode (xmB 147) 0 = _ by decide +kernel) rfl hl2 ?_
  cases b with
  | false =>
    rw [if_neg (by decide)] at hrow
    refine lv_if_eq B.1 hb (pc := 1) (off := 13) (tgt := 14) (show decode (xmB 147) 1 = _ by decide +kernel) (by decide) (fun _ => ?_) (fun h => absurd rfl h)
    refine lv_aload_n B.1 hb (k := 0) (pc := 14) (show decode (xmB 147) 14 = _ by decide +kernel) rfl hl0 ?_
    exact wf_get B hall (k := 147) (pc := 15) (ci := 8) (fi := 8) (v := .ref r) (by decide) rfl (by decide) hb hown hC hG0 hrow tail
  | true =>
    rw [if_pos rfl] at hrow
    refine lv_if_eq B.1 hb (pc := 1) (off := 13) (tgt := 14) (show decode (xmB 147) 1 = _ by decide +kernel) (by decide) (fun h => absurd h (by decide)) (fun _ => ?_)
    refine lv_aload_n B.1 hb (k := 0) (pc := 4) (show decode (xmB 147) 4 = _ by decide +kernel) rfl hl0 ?_
    refine wf_get B hall (k := 147) (pc := 5) (ci := 8) (fi := 9) (v := .ref ba) (by decide) rfl (by decide) hb hown hC hG0 hv9 ?_
    obtain ⟨hdg, -, ⟨hco, -, -, -, hna⟩, hlink, hst, hsel, -⟩ := (hall 147 (by decide)).2 8 (.invokevirtual 134, 3, [33, 0, 2, 5, 51]) rfl
    obtain ⟨m1, meth1, c1, hM1, htab1⟩ := bx_meth B (k := 33) hco
    have hM1' := hM1
    obtain ⟨k1, k2, k3, k4, k5, k6, k7, k8⟩ := hM1
    obtain ⟨q, hq0, -, cell, g1, g2, g3, -⟩ := xm_obj (ci := 2) hC hGb
    have hsg : meth1.sig = ⟨[], some (.object "LevelFlow$IntRow")⟩ := by
      have e9 : parseMethodDescriptor (xmY 33).desc = some ⟨[], some (.object "LevelFlow$IntRow")⟩ := by decide +kernel
      rw [e9] at k8
      exact (Option.some.inj k8).symm
    refine W.inV (As := []) (rest := []) (C := "LevelFlow$Batch") (R' := { frames := 0, locals := 0, cells := 0, slots := 0 }) B.1 hb hown (B.2.1 _ hlink) (B.2.1 _ hst) (B.2.1 _ hsel) k1 k2 k3 k7 (show plainName (xmY 33).cls = true by decide +kernel) ⟨hna.1, hna.2.1⟩ (by rw [hsg]; rfl) g1 (by rw [g3]; rfl) (by rw [g2]; exact (B.2.2.1.1.1 2 _ rfl).2.1) (show 0 + 1 ≤ R.frames by omega) (by show 0 + (c1.maxLocals + 11) + 0 ≤ R.locals; rw [k5]; show 0 + (1 + 11) + 0 ≤ R.locals; omega) (Nat.zero_le _) (Nat.zero_le _) (by rw [hml, hsz]) hdg ?_
    intro U hU hW
    have B1 := B.go (U := U) va_S.rf hU hW (F0 m 8 ls []) m1 [Value.ref (V.2.2.2.1 + ba)].toArray
    have hM1b := hM1'.go (U := U.calling (F0 m 8 ls []) m1 [Value.ref (V.2.2.2.1 + ba)].toArray) hW
    rw [k5]
    refine W.eq (lg_entry_eq m1 [Value.ref (V.2.2.2.1 + ba)] 1) ?_
    refine lv_aload_n (x := V.2.2.2.1 + ba) B1.1 k4 (k := 0) (pc := 0) (show decode (xmB 33) 0 = _ by decide +kernel) rfl rfl ?_
    refine wf_get B1 hall (k := 33) (pc := 1) (ci := 2) (fi := 0) (v := .ref r) (by decide) rfl (by decide) k4 (findClass_of_methodNamed hM1b.1) hC hGb hrow ?_
    refine W.aretC (pc := 4) (n := "LevelFlow$IntRow") B1.1 k4 (by rw [hsg]) k7 (show decode (xmB 33) 4 = _ by decide +kernel) (fun t ht hE => ?_)
    refine ⟨.returned (some (.ref (V.2.2.2.1 + r))), [], 0, 0, hE, ?_⟩
    show W p l e R s m args below meth c t.heap [] 0 0 Q (F0 m 11 ls [.ref (V.2.2.2.1 + r)])
    rw [ht]
    exact lv_goto B.1 hb (pc := 11) (off := 7) (tgt := 18) (show decode (xmB 147) 11 = _ by decide +kernel) (by decide) tail
theorem cast_ok {s : State} {args : Array Value} (B : bxC p s args V) {cX : ClassId} (hfc : s.vm.findClass xIOB = some cX) : s.vm.assignable cX cX = true := by
  obtain ⟨c3, c4, hc3, hc4, hasg⟩ := Cond.castable_spec (B.2.2.2.2.2.2 (.castable xIOB xIOB) (by decide +kernel))
  cases hfc.symm.trans hc3
  cases hfc.symm.trans hc4
  exact hasg
theorem bx_with {y : MethodName} {cc : ByteArray} {mL : Nat} {rt : Option FieldType} {hd : List (Nat × Nat × Nat × Nat)} (B : bxC p s args V) (h : Cond.codeWith y cc mL rt hd ∈ xmTs) : ∃ m meth c, bxM s y cc mL rt m meth c ∧ c.exceptionTable.toList = tableOf hd := by
  obtain ⟨m, meth, c, h1, h2, h3, h4, h5, h6, h7, h8, h9⟩ := Cond.codeWith_spec (B.2.1 _ h)
  exact ⟨m, meth, c, ⟨h1, h2, h3, h4, h5, h7, h8, h9⟩, by rw [← h6, table_eq]⟩
/-- one cell more, else nothing -/
def oneM (s t : State) : Prop := t.heap.size = s.heap.size + 1 ∧ ∀ q : Nat, q < s.heap.size → t.heap[q]? = s.heap[q]?
set_option maxHeartbeats 1000000 in
theorem hO_thr (B : bxC p s args V) (hall : xHall) (htr : e.platform.stackTraces = false) (hM : bxM s yO method_3_code 4 (some .int) m meth c) (htab : c.exceptionTable.toList = [⟨0, 9, 12, 13⟩]) (hR : 10 ≤ R.frames ∧ 250 ≤ R.locals ∧ 1 ≤ R.cells ∧ 6 ≤ R.slots) (hH : s.heap = H) (hC : xmCon V G H) {a0 r o : Nat} {fs fs0 : List Value} {z i : Int32} (hG0 : G.1 a0 = (24, fs0)) (hv0 : fs0[10]? = some (.ref r)) (hG : G.1 r = (16, fs)) (hv : fs[2]? = some (.int z)) (hi : i < 0 ∨ ¬ i < z)
    (hlv : lv_has ls 4 [(0, .ref (V.2.2.2.1 + a0)), (1, .int i), (2, .ref o)]) (hq : ∀ t : State, oneM s t → cEnd below s t (.returned (some (.int 1))) [] 1 6 → Q t) : W p l e R s m args below meth c H [] 0 0 Q (F0 m 0 ls []) := by
  subst hH
  obtain ⟨hn, hm, hc, hb, hml, hr, hlk, hsig⟩ := hM
  have hown : s.vm.findClass "LevelFlowLaw" = some m.cls := findClass_of_methodNamed hn
  refine lv_aload_n (x := o) B.1 hb (k := 2) (pc := 0) (show decode method_3_code 0 = _ by decide +kernel) rfl (lv_at hlv 2 rfl) ?_
  refine lv_iconst (n := 0) B.1 hb (pc := 1) (show decode method_3_code 1 = _ by decide +kernel) rfl ?_
  refine lv_aload_n (x := V.2.2.2.1 + a0) B.1 hb (k := 0) (pc := 2) (show decode method_3_code 2 = _ by decide +kernel) rfl (lv_at hlv 0 rfl) ?_
  refine lv_iload_n (x := i) B.1 hb (k := 1) (pc := 3) (show decode method_3_code 3 = _ by decide +kernel) rfl (lv_at hlv 1 rfl) ?_
  obtain ⟨m1, meth1, c1, hM1, htab1⟩ := bx_meth B (k := 145) w_c145
  have hM1' := hM1
  obtain ⟨k1, k2, k3, k4, k5, k6, k7, k8⟩ := hM1
  obtain ⟨q, hq0, -, cell, g1, g2, g3, -⟩ := xm_obj (ci := 8) hC hG0
  have hsg : meth1.sig = ⟨[.int], some .int⟩ := by
    have e9 : parseMethodDescriptor (xmY 145).desc = some ⟨[.int], some .int⟩ := by decide +kernel
    rw [e9] at k8
    exact (Option.some.inj k8).symm
  refine W.inV (As := [.int i]) (rest := [.int (Int32.ofInt 0), .ref o]) (C := "LevelFlow") (R' := { frames := 9, locals := 200, cells := 1, slots := 6 }) B.1 hb hown (B.2.1 _ w_lnk7) (B.2.1 _ w_i145) (B.2.1 _ w_s145) k1 k2 k3 k7 (by decide +kernel) ⟨by decide +kernel, by decide +kernel⟩ (by rw [hsg]; rfl) g1 (by rw [g3]; rfl) (by rw [g2]; exact (B.2.2.1.1.1 8 _ rfl).2.1) (show 9 + 1 ≤ R.frames by omega) (by show 2 + (c1.maxLocals + 11) + 200 ≤ R.locals; rw [k5]; show 2 + (2 + 11) + 200 ≤ R.locals; omega) (by show 0 + 1 ≤ R.cells; omega) (by show 0 + 6 ≤ R.slots; omega) (by rw [hml]; exact hlv.1) (pc := 4) (show decode method_3_code 4 = _ by decide +kernel) ?_
  intro U hU hW
  have B1 := B.go (U := U) va_S.rf hU hW (F0 m 4 ls [.int (Int32.ofInt 0), .ref o]) m1 [Value.ref (V.2.2.2.1 + a0), .int i].toArray
  have hM1b := hM1'.go (U := U.calling (F0 m 4 ls [.int (Int32.ofInt 0), .ref o]) m1 [Value.ref (V.2.2.2.1 + a0), .int i].toArray) hW
  rw [k5]
  refine W.eq (lg_entry_eq m1 [Value.ref (V.2.2.2.1 + a0), .int i] 2) ?_
  refine o145_thr B1 hall htr hM1b htab1 ⟨Nat.le_refl _, Nat.le_refl _, Nat.le_refl _, Nat.le_refl _⟩ rfl hU hC hG0 hv0 hG hv hi rfl rfl (fun t a hT hE => ?_)
  refine ⟨.threw a, [], 1, 6, hE, ?_⟩
  show WT p l e R s m args below meth c t.heap [] 1 6 Q (F0 m 4 ls [.int (Int32.ofInt 0), .ref o]) a
  obtain ⟨t1, t2, t3, ce, t4, t5, t6⟩ := hT.up hU hW (t' := t) rfl
  refine WT.catch (en := ⟨0, 9, 12, 13⟩) hc htab (by decide) (by decide) hown (B.2.1 _ w_cl13) t5 t4 (fun k h => by rw [t6] at h; cases h) rfl (Vm.classAt_of_findClass t5) (cast_ok B t5) ?_
  refine lv_astore_n B.1 hb (k := 3) (pc := 12) (show decode method_3_code 12 = _ by decide +kernel) rfl hlv (by decide) rfl (fun ls2 hl2 => ?_)
  refine lv_iconst (n := 1) B.1 hb (pc := 13) (show decode method_3_code 13 = _ by decide +kernel) rfl ?_
  exact W.iretC (pc := 14) B.1 hb hr hlk (show decode method_3_code 14 = _ by decide +kernel) (fun t' ht' hE' => hq t' ⟨by rw [ht']; exact t1, fun q hq => by rw [ht']; exact t2 q hq⟩ hE')
set_option maxHeartbeats 1000000 in
theorem hI_thr (B : bxC p s args V) (hall : xHall) (htr : e.platform.stackTraces = false) (hM : bxM s yI method_4_code 5 (some .int) m meth c) (htab : c.exceptionTable.toList = [⟨0, 10, 13, 13⟩]) (hR : 10 ≤ R.frames ∧ 250 ≤ R.locals ∧ 1 ≤ R.cells ∧ 6 ≤ R.slots) (hH : s.heap = H) (hC : xmCon V G H) {a0 ba r o : Nat} {fs fs0 fb : List Value} {z i : Int32} {b : Bool} (hG0 : G.1 a0 = (24, fs0)) (hv9 : fs0[9]? = some (.ref ba)) (hGb : G.1 ba = (18, fb)) (hrow : if b = true then fb[0]? = some (.ref r) else fs0[8]? = some (.ref r)) (hG : G.1 r = (16, fs)) (hv : fs[2]? = some (.int z)) (hi : i < 0 ∨ ¬ i < z)
    (hlv : lv_has ls 5 [(0, .ref (V.2.2.2.1 + a0)), (1, .int i), (2, .int (b01 b)), (3, .ref o)]) (hq : ∀ t : State, oneM s t → cEnd below s t (.returned (some (.int 1))) [] 1 6 → Q t) : W p l e R s m args below meth c H [] 0 0 Q (F0 m 0 ls []) := by
  subst hH
  obtain ⟨hn, hm, hc, hb, hml, hr, hlk, hsig⟩ := hM
  have hown : s.vm.findClass "LevelFlowLaw" = some m.cls := findClass_of_methodNamed hn
  refine lv_aload_n (x := o) B.1 hb (k := 3) (pc := 0) (show decode method_4_code 0 = _ by decide +kernel) rfl (lv_at hlv 3 rfl) ?_
  refine lv_iconst (n := 0) B.1 hb (pc := 1) (show decode method_4_code 1 = _ by decide +kernel) rfl ?_
  refine lv_aload_n (x := V.2.2.2.1 + a0) B.1 hb (k := 0) (pc := 2) (show decode method_4_code 2 = _ by decide +kernel) rfl (lv_at hlv 0 rfl) ?_
  refine lv_iload_n (x := i) B.1 hb (k := 1) (pc := 3) (show decode method_4_code 3 = _ by decide +kernel) rfl (lv_at hlv 1 rfl) ?_
  refine lv_iload_n (x := b01 b) B.1 hb (k := 2) (pc := 4) (show decode method_4_code 4 = _ by decide +kernel) rfl (lv_at hlv 2 rfl) ?_
  obtain ⟨m1, meth1, c1, hM1, htab1⟩ := bx_meth B (k := 147) w_c147
  have hM1' := hM1
  obtain ⟨k1, k2, k3, k4, k5, k6, k7, k8⟩ := hM1
  obtain ⟨q, hq0, -, cell, g1, g2, g3, -⟩ := xm_obj (ci := 8) hC hG0
  have hsg : meth1.sig = ⟨[.int, .boolean], some .int⟩ := by
    have e9 : parseMethodDescriptor (xmY 147).desc = some ⟨[.int, .boolean], some .int⟩ := by decide +kernel
    rw [e9] at k8
    exact (Option.some.inj k8).symm
  refine W.inV (As := [.int i, .int (b01 b)]) (rest := [.int (Int32.ofInt 0), .ref o]) (C := "LevelFlow") (R' := { frames := 9, locals := 200, cells := 1, slots := 6 }) B.1 hb hown (B.2.1 _ w_lnk15) (B.2.1 _ w_i147) (B.2.1 _ w_s147) k1 k2 k3 k7 (by decide +kernel) ⟨by decide +kernel, by decide +kernel⟩ (by rw [hsg]; rfl) g1 (by rw [g3]; rfl) (by rw [g2]; exact (B.2.2.1.1.1 8 _ rfl).2.1) (show 9 + 1 ≤ R.frames by omega) (by show 2 + (c1.maxLocals + 11) + 200 ≤ R.locals; rw [k5]; show 2 + (3 + 11) + 200 ≤ R.locals; omega) (by show 0 + 1 ≤ R.cells; omega) (by show 0 + 6 ≤ R.slots; omega) (by rw [hml]; exact hlv.1) (pc := 5) (show decode method_4_code 5 = _ by decide +kernel) ?_
  intro U hU hW
  have B1 := B.go (U := U) va_S.rf hU hW (F0 m 5 ls [.int (Int32.ofInt 0), .ref o]) m1 [Value.ref (V.2.2.2.1 + a0), .int i, .int (b01 b)].toArray
  have hM1b := hM1'.go (U := U.calling (F0 m 5 ls [.int (Int32.ofInt 0), .ref o]) m1 [Value.ref (V.2.2.2.1 + a0), .int i, .int (b01 b)].toArray) hW
  rw [k5]
  refine W.eq (lg_entry_eq m1 [Value.ref (V.2.2.2.1 + a0), .int i, .int (b01 b)] 3) ?_
  refine o147_thr (b := b) B1 hall htr hM1b htab1 ⟨Nat.le_refl _, Nat.le_refl _, Nat.le_refl _, Nat.le_refl _⟩ rfl hU hC hG0 hv9 hGb hrow hG hv hi rfl rfl rfl (fun t a hT hE => ?_)
  refine ⟨.threw a, [], 1, 6, hE, ?_⟩
  show WT p l e R s m args below meth c t.heap [] 1 6 Q (F0 m 5 ls [.int (Int32.ofInt 0), .ref o]) a
  obtain ⟨t1, t2, t3, ce, t4, t5, t6⟩ := hT.up hU hW (t' := t) rfl
  refine WT.catch (en := ⟨0, 10, 13, 13⟩) hc htab (by decide) (by decide) hown (B.2.1 _ w_cl13) t5 t4 (fun k h => by rw [t6] at h; cases h) rfl (Vm.classAt_of_findClass t5) (cast_ok B t5) ?_
  refine lv_astore (i := 4) B.1 hb (pc := 13) (show decode method_4_code 13 = _ by decide +kernel) hlv (by decide) rfl (fun ls2 hl2 => ?_)
  refine lv_iconst (n := 1) B.1 hb (pc := 15) (show decode method_4_code 15 = _ by decide +kernel) rfl ?_
  exact W.iretC (pc := 16) B.1 hb hr hlk (show decode method_4_code 16 = _ by decide +kernel) (fun t' ht' hE' => hq t' ⟨by rw [ht']; exact t1, fun q hq => by rw [ht']; exact t2 q hq⟩ hE')
end Help
