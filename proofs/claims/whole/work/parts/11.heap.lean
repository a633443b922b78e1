section XHeap
variable {p : Program} {l : Launch} {e : Env} {R : Room} {s : State} {m : MethodId} {args : Array Value} {below : List Frame} {meth : Method} {c : Code} {Q : State → Prop} {cc : ByteArray} {V : xmV} {nL : Nat} {G0 : xmH}
variable {own C : String} {T : u_T} {N ci fi idx : Nat} {Ts : List Cond} {tys : List (ClassId × FieldType)} {pc : Nat} {lv : xmL} {r : List Value} {G : xmH} {H : Heap} {a : Nat}
theorem xm_obj {fs : List Value} (hC : xmCon V G H) (hG : G.1 a = (16 + ci, fs)) : ∃ r : vw_C, vwCl[ci]? = some r ∧ r.2.2 = (fs.map (xmRo V)).length ∧ t_OB (V.2.2.2.1 + a) (V.1 ci) r.2.2 (V.2.1 ci) H (vp_V (fs.map (xmRo V))) := by
  have h2 := hC.2 a (by rw [hG]; exact (by omega : 16 + ci ≠ 0))
  rw [hG] at h2
  unfold xmAt at h2
  dsimp only at h2
  rw [if_neg (by omega), Nat.add_sub_cancel_left] at h2
  rw [List.length_map]
  exact h2
theorem xm_arr {t : Nat} {vs : List Value} (hC : xmCon V G H) (hG : G.1 a = (t, vs)) (h0 : t ≠ 0) (h16 : t < 16) : H[V.2.2.2.1 + a]? = some (arrV (V.2.2.1 t) (vs.map (xmRo V)).length (fun j => (vs.map (xmRo V)).getD j .null)) := by
  have h2 := hC.2 a (by rw [hG]; exact h0)
  rw [hG] at h2
  unfold xmAt at h2
  dsimp only at h2
  rw [if_pos h16] at h2
  rw [h2, List.length_map]
  refine congrArg some ?_
  have e : (fun j => xmRo V (vs.getD j .null)) = fun j => (vs.map (xmRo V)).getD j .null := by
    funext j
    rw [List.getD_eq_getElem?_getD, List.getD_eq_getElem?_getD, List.getElem?_map]
    cases vs[j]? <;> rfl
  rw [e]
theorem xm_arr' {t : Nat} {vs : List Value} {H1 : Heap} (h16 : t < 16) (e1 : H1[V.2.2.2.1 + a]? = some (arrV (V.2.2.1 t) (vs.map (xmRo V)).length (fun j => (vs.map (xmRo V)).getD j .null))) : xmAt V a (t, vs) H1 := by
  unfold xmAt
  dsimp only
  rw [if_pos h16, e1, List.length_map]
  refine congrArg some ?_
  have e : (fun j => xmRo V (vs.getD j .null)) = fun j => (vs.map (xmRo V)).getD j .null := by
    funext j
    rw [List.getD_eq_getElem?_getD, List.getD_eq_getElem?_getD, List.getElem?_map]
    cases vs[j]? <;> rfl
  rw [e]
theorem arrV_ext {cI : ClassId} {n : Nat} {f g : Nat → Value} (h : ∀ j, j < n → f j = g j) : arrV cI n f = arrV cI n g := by
  have e1 : (fun j : Fin n => f j.val) = fun j : Fin n => g j.val := funext fun j => h j.val j.isLt
  simp only [arrV, e1]
theorem xs_getfield (hx : p.tables.exec = Jvm.exec) (hb : c.code = cc) (hts : ∀ w ∈ Ts, w.before args s = true) (hown : s.vm.findClass own = some m.cls) (hK : va_K (V.1, V.2.1) vwCl tys s) (hc : vwCl[ci]? = some (C, T, N)) (hin : ∀ w ∈ u_ws C T N, w ∈ Ts) (hk : fi < N) (hlink : Cond.fieldLink own idx (T fi).1 (T fi).2.1 (T fi).2.2.1 ∈ Ts) {fs : List Value} {v : Value} (hdg : decode cc pc = .ok (.getfield idx, 3)) (hG : G.1 a = (16 + ci, fs)) (hv : fs[fi]? = some v) (k : xmGoal p l e R s m args below meth c Q V nL G0 (pc + 3, lv, v :: r, G)) : xmGoal p l e R s m args below meth c Q V nL G0 (pc, lv, .ref a :: r, G) := by
  intro H locs ls hl hC hS
  obtain ⟨q, hq, hlen, hob⟩ := xm_obj hC hG
  have hP : va_P (V.1, V.2.1) vwCl [(V.2.2.2.1 + a, .inr (ci, fs.map (xmRo V)))] H := by
    intro j z hz
    match j, hz with
    | 0, hz => cases hz; exact ⟨q, hq, hob⟩
    | j + 1, hz => simp at hz
  refine va_get (D := (V.1, V.2.1)) hx hb hts hin hown hK hP 0 rfl hc fi hk (hts _ hlink) (fun _ h => h) (v := xmRo V v) (by rw [List.getElem?_map, hv]; rfl) hdg ?_
  exact k H locs ls hl hC hS
theorem xs_getfieldN (hx : p.tables.exec = Jvm.exec) (hb : c.code = cc) (hts : ∀ w ∈ Ts, w.before args s = true) (hown : s.vm.findClass own = some m.cls) (hK : va_K (V.1, V.2.1) vwCl tys s) (hc : vwCl[ci]? = some (C, T, N)) (hin : ∀ w ∈ u_ws C T N, w ∈ Ts) (hk : fi < N) {host : String} (hlink : (Cond.fieldLinkNest own idx (T fi).1 (T fi).2.1 (T fi).2.2.1 host).before args s = true) {fs : List Value} {v : Value} (hdg : decode cc pc = .ok (.getfield idx, 3)) (hG : G.1 a = (16 + ci, fs)) (hv : fs[fi]? = some v) (k : xmGoal p l e R s m args below meth c Q V nL G0 (pc + 3, lv, v :: r, G)) : xmGoal p l e R s m args below meth c Q V nL G0 (pc, lv, .ref a :: r, G) := by
  intro H locs ls hl hC hS
  obtain ⟨q, hq, hlen, hob⟩ := xm_obj hC hG
  have hP : va_P (V.1, V.2.1) vwCl [(V.2.2.2.1 + a, .inr (ci, fs.map (xmRo V)))] H := by
    intro j z hz
    match j, hz with
    | 0, hz => cases hz; exact ⟨q, hq, hob⟩
    | j + 1, hz => simp at hz
  refine va_getN (D := (V.1, V.2.1)) hx hb hts hin hown hK hP 0 rfl hc fi hk hlink (fun _ h => h) (v := xmRo V v) (by rw [List.getElem?_map, hv]; rfl) hdg ?_
  exact k H locs ls hl hC hS
theorem xm_back {fs : List Value} {v : Value} {ty0 : Nat → FieldType} {H' : Heap} {cell : Cell} (hts : ∀ w ∈ Ts, w.before args s = true) (hK : va_K (V.1, V.2.1) vwCl tys s) (hc : vwCl[ci]? = some (C, T, N)) (hin : ∀ w ∈ u_ws C T N, w ∈ Ts) (hty : ∀ k, k < N → parseFieldDescriptor (T k).2.2.1 = some (ty0 k)) (hnm : ∀ a, a < N → ∀ b, b < N → a ≠ b → (T a).2.1 ≠ (T b).2.1) (hk : fi < N) (hlen : N = (fs.map (xmRo V)).length)
    (q2 : cell.cls = V.1 ci) (q3 : cell.vm = .none) (q4 : ∀ k, k < N → cell.slots[V.2.1 ci k]? = some (vp_V (fs.map (xmRo V)) k)) (e1 : H'[V.2.2.2.1 + a]? = some (cell.setSlot (V.2.1 ci fi) (xmRo V v))) : xmAt V a (16 + ci, fs.set fi v) H' := by
  have hap := va_apart (own := "") hts hin ty0 hty hnm hK hc
  unfold xmAt
  dsimp only
  rw [if_neg (by omega), Nat.add_sub_cancel_left]
  exact ⟨_, hc, by rw [List.length_set, hlen, List.length_map], by rw [List.map_set]; exact t_OB.to (V := updV (vp_V (fs.map (xmRo V))) fi (xmRo V v)) ⟨_, e1, q2, q3, t_set q4 hap hk (xmRo V v)⟩ (fun j _ => vp_updV_set (by rw [← hlen]; exact hk) (xmRo V v) j)⟩
theorem xs_putfield (hx : p.tables.exec = Jvm.exec) (hb : c.code = cc) (hts : ∀ w ∈ Ts, w.before args s = true) (hown : s.vm.findClass own = some m.cls) (hK : va_K (V.1, V.2.1) vwCl tys s) (hc : vwCl[ci]? = some (C, T, N)) (hin : ∀ w ∈ u_ws C T N, w ∈ Ts) {ty0 : Nat → FieldType} (hty : ∀ k, k < N → parseFieldDescriptor (T k).2.2.1 = some (ty0 k)) (hnm : ∀ a, a < N → ∀ b, b < N → a ≠ b → (T a).2.1 ≠ (T b).2.1) (hk : fi < N) (hfin : (T fi).2.2.2 = false) (hlink : Cond.fieldLink own idx (T fi).1 (T fi).2.1 (T fi).2.2.1 ∈ Ts) {fs : List Value} {v : Value} (hn : narrow (ty0 fi) (xmRo V v) = xmRo V v) (hfit : fits (ty0 fi) (xmRo V v) = true) (hdg : decode cc pc = .ok (.putfield idx, 3)) (hG : G.1 a = (16 + ci, fs)) (k : xmGoal p l e R s m args below meth c Q V nL G0 (pc + 3, lv, r, (xmUp G.1 a (16 + ci, fs.set fi v), G.2))) : xmGoal p l e R s m args below meth c Q V nL G0 (pc, lv, v :: .ref a :: r, G) := by
  intro H locs ls hl hC hS
  obtain ⟨q, hq, hlen, cell, q1, q2, q3, q4⟩ := xm_obj hC hG
  have hr : q = (C, T, N) := Option.some.inj (hq.symm.trans hc)
  subst hr
  obtain ⟨hSl, hfc, kC, hkC, hkind⟩ := hK.1 ci _ hc
  obtain ⟨cf, kf, fi', f, hi, hsl⟩ := hSl fi hk
  have hlay := hts _ (hin _ (u_in_lay hk))
  unfold u_lay at hlay
  rw [if_neg (by rw [hfin]; decide)] at hlay
  have hst := (u_facts hfc hkC (u_lays hts hin hk) hi).1
  have h6 := u_store hfc hkC hkind hlay hi (hty fi hk) hn hfit
  refine W.putK hx hb (f := f) ⟨hown, hts _ hlink, ⟨_, _, _, hi⟩, hst⟩ (by rw [q2]; exact h6) q1 q3 (by rw [hsl]; exact k2_hasslot (q4 fi hk)) rfl rfl hdg fun H' e1 e2 e3 => ?_
  rw [hsl] at e1 ⊢
  exact k H' _ ls hl (hC.up e2 e3 (xm_back hts hK hc hin hty hnm hk hlen q2 q3 q4 e1)) (hS.put e2 e3 (Nat.le_add_right _ _))
theorem xs_putfieldN (hx : p.tables.exec = Jvm.exec) (hb : c.code = cc) (hts : ∀ w ∈ Ts, w.before args s = true) (hown : s.vm.findClass own = some m.cls) (hK : va_K (V.1, V.2.1) vwCl tys s) (hc : vwCl[ci]? = some (C, T, N)) (hin : ∀ w ∈ u_ws C T N, w ∈ Ts) {ty0 : Nat → FieldType} (hty : ∀ k, k < N → parseFieldDescriptor (T k).2.2.1 = some (ty0 k)) (hnm : ∀ a, a < N → ∀ b, b < N → a ≠ b → (T a).2.1 ≠ (T b).2.1) (hk : fi < N) (hfin : (T fi).2.2.2 = false) {host : String} (hlink : (Cond.fieldLinkNest own idx (T fi).1 (T fi).2.1 (T fi).2.2.1 host).before args s = true) {fs : List Value} {v : Value} (hn : narrow (ty0 fi) (xmRo V v) = xmRo V v) (hfit : fits (ty0 fi) (xmRo V v) = true) (hdg : decode cc pc = .ok (.putfield idx, 3)) (hG : G.1 a = (16 + ci, fs)) (k : xmGoal p l e R s m args below meth c Q V nL G0 (pc + 3, lv, r, (xmUp G.1 a (16 + ci, fs.set fi v), G.2))) : xmGoal p l e R s m args below meth c Q V nL G0 (pc, lv, v :: .ref a :: r, G) := by
  intro H locs ls hl hC hS
  obtain ⟨q, hq, hlen, cell, q1, q2, q3, q4⟩ := xm_obj hC hG
  have hr : q = (C, T, N) := Option.some.inj (hq.symm.trans hc)
  subst hr
  obtain ⟨hSl, hfc, kC, hkC, hkind⟩ := hK.1 ci _ hc
  obtain ⟨cf, kf, fi', f, hi, hsl⟩ := hSl fi hk
  have hlay := hts _ (hin _ (u_in_lay hk))
  unfold u_lay at hlay
  rw [if_neg (by rw [hfin]; decide)] at hlay
  have hst := (u_facts hfc hkC (u_lays hts hin hk) hi).1
  have h6 := u_store hfc hkC hkind hlay hi (hty fi hk) hn hfit
  refine va_WputK hx hb (f := f) hown hlink hi hst (by rw [q2]; exact h6) q1 q3 (by rw [hsl]; exact k2_hasslot (q4 fi hk)) rfl rfl hdg fun H' e1 e2 e3 => ?_
  rw [hsl] at e1 ⊢
  exact k H' _ ls hl (hC.up e2 e3 (xm_back hts hK hc hin hty hnm hk hlen q2 q3 q4 e1)) (hS.put e2 e3 (Nat.le_add_right _ _))
theorem xs_putfieldF (hx : p.tables.exec = Jvm.exec) (hb : c.code = cc) (hts : ∀ w ∈ Ts, w.before args s = true) (hown : s.vm.findClass own = some m.cls) (hK : va_K (V.1, V.2.1) vwCl tys s) (hc : vwCl[ci]? = some (C, T, N)) (hin : ∀ w ∈ u_ws C T N, w ∈ Ts) {ty0 : Nat → FieldType} (hty : ∀ k, k < N → parseFieldDescriptor (T k).2.2.1 = some (ty0 k)) (hnm : ∀ a, a < N → ∀ b, b < N → a ≠ b → (T a).2.1 ≠ (T b).2.1) (hk : fi < N) (hfin : (T fi).2.2.2 = true) (hin2 : meth.name = "<init>") (hdecl : (T fi).1 = own) (hlink : Cond.fieldLink own idx (T fi).1 (T fi).2.1 (T fi).2.2.1 ∈ Ts) {fs : List Value} {v : Value} (hn : narrow (ty0 fi) (xmRo V v) = xmRo V v) (hfit : fits (ty0 fi) (xmRo V v) = true) (hdg : decode cc pc = .ok (.putfield idx, 3)) (hG : G.1 a = (16 + ci, fs)) (k : xmGoal p l e R s m args below meth c Q V nL G0 (pc + 3, lv, r, (xmUp G.1 a (16 + ci, fs.set fi v), G.2))) : xmGoal p l e R s m args below meth c Q V nL G0 (pc, lv, v :: .ref a :: r, G) := by
  intro H locs ls hl hC hS
  obtain ⟨q, hq, hlen, cell, q1, q2, q3, q4⟩ := xm_obj hC hG
  have hr : q = (C, T, N) := Option.some.inj (hq.symm.trans hc)
  subst hr
  obtain ⟨hSl, hfc, kC, hkC, hkind⟩ := hK.1 ci _ hc
  obtain ⟨cf, kf, fi', f, hi, hsl⟩ := hSl fi hk
  have hlay := hts _ (hin _ (u_in_lay hk))
  unfold u_lay at hlay
  rw [if_pos hfin] at hlay
  have hst := (u_facts hfc hkC (u_lays hts hin hk) hi).1
  have hcf : m.cls = cf := by
    obtain ⟨_, _, c', _, _, _, -, -, hf', -, -, -, hown2, -⟩ := Cond.laysFinal_spec hlay
    have e1 : c' = cf := by have := hi.symm.trans hf'; simp at this; exact this.1.symm
    rw [hdecl] at hown2
    rw [← e1]; exact Option.some.inj (hown.symm.trans hown2)
  have h6 := u_fits hfc hkC hkind (Or.inr hlay) hi (hty fi hk) hn hfit
  refine W.putFinK hx hb hown (hts _ hlink) hi hst hcf hin2 (by rw [q2]; exact h6) q1 q3 (by rw [hsl]; exact k2_hasslot (q4 fi hk)) rfl rfl hdg fun H' e1 e2 e3 => ?_
  rw [hsl] at e1 ⊢
  exact k H' _ ls hl (hC.up e2 e3 (xm_back hts hK hc hin hty hnm hk hlen q2 q3 q4 e1)) (hS.put e2 e3 (Nat.le_add_right _ _))
theorem xm_at {vs : List Value} {j : Int32} {v : Value} (h0 : ¬ j < 0) (hv : vs[j.toNatClampNeg]? = some v) (cA : ClassId) : ¬ (j < 0 ∨ (arrV cA vs.length (fun j => vs.getD j .null)).slots.size ≤ j.toNatClampNeg) ∧ (arrV cA vs.length (fun j => vs.getD j .null)).slots[j.toNatClampNeg]? = some v := by
  have hlt : j.toNatClampNeg < vs.length := (List.getElem?_eq_some_iff.mp hv).1
  refine ⟨fun h => ?_, ?_⟩
  · rcases h with h | h
    · exact h0 h
    · rw [arrV_size] at h
      omega
  · rw [arrV_read _ _ hlt, List.getD_eq_getElem?_getD, hv]
    rfl
theorem xm_set {vs : List Value} {k : Nat} {v : Value} (hlt : k < vs.length) (cA : ClassId) : (arrV cA vs.length (fun j => vs.getD j .null)).setSlot k v = arrV cA (vs.set k v).length (fun j => (vs.set k v).getD j .null) := by
  rw [arrV_store, List.length_set]
  refine arrV_ext fun j hj => ?_
  by_cases e : j = k
  · subst e
    simp [updV, List.getD_eq_getElem?_getD, hlt]
  · simp [updV, e, List.getD_eq_getElem?_getD, List.getElem?_set_ne (Ne.symm e)]
theorem xs_iaload (hx : p.tables.exec = Jvm.exec) (hb : c.code = cc) (hA : ArrOfT s (V.2.2.1 1) .int) {vs : List Value} {j : Int32} {v : Value} (hdg : decode cc pc = .ok (.iaload, 1)) (hG : G.1 a = (1, vs)) (h0 : ¬ j < 0) (hv : vs[j.toNatClampNeg]? = some v) (k : xmGoal p l e R s m args below meth c Q V nL G0 (pc + 1, lv, v :: r, G)) : xmGoal p l e R s m args below meth c Q V nL G0 (pc, lv, .int j :: .ref a :: r, G) := by
  intro H locs ls hl hC hS
  have harr := xm_arr hC hG (by decide) (by decide)
  obtain ⟨g1, g2⟩ := xm_at (vs := vs.map (xmRo V)) (v := xmRo V v) h0 (by rw [List.getElem?_map, hv]; rfl) (V.2.2.1 1)
  refine W.iald (v := xmRo V v) hx hb harr (hA _ _) (fun q => by cases q) g1 g2 rfl rfl hdg ?_
  exact k H locs ls hl hC hS
theorem xs_laload (hx : p.tables.exec = Jvm.exec) (hb : c.code = cc) (hA : ArrOfT s (V.2.2.1 2) .long) {vs : List Value} {j : Int32} {v : Value} (hdg : decode cc pc = .ok (.laload, 1)) (hG : G.1 a = (2, vs)) (h0 : ¬ j < 0) (hv : vs[j.toNatClampNeg]? = some v) (k : xmGoal p l e R s m args below meth c Q V nL G0 (pc + 1, lv, v :: r, G)) : xmGoal p l e R s m args below meth c Q V nL G0 (pc, lv, .int j :: .ref a :: r, G) := by
  intro H locs ls hl hC hS
  have harr := xm_arr hC hG (by decide) (by decide)
  obtain ⟨g1, g2⟩ := xm_at (vs := vs.map (xmRo V)) (v := xmRo V v) h0 (by rw [List.getElem?_map, hv]; rfl) (V.2.2.1 2)
  refine W.lald (v := xmRo V v) hx hb harr (hA _ _) (fun q => by cases q) g1 g2 rfl rfl hdg ?_
  exact k H locs ls hl hC hS
theorem xs_baload (hx : p.tables.exec = Jvm.exec) (hb : c.code = cc) (hA : ArrOfT s (V.2.2.1 3) .byte) {vs : List Value} {j : Int32} {v : Value} (hdg : decode cc pc = .ok (.baload, 1)) (hG : G.1 a = (3, vs)) (h0 : ¬ j < 0) (hv : vs[j.toNatClampNeg]? = some v) (k : xmGoal p l e R s m args below meth c Q V nL G0 (pc + 1, lv, v :: r, G)) : xmGoal p l e R s m args below meth c Q V nL G0 (pc, lv, .int j :: .ref a :: r, G) := by
  intro H locs ls hl hC hS
  have harr := xm_arr hC hG (by decide) (by decide)
  obtain ⟨g1, g2⟩ := xm_at (vs := vs.map (xmRo V)) (v := xmRo V v) h0 (by rw [List.getElem?_map, hv]; rfl) (V.2.2.1 3)
  refine W.bald (v := xmRo V v) hx hb harr (hA _ _) (fun q => by cases q) g1 g2 rfl rfl hdg ?_
  exact k H locs ls hl hC hS
theorem xs_zaload (hx : p.tables.exec = Jvm.exec) (hb : c.code = cc) (hA : ArrOfT s (V.2.2.1 4) .boolean) {vs : List Value} {j : Int32} {v : Value} (hdg : decode cc pc = .ok (.baload, 1)) (hG : G.1 a = (4, vs)) (h0 : ¬ j < 0) (hv : vs[j.toNatClampNeg]? = some v) (k : xmGoal p l e R s m args below meth c Q V nL G0 (pc + 1, lv, v :: r, G)) : xmGoal p l e R s m args below meth c Q V nL G0 (pc, lv, .int j :: .ref a :: r, G) := by
  intro H locs ls hl hC hS
  have harr := xm_arr hC hG (by decide) (by decide)
  obtain ⟨g1, g2⟩ := xm_at (vs := vs.map (xmRo V)) (v := xmRo V v) h0 (by rw [List.getElem?_map, hv]; rfl) (V.2.2.1 4)
  refine W.zald (v := xmRo V v) hx hb harr (hA _ _) (fun q => by cases q) g1 g2 rfl rfl hdg ?_
  exact k H locs ls hl hC hS
theorem xs_iastore (hx : p.tables.exec = Jvm.exec) (hb : c.code = cc) (hA : ArrOfT s (V.2.2.1 1) .int) {vs : List Value} {j x : Int32} (hdg : decode cc pc = .ok (.iastore, 1)) (hG : G.1 a = (1, vs)) (h0 : ¬ j < 0) (hlt : j.toNatClampNeg < vs.length) (k : xmGoal p l e R s m args below meth c Q V nL G0 (pc + 1, lv, r, (xmUp G.1 a (1, vs.set j.toNatClampNeg (.int x)), G.2))) : xmGoal p l e R s m args below meth c Q V nL G0 (pc, lv, .int x :: .int j :: .ref a :: r, G) := by
  intro H locs ls hl hC hS
  have harr := xm_arr hC hG (by decide) (by decide)
  refine W.iast hx hb harr (hA _ _) (fun q => by cases q) (xm_at (vs := vs.map (xmRo V)) h0 (List.getElem?_eq_getElem (by rw [List.length_map]; exact hlt)) (V.2.2.1 1)).1 rfl rfl hdg fun H' e1 e2 e3 => ?_
  refine k H' _ ls hl (hC.up e2 e3 (xm_arr' (by decide) ?_)) (hS.put e2 e3 (Nat.le_add_right _ _))
  rw [e1, xm_set (by rw [List.length_map]; exact hlt), List.map_set]
  rfl
theorem xs_bastore (hx : p.tables.exec = Jvm.exec) (hb : c.code = cc) (hA : ArrOfT s (V.2.2.1 3) .byte) {vs : List Value} {j x : Int32} (hdg : decode cc pc = .ok (.bastore, 1)) (hG : G.1 a = (3, vs)) (h0 : ¬ j < 0) (hlt : j.toNatClampNeg < vs.length) (k : xmGoal p l e R s m args below meth c Q V nL G0 (pc + 1, lv, r, (xmUp G.1 a (3, vs.set j.toNatClampNeg (narrow .byte (.int x))), G.2))) : xmGoal p l e R s m args below meth c Q V nL G0 (pc, lv, .int x :: .int j :: .ref a :: r, G) := by
  intro H locs ls hl hC hS
  have harr := xm_arr hC hG (by decide) (by decide)
  refine W.bast hx hb harr (hA _ _) (fun q => by cases q) (xm_at (vs := vs.map (xmRo V)) h0 (List.getElem?_eq_getElem (by rw [List.length_map]; exact hlt)) (V.2.2.1 3)).1 rfl rfl hdg fun H' e1 e2 e3 => ?_
  refine k H' _ ls hl (hC.up e2 e3 (xm_arr' (by decide) ?_)) (hS.put e2 e3 (Nat.le_add_right _ _))
  rw [e1, xm_set (by rw [List.length_map]; exact hlt), List.map_set]
  rfl
theorem xs_zastore (hx : p.tables.exec = Jvm.exec) (hb : c.code = cc) (hA : ArrOfT s (V.2.2.1 4) .boolean) {vs : List Value} {j x : Int32} (hdg : decode cc pc = .ok (.bastore, 1)) (hG : G.1 a = (4, vs)) (h0 : ¬ j < 0) (hlt : j.toNatClampNeg < vs.length) (k : xmGoal p l e R s m args below meth c Q V nL G0 (pc + 1, lv, r, (xmUp G.1 a (4, vs.set j.toNatClampNeg (narrow .boolean (.int x))), G.2))) : xmGoal p l e R s m args below meth c Q V nL G0 (pc, lv, .int x :: .int j :: .ref a :: r, G) := by
  intro H locs ls hl hC hS
  have harr := xm_arr hC hG (by decide) (by decide)
  refine W.zast hx hb harr (hA _ _) (fun q => by cases q) (xm_at (vs := vs.map (xmRo V)) h0 (List.getElem?_eq_getElem (by rw [List.length_map]; exact hlt)) (V.2.2.1 4)).1 rfl rfl hdg fun H' e1 e2 e3 => ?_
  refine k H' _ ls hl (hC.up e2 e3 (xm_arr' (by decide) ?_)) (hS.put e2 e3 (Nat.le_add_right _ _))
  rw [e1, xm_set (by rw [List.length_map]; exact hlt), List.map_set]
  rfl
theorem xs_lastore (hx : p.tables.exec = Jvm.exec) (hb : c.code = cc) (hA : ArrOfT s (V.2.2.1 2) .long) {vs : List Value} {j : Int32} {x : Int64} (hdg : decode cc pc = .ok (.lastore, 1)) (hG : G.1 a = (2, vs)) (h0 : ¬ j < 0) (hlt : j.toNatClampNeg < vs.length) (k : xmGoal p l e R s m args below meth c Q V nL G0 (pc + 1, lv, r, (xmUp G.1 a (2, vs.set j.toNatClampNeg (.long x)), G.2))) : xmGoal p l e R s m args below meth c Q V nL G0 (pc, lv, .long x :: .int j :: .ref a :: r, G) := by
  intro H locs ls hl hC hS
  have harr := xm_arr hC hG (by decide) (by decide)
  refine W.last hx hb harr (hA _ _) (fun q => by cases q) (xm_at (vs := vs.map (xmRo V)) h0 (List.getElem?_eq_getElem (by rw [List.length_map]; exact hlt)) (V.2.2.1 2)).1 rfl rfl hdg fun H' e1 e2 e3 => ?_
  refine k H' _ ls hl (hC.up e2 e3 (xm_arr' (by decide) ?_)) (hS.put e2 e3 (Nat.le_add_right _ _))
  rw [e1, xm_set (by rw [List.length_map]; exact hlt), List.map_set]
  rfl
theorem xs_arraylength (hx : p.tables.exec = Jvm.exec) (hb : c.code = cc) {t : Nat} (h0 : t ≠ 0) (h16 : t < 16) {ty : FieldType} (hA : ArrOfT s (V.2.2.1 t) ty) {vs : List Value} (hdg : decode cc pc = .ok (.arraylength, 1)) (hG : G.1 a = (t, vs)) (k : xmGoal p l e R s m args below meth c Q V nL G0 (pc + 1, lv, .int (nI vs.length) :: r, G)) : xmGoal p l e R s m args below meth c Q V nL G0 (pc, lv, .ref a :: r, G) := by
  intro H locs ls hl hC hS
  have harr := xm_arr hC hG h0 h16
  refine W.alen (n := nI vs.length) hx hb harr (hA _ _) (by rw [arrV_size, List.length_map]; rfl) rfl rfl hdg ?_
  exact k H locs ls hl hC hS
theorem xs_newarray (hx : p.tables.exec = Jvm.exec) (hb : c.code = cc) {t : Nat} (h0 : t ≠ 0) (h16 : t < 16) {at1 : ClassFile.ArrayType} {ty : FieldType} (hty : newarray.typeOf at1 = ty) (hde : xmRo V (defaultValue ty) = defaultValue ty) (hac : (Cond.arrayClass (newarray.typeOf at1)).before args s = true) (hfc : s.vm.findClass ("[" ++ ty.toString) = some (V.2.2.1 t)) {n : Int32} (hn : ¬ n < 0) (hbytes : n.toNatClampNeg * componentBytes ty ≤ 536870912) (hdg : decode cc pc = .ok (.newarray at1, 2))
    (hg0 : G0.2.1 ≤ G.2.1) (hg1 : G0.2.2 ≤ G.2.2) (hcells : G.2.1 + 1 - G0.2.1 ≤ R.cells) (hslots : G.2.2 + n.toNatClampNeg - G0.2.2 ≤ R.slots) (k : xmGoal p l e R s m args below meth c Q V nL G0 (pc + 2, lv, .ref G.2.1 :: r, (xmUp G.1 G.2.1 (t, List.replicate n.toNatClampNeg (defaultValue ty)), G.2.1 + 1, G.2.2 + n.toNatClampNeg))) : xmGoal p l e R s m args below meth c Q V nL G0 (pc, lv, .int n :: r, G) := by
  intro H locs ls hl hC hS
  subst hty
  refine va_newaK hx hb hac rfl hdg rfl hn rfl hbytes (show G.2.1 - G0.2.1 + 1 ≤ R.cells by omega) (show G.2.2 - G0.2.2 + n.toNatClampNeg ≤ R.slots by omega) hC.1 fun H1 cA e1 z1 o1 hAr hNm => ?_
  have ec : cA = V.2.2.1 t := Option.some.inj (hNm.symm.trans hfc)
  have hat : xmAt V G.2.1 (t, List.replicate n.toNatClampNeg (defaultValue (newarray.typeOf at1))) H1 := by
    unfold xmAt
    dsimp only
    rw [if_pos h16, e1, ec, List.length_replicate]
    refine congrArg some (arrV_ext fun j hj => ?_)
    simp [List.getD_eq_getElem?_getD, hj, hde]
  have ho : ∀ q : Nat, q < H.size → H1[q]? = H[q]? := fun q hq => o1 q (by rw [← hC.1]; exact hq)
  have kk := k H1 locs ls hl (hC.push (by rw [z1, hC.1]) ho hat) ⟨Nat.le_trans hS.1 (by rw [z1, ← hC.1]; omega), fun q h1 h2 => (ho q (Nat.lt_of_lt_of_le h1 hS.1)).trans (hS.2.1 q h1 h2), hS.2.2⟩
  have ea : G.2.1 + 1 - G0.2.1 = G.2.1 - G0.2.1 + 1 := by omega
  have eb : G.2.2 + n.toNatClampNeg - G0.2.2 = G.2.2 - G0.2.2 + n.toNatClampNeg := by omega
  dsimp only at kk
  rw [ea, eb] at kk
  exact kk
theorem xs_new (hx : p.tables.exec = Jvm.exec) (hb : c.code = cc) (hts : ∀ w ∈ Ts, w.before args s = true) (hown : s.vm.findClass own = some m.cls) (hK : va_K (V.1, V.2.1) vwCl tys s) (hc : vwCl[ci]? = some (C, T, N)) (hin : ∀ w ∈ u_ws C T N, w ∈ Ts) {ty0 : Nat → FieldType} (hty : ∀ k, k < N → parseFieldDescriptor (T k).2.2.1 = some (ty0 k)) (hcl : Cond.classLink own idx C ∈ Ts) (hinst : Cond.instantiable C N ∈ Ts) (hini : Cond.initialized C ∈ Ts) {fs : List Value} (hlen : N = fs.length) (hfs : ∀ j, j < N → defaultValue (ty0 j) = vp_V fs j) (hro : fs.map (xmRo V) = fs) (hdg : decode cc pc = .ok (.new idx, 3))
    (hg0 : G0.2.1 ≤ G.2.1) (hg1 : G0.2.2 ≤ G.2.2) (hcells : G.2.1 + 1 - G0.2.1 ≤ R.cells) (hslots : G.2.2 + fs.length - G0.2.2 ≤ R.slots) (k : xmGoal p l e R s m args below meth c Q V nL G0 (pc + 3, lv, .ref G.2.1 :: r, (xmUp G.1 G.2.1 (16 + ci, fs), G.2.1 + 1, G.2.2 + fs.length))) : xmGoal p l e R s m args below meth c Q V nL G0 (pc, lv, r, G) := by
  intro H locs ls hl hC hS
  have hKn := hK.1 ci _ hc
  refine W.newcK hx hb hown (hts _ hcl) (hts _ hinst) (hts _ hini) rfl hdg (show G.2.1 - G0.2.1 + 1 ≤ R.cells by omega) (show G.2.2 - G0.2.2 + N ≤ R.slots by omega) hKn.2.1 hC.1 fun H1 kC hkC e1 z1 o1 => ?_
  have hat : xmAt V G.2.1 (16 + ci, fs) H1 := by
    unfold xmAt
    dsimp only
    rw [if_neg (by omega), Nat.add_sub_cancel_left]
    rw [hro]
    exact ⟨_, hc, hlen, (u_born ty0 hts hin hKn hkC e1 hty).to hfs⟩
  have ho : ∀ q : Nat, q < H.size → H1[q]? = H[q]? := fun q hq => o1 q (by rw [← hC.1]; exact hq)
  have kk := k H1 locs ls hl (hC.push (by rw [z1, hC.1]) ho hat) ⟨Nat.le_trans hS.1 (by rw [z1, ← hC.1]; omega), fun q h1 h2 => (ho q (Nat.lt_of_lt_of_le h1 hS.1)).trans (hS.2.1 q h1 h2), hS.2.2⟩
  have ea : G.2.1 + 1 - G0.2.1 = G.2.1 - G0.2.1 + 1 := by omega
  have eb : G.2.2 + fs.length - G0.2.2 = G.2.2 - G0.2.2 + N := by omega
  dsimp only at kk
  rw [ea, eb] at kk
  exact kk
theorem xm_vp {i : Int32} {n : Nat} (h0 : ¬ i < 0) (hlt : i.toNatClampNeg < n) : vp_in i n := fun h => by
  rcases h with h | h
  · exact h0 h
  · omega
/-- what lies with others: a text's field, a text's bytes, a static, the script -/
theorem xs_sfield (hx : p.tables.exec = Jvm.exec) (hb : c.code = cc) (hts : ∀ w ∈ Ts, w.before args s = true) (hown : s.vm.findClass own = some m.cls) {o n d : String} {q : Nat} {v w : Value} (hE : va_OF o n d (xmRo V v) q (fun q => V.2.2.2.1 ≤ q) s s.heap) (hlink : Cond.fieldLink own idx o n d ∈ Ts) (hdg : decode cc pc = .ok (.getfield idx, 3)) (hw : xmRo V w = .ref q) (k : xmGoal p l e R s m args below meth c Q V nL G0 (pc + 3, lv, v :: r, G)) : xmGoal p l e R s m args below meth c Q V nL G0 (pc, lv, w :: r, G) := by
  intro H locs ls hl hC hS
  dsimp only
  rw [List.map_cons, hw]
  refine vk_getf hx hb hE hS hown (hts _ hlink) (fun _ h => h) hdg ?_
  exact k H locs ls hl hC hS
theorem xs_slen (hx : p.tables.exec = Jvm.exec) (hb : c.code = cc) {t N : Nat} {f : Nat → Value} {w : Value} (hT : va_T .byte t N f (fun q => V.2.2.2.1 ≤ q) s s.heap) (hw : xmRo V w = .ref t) (hdg : decode cc pc = .ok (.arraylength, 1)) (k : xmGoal p l e R s m args below meth c Q V nL G0 (pc + 1, lv, .int (nI N) :: r, G)) : xmGoal p l e R s m args below meth c Q V nL G0 (pc, lv, w :: r, G) := by
  intro H locs ls hl hC hS
  dsimp only
  rw [List.map_cons, hw]
  refine va_tlen hx hb hT hS (v := nI N) rfl hdg ?_
  exact k H locs ls hl hC hS
theorem xs_sbald (hx : p.tables.exec = Jvm.exec) (hb : c.code = cc) {t N : Nat} {f : Nat → Value} {w : Value} {j z : Int32} (hT : va_T .byte t N f (fun q => V.2.2.2.1 ≤ q) s s.heap) (hw : xmRo V w = .ref t) (h0 : ¬ j < 0) (hlt : j.toNatClampNeg < N) (hz : f j.toNatClampNeg = .int z) (hdg : decode cc pc = .ok (.baload, 1)) (k : xmGoal p l e R s m args below meth c Q V nL G0 (pc + 1, lv, .int z :: r, G)) : xmGoal p l e R s m args below meth c Q V nL G0 (pc, lv, .int j :: w :: r, G) := by
  intro H locs ls hl hC hS
  dsimp only
  rw [List.map_cons, List.map_cons, hw]
  refine va_tb hx hb hT hS (xm_vp h0 hlt) hz hdg ?_
  exact k H locs ls hl hC hS
theorem xs_stat (hx : p.tables.exec = Jvm.exec) (hb : c.code = cc) (hts : ∀ w ∈ Ts, w.before args s = true) (hown : s.vm.findClass own = some m.cls) {o n d : String} {v : Value} (hZ : va_Z o n d (xmRo V v) (fun q => V.2.2.2.1 ≤ q) s s.heap) (hlink : Cond.fieldLink own idx o n d ∈ Ts) (hdg : decode cc pc = .ok (.getstatic idx, 3)) (k : xmGoal p l e R s m args below meth c Q V nL G0 (pc + 3, lv, v :: r, G)) : xmGoal p l e R s m args below meth c Q V nL G0 (pc, lv, r, G) := by
  intro H locs ls hl hC hS
  refine va_gets hx hb hZ hS hown (hts _ hlink) (fun _ h => h) hdg ?_
  exact k H locs ls hl hC hS
theorem xs_scr (hx : p.tables.exec = Jvm.exec) (hb : c.code = cc) {b : Nat} {xs : List Int32} {w : Value} {j : Int32} (hX : va_X b xs.length (fun j => xs.getD j 0) s s.heap) (hbl : b < V.2.2.2.1) (hbs : V.2.2.2.1 ≤ s.heap.size) (hw : xmRo V w = .ref b) (h0 : ¬ j < 0) (hlt : j.toNatClampNeg < xs.length) (hdg : decode cc pc = .ok (.iaload, 1)) (k : xmGoal p l e R s m args below meth c Q V nL G0 (pc + 1, lv, .int (xs.getD j.toNatClampNeg 0) :: r, G)) : xmGoal p l e R s m args below meth c Q V nL G0 (pc, lv, .int j :: w :: r, G) := by
  intro H locs ls hl hC hS
  dsimp only
  rw [List.map_cons, List.map_cons, hw]
  refine va_sld hx hb hX (Nat.lt_of_lt_of_le hbl hbs) (A := fun q => V.2.2.2.1 ≤ q) (Nat.not_le.mpr hbl) hS (xm_vp h0 hlt) hdg ?_
  exact k H locs ls hl hC hS
theorem xs_scrlen (hx : p.tables.exec = Jvm.exec) (hb : c.code = cc) {b : Nat} {xs : List Int32} {w : Value} (hX : va_X b xs.length (fun j => xs.getD j 0) s s.heap) (hbl : b < V.2.2.2.1) (hbs : V.2.2.2.1 ≤ s.heap.size) (hw : xmRo V w = .ref b) (hdg : decode cc pc = .ok (.arraylength, 1)) (k : xmGoal p l e R s m args below meth c Q V nL G0 (pc + 1, lv, .int (nI xs.length) :: r, G)) : xmGoal p l e R s m args below meth c Q V nL G0 (pc, lv, w :: r, G) := by
  intro H locs ls hl hC hS
  dsimp only
  rw [List.map_cons, hw]
  refine va_slen hx hb hX (Nat.lt_of_lt_of_le hbl hbs) (A := fun q => V.2.2.2.1 ≤ q) (Nat.not_le.mpr hbl) hS hdg ?_
  exact k H locs ls hl hC hS
end XHeap
