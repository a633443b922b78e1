/-! WALKING in the little machine: xmEv V O k x r G': from x, method k comes to its end, with r over G'. -/
def xmEv (V : xmV) (O : xmO) (k : Nat) (x : xmC) (r : Option Value) (G' : xmH) : Prop := ∃ n, xmRun V O k n x r G'
def xmIter (k : Nat) : Nat → xmC → Option xmC
  | 0, x => some x
  | n + 1, x => match xmCd k x.1 with
    | some i => match xmPure id i x with
      | some x' => xmIter k n x'
      | none => none
    | none => none
theorem xm_ble {a b : Nat} (hm : Nat.ble a b = false) : b < a := Nat.lt_of_not_le (fun z => by rw [Nat.ble_eq_true_of_le z] at hm; cases hm)
section Ev
variable {V : xmV} {O : xmO} {k : Nat} {x x' : xmC} {r : Option Value} {G G1 G' : xmH} {pc : Nat} {lv : xmL} {st : List Value} {aux : List Nat} {idx : Nat}
theorem ev_pure {i : xmI} (hc : xmCd k x.1 = some i) (h : xmPure id i x = some x') (e : xmEv V O k x' r G') : xmEv V O k x r G' := by
  obtain ⟨n, hn⟩ := e
  exact ⟨n + 1, i, hc, Or.inl ⟨x', Or.inl h, hn⟩⟩
theorem ev_heap {i : xmI} (hc : xmCd k x.1 = some i) (h : xmHR V i x x') (e : xmEv V O k x' r G') : xmEv V O k x r G' := by
  obtain ⟨n, hn⟩ := e
  exact ⟨n + 1, i, hc, Or.inl ⟨x', Or.inr (Or.inl h), hn⟩⟩
theorem ev_inv {i : xmI} (hc : xmCd k x.1 = some i) (h : xmIR O i x x') (e : xmEv V O k x' r G') : xmEv V O k x r G' := by
  obtain ⟨n, hn⟩ := e
  exact ⟨n + 1, i, hc, Or.inl ⟨x', Or.inr (Or.inr h), hn⟩⟩
theorem ev_end {i : xmI} (hc : xmCd k x.1 = some i) (h : xmRet (xmRt k) i x r) (hG : x.2.2.2 = G') : xmEv V O k x r G' := ⟨1, i, hc, Or.inr ⟨h, hG.symm⟩⟩
theorem ev_it (n : Nat) : ∀ {x x' : xmC}, xmIter k n x = some x' → xmEv V O k x' r G' → xmEv V O k x r G' := by
  induction n with
  | zero => intro x x' h e; cases h; exact e
  | succ n ih =>
    intro x x' h e
    unfold xmIter at h
    split at h
    next i hi =>
      split at h
      next x1 hx1 => exact ev_pure hi hx1 (ih h e)
      next => cases h
    next => cases h
theorem ev_br {i : xmI} {b : Bool} {t f : Nat} (hc : xmCd k x.1 = some i) (h : xmPure id i x = some (bif b then t else f, lv, st, G)) (e1 : b = true → xmEv V O k (t, lv, st, G) r G') (e2 : b = false → xmEv V O k (f, lv, st, G) r G') : xmEv V O k x r G' := by
  cases b
  · exact ev_pure hc h (e2 rfl)
  · exact ev_pure hc h (e1 rfl)
theorem ev_get {a : Nat} {fs : List Value} {v : Value} (hc : xmCd k pc = some (.getfield idx, 3, aux)) (hm : Nat.ble 2000 (aux.getD 0 0) = false) (hG : G.1 a = (16 + aux.getD 0 0, fs)) (hv : fs[aux.getD 1 0]? = some v) (e : xmEv V O k (pc + 3, lv, v :: st, G) r G') : xmEv V O k (pc, lv, .ref a :: st, G) r G' :=
  ev_heap (x := (pc, lv, .ref a :: st, G)) hc (Or.inr ⟨xm_ble hm, a, fs, v, st, rfl, hG, hv, rfl⟩) e
theorem ev_sval {a : Nat} (hc : xmCd k pc = some (.getfield idx, 3, aux)) (hm : aux.getD 0 0 = 2000) (ha : a < zN) (e : xmEv V O k (pc + 3, lv, .retAddr (1000 + a) :: st, G) r G') : xmEv V O k (pc, lv, .retAddr a :: st, G) r G' :=
  ev_heap (x := (pc, lv, .retAddr a :: st, G)) hc (Or.inl ⟨a, st, rfl, ha, Or.inl ⟨hm, rfl⟩⟩) e
theorem ev_scod {a : Nat} (hc : xmCd k pc = some (.getfield idx, 3, aux)) (hm : aux.getD 0 0 = 2001) (ha : a < zN) (e : xmEv V O k (pc + 3, lv, .int 0 :: st, G) r G') : xmEv V O k (pc, lv, .retAddr a :: st, G) r G' :=
  ev_heap (x := (pc, lv, .retAddr a :: st, G)) hc (Or.inl ⟨a, st, rfl, ha, Or.inr ⟨hm, rfl⟩⟩) e
theorem ev_cs (hc : xmCd k pc = some (.getstatic idx, 3, aux)) (hm : aux.getD 0 0 = 2002) (e : xmEv V O k (pc + 3, lv, .int 1 :: st, G) r G') : xmEv V O k (pc, lv, st, G) r G' :=
  ev_heap (x := (pc, lv, st, G)) hc (Or.inl ⟨hm, rfl⟩) e
theorem ev_fm (hc : xmCd k pc = some (.getstatic idx, 3, aux)) (hm : aux.getD 0 0 = 2003) (e : xmEv V O k (pc + 3, lv, .float 0 :: st, G) r G') : xmEv V O k (pc, lv, st, G) r G' :=
  ev_heap (x := (pc, lv, st, G)) hc (Or.inr ⟨hm, rfl⟩) e
theorem ev_scr {j : Int32} (hc : xmCd k pc = some (.iaload, 1, aux)) (h0 : ¬ j < 0) (hlt : j.toNatClampNeg < V.2.2.2.2.2.2.2.1.length) (e : xmEv V O k (pc + 1, lv, .int (V.2.2.2.2.2.2.2.1.getD j.toNatClampNeg 0) :: st, G) r G') : xmEv V O k (pc, lv, .int j :: .retAddr 2000 :: st, G) r G' :=
  ev_heap (x := (pc, lv, .int j :: .retAddr 2000 :: st, G)) hc (Or.inl ⟨j, st, rfl, h0, hlt, rfl⟩) e
theorem ev_scrlen (hc : xmCd k pc = some (.arraylength, 1, aux)) (e : xmEv V O k (pc + 1, lv, .int (nI V.2.2.2.2.2.2.2.1.length) :: st, G) r G') : xmEv V O k (pc, lv, .retAddr 2000 :: st, G) r G' :=
  ev_heap (x := (pc, lv, .retAddr 2000 :: st, G)) hc (Or.inr (Or.inl ⟨st, rfl, rfl⟩)) e
theorem ev_slen {a : Nat} (hc : xmCd k pc = some (.arraylength, 1, aux)) (ha : a < zN) (e : xmEv V O k (pc + 1, lv, .int (nI (zBy a).length) :: st, G) r G') : xmEv V O k (pc, lv, .retAddr (1000 + a) :: st, G) r G' :=
  ev_heap (x := (pc, lv, .retAddr (1000 + a) :: st, G)) hc (Or.inl ⟨a, st, rfl, ha, rfl⟩) e
theorem ev_sbald {a : Nat} {j z : Int32} (hc : xmCd k pc = some (.baload, 1, aux)) (ha : a < zN) (h0 : ¬ j < 0) (hz : (zBy a)[j.toNatClampNeg]? = some z) (e : xmEv V O k (pc + 1, lv, .int z :: st, G) r G') : xmEv V O k (pc, lv, .int j :: .retAddr (1000 + a) :: st, G) r G' :=
  ev_heap (x := (pc, lv, .int j :: .retAddr (1000 + a) :: st, G)) hc (Or.inl ⟨a, j, z, st, rfl, ha, h0, hz, rfl⟩) e
theorem ev_put {a : Nat} {fs : List Value} {v : Value} (hc : xmCd k pc = some (.putfield idx, 3, aux)) (hG : G.1 a = (16 + aux.getD 0 0, fs)) (hn : narrow (xmTyp (aux.getD 0 0) (aux.getD 1 0)) (xmRo V v) = xmRo V v) (hf : fits (xmTyp (aux.getD 0 0) (aux.getD 1 0)) (xmRo V v) = true) (e : xmEv V O k (pc + 3, lv, st, (xmUp G.1 a (16 + aux.getD 0 0, fs.set (aux.getD 1 0) v), G.2)) r G') : xmEv V O k (pc, lv, v :: .ref a :: st, G) r G' :=
  ev_heap (x := (pc, lv, v :: .ref a :: st, G)) hc ⟨a, fs, v, st, rfl, hG, hn, hf, rfl⟩ e
theorem ev_iald {a : Nat} {vs : List Value} {j : Int32} {v : Value} (hc : xmCd k pc = some (.iaload, 1, aux)) (hG : G.1 a = (1, vs)) (h0 : ¬ j < 0) (hv : vs[j.toNatClampNeg]? = some v) (e : xmEv V O k (pc + 1, lv, v :: st, G) r G') : xmEv V O k (pc, lv, .int j :: .ref a :: st, G) r G' :=
  ev_heap (x := (pc, lv, .int j :: .ref a :: st, G)) hc (Or.inr ⟨a, vs, j, v, st, rfl, hG, h0, hv, rfl⟩) e
theorem ev_lald {a : Nat} {vs : List Value} {j : Int32} {v : Value} (hc : xmCd k pc = some (.laload, 1, aux)) (hG : G.1 a = (2, vs)) (h0 : ¬ j < 0) (hv : vs[j.toNatClampNeg]? = some v) (e : xmEv V O k (pc + 1, lv, v :: st, G) r G') : xmEv V O k (pc, lv, .int j :: .ref a :: st, G) r G' :=
  ev_heap (x := (pc, lv, .int j :: .ref a :: st, G)) hc ⟨a, vs, j, v, st, rfl, hG, h0, hv, rfl⟩ e
theorem ev_bald {a t : Nat} {vs : List Value} {j : Int32} {v : Value} (hc : xmCd k pc = some (.baload, 1, aux)) (hG : G.1 a = (t, vs)) (ht : t = 3 ∨ t = 4) (h0 : ¬ j < 0) (hv : vs[j.toNatClampNeg]? = some v) (e : xmEv V O k (pc + 1, lv, v :: st, G) r G') : xmEv V O k (pc, lv, .int j :: .ref a :: st, G) r G' :=
  ev_heap (x := (pc, lv, .int j :: .ref a :: st, G)) hc (Or.inr ⟨a, t, vs, j, v, st, rfl, hG, ht, h0, hv, rfl⟩) e
theorem ev_iast {a : Nat} {vs : List Value} {j y : Int32} (hc : xmCd k pc = some (.iastore, 1, aux)) (hG : G.1 a = (1, vs)) (h0 : ¬ j < 0) (hlt : j.toNatClampNeg < vs.length) (e : xmEv V O k (pc + 1, lv, st, (xmUp G.1 a (1, vs.set j.toNatClampNeg (.int y)), G.2)) r G') : xmEv V O k (pc, lv, .int y :: .int j :: .ref a :: st, G) r G' :=
  ev_heap (x := (pc, lv, .int y :: .int j :: .ref a :: st, G)) hc ⟨a, vs, j, y, st, rfl, hG, h0, hlt, rfl⟩ e
theorem ev_last {a : Nat} {vs : List Value} {j : Int32} {y : Int64} (hc : xmCd k pc = some (.lastore, 1, aux)) (hG : G.1 a = (2, vs)) (h0 : ¬ j < 0) (hlt : j.toNatClampNeg < vs.length) (e : xmEv V O k (pc + 1, lv, st, (xmUp G.1 a (2, vs.set j.toNatClampNeg (.long y)), G.2)) r G') : xmEv V O k (pc, lv, .long y :: .int j :: .ref a :: st, G) r G' :=
  ev_heap (x := (pc, lv, .long y :: .int j :: .ref a :: st, G)) hc ⟨a, vs, j, y, st, rfl, hG, h0, hlt, rfl⟩ e
theorem ev_bast {a t : Nat} {vs : List Value} {j y : Int32} (hc : xmCd k pc = some (.bastore, 1, aux)) (hG : G.1 a = (t, vs)) (ht : t = 3 ∨ t = 4) (h0 : ¬ j < 0) (hlt : j.toNatClampNeg < vs.length) (e : xmEv V O k (pc + 1, lv, st, (xmUp G.1 a (t, vs.set j.toNatClampNeg (narrow (xmTy t) (.int y))), G.2)) r G') : xmEv V O k (pc, lv, .int y :: .int j :: .ref a :: st, G) r G' :=
  ev_heap (x := (pc, lv, .int y :: .int j :: .ref a :: st, G)) hc ⟨a, t, vs, j, y, st, rfl, hG, ht, h0, hlt, rfl⟩ e
theorem ev_len {a t : Nat} {vs : List Value} (hc : xmCd k pc = some (.arraylength, 1, aux)) (hG : G.1 a = (t, vs)) (ht : t = 1 ∨ t = 2 ∨ t = 3 ∨ t = 4) (e : xmEv V O k (pc + 1, lv, .int (nI vs.length) :: st, G) r G') : xmEv V O k (pc, lv, .ref a :: st, G) r G' :=
  ev_heap (x := (pc, lv, .ref a :: st, G)) hc (Or.inr (Or.inr ⟨a, t, vs, st, rfl, hG, ht, rfl⟩)) e
theorem ev_newa {at1 : ClassFile.ArrayType} {n : Int32} (hc : xmCd k pc = some (.newarray at1, 2, aux)) (h0 : ¬ n < 0) (hn : n.toNatClampNeg ≤ 300000) (e : xmEv V O k (pc + 2, lv, .ref G.2.1 :: st, (xmUp G.1 G.2.1 (aux.getD 0 0, List.replicate n.toNatClampNeg (defaultValue (xmTy (aux.getD 0 0)))), G.2.1 + 1, G.2.2 + n.toNatClampNeg)) r G') : xmEv V O k (pc, lv, .int n :: st, G) r G' :=
  ev_heap (x := (pc, lv, .int n :: st, G)) hc ⟨n, st, rfl, h0, hn, rfl⟩ e
theorem ev_new (hc : xmCd k pc = some (.new idx, 3, aux)) (e : xmEv V O k (pc + 3, lv, .ref G.2.1 :: st, (xmUp G.1 G.2.1 (16 + aux.getD 0 0, xmDef (aux.getD 0 0)), G.2.1 + 1, G.2.2 + (xmDef (aux.getD 0 0)).length)) r G') : xmEv V O k (pc, lv, st, G) r G' :=
  ev_heap (x := (pc, lv, st, G)) hc rfl e
theorem ev_callV {b : Nat} {As : List Value} {r1 : Option Value} {fs st0 : List Value} (hc : xmCd k pc = some (.invokevirtual idx, 3, aux)) (hm : Nat.ble 99 (aux.getD 2 0) = false) (hst : st0 = As.reverse ++ .ref b :: st) (hn : As.length = aux.getD 1 0) (h8 : (st.map fun v => v.category).sum ≤ 8) (hG : G.1 b = (16 + aux.getD 2 0, fs)) (ho : O (aux.getD 0 0) (.ref b :: As) G r1 G1) (e : xmEv V O k (pc + 3, lv, r1.toList ++ st, G1) r G') : xmEv V O k (pc, lv, st0, G) r G' :=
  ev_inv (x := (pc, lv, st0, G)) hc (Or.inr ⟨xm_ble hm, b, As, st, r1, G1, fs, hst, hn, h8, hG, ho, rfl⟩) e
theorem ev_callT {b : Nat} {As : List Value} {r1 : Option Value} {st0 : List Value} (hc : xmCd k pc = some (.invokevirtual idx, 3, aux)) (hm : aux.getD 2 0 = 99) (hb : b < zN) (hst : st0 = As.reverse ++ .retAddr b :: st) (hn : As.length = aux.getD 1 0) (h8 : (st.map fun v => v.category).sum ≤ 8) (ho : O (aux.getD 0 0) (.retAddr b :: As) G r1 G1) (e : xmEv V O k (pc + 3, lv, r1.toList ++ st, G1) r G') : xmEv V O k (pc, lv, st0, G) r G' :=
  ev_inv (x := (pc, lv, st0, G)) hc (Or.inl ⟨hm, b, As, st, r1, G1, hb, hst, hn, h8, ho, rfl⟩) e
theorem ev_callS {av : List Value} {r1 : Option Value} {st0 : List Value} (hc : xmCd k pc = some (.invokestatic idx, 3, aux)) (hm : aux.getD 0 0 < 1000) (hst : st0 = av.reverse ++ st) (hn : av.length = aux.getD 1 0) (h8 : (st.map fun v => v.category).sum ≤ 8) (ho : O (aux.getD 0 0) av G r1 G1) (e : xmEv V O k (pc + 3, lv, r1.toList ++ st, G1) r G') : xmEv V O k (pc, lv, st0, G) r G' :=
  ev_inv (x := (pc, lv, st0, G)) hc (Or.inr (Or.inr (Or.inr ⟨hm, av, st, r1, G1, hst, hn, h8, ho, rfl⟩))) e
theorem ev_callI {b : Nat} {As : List Value} {st0 : List Value} (hc : xmCd k pc = some (.invokespecial idx, 3, aux)) (hm : aux.getD 0 0 ≠ 1000) (hst : st0 = As.reverse ++ .ref b :: st) (hn : As.length = aux.getD 1 0) (h8 : (st.map fun v => v.category).sum ≤ 8) (ho : O (aux.getD 0 0) (.ref b :: As) G none G1) (e : xmEv V O k (pc + 3, lv, st, G1) r G') : xmEv V O k (pc, lv, st0, G) r G' :=
  ev_inv (x := (pc, lv, st0, G)) hc (Or.inr ⟨hm, b, As, st, G1, hst, hn, h8, ho, rfl⟩) e
theorem ev_objI {b : Nat} (hc : xmCd k pc = some (.invokespecial idx, 3, aux)) (hm : aux.getD 0 0 = 1000) (h8 : (st.map fun v => v.category).sum ≤ 8) (e : xmEv V O k (pc + 3, lv, st, G) r G') : xmEv V O k (pc, lv, .ref b :: st, G) r G' :=
  ev_inv (x := (pc, lv, .ref b :: st, G)) hc (Or.inl ⟨hm, b, st, rfl, h8, rfl⟩) e
theorem ev_min {a b : Int32} (hc : xmCd k pc = some (.invokestatic idx, 3, aux)) (hm : aux.getD 0 0 = 1001) (h8 : (st.map fun v => v.category).sum ≤ 8) (e : xmEv V O k (pc + 3, lv, .int (if b < a then b else a) :: st, G) r G') : xmEv V O k (pc, lv, .int b :: .int a :: st, G) r G' :=
  ev_inv (x := (pc, lv, .int b :: .int a :: st, G)) hc (Or.inr (Or.inl ⟨hm, a, b, st, rfl, h8, rfl⟩)) e
theorem ev_max {a b : Int32} (hc : xmCd k pc = some (.invokestatic idx, 3, aux)) (hm : aux.getD 0 0 = 1004) (h8 : (st.map fun v => v.category).sum ≤ 8) (e : xmEv V O k (pc + 3, lv, .int (if a < b then b else a) :: st, G) r G') : xmEv V O k (pc, lv, .int b :: .int a :: st, G) r G' :=
  ev_inv (x := (pc, lv, .int b :: .int a :: st, G)) hc (Or.inl ⟨hm, a, b, st, rfl, h8, rfl⟩) e
theorem ev_cpy {a0 a1 : Nat} {vs ws : List Value} {sp dp n : Int32} (hc : xmCd k pc = some (.invokestatic idx, 3, aux)) (hm : aux.getD 0 0 = 1002) (h0 : G.1 a0 = (1, vs)) (h1 : G.1 a1 = (1, ws)) (hint : ∀ v ∈ vs, ∃ z : Int32, v = .int z) (hsp : ¬ sp < 0) (hdp : ¬ dp < 0) (hn : ¬ n < 0) (h4 : sp.toNatClampNeg + n.toNatClampNeg ≤ vs.length) (h5 : dp.toNatClampNeg + n.toNatClampNeg ≤ ws.length) (h8 : (st.map fun v => v.category).sum ≤ 8) (e : xmEv V O k (pc + 3, lv, st, (xmUp G.1 a1 (1, xmCpy vs ws sp.toNatClampNeg dp.toNatClampNeg n.toNatClampNeg), G.2)) r G') : xmEv V O k (pc, lv, .int n :: .int dp :: .ref a1 :: .int sp :: .ref a0 :: st, G) r G' :=
  ev_inv (x := (pc, lv, .int n :: .int dp :: .ref a1 :: .int sp :: .ref a0 :: st, G)) hc (Or.inr (Or.inr (Or.inl ⟨hm, a0, a1, vs, ws, st, sp, dp, n, rfl, h0, h1, hint, hsp, hdp, hn, h4, h5, h8, rfl⟩))) e
theorem ev_iret {v : Int32} {ty : FieldType} (hc : xmCd k pc = some (.ireturn, 1, aux)) (hr : xmRt k = some ty) (hn : narrow ty (.int v) = .int v) : xmEv V O k (pc, lv, [.int v], G) (some (.int v)) G :=
  ev_end (x := (pc, lv, [.int v], G)) hc ⟨v, ty, rfl, hr, hn, rfl⟩ rfl
theorem ev_lret {v : Int64} (hc : xmCd k pc = some (.lreturn, 1, aux)) (hr : xmRt k = some .long) : xmEv V O k (pc, lv, [.long v], G) (some (.long v)) G :=
  ev_end (x := (pc, lv, [.long v], G)) hc ⟨v, rfl, hr, rfl⟩ rfl
theorem ev_aret {a : Nat} {rt : FieldType} (hc : xmCd k pc = some (.areturn, 1, aux)) (hr : xmRt k = some rt) (h3 : (∃ n, rt = .object n) ∨ ∃ t, rt = .array t) : xmEv V O k (pc, lv, [.ref a], G) (some (.ref a)) G :=
  ev_end (x := (pc, lv, [.ref a], G)) hc ⟨.ref a, rt, Or.inl ⟨a, rfl⟩, rfl, hr, h3, rfl⟩ rfl
theorem ev_vret (hc : xmCd k pc = some (.return_, 1, aux)) (hr : xmRt k = none) : xmEv V O k (pc, lv, [], G) none G :=
  ev_end (x := (pc, lv, [], G)) hc ⟨rfl, hr, rfl⟩ rfl
theorem xmCall_of {d : Nat} {av : List Value} (hk : k < xmCount) (hl : (lg_sl av).length ≤ xmML k) (h : xmEv V (xmCall V d) k (0, lv_args 0 av, [], G) r G') : xmCall V (d + 1) k av G r G' := ⟨hk, hl, h⟩
end Ev
