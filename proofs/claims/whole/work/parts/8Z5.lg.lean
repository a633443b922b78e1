/-! THE LAW, WALKED: from a point of the law over a heap of states, the JVM comes to its end with Q -/
theorem ab_room {L : List Nat} {Kc Ks : Nat} {A : Nat → xmE} {G : xmH} (h : xmAb L Kc Ks A G) : G.2.1 ≤ Kc ∧ G.2.2 ≤ Ks := by
  obtain ⟨mo, ow, cp, -, -, -, -, -, h1, h2⟩ := h
  omega
section LawWalk
variable {p : Program} {l : Launch} {e : Env} {R : Room} {s : State} {m : MethodId} {args : Array Value} {below : List Frame} {meth : Method} {c : Code} {Q : State → Prop} {V : xmV} {G0 : xmH} {Kc Ks : Nat}
/-- what the walk stands on -/
def lwC (p : Program) (R : Room) (s : State) (m : MethodId) (args : Array Value) (meth : Method) (c : Code) (V : xmV) (G0 : xmH) : Prop := xmCtx p s m args meth c V 248 ∧ (∀ k, k < xmCount → plainFor (xmY k) = true ∧ ∀ pc i, xmCd k pc = some i → xmOK k pc i) ∧ (xmFr 248 ≤ R.frames ∧ xmLo 248 ≤ R.locals) ∧ G0.2.1 = 0 ∧ G0.2.2 = 0 ∧ 600000 ≤ R.cells ∧ 2000000 ≤ R.slots
def LG (p : Program) (l : Launch) (e : Env) (R : Room) (s : State) (m : MethodId) (args : Array Value) (below : List Frame) (meth : Method) (c : Code) (Q : State → Prop) (V : xmV) (G0 : xmH) (Kc Ks : Nat) (x : xfC) : Prop := ∀ G, xmAb Lr Kc Ks (xA x.2.2.2) G → xmGoal p l e R s m args below meth c Q V (xmML 248) G0 (x.1, x.2.1, x.2.2.1, G)
abbrev lwO (V : xmV) : xmO := fun j av G r G' => ∃ d, xmCall V d j av G r G'
theorem lg_raw (C : lwC p R s m args meth c V G0) {i : xmI} {x x' : xmC} (hi : xmCd 248 x.1 = some i) (h : xmPure id i x = some x' ∨ xmHR V i x x' ∨ xmIR (lwO V) i x x') (hc : x'.2.2.2.2.1 ≤ 600000) (hs : x'.2.2.2.2.2 ≤ 2000000) (kk : xmGoal p l e R s m args below meth c Q V (xmML 248) G0 x') : xmGoal p l e R s m args below meth c Q V (xmML 248) G0 x := by
  obtain ⟨X, hall, hR, g1, g2, r1, r2⟩ := C
  exact xmStep_sound (O := lwO V) X (hall 248 (by decide)).2 (fun j av G r1 G1 z => by obtain ⟨d, z⟩ := z; exact xmCall_sound hall d j av G r1 G1 z) hR hi h ⟨by omega, by omega⟩ (by omega) (by omega) kk
theorem lg_itG (C : lwC p R s m args meth c V G0) : ∀ (n : Nat) {x x' : xmC}, xmIter 248 n x = some x' → x.2.2.2.2.1 ≤ 600000 → x.2.2.2.2.2 ≤ 2000000 → xmGoal p l e R s m args below meth c Q V (xmML 248) G0 x' → xmGoal p l e R s m args below meth c Q V (xmML 248) G0 x := by
  intro n
  induction n with
  | zero => intro x x' h _ _ k; cases h; exact k
  | succ n ih =>
    intro x x' h h1 h2 k
    unfold xmIter at h
    split at h
    next i hi =>
      split at h
      next x1 hx1 =>
        have hp := xmPure_heap hx1
        exact lg_raw C hi (Or.inl hx1) (by rw [hp]; exact h1) (by rw [hp]; exact h2) (ih h (by rw [hp]; exact h1) (by rw [hp]; exact h2) k)
      next => cases h
    next => cases h
variable {H H1 : xHp} {pc pc' : Nat} {lv lv' : xmL} {st st' : List Value} {aux : List Nat} {idx : Nat}
def lwK (Kc Ks : Nat) : Prop := Kc ≤ 600000 ∧ Ks ≤ 2000000
theorem lg_it (C : lwC p R s m args meth c V G0) (K : lwK Kc Ks) (n : Nat) (h : ∀ G, xmIter 248 n (pc, lv, st, G) = some (pc', lv', st', G)) (k : LG p l e R s m args below meth c Q V G0 Kc Ks (pc', lv', st', H)) : LG p l e R s m args below meth c Q V G0 Kc Ks (pc, lv, st, H) := by
  intro G hG
  have hr := ab_room hG
  exact lg_itG C n (h G) (Nat.le_trans hr.1 K.1) (Nat.le_trans hr.2 K.2) (k G hG)
theorem lg_lw (hl : ∀ q ∈ lv', q ∈ lv) (k : LG p l e R s m args below meth c Q V G0 Kc Ks (pc, lv', st, H)) : LG p l e R s m args below meth c Q V G0 Kc Ks (pc, lv, st, H) := by
  intro G hG H9 locs ls hlv
  refine k G hG H9 locs ls ⟨hlv.1, hlv.2.1, fun q hq => hlv.2.2 q ?_⟩
  obtain ⟨q0, h1, rfl⟩ := List.mem_map.mp hq
  exact List.mem_map.mpr ⟨q0, hl q0 h1, rfl⟩
theorem lg_br (C : lwC p R s m args meth c V G0) (K : lwK Kc Ks) {i : xmI} {b : Bool} {t f : Nat} (hc : xmCd 248 pc = some i) (h : ∀ G, xmPure id i (pc, lv, st, G) = some (bif b then t else f, lv', st', G)) (k1 : b = true → LG p l e R s m args below meth c Q V G0 Kc Ks (t, lv', st', H)) (k2 : b = false → LG p l e R s m args below meth c Q V G0 Kc Ks (f, lv', st', H)) : LG p l e R s m args below meth c Q V G0 Kc Ks (pc, lv, st, H) := by
  intro G hG
  have hr := ab_room hG
  cases b
  · exact lg_raw C (x' := (f, lv', st', G)) hc (Or.inl (h G)) (Nat.le_trans hr.1 K.1) (Nat.le_trans hr.2 K.2) (k2 rfl G hG)
  · exact lg_raw C (x' := (t, lv', st', G)) hc (Or.inl (h G)) (Nat.le_trans hr.1 K.1) (Nat.le_trans hr.2 K.2) (k1 rfl G hG)
theorem lg_scr (C : lwC p R s m args meth c V G0) (K : lwK Kc Ks) {j : Int32} (hc : xmCd 248 pc = some (.iaload, 1, aux)) (h0 : ¬ j < 0) (hl : j.toNatClampNeg < V.2.2.2.2.2.2.2.1.length) (k : LG p l e R s m args below meth c Q V G0 Kc Ks (pc + 1, lv, .int (V.2.2.2.2.2.2.2.1.getD j.toNatClampNeg 0) :: st, H)) : LG p l e R s m args below meth c Q V G0 Kc Ks (pc, lv, .int j :: .retAddr 2000 :: st, H) := by
  intro G hG
  have hr := ab_room hG
  exact lg_raw C (x := (pc, lv, .int j :: .retAddr 2000 :: st, G)) hc (Or.inr (Or.inl (Or.inl ⟨j, st, rfl, h0, hl, rfl⟩))) (Nat.le_trans hr.1 K.1) (Nat.le_trans hr.2 K.2) (k G hG)
theorem lg_scl (C : lwC p R s m args meth c V G0) (K : lwK Kc Ks) (hc : xmCd 248 pc = some (.arraylength, 1, aux)) (k : LG p l e R s m args below meth c Q V G0 Kc Ks (pc + 1, lv, .int (nI V.2.2.2.2.2.2.2.1.length) :: st, H)) : LG p l e R s m args below meth c Q V G0 Kc Ks (pc, lv, .retAddr 2000 :: st, H) := by
  intro G hG
  have hr := ab_room hG
  exact lg_raw C (x := (pc, lv, .retAddr 2000 :: st, G)) hc (Or.inr (Or.inl (Or.inr (Or.inl ⟨st, rfl, rfl⟩)))) (Nat.le_trans hr.1 K.1) (Nat.le_trans hr.2 K.2) (k G hG)
theorem lg_lald (C : lwC p R s m args meth c V G0) (K : lwK Kc Ks) {a : Nat} {vs : List Value} {v : Value} (hc : xmCd 248 pc = some (.laload, 1, aux)) (hA : xA H a = (2, vs)) (hv : vs[0]? = some v) (k : LG p l e R s m args below meth c Q V G0 Kc Ks (pc + 1, lv, v :: st, H)) : LG p l e R s m args below meth c Q V G0 Kc Ks (pc, lv, .int 0 :: .ref a :: st, H) := by
  intro G hG
  have hr := ab_room hG
  exact lg_raw C (x := (pc, lv, .int 0 :: .ref a :: st, G)) hc (Or.inr (Or.inl ⟨a, vs, 0, v, st, rfl, hG.at hA (by decide : (2 : Nat) ≠ 0) (by decide : (2 : Nat) ≠ 7), by decide, hv, rfl⟩)) (Nat.le_trans hr.1 K.1) (Nat.le_trans hr.2 K.2) (k G hG)
theorem lg_call (C : lwC p R s m args meth c V G0) (K : lwK Kc Ks) {b : Nat} {As fs : List Value} {r1 : Option Value} {st0 : List Value} (hc : xmCd 248 pc = some (.invokevirtual idx, 3, aux)) (hm : Nat.ble 99 (aux.getD 2 0) = false) (hst : st0 = As.reverse ++ .ref b :: st) (hn : As.length = aux.getD 1 0) (h8 : (st.map fun v => v.category).sum ≤ 8) (hA : xA H b = (16 + aux.getD 2 0, fs)) (ho : HC V Lr Kc Ks (aux.getD 0 0) (.ref b :: As) H r1 H1) (k : LG p l e R s m args below meth c Q V G0 Kc Ks (pc + 3, lv, r1.toList ++ st, H1)) : LG p l e R s m args below meth c Q V G0 Kc Ks (pc, lv, st0, H) := by
  intro G hG
  obtain ⟨d, ho⟩ := ho
  obtain ⟨G', h1, h2⟩ := ho G hG
  have hr := ab_room h1
  have hb : G.1 b = (16 + aux.getD 2 0, fs) := hG.at hA (show 16 + aux.getD 2 0 ≠ 0 by omega) (show 16 + aux.getD 2 0 ≠ 7 by omega)
  exact lg_raw C (x := (pc, lv, st0, G)) (x' := (pc + 3, lv, r1.toList ++ st, G')) hc (Or.inr (Or.inr (Or.inr ⟨xm_ble hm, b, As, st, r1, G', fs, hst, hn, h8, hb, ⟨d, h2⟩, rfl⟩))) (Nat.le_trans hr.1 K.1) (Nat.le_trans hr.2 K.2) (k G' h1)
end LawWalk
