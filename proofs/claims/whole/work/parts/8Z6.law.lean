/-! THE LAW'S LOOP (printed by law.py) -/
section LawLoop
variable {p : Program} {l : Launch} {e : Env} {R : Room} {s : State} {m : MethodId} {args : Array Value} {below : List Frame} {meth : Method} {c : Code} {Q : State → Prop} {V : xmV} {G0 : xmH} {Kc Ks : Nat}
theorem ab_mono {L : List Nat} {Kc Ks Kc' Ks' : Nat} {A : Nat → xmE} {G : xmH} (h1 : Kc ≤ Kc') (h2 : Ks ≤ Ks') (h : xmAb L Kc Ks A G) : xmAb L Kc' Ks' A G := by
  obtain ⟨mo, ow, cp, a1, a2, a3, a4, a5, a6, a7⟩ := h
  exact ⟨mo, ow, cp, a1, a2, a3, a4, a5, Nat.le_trans a6 h1, Nat.le_trans a7 h2⟩
theorem lg_mono {Kc' Ks' : Nat} {x : xfC} (h1 : Kc ≤ Kc') (h2 : Ks ≤ Ks') (k : LG p l e R s m args below meth c Q V G0 Kc' Ks' x) : LG p l e R s m args below meth c Q V G0 Kc Ks x := fun G hG => k G (ab_mono h1 h2 hG)
def bsL (i : Int32) : xmL := [(4, .int i), (3, .ref 152), (2, .ref 85), (1, .ref 0), (0, .retAddr 2000)]
def scA (V : xmV) (j : Int32) : Int32 := V.2.2.2.2.2.2.2.1.getD j.toNatClampNeg 0
/-- the script has an int at this place -/
def scH (V : xmV) (j : Int32) : Prop := ¬ j < 0 ∧ j.toNatClampNeg < V.2.2.2.2.2.2.2.1.length
/-- what the two helpers of the law do (they catch what is thrown) -/
def lwOut (p : Program) (l : Launch) (e : Env) (R : Room) (s : State) (m : MethodId) (args : Array Value) (below : List Frame) (meth : Method) (c : Code) (Q : State → Prop) (V : xmV) (G0 : xmH) : Prop := ∀ (Kc Ks : Nat) (S T : xSt) (a : Int32) (lv : xmL), lwK (Kc + 1) (Ks + 16) → (gR S 16).length ≤ 2065 → (gL T 8).length = 1 →
  (inB (gR S 16) a → LG p l e R s m args below meth c Q V G0 (Kc + 1) (Ks + 16) (361, lv, [.int 0], (hpC S, hpR (sL T 8 [(xsAt (gR S 16) a).toInt64])))) → (¬ inB (gR S 16) a → LG p l e R s m args below meth c Q V G0 (Kc + 1) (Ks + 16) (361, lv, [.int 1], (hpC S, hpR T))) → LG p l e R s m args below meth c Q V G0 Kc Ks (358, lv, [.ref 152, .int a, .ref 0], (hpC S, hpR T))
def lwIn (p : Program) (l : Launch) (e : Env) (R : Room) (s : State) (m : MethodId) (args : Array Value) (below : List Frame) (meth : Method) (c : Code) (Q : State → Prop) (V : xmV) (G0 : xmH) : Prop := ∀ (Kc Ks : Nat) (S T : xSt) (a : Int32) (b : Bool) (lv : xmL), lwK (Kc + 1) (Ks + 16) → (inL S b).length ≤ 64 → (gL T 8).length = 1 →
  (inB (inL S b) a → LG p l e R s m args below meth c Q V G0 (Kc + 1) (Ks + 16) (431, lv, [.int 0], (hpC S, hpR (sL T 8 [(xsAt (inL S b) a).toInt64])))) → (¬ inB (inL S b) a → LG p l e R s m args below meth c Q V G0 (Kc + 1) (Ks + 16) (431, lv, [.int 1], (hpC S, hpR T))) → LG p l e R s m args below meth c Q V G0 Kc Ks (428, lv, [.ref 152, .int (b01 b), .int a, .ref 0], (hpC S, hpR T))
variable {S T : xSt} {n : Nat} {i : Int32}
theorem l_eq (C : lwC p R s m args meth c V G0) (K : lwK Kc Ks) {H : xHp} {lv : xmL} {pc : Nat} {x : Int32} (hc : xmCd 248 pc = some (.if_icmp .eq (515 - (pc : Int)), 3, [515])) (k : LG p l e R s m args below meth c Q V G0 Kc Ks (515, lv, [], H)) : LG p l e R s m args below meth c Q V G0 Kc Ks (pc, lv, [.int x, .int x], H) :=
  lg_br C K (t := 515) (f := pc + 3) (b := decide (x = x)) (lv' := lv) (st' := []) hc (fun _ => rfl) (fun _ => k) (fun h => absurd (decide_eq_true (rfl : x = x)) (by rw [h]; decide))
def gvL (V : xmV) (i : Int32) : Int64 := ((scA V (i + 1)).toInt64 <<< ((32 : Int32).toInt64 &&& 63)) ||| ((scA V (i + 2)).toInt64 &&& lN 4294967295)
theorem lc_0 (C : lwC p R s m args meth c V G0) (K : lwK (Kc + 1) (Ks + 16)) (hK : KI S T n) (q1 : scH V (i + 1)) (q2 : scH V (i + 2)) (q3 : scH V (i + 3)) (k : ∀ S1 T1, KI S1 T1 (n + 1) → LG p l e R s m args below meth c Q V G0 (Kc + 1) (Ks + 16) (515, bsL i, [], (hpC S1, hpR T1))) : LG p l e R s m args below meth c Q V G0 Kc Ks (96, bsL i, [], (hpC S, hpR T)) := by
  have K0 : lwK Kc Ks := ⟨Nat.le_trans (Nat.le_succ _) K.1, Nat.le_trans (Nat.le_add_right _ 16) K.2⟩
  obtain ⟨r, S1, T1, e1, e2, e3⟩ := ki_give hK (gvL V i) (scA V (i + 3))
  refine lg_it C K0 1 (pc' := 97) (lv' := bsL i) (st' := [.ref 0]) (fun _ => rfl) ?_
  refine lg_it C K0 4 (pc' := 102) (lv' := bsL i) (st' := [.int (i + 1), .retAddr 2000, .ref 0]) (fun _ => rfl) ?_
  refine lg_scr C K0 rfl q1.1 q1.2 ?_
  show LG p l e R s m args below meth c Q V G0 Kc Ks (103, bsL i, [.int (scA V (i + 1)), .ref 0], _)
  refine lg_it C K0 3 (pc' := 107) (lv' := bsL i) (st' := [.long ((scA V (i + 1)).toInt64 <<< ((32 : Int32).toInt64 &&& 63)), .ref 0]) (fun _ => rfl) ?_
  refine lg_it C K0 4 (pc' := 112) (lv' := bsL i) (st' := [.int (i + 2), .retAddr 2000, .long ((scA V (i + 1)).toInt64 <<< ((32 : Int32).toInt64 &&& 63)), .ref 0]) (fun _ => rfl) ?_
  refine lg_scr C K0 rfl q2.1 q2.2 ?_
  show LG p l e R s m args below meth c Q V G0 Kc Ks (113, bsL i, [.int (scA V (i + 2)), .long ((scA V (i + 1)).toInt64 <<< ((32 : Int32).toInt64 &&& 63)), .ref 0], _)
  refine lg_it C K0 4 (pc' := 119) (lv' := bsL i) (st' := [.long (gvL V i), .ref 0]) (fun _ => rfl) ?_
  refine lg_it C K0 4 (pc' := 124) (lv' := bsL i) (st' := [.int (i + 3), .retAddr 2000, .long (gvL V i), .ref 0]) (fun _ => rfl) ?_
  refine lg_scr C K0 rfl q3.1 q3.2 ?_
  show LG p l e R s m args below meth c Q V G0 Kc Ks (125, bsL i, [.int (scA V (i + 3)), .long (gvL V i), .ref 0], _)
  refine lg_call C K0 (b := 0) (As := [.long (gvL V i), .int (scA V (i + 3))]) (st := []) (r1 := some (.int (b01 r))) (H1 := (hpC S1, hpR T)) rfl rfl rfl rfl (Nat.le_of_ble_eq_true rfl) rfl (m133_ok e1) ?_
  refine lg_it C K0 1 (pc' := 129) (lv' := bsL i) (st' := [.ref 85, .int (b01 r)]) (fun _ => rfl) ?_
  refine lg_it C K0 4 (pc' := 134) (lv' := bsL i) (st' := [.int (i + 1), .retAddr 2000, .ref 85, .int (b01 r)]) (fun _ => rfl) ?_
  refine lg_scr C K0 rfl q1.1 q1.2 ?_
  show LG p l e R s m args below meth c Q V G0 Kc Ks (135, bsL i, [.int (scA V (i + 1)), .ref 85, .int (b01 r)], _)
  refine lg_it C K0 3 (pc' := 139) (lv' := bsL i) (st' := [.long ((scA V (i + 1)).toInt64 <<< ((32 : Int32).toInt64 &&& 63)), .ref 85, .int (b01 r)]) (fun _ => rfl) ?_
  refine lg_it C K0 4 (pc' := 144) (lv' := bsL i) (st' := [.int (i + 2), .retAddr 2000, .long ((scA V (i + 1)).toInt64 <<< ((32 : Int32).toInt64 &&& 63)), .ref 85, .int (b01 r)]) (fun _ => rfl) ?_
  refine lg_scr C K0 rfl q2.1 q2.2 ?_
  show LG p l e R s m args below meth c Q V G0 Kc Ks (145, bsL i, [.int (scA V (i + 2)), .long ((scA V (i + 1)).toInt64 <<< ((32 : Int32).toInt64 &&& 63)), .ref 85, .int (b01 r)], _)
  refine lg_it C K0 4 (pc' := 151) (lv' := bsL i) (st' := [.long (gvL V i), .ref 85, .int (b01 r)]) (fun _ => rfl) ?_
  refine lg_it C K0 4 (pc' := 156) (lv' := bsL i) (st' := [.int (i + 3), .retAddr 2000, .long (gvL V i), .ref 85, .int (b01 r)]) (fun _ => rfl) ?_
  refine lg_scr C K0 rfl q3.1 q3.2 ?_
  show LG p l e R s m args below meth c Q V G0 Kc Ks (157, bsL i, [.int (scA V (i + 3)), .long (gvL V i), .ref 85, .int (b01 r)], _)
  refine lg_call C K0 (b := 85) (As := [.long (gvL V i), .int (scA V (i + 3))]) (st := [.int (b01 r)]) (r1 := some (.int (b01 r))) (H1 := (hpC S1, hpR T1)) rfl rfl rfl rfl (Nat.le_of_ble_eq_true rfl) rfl (m203_ok e2) ?_
  exact l_eq C K0 rfl (lg_mono (Nat.le_succ _) (Nat.le_add_right _ 16) (k _ _ e3))
theorem lc_1 (C : lwC p R s m args meth c V G0) (K : lwK (Kc + 1) (Ks + 16)) (hK : KI S T n) (hn : n ≤ 511) (k : ∀ S1 T1, KI S1 T1 (n + 1) → LG p l e R s m args below meth c Q V G0 (Kc + 1) (Ks + 16) (515, bsL i, [], (hpC S1, hpR T1))) : LG p l e R s m args below meth c Q V G0 Kc Ks (165, bsL i, [], (hpC S, hpR T)) := by
  have K0 : lwK Kc Ks := ⟨Nat.le_trans (Nat.le_succ _) K.1, Nat.le_trans (Nat.le_add_right _ 16) K.2⟩
  obtain ⟨r, S1, T1, e1, e2, e3⟩ := ki_take hK hn
  refine lg_it C K0 1 (pc' := 166) (lv' := bsL i) (st' := [.ref 0]) (fun _ => rfl) ?_
  refine lg_call C K0 (b := 0) (As := []) (st := []) (r1 := some (.int r)) (H1 := (hpC S1, hpR T)) rfl rfl rfl rfl (Nat.le_of_ble_eq_true rfl) rfl (m134_ok e1) ?_
  refine lg_it C K0 1 (pc' := 170) (lv' := bsL i) (st' := [.ref 85, .int r]) (fun _ => rfl) ?_
  refine lg_call C K0 (b := 85) (As := []) (st := [.int r]) (r1 := some (.int r)) (H1 := (hpC S1, hpR T1)) rfl rfl rfl rfl (Nat.le_of_ble_eq_true rfl) rfl (m204_ok e2) ?_
  exact l_eq C K0 rfl (lg_mono (Nat.le_succ _) (Nat.le_add_right _ 16) (k _ _ e3))
theorem lc_2 (C : lwC p R s m args meth c V G0) (K : lwK (Kc + 1) (Ks + 16)) (hK : KI S T n) (q1 : scH V (i + 1)) (q2 : scH V (i + 2)) (k : ∀ S1 T1, KI S1 T1 (n + 1) → LG p l e R s m args below meth c Q V G0 (Kc + 1) (Ks + 16) (515, bsL i, [], (hpC S1, hpR T1))) : LG p l e R s m args below meth c Q V G0 Kc Ks (178, bsL i, [], (hpC S, hpR T)) := by
  have K0 : lwK Kc Ks := ⟨Nat.le_trans (Nat.le_succ _) K.1, Nat.le_trans (Nat.le_add_right _ 16) K.2⟩
  obtain ⟨r, S1, T1, e1, e2, e3⟩ := ki_ins hK (scA V (i + 1)) (scA V (i + 2))
  refine lg_it C K0 1 (pc' := 179) (lv' := bsL i) (st' := [.ref 0]) (fun _ => rfl) ?_
  refine lg_it C K0 4 (pc' := 184) (lv' := bsL i) (st' := [.int (i + 1), .retAddr 2000, .ref 0]) (fun _ => rfl) ?_
  refine lg_scr C K0 rfl q1.1 q1.2 ?_
  show LG p l e R s m args below meth c Q V G0 Kc Ks (185, bsL i, [.int (scA V (i + 1)), .ref 0], _)
  refine lg_it C K0 4 (pc' := 190) (lv' := bsL i) (st' := [.int (i + 2), .retAddr 2000, .int (scA V (i + 1)), .ref 0]) (fun _ => rfl) ?_
  refine lg_scr C K0 rfl q2.1 q2.2 ?_
  show LG p l e R s m args below meth c Q V G0 Kc Ks (191, bsL i, [.int (scA V (i + 2)), .int (scA V (i + 1)), .ref 0], _)
  refine lg_call C K0 (b := 0) (As := [.int (scA V (i + 1)), .int (scA V (i + 2))]) (st := []) (r1 := some (.int (b01 r))) (H1 := (hpC S1, hpR T)) rfl rfl rfl rfl (Nat.le_of_ble_eq_true rfl) rfl (m137_ok e1) ?_
  refine lg_it C K0 1 (pc' := 195) (lv' := bsL i) (st' := [.ref 85, .int (b01 r)]) (fun _ => rfl) ?_
  refine lg_it C K0 4 (pc' := 200) (lv' := bsL i) (st' := [.int (i + 1), .retAddr 2000, .ref 85, .int (b01 r)]) (fun _ => rfl) ?_
  refine lg_scr C K0 rfl q1.1 q1.2 ?_
  show LG p l e R s m args below meth c Q V G0 Kc Ks (201, bsL i, [.int (scA V (i + 1)), .ref 85, .int (b01 r)], _)
  refine lg_it C K0 4 (pc' := 206) (lv' := bsL i) (st' := [.int (i + 2), .retAddr 2000, .int (scA V (i + 1)), .ref 85, .int (b01 r)]) (fun _ => rfl) ?_
  refine lg_scr C K0 rfl q2.1 q2.2 ?_
  show LG p l e R s m args below meth c Q V G0 Kc Ks (207, bsL i, [.int (scA V (i + 2)), .int (scA V (i + 1)), .ref 85, .int (b01 r)], _)
  refine lg_call C K0 (b := 85) (As := [.int (scA V (i + 1)), .int (scA V (i + 2))]) (st := [.int (b01 r)]) (r1 := some (.int (b01 r))) (H1 := (hpC S1, hpR T1)) rfl rfl rfl rfl (Nat.le_of_ble_eq_true rfl) rfl (m224_ok e2) ?_
  exact l_eq C K0 rfl (lg_mono (Nat.le_succ _) (Nat.le_add_right _ 16) (k _ _ e3))
theorem lc_3 (C : lwC p R s m args meth c V G0) (K : lwK (Kc + 1) (Ks + 16)) (hK : KI S T n) (q1 : scH V (i + 1)) (q2 : scH V (i + 2)) (k : ∀ S1 T1, KI S1 T1 (n + 1) → LG p l e R s m args below meth c Q V G0 (Kc + 1) (Ks + 16) (515, bsL i, [], (hpC S1, hpR T1))) : LG p l e R s m args below meth c Q V G0 Kc Ks (215, bsL i, [], (hpC S, hpR T)) := by
  have K0 : lwK Kc Ks := ⟨Nat.le_trans (Nat.le_succ _) K.1, Nat.le_trans (Nat.le_add_right _ 16) K.2⟩
  obtain ⟨r, S1, T1, e1, e2, e3⟩ := ki_rep hK (scA V (i + 1)) (scA V (i + 2))
  refine lg_it C K0 1 (pc' := 216) (lv' := bsL i) (st' := [.ref 0]) (fun _ => rfl) ?_
  refine lg_it C K0 4 (pc' := 221) (lv' := bsL i) (st' := [.int (i + 1), .retAddr 2000, .ref 0]) (fun _ => rfl) ?_
  refine lg_scr C K0 rfl q1.1 q1.2 ?_
  show LG p l e R s m args below meth c Q V G0 Kc Ks (222, bsL i, [.int (scA V (i + 1)), .ref 0], _)
  refine lg_it C K0 4 (pc' := 227) (lv' := bsL i) (st' := [.int (i + 2), .retAddr 2000, .int (scA V (i + 1)), .ref 0]) (fun _ => rfl) ?_
  refine lg_scr C K0 rfl q2.1 q2.2 ?_
  show LG p l e R s m args below meth c Q V G0 Kc Ks (228, bsL i, [.int (scA V (i + 2)), .int (scA V (i + 1)), .ref 0], _)
  refine lg_call C K0 (b := 0) (As := [.int (scA V (i + 1)), .int (scA V (i + 2))]) (st := []) (r1 := some (.int (b01 r))) (H1 := (hpC S1, hpR T)) rfl rfl rfl rfl (Nat.le_of_ble_eq_true rfl) rfl (m138_ok e1) ?_
  refine lg_it C K0 1 (pc' := 232) (lv' := bsL i) (st' := [.ref 85, .int (b01 r)]) (fun _ => rfl) ?_
  refine lg_it C K0 4 (pc' := 237) (lv' := bsL i) (st' := [.int (i + 1), .retAddr 2000, .ref 85, .int (b01 r)]) (fun _ => rfl) ?_
  refine lg_scr C K0 rfl q1.1 q1.2 ?_
  show LG p l e R s m args below meth c Q V G0 Kc Ks (238, bsL i, [.int (scA V (i + 1)), .ref 85, .int (b01 r)], _)
  refine lg_it C K0 4 (pc' := 243) (lv' := bsL i) (st' := [.int (i + 2), .retAddr 2000, .int (scA V (i + 1)), .ref 85, .int (b01 r)]) (fun _ => rfl) ?_
  refine lg_scr C K0 rfl q2.1 q2.2 ?_
  show LG p l e R s m args below meth c Q V G0 Kc Ks (244, bsL i, [.int (scA V (i + 2)), .int (scA V (i + 1)), .ref 85, .int (b01 r)], _)
  refine lg_call C K0 (b := 85) (As := [.int (scA V (i + 1)), .int (scA V (i + 2))]) (st := [.int (b01 r)]) (r1 := some (.int (b01 r))) (H1 := (hpC S1, hpR T1)) rfl rfl rfl rfl (Nat.le_of_ble_eq_true rfl) rfl (m225_ok e2) ?_
  exact l_eq C K0 rfl (lg_mono (Nat.le_succ _) (Nat.le_add_right _ 16) (k _ _ e3))
theorem lc_4 (C : lwC p R s m args meth c V G0) (K : lwK (Kc + 1) (Ks + 16)) (hK : KI S T n) (q1 : scH V (i + 1)) (q2 : scH V (i + 2)) (k : ∀ S1 T1, KI S1 T1 (n + 1) → LG p l e R s m args below meth c Q V G0 (Kc + 1) (Ks + 16) (515, bsL i, [], (hpC S1, hpR T1))) : LG p l e R s m args below meth c Q V G0 Kc Ks (252, bsL i, [], (hpC S, hpR T)) := by
  have K0 : lwK Kc Ks := ⟨Nat.le_trans (Nat.le_succ _) K.1, Nat.le_trans (Nat.le_add_right _ 16) K.2⟩
  obtain ⟨r, S1, T1, e1, e2, e3⟩ := ki_del hK (scA V (i + 1)) (scA V (i + 2))
  refine lg_it C K0 1 (pc' := 253) (lv' := bsL i) (st' := [.ref 0]) (fun _ => rfl) ?_
  refine lg_it C K0 4 (pc' := 258) (lv' := bsL i) (st' := [.int (i + 1), .retAddr 2000, .ref 0]) (fun _ => rfl) ?_
  refine lg_scr C K0 rfl q1.1 q1.2 ?_
  show LG p l e R s m args below meth c Q V G0 Kc Ks (259, bsL i, [.int (scA V (i + 1)), .ref 0], _)
  refine lg_it C K0 4 (pc' := 264) (lv' := bsL i) (st' := [.int (i + 2), .retAddr 2000, .int (scA V (i + 1)), .ref 0]) (fun _ => rfl) ?_
  refine lg_scr C K0 rfl q2.1 q2.2 ?_
  show LG p l e R s m args below meth c Q V G0 Kc Ks (265, bsL i, [.int (scA V (i + 2)), .int (scA V (i + 1)), .ref 0], _)
  refine lg_call C K0 (b := 0) (As := [.int (scA V (i + 1)), .int (scA V (i + 2))]) (st := []) (r1 := some (.int (b01 r))) (H1 := (hpC S1, hpR T)) rfl rfl rfl rfl (Nat.le_of_ble_eq_true rfl) rfl (m139_ok e1) ?_
  refine lg_it C K0 1 (pc' := 269) (lv' := bsL i) (st' := [.ref 85, .int (b01 r)]) (fun _ => rfl) ?_
  refine lg_it C K0 4 (pc' := 274) (lv' := bsL i) (st' := [.int (i + 1), .retAddr 2000, .ref 85, .int (b01 r)]) (fun _ => rfl) ?_
  refine lg_scr C K0 rfl q1.1 q1.2 ?_
  show LG p l e R s m args below meth c Q V G0 Kc Ks (275, bsL i, [.int (scA V (i + 1)), .ref 85, .int (b01 r)], _)
  refine lg_it C K0 4 (pc' := 280) (lv' := bsL i) (st' := [.int (i + 2), .retAddr 2000, .int (scA V (i + 1)), .ref 85, .int (b01 r)]) (fun _ => rfl) ?_
  refine lg_scr C K0 rfl q2.1 q2.2 ?_
  show LG p l e R s m args below meth c Q V G0 Kc Ks (281, bsL i, [.int (scA V (i + 2)), .int (scA V (i + 1)), .ref 85, .int (b01 r)], _)
  refine lg_call C K0 (b := 85) (As := [.int (scA V (i + 1)), .int (scA V (i + 2))]) (st := [.int (b01 r)]) (r1 := some (.int (b01 r))) (H1 := (hpC S1, hpR T1)) rfl rfl rfl rfl (Nat.le_of_ble_eq_true rfl) rfl (m226_ok e2) ?_
  exact l_eq C K0 rfl (lg_mono (Nat.le_succ _) (Nat.le_add_right _ 16) (k _ _ e3))
theorem lc_5 (C : lwC p R s m args meth c V G0) (K : lwK (Kc + 1) (Ks + 16)) (hK : KI S T n) (q1 : scH V (i + 1)) (q2 : scH V (i + 2)) (k : ∀ S1 T1, KI S1 T1 (n + 1) → LG p l e R s m args below meth c Q V G0 (Kc + 1) (Ks + 16) (515, bsL i, [], (hpC S1, hpR T1))) : LG p l e R s m args below meth c Q V G0 Kc Ks (289, bsL i, [], (hpC S, hpR T)) := by
  have K0 : lwK Kc Ks := ⟨Nat.le_trans (Nat.le_succ _) K.1, Nat.le_trans (Nat.le_add_right _ 16) K.2⟩
  obtain ⟨r, S1, T1, e1, e2, e3⟩ := ki_rev hK (scA V (i + 1)) (scA V (i + 2))
  refine lg_it C K0 1 (pc' := 290) (lv' := bsL i) (st' := [.ref 0]) (fun _ => rfl) ?_
  refine lg_it C K0 4 (pc' := 295) (lv' := bsL i) (st' := [.int (i + 1), .retAddr 2000, .ref 0]) (fun _ => rfl) ?_
  refine lg_scr C K0 rfl q1.1 q1.2 ?_
  show LG p l e R s m args below meth c Q V G0 Kc Ks (296, bsL i, [.int (scA V (i + 1)), .ref 0], _)
  refine lg_it C K0 4 (pc' := 301) (lv' := bsL i) (st' := [.int (i + 2), .retAddr 2000, .int (scA V (i + 1)), .ref 0]) (fun _ => rfl) ?_
  refine lg_scr C K0 rfl q2.1 q2.2 ?_
  show LG p l e R s m args below meth c Q V G0 Kc Ks (302, bsL i, [.int (scA V (i + 2)), .int (scA V (i + 1)), .ref 0], _)
  refine lg_call C K0 (b := 0) (As := [.int (scA V (i + 1)), .int (scA V (i + 2))]) (st := []) (r1 := some (.int (b01 r))) (H1 := (hpC S1, hpR T)) rfl rfl rfl rfl (Nat.le_of_ble_eq_true rfl) rfl (m140_ok e1) ?_
  refine lg_it C K0 1 (pc' := 306) (lv' := bsL i) (st' := [.ref 85, .int (b01 r)]) (fun _ => rfl) ?_
  refine lg_it C K0 4 (pc' := 311) (lv' := bsL i) (st' := [.int (i + 1), .retAddr 2000, .ref 85, .int (b01 r)]) (fun _ => rfl) ?_
  refine lg_scr C K0 rfl q1.1 q1.2 ?_
  show LG p l e R s m args below meth c Q V G0 Kc Ks (312, bsL i, [.int (scA V (i + 1)), .ref 85, .int (b01 r)], _)
  refine lg_it C K0 4 (pc' := 317) (lv' := bsL i) (st' := [.int (i + 2), .retAddr 2000, .int (scA V (i + 1)), .ref 85, .int (b01 r)]) (fun _ => rfl) ?_
  refine lg_scr C K0 rfl q2.1 q2.2 ?_
  show LG p l e R s m args below meth c Q V G0 Kc Ks (318, bsL i, [.int (scA V (i + 2)), .int (scA V (i + 1)), .ref 85, .int (b01 r)], _)
  refine lg_call C K0 (b := 85) (As := [.int (scA V (i + 1)), .int (scA V (i + 2))]) (st := [.int (b01 r)]) (r1 := some (.int (b01 r))) (H1 := (hpC S1, hpR T1)) rfl rfl rfl rfl (Nat.le_of_ble_eq_true rfl) rfl (m228_ok e2) ?_
  exact l_eq C K0 rfl (lg_mono (Nat.le_succ _) (Nat.le_add_right _ 16) (k _ _ e3))
theorem lc_6 (C : lwC p R s m args meth c V G0) (K : lwK (Kc + 1) (Ks + 16)) (hK : KI S T n) (k : ∀ S1 T1, KI S1 T1 (n + 1) → LG p l e R s m args below meth c Q V G0 (Kc + 1) (Ks + 16) (515, bsL i, [], (hpC S1, hpR T1))) : LG p l e R s m args below meth c Q V G0 Kc Ks (326, bsL i, [], (hpC S, hpR T)) := by
  have K0 : lwK Kc Ks := ⟨Nat.le_trans (Nat.le_succ _) K.1, Nat.le_trans (Nat.le_add_right _ 16) K.2⟩
  obtain ⟨S1, T1, e1, e2, e3⟩ := ki_drop hK
  refine lg_it C K0 1 (pc' := 327) (lv' := bsL i) (st' := [.ref 0]) (fun _ => rfl) ?_
  refine lg_call C K0 (b := 0) (As := []) (st := []) (r1 := none) (H1 := (hpC S1, hpR T)) rfl rfl rfl rfl (Nat.le_of_ble_eq_true rfl) rfl (m141_ok e1) ?_
  refine lg_it C K0 1 (pc' := 331) (lv' := bsL i) (st' := [.ref 85]) (fun _ => rfl) ?_
  refine lg_call C K0 (b := 85) (As := []) (st := []) (r1 := none) (H1 := (hpC S1, hpR T1)) rfl rfl rfl rfl (Nat.le_of_ble_eq_true rfl) rfl (m205_ok e2) ?_
  refine lg_it C K0 1 (pc' := 515) (lv' := bsL i) (st' := []) (fun _ => rfl) ?_
  exact lg_mono (Nat.le_succ _) (Nat.le_add_right _ 16) (k _ _ e3)
theorem lc_7 (C : lwC p R s m args meth c V G0) (K : lwK (Kc + 1) (Ks + 16)) (hK : KI S T n) (k : ∀ S1 T1, KI S1 T1 (n + 1) → LG p l e R s m args below meth c Q V G0 (Kc + 1) (Ks + 16) (515, bsL i, [], (hpC S1, hpR T1))) : LG p l e R s m args below meth c Q V G0 Kc Ks (337, bsL i, [], (hpC S, hpR T)) := by
  have K0 : lwK Kc Ks := ⟨Nat.le_trans (Nat.le_succ _) K.1, Nat.le_trans (Nat.le_add_right _ 16) K.2⟩
  obtain ⟨r, S1, T1, e1, e2, e3⟩ := ki_apply hK
  refine lg_it C K0 1 (pc' := 338) (lv' := bsL i) (st' := [.ref 0]) (fun _ => rfl) ?_
  refine lg_call C K0 (b := 0) (As := []) (st := []) (r1 := some (.int r)) (H1 := (hpC S1, hpR T)) rfl rfl rfl rfl (Nat.le_of_ble_eq_true rfl) rfl (m142_ok e1) ?_
  refine lg_it C K0 1 (pc' := 342) (lv' := bsL i) (st' := [.ref 85, .int r]) (fun _ => rfl) ?_
  refine lg_call C K0 (b := 85) (As := []) (st := [.int r]) (r1 := some (.int r)) (H1 := (hpC S1, hpR T1)) rfl rfl rfl rfl (Nat.le_of_ble_eq_true rfl) rfl (m229_ok e2) ?_
  exact l_eq C K0 rfl (lg_mono (Nat.le_succ _) (Nat.le_add_right _ 16) (k _ _ e3))
theorem lc_10 (C : lwC p R s m args meth c V G0) (K : lwK (Kc + 1) (Ks + 16)) (hK : KI S T n) (q1 : scH V (i + 1)) (k : ∀ S1 T1, KI S1 T1 (n + 1) → LG p l e R s m args below meth c Q V G0 (Kc + 1) (Ks + 16) (515, bsL i, [], (hpC S1, hpR T1))) : LG p l e R s m args below meth c Q V G0 Kc Ks (490, bsL i, [], (hpC S, hpR T)) := by
  have K0 : lwK Kc Ks := ⟨Nat.le_trans (Nat.le_succ _) K.1, Nat.le_trans (Nat.le_add_right _ 16) K.2⟩
  obtain ⟨r, e1, e2⟩ := ki_look hK (scA V (i + 1))
  have e3 := ki_0 hK 0
  refine lg_it C K0 1 (pc' := 491) (lv' := bsL i) (st' := [.ref 0]) (fun _ => rfl) ?_
  refine lg_it C K0 4 (pc' := 496) (lv' := bsL i) (st' := [.int (i + 1), .retAddr 2000, .ref 0]) (fun _ => rfl) ?_
  refine lg_scr C K0 rfl q1.1 q1.2 ?_
  show LG p l e R s m args below meth c Q V G0 Kc Ks (497, bsL i, [.int (scA V (i + 1)), .ref 0], _)
  refine lg_call C K0 (b := 0) (As := [.int (scA V (i + 1))]) (st := []) (r1 := some (.int r)) (H1 := (hpC S, hpR T)) rfl rfl rfl rfl (Nat.le_of_ble_eq_true rfl) rfl (m144_ok e1) ?_
  refine lg_it C K0 1 (pc' := 501) (lv' := bsL i) (st' := [.ref 85, .int r]) (fun _ => rfl) ?_
  refine lg_it C K0 4 (pc' := 506) (lv' := bsL i) (st' := [.int (i + 1), .retAddr 2000, .ref 85, .int r]) (fun _ => rfl) ?_
  refine lg_scr C K0 rfl q1.1 q1.2 ?_
  show LG p l e R s m args below meth c Q V G0 Kc Ks (507, bsL i, [.int (scA V (i + 1)), .ref 85, .int r], _)
  refine lg_call C K0 (b := 85) (As := [.int (scA V (i + 1))]) (st := [.int r]) (r1 := some (.int r)) (H1 := (hpC S, hpR (sI T 0 0))) rfl rfl rfl rfl (Nat.le_of_ble_eq_true rfl) rfl (m233_ok e2) ?_
  exact l_eq C K0 rfl (lg_mono (Nat.le_succ _) (Nat.le_add_right _ 16) (k _ _ e3))
theorem cmp_self (x : Int64) : lg_cmp x x = 0 := by simp [lg_cmp]
theorem lt_8_0 (C : lwC p R s m args meth c V G0) (K : lwK Kc Ks) {v : Int32} (hv : gL T 8 = [v.toInt64]) (h0 : gI T 0 = 0) (k : LG p l e R s m args below meth c Q V G0 Kc Ks (515, bsL i, [], (hpC S, hpR T))) : LG p l e R s m args below meth c Q V G0 Kc Ks (375, [(6, .int v), (5, .int 0), (4, .int i), (3, .ref 152), (2, .ref 85), (1, .ref 0), (0, .retAddr 2000)], [], (hpC S, hpR T)) := by
  refine lg_it C K 1 (pc' := 376) (lv' := [(6, .int v), (5, .int 0), (4, .int i), (3, .ref 152), (2, .ref 85), (1, .ref 0), (0, .retAddr 2000)]) (st' := [.ref 85]) (fun _ => rfl) ?_
  refine lg_call C K (b := 85) (As := []) (st := []) (r1 := some (.int (gI T 0))) (H1 := (hpC S, hpR T)) rfl rfl rfl rfl (Nat.le_of_ble_eq_true rfl) rfl (m202_ok T) ?_
  rw [h0]
  refine lg_it C K 2 (pc' := 386) (lv' := [(6, .int v), (5, .int 0), (4, .int i), (3, .ref 152), (2, .ref 85), (1, .ref 0), (0, .retAddr 2000)]) (st' := []) (fun _ => rfl) ?_
  refine lg_it C K 4 (pc' := 393) (lv' := [(6, .int v), (5, .int 0), (4, .int i), (3, .ref 152), (2, .ref 85), (1, .ref 0), (0, .retAddr 2000)]) (st' := [.int 0, .ref 152]) (fun _ => rfl) ?_
  refine lg_lald C K (a := 152) (vs := (gL T 8).map Value.long) (v := .long v.toInt64) rfl rfl (by rw [hv]; rfl) ?_
  refine lg_it C K 3 (pc' := 398) (lv' := [(6, .int v), (5, .int 0), (4, .int i), (3, .ref 152), (2, .ref 85), (1, .ref 0), (0, .retAddr 2000)]) (st' := [.int (lg_cmp v.toInt64 v.toInt64)]) (fun _ => rfl) ?_
  refine lg_br C K (t := 403) (f := 401) (b := decide (lg_cmp v.toInt64 v.toInt64 = 0)) (lv' := [(6, .int v), (5, .int 0), (4, .int i), (3, .ref 152), (2, .ref 85), (1, .ref 0), (0, .retAddr 2000)]) (st' := []) rfl (fun _ => rfl) (fun _ => ?_) (fun h => absurd (decide_eq_true (cmp_self v.toInt64)) (by rw [h]; decide))
  refine lg_it C K 1 (pc' := 515) (lv' := [(6, .int v), (5, .int 0), (4, .int i), (3, .ref 152), (2, .ref 85), (1, .ref 0), (0, .retAddr 2000)]) (st' := []) (fun _ => rfl) ?_
  exact lg_lw (fun q hq => by simp only [bsL, List.mem_cons, List.not_mem_nil, or_false] at hq ⊢; rcases hq with h | h | h | h | h <;> simp [h]) k
theorem lt_8_1 (C : lwC p R s m args meth c V G0) (K : lwK Kc Ks) {v : Int32} (h0 : gI T 0 = 1) (k : LG p l e R s m args below meth c Q V G0 Kc Ks (515, bsL i, [], (hpC S, hpR T))) : LG p l e R s m args below meth c Q V G0 Kc Ks (375, [(6, .int v), (5, .int 1), (4, .int i), (3, .ref 152), (2, .ref 85), (1, .ref 0), (0, .retAddr 2000)], [], (hpC S, hpR T)) := by
  refine lg_it C K 1 (pc' := 376) (lv' := [(6, .int v), (5, .int 1), (4, .int i), (3, .ref 152), (2, .ref 85), (1, .ref 0), (0, .retAddr 2000)]) (st' := [.ref 85]) (fun _ => rfl) ?_
  refine lg_call C K (b := 85) (As := []) (st := []) (r1 := some (.int (gI T 0))) (H1 := (hpC S, hpR T)) rfl rfl rfl rfl (Nat.le_of_ble_eq_true rfl) rfl (m202_ok T) ?_
  rw [h0]
  refine lg_it C K 2 (pc' := 386) (lv' := [(6, .int v), (5, .int 1), (4, .int i), (3, .ref 152), (2, .ref 85), (1, .ref 0), (0, .retAddr 2000)]) (st' := []) (fun _ => rfl) ?_
  refine lg_it C K 2 (pc' := 403) (lv' := [(6, .int v), (5, .int 1), (4, .int i), (3, .ref 152), (2, .ref 85), (1, .ref 0), (0, .retAddr 2000)]) (st' := []) (fun _ => rfl) ?_
  refine lg_it C K 1 (pc' := 515) (lv' := [(6, .int v), (5, .int 1), (4, .int i), (3, .ref 152), (2, .ref 85), (1, .ref 0), (0, .retAddr 2000)]) (st' := []) (fun _ => rfl) ?_
  exact lg_lw (fun q hq => by simp only [bsL, List.mem_cons, List.not_mem_nil, or_false] at hq ⊢; rcases hq with h | h | h | h | h <;> simp [h]) k
theorem lt_9_0 (C : lwC p R s m args meth c V G0) (K : lwK Kc Ks) {v : Int32} (hv : gL T 8 = [v.toInt64]) (h0 : gI T 0 = 0) (k : LG p l e R s m args below meth c Q V G0 Kc Ks (515, bsL i, [], (hpC S, hpR T))) : LG p l e R s m args below meth c Q V G0 Kc Ks (459, [(6, .int v), (5, .int 0), (4, .int i), (3, .ref 152), (2, .ref 85), (1, .ref 0), (0, .retAddr 2000)], [], (hpC S, hpR T)) := by
  refine lg_it C K 1 (pc' := 460) (lv' := [(6, .int v), (5, .int 0), (4, .int i), (3, .ref 152), (2, .ref 85), (1, .ref 0), (0, .retAddr 2000)]) (st' := [.ref 85]) (fun _ => rfl) ?_
  refine lg_call C K (b := 85) (As := []) (st := []) (r1 := some (.int (gI T 0))) (H1 := (hpC S, hpR T)) rfl rfl rfl rfl (Nat.le_of_ble_eq_true rfl) rfl (m202_ok T) ?_
  rw [h0]
  refine lg_it C K 2 (pc' := 470) (lv' := [(6, .int v), (5, .int 0), (4, .int i), (3, .ref 152), (2, .ref 85), (1, .ref 0), (0, .retAddr 2000)]) (st' := []) (fun _ => rfl) ?_
  refine lg_it C K 4 (pc' := 477) (lv' := [(6, .int v), (5, .int 0), (4, .int i), (3, .ref 152), (2, .ref 85), (1, .ref 0), (0, .retAddr 2000)]) (st' := [.int 0, .ref 152]) (fun _ => rfl) ?_
  refine lg_lald C K (a := 152) (vs := (gL T 8).map Value.long) (v := .long v.toInt64) rfl rfl (by rw [hv]; rfl) ?_
  refine lg_it C K 3 (pc' := 482) (lv' := [(6, .int v), (5, .int 0), (4, .int i), (3, .ref 152), (2, .ref 85), (1, .ref 0), (0, .retAddr 2000)]) (st' := [.int (lg_cmp v.toInt64 v.toInt64)]) (fun _ => rfl) ?_
  refine lg_br C K (t := 487) (f := 485) (b := decide (lg_cmp v.toInt64 v.toInt64 = 0)) (lv' := [(6, .int v), (5, .int 0), (4, .int i), (3, .ref 152), (2, .ref 85), (1, .ref 0), (0, .retAddr 2000)]) (st' := []) rfl (fun _ => rfl) (fun _ => ?_) (fun h => absurd (decide_eq_true (cmp_self v.toInt64)) (by rw [h]; decide))
  refine lg_it C K 1 (pc' := 515) (lv' := [(6, .int v), (5, .int 0), (4, .int i), (3, .ref 152), (2, .ref 85), (1, .ref 0), (0, .retAddr 2000)]) (st' := []) (fun _ => rfl) ?_
  exact lg_lw (fun q hq => by simp only [bsL, List.mem_cons, List.not_mem_nil, or_false] at hq ⊢; rcases hq with h | h | h | h | h <;> simp [h]) k
theorem lt_9_1 (C : lwC p R s m args meth c V G0) (K : lwK Kc Ks) {v : Int32} (h0 : gI T 0 = 1) (k : LG p l e R s m args below meth c Q V G0 Kc Ks (515, bsL i, [], (hpC S, hpR T))) : LG p l e R s m args below meth c Q V G0 Kc Ks (459, [(6, .int v), (5, .int 1), (4, .int i), (3, .ref 152), (2, .ref 85), (1, .ref 0), (0, .retAddr 2000)], [], (hpC S, hpR T)) := by
  refine lg_it C K 1 (pc' := 460) (lv' := [(6, .int v), (5, .int 1), (4, .int i), (3, .ref 152), (2, .ref 85), (1, .ref 0), (0, .retAddr 2000)]) (st' := [.ref 85]) (fun _ => rfl) ?_
  refine lg_call C K (b := 85) (As := []) (st := []) (r1 := some (.int (gI T 0))) (H1 := (hpC S, hpR T)) rfl rfl rfl rfl (Nat.le_of_ble_eq_true rfl) rfl (m202_ok T) ?_
  rw [h0]
  refine lg_it C K 2 (pc' := 470) (lv' := [(6, .int v), (5, .int 1), (4, .int i), (3, .ref 152), (2, .ref 85), (1, .ref 0), (0, .retAddr 2000)]) (st' := []) (fun _ => rfl) ?_
  refine lg_it C K 2 (pc' := 487) (lv' := [(6, .int v), (5, .int 1), (4, .int i), (3, .ref 152), (2, .ref 85), (1, .ref 0), (0, .retAddr 2000)]) (st' := []) (fun _ => rfl) ?_
  refine lg_it C K 1 (pc' := 515) (lv' := [(6, .int v), (5, .int 1), (4, .int i), (3, .ref 152), (2, .ref 85), (1, .ref 0), (0, .retAddr 2000)]) (st' := []) (fun _ => rfl) ?_
  exact lg_lw (fun q hq => by simp only [bsL, List.mem_cons, List.not_mem_nil, or_false] at hq ⊢; rcases hq with h | h | h | h | h <;> simp [h]) k
theorem lc_8 (C : lwC p R s m args meth c V G0) (K : lwK (Kc + 1) (Ks + 16)) (hK : KI S T n) (hO : lwOut p l e R s m args below meth c Q V G0) (q1 : scH V (i + 1)) (k : ∀ S1 T1, KI S1 T1 (n + 1) → LG p l e R s m args below meth c Q V G0 (Kc + 1) (Ks + 16) (515, bsL i, [], (hpC S1, hpR T1))) : LG p l e R s m args below meth c Q V G0 Kc Ks (350, bsL i, [], (hpC S, hpR T)) := by
  have K0 : lwK Kc Ks := ⟨Nat.le_trans (Nat.le_succ _) K.1, Nat.le_trans (Nat.le_add_right _ 16) K.2⟩
  obtain ⟨f1, f2⟩ := ref_out hK (scA V (i + 1))
  refine lg_it C K0 1 (pc' := 351) (lv' := bsL i) (st' := [.ref 0]) (fun _ => rfl) ?_
  refine lg_it C K0 4 (pc' := 356) (lv' := bsL i) (st' := [.int (i + 1), .retAddr 2000, .ref 0]) (fun _ => rfl) ?_
  refine lg_scr C K0 rfl q1.1 q1.2 ?_
  show LG p l e R s m args below meth c Q V G0 Kc Ks (357, bsL i, [.int (scA V (i + 1)), .ref 0], _)
  refine lg_it C K0 1 (pc' := 358) (lv' := bsL i) (st' := [.ref 152, .int (scA V (i + 1)), .ref 0]) (fun _ => rfl) ?_
  refine hO Kc Ks S T (scA V (i + 1)) (bsL i) K hK.2.2.2.1.2.1 hK.2.2.2.2.2.2.1 (fun q => ?_) (fun q => ?_)
  · have e2 : m231 (scA V (i + 1)) (sL T 8 [(xsAt (gR S 16) (scA V (i + 1))).toInt64]) = some (xsAt (gR S 16) (scA V (i + 1)), sI (sL T 8 [(xsAt (gR S 16) (scA V (i + 1))).toInt64]) 0 0) := (ref_out (ki_out hK rfl) (scA V (i + 1))).1 q
    refine lg_it C K 1 (pc' := 363) (lv' := ((5, .int 0) :: bsL i)) (st' := []) (fun _ => rfl) ?_
    refine lg_it C K 1 (pc' := 364) (lv' := ((5, .int 0) :: bsL i)) (st' := [.ref 85]) (fun _ => rfl) ?_
    refine lg_it C K 4 (pc' := 369) (lv' := ((5, .int 0) :: bsL i)) (st' := [.int (i + 1), .retAddr 2000, .ref 85]) (fun _ => rfl) ?_
    refine lg_scr C K rfl q1.1 q1.2 ?_
    show LG p l e R s m args below meth c Q V G0 (Kc + 1) (Ks + 16) (370, ((5, .int 0) :: bsL i), [.int (scA V (i + 1)), .ref 85], _)
    refine lg_call C K (b := 85) (As := [.int (scA V (i + 1))]) (st := []) (r1 := some (.int (xsAt (gR S 16) (scA V (i + 1))))) (H1 := (hpC S, hpR (sI (sL T 8 [(xsAt (gR S 16) (scA V (i + 1))).toInt64]) 0 0))) rfl rfl rfl rfl (Nat.le_of_ble_eq_true rfl) rfl (m231_ok e2) ?_
    refine lg_it C K 1 (pc' := 375) (lv' := ((6, .int (xsAt (gR S 16) (scA V (i + 1)))) :: (5, .int 0) :: bsL i)) (st' := []) (fun _ => rfl) ?_
    exact lt_8_0 C K rfl rfl (k _ _ (ki_0 (ki_out hK rfl) 0))
  · have e2 := f2 q
    refine lg_it C K 1 (pc' := 363) (lv' := ((5, .int 1) :: bsL i)) (st' := []) (fun _ => rfl) ?_
    refine lg_it C K 1 (pc' := 364) (lv' := ((5, .int 1) :: bsL i)) (st' := [.ref 85]) (fun _ => rfl) ?_
    refine lg_it C K 4 (pc' := 369) (lv' := ((5, .int 1) :: bsL i)) (st' := [.int (i + 1), .retAddr 2000, .ref 85]) (fun _ => rfl) ?_
    refine lg_scr C K rfl q1.1 q1.2 ?_
    show LG p l e R s m args below meth c Q V G0 (Kc + 1) (Ks + 16) (370, ((5, .int 1) :: bsL i), [.int (scA V (i + 1)), .ref 85], _)
    refine lg_call C K (b := 85) (As := [.int (scA V (i + 1))]) (st := []) (r1 := some (.int 0)) (H1 := (hpC S, hpR (sI T 0 1))) rfl rfl rfl rfl (Nat.le_of_ble_eq_true rfl) rfl (m231_ok e2) ?_
    refine lg_it C K 1 (pc' := 375) (lv' := ((6, .int 0) :: (5, .int 1) :: bsL i)) (st' := []) (fun _ => rfl) ?_
    exact lt_8_1 C K rfl (k _ _ (ki_0 hK 1))
def scB (V : xmV) (j : Int32) : Bool := !(decide (scA V j = 0))
theorem lb_1 (C : lwC p R s m args meth c V G0) (K : lwK Kc Ks) {H : xHp} {lv : xmL} {st : List Value} {x : Int32} (k : LG p l e R s m args below meth c Q V G0 Kc Ks (427, lv, .int (b01 (!(decide (x = 0)))) :: st, H)) : LG p l e R s m args below meth c Q V G0 Kc Ks (419, lv, .int x :: st, H) := by
  refine lg_br C K (t := 426) (f := 422) (b := decide (x = 0)) (lv' := lv) (st' := st) rfl (fun _ => rfl) (fun h => ?_) (fun h => ?_)
  · rw [h] at k
    exact lg_it C K 1 (pc' := 427) (lv' := lv) (st' := .int 0 :: st) (fun _ => rfl) k
  · rw [h] at k
    exact lg_it C K 2 (pc' := 427) (lv' := lv) (st' := .int 1 :: st) (fun _ => rfl) k
theorem lb_2 (C : lwC p R s m args meth c V G0) (K : lwK Kc Ks) {H : xHp} {lv : xmL} {st : List Value} {x : Int32} (k : LG p l e R s m args below meth c Q V G0 Kc Ks (454, lv, .int (b01 (!(decide (x = 0)))) :: st, H)) : LG p l e R s m args below meth c Q V G0 Kc Ks (446, lv, .int x :: st, H) := by
  refine lg_br C K (t := 453) (f := 449) (b := decide (x = 0)) (lv' := lv) (st' := st) rfl (fun _ => rfl) (fun h => ?_) (fun h => ?_)
  · rw [h] at k
    exact lg_it C K 1 (pc' := 454) (lv' := lv) (st' := .int 0 :: st) (fun _ => rfl) k
  · rw [h] at k
    exact lg_it C K 2 (pc' := 454) (lv' := lv) (st' := .int 1 :: st) (fun _ => rfl) k
theorem inL_le (h : KI S T n) (b : Bool) : (inL S b).length ≤ 64 := by
  cases b
  · exact h.2.1.1
  · exact h.2.2.1.1
theorem lc_9 (C : lwC p R s m args meth c V G0) (K : lwK (Kc + 1) (Ks + 16)) (hK : KI S T n) (hI : lwIn p l e R s m args below meth c Q V G0) (q1 : scH V (i + 1)) (q2 : scH V (i + 2)) (k : ∀ S1 T1, KI S1 T1 (n + 1) → LG p l e R s m args below meth c Q V G0 (Kc + 1) (Ks + 16) (515, bsL i, [], (hpC S1, hpR T1))) : LG p l e R s m args below meth c Q V G0 Kc Ks (406, bsL i, [], (hpC S, hpR T)) := by
  have K0 : lwK Kc Ks := ⟨Nat.le_trans (Nat.le_succ _) K.1, Nat.le_trans (Nat.le_add_right _ 16) K.2⟩
  obtain ⟨f1, f2⟩ := ref_in hK (scA V (i + 1)) (scB V (i + 2))
  refine lg_it C K0 1 (pc' := 407) (lv' := bsL i) (st' := [.ref 0]) (fun _ => rfl) ?_
  refine lg_it C K0 4 (pc' := 412) (lv' := bsL i) (st' := [.int (i + 1), .retAddr 2000, .ref 0]) (fun _ => rfl) ?_
  refine lg_scr C K0 rfl q1.1 q1.2 ?_
  show LG p l e R s m args below meth c Q V G0 Kc Ks (413, bsL i, [.int (scA V (i + 1)), .ref 0], _)
  refine lg_it C K0 4 (pc' := 418) (lv' := bsL i) (st' := [.int (i + 2), .retAddr 2000, .int (scA V (i + 1)), .ref 0]) (fun _ => rfl) ?_
  refine lg_scr C K0 rfl q2.1 q2.2 ?_
  show LG p l e R s m args below meth c Q V G0 Kc Ks (419, bsL i, [.int (scA V (i + 2)), .int (scA V (i + 1)), .ref 0], _)
  refine lb_1 C K0 ?_
  show LG p l e R s m args below meth c Q V G0 Kc Ks (427, bsL i, [.int (b01 (scB V (i + 2))), .int (scA V (i + 1)), .ref 0], _)
  refine lg_it C K0 1 (pc' := 428) (lv' := bsL i) (st' := [.ref 152, .int (b01 (scB V (i + 2))), .int (scA V (i + 1)), .ref 0]) (fun _ => rfl) ?_
  refine hI Kc Ks S T (scA V (i + 1)) (scB V (i + 2)) (bsL i) K (inL_le hK _) hK.2.2.2.2.2.2.1 (fun q => ?_) (fun q => ?_)
  · have e2 : m232 (scA V (i + 1)) (scB V (i + 2)) (sL T 8 [(xsAt (inL S (scB V (i + 2))) (scA V (i + 1))).toInt64]) = some (xsAt (inL S (scB V (i + 2))) (scA V (i + 1)), sI (sL T 8 [(xsAt (inL S (scB V (i + 2))) (scA V (i + 1))).toInt64]) 0 0) := (ref_in (ki_out hK rfl) (scA V (i + 1)) (scB V (i + 2))).1 q
    refine lg_it C K 1 (pc' := 433) (lv' := ((5, .int 0) :: bsL i)) (st' := []) (fun _ => rfl) ?_
    refine lg_it C K 1 (pc' := 434) (lv' := ((5, .int 0) :: bsL i)) (st' := [.ref 85]) (fun _ => rfl) ?_
    refine lg_it C K 4 (pc' := 439) (lv' := ((5, .int 0) :: bsL i)) (st' := [.int (i + 1), .retAddr 2000, .ref 85]) (fun _ => rfl) ?_
    refine lg_scr C K rfl q1.1 q1.2 ?_
    show LG p l e R s m args below meth c Q V G0 (Kc + 1) (Ks + 16) (440, ((5, .int 0) :: bsL i), [.int (scA V (i + 1)), .ref 85], _)
    refine lg_it C K 4 (pc' := 445) (lv' := ((5, .int 0) :: bsL i)) (st' := [.int (i + 2), .retAddr 2000, .int (scA V (i + 1)), .ref 85]) (fun _ => rfl) ?_
    refine lg_scr C K rfl q2.1 q2.2 ?_
    show LG p l e R s m args below meth c Q V G0 (Kc + 1) (Ks + 16) (446, ((5, .int 0) :: bsL i), [.int (scA V (i + 2)), .int (scA V (i + 1)), .ref 85], _)
    refine lb_2 C K ?_
    show LG p l e R s m args below meth c Q V G0 (Kc + 1) (Ks + 16) (454, ((5, .int 0) :: bsL i), [.int (b01 (scB V (i + 2))), .int (scA V (i + 1)), .ref 85], _)
    refine lg_call C K (b := 85) (As := [.int (scA V (i + 1)), .int (b01 (scB V (i + 2)))]) (st := []) (r1 := some (.int (xsAt (inL S (scB V (i + 2))) (scA V (i + 1))))) (H1 := (hpC S, hpR (sI (sL T 8 [(xsAt (inL S (scB V (i + 2))) (scA V (i + 1))).toInt64]) 0 0))) rfl rfl rfl rfl (Nat.le_of_ble_eq_true rfl) rfl (m232_ok e2) ?_
    refine lg_it C K 1 (pc' := 459) (lv' := ((6, .int (xsAt (inL S (scB V (i + 2))) (scA V (i + 1)))) :: (5, .int 0) :: bsL i)) (st' := []) (fun _ => rfl) ?_
    exact lt_9_0 C K rfl rfl (k _ _ (ki_0 (ki_out hK rfl) 0))
  · have e2 := f2 q
    refine lg_it C K 1 (pc' := 433) (lv' := ((5, .int 1) :: bsL i)) (st' := []) (fun _ => rfl) ?_
    refine lg_it C K 1 (pc' := 434) (lv' := ((5, .int 1) :: bsL i)) (st' := [.ref 85]) (fun _ => rfl) ?_
    refine lg_it C K 4 (pc' := 439) (lv' := ((5, .int 1) :: bsL i)) (st' := [.int (i + 1), .retAddr 2000, .ref 85]) (fun _ => rfl) ?_
    refine lg_scr C K rfl q1.1 q1.2 ?_
    show LG p l e R s m args below meth c Q V G0 (Kc + 1) (Ks + 16) (440, ((5, .int 1) :: bsL i), [.int (scA V (i + 1)), .ref 85], _)
    refine lg_it C K 4 (pc' := 445) (lv' := ((5, .int 1) :: bsL i)) (st' := [.int (i + 2), .retAddr 2000, .int (scA V (i + 1)), .ref 85]) (fun _ => rfl) ?_
    refine lg_scr C K rfl q2.1 q2.2 ?_
    show LG p l e R s m args below meth c Q V G0 (Kc + 1) (Ks + 16) (446, ((5, .int 1) :: bsL i), [.int (scA V (i + 2)), .int (scA V (i + 1)), .ref 85], _)
    refine lb_2 C K ?_
    show LG p l e R s m args below meth c Q V G0 (Kc + 1) (Ks + 16) (454, ((5, .int 1) :: bsL i), [.int (b01 (scB V (i + 2))), .int (scA V (i + 1)), .ref 85], _)
    refine lg_call C K (b := 85) (As := [.int (scA V (i + 1)), .int (b01 (scB V (i + 2)))]) (st := []) (r1 := some (.int 0)) (H1 := (hpC S, hpR (sI T 0 1))) rfl rfl rfl rfl (Nat.le_of_ble_eq_true rfl) rfl (m232_ok e2) ?_
    refine lg_it C K 1 (pc' := 459) (lv' := ((6, .int 0) :: (5, .int 1) :: bsL i)) (st' := []) (fun _ => rfl) ?_
    exact lt_9_1 C K rfl (k _ _ (ki_0 hK 1))
end LawLoop
