def okMem (j i : Nat) (w : Cond) : Bool := decide ((zTab j)[i]? = some w) && goodWord w
theorem zTab_in (j : Nat) : ∀ w ∈ zTab j, w ∈ lw_tbl := by
  intro w h
  unfold zTab at h
  simp only [cond_eq_ite] at h
  (repeat' split at h) <;> simp [lw_tbl, tables_1, h]
theorem okMem_ok {j i : Nat} {w : Cond} (h : okMem j i w = true) : w ∈ xmTs := by
  simp only [okMem, Bool.and_eq_true, decide_eq_true_eq] at h
  exact List.mem_filter.mpr ⟨zTab_in j w (List.mem_of_getElem? h.1), h.2⟩
theorem okAt {j i : Nat} {w : Cond} (h : (zTab j)[i]? = some w) : w ∈ lw_tbl := zTab_in j w (List.mem_of_getElem? h)
/-- a number of 'vwCl' -/
def okCls (ci : Nat) : Bool := match vwCl[ci]? with
  | some q => decide ((zF ci).length = q.2.2) && ((((u_ws q.1 q.2.1 q.2.2).zip (zF ci)).all (fun z => okMem z.2.1 z.2.2 z.1)) && (((List.range q.2.2).all (fun k => decide (parseFieldDescriptor (q.2.1 k).2.2.1 = some (xmTyp ci k)))) && (((List.range q.2.2).all (fun a => (List.range q.2.2).all (fun b => decide (a = b) || decide ((q.2.1 a).2.1 ≠ (q.2.1 b).2.1)))) && (okMem ((zI ci).getD 0 0) ((zI ci).getD 1 0) (.instantiable q.1 q.2.2) && (okMem ((zI ci).getD 2 0) ((zI ci).getD 3 0) (.initialized q.1) && (decide (q.2.2 = (xmDef ci).length) && (List.range q.2.2).all (fun j => decide (defaultValue (xmTyp ci j) = vp_V (xmDef ci) j))))))))
  | none => false
theorem zip_mem {α β : Type} : ∀ (l : List α) (m : List β), m.length = l.length → ∀ w ∈ l, ∃ z ∈ l.zip m, z.1 = w := by
  intro l
  induction l with
  | nil => intro m _ w h; cases h
  | cons a l ih =>
    intro m hm w h
    cases m with
    | nil => cases hm
    | cons b m =>
      rcases List.mem_cons.mp h with rfl | h
      · exact ⟨(w, b), List.mem_cons_self, rfl⟩
      · obtain ⟨z, hz, e⟩ := ih m (Nat.succ.inj hm) w h
        exact ⟨z, List.mem_cons_of_mem _ hz, e⟩
theorem okCls_ok {ci : Nat} (h : okCls ci = true) : xmClsOK ci := by
  unfold okCls at h
  split at h
  next q hq =>
    simp only [Bool.and_eq_true, decide_eq_true_eq, List.all_eq_true, List.mem_range, Bool.or_eq_true] at h
    obtain ⟨h0, h1, h2, h3, h4, h5, h6, h7⟩ := h
    refine ⟨q, hq, fun w hw => ?_, h2, fun a ha b hb hab => ?_, okMem_ok h4, okMem_ok h5, h6, h7⟩
    · obtain ⟨z, hz, e⟩ := zip_mem (u_ws q.1 q.2.1 q.2.2) (zF ci) (by rw [h0]; simp [u_ws]) w hw
      rw [← e]
      exact okMem_ok (h1 z hz)
    · rcases h3 a ha b hb with h | h
      · exact absurd h hab
      · exact h
  next => cases h
def okField (own : String) (idx ci fi j n : Nat) : Bool := match vwCl[ci]? with
  | some q => decide (fi < q.2.2) && (match (zTab j)[n]? with
    | some (.fieldLink _ _ _ _ _) => okMem j n (.fieldLink own idx (q.2.1 fi).1 (q.2.1 fi).2.1 (q.2.1 fi).2.2.1)
    | some (.fieldLinkNest _ _ _ _ _ h) => decide ((zTab j)[n]? = some (.fieldLinkNest own idx (q.2.1 fi).1 (q.2.1 fi).2.1 (q.2.1 fi).2.2.1 h))
    | _ => false)
  | none => false
theorem okField_ok {own : String} {idx ci fi j n : Nat} (h : okField own idx ci fi j n = true) : xmFieldOK own idx ci fi := by
  unfold okField at h
  split at h
  next q hq =>
    rw [Bool.and_eq_true, decide_eq_true_eq] at h
    obtain ⟨h1, h2⟩ := h
    refine ⟨q, hq, h1, ?_⟩
    split at h2
    next => exact Or.inl (okMem_ok h2)
    next => exact Or.inr ⟨_, okAt (of_decide_eq_true h2)⟩
    next => cases h2
  next => cases h
def okPut (k idx ci fi j n : Nat) : Bool := match vwCl[ci]? with
  | some q => decide (fi < q.2.2) && (match (zTab j)[n]? with
    | some (.fieldLink _ _ _ _ _) => okMem j n (.fieldLink (xmY k).cls idx (q.2.1 fi).1 (q.2.1 fi).2.1 (q.2.1 fi).2.2.1) && (decide ((q.2.1 fi).2.2.2 = false) || (decide ((q.2.1 fi).2.2.2 = true) && (decide ((xmY k).name = "<init>") && decide ((q.2.1 fi).1 = (xmY k).cls))))
    | some (.fieldLinkNest _ _ _ _ _ h) => decide ((zTab j)[n]? = some (.fieldLinkNest (xmY k).cls idx (q.2.1 fi).1 (q.2.1 fi).2.1 (q.2.1 fi).2.2.1 h)) && decide ((q.2.1 fi).2.2.2 = false)
    | _ => false)
  | none => false
theorem okPut_ok {k idx ci fi j n : Nat} (h : okPut k idx ci fi j n = true) : ∃ q : vw_C, vwCl[ci]? = some q ∧ fi < q.2.2 ∧
      (((q.2.1 fi).2.2.2 = false ∧ Cond.fieldLink (xmY k).cls idx (q.2.1 fi).1 (q.2.1 fi).2.1 (q.2.1 fi).2.2.1 ∈ xmTs) ∨
       ((q.2.1 fi).2.2.2 = false ∧ ∃ host : String, Cond.fieldLinkNest (xmY k).cls idx (q.2.1 fi).1 (q.2.1 fi).2.1 (q.2.1 fi).2.2.1 host ∈ lw_tbl) ∨
       ((q.2.1 fi).2.2.2 = true ∧ (xmY k).name = "<init>" ∧ (q.2.1 fi).1 = (xmY k).cls ∧ Cond.fieldLink (xmY k).cls idx (q.2.1 fi).1 (q.2.1 fi).2.1 (q.2.1 fi).2.2.1 ∈ xmTs)) := by
  unfold okPut at h
  split at h
  next q hq =>
    rw [Bool.and_eq_true, decide_eq_true_eq] at h
    obtain ⟨h1, h2⟩ := h
    refine ⟨q, hq, h1, ?_⟩
    split at h2
    next =>
      rw [Bool.and_eq_true, Bool.or_eq_true] at h2
      obtain ⟨h3, h4⟩ := h2
      rcases h4 with h4 | h4
      · exact Or.inl ⟨of_decide_eq_true h4, okMem_ok h3⟩
      · rw [Bool.and_eq_true, Bool.and_eq_true] at h4
        exact Or.inr (Or.inr ⟨of_decide_eq_true h4.1, of_decide_eq_true h4.2.1, of_decide_eq_true h4.2.2, okMem_ok h3⟩)
    next =>
      rw [Bool.and_eq_true] at h2
      exact Or.inr (Or.inl ⟨of_decide_eq_true h2.2, _, okAt (of_decide_eq_true h2.1)⟩)
    next => cases h2
  next => cases h
/-- a method as one that is called: [code, code, initialized, initialized, way, word, word, selects, selects] -/
def okTo (j : Nat) : Bool := okMem ((zH j).getD 0 0) ((zH j).getD 1 0) (.code (xmY j) (xmB j) (xmML j) (xmRt j)) && (okMem ((zH j).getD 2 0) ((zH j).getD 3 0) (.initialized (xmY j).cls) && (decide ((xmY j).cls ≠ "java/lang/invoke/MethodHandle") && (decide ((xmY j).cls ≠ "java/lang/invoke/VarHandle") && (match (zH j).getD 4 0 with
  | 0 => okMem ((zH j).getD 5 0) ((zH j).getD 6 0) (.static (xmY j))
  | 1 => okMem ((zH j).getD 5 0) ((zH j).getD 6 0) (.instanceMethod (xmY j)) && (decide (xmRt j = none) && decide ((xmY j).name = "<init>"))
  | _ => okMem ((zH j).getD 5 0) ((zH j).getD 6 0) (.instanceMethod (xmY j)) && okMem ((zH j).getD 7 0) ((zH j).getD 8 0) (.selects (xmY j).cls (xmY j) (xmY j))))))
theorem okTo_ok {j : Nat} (h : okTo j = true) : xmCode j ∧ Cond.initialized (xmY j).cls ∈ xmTs ∧ ((xmY j).cls ≠ "java/lang/invoke/MethodHandle" ∧ (xmY j).cls ≠ "java/lang/invoke/VarHandle") ∧ ((zH j).getD 4 0 = 0 → Cond.static (xmY j) ∈ xmTs) ∧ ((zH j).getD 4 0 = 1 → Cond.instanceMethod (xmY j) ∈ xmTs ∧ xmRt j = none ∧ (xmY j).name = "<init>") ∧ ((zH j).getD 4 0 = 2 → Cond.instanceMethod (xmY j) ∈ xmTs ∧ Cond.selects (xmY j).cls (xmY j) (xmY j) ∈ xmTs) := by
  unfold okTo at h
  rw [Bool.and_eq_true, Bool.and_eq_true, Bool.and_eq_true, Bool.and_eq_true] at h
  obtain ⟨h1, h2, h3, h4, h5⟩ := h
  refine ⟨okMem_ok h1, okMem_ok h2, ⟨of_decide_eq_true h3, of_decide_eq_true h4⟩, fun e => ?_, fun e => ?_, fun e => ?_⟩
  · rw [e] at h5
    exact okMem_ok h5
  · rw [e] at h5
    simp only [Bool.and_eq_true, decide_eq_true_eq] at h5
    exact ⟨okMem_ok h5.1, h5.2⟩
  · rw [e] at h5
    simp only [Bool.and_eq_true] at h5
    exact ⟨okMem_ok h5.1, okMem_ok h5.2⟩
def okCall (k j n : Nat) : Bool := decide (j + 1 < xmCount) && (decide (xmFr j + 1 ≤ xmFr k) && (decide (19 + xmML j + xmLo j ≤ xmLo k) && decide ((parseMethodDescriptor (xmY j).desc).map (fun d => d.parameters.length) = some n)))
def okLink (own : String) (idx j x n : Nat) : Bool := match (zTab x)[n]? with
  | some (.methodLink _ _ _) => okMem x n (.methodLink own idx (xmY j))
  | some (.methodLinkNest _ _ _ h) => decide ((zTab x)[n]? = some (.methodLinkNest own idx (xmY j) h))
  | _ => false
theorem okLink_ok {own : String} {idx j x n : Nat} (h : okLink own idx j x n = true) : Cond.methodLink own idx (xmY j) ∈ xmTs ∨ ∃ host : String, Cond.methodLinkNest own idx (xmY j) host ∈ lw_tbl := by
  unfold okLink at h
  split at h
  next => exact Or.inl (okMem_ok h)
  next => exact Or.inr ⟨_, okAt (of_decide_eq_true h)⟩
  next => cases h
def okB (k pc : Nat) (i : xmI) : Bool := decide (decode (xmB k) pc = .ok (i.1, i.2.1)) && (match i.1 with
  | .getfield idx => decide (i.2.1 = 3) && (bif Nat.beq (xmN i 0) 2000 then okMem (xmN i 2) (xmN i 3) (.fieldLink (xmY k).cls idx "java/lang/String" "value" "[B") else bif Nat.beq (xmN i 0) 2001 then okMem (xmN i 2) (xmN i 3) (.fieldLink (xmY k).cls idx "java/lang/String" "coder" "B") else decide (xmN i 0 < 12) && okField (xmY k).cls idx (xmN i 0) (xmN i 1) (xmN i 2) (xmN i 3))
  | .getstatic idx => decide (i.2.1 = 3) && (bif Nat.beq (xmN i 0) 2002 then okMem (xmN i 2) (xmN i 3) (.fieldLink (xmY k).cls idx "java/lang/String" "COMPACT_STRINGS" "Z") else decide (xmN i 0 = 2003) && okMem (xmN i 2) (xmN i 3) (.fieldLink (xmY k).cls idx "jdk/internal/util/Preconditions" "SIOOBE_FORMATTER" "Ljava/util/function/BiFunction;"))
  | .putfield idx => decide (i.2.1 = 3) && (decide (xmN i 0 < 12) && okPut k idx (xmN i 0) (xmN i 1) (xmN i 2) (xmN i 3))
  | .new idx => decide (i.2.1 = 3) && (decide (xmN i 0 < 12) && (match vwCl[xmN i 0]? with | some q => okMem (xmN i 1) (xmN i 2) (.classLink (xmY k).cls idx q.1) | none => false))
  | .newarray at1 => decide (i.2.1 = 2) && (decide (xmN i 0 = 1 ∨ xmN i 0 = 2 ∨ xmN i 0 = 3 ∨ xmN i 0 = 4) && (decide (newarray.typeOf at1 = xmTy (xmN i 0)) && okMem (xmN i 1) (xmN i 2) (.arrayClass (newarray.typeOf at1))))
  | .invokestatic idx => decide (i.2.1 = 3) && (bif Nat.beq (xmN i 0) 1001 then decide (1 ≤ xmFr k) && (decide (30 ≤ xmLo k) && (okMem (xmN i 1) (xmN i 2) (.methodLink (xmY k).cls idx Lib.Math.min.name) && (okMem (xmN i 3) (xmN i 4) (.static Lib.Math.min.name) && (okMem (xmN i 5) (xmN i 6) (.initialized "java/lang/Math") && okMem (xmN i 7) (xmN i 8) (.code Lib.Math.min.name Lib.Math.min.code 2 (some .int))))))
      else bif Nat.beq (xmN i 0) 1004 then decide (1 ≤ xmFr k) && (decide (30 ≤ xmLo k) && (okMem (xmN i 1) (xmN i 2) (.methodLink (xmY k).cls idx Lib.Math.max.name) && (okMem (xmN i 3) (xmN i 4) (.static Lib.Math.max.name) && (okMem (xmN i 5) (xmN i 6) (.initialized "java/lang/Math") && okMem (xmN i 7) (xmN i 8) (.code Lib.Math.max.name Lib.Math.max.code 2 (some .int))))))
      else bif Nat.beq (xmN i 0) 1002 then decide (1 ≤ xmFr k) && (decide (30 ≤ xmLo k) && (okMem (xmN i 1) (xmN i 2) (.methodLink (xmY k).cls idx arraycopyName) && (okMem (xmN i 3) (xmN i 4) (.native arraycopyName) && (okMem (xmN i 5) (xmN i 6) (.static arraycopyName) && okMem (xmN i 7) (xmN i 8) (.initialized "java/lang/System")))))
      else okCall k (xmN i 0) (xmN i 1) && (okMem (xmN i 3) (xmN i 4) (.methodLink (xmY k).cls idx (xmY (xmN i 0))) && decide ((zH (xmN i 0)).getD 4 0 = 0)))
  | .invokevirtual idx => decide (i.2.1 = 3) && (okCall k (xmN i 0) (xmN i 1) && (okMem (xmN i 3) (xmN i 4) (.methodLink (xmY k).cls idx (xmY (xmN i 0))) && (decide ((zH (xmN i 0)).getD 4 0 = 2) && (bif Nat.beq (xmN i 2) 99 then decide ((xmY (xmN i 0)).cls = "java/lang/String") else decide (xmN i 2 < 99) && (match vwCl[xmN i 2]? with | some q => decide (q.1 = (xmY (xmN i 0)).cls) | none => false)))))
  | .invokespecial idx => decide (i.2.1 = 3) && (bif Nat.beq (xmN i 0) 1000 then decide (1 ≤ xmFr k) && (decide (20 ≤ xmLo k) && (okMem (xmN i 1) (xmN i 2) (.methodLink (xmY k).cls idx Lib.objectInit) && (okMem (xmN i 3) (xmN i 4) (.instanceMethod Lib.objectInit) && okMem (xmN i 5) (xmN i 6) (.code Lib.objectInit ⟨#[0xb1]⟩ 1 none)))) else okCall k (xmN i 0) (xmN i 1) && (okLink (xmY k).cls idx (xmN i 0) (xmN i 3) (xmN i 4) && decide ((zH (xmN i 0)).getD 4 0 = 1)))
  | .ldc idx => decide (i.2.1 = 2) && (bif Nat.beq (i.2.2.getD 3 0) 1 then decide (i.2.2.headD 0 < zN) && (decide ((zS (i.2.2.headD 0)).1 = (xmY k).cls) && decide ((zS (i.2.2.headD 0)).2.1 = idx)) else okMem (xmN i 1) (xmN i 2) (.constant (xmY k).cls idx (nI (i.2.2.headD 0))))
  | .ldc2_w idx => decide (i.2.1 = 3) && okMem (xmN i 1) (xmN i 2) (.constantLong (xmY k).cls idx (lN (i.2.2.headD 0)))
  | ins => (xmSwi ins || decide (i.2.1 = xmLen ins)) && xmNum (xmML k) pc i)
theorem okCall_ok {k j n : Nat} (hT : ∀ j, j + 1 < xmCount → okTo j = true) (h : okCall k j n = true) : okTo j = true ∧ xmToOK k j n := by
  unfold okCall at h
  rw [Bool.and_eq_true, Bool.and_eq_true, Bool.and_eq_true] at h
  obtain ⟨h1, h2, h3, h4⟩ := h
  have ht := hT j (of_decide_eq_true h1)
  have h5 := okTo_ok ht
  exact ⟨ht, h5.1, of_decide_eq_true h2, of_decide_eq_true h3, h5.2.1, h5.2.2.1.1, h5.2.2.1.2, of_decide_eq_true h4⟩
set_option maxHeartbeats 4000000 in
theorem okB_ok (hC : ∀ ci, ci < 12 → okCls ci = true) (hT : ∀ j, j + 1 < xmCount → okTo j = true) {k pc : Nat} {i : xmI} (h : okB k pc i = true) : xmOK k pc i := by
  unfold okB at h
  rw [Bool.and_eq_true] at h
  obtain ⟨hd, h⟩ := h
  refine ⟨of_decide_eq_true hd, ?_⟩
  obtain ⟨ins, len, aux⟩ := i
  cases ins
  case getfield idx =>
    rw [Bool.and_eq_true, decide_eq_true_eq] at h
    obtain ⟨h1, h2⟩ := h
    refine ⟨h1, ?_⟩
    cases hb : Nat.beq (xmN (ClassFile.Instr.getfield idx, len, aux) 0) 2000 with
    | true =>
      rw [hb] at h2
      exact Or.inr (Or.inl ⟨Nat.eq_of_beq_eq_true hb, okMem_ok h2⟩)
    | false =>
      rw [hb] at h2
      cases hb2 : Nat.beq (xmN (ClassFile.Instr.getfield idx, len, aux) 0) 2001 with
      | true =>
        rw [hb2] at h2
        exact Or.inr (Or.inr ⟨Nat.eq_of_beq_eq_true hb2, okMem_ok h2⟩)
      | false =>
        rw [hb2] at h2
        simp only [cond_false, Bool.and_eq_true, decide_eq_true_eq] at h2
        exact Or.inl ⟨by omega, okCls_ok (hC _ h2.1), okField_ok h2.2⟩
  case getstatic idx =>
    rw [Bool.and_eq_true, decide_eq_true_eq] at h
    obtain ⟨h1, h2⟩ := h
    refine ⟨h1, ?_⟩
    cases hb : Nat.beq (xmN (ClassFile.Instr.getstatic idx, len, aux) 0) 2002 with
    | true =>
      rw [hb] at h2
      exact Or.inl ⟨Nat.eq_of_beq_eq_true hb, okMem_ok h2⟩
    | false =>
      rw [hb] at h2
      simp only [cond_false, Bool.and_eq_true, decide_eq_true_eq] at h2
      exact Or.inr ⟨h2.1, okMem_ok h2.2⟩
  case putfield idx =>
    simp only [Bool.and_eq_true, decide_eq_true_eq] at h
    exact ⟨h.1, okCls_ok (hC _ h.2.1), okPut_ok h.2.2⟩
  case new idx =>
    simp only [Bool.and_eq_true, decide_eq_true_eq] at h
    obtain ⟨h1, h2, h3⟩ := h
    split at h3
    next q hq => exact ⟨h1, okCls_ok (hC _ h2), q, hq, okMem_ok h3⟩
    next => cases h3
  case newarray at1 =>
    simp only [Bool.and_eq_true, decide_eq_true_eq] at h
    exact ⟨h.1, h.2.1, h.2.2.1, okMem_ok h.2.2.2⟩
  case invokestatic idx =>
    rw [Bool.and_eq_true, decide_eq_true_eq] at h
    obtain ⟨h1, h2⟩ := h
    refine ⟨h1, ?_⟩
    cases hb : Nat.beq (xmN (ClassFile.Instr.invokestatic idx, len, aux) 0) 1001 with
    | true =>
      rw [hb] at h2
      simp only [cond_true, Bool.and_eq_true, decide_eq_true_eq] at h2
      exact Or.inr ⟨h2.1, h2.2.1, Or.inl ⟨Nat.eq_of_beq_eq_true hb, okMem_ok h2.2.2.1, okMem_ok h2.2.2.2.1, okMem_ok h2.2.2.2.2.1, okMem_ok h2.2.2.2.2.2⟩⟩
    | false =>
      rw [hb] at h2
      cases hb4 : Nat.beq (xmN (ClassFile.Instr.invokestatic idx, len, aux) 0) 1004 with
      | true =>
        rw [hb4] at h2
        simp only [cond_true, cond_false, Bool.and_eq_true, decide_eq_true_eq] at h2
        exact Or.inr ⟨h2.1, h2.2.1, Or.inr (Or.inl ⟨Nat.eq_of_beq_eq_true hb4, okMem_ok h2.2.2.1, okMem_ok h2.2.2.2.1, okMem_ok h2.2.2.2.2.1, okMem_ok h2.2.2.2.2.2⟩)⟩
      | false =>
      rw [hb4] at h2
      cases hb2 : Nat.beq (xmN (ClassFile.Instr.invokestatic idx, len, aux) 0) 1002 with
      | true =>
        rw [hb2] at h2
        simp only [cond_true, cond_false, Bool.and_eq_true, decide_eq_true_eq] at h2
        exact Or.inr ⟨h2.1, h2.2.1, Or.inr (Or.inr ⟨Nat.eq_of_beq_eq_true hb2, okMem_ok h2.2.2.1, okMem_ok h2.2.2.2.1, okMem_ok h2.2.2.2.2.1, okMem_ok h2.2.2.2.2.2⟩)⟩
      | false =>
        rw [hb2] at h2
        simp only [cond_false, Bool.and_eq_true, decide_eq_true_eq] at h2
        obtain ⟨h3, h4, h5⟩ := h2
        obtain ⟨ht, h6⟩ := okCall_ok hT h3
        have h7 : xmN (ClassFile.Instr.invokestatic idx, len, aux) 0 + 1 < xmCount := by
          have h8 := h3
          unfold okCall at h8
          rw [Bool.and_eq_true] at h8
          exact of_decide_eq_true h8.1
        have h9 : xmCount ≤ 1000 := by decide
        exact Or.inl ⟨by omega, h6, okMem_ok h4, (okTo_ok ht).2.2.2.1 h5⟩
  case invokevirtual idx =>
    simp only [Bool.and_eq_true, decide_eq_true_eq] at h
    obtain ⟨h1, h2, h3, h4, h6⟩ := h
    obtain ⟨ht, h5⟩ := okCall_ok hT h2
    refine ⟨h1, h5, okMem_ok h3, ((okTo_ok ht).2.2.2.2.2 h4).1, ((okTo_ok ht).2.2.2.2.2 h4).2, ?_⟩
    cases hb : Nat.beq (xmN (ClassFile.Instr.invokevirtual idx, len, aux) 2) 99 with
    | true =>
      rw [hb] at h6
      exact Or.inr ⟨Nat.eq_of_beq_eq_true hb, of_decide_eq_true h6⟩
    | false =>
      rw [hb] at h6
      simp only [cond_false, Bool.and_eq_true, decide_eq_true_eq] at h6
      obtain ⟨h7, h8⟩ := h6
      split at h8
      next q hq => exact Or.inl ⟨h7, q, hq, of_decide_eq_true h8⟩
      next => cases h8
  case invokespecial idx =>
    rw [Bool.and_eq_true, decide_eq_true_eq] at h
    obtain ⟨h1, h2⟩ := h
    refine ⟨h1, ?_⟩
    cases hb : Nat.beq (xmN (ClassFile.Instr.invokespecial idx, len, aux) 0) 1000 with
    | true =>
      rw [hb] at h2
      simp only [cond_true, Bool.and_eq_true, decide_eq_true_eq] at h2
      exact Or.inl ⟨Nat.eq_of_beq_eq_true hb, h2.1, h2.2.1, okMem_ok h2.2.2.1, okMem_ok h2.2.2.2.1, okMem_ok h2.2.2.2.2⟩
    | false =>
      rw [hb] at h2
      simp only [cond_false, Bool.and_eq_true, decide_eq_true_eq] at h2
      obtain ⟨h3, h4, h5⟩ := h2
      obtain ⟨ht, h6⟩ := okCall_ok hT h3
      have h7 := (okTo_ok ht).2.2.2.2.1 h5
      exact Or.inr ⟨Nat.ne_of_beq_eq_false hb, h6, okLink_ok h4, h7.1, h7.2.1, h7.2.2⟩
  case ldc idx =>
    rw [Bool.and_eq_true, decide_eq_true_eq] at h
    obtain ⟨h1, h2⟩ := h
    refine ⟨h1, ?_⟩
    cases hb : Nat.beq (aux.getD 3 0) 1 with
    | true =>
      dsimp only at h2
      rw [hb] at h2
      simp only [cond_true, Bool.and_eq_true, decide_eq_true_eq] at h2
      exact Or.inl ⟨rfl, h2.1, h2.2.1, h2.2.2⟩
    | false =>
      dsimp only at h2
      rw [hb] at h2
      exact Or.inr ⟨rfl, okMem_ok h2⟩
  case ldc2_w idx =>
    simp only [Bool.and_eq_true, decide_eq_true_eq] at h
    exact ⟨h.1, okMem_ok h.2⟩
  all_goals
    rw [Bool.and_eq_true, Bool.or_eq_true] at h
    refine ⟨fun e => ?_, h.2⟩
    rcases h.1 with h1 | h1
    · exact absurd (h1.symm.trans e) (by decide)
    · exact of_decide_eq_true h1
def okM (k : Nat) : Bool := (List.range (zLen k)).all (fun pc => match xmCd k pc with | some i => okB k pc i | none => true)
theorem okM_ok (hC : ∀ ci, ci < 12 → okCls ci = true) (hT : ∀ j, j + 1 < xmCount → okTo j = true) {k : Nat} (h : okM k = true) : ∀ pc i, xmCd k pc = some i → xmOK k pc i := by
  intro pc i hi
  have hl : pc < zLen k := by
    unfold xmCd at hi
    cases hb : Nat.ble (zLen k) pc with
    | true => rw [hb] at hi; cases hi
    | false => exact Nat.lt_of_not_le (fun z => by rw [Nat.ble_eq_true_of_le z] at hb; cases hb)
  have h1 := List.all_eq_true.mp h pc (List.mem_range.mpr hl)
  rw [hi] at h1
  exact okB_ok hC hT h1
