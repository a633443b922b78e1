/-! WALKING OVER ABSTRACT HEAPS -/
abbrev xaC : Type := Nat × xmL × List Value × (Nat → xmE)
def xmEA (V : xmV) (L : List Nat) (Kc Ks d k : Nat) (x : xaC) (r : Option Value) (A' : Nat → xmE) : Prop := ∀ G, xmAb L Kc Ks x.2.2.2 G → ∃ G', xmAb L Kc Ks A' G' ∧ xmEv V (xmCall V d) k (x.1, x.2.1, x.2.2.1, G) r G'
/-- another cell than a row is changed, its kind stays -/
theorem xmAb.cell {L : List Nat} {Kc Ks : Nat} {A : Nat → xmE} {G : xmH} {a : Nat} {z : xmE} (h : xmAb L Kc Ks A G) (h0 : z.1 ≠ 0) (h7 : z.1 ≠ 7) (ht : (A a).1 = z.1) : xmAb L Kc Ks (xmUp A a z) (xmUp G.1 a z, G.2) := by
  obtain ⟨mo, ow, cp, hn, hL, hrow, hinj, hoth, hcs, hss⟩ := h
  have tag : ∀ q, ((xmUp A a z) q).1 = (A q).1 := by
    intro q
    by_cases e : q = a
    · subst e
      rw [xmUp_self, ht]
    · rw [xmUp_ne _ _ e]
  refine ⟨mo, ow, cp, hn, fun q hq => hL q (by rw [← tag q]; exact hq), fun q hq => ?_, hinj, fun q hq => ?_, hcs, hss⟩
  · obtain ⟨xq, jq, qa, qg, qw, ql, q16, qm, q64, q0, qlt⟩ := hrow q hq
    have e : q ≠ a := fun e => by
      rw [e] at qa
      rw [qa] at ht
      exact h7 ht.symm
    have e2 : ow q ≠ a := fun e => by
      rw [e, ht] at q0
      exact h0 q0
    exact ⟨xq, jq, (xmUp_ne _ _ e).trans qa, (xmUp_ne _ _ e).trans qg, (xmUp_ne _ _ e2).trans qw, ql, q16, qm, q64, by rw [tag]; exact q0, qlt⟩
  · rw [tag] at hq
    obtain ⟨g1, g2⟩ := hoth q hq
    refine ⟨g1, fun g3 => ?_⟩
    rw [tag] at g3
    by_cases e : q = a
    · subst e
      show xmUp G.1 q z q = xmUp A q z q
      rw [xmUp_self, xmUp_self]
    · show xmUp G.1 a z q = xmUp A a z q
      rw [xmUp_ne _ _ e, xmUp_ne _ _ e]
      exact g2 g3
theorem xmAb.at {L : List Nat} {Kc Ks : Nat} {A : Nat → xmE} {G : xmH} {a : Nat} {z : xmE} (h : xmAb L Kc Ks A G) (hA : A a = z) (h0 : z.1 ≠ 0) (h7 : z.1 ≠ 7) : G.1 a = z := by
  obtain ⟨mo, ow, cp, -, -, -, -, hoth, -⟩ := h
  rw [← hA]
  exact (hoth a (by rw [hA]; exact h0)).2 (by rw [hA]; exact h7)
theorem xmAb.rowAt {L : List Nat} {Kc Ks : Nat} {A : Nat → xmE} {G : xmH} {a mo : Nat} {xs : List Int32} (h : xmAb L Kc Ks A G) (hA : A a = xrow mo xs) : ∃ fs, G.1 a = (16, fs) := by
  obtain ⟨mo0, ow, cp, h⟩ := h
  obtain ⟨-, -, jk, e1, -⟩ := xm_row h hA
  exact ⟨_, e1⟩
set_option maxHeartbeats 4000000 in
/-- the heap is not looked at -/
theorem xmPure_G {i : xmI} {pc : Nat} {lv : xmL} {st : List Value} {G : xmH} (G' : xmH) {x' : xmC} (h : xmPure id i (pc, lv, st, G) = some x') : xmPure id i (pc, lv, st, G') = some (x'.1, x'.2.1, x'.2.2.1, G') := by
  obtain ⟨ins, len, aux⟩ := i
  cases ins
  case iadd => obtain ⟨a, b, r, he, rfl⟩ := xmII_inv (show xmII _ _ = some x' from h); cases he; rfl
  case isub => obtain ⟨a, b, r, he, rfl⟩ := xmII_inv (show xmII _ _ = some x' from h); cases he; rfl
  case imul => obtain ⟨a, b, r, he, rfl⟩ := xmII_inv (show xmII _ _ = some x' from h); cases he; rfl
  case iand => obtain ⟨a, b, r, he, rfl⟩ := xmII_inv (show xmII _ _ = some x' from h); cases he; rfl
  case ior => obtain ⟨a, b, r, he, rfl⟩ := xmII_inv (show xmII _ _ = some x' from h); cases he; rfl
  case ixor => obtain ⟨a, b, r, he, rfl⟩ := xmII_inv (show xmII _ _ = some x' from h); cases he; rfl
  case ishl => obtain ⟨a, b, r, he, rfl⟩ := xmII_inv (show xmII _ _ = some x' from h); cases he; rfl
  case ishr => obtain ⟨a, b, r, he, rfl⟩ := xmII_inv (show xmII _ _ = some x' from h); cases he; rfl
  case ladd => obtain ⟨a, b, r, he, rfl⟩ := xmLL_inv (show xmLL _ _ = some x' from h); cases he; rfl
  case lsub => obtain ⟨a, b, r, he, rfl⟩ := xmLL_inv (show xmLL _ _ = some x' from h); cases he; rfl
  case lmul => obtain ⟨a, b, r, he, rfl⟩ := xmLL_inv (show xmLL _ _ = some x' from h); cases he; rfl
  case land => obtain ⟨a, b, r, he, rfl⟩ := xmLL_inv (show xmLL _ _ = some x' from h); cases he; rfl
  case lor => obtain ⟨a, b, r, he, rfl⟩ := xmLL_inv (show xmLL _ _ = some x' from h); cases he; rfl
  case idiv => obtain ⟨a, b, r, he, h0, rfl⟩ := xmDv_inv (show xmDv _ _ = some x' from h); cases he; exact if_neg h0
  case irem => obtain ⟨a, b, r, he, h0, rfl⟩ := xmDv_inv (show xmDv _ _ = some x' from h); cases he; exact if_neg h0
  case lushr => obtain ⟨a, b, r, he, rfl⟩ := xmLI_inv (show xmLI _ _ = some x' from h); cases he; rfl
  case lshl => obtain ⟨a, b, r, he, rfl⟩ := xmLI_inv (show xmLI _ _ = some x' from h); cases he; rfl
  case lshr => obtain ⟨a, b, r, he, rfl⟩ := xmLI_inv (show xmLI _ _ = some x' from h); cases he; rfl
  case lcmp => obtain ⟨a, b, r, he, rfl⟩ := xmCmpL_inv (show xmCmpL _ = some x' from h); cases he; rfl
  case ineg => obtain ⟨a, r, he, rfl⟩ := xmUI_inv (show xmUI _ _ = some x' from h); cases he; rfl
  case i2l => obtain ⟨a, r, he, rfl⟩ := xmUI_inv (show xmUI _ _ = some x' from h); cases he; rfl
  case i2c => obtain ⟨a, r, he, rfl⟩ := xmUI_inv (show xmUI _ _ = some x' from h); cases he; rfl
  case i2b => obtain ⟨a, r, he, rfl⟩ := xmUI_inv (show xmUI _ _ = some x' from h); cases he; rfl
  case l2i => obtain ⟨a, r, he, rfl⟩ := xmUL_inv (show xmUL _ _ = some x' from h); cases he; rfl
  case lneg => obtain ⟨a, r, he, rfl⟩ := xmUL_inv (show xmUL _ _ = some x' from h); cases he; rfl
  case iconst n => cases h; rfl
  case bipush n => cases h; rfl
  case sipush n => cases h; rfl
  case lconst n => cases h; rfl
  case ldc n => cases h; rfl
  case ldc2_w n => cases h; rfl
  case goto o => cases h; rfl
  case ifCond cd o => obtain ⟨a, r, he, rfl⟩ := xmIf_inv (show xmIf _ _ _ = some x' from h); cases he; rfl
  case if_icmp cd o => obtain ⟨a, b, r, he, rfl⟩ := xmIf2_inv (show xmIf2 _ _ _ = some x' from h); cases he; rfl
  case tableswitch d lo hi os => obtain ⟨a, r, he, rfl⟩ := xmSw_inv (show xmSw _ _ _ _ _ = some x' from h); cases he; rfl
  case lookupswitch d ps => obtain ⟨a, r, he, rfl⟩ := xmLk_inv (show xmLk _ _ _ = some x' from h); cases he; rfl
  all_goals first
    | (cases h; done)
    | (unfold xmPure at h ⊢; dsimp only at h ⊢
       first
         | (unfold xmDup at h ⊢; dsimp only at h ⊢; split at h <;> first | (cases h; rfl) | cases h)
         | (unfold xmPop at h ⊢; dsimp only at h ⊢; split at h <;> first | (cases h; rfl) | cases h)
         | (unfold xmDup2 at h ⊢; dsimp only at h ⊢; split at h <;> first | (cases h; rfl) | cases h)
         | (unfold xmStI at h ⊢; dsimp only at h ⊢; split at h <;> first | (cases h; rfl) | cases h)
         | (unfold xmStL at h ⊢; dsimp only at h ⊢; split at h <;> first | (cases h; rfl) | cases h)
         | (unfold xmStA at h ⊢; dsimp only at h ⊢; split at h <;> first | (cases h; rfl) | cases h)
         | (unfold xmLdI at h ⊢; dsimp only at h ⊢; split at h <;> first | (cases h; rfl) | cases h)
         | (unfold xmLdL at h ⊢; dsimp only at h ⊢; split at h <;> first | (cases h; rfl) | cases h)
         | (unfold xmLdA at h ⊢; dsimp only at h ⊢; split at h <;> first | (cases h; rfl) | cases h)
         | (unfold xmInc at h ⊢; dsimp only at h ⊢; split at h <;> first | (cases h; rfl) | cases h))
def xm0 : xmH := (fun _ => (0, []), 0, 0)
section EA
variable {V : xmV} {L : List Nat} {Kc Ks d k : Nat} {r : Option Value} {A A1 A' : Nat → xmE} {pc pc' : Nat} {lv lv' : xmL} {st st' : List Value} {aux : List Nat} {idx : Nat}
theorem ea_it (n : Nat) (h : ∀ G, xmIter k n (pc, lv, st, G) = some (pc', lv', st', G)) (e : xmEA V L Kc Ks d k (pc', lv', st', A) r A') : xmEA V L Kc Ks d k (pc, lv, st, A) r A' := by
  intro G hG
  have hG : xmAb L Kc Ks A G := hG
  obtain ⟨G', h1, h2⟩ := e G hG
  exact ⟨G', h1, ev_it n (h G) h2⟩
theorem ea_br {i : xmI} {b : Bool} {t f : Nat} (hc : xmCd k pc = some i) (h : xmPure id i (pc, lv, st, xm0) = some (bif b then t else f, lv', st', xm0)) (e1 : b = true → xmEA V L Kc Ks d k (t, lv', st', A) r A') (e2 : b = false → xmEA V L Kc Ks d k (f, lv', st', A) r A') : xmEA V L Kc Ks d k (pc, lv, st, A) r A' := by
  intro G hG
  have hG : xmAb L Kc Ks A G := hG
  have h := xmPure_G G h
  cases b
  · obtain ⟨G', h1, h2⟩ := e2 rfl G hG
    exact ⟨G', h1, ev_pure (x := (pc, lv, st, G)) hc h h2⟩
  · obtain ⟨G', h1, h2⟩ := e1 rfl G hG
    exact ⟨G', h1, ev_pure (x := (pc, lv, st, G)) hc h h2⟩
theorem ea_get {a : Nat} {fs : List Value} {v : Value} (hc : xmCd k pc = some (.getfield idx, 3, aux)) (hm : Nat.ble 2000 (aux.getD 0 0) = false) (hA : A a = (16 + aux.getD 0 0, fs)) (hv : fs[aux.getD 1 0]? = some v) (e : xmEA V L Kc Ks d k (pc + 3, lv, v :: st, A) r A') : xmEA V L Kc Ks d k (pc, lv, .ref a :: st, A) r A' := by
  intro G hG
  have hG : xmAb L Kc Ks A G := hG
  obtain ⟨G', h1, h2⟩ := e G hG
  exact ⟨G', h1, ev_get hc hm (hG.at hA (by show 16 + _ ≠ 0; omega) (by show 16 + _ ≠ 7; omega)) hv h2⟩
/-- a row's own size, and its most -/
theorem ea_rsz {a mo : Nat} {xs : List Int32} (hc : xmCd k pc = some (.getfield idx, 3, aux)) (hm : aux.getD 0 0 = 0 ∧ aux.getD 1 0 = 2) (hA : A a = xrow mo xs) (e : xmEA V L Kc Ks d k (pc + 3, lv, .int (nI xs.length) :: st, A) r A') : xmEA V L Kc Ks d k (pc, lv, .ref a :: st, A) r A' := by
  intro G hG
  obtain ⟨G', h1, h2⟩ := e G hG
  obtain ⟨mo0, ow, cp, h⟩ := id hG
  obtain ⟨-, -, jk, e1, -⟩ := xm_row h hA
  exact ⟨G', h1, ev_get hc (by rw [hm.1]; rfl) (by rw [hm.1]; exact e1) (by rw [hm.2]; rfl) h2⟩
theorem ea_put {a : Nat} {fs : List Value} {v : Value} (hc : xmCd k pc = some (.putfield idx, 3, aux)) (hA : A a = (16 + aux.getD 0 0, fs)) (hn : narrow (xmTyp (aux.getD 0 0) (aux.getD 1 0)) (xmRo V v) = xmRo V v) (hf : fits (xmTyp (aux.getD 0 0) (aux.getD 1 0)) (xmRo V v) = true) (e : xmEA V L Kc Ks d k (pc + 3, lv, st, xmUp A a (16 + aux.getD 0 0, fs.set (aux.getD 1 0) v)) r A') : xmEA V L Kc Ks d k (pc, lv, v :: .ref a :: st, A) r A' := by
  intro G hG
  have hG : xmAb L Kc Ks A G := hG
  obtain ⟨G', h1, h2⟩ := e _ (hG.cell (a := a) (z := (16 + aux.getD 0 0, fs.set (aux.getD 1 0) v)) (by show 16 + _ ≠ 0; omega) (by show 16 + _ ≠ 7; omega) (by rw [hA]))
  exact ⟨G', h1, ev_put hc (hG.at hA (by show 16 + _ ≠ 0; omega) (by show 16 + _ ≠ 7; omega)) hn hf h2⟩
theorem ea_iald {a : Nat} {vs : List Value} {j : Int32} {v : Value} (hc : xmCd k pc = some (.iaload, 1, aux)) (hA : A a = (1, vs)) (h0 : ¬ j < 0) (hv : vs[j.toNatClampNeg]? = some v) (e : xmEA V L Kc Ks d k (pc + 1, lv, v :: st, A) r A') : xmEA V L Kc Ks d k (pc, lv, .int j :: .ref a :: st, A) r A' := by
  intro G hG
  have hG : xmAb L Kc Ks A G := hG
  obtain ⟨G', h1, h2⟩ := e G hG
  exact ⟨G', h1, ev_iald hc (hG.at hA (show (1 : Nat) ≠ 0 by decide) (show (1 : Nat) ≠ 7 by decide)) h0 hv h2⟩
theorem ea_lald {a : Nat} {vs : List Value} {j : Int32} {v : Value} (hc : xmCd k pc = some (.laload, 1, aux)) (hA : A a = (2, vs)) (h0 : ¬ j < 0) (hv : vs[j.toNatClampNeg]? = some v) (e : xmEA V L Kc Ks d k (pc + 1, lv, v :: st, A) r A') : xmEA V L Kc Ks d k (pc, lv, .int j :: .ref a :: st, A) r A' := by
  intro G hG
  have hG : xmAb L Kc Ks A G := hG
  obtain ⟨G', h1, h2⟩ := e G hG
  exact ⟨G', h1, ev_lald hc (hG.at hA (show (2 : Nat) ≠ 0 by decide) (show (2 : Nat) ≠ 7 by decide)) h0 hv h2⟩
theorem ea_bald {a t : Nat} {vs : List Value} {j : Int32} {v : Value} (hc : xmCd k pc = some (.baload, 1, aux)) (hA : A a = (t, vs)) (ht : t = 3 ∨ t = 4) (h0 : ¬ j < 0) (hv : vs[j.toNatClampNeg]? = some v) (e : xmEA V L Kc Ks d k (pc + 1, lv, v :: st, A) r A') : xmEA V L Kc Ks d k (pc, lv, .int j :: .ref a :: st, A) r A' := by
  intro G hG
  have hG : xmAb L Kc Ks A G := hG
  obtain ⟨G', h1, h2⟩ := e G hG
  exact ⟨G', h1, ev_bald hc (hG.at hA (by show t ≠ 0; omega) (by show t ≠ 7; omega)) ht h0 hv h2⟩
theorem ea_iast {a : Nat} {vs : List Value} {j y : Int32} (hc : xmCd k pc = some (.iastore, 1, aux)) (hA : A a = (1, vs)) (h0 : ¬ j < 0) (hlt : j.toNatClampNeg < vs.length) (e : xmEA V L Kc Ks d k (pc + 1, lv, st, xmUp A a (1, vs.set j.toNatClampNeg (.int y))) r A') : xmEA V L Kc Ks d k (pc, lv, .int y :: .int j :: .ref a :: st, A) r A' := by
  intro G hG
  have hG : xmAb L Kc Ks A G := hG
  obtain ⟨G', h1, h2⟩ := e _ (hG.cell (a := a) (z := (1, vs.set j.toNatClampNeg (.int y))) (by show 1 ≠ 0; decide) (by show 1 ≠ 7; decide) (by rw [hA]))
  exact ⟨G', h1, ev_iast hc (hG.at hA (show (1 : Nat) ≠ 0 by decide) (show (1 : Nat) ≠ 7 by decide)) h0 hlt h2⟩
theorem ea_last {a : Nat} {vs : List Value} {j : Int32} {y : Int64} (hc : xmCd k pc = some (.lastore, 1, aux)) (hA : A a = (2, vs)) (h0 : ¬ j < 0) (hlt : j.toNatClampNeg < vs.length) (e : xmEA V L Kc Ks d k (pc + 1, lv, st, xmUp A a (2, vs.set j.toNatClampNeg (.long y))) r A') : xmEA V L Kc Ks d k (pc, lv, .long y :: .int j :: .ref a :: st, A) r A' := by
  intro G hG
  have hG : xmAb L Kc Ks A G := hG
  obtain ⟨G', h1, h2⟩ := e _ (hG.cell (a := a) (z := (2, vs.set j.toNatClampNeg (.long y))) (by show 2 ≠ 0; decide) (by show 2 ≠ 7; decide) (by rw [hA]))
  exact ⟨G', h1, ev_last hc (hG.at hA (show (2 : Nat) ≠ 0 by decide) (show (2 : Nat) ≠ 7 by decide)) h0 hlt h2⟩
theorem ea_bast {a t : Nat} {vs : List Value} {j y : Int32} (hc : xmCd k pc = some (.bastore, 1, aux)) (hA : A a = (t, vs)) (ht : t = 3 ∨ t = 4) (h0 : ¬ j < 0) (hlt : j.toNatClampNeg < vs.length) (e : xmEA V L Kc Ks d k (pc + 1, lv, st, xmUp A a (t, vs.set j.toNatClampNeg (narrow (xmTy t) (.int y)))) r A') : xmEA V L Kc Ks d k (pc, lv, .int y :: .int j :: .ref a :: st, A) r A' := by
  intro G hG
  have hG : xmAb L Kc Ks A G := hG
  obtain ⟨G', h1, h2⟩ := e _ (hG.cell (a := a) (z := (t, vs.set j.toNatClampNeg (narrow (xmTy t) (.int y)))) (by show t ≠ 0; omega) (by show t ≠ 7; omega) (by rw [hA]))
  exact ⟨G', h1, ev_bast hc (hG.at hA (by show t ≠ 0; omega) (by show t ≠ 7; omega)) ht h0 hlt h2⟩
theorem ea_len {a t : Nat} {vs : List Value} (hc : xmCd k pc = some (.arraylength, 1, aux)) (hA : A a = (t, vs)) (ht : t = 1 ∨ t = 2 ∨ t = 3 ∨ t = 4) (e : xmEA V L Kc Ks d k (pc + 1, lv, .int (nI vs.length) :: st, A) r A') : xmEA V L Kc Ks d k (pc, lv, .ref a :: st, A) r A' := by
  intro G hG
  have hG : xmAb L Kc Ks A G := hG
  obtain ⟨G', h1, h2⟩ := e G hG
  exact ⟨G', h1, ev_len hc (hG.at hA (by show t ≠ 0; omega) (by show t ≠ 7; omega)) ht h2⟩
/-- a call on a row -/
theorem ea_callR {b mo : Nat} {xs : List Int32} {As : List Value} {r1 : Option Value} {st0 : List Value} (hc : xmCd k pc = some (.invokevirtual idx, 3, aux)) (hm : aux.getD 2 0 = 0) (hst : st0 = As.reverse ++ .ref b :: st) (hn : As.length = aux.getD 1 0) (h8 : (st.map fun v => v.category).sum ≤ 8) (hA : A b = xrow mo xs) (ho : xmCA V L Kc Ks d (aux.getD 0 0) (.ref b :: As) A r1 A1) (e : xmEA V L Kc Ks d k (pc + 3, lv, r1.toList ++ st, A1) r A') : xmEA V L Kc Ks d k (pc, lv, st0, A) r A' := by
  intro G hG
  have hG : xmAb L Kc Ks A G := hG
  obtain ⟨fs, hf⟩ := hG.rowAt hA
  obtain ⟨G1, g1, g2⟩ := ho G hG
  obtain ⟨G', h1, h2⟩ := e G1 g1
  exact ⟨G', h1, ev_callV hc (by rw [hm]; rfl) hst hn h8 (by rw [hm]; exact hf) g2 h2⟩
/-- a call on another object -/
theorem ea_callO {b : Nat} {As fs : List Value} {r1 : Option Value} {st0 : List Value} (hc : xmCd k pc = some (.invokevirtual idx, 3, aux)) (hm : Nat.ble 99 (aux.getD 2 0) = false) (hst : st0 = As.reverse ++ .ref b :: st) (hn : As.length = aux.getD 1 0) (h8 : (st.map fun v => v.category).sum ≤ 8) (hA : A b = (16 + aux.getD 2 0, fs)) (ho : xmCA V L Kc Ks d (aux.getD 0 0) (.ref b :: As) A r1 A1) (e : xmEA V L Kc Ks d k (pc + 3, lv, r1.toList ++ st, A1) r A') : xmEA V L Kc Ks d k (pc, lv, st0, A) r A' := by
  intro G hG
  have hG : xmAb L Kc Ks A G := hG
  obtain ⟨G1, g1, g2⟩ := ho G hG
  obtain ⟨G', h1, h2⟩ := e G1 g1
  exact ⟨G', h1, ev_callV hc hm hst hn h8 (hG.at hA (by show 16 + _ ≠ 0; omega) (by show 16 + _ ≠ 7; omega)) g2 h2⟩
theorem ea_callS {av : List Value} {r1 : Option Value} {st0 : List Value} (hc : xmCd k pc = some (.invokestatic idx, 3, aux)) (hm : Nat.ble 1000 (aux.getD 0 0) = false) (hst : st0 = av.reverse ++ st) (hn : av.length = aux.getD 1 0) (h8 : (st.map fun v => v.category).sum ≤ 8) (ho : xmCA V L Kc Ks d (aux.getD 0 0) av A r1 A1) (e : xmEA V L Kc Ks d k (pc + 3, lv, r1.toList ++ st, A1) r A') : xmEA V L Kc Ks d k (pc, lv, st0, A) r A' := by
  intro G hG
  have hG : xmAb L Kc Ks A G := hG
  obtain ⟨G1, g1, g2⟩ := ho G hG
  obtain ⟨G', h1, h2⟩ := e G1 g1
  exact ⟨G', h1, ev_callS hc (xm_ble hm) hst hn h8 g2 h2⟩
/-- a call on a text -/
theorem ea_callT {b : Nat} {As : List Value} {r1 : Option Value} {st0 : List Value} (hc : xmCd k pc = some (.invokevirtual idx, 3, aux)) (hm : aux.getD 2 0 = 99) (hb : b < zN) (hst : st0 = As.reverse ++ .retAddr b :: st) (hn : As.length = aux.getD 1 0) (h8 : (st.map fun v => v.category).sum ≤ 8) (ho : xmCA V L Kc Ks d (aux.getD 0 0) (.retAddr b :: As) A r1 A1) (e : xmEA V L Kc Ks d k (pc + 3, lv, r1.toList ++ st, A1) r A') : xmEA V L Kc Ks d k (pc, lv, st0, A) r A' := by
  intro G hG
  have hG : xmAb L Kc Ks A G := hG
  obtain ⟨G1, g1, g2⟩ := ho G hG
  obtain ⟨G', h1, h2⟩ := e G1 g1
  exact ⟨G', h1, ev_callT hc hm hb hst hn h8 g2 h2⟩
theorem ea_min {a b : Int32} (hc : xmCd k pc = some (.invokestatic idx, 3, aux)) (hm : aux.getD 0 0 = 1001) (h8 : (st.map fun v => v.category).sum ≤ 8) (e : xmEA V L Kc Ks d k (pc + 3, lv, .int (if b < a then b else a) :: st, A) r A') : xmEA V L Kc Ks d k (pc, lv, .int b :: .int a :: st, A) r A' := by
  intro G hG
  have hG : xmAb L Kc Ks A G := hG
  obtain ⟨G', h1, h2⟩ := e G hG
  exact ⟨G', h1, ev_min hc hm h8 h2⟩
theorem ea_iret {v : Int32} {ty : FieldType} (hc : xmCd k pc = some (.ireturn, 1, aux)) (hr : xmRt k = some ty) (hn : narrow ty (.int v) = .int v) : xmEA V L Kc Ks d k (pc, lv, [.int v], A) (some (.int v)) A := fun G hG => ⟨G, hG, ev_iret hc hr hn⟩
theorem ea_lret {v : Int64} (hc : xmCd k pc = some (.lreturn, 1, aux)) (hr : xmRt k = some .long) : xmEA V L Kc Ks d k (pc, lv, [.long v], A) (some (.long v)) A := fun G hG => ⟨G, hG, ev_lret hc hr⟩
theorem ea_aret {a : Nat} {rt : FieldType} (hc : xmCd k pc = some (.areturn, 1, aux)) (hr : xmRt k = some rt) (h3 : (∃ n, rt = .object n) ∨ ∃ t, rt = .array t) : xmEA V L Kc Ks d k (pc, lv, [.ref a], A) (some (.ref a)) A := fun G hG => ⟨G, hG, ev_aret hc hr h3⟩
theorem ea_tret {a : Nat} {rt : FieldType} (hc : xmCd k pc = some (.areturn, 1, aux)) (hr : xmRt k = some rt) (h3 : (∃ n, rt = .object n) ∨ ∃ t, rt = .array t) : xmEA V L Kc Ks d k (pc, lv, [.retAddr a], A) (some (.retAddr a)) A := fun G hG => ⟨G, hG, ev_end (x := (pc, lv, [.retAddr a], G)) hc ⟨.retAddr a, rt, Or.inr ⟨a, rfl⟩, rfl, hr, h3, rfl⟩ rfl⟩
theorem ea_vret (hc : xmCd k pc = some (.return_, 1, aux)) (hr : xmRt k = none) : xmEA V L Kc Ks d k (pc, lv, [], A) none A := fun G hG => ⟨G, hG, ev_vret hc hr⟩
theorem xmCA_of {av : List Value} (hk : k < xmCount) (hl : (lg_sl av).length ≤ xmML k) (h : xmEA V L Kc Ks d k (0, lv_args 0 av, [], A) r A') : xmCA V L Kc Ks (d + 1) k av A r A' := by
  intro G hG
  have hG : xmAb L Kc Ks A G := hG
  obtain ⟨G', h1, h2⟩ := h G hG
  exact ⟨G', h1, xmCall_of hk hl h2⟩
end EA
/-- deeper calls do no harm -/
theorem xmIR_mono {O O' : xmO} (h : ∀ j av G r G', O j av G r G' → O' j av G r G') {i : xmI} {x x' : xmC} (hi : xmIR O i x x') : xmIR O' i x x' := by
  obtain ⟨ins, len, aux⟩ := i
  cases ins
  case invokestatic idx =>
    rcases hi with h1 | h1 | h1 | ⟨hm, av, rest, r1, G1, a1, a2, a3, ho, a4⟩
    · exact Or.inl h1
    · exact Or.inr (Or.inl h1)
    · exact Or.inr (Or.inr (Or.inl h1))
    · exact Or.inr (Or.inr (Or.inr ⟨hm, av, rest, r1, G1, a1, a2, a3, h _ _ _ _ _ ho, a4⟩))
  case invokevirtual idx =>
    rcases hi with ⟨hm, b, As, rest, r1, G1, a1, a2, a3, a4, ho, a5⟩ | ⟨hm, b, As, rest, r1, G1, fs, a1, a2, a3, a4, ho, a5⟩
    · exact Or.inl ⟨hm, b, As, rest, r1, G1, a1, a2, a3, a4, h _ _ _ _ _ ho, a5⟩
    · exact Or.inr ⟨hm, b, As, rest, r1, G1, fs, a1, a2, a3, a4, h _ _ _ _ _ ho, a5⟩
  case invokespecial idx =>
    rcases hi with h1 | ⟨hm, b, As, rest, G1, a1, a2, a3, ho, a4⟩
    · exact Or.inl h1
    · exact Or.inr ⟨hm, b, As, rest, G1, a1, a2, a3, h _ _ _ _ _ ho, a4⟩
  all_goals exact hi.elim
theorem xmRun_mono {V : xmV} {O O' : xmO} {k : Nat} (h : ∀ j av G r G', O j av G r G' → O' j av G r G') : ∀ {n : Nat} {x : xmC} {r : Option Value} {G' : xmH}, xmRun V O k n x r G' → xmRun V O' k n x r G' := by
  intro n
  induction n with
  | zero => intro x r G' hr; exact hr
  | succ n ih =>
    intro x r G' hr
    obtain ⟨i, hi, ⟨x', h1, h2⟩ | h1⟩ := hr
    · refine ⟨i, hi, Or.inl ⟨x', ?_, ih h2⟩⟩
      rcases h1 with h1 | h1 | h1
      · exact Or.inl h1
      · exact Or.inr (Or.inl h1)
      · exact Or.inr (Or.inr (xmIR_mono h h1))
    · exact ⟨i, hi, Or.inr h1⟩
theorem xmCall_mono {V : xmV} : ∀ {d : Nat} {j : Nat} {av : List Value} {G : xmH} {r : Option Value} {G' : xmH}, xmCall V d j av G r G' → xmCall V (d + 1) j av G r G' := by
  intro d
  induction d with
  | zero => intro j av G r G' h; exact h.elim
  | succ d ih =>
    intro j av G r G' h
    obtain ⟨h1, h2, n, hn⟩ := h
    exact ⟨h1, h2, n, xmRun_mono (fun j av G r G' z => ih z) hn⟩
theorem xmCall_up {V : xmV} {d d' : Nat} (hd : d ≤ d') {j : Nat} {av : List Value} {G : xmH} {r : Option Value} {G' : xmH} (h : xmCall V d j av G r G') : xmCall V d' j av G r G' := by
  induction hd with
  | refl => exact h
  | step _ ih => exact xmCall_mono ih
theorem xmCA.up {V : xmV} {L : List Nat} {Kc Ks d d' k : Nat} {av : List Value} {A A' : Nat → xmE} {r : Option Value} (h : xmCA V L Kc Ks d k av A r A') (hd : d ≤ d') : xmCA V L Kc Ks d' k av A r A' := by
  intro G hG
  have hG : xmAb L Kc Ks A G := hG
  obtain ⟨G', h1, h2⟩ := h G hG
  exact ⟨G', h1, xmCall_up hd h2⟩
