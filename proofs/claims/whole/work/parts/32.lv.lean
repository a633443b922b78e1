/-! locals: an order or a dead one more does no harm -/
def xlv (lv lv2 : xmL) : Prop := (∀ q ∈ lv, xmGet lv2 q.1 = some q.2) ∧ (lv2.map Prod.fst).Nodup
theorem xmGet_mem {lv : xmL} {i : Nat} {v : Value} (h : xmGet lv i = some v) : (i, v) ∈ lv := by
  obtain ⟨k, hk⟩ := xmGet_place h
  exact List.mem_of_getElem? hk
theorem xmGet_of_mem {lv : xmL} (hn : (lv.map Prod.fst).Nodup) {i : Nat} {v : Value} (h : (i, v) ∈ lv) : xmGet lv i = some v := by
  induction lv with
  | nil => cases h
  | cons q lv ih =>
    obtain ⟨a, b⟩ := q
    rw [List.map_cons, List.nodup_cons] at hn
    unfold xmGet
    by_cases e : a = i
    · rw [if_pos e]
      rcases List.mem_cons.mp h with h1 | h1
      · cases h1
        rfl
      · exact absurd (List.mem_map.mpr ⟨(i, v), h1, e.symm⟩) hn.1
    · rw [if_neg e]
      rcases List.mem_cons.mp h with h1 | h1
      · cases h1
        exact absurd rfl e
      · exact ih hn.2 h1
theorem nodup_filter {lv : xmL} (p : Nat × Value → Bool) (hn : (lv.map Prod.fst).Nodup) : ((lv.filter p).map Prod.fst).Nodup := hn.sublist (List.Sublist.map _ List.filter_sublist)
theorem xlv.get {lv lv2 : xmL} (h : xlv lv lv2) {i : Nat} {v : Value} (hg : xmGet lv i = some v) : xmGet lv2 i = some v := h.1 (i, v) (xmGet_mem hg)
theorem xlv.put {lv lv2 : xmL} (h : xlv lv lv2) (i : Nat) (v : Value) (p : Nat × Value → Bool) (hp : ∀ q, p q = true → q.1 ≠ i) : xlv ((i, v) :: lv.filter p) ((i, v) :: lv2.filter p) := by
  have hk : (((i, v) :: lv2.filter p).map Prod.fst).Nodup := by
    rw [List.map_cons, List.nodup_cons]
    refine ⟨fun hm => ?_, nodup_filter p h.2⟩
    obtain ⟨q, hq, e⟩ := List.mem_map.mp hm
    exact hp q (List.mem_filter.mp hq).2 e
  refine ⟨fun q hq => xmGet_of_mem hk ?_, hk⟩
  rcases List.mem_cons.mp hq with rfl | hq
  · exact List.mem_cons_self
  · obtain ⟨h1, h2⟩ := List.mem_filter.mp hq
    exact List.mem_cons_of_mem _ (List.mem_filter.mpr ⟨xmGet_mem (h.1 q h1), h2⟩)
theorem xlv.put1 {lv lv2 : xmL} (h : xlv lv lv2) (i : Nat) (v : Value) : xlv (xmPut1 lv i v) (xmPut1 lv2 i v) := h.put i v _ (fun q hq e => by rw [e] at hq; simp at hq)
theorem xlv.put2 {lv lv2 : xmL} (h : xlv lv lv2) (i : Nat) (v : Value) : xlv (xmPut2 lv i v) (xmPut2 lv2 i v) := h.put i v _ (fun q hq e => by rw [e] at hq; simp at hq)
set_option maxHeartbeats 4000000 in
theorem xmPure_lv {i : xmI} {pc : Nat} {lv lv2 : xmL} {st : List Value} {G : xmH} {x' : xmC} (hl : xlv lv lv2) (h : xmPure id i (pc, lv, st, G) = some x') : ∃ lv2', xmPure id i (pc, lv2, st, G) = some (x'.1, lv2', x'.2.2.1, x'.2.2.2) ∧ xlv x'.2.1 lv2' := by
  obtain ⟨ins, len, aux⟩ := i
  cases ins
  case iadd => obtain ⟨a, b, r, he, rfl⟩ := xmII_inv (show xmII _ _ = some x' from h); cases he; exact ⟨_, rfl, hl⟩
  case isub => obtain ⟨a, b, r, he, rfl⟩ := xmII_inv (show xmII _ _ = some x' from h); cases he; exact ⟨_, rfl, hl⟩
  case imul => obtain ⟨a, b, r, he, rfl⟩ := xmII_inv (show xmII _ _ = some x' from h); cases he; exact ⟨_, rfl, hl⟩
  case iand => obtain ⟨a, b, r, he, rfl⟩ := xmII_inv (show xmII _ _ = some x' from h); cases he; exact ⟨_, rfl, hl⟩
  case ior => obtain ⟨a, b, r, he, rfl⟩ := xmII_inv (show xmII _ _ = some x' from h); cases he; exact ⟨_, rfl, hl⟩
  case ixor => obtain ⟨a, b, r, he, rfl⟩ := xmII_inv (show xmII _ _ = some x' from h); cases he; exact ⟨_, rfl, hl⟩
  case ishl => obtain ⟨a, b, r, he, rfl⟩ := xmII_inv (show xmII _ _ = some x' from h); cases he; exact ⟨_, rfl, hl⟩
  case ishr => obtain ⟨a, b, r, he, rfl⟩ := xmII_inv (show xmII _ _ = some x' from h); cases he; exact ⟨_, rfl, hl⟩
  case ladd => obtain ⟨a, b, r, he, rfl⟩ := xmLL_inv (show xmLL _ _ = some x' from h); cases he; exact ⟨_, rfl, hl⟩
  case lsub => obtain ⟨a, b, r, he, rfl⟩ := xmLL_inv (show xmLL _ _ = some x' from h); cases he; exact ⟨_, rfl, hl⟩
  case lmul => obtain ⟨a, b, r, he, rfl⟩ := xmLL_inv (show xmLL _ _ = some x' from h); cases he; exact ⟨_, rfl, hl⟩
  case land => obtain ⟨a, b, r, he, rfl⟩ := xmLL_inv (show xmLL _ _ = some x' from h); cases he; exact ⟨_, rfl, hl⟩
  case lor => obtain ⟨a, b, r, he, rfl⟩ := xmLL_inv (show xmLL _ _ = some x' from h); cases he; exact ⟨_, rfl, hl⟩
  case idiv => obtain ⟨a, b, r, he, h0, rfl⟩ := xmDv_inv (show xmDv _ _ = some x' from h); cases he; exact ⟨_, if_neg h0, hl⟩
  case irem => obtain ⟨a, b, r, he, h0, rfl⟩ := xmDv_inv (show xmDv _ _ = some x' from h); cases he; exact ⟨_, if_neg h0, hl⟩
  case lushr => obtain ⟨a, b, r, he, rfl⟩ := xmLI_inv (show xmLI _ _ = some x' from h); cases he; exact ⟨_, rfl, hl⟩
  case lshl => obtain ⟨a, b, r, he, rfl⟩ := xmLI_inv (show xmLI _ _ = some x' from h); cases he; exact ⟨_, rfl, hl⟩
  case lshr => obtain ⟨a, b, r, he, rfl⟩ := xmLI_inv (show xmLI _ _ = some x' from h); cases he; exact ⟨_, rfl, hl⟩
  case lcmp => obtain ⟨a, b, r, he, rfl⟩ := xmCmpL_inv (show xmCmpL _ = some x' from h); cases he; exact ⟨_, rfl, hl⟩
  case ineg => obtain ⟨a, r, he, rfl⟩ := xmUI_inv (show xmUI _ _ = some x' from h); cases he; exact ⟨_, rfl, hl⟩
  case i2l => obtain ⟨a, r, he, rfl⟩ := xmUI_inv (show xmUI _ _ = some x' from h); cases he; exact ⟨_, rfl, hl⟩
  case i2c => obtain ⟨a, r, he, rfl⟩ := xmUI_inv (show xmUI _ _ = some x' from h); cases he; exact ⟨_, rfl, hl⟩
  case i2b => obtain ⟨a, r, he, rfl⟩ := xmUI_inv (show xmUI _ _ = some x' from h); cases he; exact ⟨_, rfl, hl⟩
  case l2i => obtain ⟨a, r, he, rfl⟩ := xmUL_inv (show xmUL _ _ = some x' from h); cases he; exact ⟨_, rfl, hl⟩
  case lneg => obtain ⟨a, r, he, rfl⟩ := xmUL_inv (show xmUL _ _ = some x' from h); cases he; exact ⟨_, rfl, hl⟩
  case iconst n => cases h; exact ⟨_, rfl, hl⟩
  case bipush n => cases h; exact ⟨_, rfl, hl⟩
  case sipush n => cases h; exact ⟨_, rfl, hl⟩
  case lconst n => cases h; exact ⟨_, rfl, hl⟩
  case ldc n => cases h; exact ⟨_, rfl, hl⟩
  case ldc2_w n => cases h; exact ⟨_, rfl, hl⟩
  case goto o => cases h; exact ⟨_, rfl, hl⟩
  case ifCond cd o => obtain ⟨a, r, he, rfl⟩ := xmIf_inv (show xmIf _ _ _ = some x' from h); cases he; exact ⟨_, rfl, hl⟩
  case if_icmp cd o => obtain ⟨a, b, r, he, rfl⟩ := xmIf2_inv (show xmIf2 _ _ _ = some x' from h); cases he; exact ⟨_, rfl, hl⟩
  case tableswitch d lo hi os => obtain ⟨a, r, he, rfl⟩ := xmSw_inv (show xmSw _ _ _ _ _ = some x' from h); cases he; exact ⟨_, rfl, hl⟩
  case lookupswitch d ps => obtain ⟨a, r, he, rfl⟩ := xmLk_inv (show xmLk _ _ _ = some x' from h); cases he; exact ⟨_, rfl, hl⟩
  all_goals first
    | (cases h; done)
    | (unfold xmPure at h ⊢; dsimp only at h ⊢
       first
         | (unfold xmDup at h ⊢; dsimp only at h ⊢; split at h <;> first | (cases h; exact ⟨_, rfl, hl⟩) | cases h)
         | (unfold xmPop at h ⊢; dsimp only at h ⊢; split at h <;> first | (cases h; exact ⟨_, rfl, hl⟩) | cases h)
         | (unfold xmDup2 at h ⊢; dsimp only at h ⊢; split at h <;> first | (cases h; exact ⟨_, rfl, hl⟩) | cases h)
         | (unfold xmStI at h ⊢; dsimp only at h ⊢; split at h <;> first | (cases h; exact ⟨_, rfl, hl.put1 _ _⟩) | cases h)
         | (unfold xmStL at h ⊢; dsimp only at h ⊢; split at h <;> first | (cases h; exact ⟨_, rfl, hl.put2 _ _⟩) | cases h)
         | (unfold xmStA at h ⊢; dsimp only at h ⊢; split at h <;> first | (cases h; exact ⟨_, rfl, hl.put1 _ _⟩) | cases h)
         | (unfold xmLdI at h ⊢; dsimp only at h ⊢; split at h <;> first | (cases h; rename_i hg; rw [hl.get hg]; exact ⟨_, rfl, hl⟩) | cases h)
         | (unfold xmLdL at h ⊢; dsimp only at h ⊢; split at h <;> first | (cases h; rename_i hg; rw [hl.get hg]; exact ⟨_, rfl, hl⟩) | cases h)
         | (unfold xmLdA at h ⊢; dsimp only at h ⊢; split at h <;> first | (cases h; rename_i hg; rw [hl.get hg]; exact ⟨_, rfl, hl⟩) | cases h)
         | (unfold xmInc at h ⊢; dsimp only at h ⊢; split at h <;> first | (cases h; rename_i hg; rw [hl.get hg]; exact ⟨_, rfl, hl.put1 _ _⟩) | cases h))
theorem xmHR_lv {V : xmV} {i : xmI} {pc : Nat} {lv : xmL} {st : List Value} {G : xmH} {x' : xmC} (lv2 : xmL) (h : xmHR V i (pc, lv, st, G) x') : x'.2.1 = lv ∧ xmHR V i (pc, lv2, st, G) (x'.1, lv2, x'.2.2.1, x'.2.2.2) := by
  obtain ⟨ins, len, aux⟩ := i
  cases ins
  case getfield idx =>
    rcases h with ⟨a, r, h1, h2, ⟨h3, rfl⟩ | ⟨h3, rfl⟩⟩ | ⟨h0, a, fs, v, r, h1, h2, h3, rfl⟩
    · exact ⟨rfl, Or.inl ⟨a, r, h1, h2, Or.inl ⟨h3, rfl⟩⟩⟩
    · exact ⟨rfl, Or.inl ⟨a, r, h1, h2, Or.inr ⟨h3, rfl⟩⟩⟩
    · exact ⟨rfl, Or.inr ⟨h0, a, fs, v, r, h1, h2, h3, rfl⟩⟩
  case getstatic idx =>
    rcases h with ⟨h1, rfl⟩ | ⟨h1, rfl⟩
    · exact ⟨rfl, Or.inl ⟨h1, rfl⟩⟩
    · exact ⟨rfl, Or.inr ⟨h1, rfl⟩⟩
  case putfield idx => obtain ⟨a, fs, v, r, h1, h2, h3, h4, rfl⟩ := h; exact ⟨rfl, a, fs, v, r, h1, h2, h3, h4, rfl⟩
  case iaload =>
    rcases h with ⟨j, r, h1, h2, h3, rfl⟩ | ⟨a, vs, j, v, r, h1, h2, h3, h4, rfl⟩
    · exact ⟨rfl, Or.inl ⟨j, r, h1, h2, h3, rfl⟩⟩
    · exact ⟨rfl, Or.inr ⟨a, vs, j, v, r, h1, h2, h3, h4, rfl⟩⟩
  case laload => obtain ⟨a, vs, j, v, r, h1, h2, h3, h4, rfl⟩ := h; exact ⟨rfl, a, vs, j, v, r, h1, h2, h3, h4, rfl⟩
  case iastore => obtain ⟨a, vs, j, y, r, h1, h2, h3, h4, rfl⟩ := h; exact ⟨rfl, a, vs, j, y, r, h1, h2, h3, h4, rfl⟩
  case lastore => obtain ⟨a, vs, j, y, r, h1, h2, h3, h4, rfl⟩ := h; exact ⟨rfl, a, vs, j, y, r, h1, h2, h3, h4, rfl⟩
  case baload =>
    rcases h with ⟨a, j, z, r, h1, h2, h3, h4, rfl⟩ | ⟨a, t, vs, j, v, r, h1, h2, h3, h4, h5, rfl⟩
    · exact ⟨rfl, Or.inl ⟨a, j, z, r, h1, h2, h3, h4, rfl⟩⟩
    · exact ⟨rfl, Or.inr ⟨a, t, vs, j, v, r, h1, h2, h3, h4, h5, rfl⟩⟩
  case bastore => obtain ⟨a, t, vs, j, y, r, h1, h2, h3, h4, h5, rfl⟩ := h; exact ⟨rfl, a, t, vs, j, y, r, h1, h2, h3, h4, h5, rfl⟩
  case arraylength =>
    rcases h with ⟨a, r, h1, h2, rfl⟩ | ⟨r, h1, rfl⟩ | ⟨a, t, vs, r, h1, h2, h3, rfl⟩
    · exact ⟨rfl, Or.inl ⟨a, r, h1, h2, rfl⟩⟩
    · exact ⟨rfl, Or.inr (Or.inl ⟨r, h1, rfl⟩)⟩
    · exact ⟨rfl, Or.inr (Or.inr ⟨a, t, vs, r, h1, h2, h3, rfl⟩)⟩
  case newarray t => obtain ⟨n, r, h1, h2, h3, rfl⟩ := h; exact ⟨rfl, n, r, h1, h2, h3, rfl⟩
  case new idx => cases h; exact ⟨rfl, rfl⟩
  all_goals exact h.elim
theorem xmIR_lv {O : xmO} {i : xmI} {pc : Nat} {lv : xmL} {st : List Value} {G : xmH} {x' : xmC} (lv2 : xmL) (h : xmIR O i (pc, lv, st, G) x') : x'.2.1 = lv ∧ xmIR O i (pc, lv2, st, G) (x'.1, lv2, x'.2.2.1, x'.2.2.2) := by
  obtain ⟨ins, len, aux⟩ := i
  cases ins
  case invokestatic idx =>
    rcases h with ⟨hm, a, b, rest, h1, h2, rfl⟩ | ⟨hm, a, b, rest, h1, h2, rfl⟩ | ⟨hm, a0, a1, vs, ws, rest, sp, dp, n, h1, h2, h3, h4, h5, h6, h7, h8, h9, h10, rfl⟩ | ⟨hm, av, rest, r1, G1, a1, a2, a3, ho, rfl⟩
    · exact ⟨rfl, Or.inl ⟨hm, a, b, rest, h1, h2, rfl⟩⟩
    · exact ⟨rfl, Or.inr (Or.inl ⟨hm, a, b, rest, h1, h2, rfl⟩)⟩
    · exact ⟨rfl, Or.inr (Or.inr (Or.inl ⟨hm, a0, a1, vs, ws, rest, sp, dp, n, h1, h2, h3, h4, h5, h6, h7, h8, h9, h10, rfl⟩))⟩
    · exact ⟨rfl, Or.inr (Or.inr (Or.inr ⟨hm, av, rest, r1, G1, a1, a2, a3, ho, rfl⟩))⟩
  case invokevirtual idx =>
    rcases h with ⟨hm, b, As, rest, r1, G1, a1, a2, a3, a4, ho, rfl⟩ | ⟨hm, b, As, rest, r1, G1, fs, a1, a2, a3, a4, ho, rfl⟩
    · exact ⟨rfl, Or.inl ⟨hm, b, As, rest, r1, G1, a1, a2, a3, a4, ho, rfl⟩⟩
    · exact ⟨rfl, Or.inr ⟨hm, b, As, rest, r1, G1, fs, a1, a2, a3, a4, ho, rfl⟩⟩
  case invokespecial idx =>
    rcases h with ⟨hm, b, rest, a1, a2, rfl⟩ | ⟨hm, b, As, rest, G1, a1, a2, a3, ho, rfl⟩
    · exact ⟨rfl, Or.inl ⟨hm, b, rest, a1, a2, rfl⟩⟩
    · exact ⟨rfl, Or.inr ⟨hm, b, As, rest, G1, a1, a2, a3, ho, rfl⟩⟩
  all_goals exact h.elim
theorem xmRun_lv {V : xmV} {O : xmO} {k : Nat} : ∀ {n : Nat} {pc : Nat} {lv lv2 : xmL} {st : List Value} {G : xmH} {r : Option Value} {G' : xmH}, xlv lv lv2 → xmRun V O k n (pc, lv, st, G) r G' → xmRun V O k n (pc, lv2, st, G) r G' := by
  intro n
  induction n with
  | zero => intro pc lv lv2 st G r G' hl h; exact h
  | succ n ih =>
    intro pc lv lv2 st G r G' hl h
    obtain ⟨i, hi, ⟨x', h1, h2⟩ | ⟨h1, h2⟩⟩ := h
    · obtain ⟨pc', lv', st', G1⟩ := x'
      rcases h1 with h1 | h1 | h1
      · obtain ⟨lv2', e1, e2⟩ := xmPure_lv hl h1
        exact ⟨i, hi, Or.inl ⟨_, Or.inl e1, ih e2 h2⟩⟩
      · obtain ⟨e1, e2⟩ := xmHR_lv lv2 h1
        have e1 : lv' = lv := e1
        subst e1
        exact ⟨i, hi, Or.inl ⟨_, Or.inr (Or.inl e2), ih hl h2⟩⟩
      · obtain ⟨e1, e2⟩ := xmIR_lv lv2 h1
        have e1 : lv' = lv := e1
        subst e1
        exact ⟨i, hi, Or.inl ⟨_, Or.inr (Or.inr e2), ih hl h2⟩⟩
    · exact ⟨i, hi, Or.inr ⟨h1, h2⟩⟩
theorem h_lv {V : xmV} {L : List Nat} {Kc Ks k : Nat} {r : Option Value} {H H' : xHp} {pc : Nat} {lv lv2 : xmL} {st : List Value} (hl : ∀ q ∈ lv, xmGet lv2 q.1 = some q.2) (hn : (lv2.map Prod.fst).Nodup) (e : HE V L Kc Ks k (pc, lv, st, H) r H') : HE V L Kc Ks k (pc, lv2, st, H) r H' := by
  obtain ⟨d, e⟩ := e
  refine ⟨d, fun G hG => ?_⟩
  obtain ⟨G', h1, n, h2⟩ := e G hG
  exact ⟨G', h1, n, xmRun_lv ⟨hl, hn⟩ h2⟩
theorem fa_n {P : Nat × Value → Prop} : ∀ q ∈ ([] : xmL), P q := fun _ h => by cases h
theorem fa_c {P : Nat × Value → Prop} {q0 : Nat × Value} {lv : xmL} (h0 : P q0) (h1 : ∀ q ∈ lv, P q) : ∀ q ∈ q0 :: lv, P q := fun q hq => by
  rcases List.mem_cons.mp hq with rfl | hq
  · exact h0
  · exact h1 q hq
theorem if_y {α : Type} {p : Prop} {q : Decidable p} {a b c : α} (hp : p) (h : @ite α p q a b = c) : a = c := by rwa [if_pos hp] at h
theorem if_n {α : Type} {p : Prop} {q : Decidable p} {a b c : α} (hp : ¬ p) (h : @ite α p q a b = c) : b = c := by rwa [if_neg hp] at h
theorem b01_1 {b : Bool} (h : b = true) : ¬ b01 b = 0 := by subst h; decide
theorem b01_0 {b : Bool} (h : ¬ b = true) : b01 b = 0 := by cases b with | false => rfl | true => exact absurd rfl h
def xkN : List Nat → Bool
  | [] => true
  | a :: l => !(l.any (Nat.beq a)) && xkN l
theorem xkN_ok {l : List Nat} (h : xkN l = true) : l.Nodup := by
  induction l with
  | nil => exact List.nodup_nil
  | cons a l ih =>
    unfold xkN at h
    rw [Bool.and_eq_true] at h
    rw [List.nodup_cons]
    refine ⟨fun hm => ?_, ih h.2⟩
    have h1 : l.any (Nat.beq a) = true := List.any_eq_true.mpr ⟨a, hm, Nat.beq_refl a⟩
    rw [h1] at h
    cases h.1
theorem h_lw {V : xmV} {L : List Nat} {Kc Ks k : Nat} {r : Option Value} {H H' : xHp} {pc : Nat} {lv lv2 : xmL} {st : List Value} (hl : ∀ q ∈ lv, xmGet lv2 q.1 = some q.2) (hn : xkN (lv2.map Prod.fst) = true) (e : HE V L Kc Ks k (pc, lv, st, H) r H') : HE V L Kc Ks k (pc, lv2, st, H) r H' := h_lv hl (xkN_ok hn) e
