/-! ROWS AS LISTS: an abstract heap A; kind 7: a row, [most, its ints ..]; the int[] behind it is hidden -/
def xrow (mo : Nat) (xs : List Int32) : xmE := (7, .int (nI mo) :: xs.map Value.int)
theorem xrow_inj {mo mo' : Nat} {xs xs' : List Int32} (h : xrow mo xs = xrow mo' xs') : nI mo = nI mo' ∧ xs = xs' := by
  unfold xrow at h
  simp only [Prod.mk.injEq, List.cons.injEq, Value.int.injEq, true_and] at h
  exact ⟨h.1, List.map_inj_right (fun a b e => Value.int.inj e) |>.mp h.2⟩
/-- what slots a row may still ask for -/
def xphi (mo cp : Nat) : Nat := if cp < mo then 2 * (mo - cp) + mo else 0
/-- L: all rows; mo, ow, cp: a row's most, its array, that one's length -/
def xmAw (L : List Nat) (Kc Ks : Nat) (mo ow cp : Nat → Nat) (A : Nat → xmE) (G : xmH) : Prop :=
  L.Nodup ∧ (∀ a, (A a).1 = 7 → a ∈ L) ∧
  (∀ a ∈ L, ∃ (xs : List Int32) (jk : List Int32), A a = xrow (mo a) xs ∧ G.1 a = (16, [.int (nI (mo a)), .ref (ow a), .int (nI xs.length)]) ∧ G.1 (ow a) = (1, (xs ++ jk).map Value.int) ∧ (xs ++ jk).length = cp a ∧ 16 ≤ cp a ∧ cp a ≤ mo a ∧ mo a ≤ 65536 ∧ (A (ow a)).1 = 0 ∧ ow a < G.2.1) ∧
  (∀ a ∈ L, ∀ b ∈ L, ow a = ow b → a = b) ∧
  (∀ a, (A a).1 ≠ 0 → a < G.2.1 ∧ ((A a).1 ≠ 7 → G.1 a = A a)) ∧
  G.2.1 + (L.map (fun a => mo a - cp a)).sum ≤ Kc ∧ G.2.2 + (L.map (fun a => xphi (mo a) (cp a))).sum ≤ Ks
def xmAb (L : List Nat) (Kc Ks : Nat) (A : Nat → xmE) (G : xmH) : Prop := ∃ mo ow cp, xmAw L Kc Ks mo ow cp A G
theorem sum_up {L : List Nat} {f g : Nat → Nat} {a : Nat} (hn : L.Nodup) (ha : a ∈ L) (hg : ∀ b, b ≠ a → g b = f b) : (L.map g).sum + f a = (L.map f).sum + g a := by
  induction L with
  | nil => cases ha
  | cons c L ih =>
    rw [List.nodup_cons] at hn
    rw [List.map_cons, List.map_cons, List.sum_cons, List.sum_cons]
    by_cases e : a = c
    · subst e
      have e2 : L.map g = L.map f := List.map_congr_left (fun b hb => hg b (fun z => hn.1 (z ▸ hb)))
      rw [e2]
      omega
    · have h1 := ih hn.2 ((List.mem_cons.mp ha).resolve_left e)
      have h2 := hg c (fun z => e z.symm)
      omega
/-- a row takes another list, in its array or in a new one -/
theorem xmAw.row {L : List Nat} {Kc Ks : Nat} {mo ow cp : Nat → Nat} {A : Nat → xmE} {G G' : xmH} {a b : Nat} {xs' jk' : List Int32} (h : xmAw L Kc Ks mo ow cp A G) (ha : a ∈ L)
    (h1 : G'.1 a = (16, [.int (nI (mo a)), .ref b, .int (nI xs'.length)])) (h2 : G'.1 b = (1, (xs' ++ jk').map Value.int)) (h3 : 16 ≤ (xs' ++ jk').length) (h4 : (xs' ++ jk').length ≤ mo a)
    (hb : (b = ow a ∧ G'.2.1 = G.2.1) ∨ (b = G.2.1 ∧ G'.2.1 = G.2.1 + 1)) (ho : ∀ q, q ≠ a → q ≠ b → G'.1 q = G.1 q)
    (hc : G'.2.1 + (mo a - (xs' ++ jk').length) ≤ G.2.1 + (mo a - cp a)) (hs : G'.2.2 + xphi (mo a) (xs' ++ jk').length ≤ G.2.2 + xphi (mo a) (cp a)) : xmAb L Kc Ks (xmUp A a (xrow (mo a) xs')) G' := by
  obtain ⟨hn, hL, hrow, hinj, hoth, hcs, hss⟩ := h
  obtain ⟨xs, jk, ra, rg, rw0, rl, r16, rm, r64, ro, rlt⟩ := hrow a ha
  have hage : a < G.2.1 := (hoth a (by rw [ra]; exact (by decide : (7 : Nat) ≠ 0))).1
  have hle : G.2.1 ≤ G'.2.1 := by rcases hb with ⟨-, e⟩ | ⟨-, e⟩ <;> omega
  have hblt : b < G'.2.1 := by rcases hb with ⟨e, e2⟩ | ⟨e, e2⟩ <;> omega
  have hab : a ≠ b := by
    rcases hb with ⟨e, -⟩ | ⟨e, -⟩
    · intro z
      have h9 : (A (ow a)).1 = 0 := ro
      rw [← e, ← z, ra] at h9
      exact absurd (show (7 : Nat) = 0 from h9) (by decide)
    · omega
  have hA0 : (A b).1 = 0 := by
    rcases hb with ⟨e, -⟩ | ⟨e, -⟩
    · rw [e]; exact ro
    · by_cases z : (A b).1 = 0
      · exact z
      · have := (hoth b z).1
        omega
  have tag : ∀ q, ((xmUp A a (xrow (mo a) xs')) q).1 = (A q).1 := by
    intro q
    by_cases e : q = a
    · subst e
      rw [xmUp_self, ra]
      rfl
    · rw [xmUp_ne _ _ e]
  have obn : ∀ q ∈ L, q ≠ a → ow q ≠ b ∧ ow q ≠ a := by
    intro q hq e
    obtain ⟨xq, jq, qa, -, -, -, -, -, -, q0, qlt⟩ := hrow q hq
    refine ⟨fun z => ?_, fun z => ?_⟩
    · rcases hb with ⟨e2, -⟩ | ⟨e2, -⟩
      · exact e (hinj q hq a ha (z.trans e2))
      · omega
    · rw [z, ra] at q0
      exact absurd (show (7 : Nat) = 0 from q0) (by decide)
  refine ⟨mo, xmUp ow a b, xmUp cp a (xs' ++ jk').length, hn, fun q hq => hL q (by rw [← tag q]; exact hq), fun q hq => ?_, fun q hq q2 hq2 e => ?_, fun q hq => ?_, ?_, ?_⟩
  · by_cases e : q = a
    · subst e
      refine ⟨xs', jk', xmUp_self _ _ _, ?_, ?_, ?_, ?_, ?_, r64, ?_, ?_⟩
      · rw [xmUp_self]; exact h1
      · rw [xmUp_self]; exact h2
      · rw [xmUp_self]
      · rw [xmUp_self]; exact h3
      · rw [xmUp_self]; exact h4
      · rw [xmUp_self, tag]; exact hA0
      · rw [xmUp_self]; exact hblt
    · obtain ⟨xq, jq, qa, qg, qw, ql, q16, qm, q64, q0, qlt⟩ := hrow q hq
      obtain ⟨o1, o2⟩ := obn q hq e
      have hqb : q ≠ b := fun z => by
        rw [← z, qa] at hA0
        exact absurd (show (7 : Nat) = 0 from hA0) (by decide)
      refine ⟨xq, jq, ?_, ?_, ?_, ?_, ?_, ?_, q64, ?_, ?_⟩
      · rw [xmUp_ne _ _ e]; exact qa
      · rw [xmUp_ne _ _ e, ho q e hqb]; exact qg
      · rw [xmUp_ne _ _ e, ho _ o2 o1]; exact qw
      · rw [xmUp_ne _ _ e]; exact ql
      · rw [xmUp_ne _ _ e]; exact q16
      · rw [xmUp_ne _ _ e]; exact qm
      · rw [xmUp_ne _ _ e, tag]; exact q0
      · rw [xmUp_ne _ _ e]; omega
  · by_cases e1 : q = a
    · by_cases e2 : q2 = a
      · rw [e1, e2]
      · rw [e1, xmUp_self, xmUp_ne _ _ e2] at e
        exact absurd e.symm (obn q2 hq2 e2).1
    · by_cases e2 : q2 = a
      · rw [e2, xmUp_self, xmUp_ne _ _ e1] at e
        exact absurd e (obn q hq e1).1
      · rw [xmUp_ne _ _ e1, xmUp_ne _ _ e2] at e
        exact hinj q hq q2 hq2 e
  · rw [tag] at hq
    obtain ⟨g1, g2⟩ := hoth q hq
    refine ⟨by omega, fun g3 => ?_⟩
    rw [tag] at g3
    have e : q ≠ a := fun z => by
      rw [z, ra] at g3
      exact g3 rfl
    have e2 : q ≠ b := fun z => by
      rw [z] at hq
      exact hq hA0
    rw [xmUp_ne _ _ e, ho q e e2]
    exact g2 g3
  · have e := sum_up (f := fun q => mo q - cp q) (g := fun q => mo q - xmUp cp a (xs' ++ jk').length q) hn ha (fun q hq => by rw [xmUp_ne _ _ hq])
    rw [xmUp_self] at e
    omega
  · have e := sum_up (f := fun q => xphi (mo q) (cp q)) (g := fun q => xphi (mo q) (xmUp cp a (xs' ++ jk').length q)) hn ha (fun q hq => by rw [xmUp_ne _ _ hq])
    rw [xmUp_self] at e
    omega
/-- a call over abstract heaps -/
def xmCA (V : xmV) (L : List Nat) (Kc Ks : Nat) (d k : Nat) (av : List Value) (A : Nat → xmE) (r : Option Value) (A' : Nat → xmE) : Prop := ∀ G, xmAb L Kc Ks A G → ∃ G', xmAb L Kc Ks A' G' ∧ xmCall V d k av G r G'
def xsAt (xs : List Int32) (i : Int32) : Int32 := if i < 0 then 0 else xs.getD i.toNatClampNeg 0
def xsSet (xs : List Int32) (i v : Int32) : List Int32 := if i < 0 then xs else xs.set i.toNatClampNeg v
section Rows
variable {V : xmV} {L : List Nat} {Kc Ks d : Nat} {A : Nat → xmE} {a mo : Nat} {xs : List Int32}
/-- what stands behind a row -/
theorem xm_row {G : xmH} {mo0 ow cp : Nat → Nat} (h : xmAw L Kc Ks mo0 ow cp A G) (hA : A a = xrow mo xs) : a ∈ L ∧ nI (mo0 a) = nI mo ∧ ∃ jk : List Int32, G.1 a = (16, [.int (nI (mo0 a)), .ref (ow a), .int (nI xs.length)]) ∧ G.1 (ow a) = (1, (xs ++ jk).map Value.int) ∧ (xs ++ jk).length = cp a ∧ 16 ≤ cp a ∧ cp a ≤ mo0 a ∧ mo0 a ≤ 65536 ∧ ow a < G.2.1 ∧ ow a ≠ a := by
  have hL := h.2.1 a (by rw [hA]; rfl)
  obtain ⟨xs1, jk, e1, e2, e3, e4, e5, e6, e7, e8, e9⟩ := h.2.2.1 a hL
  obtain ⟨e10, rfl⟩ := xrow_inj (e1.symm.trans hA)
  refine ⟨hL, e10, jk, e2, e3, e4, e5, e6, e7, e9, fun z => ?_⟩
  rw [z, hA] at e8
  exact absurd (show (7 : Nat) = 0 from e8) (by decide)
theorem row_size (hA : A a = xrow mo xs) : xmCA V L Kc Ks (d + 1) 1 [.ref a] A (some (.int (nI xs.length))) A := by
  intro G hG
  obtain ⟨mo0, ow, cp, h⟩ := hG
  obtain ⟨hL, hm, jk, e1, -⟩ := xm_row h hA
  refine ⟨G, ⟨mo0, ow, cp, h⟩, xmCall_of (by decide) (Nat.le_of_ble_eq_true rfl) ?_⟩
  refine ev_it 1 (x' := (1, [(0, .ref a)], [.ref a], G)) rfl ?_
  refine ev_get rfl rfl e1 rfl ?_
  exact ev_iret rfl rfl rfl
theorem row_get (hA : A a = xrow mo xs) (i : Int32) : xmCA V L Kc Ks (d + 1) 5 [.ref a, .int i] A (some (.int (xsAt xs i))) A := by
  intro G hG
  obtain ⟨mo0, ow, cp, h⟩ := hG
  obtain ⟨hL, hm, jk, e1, e2, e3, e4, e5, e6, e7, e8⟩ := xm_row h hA
  refine ⟨G, ⟨mo0, ow, cp, h⟩, xmCall_of (by decide) (Nat.le_of_ble_eq_true rfl) ?_⟩
  refine ev_it 1 (x' := (1, [(0, .ref a), (1, .int i)], [.int i], G)) rfl ?_
  have hl : ((xs ++ jk).map Value.int).length = cp a := by rw [List.length_map]; exact e3
  have hx : xs.length ≤ cp a := by rw [← e3, List.length_append]; omega
  refine ev_br rfl rfl (fun h1 => ?_) (fun h1 => ?_)
  · have h1 : i < 0 := of_decide_eq_true h1
    refine ev_it 1 (x' := (31, [(0, .ref a), (1, .int i)], [.int 0], G)) rfl ?_
    rw [xsAt, if_pos h1]
    exact ev_iret rfl rfl rfl
  · have h1 : ¬ i < 0 := of_decide_eq_false h1
    rw [xsAt, if_neg h1]
    obtain ⟨j, hj, rfl⟩ := nI_of h1
    rw [nI_clamp hj]
    refine ev_it 2 (x' := (6, [(0, .ref a), (1, .int (nI j))], [.ref a, .int (nI j)], G)) rfl ?_
    refine ev_get rfl rfl e1 rfl ?_
    refine ev_br rfl rfl (fun h2 => ?_) (fun h2 => ?_)
    · have h2 : nI xs.length ≤ nI j := of_decide_eq_true h2
      rw [nI_leI (by omega) hj] at h2
      refine ev_it 1 (x' := (31, [(0, .ref a), (1, .int (nI j))], [.int 0], G)) rfl ?_
      rw [List.getD_eq_getElem?_getD, List.getElem?_eq_none h2]
      exact ev_iret rfl rfl rfl
    · have h2 : ¬ nI xs.length ≤ nI j := of_decide_eq_false h2
      rw [nI_leI (by omega) hj] at h2
      have h3 : j < xs.length := by omega
      refine ev_it 2 (x' := (14, [(0, .ref a), (1, .int (nI j))], [.ref a, .int (nI j)], G)) rfl ?_
      refine ev_get rfl rfl e1 rfl ?_
      refine ev_len rfl e2 (Or.inl rfl) ?_
      rw [hl]
      refine ev_br rfl rfl (fun h5 => ?_) (fun h5 => ?_)
      · have h5 : nI (cp a) ≤ nI j := of_decide_eq_true h5
        rw [nI_leI (by omega) hj] at h5
        omega
      · refine ev_it 1 (x' := (22, [(0, .ref a), (1, .int (nI j))], [.ref a], G)) rfl ?_
        refine ev_get rfl rfl e1 rfl ?_
        refine ev_it 1 (x' := (26, [(0, .ref a), (1, .int (nI j))], [.int (nI j), .ref (ow a)], G)) rfl ?_
        refine ev_iald (v := .int (xs.getD j 0)) rfl e2 h1 ?_ ?_
        · rw [nI_clamp hj, List.getElem?_map, List.getElem?_append_left h3, List.getD_eq_getElem?_getD, List.getElem?_eq_getElem h3]
          rfl
        · refine ev_it 1 (x' := (31, [(0, .ref a), (1, .int (nI j))], [.int (xs.getD j 0)], G)) rfl ?_
          exact ev_iret rfl rfl rfl
end Rows
