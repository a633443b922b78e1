/-! the nodes of a text while it is read: kind, parent, definition, spot (100: closed), size, names in reach, its names, place, place of its name, number -/
abbrev Nd : Type := (Nat × Int × Nat × Nat × Nat) × List Int64 × (Int64 × Int64) × Int32 × Int32 × Int32
def nK (x : Nd) : Nat := x.1.1
def nP (x : Nd) : Int := x.1.2.1
def nD (x : Nd) : Nat := x.1.2.2.1
def nS (x : Nd) : Nat := x.1.2.2.2.1
def nZ (x : Nd) : Nat := x.1.2.2.2.2
def nC (x : Nd) : List Int64 := x.2.1
def nA (x : Nd) : Int64 := x.2.2.1.1
def nB (x : Nd) : Int64 := x.2.2.1.2
def nL (x : Nd) : Int32 := x.2.2.2.1
def nQ (x : Nd) : Int32 := x.2.2.2.2.1
def nV (x : Nd) : Int32 := x.2.2.2.2.2
def mkN (k : Nat) (p : Int) (d s z : Nat) (c : List Int64) (a b : Int64) (l q v : Int32) : Nd := ((k, p, d, s, z), c, (a, b), l, q, v)
def uS (x : Nd) (s : Nat) : Nd := mkN (nK x) (nP x) (nD x) s (nZ x) (nC x) (nA x) (nB x) (nL x) (nQ x) (nV x)
def uA (x : Nd) (s : Nat) (a : Int64) (q : Int32) : Nd := mkN (nK x) (nP x) (nD x) s (nZ x) (nC x) a (nB x) (nL x) q (nV x)
def uB (x : Nd) (s : Nat) (b : Int64) : Nd := mkN (nK x) (nP x) (nD x) s (nZ x) (nC x) (nA x) b (nL x) (nQ x) (nV x)
def uE (x : Nd) (z : Nat) : Nd := mkN (nK x) (nP x) (nD x) 100 z (nC x) (nA x) (nB x) (nL x) (nQ x) (nV x)
def fu (σ : Nat → Nd) (k : Nat) (v : Nd) (j : Nat) : Nd := if j = k then v else σ j
theorem fu_s (σ : Nat → Nd) (k : Nat) (v : Nd) : fu σ k v k = v := if_pos rfl
theorem fu_n {σ : Nat → Nd} {k j : Nat} {v : Nd} (h : ¬ j = k) : fu σ k v j = σ j := if_neg h
def pr (σ : Nat → Nd) (j : Nat) : Int := nP (σ j)
/-! kinds -/
def kc (r : Nat) : Bool := r == 14 || r == 15 || r == 23
def kl (r : Nat) : Bool := r == 11 || r == 21
def kz (r : Nat) : Bool := r == 12 || r == 22
def hf (r : Nat) : Bool := r == 1 || kl r || kz r || kc r || r == 18
/-- spots that can be there -/
def so (r sp : Nat) : Bool := decide (3 ≤ r) && decide (r ≤ 23) && (if r = 10 ∨ r = 20 then decide (sp ≤ 3) else if kl r then decide (sp ≤ 5) else if kz r then decide (sp ≤ 9) && decide (sp ≠ 7) else if kc r then decide (sp ≤ 1) else if r = 16 ∨ r = 17 ∨ r = 19 then decide (sp ≤ 1) else if r = 18 then decide (sp ≤ 4) else decide (sp ≤ 2))
/-- parts ahead of a spot -/
def ct (r sp : Nat) : Nat := if r ≤ 2 then 0 else if r = 10 ∨ r = 20 then min sp 3 else if kl r then (if sp ≤ 1 then 0 else if sp ≤ 3 then 1 else 2) else if kz r then (if sp = 0 then 0 else if sp = 1 then 1 else if sp ≤ 5 then 2 else 3) else if r = 18 then (if sp = 0 then 0 else if sp ≤ 2 then 1 else 2) else if r = 16 ∨ r = 17 ∨ r = 19 then min sp 1 else min sp 2
/-- how many of its names are bound at a spot; around a part -/
def bnc (r sp : Nat) : Nat := if kl r then (if sp = 3 ∨ sp = 4 then 1 else 0) else if kz r then (if sp = 4 then 1 else if sp = 5 ∨ sp = 6 then 2 else 0) else if r = 18 then (if sp = 2 ∨ sp = 3 then 1 else 0) else 0
def bpc (r i : Nat) : Nat := if kl r ∨ r = 18 then (if i = 1 then 1 else 0) else if kz r then (if i = 2 then 2 else 0) else 0
def bnl (c : Nat) (a b : Int64) : List Int64 := if c = 0 then [] else if c = 1 then [a] else [a, b]
/-- a part that is changeable -/
def chp (r i : Nat) : Bool := r == 16 || r == 17 || (decide (0 < i) && (r == 18 || r == 20 || r == 21 || r == 22))
/-- turns to come that take no token -/
def bu (r sp : Nat) : Nat := if kl r then (if sp ≤ 2 then 2 else if sp ≤ 4 then 1 else 0) else if kz r then (if sp ≤ 6 then 2 else 0) else if r = 18 then (if sp ≤ 3 then 1 else 0) else 0
/-- its first name is there; its second one; where it stands is known -/
def nf (r sp : Nat) : Bool := r == 1 || (kl r && decide (1 ≤ sp)) || (kz r && decide (4 ≤ sp)) || (kc r && decide (1 ≤ sp)) || (r == 18 && decide (2 ≤ sp))
def ng (r sp : Nat) : Bool := kz r && decide (5 ≤ sp)
def nq (r sp : Nat) : Bool := (kl r || kc r) && decide (1 ≤ sp)
def sm (r sp s2 : Nat) : Bool := (nf r s2 == nf r sp) && (ng r s2 == ng r sp) && (nq r s2 == nq r sp)
/-- what a form asks for at its spots -/
def fa1 (r sp : Nat) : Bool := decide (rem r sp = 1 :: rem r (sp + 1)) && (decide (sym (ck r) sp = 69 ∨ sym (ck r) sp = 83 ∧ r < 18) && (decide (kc r = false) && (decide (chp r (ct r sp) = false) && (decide (so r (sp + 1) = true) && (decide (ct r (sp + 1) = ct r sp + 1) && (decide (bnc r (sp + 1) = bnc r sp) && (decide (bpc r (ct r sp) = bnc r (sp + 1)) && (decide (bu r (sp + 1) = bu r sp) && (decide (sm r sp (sp + 1) = true))))))))))
def fa2 (r sp : Nat) : Bool := decide (rem r sp = 2 :: rem r (sp + 1)) && (decide (sym (ck r) sp = 67 ∨ sym (ck r) sp = 83 ∧ 18 ≤ r) && (decide (kc r = false) && (decide (chp r (ct r sp) = true) && (decide (so r (sp + 1) = true) && (decide (ct r (sp + 1) = ct r sp + 1) && (decide (bnc r (sp + 1) = bnc r sp) && (decide (bpc r (ct r sp) = bnc r (sp + 1)) && (decide (bu r (sp + 1) = bu r sp) && (decide (sm r sp (sp + 1) = true))))))))))
def fa3 (r sp : Nat) : Bool := decide (rem r sp = [3]) && (decide (sym (ck r) sp = 41) && (decide (kc r = false) && (decide (ct r 100 = ct r sp) && (decide (bu r sp = 0) && (decide (bnc r sp = 0) && (decide (sm r sp 100 = true)))))))
def fa4 (r sp : Nat) : Bool := decide (rem r sp = 3 :: rem r (sp + 1)) && (decide (sym (ck r) sp = 73) && (decide (so r (sp + 1) = true) && (decide (ct r (sp + 1) = ct r sp) && (decide (bnc r (sp + 1) = bnc r sp) && (decide (bu r (sp + 1) = bu r sp) && (decide (sm r sp (sp + 1) = true)))))))
def fa5 (r sp : Nat) : Bool := decide (rem r sp = 4 :: rem r (sp + 1)) && (decide (sym (ck r) sp = 40) && (decide (so r (sp + 1) = true) && (decide (ct r (sp + 1) = ct r sp) && (decide (bnc r (sp + 1) = bnc r sp) && (decide (bu r (sp + 1) = bu r sp) && (decide (sm r sp (sp + 1) = true)))))))
def fa6 (r sp : Nat) : Bool := decide (rem r sp = [5, (if r < 18 then 1 else 2), 8, 3]) && (decide (rem r (sp + 1) = [1, 10, (if r < 18 then 1 else 2), 8, 3]) && (decide (sym (ck r) sp = 88) && (decide (kl r = true) && (decide (so r (sp + 1) = true) && (decide (ct r (sp + 1) = ct r sp) && (decide (bnc r (sp + 1) = 0) && (decide (bnc r sp = 0) && (decide (bu r (sp + 1) = bu r sp) && (decide (ct r sp = 0) && (decide (ng r (sp + 1) = false)))))))))))
def fa7 (r sp : Nat) : Bool := decide (rem r sp = 5 :: rem r (sp + 1)) && (decide (sym (ck r) sp = 86) && (decide (kl r = false) && (decide (so r (sp + 1) = true) && (decide (ct r (sp + 1) = ct r sp) && (decide (bnc r (sp + 1) = 1) && (decide (bnc r sp = 0) && (decide (bu r (sp + 1) = bu r sp) && (decide (ct r sp ≤ 2) && (decide (bpc r 0 = 0) && (decide (1 < ct r sp → bpc r 1 = 0) && (decide (kc r = false) && (decide (hf r = true) && (decide (ng r (sp + 1) = false) && (decide (nq r (sp + 1) = false)))))))))))))))
def fa8 (r sp : Nat) : Bool := decide (rem r sp = 6 :: rem r (sp + 1)) && (decide (sym (ck r) sp = 84) && (decide (kz r = true) && (decide (so r (sp + 1) = true) && (decide (ct r (sp + 1) = ct r sp) && (decide (bnc r (sp + 1) = 2) && (decide (bnc r sp = 1) && (decide (bu r (sp + 1) = bu r sp) && (decide (ct r sp ≤ 2) && (decide (bpc r 0 = 0) && (decide (1 < ct r sp → bpc r 1 = 0) && (decide (kc r = false) && (decide (nf r sp = true) && (decide (nq r (sp + 1) = false))))))))))))))
def fa9 (r sp : Nat) : Bool := decide (rem r sp = [7, 3]) && (decide (sym (ck r) sp = 42) && (decide (kc r = true) && (decide (sp = 1))))
def fa10 (r sp : Nat) : Bool := decide (rem r sp = 8 :: rem r (sp + 1)) && (decide (sym (ck r) sp = 85) && (decide (kz r = false) && (decide (so r (sp + 1) = true) && (decide (ct r (sp + 1) = ct r sp) && (decide (bnc r (sp + 1) = 0) && (decide (bnc r sp = 1) && (decide (bu r (sp + 1) + 1 = bu r sp) && (decide (sm r sp (sp + 1) = true) && (decide (kc r = false))))))))))
def fa11 (r sp : Nat) : Bool := decide (rem r sp = 8 :: rem r (sp + 2)) && (decide (sym (ck r) sp = 85) && (decide (sym (ck r) (sp + 1) = 85) && (decide (kz r = true) && (decide (so r (sp + 2) = true) && (decide (ct r (sp + 2) = ct r sp) && (decide (bnc r (sp + 2) = 0) && (decide (bnc r sp = 2) && (decide (bu r (sp + 2) + 2 = bu r sp) && (decide (sm r sp (sp + 2) = true) && (decide (kc r = false)))))))))))
def fa12 (r sp : Nat) : Bool := decide (rem r sp = 9 :: rem r (sp + 1)) && (decide (sym (ck r) sp = 70) && (decide (kc r = true) && (decide (sp = 0))))
def fa13 (r sp : Nat) : Bool := decide (rem r sp = 10 :: rem r (sp + 1)) && (decide (sym (ck r) sp = 66) && (decide (kl r = true) && (decide (so r (sp + 1) = true) && (decide (ct r (sp + 1) = ct r sp) && (decide (bnc r (sp + 1) = 1) && (decide (bnc r sp = 0) && (decide (bu r (sp + 1) + 1 = bu r sp) && (decide (sm r sp (sp + 1) = true) && (decide (kc r = false) && (decide (nq r sp = true)))))))))))
theorem form_b : ∀ r, r < 24 → ∀ sp, sp < 10 → so r sp = true → (fa1 r sp || (fa2 r sp || (fa3 r sp || (fa4 r sp || (fa5 r sp || (fa6 r sp || (fa7 r sp || (fa8 r sp || (fa9 r sp || (fa10 r sp || (fa11 r sp || (fa12 r sp || (fa13 r sp))))))))))))) = true := by decide +kernel
theorem form_tbl (r : Nat) (hr : r < 24) (sp : Nat) (hs : sp < 10) (h : so r sp = true) :
    ((rem r sp = 1 :: rem r (sp + 1) ∧ (sym (ck r) sp = 69 ∨ sym (ck r) sp = 83 ∧ r < 18) ∧ kc r = false ∧ chp r (ct r sp) = false ∧ so r (sp + 1) = true ∧ ct r (sp + 1) = ct r sp + 1 ∧ bnc r (sp + 1) = bnc r sp ∧ bpc r (ct r sp) = bnc r (sp + 1) ∧ bu r (sp + 1) = bu r sp ∧ sm r sp (sp + 1) = true) ∨
    (rem r sp = 2 :: rem r (sp + 1) ∧ (sym (ck r) sp = 67 ∨ sym (ck r) sp = 83 ∧ 18 ≤ r) ∧ kc r = false ∧ chp r (ct r sp) = true ∧ so r (sp + 1) = true ∧ ct r (sp + 1) = ct r sp + 1 ∧ bnc r (sp + 1) = bnc r sp ∧ bpc r (ct r sp) = bnc r (sp + 1) ∧ bu r (sp + 1) = bu r sp ∧ sm r sp (sp + 1) = true) ∨
    (rem r sp = [3] ∧ sym (ck r) sp = 41 ∧ kc r = false ∧ ct r 100 = ct r sp ∧ bu r sp = 0 ∧ bnc r sp = 0 ∧ sm r sp 100 = true) ∨
    (rem r sp = 3 :: rem r (sp + 1) ∧ sym (ck r) sp = 73 ∧ so r (sp + 1) = true ∧ ct r (sp + 1) = ct r sp ∧ bnc r (sp + 1) = bnc r sp ∧ bu r (sp + 1) = bu r sp ∧ sm r sp (sp + 1) = true) ∨
    (rem r sp = 4 :: rem r (sp + 1) ∧ sym (ck r) sp = 40 ∧ so r (sp + 1) = true ∧ ct r (sp + 1) = ct r sp ∧ bnc r (sp + 1) = bnc r sp ∧ bu r (sp + 1) = bu r sp ∧ sm r sp (sp + 1) = true) ∨
    (rem r sp = [5, (if r < 18 then 1 else 2), 8, 3] ∧ rem r (sp + 1) = [1, 10, (if r < 18 then 1 else 2), 8, 3] ∧ sym (ck r) sp = 88 ∧ kl r = true ∧ so r (sp + 1) = true ∧ ct r (sp + 1) = ct r sp ∧ bnc r (sp + 1) = 0 ∧ bnc r sp = 0 ∧ bu r (sp + 1) = bu r sp ∧ ct r sp = 0 ∧ ng r (sp + 1) = false) ∨
    (rem r sp = 5 :: rem r (sp + 1) ∧ sym (ck r) sp = 86 ∧ kl r = false ∧ so r (sp + 1) = true ∧ ct r (sp + 1) = ct r sp ∧ bnc r (sp + 1) = 1 ∧ bnc r sp = 0 ∧ bu r (sp + 1) = bu r sp ∧ ct r sp ≤ 2 ∧ bpc r 0 = 0 ∧ (1 < ct r sp → bpc r 1 = 0) ∧ kc r = false ∧ hf r = true ∧ ng r (sp + 1) = false ∧ nq r (sp + 1) = false) ∨
    (rem r sp = 6 :: rem r (sp + 1) ∧ sym (ck r) sp = 84 ∧ kz r = true ∧ so r (sp + 1) = true ∧ ct r (sp + 1) = ct r sp ∧ bnc r (sp + 1) = 2 ∧ bnc r sp = 1 ∧ bu r (sp + 1) = bu r sp ∧ ct r sp ≤ 2 ∧ bpc r 0 = 0 ∧ (1 < ct r sp → bpc r 1 = 0) ∧ kc r = false ∧ nf r sp = true ∧ nq r (sp + 1) = false) ∨
    (rem r sp = [7, 3] ∧ sym (ck r) sp = 42 ∧ kc r = true ∧ sp = 1) ∨
    (rem r sp = 8 :: rem r (sp + 1) ∧ sym (ck r) sp = 85 ∧ kz r = false ∧ so r (sp + 1) = true ∧ ct r (sp + 1) = ct r sp ∧ bnc r (sp + 1) = 0 ∧ bnc r sp = 1 ∧ bu r (sp + 1) + 1 = bu r sp ∧ sm r sp (sp + 1) = true ∧ kc r = false) ∨
    (rem r sp = 8 :: rem r (sp + 2) ∧ sym (ck r) sp = 85 ∧ sym (ck r) (sp + 1) = 85 ∧ kz r = true ∧ so r (sp + 2) = true ∧ ct r (sp + 2) = ct r sp ∧ bnc r (sp + 2) = 0 ∧ bnc r sp = 2 ∧ bu r (sp + 2) + 2 = bu r sp ∧ sm r sp (sp + 2) = true ∧ kc r = false) ∨
    (rem r sp = 9 :: rem r (sp + 1) ∧ sym (ck r) sp = 70 ∧ kc r = true ∧ sp = 0) ∨
    (rem r sp = 10 :: rem r (sp + 1) ∧ sym (ck r) sp = 66 ∧ kl r = true ∧ so r (sp + 1) = true ∧ ct r (sp + 1) = ct r sp ∧ bnc r (sp + 1) = 1 ∧ bnc r sp = 0 ∧ bu r (sp + 1) + 1 = bu r sp ∧ sm r sp (sp + 1) = true ∧ kc r = false ∧ nq r sp = true)) := by
  have e := form_b r hr sp hs h
  simp only [Bool.or_eq_true] at e
  rcases e with e | e | e | e | e | e | e | e | e | e | e | e | e
  · unfold fa1 at e
    simp only [Bool.and_eq_true, decide_eq_true_eq] at e
    exact Or.inl e
  · unfold fa2 at e
    simp only [Bool.and_eq_true, decide_eq_true_eq] at e
    exact Or.inr (Or.inl e)
  · unfold fa3 at e
    simp only [Bool.and_eq_true, decide_eq_true_eq] at e
    exact Or.inr (Or.inr (Or.inl e))
  · unfold fa4 at e
    simp only [Bool.and_eq_true, decide_eq_true_eq] at e
    exact Or.inr (Or.inr (Or.inr (Or.inl e)))
  · unfold fa5 at e
    simp only [Bool.and_eq_true, decide_eq_true_eq] at e
    exact Or.inr (Or.inr (Or.inr (Or.inr (Or.inl e))))
  · unfold fa6 at e
    simp only [Bool.and_eq_true, decide_eq_true_eq] at e
    exact Or.inr (Or.inr (Or.inr (Or.inr (Or.inr (Or.inl e)))))
  · unfold fa7 at e
    simp only [Bool.and_eq_true, decide_eq_true_eq] at e
    exact Or.inr (Or.inr (Or.inr (Or.inr (Or.inr (Or.inr (Or.inl e))))))
  · unfold fa8 at e
    simp only [Bool.and_eq_true, decide_eq_true_eq] at e
    exact Or.inr (Or.inr (Or.inr (Or.inr (Or.inr (Or.inr (Or.inr (Or.inl e)))))))
  · unfold fa9 at e
    simp only [Bool.and_eq_true, decide_eq_true_eq] at e
    exact Or.inr (Or.inr (Or.inr (Or.inr (Or.inr (Or.inr (Or.inr (Or.inr (Or.inl e))))))))
  · unfold fa10 at e
    simp only [Bool.and_eq_true, decide_eq_true_eq] at e
    exact Or.inr (Or.inr (Or.inr (Or.inr (Or.inr (Or.inr (Or.inr (Or.inr (Or.inr (Or.inl e)))))))))
  · unfold fa11 at e
    simp only [Bool.and_eq_true, decide_eq_true_eq] at e
    exact Or.inr (Or.inr (Or.inr (Or.inr (Or.inr (Or.inr (Or.inr (Or.inr (Or.inr (Or.inr (Or.inl e))))))))))
  · unfold fa12 at e
    simp only [Bool.and_eq_true, decide_eq_true_eq] at e
    exact Or.inr (Or.inr (Or.inr (Or.inr (Or.inr (Or.inr (Or.inr (Or.inr (Or.inr (Or.inr (Or.inr (Or.inl e)))))))))))
  · unfold fa13 at e
    simp only [Bool.and_eq_true, decide_eq_true_eq] at e
    exact Or.inr (Or.inr (Or.inr (Or.inr (Or.inr (Or.inr (Or.inr (Or.inr (Or.inr (Or.inr (Or.inr (Or.inr (e))))))))))))
theorem so_lt {r sp : Nat} (h : so r sp = true) : 3 ≤ r ∧ r < 24 ∧ sp < 10 := by
  unfold so at h
  rw [Bool.and_eq_true, Bool.and_eq_true, decide_eq_true_eq, decide_eq_true_eq] at h
  obtain ⟨⟨h1, h2⟩, h3⟩ := h
  refine ⟨h1, by omega, ?_⟩
  repeat' split at h3
  all_goals simp only [Bool.and_eq_true, decide_eq_true_eq] at h3; omega
theorem bnc_0 (r : Nat) : bnc r 0 = 0 := by
  unfold bnc
  repeat' split
  all_goals omega
theorem kc_t1 : ∀ r, r < 24 → kc r = true → bnc r 0 = 0 ∧ bnc r 1 = 0 ∧ kl r = false ∧ kz r = false ∧ hf r = true ∧ bu r 0 = 0 ∧ bu r 1 = 0 ∧ so r 0 = true := by decide +kernel
theorem kc_t2 : ∀ r, r < 24 → kc r = true → so r 1 = true ∧ nf r 1 = true ∧ nf r 100 = true ∧ ng r 1 = false ∧ ng r 100 = false ∧ nq r 1 = true ∧ nq r 100 = true ∧ ¬ (r = 18 ∨ r = 16 ∨ r = 17 ∨ r = 20 ∨ r = 21 ∨ r = 22) := by decide +kernel
theorem kc_tbl (r : Nat) (hr : r < 24) (h : kc r = true) : bnc r 0 = 0 ∧ bnc r 1 = 0 ∧ kl r = false ∧ kz r = false ∧ hf r = true ∧ bu r 0 = 0 ∧ bu r 1 = 0 ∧ so r 0 = true ∧ so r 1 = true ∧ nf r 1 = true ∧ nf r 100 = true ∧ ng r 1 = false ∧ ng r 100 = false ∧ nq r 1 = true ∧ nq r 100 = true ∧ ¬ (r = 18 ∨ r = 16 ∨ r = 17 ∨ r = 20 ∨ r = 21 ∨ r = 22) := by
  obtain ⟨a0, a1, a2, a3, a4, a5, a6, a7⟩ := kc_t1 r hr h
  exact ⟨a0, a1, a2, a3, a4, a5, a6, a7, kc_t2 r hr h⟩
theorem kc_bpc {r i : Nat} (h : kc r = true) (hr : r < 24) : bpc r i = 0 ∧ chp r i = false := by
  obtain ⟨-, -, h1, h2, -, -, -, -, -, -, -, -, -, -, -, h3⟩ := kc_tbl r hr h
  have e1 : ¬ r = 18 := fun e => h3 (by simp [e])
  have e2 : ¬ r = 16 := fun e => h3 (by simp [e])
  have e3 : ¬ r = 17 := fun e => h3 (by simp [e])
  have e4 : ¬ r = 20 := fun e => h3 (by simp [e])
  have e5 : ¬ r = 21 := fun e => h3 (by simp [e])
  have e6 : ¬ r = 22 := fun e => h3 (by simp [e])
  constructor
  · unfold bpc
    rw [h1, h2, if_neg (by simp [e1]), if_neg (by simp)]
  · unfold chp
    simp [e1, e2, e3, e4, e5, e6]
theorem bu_tbl : ∀ r, r < 24 → bu r 0 ≤ 2 := by decide +kernel
theorem new_tbl : ∀ r, r < 24 → 3 ≤ r → so r 0 = true ∧ (kc r = false → ct r 0 = 0) ∧ nf r 0 = false ∧ ng r 0 = false ∧ nq r 0 = false := by decide +kernel
/-- a node by itself -/
def NdO (T : List Int32) (x : Nd) : Prop := nK x ≤ 23 ∧ (nC x).length ≤ 24 ∧ (nf (nK x) (nS x) = true → 0 < nA x) ∧ (hf (nK x) = false → nA x = 0) ∧ (ng (nK x) (nS x) = true → 0 < nB x ∧ nB x ≠ nA x) ∧ (kz (nK x) = false → nB x = 0) ∧ (nq (nK x) (nS x) = true → NA T (nQ x) (nA x) ∧ (kl (nK x) = true → (nC x).length < 24))
theorem ndo_S {T : List Int32} {x : Nd} {s2 : Nat} (h : NdO T x) (hs : sm (nK x) (nS x) s2 = true) : NdO T (uS x s2) := by
  unfold sm at hs
  rw [Bool.and_eq_true, Bool.and_eq_true, beq_iff_eq, beq_iff_eq, beq_iff_eq] at hs
  obtain ⟨⟨h1, h2⟩, h3⟩ := hs
  obtain ⟨a1, a2, a3, a4, a5, a6, a7⟩ := h
  exact ⟨a1, a2, fun e => a3 (h1 ▸ e), a4, fun e => a5 (h2 ▸ e), a6, fun e => a7 (h3 ▸ e)⟩
theorem ndo_E {T : List Int32} {x : Nd} {z : Nat} (h : NdO T x) (hs : sm (nK x) (nS x) 100 = true) : NdO T (uE x z) := ndo_S (s2 := 100) h hs
/-- a node under its parent -/
def NdT (σ : Nat → Nd) (k : Nat) : Prop := nP (σ k) = -1 ∨ ∃ j : Nat, nP (σ k) = (j : Int) ∧ j < k ∧ nD (σ k) = nD (σ j) ∧ nC (σ k) = nC (σ j) ++ bnl (bpc (nK (σ j)) (pcnt (pr σ) j k)) (nA (σ j)) (nB (σ j)) ∧ decide (18 ≤ nK (σ k)) = chp (nK (σ j)) (pcnt (pr σ) j k)
/-- a node that is closed -/
def NdE (σ : Nat → Nd) (N : Nat) (w : List Nat) (k : Nat) : Prop := nS (σ k) = 100 ∧ 1 ≤ nZ (σ k) ∧ k + nZ (σ k) ≤ N ∧ (∀ i, k < i → i < k + nZ (σ k) → (k : Int) ≤ pr σ i) ∧ (k + nZ (σ k) < N → pr σ (k + nZ (σ k)) < (k : Int)) ∧ ∀ j ∈ w, j < k ∨ k + nZ (σ k) ≤ j
/-- names in reach, the top, and what is to be paid, of a stack -/
def up (σ : Nat → Nd) (ps : List Int64) : List Nat → List Int64
  | [] => ps
  | k :: _ => nC (σ k) ++ bnl (bnc (nK (σ k)) (nS (σ k))) (nA (σ k)) (nB (σ k))
def tp : List Nat → Int
  | [] => -1
  | k :: _ => (k : Int)
def pd (σ : Nat → Nd) : List Nat → Nat
  | [] => 0
  | k :: w => bu (nK (σ k)) (nS (σ k)) + pd σ w
def du (σ : Nat → Nd) : List Nat → List (Nat × Int32)
  | [] => []
  | k :: w => ((rem (nK (σ k)) (nS (σ k))).map fun x => (x, nI k)) ++ du σ w
def Ch (σ : Nat → Nd) (ps : List Int64) (d N : Nat) : List Nat → Prop
  | [] => True
  | k :: w => (k < N ∧ nP (σ k) = tp w ∧ nC (σ k) = up σ ps w ∧ so (nK (σ k)) (nS (σ k)) = true ∧ nD (σ k) = d) ∧ (∀ j ∈ w, j < k) ∧ Ch σ ps d N w
def WF (o : Nat) (T : List Int32) (σ : Nat → Nd) (N : Nat) (w : List Nat) (ps : List Int64) (d : Nat) : Prop :=
  PP (pr σ) N ∧
  (∀ k, k < N → NdO T (σ k) ∧ NdT σ k ∧ (kc (nK (σ k)) = false → pcnt (pr σ) k N + (if tp w = (k : Int) then o else 0) = ct (nK (σ k)) (nS (σ k)))) ∧
  (∀ k, k < N → k ∉ w → NdE σ N w k) ∧ Ch σ ps d N w ∧ (∀ k ∈ w, ∀ i, k < i → i < N → (k : Int) ≤ pr σ i) ∧ (up σ ps w).length ≤ 24
theorem up_cons (σ : Nat → Nd) (ps : List Int64) (k : Nat) (w : List Nat) : up σ ps (k :: w) = nC (σ k) ++ bnl (bnc (nK (σ k)) (nS (σ k))) (nA (σ k)) (nB (σ k)) := rfl
section Nodes
variable {T : List Int32} {σ τ : Nat → Nd} {N M d k o : Nat} {w w2 : List Nat} {ps : List Int64} {v nd : Nd}
theorem up_congr (h : ∀ j ∈ w, τ j = σ j) : up τ ps w = up σ ps w := by
  cases w with
  | nil => rfl
  | cons k w => rw [up_cons, up_cons, h k List.mem_cons_self]
theorem pd_congr : ∀ {w : List Nat}, (∀ j ∈ w, τ j = σ j) → pd τ w = pd σ w := by
  intro w
  induction w with
  | nil => intro _; rfl
  | cons k w ih => intro h; unfold pd; rw [h k List.mem_cons_self, ih (fun j hj => h j (List.mem_cons_of_mem _ hj))]
theorem du_congr : ∀ {w : List Nat}, (∀ j ∈ w, τ j = σ j) → du τ w = du σ w := by
  intro w
  induction w with
  | nil => intro _; rfl
  | cons k w ih => intro h; unfold du; rw [h k List.mem_cons_self, ih (fun j hj => h j (List.mem_cons_of_mem _ hj))]
theorem ch_congr (hN : N ≤ M) : ∀ {w : List Nat}, (∀ j ∈ w, τ j = σ j) → Ch σ ps d N w → Ch τ ps d M w := by
  intro w
  induction w with
  | nil => intro _ _; trivial
  | cons k w ih =>
    intro h hc
    obtain ⟨⟨a1, a2, a3, a4, a5⟩, b, c⟩ := hc
    have e := h k List.mem_cons_self
    have ht : ∀ j ∈ w, τ j = σ j := fun j hj => h j (List.mem_cons_of_mem _ hj)
    refine ⟨⟨by omega, by rw [e]; exact a2, by rw [e, up_congr ht]; exact a3, by rw [e]; exact a4, by rw [e]; exact a5⟩, b, ih ht c⟩
theorem ch_lt : ∀ {w : List Nat}, Ch σ ps d N w → ∀ j ∈ w, j < N := by
  intro w
  induction w with
  | nil => intro _ j hj; cases hj
  | cons k w ih =>
    intro hc j hj
    rcases List.mem_cons.mp hj with rfl | hj
    · exact hc.1.1
    · exact ih hc.2.2 j hj
theorem ch_tp (hc : Ch σ ps d N w) : ∀ j ∈ w, (j : Int) ≤ tp w := by
  intro j hj
  cases w with
  | nil => cases hj
  | cons k w =>
    rcases List.mem_cons.mp hj with rfl | hj
    · exact Int.le_refl _
    · have := hc.2.1 j hj
      show (j : Int) ≤ (k : Int)
      omega
theorem pcnt_lt {par : Nat → Int} {j k N : Nat} (h : par j = (k : Int)) (hj : j < N) : pcnt par k j < pcnt par k N := by
  have h1 := pcnt_mono (par := par) (k := k) (show j + 1 ≤ N by omega)
  have h2 : pcnt par k (j + 1) = pcnt par k j + 1 := by
    show pcnt par k j + (if par j = (k : Int) then 1 else 0) = _
    rw [if_pos h]
  omega
theorem fu_pr (h2 : nP v = nP (σ k)) : pr (fu σ k v) = pr σ := by
  funext j
  unfold pr
  by_cases y : j = k
  · rw [y, fu_s, h2]
  · rw [fu_n y]
theorem fu_T (h1 : nK v = nK (σ k)) (h2 : nP v = nP (σ k)) (h3 : nD v = nD (σ k)) (h4 : nC v = nC (σ k)) (hb : ∀ i, i < pcnt (pr σ) k N → bnl (bpc (nK (σ k)) i) (nA v) (nB v) = bnl (bpc (nK (σ k)) i) (nA (σ k)) (nB (σ k))) {j : Nat} (hj : j < N) (q2 : NdT σ j) : NdT (fu σ k v) j := by
  have ep := fu_pr (σ := σ) h2
  have eP : nP (fu σ k v j) = nP (σ j) := congrFun ep j
  have eK : ∀ i, nK (fu σ k v i) = nK (σ i) := fun i => by
    by_cases y : i = k
    · rw [y, fu_s, h1]
    · rw [fu_n y]
  have eD : ∀ i, nD (fu σ k v i) = nD (σ i) := fun i => by
    by_cases y : i = k
    · rw [y, fu_s, h3]
    · rw [fu_n y]
  have eC : ∀ i, nC (fu σ k v i) = nC (σ i) := fun i => by
    by_cases y : i = k
    · rw [y, fu_s, h4]
    · rw [fu_n y]
  unfold NdT at q2 ⊢
  rw [ep, eP]
  rcases q2 with q2 | ⟨i, a1, a2, a3, a4, a5⟩
  · exact Or.inl q2
  · refine Or.inr ⟨i, a1, a2, by rw [eD, eD]; exact a3, ?_, by rw [eK, eK]; exact a5⟩
    rw [eC, eC, eK]
    by_cases y : i = k
    · subst y
      rw [fu_s, hb _ (pcnt_lt a1 hj)]
      exact a4
    · rw [fu_n y]
      exact a4
/-- the top goes on in its form -/
theorem wf_adv (h : WF 0 T σ N (k :: w) ps d) (h1 : nK v = nK (σ k)) (h2 : nP v = nP (σ k)) (h3 : nD v = nD (σ k)) (h4 : nC v = nC (σ k)) (hO : NdO T v) (hct : kc (nK (σ k)) = false → ct (nK (σ k)) (nS v) = ct (nK (σ k)) (nS (σ k)) + o) (hso : so (nK (σ k)) (nS v) = true) (hb : ∀ i, i < pcnt (pr σ) k N → bnl (bpc (nK (σ k)) i) (nA v) (nB v) = bnl (bpc (nK (σ k)) i) (nA (σ k)) (nB (σ k))) (hl : (nC (σ k) ++ bnl (bnc (nK (σ k)) (nS v)) (nA v) (nB v)).length ≤ 24) : WF o T (fu σ k v) N (k :: w) ps d := by
  obtain ⟨p1, p2, p3, p4, p5, p6⟩ := h
  have ep := fu_pr (σ := σ) h2
  have hw : ∀ j ∈ w, fu σ k v j = σ j := fun j hj => fu_n (fun e => by have := p4.2.1 j hj; omega)
  refine ⟨by rw [ep]; exact p1, fun j hj => ?_, fun j hj hn => ?_, ?_, by rw [ep]; exact p5, ?_⟩
  · obtain ⟨q1, q2, q3⟩ := p2 j hj
    by_cases y : j = k
    · subst y
      refine ⟨by rw [fu_s]; exact hO, fu_T h1 h2 h3 h4 hb hj q2, fun z => ?_⟩
      rw [fu_s, h1] at z
      rw [ep, fu_s, h1, hct z, ← q3 z]
      rw [if_pos (show tp (j :: w) = (j : Int) from rfl), if_pos (show tp (j :: w) = (j : Int) from rfl)]
      omega
    · refine ⟨by rw [fu_n y]; exact q1, fu_T h1 h2 h3 h4 hb hj q2, fun z => ?_⟩
      rw [fu_n y] at z
      have q := q3 z
      have yt : ¬ tp (k :: w) = (j : Int) := fun e => y (by have e' : (k : Int) = (j : Int) := e; omega)
      rw [if_neg yt] at q
      rw [ep, fu_n y, if_neg yt]
      exact q
  · have y : ¬ j = k := fun e => hn (by rw [e]; exact List.mem_cons_self)
    have q := p3 j hj hn
    unfold NdE at q ⊢
    rw [ep, fu_n y]
    exact q
  · obtain ⟨⟨a1, a2, a3, a4, a5⟩, b, c⟩ := p4
    refine ⟨⟨a1, by rw [fu_s, h2]; exact a2, by rw [fu_s, h4, up_congr hw]; exact a3, by rw [fu_s, h1]; exact hso, by rw [fu_s, h3]; exact a5⟩, b, ch_congr (Nat.le_refl _) hw c⟩
  · rw [up_cons, fu_s, h4, h1]
    exact hl
/-- the top is closed -/
theorem wf_close (h : WF 0 T σ N (k :: w) ps d) (hO : NdO T (uE (σ k) (N - k))) (hct : kc (nK (σ k)) = false → ct (nK (σ k)) 100 = ct (nK (σ k)) (nS (σ k))) : WF 0 T (fu σ k (uE (σ k) (N - k))) N w ps d := by
  obtain ⟨p1, p2, p3, p4, p5, p6⟩ := h
  have ep : pr (fu σ k (uE (σ k) (N - k))) = pr σ := fu_pr rfl
  have hw : ∀ j ∈ w, fu σ k (uE (σ k) (N - k)) j = σ j := fun j hj => fu_n (fun e => by have := p4.2.1 j hj; omega)
  obtain ⟨⟨a1, a2, a3, a4, a5⟩, b, c⟩ := p4
  refine ⟨by rw [ep]; exact p1, fun j hj => ?_, fun j hj hn => ?_, ch_congr (Nat.le_refl _) hw c, fun j hj => ?_, ?_⟩
  · obtain ⟨q1, q2, q3⟩ := p2 j hj
    by_cases y : j = k
    · subst y
      refine ⟨by rw [fu_s]; exact hO, fu_T (σ := σ) (k := j) (v := uE (σ j) (N - j)) rfl rfl rfl rfl (fun _ _ => rfl) hj q2, fun z => ?_⟩
      rw [fu_s] at z ⊢
      have z' : kc (nK (σ j)) = false := z
      have q := q3 z'
      rw [ite_self] at q ⊢
      rw [ep]
      exact q.trans (hct z').symm
    · refine ⟨by rw [fu_n y]; exact q1, fu_T (σ := σ) (k := k) (v := uE (σ k) (N - k)) rfl rfl rfl rfl (fun _ _ => rfl) hj q2, fun z => ?_⟩
      rw [fu_n y] at z ⊢
      have q := q3 z
      rw [ite_self] at q ⊢
      rw [ep]
      exact q
  · unfold NdE
    rw [ep]
    by_cases y : j = k
    · subst y
      rw [fu_s]
      refine ⟨rfl, (by show 1 ≤ N - j; omega), (by show j + (N - j) ≤ N; omega), fun i i1 i2 => ?_, fun i1 => ?_, fun i hi => Or.inl (b i hi)⟩
      · have i2' : i < j + (N - j) := i2
        exact p5 j List.mem_cons_self i i1 (by omega)
      · have i1' : j + (N - j) < N := i1
        omega
    · rw [fu_n y]
      obtain ⟨b1, b2, b3, b4, b5, b6⟩ := p3 j hj (fun e => by
        rcases List.mem_cons.mp e with e | e
        · exact y e
        · exact hn e)
      exact ⟨b1, b2, b3, b4, b5, fun i hi => b6 i (List.mem_cons_of_mem _ hi)⟩
  · rw [ep]
    exact p5 j (List.mem_cons_of_mem _ hj)
  · rw [up_congr hw, ← a3]
    exact (p2 k a1).1.2.1
/-- one more node -/
theorem wf_node (h : WF 1 T σ N w ps d) (hP : nP nd = tp w) (hD : nD nd = d) (hC : nC nd = up σ ps w) (hO : NdO T nd) (hpar : ∀ k w1, w = k :: w1 → bpc (nK (σ k)) (pcnt (pr σ) k N) = bnc (nK (σ k)) (nS (σ k)) ∧ decide (18 ≤ nK nd) = chp (nK (σ k)) (pcnt (pr σ) k N)) (hct : kc (nK nd) = false → ct (nK nd) (nS nd) = 0) (hE : (w2 = w ∧ nS nd = 100 ∧ nZ nd = 1) ∨ (w2 = N :: w ∧ so (nK nd) (nS nd) = true ∧ nS nd = 0)) : WF 0 T (fu σ N nd) (N + 1) w2 ps d := by
  obtain ⟨p1, p2, p3, p4, p5, p6⟩ := h
  have eo : ∀ j, j < N → fu σ N nd j = σ j := fun j hj => fu_n (by omega)
  have ep : ∀ j, j < N → pr (fu σ N nd) j = pr σ j := fun j hj => by unfold pr; rw [eo j hj]
  have eN : pr (fu σ N nd) N = tp w := by unfold pr; rw [fu_s, hP]
  have hwN := ch_lt p4
  have hw : ∀ j ∈ w, fu σ N nd j = σ j := fun j hj => eo j (hwN j hj)
  have ec : ∀ i j, j ≤ N → pcnt (pr (fu σ N nd)) i j = pcnt (pr σ) i j := fun i j hj => pcnt_congr (fun l hl => ep l (by omega))
  have hPP : PP (pr (fu σ N nd)) (N + 1) := by
    refine pp_add p1 ep ?_
    cases w with
    | nil => exact Or.inl eN
    | cons k w =>
      have hk := hwN k List.mem_cons_self
      exact Or.inr ⟨k, eN, by omega, by omega, fun i i1 i2 => p5 k List.mem_cons_self i i1 (by omega)⟩
  have hsub : ∀ j ∈ w, j ∈ w2 := fun j hj => by
    rcases hE with ⟨rfl, -⟩ | ⟨rfl, -⟩
    · exact hj
    · exact List.mem_cons_of_mem _ hj
  refine ⟨hPP, fun j hj => ?_, fun j hj hn => ?_, ?_, fun j hj i i1 i2 => ?_, ?_⟩
  · by_cases y : j = N
    · subst y
      refine ⟨by rw [fu_s]; exact hO, ?_, fun z => ?_⟩
      · unfold NdT
        rw [fu_s]
        cases w with
        | nil => exact Or.inl hP
        | cons k w =>
          have hk := hwN k List.mem_cons_self
          obtain ⟨g1, g2⟩ := hpar k w rfl
          refine Or.inr ⟨k, hP, hk, by rw [eo k hk, hD]; exact p4.1.2.2.2.2.symm, ?_, by rw [eo k hk, ec k j (Nat.le_refl _)]; exact g2⟩
          rw [eo k hk, ec k j (Nat.le_refl _), g1, hC]
          rfl
      · rw [fu_s] at z
        rw [ite_self, pcnt_0 hPP (Nat.le_refl _) (Nat.le_refl _), fu_s, hct z]
    · have hj' : j < N := by omega
      obtain ⟨q1, q2, q3⟩ := p2 j hj'
      rw [eo j hj']
      refine ⟨q1, ?_, fun z => ?_⟩
      · unfold NdT at q2 ⊢
        rw [eo j hj']
        rcases q2 with q2 | ⟨i, a1, a2, a3, a4, a5⟩
        · exact Or.inl q2
        · refine Or.inr ⟨i, a1, a2, ?_, ?_, ?_⟩
          · rw [eo i (by omega)]; exact a3
          · rw [eo i (by omega), ec i j (by omega)]; exact a4
          · rw [eo i (by omega), ec i j (by omega)]; exact a5
      · rw [ite_self, ← q3 z]
        show pcnt (pr (fu σ N nd)) j N + (if pr (fu σ N nd) N = (j : Int) then 1 else 0) + 0 = _
        rw [ec j N (Nat.le_refl _), eN]
        rfl
  · unfold NdE
    by_cases y : j = N
    · subst y
      rcases hE with ⟨rfl, e1, e2⟩ | ⟨rfl, -⟩
      · rw [fu_s, e1, e2]
        exact ⟨rfl, by omega, by omega, fun i i1 i2 => by omega, fun i1 => by omega, fun i hi => Or.inl (hwN i hi)⟩
      · exact absurd List.mem_cons_self hn
    · have hj' : j < N := by omega
      obtain ⟨b1, b2, b3, b4, b5, b6⟩ := p3 j hj' (fun e => hn (hsub j e))
      rw [eo j hj']
      refine ⟨b1, b2, by omega, fun i i1 i2 => by rw [ep i (by omega)]; exact b4 i i1 i2, fun i1 => ?_, fun i hi => ?_⟩
      · by_cases y2 : j + nZ (σ j) < N
        · rw [ep _ y2]; exact b5 y2
        · have e : j + nZ (σ j) = N := by omega
          rw [e, eN]
          cases w with
          | nil => show (-1 : Int) < (j : Int); omega
          | cons k w =>
            have hk := hwN k List.mem_cons_self
            have := b6 k List.mem_cons_self
            show (k : Int) < (j : Int)
            omega
      · rcases hE with ⟨rfl, -⟩ | ⟨rfl, -⟩
        · exact b6 i hi
        · rcases List.mem_cons.mp hi with rfl | hi
          · exact Or.inr b3
          · exact b6 i hi
  · rcases hE with ⟨rfl, -⟩ | ⟨rfl, e1, e2⟩
    · exact ch_congr (Nat.le_succ _) hw p4
    · exact ⟨⟨by omega, by rw [fu_s]; exact hP, by rw [fu_s, up_congr hw]; exact hC, by rw [fu_s]; exact e1, by rw [fu_s]; exact hD⟩, hwN, ch_congr (Nat.le_succ _) hw p4⟩
  · have hjj : j = N ∨ j ∈ w := by
      rcases hE with ⟨rfl, -⟩ | ⟨rfl, -⟩
      · exact Or.inr hj
      · exact List.mem_cons.mp hj
    rcases hjj with rfl | hjj
    · omega
    · by_cases y : i = N
      · rw [y, eN]; exact ch_tp p4 j hjj
      · rw [ep i (by omega)]; exact p5 j hjj i i1 (by omega)
  · rcases hE with ⟨rfl, -⟩ | ⟨rfl, e1, e2⟩
    · rw [up_congr hw]; exact p6
    · rw [up_cons, fu_s, e2, bnc_0, hC]
      show (up σ ps w ++ []).length ≤ 24
      rw [List.append_nil]
      exact p6
theorem wf_nil (h : WF 0 T σ N [] ps d) : WF 1 T σ N [] ps d := by
  obtain ⟨p1, p2, p3, p4, p5, p6⟩ := h
  refine ⟨p1, fun k hk => ?_, p3, p4, p5, p6⟩
  obtain ⟨q1, q2, q3⟩ := p2 k hk
  refine ⟨q1, q2, fun z => ?_⟩
  have e : ¬ tp [] = (k : Int) := by show ¬ (-1 : Int) = (k : Int); omega
  have q := q3 z
  rw [if_neg e] at q ⊢
  exact q
end Nodes
