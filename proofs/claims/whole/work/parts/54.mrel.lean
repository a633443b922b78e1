/-! THE RUN: what is known of a program that has been taken, and how the states of both machines belong together -/
abbrev xG : Type := (Nat → Nat → Nat) × (Nat → List Nat) × (Nat → List Nat) × (Nat → Int32)
def yN (σ : xG) : Nat := σ.1 0 0
def yM (σ : xG) : Nat := σ.1 0 1
/-- of a node: its definition, kind, parts, size, type, slot, target; of a definition: where it begins -/
def yd (σ : xG) (k : Nat) : Nat := σ.1 1 k
def yk (σ : xG) (k : Nat) : Nat := σ.1 2 k
def yn (σ : xG) (k : Nat) : Nat := σ.1 3 k
def yz (σ : xG) (k : Nat) : Nat := σ.1 4 k
def yt (σ : xG) (k : Nat) : Nat := σ.1 5 k
def yl (σ : xG) (k : Nat) : Nat := σ.1 6 k
def yg (σ : xG) (k : Nat) : Nat := σ.1 7 k
def yb (σ : xG) (k : Nat) : Nat := σ.1 8 k
/-- the types of the variables that are there; of the parameters; the number -/
def ye (σ : xG) (k : Nat) : List Nat := σ.2.1 k
def yp (σ : xG) (k : Nat) : List Nat := σ.2.2.1 k
def yv (σ : xG) (k : Nat) : Int32 := σ.2.2.2 k
/-- the node of ours -/
def yf (σ : xG) (k : Nat) : Nat := k + yd σ k + 1
/-- where its parts begin -/
def yo (σ : xG) (k : Nat) : Nat → Nat
  | 0 => k + 1
  | i + 1 => yo σ k i + yz σ (yo σ k i)
def ck (r : Nat) : Nat := if r = 0 then 24 else if r = 1 then 25 else if r = 2 then 19 else if r ≤ 19 then r - 2 else if r ≤ 22 then r - 12 else 18
def yCall (σ : xG) (k : Nat) : Prop := yk σ k = 14 ∨ yk σ k = 15 ∨ yk σ k = 23
def yOp (σ : xG) (k : Nat) : Prop := 3 ≤ yk σ k ∧ yk σ k ≤ 9
def yIf (σ : xG) (k : Nat) : Prop := yk σ k = 10 ∨ yk σ k = 20
def yLet (σ : xG) (k : Nat) : Prop := yk σ k = 11 ∨ yk σ k = 21
def yCase (σ : xG) (k : Nat) : Prop := yk σ k = 12 ∨ yk σ k = 22
def SN (σ : xG) (k : Nat) : Prop :=
  (yk σ k ≤ 23 ∧ 1 ≤ yz σ k ∧ yo σ k (yn σ k) = k + yz σ k ∧ (ye σ k).length ≤ 24 ∧ ∀ i, i < yn σ k → yo σ k i < yN σ ∧ yd σ (yo σ k i) = yd σ k) ∧
  (yk σ k = 0 → yt σ k = 0) ∧
  (yk σ k = 1 → yl σ k < (ye σ k).length ∧ yt σ k = (ye σ k).getD (yl σ k) 0) ∧
  (yk σ k = 2 → yt σ k = 1) ∧
  (yOp σ k → yn σ k = 2 ∧ yt σ k = 0 ∧ ∀ i, i < 2 → yt σ (yo σ k i) = 0 ∧ ye σ (yo σ k i) = ye σ k) ∧
  (yIf σ k → yn σ k = 3 ∧ yt σ (yo σ k 0) = 0 ∧ yt σ (yo σ k 1) = yt σ k ∧ yt σ (yo σ k 2) = yt σ k ∧ ∀ i, i < 3 → ye σ (yo σ k i) = ye σ k) ∧
  (yLet σ k → yn σ k = 2 ∧ yl σ k = (ye σ k).length ∧ yt σ (yo σ k 1) = yt σ k ∧ ye σ (yo σ k 0) = ye σ k ∧ ye σ (yo σ k 1) = ye σ k ++ [yt σ (yo σ k 0)]) ∧
  (yCase σ k → yn σ k = 3 ∧ yl σ k = (ye σ k).length ∧ yt σ (yo σ k 0) = 1 ∧ yt σ (yo σ k 1) = yt σ k ∧ yt σ (yo σ k 2) = yt σ k ∧ ye σ (yo σ k 0) = ye σ k ∧ ye σ (yo σ k 1) = ye σ k ∧ ye σ (yo σ k 2) = ye σ k ++ [0, 3]) ∧
  (yk σ k = 13 → yn σ k = 2 ∧ yt σ k = 1 ∧ yt σ (yo σ k 0) = 0 ∧ yt σ (yo σ k 1) = 3 ∧ ∀ i, i < 2 → ye σ (yo σ k i) = ye σ k) ∧
  (yCall σ k → yg σ k < yM σ ∧ yn σ k = (yp σ (yg σ k)).length ∧ yt σ k = yt σ (yb σ (yg σ k)) ∧ ∀ i, i < yn σ k → yt σ (yo σ k i) = (yp σ (yg σ k)).getD i 0 ∧ ye σ (yo σ k i) = ye σ k) ∧
  (yk σ k = 16 → yn σ k = 1 ∧ yt σ k = 2 ∧ yt σ (yo σ k 0) = 0 ∧ ye σ (yo σ k 0) = ye σ k) ∧
  (yk σ k = 17 → yn σ k = 1 ∧ yt σ k = 3 ∧ yt σ (yo σ k 0) = 1 ∧ ye σ (yo σ k 0) = ye σ k) ∧
  (yk σ k = 18 → yn σ k = 2 ∧ yl σ k = (ye σ k).length ∧ (yt σ (yo σ k 0) = 2 ∨ yt σ (yo σ k 0) = 3) ∧ yt σ (yo σ k 1) = yt σ k ∧ ye σ (yo σ k 0) = ye σ k ∧ ye σ (yo σ k 1) = ye σ k ++ [yt σ (yo σ k 0) - 2]) ∧
  (yk σ k = 19 → yn σ k = 1 ∧ yt σ (yo σ k 0) = yt σ k ∧ ye σ (yo σ k 0) = ye σ k)
/-- the program as a whole -/
def SP (σ : xG) : Prop := (∀ k, k < yN σ → SN σ k) ∧ (∀ d, d < yM σ → yb σ d < yN σ ∧ yd σ (yb σ d) = d ∧ ye σ (yb σ d) = yp σ d ∧ (yp σ d).length ≤ 8) ∧ 1 ≤ yM σ ∧ yp σ (yM σ - 1) = [3] ∧ yt σ (yb σ (yM σ - 1)) = 3 ∧ yN σ ≤ 4200 ∧ yM σ ≤ 64 ∧ (∀ k, k < yN σ → yd σ k < yM σ ∧ k + yz σ k ≤ yN σ)
/-- our rows -/
def SC (σ : xG) (s : xSt) (z : Bool) : Prop := (∀ k, k < yN σ → (gP s z 0).getD (yf σ k) 0 = nI (ck (yk σ k)) ∧ (gP s z 3).getD (yf σ k) 0 = nI (ye σ k).length ∧ (gP s z 4).getD (yf σ k) 0 = nI (yf σ k + yz σ k) ∧ (yk σ k = 0 → (gP s z 2).getD (yf σ k) 0 = yv σ k) ∧ (yk σ k = 1 → (gP s z 2).getD (yf σ k) 0 = nI (yl σ k)) ∧ (yCall σ k → (gP s z 2).getD (yf σ k) 0 = nI (yg σ k))) ∧ (∀ d, d < yM σ → (gP s z 6).getD d 0 = nI (yb σ d + d) ∧ (gP s z 8).getD d 0 = nI (yp σ d).length) ∧ (gP s z 6).length = yM σ
/-- the reference's arrays -/
def SR (σ : xG) (t : xSt) : Prop := (∀ k, k < yN σ → (gR t 31).getD k 0 = nI (yk σ k) ∧ (gR t 32).getD k 0 = nI (yz σ k) ∧ (gR t 33).getD k 0 = nI (yn σ k) ∧ (yk σ k = 0 → (gR t 34).getD k 0 = yv σ k) ∧ ((yk σ k = 1 ∨ yLet σ k ∨ yCase σ k ∨ yk σ k = 18) → (gR t 35).getD k 0 = nI (yl σ k)) ∧ (yCall σ k → (gR t 36).getD k 0 = nI (yg σ k))) ∧ (∀ d, d < yM σ → (gR t 37).getD d 0 = nI (yb σ d)) ∧ gI t 5 = nI (yM σ) ∧ (gR t 31).length = 4200 ∧ (gR t 32).length = 4200 ∧ (gR t 33).length = 4200 ∧ (gR t 34).length = 4200 ∧ (gR t 35).length = 4200 ∧ (gR t 36).length = 4200 ∧ (gR t 37).length = 64
/-- a value of a type in both: ints and lists are the same, a modifiable is what it holds -/
def vr (cl md : Nat) (hd : List Int32) (ty : Nat) (c r : Int32) : Prop :=
  if ty = 0 then c = r else if ty = 1 then ∃ a, a ≤ cl ∧ c = nI a ∧ r = nI a else if ty = 2 then ∃ m, m ≤ md ∧ r = nI m ∧ c = hd.getD m 0 else ∃ m a, m ≤ md ∧ a ≤ cl ∧ r = nI m ∧ hd.getD m 0 = nI a ∧ c = nI a
theorem vr_mono {cl md cl' md' : Nat} {hd hd' : List Int32} {ty : Nat} {c r : Int32} (h : vr cl md hd ty c r) (h1 : cl ≤ cl') (h2 : md ≤ md') (h3 : ∀ m, m ≤ md → hd'.getD m 0 = hd.getD m 0) : vr cl' md' hd' ty c r := by
  unfold vr at *
  split at h
  · next e => rw [if_pos e]; exact h
  · next e =>
    rw [if_neg e]
    split at h
    · next e1 =>
      rw [if_pos e1]
      obtain ⟨a, g1, g2⟩ := h
      exact ⟨a, by omega, g2⟩
    · next e1 =>
      rw [if_neg e1]
      split at h
      · next e2 =>
        rw [if_pos e2]
        obtain ⟨m, g1, g2, g3⟩ := h
        exact ⟨m, by omega, g2, by rw [h3 m g1]; exact g3⟩
      · next e2 =>
        rw [if_neg e2]
        obtain ⟨m, a, g1, g2, g3, g4, g5⟩ := h
        exact ⟨m, a, by omega, by omega, g3, by rw [h3 m g1]; exact g4, g5⟩
/-- the variables -/
def ev (cl md : Nat) (hd Sl vars : List Int32) (cb rb : Nat) (es : List Nat) : Prop := ∀ j, j < es.length → vr cl md hd (es.getD j 0) (Sl.getD (cb + j) 0) (vars.getD (rb + j) 0)
theorem ev_mono {cl md cl' md' : Nat} {hd hd' Sl Sl' vars vars' : List Int32} {cb rb L LR : Nat} {es : List Nat} (h : ev cl md hd Sl vars cb rb es) (h1 : cl ≤ cl') (h2 : md ≤ md') (h3 : ∀ m, m ≤ md → hd'.getD m 0 = hd.getD m 0) (h4 : ∀ j, j < L → Sl'.getD j 0 = Sl.getD j 0) (h5 : ∀ j, j < LR → vars'.getD j 0 = vars.getD j 0) (h6 : cb + es.length ≤ L) (h7 : rb + es.length ≤ LR) : ev cl' md' hd' Sl' vars' cb rb es := by
  intro j hj
  rw [h4 _ (by omega), h5 _ (by omega)]
  exact vr_mono (h j hj) h1 h2 h3
/-- operands that are there, the last one first -/
def opr (cl md : Nat) (hd : List Int32) (ty : Nat → Nat) : Nat → List Int32 → List Int32 → List Int32 → List Int32 → Prop
  | 0, vs, os, vs', os' => vs = vs' ∧ os = os'
  | i + 1, vs, os, vs', os' => ∃ v r vs1 os1, vs = v :: vs1 ∧ os = r :: os1 ∧ vr cl md hd (ty i) v r ∧ opr cl md hd ty i vs1 os1 vs' os'
theorem opr_mono {cl md cl' md' : Nat} {hd hd' : List Int32} {ty : Nat → Nat} (h1 : cl ≤ cl') (h2 : md ≤ md') (h3 : ∀ m, m ≤ md → hd'.getD m 0 = hd.getD m 0) : ∀ {i : Nat} {vs os vs' os' : List Int32}, opr cl md hd ty i vs os vs' os' → opr cl' md' hd' ty i vs os vs' os' := by
  intro i
  induction i with
  | zero => intro vs os vs' os' h; exact h
  | succ i ih =>
    intro vs os vs' os' h
    obtain ⟨v, r, vs1, os1, e1, e2, e3, e4⟩ := h
    exact ⟨v, r, vs1, os1, e1, e2, vr_mono e3 h1 h2 h3, ih e4⟩
def yTail (σ : xG) (k : Nat) : Prop := yIf σ k ∨ yLet σ k ∨ yCase σ k ∨ yk σ k = 18
def yCol (σ : xG) (k : Nat) : Prop := yOp σ k ∨ yk σ k = 13 ∨ yCall σ k
def yMod (σ : xG) (k : Nat) : Prop := yk σ k = 16 ∨ yk σ k = 17 ∨ yk σ k = 19
/-- what waits: (node, part, base) of the reference, top first; our stacks; its base; as far as variables matter; values; the type that is waited for -/
def Stk (σ : xG) (cl md : Nat) (hd Sl vars : List Int32) : List (Nat × Nat × Nat) → List Int32 → List Int32 → Nat → Nat → Nat → List Int32 → List Int32 → Nat → Prop
  | [], ns, ps, cb, _, _, vs, os, τ => ns = [] ∧ ps = [] ∧ cb = 0 ∧ vs = [] ∧ os = [] ∧ τ = 3
  | (k, i, rb) :: w, ns, ps, cb, L, LR, vs, os, τ => (k < yN σ ∧ rb ≤ 24 * w.length) ∧ ∃ cb', ev cl md hd Sl vars cb' rb (ye σ k) ∧ cb' + (ye σ k).length ≤ L ∧ rb + (ye σ k).length ≤ LR ∧
    ((yMod σ k ∧ i = 0 ∧ cb' = cb ∧ τ = yt σ (yo σ k 0) ∧ Stk σ cl md hd Sl vars w ns ps cb (cb' + (ye σ k).length) (rb + (ye σ k).length) vs os (yt σ k)) ∨
    (∃ ns' ps', ns = nI (yf σ k) :: ns' ∧
      ((yTail σ k ∧ i = 0 ∧ cb' = cb ∧ τ = yt σ (yo σ k 0) ∧ ps = nI (yf σ k + (yo σ k 1 - k)) :: ps' ∧ Stk σ cl md hd Sl vars w ns' ps' cb (cb' + (ye σ k).length) (rb + (ye σ k).length) vs os (yt σ k)) ∨
      (yCol σ k ∧ i < yn σ k ∧ cb' = cb ∧ τ = yt σ (yo σ k i) ∧ ps = nI (yf σ k + (yo σ k (i + 1) - k)) :: ps' ∧ ∃ vs' os', opr cl md hd (fun j => yt σ (yo σ k j)) i vs os vs' os' ∧ Stk σ cl md hd Sl vars w ns' ps' cb (cb' + (ye σ k).length) (rb + (ye σ k).length) vs' os' (yt σ k)) ∨
      (yCall σ k ∧ i = yn σ k ∧ cb = cb' + (ye σ k).length ∧ τ = yt σ k ∧ ps = (-1) :: ps' ∧ Stk σ cl md hd Sl vars w ns' ps' cb' (cb' + (ye σ k).length) (rb + (ye σ k).length) vs os (yt σ k)))))
theorem stk_mono {σ : xG} {cl md cl' md' : Nat} {hd hd' Sl Sl' vars vars' : List Int32} (h1 : cl ≤ cl') (h2 : md ≤ md') (h3 : ∀ m, m ≤ md → hd'.getD m 0 = hd.getD m 0) : ∀ {w : List (Nat × Nat × Nat)} {ns ps : List Int32} {cb L LR L' LR' : Nat} {vs os : List Int32} {τ : Nat}, Stk σ cl md hd Sl vars w ns ps cb L LR vs os τ → L ≤ L' → LR ≤ LR' → (∀ j, j < L → Sl'.getD j 0 = Sl.getD j 0) → (∀ j, j < LR → vars'.getD j 0 = vars.getD j 0) → Stk σ cl' md' hd' Sl' vars' w ns ps cb L' LR' vs os τ := by
  intro w
  induction w with
  | nil => intro ns ps cb L LR L' LR' vs os τ h _ _ _ _; exact h
  | cons e w ih =>
    obtain ⟨k, i, rb⟩ := e
    intro ns ps cb L LR L' LR' vs os τ h hL hLR h4 h5
    obtain ⟨g1, cb', g2, g3, g4, g5⟩ := h
    have k4 : ∀ j, j < cb' + (ye σ k).length → Sl'.getD j 0 = Sl.getD j 0 := fun j hj => h4 j (by omega)
    have k5 : ∀ j, j < rb + (ye σ k).length → vars'.getD j 0 = vars.getD j 0 := fun j hj => h5 j (by omega)
    refine ⟨g1, cb', ev_mono g2 h1 h2 h3 k4 k5 (Nat.le_refl _) (Nat.le_refl _), by omega, by omega, ?_⟩
    rcases g5 with ⟨a1, a2, a3, a4, a5⟩ | ⟨ns', ps', a0, ⟨a1, a2, a3, a4, a5, a6⟩ | ⟨a1, a2, a3, a4, a5, vs', os', a6, a7⟩ | ⟨a1, a2, a3, a4, a5, a6⟩⟩
    · exact Or.inl ⟨a1, a2, a3, a4, ih a5 (Nat.le_refl _) (Nat.le_refl _) k4 k5⟩
    · exact Or.inr ⟨ns', ps', a0, Or.inl ⟨a1, a2, a3, a4, a5, ih a6 (Nat.le_refl _) (Nat.le_refl _) k4 k5⟩⟩
    · exact Or.inr ⟨ns', ps', a0, Or.inr (Or.inl ⟨a1, a2, a3, a4, a5, vs', os', opr_mono h1 h2 h3 a6, ih a7 (Nat.le_refl _) (Nat.le_refl _) k4 k5⟩)⟩
    · exact Or.inr ⟨ns', ps', a0, Or.inr (Or.inr ⟨a1, a2, a3, a4, a5, ih a6 (Nat.le_refl _) (Nat.le_refl _) k4 k5⟩)⟩
