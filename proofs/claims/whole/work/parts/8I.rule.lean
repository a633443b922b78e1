/-! the rules of types, as both have them -/
/-- may a part stand there: kind, part, its type, the type of the parameter, the type of part 1 -/
def cst (r i y pt l : Nat) : Bool := if kc r = true then y == pt else if r ≤ 9 then y == 0 else if kl r = true then true else if r = 13 then y == (if i = 0 then 0 else 3) else if r = 16 then y == 0 else if r = 17 then y == 1 else if r = 18 then (decide (0 < i) || decide (1 < y)) else if r = 19 then decide (y < 2) else if i = 0 then y == (if kz r = true then 1 else 0) else if i = 1 then true else y == l
/-- our due type -/
def due (r i y pt l : Nat) : Nat := if kc r = true then tc pt else if r = 10 ∨ r = 20 then (if i = 0 then 20 else if i ≤ 1 then 0 else tc l) else if kl r = true then 0 else if kz r = true then (if i = 0 then 21 else if i ≤ 1 then 0 else tc l) else if r = 13 then (if i = 0 then 20 else 15) else if r = 17 then 21 else if r = 18 then (if i = 0 then (if y = 2 then 14 else 15) else 0) else if r = 19 then (if y = 0 then 20 else 21) else 20
theorem due_all : ((List.range 24).all fun r => (List.range 3).all fun i => (List.range 4).all fun y => (List.range 4).all fun pt => (List.range 4).all fun l => (decide (r < 3) || ((decide (due r i y pt l = 0) || decide (due r i y pt l = tc y)) == cst r i y pt l))) = true := by decide +kernel
theorem due_tbl (r : Nat) (hr : r < 24) (h3 : 3 ≤ r) (i : Nat) (hi : i < 3) (y : Nat) (hy : y < 4) (pt : Nat) (hp : pt < 4) (l : Nat) (hl : l < 4) : (decide (due r i y pt l = 0) || decide (due r i y pt l = tc y)) = cst r i y pt l := by
  have h := due_all
  rw [List.all_eq_true] at h
  have h1 := h r (List.mem_range.mpr hr)
  rw [List.all_eq_true] at h1
  have h2 := h1 i (List.mem_range.mpr hi)
  rw [List.all_eq_true] at h2
  have h4 := h2 y (List.mem_range.mpr hy)
  rw [List.all_eq_true] at h4
  have h5 := h4 pt (List.mem_range.mpr hp)
  rw [List.all_eq_true] at h5
  have h6 := h5 l (List.mem_range.mpr hl)
  rw [Bool.or_eq_true, decide_eq_true_eq, beq_iff_eq] at h6
  rcases h6 with q | q
  · omega
  · exact q
theorem due_ok {r i y pt l : Nat} (hr : r < 24) (h3 : 3 ≤ r) (hi : i < 3 ∨ kc r = true) (hy : y < 4) (hp : pt < 4) (hl : l < 4) : (due r i y pt l = 0 ∨ due r i y pt l = tc y) ↔ cst r i y pt l = true := by
  have key : ∀ i, i < 3 → ((due r i y pt l = 0 ∨ due r i y pt l = tc y) ↔ cst r i y pt l = true) := fun i hi => by
    rw [← due_tbl r hr h3 i hi y hy pt hp l hl, Bool.or_eq_true, decide_eq_true_eq, decide_eq_true_eq]
  rcases hi with hi | hi
  · exact key i hi
  · have e1 : due r i y pt l = due r 0 y pt l := by
      unfold due
      rw [if_pos hi, if_pos hi]
    have e2 : cst r i y pt l = cst r 0 y pt l := by
      unfold cst
      rw [if_pos hi, if_pos hi]
    rw [e1, e2]
    exact key 0 (by omega)
/-- the type of a node: kind, slot's type, result of the definition, type of the last part -/
def tyo (r v pt l : Nat) : Nat := if r = 1 then v else if r = 0 ∨ (3 ≤ r ∧ r ≤ 9) then 0 else if r = 2 ∨ r = 13 then 1 else if kc r = true then pt else if r = 16 then 2 else if r = 17 then 3 else l
/-- the types that a node gives to its part's variables -/
def bte (r i y : Nat) : List Nat := if kl r = true ∧ i = 1 then [y] else if kz r = true ∧ i = 2 then [0, 3] else if r = 18 ∧ i = 1 then [y - 2] else []
theorem bte_len (r i y : Nat) (a b : Int64) : (bte r i y).length = (bnl (bpc r i) a b).length := by
  have h1 : kl r = true → kz r = false ∧ ¬ r = 18 := by
    intro h
    unfold kl at h
    rw [Bool.or_eq_true, beq_iff_eq, beq_iff_eq] at h
    rcases h with rfl | rfl <;> decide
  have h2 : kz r = true → ¬ r = 18 := by
    intro h
    unfold kz at h
    rw [Bool.or_eq_true, beq_iff_eq, beq_iff_eq] at h
    rcases h with rfl | rfl <;> decide
  unfold bte bpc bnl
  by_cases c1 : kl r = true
  · obtain ⟨z1, z2⟩ := h1 c1
    by_cases ci : i = 1
    · simp [c1, ci]
    · simp [c1, z1, z2, ci]
  · by_cases c2 : kz r = true
    · have z2 := h2 c2
      by_cases ci : i = 2
      · simp [c1, c2, z2, ci]
      · simp [c1, c2, z2, ci]
    · by_cases c3 : r = 18
      · subst c3
        by_cases ci : i = 1
        · simp [c1, c2, ci]
        · simp [c1, c2, ci]
      · simp [c1, c2, c3]
section Rule
variable {T : List Int32} {σ : Nat → Nd} {δ : Nat → Dd} {N K M k d f D o i p : Nat} {t : xSt} {qr17 qr18 qr19 qr20 qr21 qr22 qr23 qr24 qr25 qr26 qr27 qr28 qr29 qr30 : List Int32} {qi31 qi32 qi33 qi34 qi35 qi36 : Int32} {ql4 ql5 ql6 ql7 : List Int64} {qz1 : Bool}
/-- a part by its number -/
theorem m199_go {x : Int32} (hN : N < 4096) (tn : TN σ N N qr22 qr23 qr24 qr25 qr26 qr27 ql6 ql7) (h24 : qr24.length = 4096) (h25 : qr25.length = 4096) (hPP : PP (pr σ) N) (hp : p < N) (hpo : nP (σ p) = (o : Int)) (hpi : pq σ p = i) : ∀ (m j f : Nat), j + m = p → m < f → (∀ e, j ≤ e → e < p → ¬ (nP (σ e) = (o : Int) ∧ pq σ e = i)) → m199_4 f (nI o) (nI i) (nI j) (tyR t qr17 qr18 qr19 qr20 qr21 qr22 qr23 qr24 qr25 qr26 qr27 qr28 qr29 qr30 qi31 qi32 qi33 qi34 qi35 qi36 ql4 ql5 ql6 ql7 qz1) = some (nI p, (tyR t qr17 qr18 qr19 qr20 qr21 qr22 qr23 qr24 qr25 qr26 qr27 qr28 qr29 qr30 qi31 qi32 qi33 qi34 qi35 qi36 ql4 ql5 ql6 ql7 qz1)) := by
  have hpq : ∀ k, pq σ k ≤ k := fun k => by
    unfold pq
    split
    · omega
    · exact pcnt_le _ _ _
  have hop : o < p := by
    have h1 := (hPP p hp).2.1
    have h2 : pr σ p = (o : Int) := hpo
    omega
  intro m
  induction m with
  | zero =>
    intro j f hj hf he
    obtain ⟨f, rfl⟩ : ∃ f', f = f' + 1 := ⟨f - 1, by omega⟩
    have hjp : j = p := by omega
    subst hjp
    obtain ⟨t1, t2, t3, t4, -⟩ := tn j hp
    unfold m199_4
    rw [tyR_r24, xsGet_d (by omega) (by omega), bs, t3, hpo, pI_k, if_pos rfl, tyR_r25, xsGet_d (by omega) (by omega), bs, t4, hpi, if_pos rfl]
  | succ m ih =>
    intro j f hj hf he
    obtain ⟨f, rfl⟩ : ∃ f', f = f' + 1 := ⟨f - 1, by omega⟩
    obtain ⟨t1, t2, t3, t4, -⟩ := tn j (by omega)
    have hrec := ih (j + 1) f (by omega) (by omega) (fun e h1 h2 => he e (by omega) h2)
    have hne := he j (Nat.le_refl _) (by omega)
    have hjq := hpq j
    unfold m199_4
    rw [tyR_r24, xsGet_d (by omega) (by omega), bs, t3, nI_1]
    by_cases c : nP (σ j) = (o : Int)
    · have hpi' := hpq p
      rw [c, pI_k, if_pos rfl, tyR_r25, xsGet_d (by omega) (by omega), bs, t4, if_neg (by rw [eqN (by omega) (by omega)]; exact fun q => hne ⟨c, q⟩)]
      exact hrec
    · rw [if_neg (fun q => by
        rcases pI_cases (nP (σ j)) (hPP j (by omega)).1 with ⟨e1, e2⟩ | ⟨k', e1, e2⟩
        · rw [e2] at q
          have := nI_ne1 (a := o) (by omega)
          rw [← q] at this
          exact absurd this (by simp)
        · rw [e2, eqN (by have := (hPP j (by omega)).2.1; have h3 : pr σ j = (k' : Int) := e1; omega) (by omega)] at q
          exact c (by rw [e1, q]))]
      exact hrec
theorem pq_mono (hPP : PP (pr σ) N) {a b : Nat} (ha : a < b) (hb : b < N) (h1 : nP (σ a) = (o : Int)) (h2 : nP (σ b) = (o : Int)) : pq σ a < pq σ b := by
  unfold pq
  rw [if_neg (by rw [h1]; omega), if_neg (by rw [h2]; omega), h1, h2, Int.toNat_natCast]
  exact pcnt_lt h1 ha
theorem m199_eq (hN : N < 4096) (tn : TN σ N N qr22 qr23 qr24 qr25 qr26 qr27 ql6 ql7) (h24 : qr24.length = 4096) (h25 : qr25.length = 4096) (hPP : PP (pr σ) N) (hp : p < N) (hpo : nP (σ p) = (o : Int)) (hpi : pq σ p = i) : m199 (nI o) (nI i) (tyR t qr17 qr18 qr19 qr20 qr21 qr22 qr23 qr24 qr25 qr26 qr27 qr28 qr29 qr30 qi31 qi32 qi33 qi34 qi35 qi36 ql4 ql5 ql6 ql7 qz1) = some (nI p, (tyR t qr17 qr18 qr19 qr20 qr21 qr22 qr23 qr24 qr25 qr26 qr27 qr28 qr29 qr30 qi31 qi32 qi33 qi34 qi35 qi36 ql4 ql5 ql6 ql7 qz1)) := by
  have hop : o < p := by
    have h1 := (hPP p hp).2.1
    have h2 : pr σ p = (o : Int) := hpo
    omega
  unfold m199
  rw [nI_1]
  refine m199_go (x := 0) hN tn h24 h25 hPP hp hpo hpi (p - (o + 1)) (o + 1) 1000000 (by omega) (by omega) (fun e h1 h2 q => ?_)
  have := pq_mono hPP h2 hp q.1 hpo
  omega
end Rule
