/-! what is due in a node of a kind from a spot of its form on -/
def rem (r sp : Nat) : List Nat :=
  if r = 10 ∨ r = 20 then [1, if r < 18 then 1 else 2, if r < 18 then 1 else 2, 3].drop sp
  else if r = 11 ∨ r = 21 then (if sp = 0 then [5, if r < 18 then 1 else 2, 8, 3] else [1, 10, if r < 18 then 1 else 2, 8, 3].drop (sp - 1))
  else if r = 12 ∨ r = 22 then (if sp ≤ 6 then [1, if r < 18 then 1 else 2, 4, 5, 6, if r < 18 then 1 else 2, 8, 3, 3].drop sp else [3, 3].drop (sp - 8))
  else if r = 14 ∨ r = 15 ∨ r = 23 then [9, 7, 3].drop sp
  else if r = 16 ∨ r = 17 then [2, 3].drop sp
  else if r = 18 then [1, 5, 2, 8, 3].drop sp
  else if r = 19 then [1, 3].drop sp
  else [1, 1, 3].drop sp
/-- the names that a node has bound at a spot -/
def bnd (r sp : Nat) (a b : Int64) : List Int64 :=
  if r = 11 ∨ r = 21 then (if sp = 3 ∨ sp = 4 then [a] else [])
  else if r = 12 ∨ r = 22 then (if sp = 4 then [a] else if sp = 5 ∨ sp = 6 then [a, b] else [])
  else if r = 18 then (if sp = 2 ∨ sp = 3 then [a] else [])
  else []
def mpushL : List Nat → Int32 → xSt → Option xSt
  | [], _, s => some s
  | w :: ws, k, s => (m167 (nI w) k s).bind fun q => mpushL ws k q
section Rem
variable {T U : List Int32} {n p m N D : Nat} {s t : xSt} {qr2 qr3 qr4 qr5 qr6 qr7 qr8 qr9 qr10 qr11 qr12 qr13 qr14 qr15 qr16 : List Int32} {qi21 qi22 qi23 qi24 qi25 qi26 qi27 qi28 qi29 qi30 : Int32} {qj0 : Int64} {ql0 ql1 ql2 ql3 : List Int64}
theorem push_all (k : Int32) : ∀ (ws : List Nat) (ds : List (Nat × Int32)) (a b : List Int32), (∀ w ∈ ws, w < 100) → dat ds a b → a.length = 33000 → b.length = 33000 → ds.length + ws.length ≤ 33000 → ∃ a' b', mpushL ws k (rdR t qr2 qr3 qr4 qr5 qr6 qr7 qr8 qr9 qr10 qr11 qr12 qr13 qr14 a b qi21 qi22 qi23 qi24 qi25 qi26 qi27 qi28 (nI ds.length) qi30 qj0 ql0 ql1 ql2 ql3) = some (rdR t qr2 qr3 qr4 qr5 qr6 qr7 qr8 qr9 qr10 qr11 qr12 qr13 qr14 a' b' qi21 qi22 qi23 qi24 qi25 qi26 qi27 qi28 (nI (ds.length + ws.length)) qi30 qj0 ql0 ql1 ql2 ql3) ∧ a'.length = 33000 ∧ b'.length = 33000 ∧ dat ((ws.reverse.map fun w => (w, k)) ++ ds) a' b' := by
  intro ws
  induction ws with
  | nil => intro ds a b _ h h1 h2 _; exact ⟨a, b, rfl, h1, h2, h⟩
  | cons w ws ih =>
    intro ds a b hw h h1 h2 h3
    rw [List.length_cons] at h3
    obtain ⟨a', b', e1, e2, e3, e4⟩ := ih ((w, k) :: ds) (a.set ds.length (nI w)) (b.set ds.length k) (fun x hx => hw x (List.mem_cons_of_mem _ hx)) (dat_push h (by omega) (by omega)) (by rw [List.length_set]; exact h1) (by rw [List.length_set]; exact h2) (by rw [List.length_cons]; omega)
    refine ⟨a', b', ?_, e2, e3, ?_⟩
    · show (m167 (nI w) k _).bind _ = _
      rw [m167_eq (hw w List.mem_cons_self) k (by omega) h1 h2, bs]
      rw [List.length_cons] at e1
      rw [e1, List.length_cons, show ds.length + 1 + ws.length = ds.length + (ws.length + 1) by omega]
    · rw [List.reverse_cons, List.map_append, List.append_assoc]
      exact e4
theorem rem_small (r : Nat) : ∀ w ∈ rem r 0, w < 100 := by
  unfold rem
  repeat' split
  all_goals (simp; try omega)
theorem m172_18_eq {k r : Nat} {S : xSt} (h3 : 3 ≤ r) (h23 : r ≤ 23) : m172_18 (nI k) (nI r) (nI (if r < 18 then 1 else 2)) S = mpushL (rem r 0).reverse (nI k) S := by
  have hr : r = 3 ∨ r = 4 ∨ r = 5 ∨ r = 6 ∨ r = 7 ∨ r = 8 ∨ r = 9 ∨ r = 10 ∨ r = 11 ∨ r = 12 ∨ r = 13 ∨ r = 14 ∨ r = 15 ∨ r = 16 ∨ r = 17 ∨ r = 18 ∨ r = 19 ∨ r = 20 ∨ r = 21 ∨ r = 22 ∨ r = 23 := by omega
  rcases hr with rfl | rfl | rfl | rfl | rfl | rfl | rfl | rfl | rfl | rfl | rfl | rfl | rfl | rfl | rfl | rfl | rfl | rfl | rfl | rfl | rfl <;> rfl
/-- a ( with its word: what is due then -/
theorem expect_ok {k r : Nat} {ds : List (Nat × Int32)} (h3 : 3 ≤ r) (h23 : r ≤ 23) (hk : k < 8192) (h8 : qr8.length = 8192) (hr : qr8.getD k 0 = nI r) (hd : dat ds qr15 qr16) (h15 : qr15.length = 33000) (h16 : qr16.length = 33000) (hl : ds.length + 9 ≤ 33000) : ∃ a' b', m172 (nI k) (rdR t qr2 qr3 qr4 qr5 qr6 qr7 qr8 qr9 qr10 qr11 qr12 qr13 qr14 qr15 qr16 qi21 qi22 qi23 qi24 qi25 qi26 qi27 qi28 (nI ds.length) qi30 qj0 ql0 ql1 ql2 ql3) = some (rdR t qr2 qr3 qr4 qr5 qr6 qr7 qr8 qr9 qr10 qr11 qr12 qr13 qr14 a' b' qi21 qi22 qi23 qi24 qi25 qi26 qi27 qi28 (nI (ds.length + (rem r 0).length)) qi30 qj0 ql0 ql1 ql2 ql3) ∧ a'.length = 33000 ∧ b'.length = 33000 ∧ dat (((rem r 0).map fun w => (w, nI k)) ++ ds) a' b' := by
  have hlen : (rem r 0).length ≤ 9 := by
    unfold rem
    repeat' split
    all_goals simp
  obtain ⟨a', b', e1, e2, e3, e4⟩ := push_all (t := t) (qr2 := qr2) (qr3 := qr3) (qr4 := qr4) (qr5 := qr5) (qr6 := qr6) (qr7 := qr7) (qr8 := qr8) (qr9 := qr9) (qr10 := qr10) (qr11 := qr11) (qr12 := qr12) (qr13 := qr13) (qr14 := qr14) (qi21 := qi21) (qi22 := qi22) (qi23 := qi23) (qi24 := qi24) (qi25 := qi25) (qi26 := qi26) (qi27 := qi27) (qi28 := qi28) (qi30 := qi30) (qj0 := qj0) (ql0 := ql0) (ql1 := ql1) (ql2 := ql2) (ql3 := ql3) (nI k) (rem r 0).reverse ds qr15 qr16 (fun w hw => rem_small r w (List.mem_reverse.mp hw)) hd h15 h16 (by rw [List.length_reverse]; omega)
  rw [List.length_reverse] at e1
  rw [List.reverse_reverse] at e4
  refine ⟨a', b', ?_, e2, e3, e4⟩
  unfold m172
  rw [rdR_r8, xsGet_d (by omega) (by omega), bs, hr]
  rw [← e1, ← m172_18_eq h3 h23]
  by_cases c : r < 18
  · rw [if_neg (show ¬ 18 ≤ nI r by rw [geL_18 (by omega)]; omega), if_pos c]
    rfl
  · rw [if_pos (show 18 ≤ nI r by rw [geL_18 (by omega)]; omega), if_neg c]
    rfl
end Rem
