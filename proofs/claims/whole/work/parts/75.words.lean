/-! words: what is spelled tells the letters -/
def encL (l : List Int32) : Int64 := l.foldl (fun x c => x * 32 + Int32.toInt64 (c - 97 + 1)) 0
def encA (acc : Nat) (l : List Nat) : Nat := l.foldl (fun x d => x * 32 + d) acc
theorem isL_dig {a : Int32} (h : isL a = true) : ∃ d, 1 ≤ d ∧ d ≤ 26 ∧ a = nI (d + 96) ∧ Int32.toInt64 (a - 97 + 1) = lN d := by
  unfold isL at h
  rw [Bool.and_eq_true, decide_eq_true_eq, decide_eq_true_eq] at h
  obtain ⟨c, hc, rfl⟩ := iv_n (a := a) (i32_nlt.mpr (i32_le_trans (by decide : (0 : Int32) ≤ 97) h.1))
  have h1 := h.1
  have h2 := h.2
  rw [geL_97 hc] at h1
  rw [leL_122 hc] at h2
  have e : nI c - 97 = nI (c - 97) := nI_subI h1
  exact ⟨c - 96, by omega, by omega, by rw [show c - 96 + 96 = c by omega], by rw [e, nI_1, nI_l (by omega)]; congr 1; omega⟩
theorem enc_nat : ∀ (l : List Int32) (acc : Nat), (∀ c ∈ l, isL c = true) → ∃ ds : List Nat, ds.length = l.length ∧ (∀ d ∈ ds, 1 ≤ d ∧ d ≤ 26) ∧ l = ds.map (fun d => nI (d + 96)) ∧ l.foldl (fun x c => x * 32 + Int32.toInt64 (c - 97 + 1)) (lN acc) = lN (encA acc ds) := by
  intro l
  induction l with
  | nil => intro acc _; exact ⟨[], rfl, (fun d h => by cases h), rfl, rfl⟩
  | cons c l ih =>
    intro acc h
    obtain ⟨d, d1, d2, d3, d4⟩ := isL_dig (h c List.mem_cons_self)
    obtain ⟨ds, e1, e2, e3, e4⟩ := ih (acc * 32 + d) (fun x hx => h x (List.mem_cons_of_mem _ hx))
    refine ⟨d :: ds, by rw [List.length_cons, List.length_cons, e1], fun x hx => ?_, by rw [List.map_cons, ← e3, d3], ?_⟩
    · rcases List.mem_cons.mp hx with rfl | hx
      · exact ⟨d1, d2⟩
      · exact e2 x hx
    · rw [List.foldl_cons, d4, show (32 : Int64) = lN 32 from rfl, lN_mul, lN_add]
      rw [show (32 : Int64) = lN 32 from rfl] at e4
      exact e4
theorem encA_app (acc : Nat) (l : List Nat) (d : Nat) : encA acc (l ++ [d]) = encA acc l * 32 + d := by
  unfold encA
  rw [List.foldl_append]
  rfl
theorem encA_lt : ∀ (m : Nat) (l : List Nat), l.length = m → (∀ d ∈ l, 1 ≤ d ∧ d ≤ 26) → encA 0 l < 32 ^ m := by
  intro m
  induction m with
  | zero => intro l h _; rw [List.length_eq_zero_iff.mp h]; decide
  | succ m ih =>
    intro l h hd
    have hne : l ≠ [] := fun e => by rw [e] at h; cases h
    rw [← List.dropLast_concat_getLast hne, encA_app]
    have h1 := ih l.dropLast (by rw [List.length_dropLast, h]; rfl) (fun d hx => hd d ((List.dropLast_sublist l).subset hx))
    have h2 := hd (l.getLast hne) (List.getLast_mem hne)
    rw [Nat.pow_succ]
    omega
theorem encA_inj : ∀ (m : Nat) (l k : List Nat), l.length = m → (∀ d ∈ l, 1 ≤ d ∧ d ≤ 26) → (∀ d ∈ k, 1 ≤ d ∧ d ≤ 26) → encA 0 l = encA 0 k → l = k := by
  intro m
  induction m with
  | zero =>
    intro l k h hl hk e
    rw [List.length_eq_zero_iff.mp h] at e ⊢
    by_cases hne : k = []
    · exact hne.symm
    · rw [← List.dropLast_concat_getLast hne, encA_app] at e
      have h2 := hk (k.getLast hne) (List.getLast_mem hne)
      have e0 : encA 0 [] = 0 := rfl
      omega
  | succ m ih =>
    intro l k h hl hk e
    have hne : l ≠ [] := fun e => by rw [e] at h; cases h
    have h2 := hl (l.getLast hne) (List.getLast_mem hne)
    by_cases hk0 : k = []
    · rw [hk0, ← List.dropLast_concat_getLast hne, encA_app] at e
      have e0 : encA 0 [] = 0 := rfl
      omega
    · have h3 := hk (k.getLast hk0) (List.getLast_mem hk0)
      rw [← List.dropLast_concat_getLast hne, ← List.dropLast_concat_getLast hk0, encA_app, encA_app] at e
      have e1 : l.getLast hne = k.getLast hk0 := by omega
      have e2 : l.dropLast = k.dropLast := ih _ _ (by rw [List.length_dropLast, h]; rfl) (fun d hx => hl d ((List.dropLast_sublist l).subset hx)) (fun d hx => hk d ((List.dropLast_sublist k).subset hx)) (by omega)
      rw [← List.dropLast_concat_getLast hne, ← List.dropLast_concat_getLast hk0, e1, e2]
/-- two spellings of at most twelve letters -/
theorem encL_inj {l k : List Int32} (hl : ∀ c ∈ l, isL c = true) (hk : ∀ c ∈ k, isL c = true) (l12 : l.length ≤ 12) (k12 : k.length ≤ 12) (e : encL l = encL k) : l = k := by
  obtain ⟨a, a1, a2, a3, a4⟩ := enc_nat l 0 hl
  obtain ⟨b, b1, b2, b3, b4⟩ := enc_nat k 0 hk
  have e' : lN (encA 0 a) = lN (encA 0 b) := by
    rw [← a4, ← b4]
    exact e
  have ha := encA_lt a.length a rfl a2
  have hb := encA_lt b.length b rfl b2
  have pa : 32 ^ a.length ≤ 32 ^ 12 := Nat.pow_le_pow_right (by decide) (by omega)
  have pb : 32 ^ b.length ≤ 32 ^ 12 := Nat.pow_le_pow_right (by decide) (by omega)
  have e2 : (lN (encA 0 a)).toInt = (lN (encA 0 b)).toInt := by rw [e']
  rw [lN_toI (by omega), lN_toI (by omega)] at e2
  have e3 := encA_inj a.length a b rfl a2 b2 (by omega)
  rw [a3, b3, e3]
/-- what lies in a text from i on -/
def seg (T : List Int32) (i m : Nat) : List Int32 := (T.drop i).take m
theorem seg_succ {T : List Int32} {i m : Nat} (h : i < T.length) : seg T i (m + 1) = T.getD i 0 :: seg T (i + 1) m := by
  unfold seg
  rw [List.drop_eq_getElem_cons h, List.take_succ_cons, List.getD_eq_getElem?_getD, List.getElem?_eq_getElem h]
  rfl
theorem encF_seg {T : List Int32} : ∀ (m i : Nat) (acc : Int64), i + m ≤ T.length → encF T acc i m = (seg T i m).foldl (fun x c => x * 32 + Int32.toInt64 (c - 97 + 1)) acc := by
  intro m
  induction m with
  | zero => intro i acc h; unfold seg; rw [List.take_zero]; rfl
  | succ m ih =>
    intro i acc h
    rw [seg_succ (by omega), List.foldl_cons, ← ih (i + 1) _ (by omega)]
    rfl
theorem allL_seg {T : List Int32} : ∀ (m i : Nat), i + m ≤ T.length → allL T i m = true → ∀ c ∈ seg T i m, isL c = true := by
  intro m
  induction m with
  | zero => intro i h _ c hc; unfold seg at hc; rw [List.take_zero] at hc; cases hc
  | succ m ih =>
    intro i h ha c hc
    have ha' : (isL (T.getD i 0) && allL T (i + 1) m) = true := ha
    rw [Bool.and_eq_true] at ha'
    rw [seg_succ (by omega)] at hc
    rcases List.mem_cons.mp hc with rfl | hc
    · exact ha'.1
    · exact ih (i + 1) (by omega) ha'.2 c hc
