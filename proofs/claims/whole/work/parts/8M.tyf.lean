/-! the types of all nodes, as functions -/
def lixn (l : List Int64) (y : Int64) : Nat → Nat
  | 0 => 0
  | m + 1 => if l.getD m 0 = y then m else lixn l y m
def fdx (δ : Nat → Dd) (y : Int64) : Nat → Nat
  | 0 => 0
  | D + 1 => if dN (δ D) = y then D else fdx δ y D
/-- where the parts of a node begin -/
def po (σ : Nat → Nd) (k : Nat) : Nat → Nat
  | 0 => k + 1
  | i + 1 => po σ k i + nZ (σ (po σ k i))
def lastk (r : Nat) : Bool := r == 10 || kl r || kz r || r == 18 || r == 19 || r == 20
/-- the slot of a variable; the definition that is used; the type of its value -/
def sl (σ : Nat → Nd) (k : Nat) : Nat := lixn (nC (σ k)) (nA (σ k)) (nC (σ k)).length
def tg (σ : Nat → Nd) (δ : Nat → Dd) (D k : Nat) : Nat := fdx δ (nA (σ k)) D
def tR (σ : Nat → Nd) (δ : Nat → Dd) (D k : Nat) : Nat := min 3 (dR (δ (tg σ δ D k)))
def TY (σ : Nat → Nd) (δ : Nat → Dd) (D : Nat) : Nat → Nat → List Nat → Nat
  | 0, _, _ => 0
  | f + 1, k, env => tyo (nK (σ k)) (env.getD (sl σ k) 0) (tR σ δ D k) (if lastk (nK (σ k)) = true then TY σ δ D f (po σ k (ct (nK (σ k)) 100 - 1)) (env ++ bte (nK (σ k)) (ct (nK (σ k)) 100 - 1) (TY σ δ D f (k + 1) env)) else 0)
def Ev (σ : Nat → Nd) (δ : Nat → Dd) (D N : Nat) : Nat → Nat → List Nat
  | 0, _ => []
  | f + 1, k => if nP (σ k) < 0 then dT (δ (nD (σ k))) else Ev σ δ D N f (nP (σ k)).toNat ++ bte (nK (σ (nP (σ k)).toNat)) (pq σ k) (TY σ δ D N ((nP (σ k)).toNat + 1) (Ev σ δ D N f (nP (σ k)).toNat))
def Ee (σ : Nat → Nd) (δ : Nat → Dd) (D N k : Nat) : List Nat := Ev σ δ D N (k + 1) k
def Ty (σ : Nat → Nd) (δ : Nat → Dd) (D N k : Nat) : Nat := TY σ δ D N k (Ee σ δ D N k)
section Tyf
variable {T : List Int32} {σ : Nat → Nd} {δ : Nat → Dd} {N K k d f D o i p : Nat}
theorem lixn_eq (l : List Int64) (y : Int64) : ∀ m, lix l y m = -1 ∨ (lix l y m = nI (lixn l y m) ∧ lixn l y m < m) := by
  intro m
  induction m with
  | zero => exact Or.inl rfl
  | succ m ih =>
    have e1 : lix l y (m + 1) = if l.getD m 0 = y then nI m else lix l y m := rfl
    have e2 : lixn l y (m + 1) = if l.getD m 0 = y then m else lixn l y m := rfl
    rw [e1, e2]
    by_cases c : l.getD m 0 = y
    · rw [if_pos c, if_pos c]
      exact Or.inr ⟨rfl, by omega⟩
    · rw [if_neg c, if_neg c]
      rcases ih with h | ⟨h1, h2⟩
      · exact Or.inl h
      · exact Or.inr ⟨h1, by omega⟩
theorem fdx_eq {y : Int64} {e : Nat} : ∀ D, (∀ d, d < D → Dh δ d) → e < D → dN (δ e) = y → fdx δ y D = e := by
  intro D
  induction D with
  | zero => intro _ h; omega
  | succ D ih =>
    intro hw he hy
    have e1 : fdx δ y (D + 1) = if dN (δ D) = y then D else fdx δ y D := rfl
    rw [e1]
    by_cases c : e = D
    · rw [← c, if_pos hy]
    · rw [if_neg (fun q => (hw D (by omega)).2 e (by omega) (hy.trans q.symm))]
      exact ih (fun d hd => hw d (by omega)) (by omega) hy
theorem pq_eq (h : nP (σ k) = (o : Int)) : pq σ k = pcnt (pr σ) o k := by
  unfold pq
  rw [if_neg (by rw [h]; omega), h, Int.toNat_natCast]
theorem po_ok (wf : WF 0 T σ N [] [] 0) (hk : k < N) : ∀ i, i < pcnt (pr σ) k N → nP (σ (po σ k i)) = (k : Int) ∧ pq σ (po σ k i) = i ∧ po σ k i < N ∧ k < po σ k i ∧ po σ k i < k + nZ (σ k) := by
  have hall := pcnt_all wf hk
  have hE := wf.2.2.1 k hk (by simp)
  intro i
  induction i with
  | zero =>
    intro h
    have hz : 1 < nZ (σ k) := by
      by_cases c : 1 < nZ (σ k)
      · exact c
      · have e : nZ (σ k) = 1 := by have := hE.2.1; omega
        rw [e, pcnt_0 wf.1 (by omega) (Nat.le_refl _)] at hall
        omega
    obtain ⟨a1, a2⟩ := kid_first wf hk hz
    show nP (σ (k + 1)) = _ ∧ pq σ (k + 1) = 0 ∧ k + 1 < N ∧ k < k + 1 ∧ k + 1 < _
    exact ⟨a1, by rw [pq_eq a1]; exact pcnt_0 wf.1 (by omega) (Nat.le_refl _), a2, by omega, by omega⟩
  | succ i ih =>
    intro h
    obtain ⟨a1, a2, a3, a4, a5⟩ := ih (by omega)
    obtain ⟨n1, n2, n3, n4⟩ := kid_next wf a3 a1
    have e : po σ k (i + 1) = po σ k i + nZ (σ (po σ k i)) := rfl
    have e3 : pcnt (pr σ) k (po σ k i) = i := by rw [← pq_eq a1]; exact a2
    rw [e3] at n1
    have hlt : po σ k i + nZ (σ (po σ k i)) < k + nZ (σ k) := by
      by_cases c : po σ k i + nZ (σ (po σ k i)) < k + nZ (σ k)
      · exact c
      · have e2 : po σ k i + nZ (σ (po σ k i)) = k + nZ (σ k) := by omega
        rw [e2] at n1
        omega
    have a6 := n4 hlt
    rw [e]
    exact ⟨a6, by rw [pq_eq a6, n1], by have := hE.2.2.1; omega, by omega, hlt⟩
theorem po_end (wf : WF 0 T σ N [] [] 0) (hk : k < N) : po σ k (pcnt (pr σ) k N) = k + nZ (σ k) := by
  have hall := pcnt_all wf hk
  have hE := wf.2.2.1 k hk (by simp)
  cases hn : pcnt (pr σ) k N with
  | zero =>
    show k + 1 = _
    by_cases c : 1 < nZ (σ k)
    · obtain ⟨a1, a2⟩ := kid_first wf hk c
      have := pcnt_lt (par := pr σ) a1 a2
      omega
    · have := hE.2.1
      omega
  | succ i =>
    obtain ⟨a1, a2, a3, a4, a5⟩ := po_ok wf hk i (by omega)
    obtain ⟨n1, n2, n3, n4⟩ := kid_next wf a3 a1
    have e3 : pcnt (pr σ) k (po σ k i) = i := by rw [← pq_eq a1]; exact a2
    rw [e3] at n1
    show po σ k i + nZ (σ (po σ k i)) = _
    by_cases c : po σ k i + nZ (σ (po σ k i)) < k + nZ (σ k)
    · have h1 := pcnt_lt (par := pr σ) (n4 c) (N := N) (by have := hE.2.2.1; omega)
      omega
    · omega
/-- a part is where its number says -/
theorem po_pq (wf : WF 0 T σ N [] [] 0) (hp : p < N) (ho : nP (σ p) = (k : Int)) : po σ k (pq σ p) = p ∧ pq σ p < pcnt (pr σ) k N ∧ k < p := by
  have hkp : k < p := by
    have h1 := (wf.1 p hp).2.1
    have h2 : pr σ p = (k : Int) := ho
    omega
  have hlt := pcnt_lt (par := pr σ) ho hp
  rw [← pq_eq ho] at hlt
  obtain ⟨a1, a2, a3, a4, a5⟩ := po_ok wf (show k < N by omega) (pq σ p) hlt
  refine ⟨?_, hlt, hkp⟩
  by_cases c1 : po σ k (pq σ p) < p
  · have := pq_mono wf.1 c1 hp a1 ho
    omega
  · by_cases c2 : p < po σ k (pq σ p)
    · have := pq_mono wf.1 c2 a3 ho a1
      omega
    · omega
theorem cnt_ok (wf : WF 0 T σ N [] [] 0) (hk : k < N) (h : kc (nK (σ k)) = false) : pcnt (pr σ) k N = ct (nK (σ k)) 100 := by
  have e := (wf.2.1 k hk).2.2 h
  rw [ite_self, (wf.2.2.1 k hk (by simp)).1] at e
  exact e
theorem lastk_tbl : ∀ r, r < 24 → lastk r = true → kc r = false ∧ 0 < ct r 100 ∧ 3 ≤ r := by decide +kernel
theorem TY_s {env : List Nat} : TY σ δ D (f + 1) k env = tyo (nK (σ k)) (env.getD (sl σ k) 0) (tR σ δ D k) (if lastk (nK (σ k)) = true then TY σ δ D f (po σ k (ct (nK (σ k)) 100 - 1)) (env ++ bte (nK (σ k)) (ct (nK (σ k)) 100 - 1) (TY σ δ D f (k + 1) env)) else 0) := rfl
theorem last_ok (wf : WF 0 T σ N [] [] 0) (hk : k < N) (c : lastk (nK (σ k)) = true) : nP (σ (po σ k (ct (nK (σ k)) 100 - 1))) = (k : Int) ∧ pq σ (po σ k (ct (nK (σ k)) 100 - 1)) = ct (nK (σ k)) 100 - 1 ∧ po σ k (ct (nK (σ k)) 100 - 1) < N ∧ k < po σ k (ct (nK (σ k)) 100 - 1) ∧ nP (σ (k + 1)) = (k : Int) ∧ k + 1 < N ∧ pcnt (pr σ) k N = ct (nK (σ k)) 100 ∧ 0 < ct (nK (σ k)) 100 := by
  have hr := (wf.2.1 k hk).1.1
  obtain ⟨b1, b2, b3⟩ := lastk_tbl _ (by omega) c
  have hc := cnt_ok wf hk b1
  obtain ⟨q1, q2, q3, q4, q5⟩ := po_ok wf hk (ct (nK (σ k)) 100 - 1) (by omega)
  obtain ⟨u1, u2, u3, u4, u5⟩ := po_ok wf hk 0 (by omega)
  exact ⟨q1, q2, q3, q4, u1, u3, hc, b2⟩
theorem TY_fuel (wf : WF 0 T σ N [] [] 0) : ∀ (f1 f2 k : Nat) (env : List Nat), k < N → N - k ≤ f1 → N - k ≤ f2 → TY σ δ D f1 k env = TY σ δ D f2 k env := by
  intro f1
  induction f1 with
  | zero => intro f2 k env hk h1; omega
  | succ f1 ih =>
    intro f2 k env hk h1 h2
    obtain ⟨f2, rfl⟩ : ∃ f', f2 = f' + 1 := ⟨f2 - 1, by omega⟩
    rw [TY_s, TY_s]
    by_cases c : lastk (nK (σ k)) = true
    · obtain ⟨q1, q2, q3, q4, q5, q6, q7, q8⟩ := last_ok wf hk c
      rw [if_pos c, if_pos c, ih f2 (k + 1) env q6 (by omega) (by omega), ih f2 _ _ q3 (by omega) (by omega)]
    · rw [if_neg c, if_neg c]
theorem tyo_lt {r v pt l : Nat} (h1 : v < 4) (h2 : pt < 4) (h3 : l < 4) : tyo r v pt l < 4 := by
  unfold tyo
  repeat' split
  all_goals omega
theorem bte_lt {r i y : Nat} (h : y < 4) : ∀ x ∈ bte r i y, x < 4 := by
  intro x hx
  unfold bte at hx
  split at hx
  · rw [List.mem_singleton] at hx; omega
  · split at hx
    · rcases List.mem_cons.mp hx with h | h
      · omega
      · rw [List.mem_singleton] at h; omega
    · split at hx
      · rw [List.mem_singleton] at hx; omega
      · cases hx
theorem getD_lt {l : List Nat} (h : ∀ x ∈ l, x < 4) (i : Nat) : l.getD i 0 < 4 := by
  rw [List.getD_eq_getElem?_getD]
  by_cases c : i < l.length
  · rw [List.getElem?_eq_getElem c]
    exact h _ (List.getElem_mem c)
  · rw [List.getElem?_eq_none (by omega)]
    show 0 < 4
    omega
theorem tR_lt : tR σ δ D k < 4 := by
  unfold tR
  omega
theorem TY_lt : ∀ (f k : Nat) (env : List Nat), (∀ x ∈ env, x < 4) → TY σ δ D f k env < 4 := by
  intro f
  induction f with
  | zero => intro k env _; show 0 < 4; omega
  | succ f ih =>
    intro k env he
    rw [TY_s]
    refine tyo_lt (getD_lt he _) tR_lt ?_
    split
    · refine ih _ _ (fun x hx => ?_)
      rcases List.mem_append.mp hx with h | h
      · exact he x h
      · exact bte_lt (ih _ _ he) x h
    · omega
theorem Ev_s : Ev σ δ D N (f + 1) k = if nP (σ k) < 0 then dT (δ (nD (σ k))) else Ev σ δ D N f (nP (σ k)).toNat ++ bte (nK (σ (nP (σ k)).toNat)) (pq σ k) (TY σ δ D N ((nP (σ k)).toNat + 1) (Ev σ δ D N f (nP (σ k)).toNat)) := rfl
theorem Ev_fuel (hPP : PP (pr σ) N) : ∀ (f1 f2 k : Nat), k < N → k < f1 → k < f2 → Ev σ δ D N f1 k = Ev σ δ D N f2 k := by
  intro f1
  induction f1 with
  | zero => intro f2 k hk h1; omega
  | succ f1 ih =>
    intro f2 k hk h1 h2
    obtain ⟨f2, rfl⟩ : ∃ f', f2 = f' + 1 := ⟨f2 - 1, by omega⟩
    rw [Ev_s, Ev_s]
    by_cases c : nP (σ k) < 0
    · rw [if_pos c, if_pos c]
    · have h3 := (hPP k hk).2.1
      have h4 : pr σ k = nP (σ k) := rfl
      rw [if_neg c, if_neg c, ih f2 (nP (σ k)).toNat (by omega) (by omega) (by omega)]
theorem Ee_root (h : nP (σ k) = -1) : Ee σ δ D N k = dT (δ (nD (σ k))) := by
  unfold Ee
  rw [Ev_s, if_pos (by omega)]
theorem Ee_raw (hPP : PP (pr σ) N) (hk : k < N) (h : nP (σ k) = (o : Int)) : Ee σ δ D N k = Ee σ δ D N o ++ bte (nK (σ o)) (pq σ k) (TY σ δ D N (o + 1) (Ee σ δ D N o)) := by
  have h3 := (hPP k hk).2.1
  have h4 : pr σ k = (o : Int) := h
  have e : Ev σ δ D N k o = Ee σ δ D N o := Ev_fuel hPP k (o + 1) o (by omega) (by omega) (by omega)
  have e0 : Ee σ δ D N k = Ev σ δ D N (k + 1) k := rfl
  rw [e0, Ev_s, if_neg (by omega), h, Int.toNat_natCast, e]
theorem bte_0 (r y : Nat) : bte r 0 y = [] := by
  unfold bte
  rw [if_neg (fun q => absurd q.2 (by decide)), if_neg (fun q => absurd q.2 (by decide)), if_neg (fun q => absurd q.2 (by decide))]
theorem Ee_first (wf : WF 0 T σ N [] [] 0) (ho : nP (σ (k + 1)) = (k : Int)) (hk : k + 1 < N) : Ee σ δ D N (k + 1) = Ee σ δ D N k := by
  have e : pq σ (k + 1) = 0 := by rw [pq_eq ho]; exact pcnt_0 wf.1 (by omega) (Nat.le_refl _)
  rw [Ee_raw wf.1 hk ho, e, bte_0, List.append_nil]
theorem kid_1 (wf : WF 0 T σ N [] [] 0) (hk : k < N) (h : nP (σ k) = (o : Int)) : nP (σ (o + 1)) = (o : Int) ∧ o + 1 < N ∧ o < k := by
  have h3 := (wf.1 k hk).2.1
  have h4 : pr σ k = (o : Int) := h
  obtain ⟨u1, u2, u3, u4, u5⟩ := po_ok wf (show o < N by omega) 0 (by have := pcnt_lt (par := pr σ) h hk; omega)
  exact ⟨u1, u3, by omega⟩
theorem Ee_part (wf : WF 0 T σ N [] [] 0) (hk : k < N) (h : nP (σ k) = (o : Int)) : Ee σ δ D N k = Ee σ δ D N o ++ bte (nK (σ o)) (pq σ k) (Ty σ δ D N (o + 1)) := by
  obtain ⟨u1, u2, u3⟩ := kid_1 wf hk h
  have e : Ty σ δ D N (o + 1) = TY σ δ D N (o + 1) (Ee σ δ D N (o + 1)) := rfl
  rw [e, Ee_first wf u1 u2]
  exact Ee_raw wf.1 hk h
/-- what is known of all definitions and of the first nodes -/
def DK (σ : Nat → Nd) (δ : Nat → Dd) (D N : Nat) : Prop := (∀ d, d < D → Dw δ σ D N d) ∧ ∀ k, k < N → nD (σ k) < D ∧ (nP (σ k) = -1 → nC (σ k) = dP (δ (nD (σ k))))
theorem Ee_len (wf : WF 0 T σ N [] [] 0) (dk : DK σ δ D N) : ∀ k, k < N → (Ee σ δ D N k).length = (nC (σ k)).length := by
  intro k
  induction k using Nat.strongRecOn with
  | _ k ih =>
    intro hk
    obtain ⟨h1, h2⟩ := dk.2 k hk
    rcases (wf.2.1 k hk).2.1 with hr | ⟨o, o1, o2, o3, o4, o5⟩
    · rw [Ee_root hr, h2 hr, (dk.1 _ h1).2.1.2.1]
    · rw [Ee_part wf hk o1, o4, List.length_append, List.length_append, ih o o2 (by omega), bte_len _ _ _ (nA (σ o)) (nB (σ o)), pq_eq o1]
theorem Ee_lt (wf : WF 0 T σ N [] [] 0) (dk : DK σ δ D N) : ∀ k, k < N → ∀ x ∈ Ee σ δ D N k, x < 4 := by
  intro k
  induction k using Nat.strongRecOn with
  | _ k ih =>
    intro hk x hx
    obtain ⟨h1, h2⟩ := dk.2 k hk
    rcases (wf.2.1 k hk).2.1 with hr | ⟨o, o1, o2, o3, o4, o5⟩
    · rw [Ee_root hr] at hx
      obtain ⟨g1, g2, g3, g4⟩ := (dk.1 _ h1).2.1
      obtain ⟨i, hi, e⟩ := List.getElem_of_mem hx
      have g5 := (g3 i (by omega)).1
      rw [List.getD_eq_getElem?_getD, List.getElem?_eq_getElem hi] at g5
      have g6 : (dT (δ (nD (σ k))))[i] ≤ 3 := g5
      omega
    · rw [Ee_raw wf.1 hk o1] at hx
      rcases List.mem_append.mp hx with h | h
      · exact ih o o2 (by omega) x h
      · exact bte_lt (TY_lt _ _ _ (ih o o2 (by omega))) x h
theorem Ty_lt (wf : WF 0 T σ N [] [] 0) (dk : DK σ δ D N) (hk : k < N) : Ty σ δ D N k < 4 := TY_lt _ _ _ (Ee_lt wf dk k hk)
theorem Ty_eq (wf : WF 0 T σ N [] [] 0) (hk : k < N) : Ty σ δ D N k = tyo (nK (σ k)) ((Ee σ δ D N k).getD (sl σ k) 0) (tR σ δ D k) (if lastk (nK (σ k)) = true then Ty σ δ D N (po σ k (ct (nK (σ k)) 100 - 1)) else 0) := by
  obtain ⟨M, hM⟩ : ∃ M, N = M + 1 := ⟨N - 1, by omega⟩
  have e : Ty σ δ D N k = TY σ δ D (M + 1) k (Ee σ δ D N k) := by
    unfold Ty
    rw [← hM]
  rw [e, TY_s]
  by_cases c : lastk (nK (σ k)) = true
  · obtain ⟨q1, q2, q3, q4, q5, q6, q7, q8⟩ := last_ok wf hk c
    have e1 : TY σ δ D M (k + 1) (Ee σ δ D N k) = Ty σ δ D N (k + 1) := by
      unfold Ty
      rw [Ee_first wf q5 q6]
      exact TY_fuel wf _ _ _ _ q6 (by omega) (by omega)
    rw [if_pos c, if_pos c, e1]
    have e2 : Ty σ δ D N (po σ k (ct (nK (σ k)) 100 - 1)) = TY σ δ D M (po σ k (ct (nK (σ k)) 100 - 1)) (Ee σ δ D N (po σ k (ct (nK (σ k)) 100 - 1))) := TY_fuel wf _ _ _ _ q3 (by omega) (by omega)
    rw [e2, Ee_part wf q3 q1, q2]
  · rw [if_neg c, if_neg c]
theorem ep_all (wf : WF 0 T σ N [] [] 0) (dk : DK σ δ D N) : EP σ δ (Ee σ δ D N) (Ty σ δ D N) N := fun k hk => ⟨Ee_len wf dk k hk, fun h => Ee_root h, fun o h => Ee_part wf hk h⟩
end Tyf
