/-! what both hold while an expression is read -/
def ns (d F : Nat) (w : List Nat) : List Int32 := (w.map fun k => nI (k + d + 1)) ++ [nI (F + d)]
def ss (σ : Nat → Nd) (w : List Nat) : List Int32 := (w.map fun k => nI (nS (σ k))) ++ [nI 8]
def ls (σ : Nat → Nd) (w : List Nat) (lv : Int32) : List Int32 := (w.map fun k => if nK (σ k) < 18 then 0 else 1) ++ [lv]
/-- the whole of a definition -/
def Rt (σ : Nat → Nd) (N F d : Nat) (ps : List Int64) (lv : Int32) : Prop := nP (σ F) = -1 ∧ nC (σ F) = ps ∧ nD (σ F) = d ∧ decide (18 ≤ nK (σ F)) = decide (lv = 1) ∧ ∀ k, F < k → k < N → (F : Int) ≤ nP (σ k)
/-- and the nodes ahead of it are what they were -/
def Rs (σ0 σ : Nat → Nd) (N F d : Nat) (ps : List Int64) (lv : Int32) : Prop := Rt σ N F d ps lv ∧ ∀ j, j < F → σ j = σ0 j
def InvE (T : List Int32) (n d F : Nat) (ps : List Int64) (lv : Int32) (s t : xSt) (z : Bool) (gg : Nat → List Int32) (nn : List Int64) (qr2 qr3 qr4 qr5 qr6 qr7 : List Int32) (qi27 : Int32) (ql0 ql1 : List Int64) (σ0 : Nat → Nd) (p : Nat) (w : List Nat) (σ : Nat → Nd) (N : Nat) (C R : xSt) : Prop := ∃ (g : Nat → List Int32) (i3 i5 i6 i7 i8 i9 : Int32) (j0 : Int64) (l0 : List Int64) (qr8 qr9 qr10 qr11 qr12 qr13 qr14 qr15 qr16 : List Int32) (qi22 qi24 qi25 qi26 : Int32) (qj0 : Int64) (ql2 ql3 : List Int64), C = (rdC s z g nn ((ns d F w).reverse) ((ss σ w).reverse) ((ls σ w lv).reverse) 0 i3 (nI p) i5 i6 i7 i8 i9 (-1) (nI (up σ ps w).length) j0 l0 false) ∧ R = (rdR t qr2 qr3 qr4 qr5 qr6 qr7 qr8 qr9 qr10 qr11 qr12 qr13 qr14 qr15 qr16 0 qi22 (nI p) qi24 qi25 qi26 qi27 (nI N) (nI (du σ w).length) (nI (up σ ps w).length) qj0 ql0 ql1 ql2 ql3) ∧ (WF 0 T σ N w ps d ∧ DM σ N d ∧ CA σ N d F gg g ∧ RA σ N qr8 qr9 qr10 qr11 qr13 qr14 ql2 ql3 ∧ dat (du σ w) qr15 qr16) ∧ ((l0.length = 24 ∧ i3 = -1) ∧ ∀ i, i < (up σ ps w).length → l0.getD i 0 = (up σ ps w).getD i 0) ∧ (qr8.length = 8192 ∧ qr9.length = 8192 ∧ qr10.length = 8192 ∧ qr11.length = 8192 ∧ qr12.length = 8192 ∧ qr13.length = 8192 ∧ qr14.length = 8192 ∧ ql2.length = 8192 ∧ ql3.length = 8192 ∧ qr15.length = 33000 ∧ qr16.length = 33000) ∧ (∀ k ∈ w, F ≤ k) ∧ (F < N ∧ N + d + 1 ≤ p ∧ p ≤ n ∧ 2 * w.length ≤ p) ∧ Rs σ0 σ N F d ps lv
section StepE
variable {T U : List Int32} {n p N D x y d F k : Nat} {w : List Nat} {σ τ σ0 : Nat → Nd} {v nd : Nd} {ps : List Int64} {lv : Int32} {C R : xSt} {gg : Nat → List Int32} {s t : xSt} {z : Bool} {nn : List Int64} {qr2 qr3 qr4 qr5 qr6 qr7 : List Int32} {qi27 : Int32} {ql0 ql1 : List Int64}
theorem ck_lt24 (r : Nat) (h : r < 24) : ck r < 100 := by
  unfold ck
  repeat' split
  all_goals omega
theorem du_top (e : τ k = v) (hw : ∀ j ∈ w, τ j = σ j) : du τ (k :: w) = ((rem (nK v) (nS v)).map fun x => (x, nI k)) ++ du σ w := by
  show ((rem (nK (τ k)) (nS (τ k))).map fun x => (x, nI k)) ++ du τ w = _
  rw [e, du_congr hw]
theorem ss_top (e : τ k = v) (hw : ∀ j ∈ w, τ j = σ j) : ss τ (k :: w) = nI (nS v) :: ss σ w := by
  unfold ss
  rw [List.map_cons, List.cons_append, e]
  congr 2
  exact List.map_congr_left (fun j hj => by rw [hw j hj])
theorem ls_top (e : τ k = v) (hw : ∀ j ∈ w, τ j = σ j) : ls τ (k :: w) lv = (if nK v < 18 then 0 else 1) :: ls σ w lv := by
  unfold ls
  rw [List.map_cons, List.cons_append, e]
  congr 2
  exact List.map_congr_left (fun j hj => by rw [hw j hj])
theorem pd_top (e : τ k = v) (hw : ∀ j ∈ w, τ j = σ j) : pd τ (k :: w) = bu (nK v) (nS v) + pd σ w := by
  show bu (nK (τ k)) (nS (τ k)) + pd τ w = _
  rw [e, pd_congr hw]
theorem up_top (e : τ k = v) : up τ ps (k :: w) = nC v ++ bnl (bnc (nK v) (nS v)) (nA v) (nB v) := by
  rw [up_cons, e]
theorem rem_len (r sp : Nat) : (rem r sp).length ≤ 9 := by
  unfold rem
  repeat' split
  all_goals (simp only [List.length_drop, List.length_cons, List.length_nil]; try omega)
theorem du_len (σ : Nat → Nd) : ∀ w : List Nat, (du σ w).length ≤ 9 * w.length := by
  intro w
  induction w with
  | nil => exact Nat.le_refl _
  | cons k w ih =>
    have := rem_len (nK (σ k)) (nS (σ k))
    show (((rem (nK (σ k)) (nS (σ k))).map fun x => (x, nI k)) ++ du σ w).length ≤ _
    rw [List.length_append, List.length_map, List.length_cons]
    omega
theorem rt_upd (h : Rt σ N F d ps lv) (e1 : nK v = nK (σ k)) (e2 : nP v = nP (σ k)) (e3 : nD v = nD (σ k)) (e4 : nC v = nC (σ k)) : Rt (fu σ k v) N F d ps lv := by
  have ek : ∀ j, nK (fu σ k v j) = nK (σ j) ∧ nP (fu σ k v j) = nP (σ j) ∧ nD (fu σ k v j) = nD (σ j) ∧ nC (fu σ k v j) = nC (σ j) := fun j => by
    by_cases y : j = k
    · rw [y, fu_s]; exact ⟨e1, e2, e3, e4⟩
    · rw [fu_n y]; exact ⟨rfl, rfl, rfl, rfl⟩
  unfold Rt at h ⊢
  rw [(ek F).1, (ek F).2.1, (ek F).2.2.1, (ek F).2.2.2]
  exact ⟨h.1, h.2.1, h.2.2.1, h.2.2.2.1, fun j h1 h2 => by rw [(ek j).2.1]; exact h.2.2.2.2 j h1 h2⟩
theorem rt_push (h : Rt σ N F d ps lv) (hF : F < N) (hP : (F : Int) ≤ nP nd) : Rt (fu σ N nd) (N + 1) F d ps lv := by
  unfold Rt at h ⊢
  rw [fu_n (by omega : ¬ F = N)]
  refine ⟨h.1, h.2.1, h.2.2.1, h.2.2.2.1, fun j h1 h2 => ?_⟩
  by_cases y : j = N
  · rw [y, fu_s]; exact hP
  · rw [fu_n y]; exact h.2.2.2.2 j h1 (by omega)
theorem rs_upd (h : Rs σ0 σ N F d ps lv) (hF : F ≤ k) (e1 : nK v = nK (σ k)) (e2 : nP v = nP (σ k)) (e3 : nD v = nD (σ k)) (e4 : nC v = nC (σ k)) : Rs σ0 (fu σ k v) N F d ps lv :=
  ⟨rt_upd h.1 e1 e2 e3 e4, fun j hj => by rw [fu_n (by omega : ¬ j = k)]; exact h.2 j hj⟩
theorem rs_push (h : Rs σ0 σ N F d ps lv) (hF : F < N) (hP : (F : Int) ≤ nP nd) : Rs σ0 (fu σ N nd) (N + 1) F d ps lv :=
  ⟨rt_push h.1 hF hP, fun j hj => by rw [fu_n (by omega : ¬ j = N)]; exact h.2 j hj⟩
theorem flt_lr {cc : Option xSt} {R : xSt} (hy : y < 900000) (he : ∀ q, m168 R = some q → LR y R = LR (y + 1) q) (h : Flt s t z (m168 R) cc) : Flt s t z (LR y R) cc := by
  obtain ⟨f, pl, q, c, hf, h1, h2, h3, h4⟩ := h
  refine ⟨f, pl, q, c, hf, ?_, h2, h3, h4⟩
  rw [he q h1]
  obtain ⟨_, _, _, _, _, _, _, _, _, _, _, _, _, _, _, _, _, _, _, _, _, _, _, _, _, _, _, _, rfl, -⟩ := h3
  refine lr_end (by omega) (Or.inr ?_)
  rw [rdR_i21]
  rcases hf with rfl | rfl | rfl <;> decide
theorem ca_S {s2 : Nat} {g : Nat → List Int32} (ca : CA σ N d F gg g) (dm : DM σ N d) (kN : k < N) (hkF : F ≤ k) (kD : nD (σ k) = d) (so3 : 3 ≤ nK (σ k)) (hs : s2 < 100) (hnq : nq (nK (σ k)) s2 = true → nq (nK (σ k)) (nS (σ k)) = true) (e1 : nK v = nK (σ k)) (e3 : nD v = nD (σ k)) (e4 : nC v = nC (σ k)) (e5 : nL v = nL (σ k)) (e6 : nQ v = nQ (σ k) ∨ nq (nK (σ k)) s2 = false) (e7 : nS v = s2) : CA (fu σ k v) N d F gg g := by
  refine ca_upd ca dm kN hkF kD e1 e3 e5 e4 (fun _ _ _ => rfl) (fun _ _ => ⟨rfl, fun _ _ => rfl⟩) (by rw [e1]; exact so3) (fun q => ?_) (fun q => by omega)
  rw [e1, e7] at q
  rcases e6 with e6 | e6
  · have e0 := (ca.2.2.2 k kN).2.2.2.2.2.1 (hnq q)
    rw [kD] at e0
    rw [e6]
    exact e0
  · exact absurd (e6.symm.trans q) (by decide)
theorem sm_nq {r a b : Nat} (h : sm r a b = true) : nq r b = nq r a := by
  unfold sm at h
  rw [Bool.and_eq_true, beq_iff_eq] at h
  exact h.2
/-- both have one more node -/
theorem inv_node {e m x2 e2 : Nat} {b : Bool} {g : Nat → List Int32} {l0 : List Int64} {qr8 qr9 qr10 qr11 qr13 qr14 : List Int32} {ql2 ql3 : List Int64} {nd : Nd} {vv : Int32} {ds ds2 : List (Nat × Int32)} {q12 q15 q16 s1 s2 s3 : List Int32} {i3 y3 y5 y6 y7 y8 y9 u22 u24 u25 u26 : Int32} {yj uj : Int64} {cur : List Int64} {P : Int} (hi3 : i3 = -1) (hn4 : n ≤ 4088) (wf1 : WF 1 T σ N w ps d) (dm : DM σ N d) (ca : CA σ N d F gg g) (ra : RA σ N qr8 qr9 qr10 qr11 qr13 qr14 ql2 ql3) (hds : du σ w = ds) (hup : up σ ps w = cur) (hm : cur.length = m) (hP : tp w = P) (hl0 : l0.length = 24) (hcur : ∀ i, i < m → l0.getD i 0 = cur.getD i 0) (h8 : qr8.length = 8192) (h9 : qr9.length = 8192) (h10 : qr10.length = 8192) (h11 : qr11.length = 8192) (h13 : qr13.length = 8192) (h14 : qr14.length = 8192) (g2 : ql2.length = 8192) (g3 : ql3.length = 8192) (hFw : ∀ k ∈ w, F ≤ k) (hFN : F ≤ N) (hNp : N + d + 1 < e) (hwp : 2 * w.length + 1 ≤ e) (hpar : ∀ k w1, w = k :: w1 → bpc (nK (σ k)) (pcnt (pr σ) k N) = bnc (nK (σ k)) (nS (σ k)) ∧ chp (nK (σ k)) (pcnt (pr σ) k N) = !b) (rt2 : Rs σ0 (fu σ N nd) (N + 1) F d ps lv) (o3 : q12.length = 8192) (o4 : q15.length = 33000) (o5 : q16.length = 33000) (o6 : dat ds2 q15 q16) (o7 : nP nd = P) (o8 : nD nd = d) (o9 : nC nd = cur) (o10 : NdO T nd) (o11 : decide (18 ≤ nK nd) = !b) (o12 : kc (nK nd) = false → ct (nK nd) (nS nd) = 0) (o13 : nK nd = 0 → vv = nV nd) (o14 : nK nd = 1 → vv = lix cur (nA nd) m ∧ nQ nd = nL nd) (o15 : e ≤ e2 ∧ y3 = i3) (o16 : e2 ≤ n) (o17 : (nS nd = 100 ∧ nZ nd = 1 ∧ ds2 = ds ∧ s1 = (ns d F w).reverse ∧ s2 = (ss σ w).reverse ∧ s3 = (ls σ w lv).reverse ∧ x2 = x ∧ nK nd ≤ 2) ∨ (nS nd = 0 ∧ 3 ≤ nK nd ∧ ds2 = ((rem (nK nd) 0).map fun y => (y, nI N)) ++ ds ∧ s1 = xsPush 4097 (ns d F w).reverse (nI (g 0).length) ∧ s2 = xsPush 4097 (ss σ w).reverse 0 ∧ s3 = xsPush 4097 (ls σ w lv).reverse (if nK nd < 18 then 0 else 1) ∧ x2 = x + 1 ∧ e < e2)) : ∃ w2, InvE T n d F ps lv s t z gg nn qr2 qr3 qr4 qr5 qr6 qr7 qi27 ql0 ql1 σ0 e2 w2 (fu σ N nd) (N + 1) (rdC s z (addN g (nI (ck (nK nd))) (nL nd) vv (nI m)) nn s1 s2 s3 0 y3 (nI e2) y5 y6 y7 y8 y9 (-1) (nI m) yj l0 false) (rdR t qr2 qr3 qr4 qr5 qr6 qr7 (qr8.set N (nI (nK nd))) (qr9.set N (pI P)) (qr10.set N (nL nd)) (qr11.set N (nQ nd)) q12 (qr13.set N (nI m)) (qr14.set N (nV nd)) q15 q16 0 u22 (nI e2) u24 u25 u26 qi27 (nI (N + 1)) (nI ds2.length) (nI m) uj ql0 ql1 (ql2.set N (nA nd)) (ql3.set N (nB nd))) ∧ ((pd (fu σ N nd) w2 = pd σ w ∧ x2 = x) ∨ (pd (fu σ N nd) w2 ≤ pd σ w + 2 ∧ x2 = x + 1 ∧ e < e2)) := by
  have hwN := ch_lt wf1.2.2.2.1
  have wf2 : ∀ w2, ((w2 = w ∧ nS nd = 100 ∧ nZ nd = 1) ∨ (w2 = N :: w ∧ so (nK nd) (nS nd) = true ∧ nS nd = 0)) → WF 0 T (fu σ N nd) (N + 1) w2 ps d := fun w2 hE => wf_node wf1 (o7.trans hP.symm) o8 (o9.trans hup.symm) o10 (fun k w1 ek => ⟨(hpar k w1 ek).1, o11.trans (hpar k w1 ek).2.symm⟩) o12 hE
  have dm2 : DM (fu σ N nd) (N + 1) d := dm_push dm o8
  have ra2 : RA (fu σ N nd) (N + 1) (qr8.set N (nI (nK nd))) (qr9.set N (pI P)) (qr10.set N (nL nd)) (qr11.set N (nQ nd)) (qr13.set N (nI m)) (qr14.set N (nV nd)) (ql2.set N (nA nd)) (ql3.set N (nB nd)) := by
    have e0 := ra_push (nd := nd) ra (by omega) h8 h9 h10 h11 h13 h14 g2 g3
    rw [o7, o9, hm] at e0
    exact e0
  have hvq : nq (nK nd) (nS nd) = false := by
    rcases o17 with ⟨q1, -, -, -, -, -, -, hk2⟩ | ⟨q1, q2, -⟩
    · rw [q1]
      have hh : nK nd = 0 ∨ nK nd = 1 ∨ nK nd = 2 := by omega
      rcases hh with e | e | e <;> (rw [e]; decide)
    · rw [q1]
      exact (new_tbl _ (by have := o10.1; omega) q2).2.2.2.2
  have ca2 : CA (fu σ N nd) (N + 1) d F gg (addN g (nI (ck (nK nd))) (nL nd) vv (nI m)) := by
    have e2 := ca_push (nd := nd) (vv := vv) ca dm hFN (by omega) o8 o13 (fun q => by rw [o9, hm]; exact o14 q) hvq (fun q => by
      rcases o17 with ⟨_, q2, -⟩ | ⟨q1, -⟩
      · exact q2
      · omega)
    rw [o9, hm] at e2
    exact e2
  have eww : ∀ j ∈ w, fu σ N nd j = σ j := fun j hj => by
    have := hwN j hj
    rw [fu_n (by omega)]
  have ess : ss (fu σ N nd) w = ss σ w := by
    unfold ss
    congr 1
    exact List.map_congr_left (fun j hj => by rw [eww j hj])
  have els : ls (fu σ N nd) w lv = ls σ w lv := by
    unfold ls
    congr 1
    exact List.map_congr_left (fun j hj => by rw [eww j hj])
  have eup : up (fu σ N nd) ps w = cur := by rw [up_congr eww, hup]
  have edu : du (fu σ N nd) w = ds := by rw [du_congr eww, hds]
  have epd : pd (fu σ N nd) w = pd σ w := pd_congr eww
  rcases o17 with ⟨q1, q2, q3, q4, q5, q6, q7, -⟩ | ⟨q1, q2, q3, q4, q5, q6, q7, q8⟩
  · subst q3 q4 q5 q6 q7
    refine ⟨w, ⟨_, y3, y5, y6, y7, y8, y9, yj, l0, _, _, _, _, q12, _, _, q15, q16, u22, u24, u25, u26, uj, _, _, ?_, ?_, ⟨wf2 _ (Or.inl ⟨rfl, q1, q2⟩), dm2, ca2, ra2, by rw [edu]; exact o6⟩, ⟨⟨hl0, o15.2.trans hi3⟩, by rw [eup, hm]; exact hcur⟩, ⟨(by (try simp only [List.length_set]); first | assumption | omega), (by (try simp only [List.length_set]); first | assumption | omega), (by (try simp only [List.length_set]); first | assumption | omega), (by (try simp only [List.length_set]); first | assumption | omega), o3, (by (try simp only [List.length_set]); first | assumption | omega), (by (try simp only [List.length_set]); first | assumption | omega), (by (try simp only [List.length_set]); first | assumption | omega), (by (try simp only [List.length_set]); first | assumption | omega), o4, o5⟩, hFw, ⟨by omega, by omega, o16, by omega⟩, rt2⟩, Or.inl ⟨epd, rfl⟩⟩
    · rw [eup, ess, els, hm]
    · rw [eup, edu, hm]
  · subst q3 q4 q5 q6 q7
    have eNN : fu σ N nd N = nd := fu_s _ _ _
    have hbu := bu_tbl (nK nd) (by have := o10.1; omega)
    have eid : ∀ j ∈ w, fu σ N nd j = σ j := eww
    have epd3 : pd (fu σ N nd) (N :: w) = bu (nK nd) 0 + pd σ w := by
      rw [pd_top eNN eid, q1]
    have eup3 : up (fu σ N nd) ps (N :: w) = cur := by
      rw [up_top eNN, q1, bnc_0, o9]
      exact List.append_nil _
    have edu3 : du (fu σ N nd) (N :: w) = ((rem (nK nd) 0).map fun y => (y, nI N)) ++ ds := by
      rw [du_top eNN eid, q1, hds]
    refine ⟨N :: w, ⟨_, y3, y5, y6, y7, y8, y9, yj, l0, _, _, _, _, q12, _, _, q15, q16, u22, u24, u25, u26, uj, _, _, ?_, ?_, ⟨wf2 _ (Or.inr ⟨rfl, by rw [q1]; exact (new_tbl _ (by have := o10.1; omega) q2).1, q1⟩), dm2, ca2, ra2, by rw [edu3]; exact o6⟩, ⟨⟨hl0, o15.2.trans hi3⟩, by rw [eup3, hm]; exact hcur⟩, ⟨(by (try simp only [List.length_set]); first | assumption | omega), (by (try simp only [List.length_set]); first | assumption | omega), (by (try simp only [List.length_set]); first | assumption | omega), (by (try simp only [List.length_set]); first | assumption | omega), o3, (by (try simp only [List.length_set]); first | assumption | omega), (by (try simp only [List.length_set]); first | assumption | omega), (by (try simp only [List.length_set]); first | assumption | omega), (by (try simp only [List.length_set]); first | assumption | omega), o4, o5⟩, ?_, ⟨by omega, by omega, o16, by rw [List.length_cons]; omega⟩, rt2⟩, Or.inr ⟨by rw [epd3]; omega, rfl, q8⟩⟩
    · have l1 : (ns d F w).length < 4097 := by unfold ns; rw [List.length_append, List.length_map, List.length_singleton]; omega
      have l2 : (ss σ w).length < 4097 := by unfold ss; rw [List.length_append, List.length_map, List.length_singleton]; omega
      have l3 : (ls σ w lv).length < 4097 := by unfold ls; rw [List.length_append, List.length_map, List.length_singleton]; omega
      rw [eup3, ss_top eNN eid, ls_top eNN eid, q1, xsPush_r l1, xsPush_r l2, xsPush_r l3, ca.2.1 0 (by omega), hm]
      rfl
    · rw [eup3, edu3, hm]
    · intro j hj
      rcases List.mem_cons.mp hj with rfl | hj
      · exact hFN
      · exact hFw j hj
/-- an expression as a part -/
theorem stp_E {wt : Nat} {b : Bool} (h : TR T U n) (hT : gR s 0 = T) (hU : gR t 1 = U) (hn : gI t 20 = nI n) (hz : gZ s 3 = z) (hn4 : n ≤ 4088) (hnn : nn.length = 64) (a2 : qr2.length = 64) (a3 : qr3.length = 64) (a4 : qr4.length = 64) (a5 : qr5.length = 64) (a6 : qr6.length = 64) (a7 : qr7.length = 512) (b0 : ql0.length = 64) (b1 : ql1.length = 512) (hy : y < 900000) (hx : x + pd σ (k :: w) ≤ 3 * p) (hI : InvE T n d F ps lv s t z gg nn qr2 qr3 qr4 qr5 qr6 qr7 qi27 ql0 ql1 σ0 p (k :: w) σ N C R) (hwt : (wt = 1 ∧ b = true) ∨ (wt = 2 ∧ b = false)) (hrem : rem (nK (σ k)) (nS (σ k)) = wt :: rem (nK (σ k)) (nS (σ k) + 1)) (hsy : (sym (ck (nK (σ k))) (nS (σ k)) = 69 ∧ b = true) ∨ (sym (ck (nK (σ k))) (nS (σ k)) = 67 ∧ b = false) ∨ (sym (ck (nK (σ k))) (nS (σ k)) = 83 ∧ ((nK (σ k) < 18 ∧ b = true) ∨ (18 ≤ nK (σ k) ∧ b = false)))) (t1 : kc (nK (σ k)) = false) (t2 : chp (nK (σ k)) (ct (nK (σ k)) (nS (σ k))) = !b) (t3 : so (nK (σ k)) (nS (σ k) + 1) = true) (t4 : ct (nK (σ k)) (nS (σ k) + 1) = ct (nK (σ k)) (nS (σ k)) + 1) (t5 : bnc (nK (σ k)) (nS (σ k) + 1) = bnc (nK (σ k)) (nS (σ k))) (t6 : bpc (nK (σ k)) (ct (nK (σ k)) (nS (σ k))) = bnc (nK (σ k)) (nS (σ k) + 1)) (t7 : bu (nK (σ k)) (nS (σ k) + 1) = bu (nK (σ k)) (nS (σ k))) (t8 : sm (nK (σ k)) (nS (σ k)) (nS (σ k) + 1) = true) : Flt s t z (LR y R) (LC x C) ∨ ∃ (R2 C2 : xSt) (x2 p2 : Nat) (w2 : List Nat) (σ2 : Nat → Nd) (N2 : Nat), LR y R = LR (y + 1) R2 ∧ LC x C = LC x2 C2 ∧ InvE T n d F ps lv s t z gg nn qr2 qr3 qr4 qr5 qr6 qr7 qi27 ql0 ql1 σ0 p2 w2 σ2 N2 C2 R2 ∧ x2 + pd σ2 w2 ≤ 3 * p2 ∧ 3 * (n - p2) + pd σ2 w2 < 3 * (n - p) + pd σ (k :: w) := by
  obtain ⟨g, i3, i5, i6, i7, i8, i9, j0, l0, qr8, qr9, qr10, qr11, qr12, qr13, qr14, qr15, qr16, qi22, qi24, qi25, qi26, qj0, ql2, ql3, rfl, rfl, ⟨wf, dm, ca, ra, dt⟩, ⟨⟨hl0, hi3⟩, hcur⟩, ⟨h8, h9, h10, h11, h12, h13, h14, g2, g3, h15, h16⟩, hFw, ⟨hFN, hNp, hpn, hwp⟩, rt⟩ := hI
  obtain ⟨⟨kN, kP, kC, kso, kD⟩, kw, kch⟩ := wf.2.2.2.1
  obtain ⟨so3, so23, so9⟩ := so_lt kso
  have hkF : F ≤ k := hFw k List.mem_cons_self
  have hwl : w.length < 2044 := by rw [List.length_cons] at hwp; omega
  have hk0 : xsAt (g 0) (nI (k + d + 1)) = nI (ck (nK (σ k))) := by rw [xsAt_n (by omega)]; have e0 := (ca.2.2.2 k kN).1; rw [kD] at e0; exact e0
  have hdl := du_len σ w
  have hx9 : x < 900000 := by omega
  have hm24 : (up σ ps (k :: w)).length ≤ 24 := wf.2.2.2.2.2
  have hwk : ∀ j ∈ w, ¬ j = k := fun j hj e => by have := kw j hj; omega
  have hwN : ∀ j ∈ w, j < N := ch_lt kch
  have hck : ck (nK (σ k)) < 100 := ck_lt24 _ so23
  rw [show ns d F (k :: w) = nI (k + d + 1) :: ns d F w from rfl, show ss σ (k :: w) = nI (nS (σ k)) :: ss σ w from rfl]
  have e78 := m78_eq (s := s) (z := z) (g := g) (nn := nn) (r3 := (ls σ (k :: w) lv).reverse) (i2 := 0) (i3 := i3) (i4 := nI p) (i5 := i5) (i6 := i6) (i7 := i7) (i8 := i8) (i9 := i9) (i11 := nI (up σ ps (k :: w)).length) (j0 := j0) (l0 := l0) (z4 := false) (ns := ns d F w) (ss := ss σ w) (c := k + d + 1) (κ := ck (nK (σ k))) (sp := nS (σ k)) (hz := hz) hck hk0 (by unfold ns; rw [List.length_append, List.length_map, List.length_singleton]; omega) (by unfold ss; rw [List.length_append, List.length_map, List.length_singleton]; omega) (by omega)
  have edu : du σ (k :: w) = (wt, nI k) :: (((rem (nK (σ k)) (nS (σ k) + 1)).map fun x => (x, nI k)) ++ du σ w) := by
    show ((rem (nK (σ k)) (nS (σ k))).map fun x => (x, nI k)) ++ du σ w = _
    rw [hrem]
    rfl
  have hrl := rem_len (nK (σ k)) (nS (σ k) + 1)
  have hDl : (((rem (nK (σ k)) (nS (σ k) + 1)).map fun x => (x, nI k)) ++ du σ w).length < 30000 := by
    rw [List.length_append, List.length_map]
    omega
  rw [edu] at dt
  obtain ⟨dt1, dt2, dt3⟩ := dt
  rw [show (du σ (k :: w)).length = (((rem (nK (σ k)) (nS (σ k) + 1)).map fun x => (x, nI k)) ++ du σ w).length + 1 by rw [edu, List.length_cons]]
  generalize hds : ((rem (nK (σ k)) (nS (σ k) + 1)).map fun x => (x, nI k)) ++ du σ w = ds at *
  have hww : wt = 1 ∨ wt = 2 ∨ wt = 3 ∨ wt = 4 ∨ wt = 5 ∨ wt = 6 ∨ wt = 7 ∨ wt = 9 := by omega
  have hsy3 : sym (ck (nK (σ k))) (nS (σ k)) ≠ 66 ∧ sym (ck (nK (σ k))) (nS (σ k)) ≠ 85 ∧ sym (ck (nK (σ k))) (nS (σ k)) ≠ 65 ∧ sym (ck (nK (σ k))) (nS (σ k)) ≠ 42 := by
    rcases hsy with ⟨e, -⟩ | ⟨e, -⟩ | ⟨e, -⟩ <;> (rw [e]; decide)
  rcases step_tok (s := s) (z := z) (g := g) (nn := nn) (r1 := (nI (k + d + 1) :: ns d F w).reverse) (r2 := (nI (nS (σ k) + 1) :: ss σ w).reverse) (r3 := (ls σ (k :: w) lv).reverse) (i3 := i3) (i5 := i5) (i6 := i6) (i7 := i7) (i8 := i8) (i9 := i9) (i10 := -1) (i11 := nI (up σ ps (k :: w)).length) (j0 := j0) (l0 := l0) (t := t) (qr2 := qr2) (qr3 := qr3) (qr4 := qr4) (qr5 := qr5) (qr6 := qr6) (qr7 := qr7) (qr8 := qr8) (qr9 := qr9) (qr10 := qr10) (qr11 := qr11) (qr12 := qr12) (qr13 := qr13) (qr14 := qr14) (qr15 := qr15) (qr16 := qr16) (qi22 := qi22) (qi24 := qi24) (qi25 := qi25) (qi26 := qi26) (qi27 := qi27) (qi28 := nI N) (qi30 := nI (up σ ps (k :: w)).length) (qj0 := qj0) (ql0 := ql0) (ql1 := ql1) (ql2 := ql2) (ql3 := ql3) (x := x) (y := y) (D := ds.length) (p := p) (w := wt) h hT hU hn hx9 hy hpn hl0 hnn (by omega) h15 h16 dt1 dt2 hww a2 a3 a4 a5 a6 a7 b0 b1 h8 h9 h10 h11 h12 h13 h14 g2 g3 (by rw [rdC_z4]) (by rw [rdC_i2]) e78 hsy3.1 hsy3.2.1 hsy3.2.2.1 with hf | ⟨a, e, τ, c, x7, x26, j, jr, p1, p2, p3, hG, hm81, h150⟩
  · exact Or.inl hf
  have hL := lc_step (x := x) (by omega) (by rw [rdC_z4]) (by rw [rdC_i2]) e78 hsy3.1 hsy3.2.1 hsy3.2.2.2 hm81
  have h88 : ∀ S : xSt, gR S 3 = (ls σ (k :: w) lv).reverse → m83 (sym (ck (nK (σ k))) (nS (σ k))) S = m88 (if b = true then 0 else 1) S := by
    intro S hS
    rcases hsy with ⟨e1, e2⟩ | ⟨e1, e2⟩ | ⟨e1, e2⟩
    · rw [e1, e2, m83_69, if_pos rfl]
    · rw [e1, e2, m83_67, if_neg ff]
    · rw [e1, m83_83, hS, show ls σ (k :: w) lv = (if nK (σ k) < 18 then 0 else 1) :: ls σ w lv from rfl, xsTop_r (by unfold ls; rw [List.length_append, List.length_map, List.length_singleton]; omega)]
      rcases e2 with ⟨e2, e3⟩ | ⟨e2, e3⟩
      · rw [if_pos e2, e3, if_pos rfl]
      · rw [if_neg (by omega), e3, if_neg ff]
  rw [h88 _ (by rw [rdC_r3])] at hL
  have hM := m168_go (ww := nI wt) (by omega) h15 h16 dt1 dt2 (by rcases hwt with ⟨rfl, -⟩ | ⟨rfl, -⟩ <;> decide) h150
  rw [rdR_i21, if_pos (show (0 : Int32) ≤ 0 by decide), if_pos (by rcases hwt with ⟨rfl, -⟩ | ⟨rfl, -⟩ <;> decide)] at hM
  have hM2 : m168 (rdR t qr2 qr3 qr4 qr5 qr6 qr7 qr8 qr9 qr10 qr11 qr12 qr13 qr14 qr15 qr16 0 qi22 (nI p) qi24 qi25 qi26 qi27 (nI N) (nI (ds.length + 1)) (nI (up σ ps (k :: w)).length) qj0 ql0 ql1 ql2 ql3) = m169 b (pI (k : Int)) (rdR t qr2 qr3 qr4 qr5 qr6 qr7 qr8 qr9 qr10 qr11 qr12 qr13 qr14 qr15 qr16 0 qi22 (nI e) (nI (τ - 2)) (nI a) x26 qi27 (nI N) (nI ds.length) (nI (up σ ps (k :: w)).length) jr ql0 ql1 ql2 ql3) := by
    rw [hM, pI_k]
    rcases hwt with ⟨rfl, rfl⟩ | ⟨rfl, rfl⟩
    · rw [if_pos (by decide)]
      unfold m168_139
      exact bind_id _
    · rw [if_neg (by decide)]
      unfold m168_139
      exact bind_id _
  have hLR : ∀ q, m168 (rdR t qr2 qr3 qr4 qr5 qr6 qr7 qr8 qr9 qr10 qr11 qr12 qr13 qr14 qr15 qr16 0 qi22 (nI p) qi24 qi25 qi26 qi27 (nI N) (nI (ds.length + 1)) (nI (up σ ps (k :: w)).length) qj0 ql0 ql1 ql2 ql3) = some q → LR y (rdR t qr2 qr3 qr4 qr5 qr6 qr7 qr8 qr9 qr10 qr11 qr12 qr13 qr14 qr15 qr16 0 qi22 (nI p) qi24 qi25 qi26 qi27 (nI N) (nI (ds.length + 1)) (nI (up σ ps (k :: w)).length) qj0 ql0 ql1 ql2 ql3) = LR (y + 1) q := fun q hq => lr_step (by omega) (by omega) h15 dt1 (by rcases hwt with ⟨rfl, -⟩ | ⟨rfl, -⟩ <;> decide) hq
  rcases exp_ok (s := s) (z := z) (g := g) (nn := nn) (r1 := (nI (k + d + 1) :: ns d F w).reverse) (r2 := (nI (nS (σ k) + 1) :: ss σ w).reverse) (r3 := (ls σ (k :: w) lv).reverse) (i3 := i3) (i9 := i9) (l0 := l0) (t := t) (qr2 := qr2) (qr3 := qr3) (qr4 := qr4) (qr5 := qr5) (qr6 := qr6) (qr7 := qr7) (qr8 := qr8) (qr9 := qr9) (qr10 := qr10) (qr11 := qr11) (qr12 := qr12) (qr13 := qr13) (qr14 := qr14) (qr15 := qr15) (qr16 := qr16) (qi22 := qi22) (qi27 := qi27) (ql0 := ql0) (ql1 := ql1) (ql2 := ql2) (ql3 := ql3) (m := (up σ ps (k :: w)).length) (N := N) (ds := ds) (P := (k : Int)) (b := b) (lv := if b = true then 0 else 1) (cur := up σ ps (k :: w)) (x := x + 1) (d := d) hG h hT hU hn hz p3 (by omega) hl0 hnn hm24 rfl hcur a2 a3 a4 a5 a6 a7 b0 b1 h8 h9 h10 h11 h12 h13 h14 g2 g3 h15 h16 (by omega) dt3 (by omega) (by cases b; exact Or.inr ⟨rfl, rfl⟩; exact Or.inl ⟨rfl, rfl⟩) with hf | ⟨nd, vv, e2, x2, ds2, q12, q15, q16, s1, s2, s3, y3, y5, y6, y7, y8, y9, u22, u24, u25, u26, yj, uj, o1, o2, ⟨o3, o4, o5, o6⟩, ⟨o7, o8, o9, o10, o11, o12⟩, ⟨o13, o14⟩, o15, o16, o17⟩
  · refine Or.inl (flt_lr hy hLR ?_)
    rw [hM2, hL]
    exact hf
  have hR2 := hLR _ (hM2.trans o1)
  have hL2 := hL.trans o2
  have wf1 : WF 1 T (fu σ k (uS (σ k) (nS (σ k) + 1))) N (k :: w) ps d := wf_adv wf rfl rfl rfl rfl (ndo_S (wf.2.1 k kN).1 t8) (fun _ => t4) t3 (fun _ _ => rfl) (by
    show (nC (σ k) ++ bnl (bnc (nK (σ k)) (nS (σ k) + 1)) (nA (σ k)) (nB (σ k))).length ≤ 24
    rw [t5]
    exact hm24)
  have eup : up (fu σ k (uS (σ k) (nS (σ k) + 1))) ps (k :: w) = up σ ps (k :: w) := by
    rw [up_top (fu_s _ _ _)]
    show nC (σ k) ++ bnl (bnc (nK (σ k)) (nS (σ k) + 1)) (nA (σ k)) (nB (σ k)) = _
    rw [t5]
    rfl
  have epr : pr (fu σ k (uS (σ k) (nS (σ k) + 1))) = pr σ := fu_pr rfl
  have hpc : pcnt (pr σ) k N = ct (nK (σ k)) (nS (σ k)) := by
    have e0 := (wf.2.1 k kN).2.2 t1
    rw [ite_self] at e0
    exact e0
  have ekk : fu σ k (uS (σ k) (nS (σ k) + 1)) k = uS (σ k) (nS (σ k) + 1) := fu_s _ _ _
  have eww : ∀ j ∈ w, fu σ k (uS (σ k) (nS (σ k) + 1)) j = σ j := fun j hj => fu_n (hwk j hj)
  have epd2 : pd (fu σ k (uS (σ k) (nS (σ k) + 1))) (k :: w) = pd σ (k :: w) := by
    rw [pd_top ekk eww]
    show bu (nK (σ k)) (nS (σ k) + 1) + pd σ w = _
    rw [t7]
    rfl
  have edu2 : du (fu σ k (uS (σ k) (nS (σ k) + 1))) (k :: w) = ds := by
    rw [du_top ekk eww]
    exact hds
  have ess2 : ss (fu σ k (uS (σ k) (nS (σ k) + 1))) (k :: w) = nI (nS (σ k) + 1) :: ss σ w := ss_top ekk eww
  have els2 : ls (fu σ k (uS (σ k) (nS (σ k) + 1))) (k :: w) lv = ls σ (k :: w) lv := by rw [ls_top ekk eww]; rfl
  have ca1 : CA (fu σ k (uS (σ k) (nS (σ k) + 1))) N d F gg g := ca_S (s2 := nS (σ k) + 1) ca dm kN hkF kD so3 (by omega) (fun q => (sm_nq t8).symm.trans q) rfl rfl rfl rfl (Or.inl rfl) rfl
  have rt2 : Rs σ0 (fu (fu σ k (uS (σ k) (nS (σ k) + 1))) N nd) (N + 1) F d ps lv := rs_push (rs_upd rt hkF rfl rfl rfl rfl) hFN (by rw [o7]; omega)
  rw [← ess2, ← els2] at o17
  rw [List.length_cons] at hwp
  obtain ⟨w2, hI2, hpx⟩ := inv_node (lv := lv) (qr2 := qr2) (qr3 := qr3) (qr4 := qr4) (qr5 := qr5) (qr6 := qr6) (qr7 := qr7) (qi27 := qi27) (ql0 := ql0) (ql1 := ql1) (s := s) (t := t) (z := z) (nn := nn) (n := n) (y3 := y3) (y5 := y5) (y6 := y6) (y7 := y7) (y8 := y8) (y9 := y9) (yj := yj) (u22 := u22) (u24 := u24) (u25 := u25) (u26 := u26) (uj := uj) (x := x + 1) (e := e) (b := b) hi3 hn4 wf1 (dm_upd dm rfl) ca1 (ra_same (v := uS (σ k) (nS (σ k) + 1)) (k := k) ra rfl rfl rfl rfl rfl rfl rfl rfl) edu2 eup rfl rfl hl0 hcur h8 h9 h10 h11 h13 h14 g2 g3 hFw (by omega) (by omega) (by rw [List.length_cons]; omega) (fun k' w1 ek => by
    rw [List.cons.injEq] at ek
    obtain ⟨rfl, rfl⟩ := ek
    rw [fu_s, epr, hpc]
    exact ⟨t6, t2⟩) rt2 o3 o4 o5 o6 o7 o8 o9 o10 o11 o12 o13 o14 o15 o16 o17
  refine Or.inr ⟨_, _, x2, e2, w2, _, N + 1, hR2, hL2, hI2, ?_, ?_⟩
  · rcases hpx with ⟨q1, q2⟩ | ⟨q1, q2, q3⟩ <;> omega
  · rcases hpx with ⟨q1, q2⟩ | ⟨q1, q2, q3⟩ <;> omega
end StepE
