/-! a text that is checked is a program -/
def mkG (σ : Nat → Nd) (δ : Nat → Dd) (D N : Nat) : xG := (fun a b => if a = 0 then (if b = 0 then N else D) else if a = 1 then nD (σ b) else if a = 2 then nK (σ b) else if a = 3 then pcnt (pr σ) b N else if a = 4 then nZ (σ b) else if a = 5 then Ty σ δ D N b else if a = 6 then (if nK (σ b) = 1 then sl σ b else (nC (σ b)).length) else if a = 7 then tg σ δ D b else dF (δ b), fun k => Ee σ δ D N k, fun d => dT (δ d), fun k => nV (σ k))
section Prog
variable {T : List Int32} {σ : Nat → Nd} {δ : Nat → Dd} {N d D k i : Nat} {q28 q29 q30 : List Int32} {g : Nat → List Int32} {nn : List Int64}
theorem G_N : yN (mkG σ δ D N) = N := rfl
theorem G_M : yM (mkG σ δ D N) = D := rfl
theorem G_d : yd (mkG σ δ D N) k = nD (σ k) := rfl
theorem G_k : yk (mkG σ δ D N) k = nK (σ k) := rfl
theorem G_n : yn (mkG σ δ D N) k = pcnt (pr σ) k N := rfl
theorem G_z : yz (mkG σ δ D N) k = nZ (σ k) := rfl
theorem G_t : yt (mkG σ δ D N) k = Ty σ δ D N k := rfl
theorem G_l : yl (mkG σ δ D N) k = if nK (σ k) = 1 then sl σ k else (nC (σ k)).length := rfl
theorem G_g : yg (mkG σ δ D N) k = tg σ δ D k := rfl
theorem G_b : yb (mkG σ δ D N) k = dF (δ k) := rfl
theorem G_e : ye (mkG σ δ D N) k = Ee σ δ D N k := rfl
theorem G_p : yp (mkG σ δ D N) k = dT (δ k) := rfl
theorem G_v : yv (mkG σ δ D N) k = nV (σ k) := rfl
theorem G_f : yf (mkG σ δ D N) k = k + nD (σ k) + 1 := rfl
theorem G_o : ∀ i, yo (mkG σ δ D N) k i = po σ k i := by
  intro i
  induction i with
  | zero => rfl
  | succ i ih =>
    show yo (mkG σ δ D N) k i + nZ (σ (yo (mkG σ δ D N) k i)) = po σ k i + nZ (σ (po σ k i))
    rw [ih]
/-- what is known of the parts of a node -/
theorem part_fact (wf : WF 0 T σ N [] [] 0) (hN : N < 4090) (hD : D ≤ 64) (dk : DK σ δ D N) (lb : LB σ δ D N N q28) (hk : k < N) (hi : i < pcnt (pr σ) k N) : po σ k i < N ∧ nD (σ (po σ k i)) = nD (σ k) ∧ Ee σ δ D N (po σ k i) = Ee σ δ D N k ++ bte (nK (σ k)) i (Ty σ δ D N (k + 1)) ∧ cst (nK (σ k)) i (Ty σ δ D N (po σ k i)) (ptf σ δ D k i) (lt1 σ δ D N k) = true ∧ Ty σ δ D N (po σ k i) < 4 := by
  obtain ⟨a1, a2, a3, a4, a5⟩ := po_ok wf hk i hi
  have hE := wf.2.2.1 _ a3 (by simp)
  have hs := (lb.2 _ a3 hE.2.2.1).2.2 k a1
  rw [a2] at hs
  have he := Ee_part (δ := δ) (D := D) wf a3 a1
  rw [a2] at he
  refine ⟨a3, ?_, he, hs, Ty_lt wf dk a3⟩
  rcases (wf.2.1 _ a3).2.1 with hr | ⟨o, o1, o2, o3, -⟩
  · omega
  · rw [o3, show o = k by omega]
theorem lt1_eq (wf : WF 0 T σ N [] [] 0) (hN : N < 4090) (hD : D ≤ 64) (dk : DK σ δ D N) (hk : k < N) (hi : 1 < pcnt (pr σ) k N) : lt1 σ δ D N k = Ty σ δ D N (po σ k 1) := by
  have := Ty_lt wf dk (po_ok wf hk 1 hi).2.2.1
  unfold lt1
  exact Nat.min_eq_right (by omega)
theorem bte_no : ∀ r, r < 24 → ¬ (kl r = true ∨ kz r = true ∨ r = 18) → ∀ i y, bte r i y = [] := by
  intro r hr h i y
  unfold bte
  rw [if_neg (fun q => h (Or.inl q.1)), if_neg (fun q => h (Or.inr (Or.inl q.1))), if_neg (fun q => h (Or.inr (Or.inr q.1)))]
theorem sn_all (wf : WF 0 T σ N [] [] 0) (hN : N < 4090) (hD : D ≤ 64) (dk : DK σ δ D N) (lb : LB σ δ D N N q28) (rb : RB σ δ D N N q29 q30) (hk : k < N) : SN (mkG σ δ D N) k := by
  have hr := (wf.2.1 k hk).1.1
  have hE := wf.2.2.1 k hk (by simp)
  have hl := Ee_len wf dk k hk
  have h24 := (wf.2.1 k hk).1.2.1
  have hty := Ty_eq (δ := δ) (D := D) wf hk
  have hpf := fun i (hi : i < pcnt (pr σ) k N) => part_fact wf hN hD dk lb hk hi
  have hct := fun (h : kc (nK (σ k)) = false) => cnt_ok wf hk h
  unfold SN yOp yIf yLet yCase yCall
  simp only [G_N, G_M, G_d, G_k, G_n, G_z, G_t, G_l, G_g, G_b, G_e, G_p, G_o]
  refine ⟨⟨hr, hE.2.1, po_end wf hk, by omega, fun i hi => ⟨(hpf i hi).1, (hpf i hi).2.1⟩⟩, ?_, ?_, ?_, ?_, ?_, ?_, ?_, ?_, ?_, ?_, ?_, ?_, ?_⟩
  · intro h
    rw [hty, h]
    rfl
  · intro h
    rw [if_pos h]
    obtain ⟨b1, b2⟩ := (rb.1 k hk).1 h
    rcases lixn_eq (nC (σ k)) (nA (σ k)) (nC (σ k)).length with e | ⟨e1, e2⟩
    · exact absurd ((bs_one b1 ((dk.1 _ (dk.2 k hk).1).2.1.1) h24 (by omega)).mpr e) b2
    · refine ⟨by rw [hl]; exact e2, ?_⟩
      rw [hty, h]
      rfl
  · intro h
    rw [hty, h]
    rfl
  · intro h
    have tb : ∀ r, r < 24 → ¬ (3 ≤ r ∧ r ≤ 9) ∨ (kc r = false ∧ ct r 100 = 2 ∧ ¬ (kl r = true ∨ kz r = true ∨ r = 18)) := by decide +kernel
    obtain ⟨t1, t2, t3⟩ := (tb _ (show nK (σ k) < 24 by omega)).resolve_left (fun q => q h)
    have hn := hct t1
    refine ⟨by omega, ?_, fun i hi => ?_⟩
    · rw [hty]
      unfold tyo
      rw [if_neg (by omega), if_pos (Or.inr h)]
    · obtain ⟨p1, p2, p3, p4, p5⟩ := hpf i (by omega)
      rw [bte_no _ (by omega) t3, List.append_nil] at p3
      refine ⟨?_, p3⟩
      unfold cst at p4
      rw [if_neg (by rw [t1]; exact ff), if_pos h.2, beq_iff_eq] at p4
      exact p4
  · intro h
    have tb : ∀ r, r < 24 → ¬ (r = 10 ∨ r = 20) ∨ (kc r = false ∧ ct r 100 = 3 ∧ ¬ (kl r = true ∨ kz r = true ∨ r = 18) ∧ lastk r = true) := by decide +kernel
    obtain ⟨t1, t2, t3, t4⟩ := (tb _ (show nK (σ k) < 24 by omega)).resolve_left (fun q => q h)
    have hn := hct t1
    have hk2 : Ty σ δ D N k = Ty σ δ D N (po σ k 2) := by
      rw [hty, if_pos t4, t2]
      rcases h with h | h <;> (rw [h]; rfl)
    obtain ⟨a1, a2, a3, a4, a5⟩ := hpf 0 (by omega)
    obtain ⟨b1, b2, b3, b4, b5⟩ := hpf 1 (by omega)
    obtain ⟨c1, c2, c3, c4, c5⟩ := hpf 2 (by omega)
    have hc0 : Ty σ δ D N (po σ k 0) = 0 := by
      rcases h with h | h <;> (rw [h] at a4; exact beq_iff_eq.mp a4)
    have hc2 : Ty σ δ D N (po σ k 2) = Ty σ δ D N (po σ k 1) := by
      rw [← lt1_eq wf hN hD dk hk (by omega)]
      rcases h with h | h <;> (rw [h] at c4; exact beq_iff_eq.mp c4)
    refine ⟨by omega, hc0, by rw [hk2, hc2], hk2.symm, fun i hi => ?_⟩
    obtain ⟨p1, p2, p3, p4, p5⟩ := hpf i (by omega)
    rw [bte_no _ (by omega) t3, List.append_nil] at p3
    exact p3
  · intro h
    have tb : ∀ r, r < 24 → ¬ (r = 11 ∨ r = 21) ∨ (kc r = false ∧ ct r 100 = 2 ∧ kl r = true ∧ lastk r = true) := by decide +kernel
    obtain ⟨t1, t2, t3, t4⟩ := (tb _ (show nK (σ k) < 24 by omega)).resolve_left (fun q => q h)
    have hn := hct t1
    have hk2 : Ty σ δ D N k = Ty σ δ D N (po σ k 1) := by
      rw [hty, if_pos t4, t2]
      rcases h with h | h <;> (rw [h]; rfl)
    obtain ⟨a1, a2, a3, a4, a5⟩ := hpf 0 (by omega)
    obtain ⟨b1, b2, b3, b4, b5⟩ := hpf 1 (by omega)
    rw [bte_0, List.append_nil] at a3
    refine ⟨by omega, ?_, hk2.symm, a3, ?_⟩
    · rw [if_neg (by omega), hl]
    · rw [b3]
      unfold bte
      rw [if_pos ⟨t3, rfl⟩]
      rfl
  · intro h
    have tb : ∀ r, r < 24 → ¬ (r = 12 ∨ r = 22) ∨ (kc r = false ∧ ct r 100 = 3 ∧ kl r = false ∧ kz r = true ∧ lastk r = true) := by decide +kernel
    obtain ⟨t1, t2, t3, t4, t5⟩ := (tb _ (show nK (σ k) < 24 by omega)).resolve_left (fun q => q h)
    have hn := hct t1
    have hk2 : Ty σ δ D N k = Ty σ δ D N (po σ k 2) := by
      rw [hty, if_pos t5, t2]
      rcases h with h | h <;> (rw [h]; rfl)
    obtain ⟨a1, a2, a3, a4, a5⟩ := hpf 0 (by omega)
    obtain ⟨b1, b2, b3, b4, b5⟩ := hpf 1 (by omega)
    obtain ⟨c1, c2, c3, c4, c5⟩ := hpf 2 (by omega)
    have hc0 : Ty σ δ D N (po σ k 0) = 1 := by
      rcases h with h | h <;> (rw [h] at a4; exact beq_iff_eq.mp a4)
    have hc2 : Ty σ δ D N (po σ k 2) = Ty σ δ D N (po σ k 1) := by
      rw [← lt1_eq wf hN hD dk hk (by omega)]
      rcases h with h | h <;> (rw [h] at c4; exact beq_iff_eq.mp c4)
    have hb1 : bte (nK (σ k)) 1 (Ty σ δ D N (k + 1)) = [] := by rcases h with h | h <;> (rw [h]; rfl)
    have hb2 : bte (nK (σ k)) 2 (Ty σ δ D N (k + 1)) = [0, 3] := by rcases h with h | h <;> (rw [h]; rfl)
    rw [bte_0, List.append_nil] at a3
    rw [hb1, List.append_nil] at b3
    rw [hb2] at c3
    refine ⟨by omega, ?_, hc0, by rw [hk2, hc2], hk2.symm, a3, b3, c3⟩
    rw [if_neg (by omega), hl]
  · intro h
    have hn := hct (by rw [h]; rfl)
    rw [h, show ct 13 100 = 2 from rfl] at hn
    obtain ⟨a1, a2, a3, a4, a5⟩ := hpf 0 (by omega)
    obtain ⟨b1, b2, b3, b4, b5⟩ := hpf 1 (by omega)
    rw [h] at a4 b4
    refine ⟨by omega, ?_, beq_iff_eq.mp a4, beq_iff_eq.mp b4, fun i hi => ?_⟩
    · rw [hty, h]
      rfl
    · obtain ⟨p1, p2, p3, p4, p5⟩ := hpf i (by omega)
      rw [h] at p3
      rw [p3, bte_no 13 (by omega) (by decide), List.append_nil]
  · intro h
    have tb : ∀ r, r < 24 → ¬ (r = 14 ∨ r = 15 ∨ r = 23) ∨ (kc r = true ∧ ¬ (kl r = true ∨ kz r = true ∨ r = 18)) := by decide +kernel
    obtain ⟨t1, t2⟩ := (tb _ (show nK (σ k) < 24 by omega)).resolve_left (fun q => q h)
    obtain ⟨b1, b2, b3, b4, b5⟩ := (rb.1 k hk).2 t1
    obtain ⟨⟨w1, w2, w3, w4, w5⟩, ⟨g1, g2, g3, g4⟩, ⟨wr, wr2⟩, wh, rt⟩ := dk.1 _ b2
    refine ⟨b2, by rw [g2]; exact b5.symm, ?_, fun i hi => ?_⟩
    · have hrt := (lb.2 (dF (δ (tg σ δ D k))) (by omega) (wf.2.2.1 _ (by omega) (by simp)).2.2.1).2.1 rt.1
      rw [rt.2.2.1] at hrt
      rw [hrt, hty]
      have e : tyo (nK (σ k)) ((Ee σ δ D N k).getD (sl σ k) 0) (tR σ δ D k) (if lastk (nK (σ k)) = true then Ty σ δ D N (po σ k (ct (nK (σ k)) 100 - 1)) else 0) = tR σ δ D k := by
        rcases h with h | h | h <;> (rw [h]; rfl)
      rw [e]
      unfold tR
      exact Nat.min_eq_right wr
    · obtain ⟨p1, p2, p3, p4, p5⟩ := hpf i hi
      rw [bte_no _ (by omega) t2, List.append_nil] at p3
      refine ⟨?_, p3⟩
      unfold cst at p4
      rw [if_pos t1, beq_iff_eq] at p4
      rw [p4]
      unfold ptf
      exact Nat.min_eq_right (g3 i (by omega)).1
  · intro h
    have hn := hct (by rw [h]; rfl)
    rw [h, show ct 16 100 = 1 from rfl] at hn
    obtain ⟨a1, a2, a3, a4, a5⟩ := hpf 0 (by omega)
    rw [h] at a4
    rw [bte_0, List.append_nil] at a3
    refine ⟨by omega, ?_, beq_iff_eq.mp a4, a3⟩
    rw [hty, h]
    rfl
  · intro h
    have hn := hct (by rw [h]; rfl)
    rw [h, show ct 17 100 = 1 from rfl] at hn
    obtain ⟨a1, a2, a3, a4, a5⟩ := hpf 0 (by omega)
    rw [h] at a4
    rw [bte_0, List.append_nil] at a3
    refine ⟨by omega, ?_, beq_iff_eq.mp a4, a3⟩
    rw [hty, h]
    rfl
  · intro h
    have hn := hct (by rw [h]; rfl)
    rw [h, show ct 18 100 = 2 from rfl] at hn
    obtain ⟨a1, a2, a3, a4, a5⟩ := hpf 0 (by omega)
    obtain ⟨b1, b2, b3, b4, b5⟩ := hpf 1 (by omega)
    have hk2 : Ty σ δ D N k = Ty σ δ D N (po σ k 1) := by
      rw [hty, h]
      rfl
    rw [h] at a4
    have h' : (decide (0 < 0) || decide (1 < Ty σ δ D N (po σ k 0))) = true := a4
    rw [Bool.or_eq_true, decide_eq_true_eq, decide_eq_true_eq] at h'
    rw [bte_0, List.append_nil] at a3
    rw [h] at b3
    refine ⟨by omega, ?_, by omega, hk2.symm, a3, b3⟩
    rw [if_neg (by omega), hl]
  · intro h
    have hn := hct (by rw [h]; rfl)
    rw [h, show ct 19 100 = 1 from rfl] at hn
    obtain ⟨a1, a2, a3, a4, a5⟩ := hpf 0 (by omega)
    rw [bte_0, List.append_nil] at a3
    refine ⟨by omega, ?_, a3⟩
    rw [hty, h]
    rfl
theorem sp_all (wf : WF 0 T σ N [] [] 0) (hN : N < 4090) (hD : D ≤ 64) (dk : DK σ δ D N) (lb : LB σ δ D N N q28) (rb : RB σ δ D N N q29 q30) (hmn : MN δ D) : SP (mkG σ δ D N) := by
  obtain ⟨m0, m1, ⟨m2, m3⟩, m4, m5⟩ := hmn
  have hroot : ∀ d, d < D → dF (δ d) < N ∧ nD (σ (dF (δ d))) = d ∧ Ee σ δ D N (dF (δ d)) = dT (δ d) ∧ (dT (δ d)).length ≤ 8 ∧ Ty σ δ D N (dF (δ d)) = dR (δ d) := fun d hd => by
    obtain ⟨⟨w1, w2, w3, w4, w5⟩, ⟨g1, g2, g3, g4⟩, ⟨wr, wr2⟩, wh, rt⟩ := dk.1 d hd
    have hrt := (lb.2 (dF (δ d)) (by omega) (wf.2.2.1 _ (by omega) (by simp)).2.2.1).2.1 rt.1
    rw [rt.2.2.1] at hrt
    refine ⟨by omega, rt.2.2.1, by rw [Ee_root rt.1, rt.2.2.1], by omega, hrt⟩
  obtain ⟨⟨w1, w2, w3, w4, w5⟩, ⟨g1, g2, g3, g4⟩, ⟨wr, wr2⟩, wh, rt⟩ := dk.1 (D - 1) (by omega)
  unfold SP
  simp only [G_N, G_M, G_d, G_k, G_n, G_z, G_t, G_l, G_g, G_b, G_e, G_p]
  refine ⟨fun k hk => sn_all wf hN hD dk lb rb hk, fun d hd => ?_, by omega, ?_, ?_, by omega, hD, fun k hk => ⟨(dk.2 k hk).1, (wf.2.2.1 k hk (by simp)).2.2.1⟩⟩
  · obtain ⟨h1, h2, h3, h4, h5⟩ := hroot d hd
    exact ⟨h1, h2, h3, h4⟩
  · have hlen : (dT (δ (D - 1))).length = 1 := by omega
    match hx : dT (δ (D - 1)), hlen with
    | [x], _ =>
      rw [hx] at m5
      have : x = 3 := m5
      rw [this]
  · rw [(hroot (D - 1) (by omega)).2.2.2.2]
    exact m3
theorem sc_all {S : xSt} {z : Bool} (wf : WF 0 T σ N [] [] 0) (hN : N < 4090) (hD : D ≤ 64) (dk : DK σ δ D N) (rb : RB σ δ D N N q29 q30) (cg : CG σ δ D N g nn) (cv : CV σ δ D N N g) (hg : ∀ i, gP S z i = g i) : SC (mkG σ δ D N) S z := by
  unfold SC yCall
  simp only [G_N, G_M, G_d, G_k, G_n, G_z, G_t, G_l, G_g, G_b, G_e, G_p, G_v, G_f, hg]
  refine ⟨fun k hk => ?_, fun d hd => ?_, cg.2.2.2.2.1⟩
  · obtain ⟨k1, k2, k3, k4, k5, k6⟩ := cg.1 k hk
    have hr := (wf.2.1 k hk).1.1
    have h24 := (wf.2.1 k hk).1.2.1
    refine ⟨k1, by rw [k3, Ee_len wf dk k hk], k6, k4, fun h => ?_, fun h => ?_⟩
    · rw [if_pos h]
      obtain ⟨b1, b2⟩ := (rb.1 k hk).1 h
      rcases lixn_eq (nC (σ k)) (nA (σ k)) (nC (σ k)).length with e | ⟨e1, e2⟩
      · exact absurd ((bs_one b1 ((dk.1 _ (dk.2 k hk).1).2.1.1) h24 (by omega)).mpr e) b2
      · exact (k5 h).1.trans e1
    · have hkc : kc (nK (σ k)) = true := by rcases h with h | h | h <;> (rw [h]; rfl)
      rw [cv k hk hkc, if_pos hk]
  · obtain ⟨⟨c1, c2, c3, c4, c5, c6, c7⟩, c8, c9⟩ := cg.2.1 d hd
    exact ⟨c2, by rw [c3, (dk.1 d hd).2.1.2.1]⟩
end Prog
