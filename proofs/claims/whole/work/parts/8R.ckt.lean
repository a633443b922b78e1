/-! checking: the type of a node, and whether it may stand, in both -/
section CkT
variable {T : List Int32} {σ : Nat → Nd} {δ : Nat → Dd} {N K M k d f D o i p j : Nat} {w : List Nat} {l q28 q29 q30 X7 : List Int32} {v : Int32} {t : xSt} {qr17 qr18 qr19 qr20 qr21 qr22 qr23 qr24 qr25 qr26 qr27 qr28 qr29 qr30 : List Int32} {qi31 qi32 qi33 qi34 qi35 qi36 : Int32} {ql4 ql5 ql6 ql7 : List Int64} {qz1 : Bool} {s : xSt} {z : Bool} {g : Nat → List Int32} {nn : List Int64} {r4 r5 r6 r7 : List Int32} {i2 i3 : Int32}
theorem typ_c (hz : gZ s 5 = z) (wf : WF 0 T σ N [] [] 0) (hN : N < 4090) (hD : D ≤ 64) (dk : DK σ δ D N) (cg : CG σ δ D N g nn) (cv : CV σ δ D N (K + 1) g) (rb : RB σ δ D N (K + 1) q29 q30) (hK : K < N) (hj : j ≤ K) (hdone : j + nZ (σ j) = K + 1) (hd : nD (σ j) = d) {X : List Nat} (ea : EA r7 (Ee σ δ D N j ++ X)) (hv : ∀ p, p < N → nP (σ p) = (j : Int) → pq σ p + 1 = pcnt (pr σ) j (K + 1) → v = nI (tc (Ty σ δ D N p))) : m109 (nI (j + d + 1)) v (ckC s z g nn r4 r5 r6 r7 i2 i3) = some (nI (tc (Ty σ δ D N j)), (ckC s z g nn r4 r5 r6 r7 i2 i3)) := by
  have hjN : j < N := by omega
  have hr := (wf.2.1 j hjN).1.1
  obtain ⟨g1, g2, g3, g4, g5, g6⟩ := cg.1 j hjN
  rw [hd] at g1 g5
  have hdl : d < D := by rw [← hd]; exact (dk.2 j hjN).1
  rw [Ty_eq wf hjN]
  refine m109_eq hz (by omega) hr g1 ea.1 (fun q => ?_) (fun q => ?_) (fun q => ?_)
  · obtain ⟨b1, b2⟩ := (rb.1 j (by omega)).1 q
    have hlen := Ee_len wf dk j hjN
    have h24 := (wf.2.1 j hjN).1.2.1
    rcases lixn_eq (nC (σ j)) (nA (σ j)) (nC (σ j)).length with e | ⟨e1, e2⟩
    · exact absurd ((bs_one b1 ((dk.1 _ (dk.2 j hjN).1).2.1.1) h24 (by omega)).mpr e) b2
    · have e2' : sl σ j < (nC (σ j)).length := e2
      refine ⟨sl σ j, (g5 q).1.trans e1, by omega, ?_⟩
      have e3 : sl σ j < (Ee σ δ D N j).length := by rw [hlen]; exact e2
      rw [ea.2 (sl σ j) (by rw [List.length_append]; omega), getD_app_l e3]
  · obtain ⟨b1, b2⟩ := (rb.1 j (by omega)).2 q
    have hcv := cv j hjN q
    rw [if_pos (by omega), hd] at hcv
    refine ⟨tg σ δ D j, hcv, by have := b2.1; omega, ?_⟩
    rw [(cg.2.1 _ b2.1).2.1]
    unfold tR
    rw [Nat.min_eq_right (dk.1 _ b2.1).2.2.1.1]
  · rw [if_pos q]
    obtain ⟨q1, q2, q3, q4, q5, q6, q7, q8⟩ := last_ok wf hjN q
    refine hv _ q3 q1 ?_
    rw [q2, ← hdone, pcnt_all wf hjN, q7]
    omega
theorem left_first (wf : WF 0 T σ N [] [] 0) (hN : N < 4090) (hD : D ≤ 64) (dk : DK σ δ D N) (lf : LF σ δ D N K j q28) (hK : K < N) (hj : j ≤ K) (hjK : K < j + nZ (σ j)) {j' : Nat} (hj' : j' < K + 1) (ho : nP (σ j') = (o : Int)) (hp : 0 < pq σ j') : q28.getD (o + 1) 0 = nI (Ty σ δ D N (o + 1)) ∧ Ty σ δ D N (o + 1) < 4 ∧ (nK (σ o) = 18 → 1 < Ty σ δ D N (o + 1)) := by
  obtain ⟨u1, u2, u3⟩ := kid_1 wf (show j' < N by omega) ho
  have hp0 : pq σ (o + 1) = 0 := by rw [pq_eq u1]; exact pcnt_0 wf.1 (by omega) (Nat.le_refl _)
  have hne : ¬ o + 1 = j' := fun q => by rw [← q] at hp; omega
  have hs := sib wf (show j' < N by omega) u1 ho (by omega)
  obtain ⟨a1, a2⟩ := lf.2 (o + 1) (by omega) (by
    by_cases c : j < o + 1
    · exact Or.inl c
    · refine Or.inr ?_
      by_cases c2 : o + 1 + nZ (σ (o + 1)) ≤ j
      · exact c2
      · exfalso
        have := nest wf u2 (show o + 1 ≤ j by omega) (by omega)
        omega)
  refine ⟨a1, Ty_lt wf dk u2, fun q => ?_⟩
  have h := a2.2 o u1
  rw [q, hp0] at h
  have h' : (decide (0 < 0) || decide (1 < Ty σ δ D N (o + 1))) = true := h
  rw [Bool.or_eq_true, decide_eq_true_eq, decide_eq_true_eq] at h'
  omega
theorem typ_r (wf : WF 0 T σ N [] [] 0) (hN : N < 4090) (hD : D ≤ 64) (dk : DK σ δ D N) (td : TD δ D qr17 qr18 qr19 qr20 qr21 ql4 ql5) (tn : TN σ N N qr22 qr23 qr24 qr25 qr26 qr27 ql6 ql7) (hlt : (qr17.length = 64 ∧ qr18.length = 64 ∧ qr19.length = 64 ∧ qr20.length = 512 ∧ qr21.length = 65 ∧ qr22.length = 4096 ∧ qr23.length = 4096 ∧ qr24.length = 4096 ∧ qr25.length = 4096 ∧ qr26.length = 4096 ∧ qr27.length = 4096 ∧ ql4.length = 64 ∧ ql5.length = 512 ∧ ql6.length = 4096 ∧ ql7.length = 4096)) (rb : RB σ δ D N (K + 1) q29 q30) (lf : LF σ δ D N K j q28) (hK : K < N) (hj : j ≤ K) (hdone : j + nZ (σ j) = K + 1) : m197 (nI j) (tyR t qr17 qr18 qr19 qr20 qr21 qr22 qr23 qr24 qr25 qr26 qr27 q28 q29 q30 qi31 qi32 qi33 0 qi35 qi36 ql4 ql5 ql6 ql7 qz1) = some (nI (Ty σ δ D N j), (tyR t qr17 qr18 qr19 qr20 qr21 qr22 qr23 qr24 qr25 qr26 qr27 q28 q29 q30 qi31 qi32 qi33 0 qi35 qi36 ql4 ql5 ql6 ql7 qz1)) := by
  have hjN : j < N := by omega
  have hr := (wf.2.1 j hjN).1.1
  obtain ⟨h17, h18, h19, h20, h21, h22, h23, h24, h25, h26, h27, h4, h5, h6, h7⟩ := hlt
  refine m197_eq (t := t) (qr17 := qr17) (qr18 := qr18) (qr19 := qr19) (qr20 := qr20) (qr21 := qr21) (qr22 := qr22) (qr23 := qr23) (qr24 := qr24) (qr25 := qr25) (qr26 := qr26) (qr27 := qr27) (qr28 := q28) (qr29 := q29) (qr30 := q30) (qi31 := qi31) (qi32 := qi32) (qi33 := qi33) (qi34 := 0) (qi35 := qi35) (qi36 := qi36) (ql4 := ql4) (ql5 := ql5) (ql6 := ql6) (ql7 := ql7) (qz1 := qz1) (v := (Ee σ δ D N j).getD (sl σ j) 0) (pt := tR σ δ D j) (l := if lastk (nK (σ j)) = true then Ty σ δ D N (po σ j (ct (nK (σ j)) 100 - 1)) else 0) hjN (by omega) hD hr td tn wf.1 h18 h22 h23 h24 h25 lf.1 rb.2.2 (fun q => ?_) (fun q => ?_) (fun q => ?_) (Ty_eq wf hjN).symm
  · obtain ⟨b1, b2⟩ := (rb.1 j (by omega)).1 q
    obtain ⟨i, s1, s2, s3⟩ := m198_eq (t := t) (qr17 := qr17) (qr18 := qr18) (qr19 := qr19) (qr20 := qr20) (qr21 := qr21) (qr22 := qr22) (qr23 := qr23) (qr24 := qr24) (qr25 := qr25) (qr26 := qr26) (qr27 := qr27) (qr28 := q28) (qr29 := q29) (qr30 := q30) (qi31 := qi31) (qi32 := qi32) (qi33 := qi33) (qi34 := 0) (qi35 := qi35) (qi36 := qi36) (ql4 := ql4) (ql5 := ql5) (ql6 := ql6) (ql7 := ql7) (qz1 := qz1) (k := j) (K := K + 1) (E := Ee σ δ D N) (ty := Ty σ δ D N) (y := 0) wf (by omega) hD dk.1 (fun k hk => (dk.2 k hk).1) td tn (fun k hk => ep_all wf dk k (by omega)) (by omega) (by omega) b1 b2 rfl (fun j' o hj' ho hp => left_first wf hN hD dk lf hK hj (by omega) hj' ho hp) h20 h22 h24 h25 h26 lf.1 rb.2.1 h6
    have h24' := (wf.2.1 j hjN).1.2.1
    have hlen := Ee_len wf dk j hjN
    have e : i = sl σ j := by
      rcases lixn_eq (nC (σ j)) (nA (σ j)) (nC (σ j)).length with e | ⟨e1, e2⟩
      · rw [s1, nI_ne1 (by omega)] at e
        exact absurd e id
      · have e3 : nI i = nI (sl σ j) := s1.symm.trans e1
        have e2' : sl σ j < (nC (σ j)).length := e2
        rw [eqN (by omega) (by omega)] at e3
        exact e3
    rw [← e]
    exact s3
  · obtain ⟨b1, b2⟩ := (rb.1 j (by omega)).2 q
    refine ⟨tg σ δ D j, b2.1, b1, ?_⟩
    unfold tR
    rw [Nat.min_eq_right (dk.1 _ b2.1).2.2.1.1]
  · have tb : ∀ r, r < 24 → (r = 10 ∨ r = 11 ∨ r = 12 ∨ 18 ≤ r ∧ r ≤ 22) → lastk r = true := by decide +kernel
    have hl := tb _ (by omega) q
    obtain ⟨q1, q2, q3, q4, q5, q6, q7, q8⟩ := last_ok wf hjN hl
    refine ⟨_, q3, q1, by rw [q2, q7]; omega, ?_⟩
    rw [if_pos hl]
    exact (lf.2 _ (by have := par_in wf q3 q1; omega) (Or.inl q4)).1
theorem par3 (wf : WF 0 T σ N [] [] 0) (hN : N < 4090) (hD : D ≤ 64) (dk : DK σ δ D N) (hj : j < N) (ho : nP (σ j) = (o : Int)) : o < j ∧ nK (σ o) ≤ 23 ∧ 3 ≤ nK (σ o) ∧ pq σ j < 5000 ∧ pq σ j < pcnt (pr σ) o N ∧ (kc (nK (σ o)) = false → pq σ j < ct (nK (σ o)) 100 ∧ pq σ j < 3) := by
  obtain ⟨a1, a2, a3⟩ := po_pq wf hj ho
  have hr := (wf.2.1 o (by omega)).1.1
  have hpl := pcnt_le (pr σ) o j
  rw [← pq_eq ho] at hpl
  have tb : ∀ r, r < 24 → (r < 3 → kc r = false ∧ ct r 100 = 0) ∧ ct r 100 ≤ 3 := by decide +kernel
  obtain ⟨t1, t2⟩ := tb (nK (σ o)) (by omega)
  refine ⟨a3, hr, ?_, by omega, a2, fun q => ?_⟩
  · by_cases c : nK (σ o) < 3
    · obtain ⟨q1, q2⟩ := t1 c
      have := cnt_ok wf (show o < N by omega) q1
      omega
    · omega
  · have := cnt_ok wf (show o < N by omega) q
    omega
theorem pt_ok (wf : WF 0 T σ N [] [] 0) (hN : N < 4090) (hD : D ≤ 64) (dk : DK σ δ D N) (hj : j < N) (ho : nP (σ j) = (o : Int)) (b2 : TgO σ δ D N o) : pq σ j < (dP (δ (tg σ δ D o))).length ∧ (dP (δ (tg σ δ D o))).length ≤ 8 ∧ (dT (δ (tg σ δ D o))).getD (pq σ j) 0 = ptf σ δ D o (pq σ j) := by
  obtain ⟨p1, p2, p3, p4, p5, p6⟩ := par3 wf hN hD dk hj ho
  obtain ⟨g1, g2, g3, g4⟩ := (dk.1 _ b2.1).2.1
  have h1 : pq σ j < (dP (δ (tg σ δ D o))).length := by rw [b2.2.2.2]; exact p5
  refine ⟨h1, g1, ?_⟩
  unfold ptf
  rw [Nat.min_eq_right (g3 _ h1).1]
/-- part 1 of the same node -/
theorem one_ok (wf : WF 0 T σ N [] [] 0) (hN : N < 4090) (hD : D ≤ 64) (dk : DK σ δ D N) (hj : j < N) (ho : nP (σ j) = (o : Int)) (h2 : pq σ j = 2) : po σ o 1 < N ∧ nP (σ (po σ o 1)) = (o : Int) ∧ pq σ (po σ o 1) = 1 ∧ po σ o 1 < j ∧ po σ o 1 + nZ (σ (po σ o 1)) ≤ j ∧ Ty σ δ D N (po σ o 1) = lt1 σ δ D N o := by
  obtain ⟨p1, p2, p3, p4, p5, p6⟩ := par3 wf hN hD dk hj ho
  obtain ⟨a1, a2, a3, a4, a5⟩ := po_ok wf (show o < N by omega) 1 (by omega)
  have hlt : po σ o 1 < j := by
    by_cases c : po σ o 1 < j
    · exact c
    · by_cases c2 : po σ o 1 = j
      · rw [c2] at a2
        omega
      · have := pq_mono wf.1 (show j < po σ o 1 by omega) a3 ho a1
        omega
  refine ⟨a3, a1, a2, hlt, sib wf hj a1 ho hlt, ?_⟩
  unfold lt1
  have := Ty_lt wf dk a3
  rw [Nat.min_eq_right (by omega)]
theorem std_r (wf : WF 0 T σ N [] [] 0) (hN : N < 4090) (hD : D ≤ 64) (dk : DK σ δ D N) (td : TD δ D qr17 qr18 qr19 qr20 qr21 ql4 ql5) (tn : TN σ N N qr22 qr23 qr24 qr25 qr26 qr27 ql6 ql7) (hlt : (qr17.length = 64 ∧ qr18.length = 64 ∧ qr19.length = 64 ∧ qr20.length = 512 ∧ qr21.length = 65 ∧ qr22.length = 4096 ∧ qr23.length = 4096 ∧ qr24.length = 4096 ∧ qr25.length = 4096 ∧ qr26.length = 4096 ∧ qr27.length = 4096 ∧ ql4.length = 64 ∧ ql5.length = 512 ∧ ql6.length = 4096 ∧ ql7.length = 4096)) (rb : RB σ δ D N (K + 1) q29 q30) (lf : LF σ δ D N K j q28) (hK : K < N) (hj : j ≤ K) (ho : nP (σ j) = (o : Int)) : m200 (nI j) (nI (Ty σ δ D N j)) (tyR t qr17 qr18 qr19 qr20 qr21 qr22 qr23 qr24 qr25 qr26 qr27 (q28.set j (nI (Ty σ δ D N j))) q29 q30 qi31 qi32 qi33 0 qi35 qi36 ql4 ql5 ql6 ql7 qz1) = some (cst (nK (σ o)) (pq σ j) (Ty σ δ D N j) (ptf σ δ D o (pq σ j)) (lt1 σ δ D N o), (tyR t qr17 qr18 qr19 qr20 qr21 qr22 qr23 qr24 qr25 qr26 qr27 (q28.set j (nI (Ty σ δ D N j))) q29 q30 qi31 qi32 qi33 0 qi35 qi36 ql4 ql5 ql6 ql7 qz1)) := by
  have hjN : j < N := by omega
  obtain ⟨h17, h18, h19, h20, h21, h22, h23, h24, h25, h26, h27, h4, h5, h6, h7⟩ := hlt
  obtain ⟨p1, p2, p3, p4, p5, p6⟩ := par3 wf hN hD dk hjN ho
  refine m200_part (t := t) (qr17 := qr17) (qr18 := qr18) (qr19 := qr19) (qr20 := qr20) (qr21 := qr21) (qr22 := qr22) (qr23 := qr23) (qr24 := qr24) (qr25 := qr25) (qr26 := qr26) (qr27 := qr27) (qr28 := q28.set j (nI (Ty σ δ D N j))) (qr29 := q29) (qr30 := q30) (qi31 := qi31) (qi32 := qi32) (qi33 := qi33) (qi34 := 0) (qi35 := qi35) (qi36 := qi36) (ql4 := ql4) (ql5 := ql5) (ql6 := ql6) (ql7 := ql7) (qz1 := qz1) hjN (by omega) hD (Ty_lt wf dk hjN) (by unfold ptf; omega) (by unfold lt1; omega) ho p1 p2 p3 p4 (fun q => (p6 q).2) td tn wf.1 h20 h22 h24 h25 (by rw [List.length_set]; exact lf.1) rb.2.2 (fun q => ?_) (fun q1 q2 => ?_)
  · obtain ⟨b1, b2⟩ := (rb.1 o (by omega)).2 q
    obtain ⟨c1, c2, c3⟩ := pt_ok wf hN hD dk hjN ho b2
    exact ⟨tg σ δ D o, b2.1, b1, c1, c2, c3⟩
  · obtain ⟨c1, c2, c3, c4, c5, c6⟩ := one_ok wf hN hD dk hjN ho q1
    refine ⟨po σ o 1, c1, c2, c3, ?_⟩
    rw [getD_setn (by have := lf.1; omega), if_neg (by omega), (lf.2 _ (by omega) (Or.inr c5)).1, c6]
theorem due_c (hz : gZ s 5 = z) (wf : WF 0 T σ N [] [] 0) (hN : N < 4090) (hD : D ≤ 64) (dk : DK σ δ D N) (cg : CG σ δ D N g nn) (cv : CV σ δ D N (K + 1) g) (rb : RB σ δ D N (K + 1) q29 q30) (hK : K < N) (hj : j ≤ K) (ho : nP (σ j) = (o : Int)) (hd : nD (σ j) = d) (hl6 : ∀ p, p < N → nP (σ p) = (o : Int) → pq σ p + 1 = pq σ j → xsTop r6 = nI (tc (Ty σ δ D N p))) : m111 (nI (o + d + 1)) (nI (pq σ j)) (nI (tc (Ty σ δ D N j))) (ckC s z g nn r4 r5 r6 r7 i2 i3) = some (nI (due (nK (σ o)) (pq σ j) (Ty σ δ D N j) (ptf σ δ D o (pq σ j)) (lt1 σ δ D N o)), (ckC s z g nn r4 r5 r6 r7 i2 i3)) := by
  have hjN : j < N := by omega
  obtain ⟨p1, p2, p3, p4, p5, p6⟩ := par3 wf hN hD dk hjN ho
  have hoN : o < N := by omega
  have hdo : nD (σ o) = d := by
    rcases (wf.2.1 j hjN).2.1 with hr | ⟨o', o1, o2, o3, -⟩
    · omega
    · have e : o' = o := by omega
      rw [← e, ← o3]
      exact hd
  have hdl : d < D := by rw [← hd]; exact (dk.2 j hjN).1
  obtain ⟨g1, g2, g3, g4, g5, g6⟩ := cg.1 o hoN
  rw [hdo] at g1
  refine m111_eq hz (by omega) p2 p3 g1 (by omega) (Ty_lt wf dk hjN) (fun q => ?_) (fun q1 q2 => ?_)
  · obtain ⟨b1, b2⟩ := (rb.1 o (by omega)).2 q
    obtain ⟨c1, c2, c3⟩ := pt_ok wf hN hD dk hjN ho b2
    have hcv := cv o hoN q
    rw [if_pos (by omega), hdo] at hcv
    refine ⟨tg σ δ D o, hcv, by have := b2.1; omega, ?_⟩
    rw [(cg.2.1 _ b2.1).1.2.2.2.1 _ c1, c3]
  · have tb : ∀ r, r < 24 → (r = 10 ∨ r = 20 ∨ kz r = true) → kc r = false := by decide +kernel
    have hp := p6 (tb _ (by omega) q2)
    have h2 : pq σ j = 2 := by omega
    obtain ⟨c1, c2, c3, c4, c5, c6⟩ := one_ok wf hN hD dk hjN ho h2
    rw [hl6 _ c1 c2 (by omega), c6]
/-- what comes behind a part is bound -/
theorem bind_c (hz : gZ s 5 = z) (wf : WF 0 T σ N [] [] 0) (hN : N < 4090) (hD : D ≤ 64) (dk : DK σ δ D N) (cg : CG σ δ D N g nn) (hK : K < N) (hj : j ≤ K) (hdone : j + nZ (σ j) = K + 1) (ho : nP (σ j) = (o : Int)) (hd : nD (σ j) = d) {X : List Nat} (ea : EA r7 (Ee σ δ D N j ++ X)) (hcs : cst (nK (σ o)) (pq σ j) (Ty σ δ D N j) (ptf σ δ D o (pq σ j)) (lt1 σ δ D N o) = true) : ∃ r7', m113 (nI (o + d + 1)) (nI (pq σ j)) (nI (tc (Ty σ δ D N j))) (ckC s z g nn r4 r5 r6 r7 i2 i3) = some (ckC s z g nn r4 r5 r6 r7' i2 i3) ∧ EA r7' (Ee σ δ D N o ++ bte (nK (σ o)) (pcnt (pr σ) o (K + 1)) (Ty σ δ D N (o + 1))) := by
  have hjN : j < N := by omega
  obtain ⟨p1, p2, p3, p4, p5, p6⟩ := par3 wf hN hD dk hjN ho
  have hoN : o < N := by omega
  have hdo : nD (σ o) = d := by
    rcases (wf.2.1 j hjN).2.1 with hr | ⟨o', o1, o2, o3, -⟩
    · omega
    · have e : o' = o := by omega
      rw [← e, ← o3]
      exact hd
  have hdl : d < D := by rw [← hd]; exact (dk.2 j hjN).1
  obtain ⟨g1, g2, g3, g4, g5, g6⟩ := cg.1 o hoN
  rw [hdo] at g1 g3
  have hlo := Ee_len wf dk o hoN
  have ho24 := (wf.2.1 o hoN).1.2.1
  have hcnt : pcnt (pr σ) o (K + 1) = pq σ j + 1 := by
    rw [← hdone, (kid_next wf hjN ho).1, pq_eq ho]
  have hby : bte (nK (σ o)) (pq σ j + 1) (Ty σ δ D N j) = bte (nK (σ o)) (pcnt (pr σ) o (K + 1)) (Ty σ δ D N (o + 1)) := by
    rw [hcnt]
    by_cases c : pq σ j = 0
    · have e := (po_pq wf hjN ho).1
      rw [c] at e
      have e' : o + 1 = j := e
      rw [e']
    · exact bte_y (by omega)
  have hm : (nC (σ o)).length + (bte (nK (σ o)) (pq σ j + 1) (Ty σ δ D N j)).length ≤ 24 := by
    rw [bte_len _ _ _ (nA (σ o)) (nB (σ o))]
    by_cases c : bpc (nK (σ o)) (pq σ j + 1) = 0
    · rw [c]
      show (nC (σ o)).length + 0 ≤ 24
      omega
    · have h3 : pq σ j + 1 < 3 := by
        by_cases q : pq σ j + 1 < 3
        · exact q
        · exact absurd (bpc_ge (by omega)) c
      have tb : ∀ r, r < 24 → ∀ i, i < 3 → bpc r i = 0 ∨ (kc r = false ∧ i < ct r 100) := by decide +kernel
      obtain ⟨q1, q2⟩ : kc (nK (σ o)) = false ∧ pq σ j + 1 < ct (nK (σ o)) 100 := by
        rcases tb (nK (σ o)) (by omega) (pq σ j + 1) h3 with q | q
        · exact absurd q c
        · exact q
      have hc := cnt_ok wf hoN q1
      obtain ⟨a1, a2, a3, a4, a5⟩ := po_ok wf hoN (pq σ j + 1) (by omega)
      have h24 := (wf.2.1 _ a3).1.2.1
      rcases (wf.2.1 _ a3).2.1 with hr | ⟨o', o1, o2, o3, o4, -⟩
      · omega
      · have e : o' = o := by omega
        rw [e, ← pq_eq a1, a2] at o4
        rw [o4, List.length_append] at h24
        exact h24
  have hEj := Ee_part (δ := δ) (D := D) wf hjN ho
  obtain ⟨r7', m1, m2, m3, m4⟩ := m113_eq (s := s) (z := z) (g := g) (nn := nn) (r4 := r4) (r5 := r5) (r6 := r6) (r7 := r7) (i2 := i2) (i3 := i3) (y := Ty σ δ D N j) (m := (nC (σ o)).length) (i := pq σ j) (r := nK (σ o)) hz (show o + d + 1 < 2 ^ 30 by omega) p2 p3 g1 g3 (by omega) (Ty_lt wf dk hjN) ea.1 hm (fun q1 q2 => by
    rw [q1, q2] at hcs
    have h' : (decide (0 < 0) || decide (1 < Ty σ δ D N j)) = true := hcs
    rw [Bool.or_eq_true, decide_eq_true_eq, decide_eq_true_eq] at h'
    omega)
  refine ⟨r7', m1, m2, fun i hi => ?_⟩
  rw [← hby] at hi ⊢
  rw [List.length_append] at hi
  by_cases c : i < (Ee σ δ D N o).length
  · rw [m3 i (by omega), getD_app_l c, ea.2 i (by rw [hEj, List.length_append, List.length_append]; omega), getD_app_l (by rw [hEj, List.length_append]; omega), hEj, getD_app_l c]
  · have e : i = (nC (σ o)).length + (i - (nC (σ o)).length) := by omega
    have h4 := m4 (i - (nC (σ o)).length) (by omega)
    rw [← e] at h4
    rw [h4, List.getD_eq_getElem?_getD, List.getD_eq_getElem?_getD, List.getElem?_append_right (by omega), hlo]
end CkT
