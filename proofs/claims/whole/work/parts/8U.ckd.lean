/-! checking: definition by definition -/
section CkD
variable {T : List Int32} {σ : Nat → Nd} {δ : Nat → Dd} {N d F D : Nat} {t : xSt} {qr17 qr18 qr19 qr20 qr21 qr22 qr23 qr24 qr25 qr26 qr27 qr28 qr29 qr30 : List Int32} {qi31 qi32 qi33 qi34 qi35 qi36 : Int32} {ql4 ql5 ql6 ql7 : List Int64} {qz1 : Bool} {s : xSt} {z : Bool} {nn : List Int64} {i3 : Int32}
theorem nodes_ok (hz : gZ s 5 = z) (wf : WF 0 T σ N [] [] 0) (hN : N < 4090) (hD : D ≤ 64) (dk : DK σ δ D N) (td : TD δ D qr17 qr18 qr19 qr20 qr21 ql4 ql5) (tn : TN σ N N qr22 qr23 qr24 qr25 qr26 qr27 ql6 ql7) (hlt : (qr17.length = 64 ∧ qr18.length = 64 ∧ qr19.length = 64 ∧ qr20.length = 512 ∧ qr21.length = 65 ∧ qr22.length = 4096 ∧ qr23.length = 4096 ∧ qr24.length = 4096 ∧ qr25.length = 4096 ∧ qr26.length = 4096 ∧ qr27.length = 4096 ∧ ql4.length = 64 ∧ ql5.length = 512 ∧ ql6.length = 4096 ∧ ql7.length = 4096)) (dm : DM σ N D) (hT : gR s 0 = T) (hd : d < D) (hF : F = dF (δ d)) (hdn : ∀ k, F ≤ k → k < dE (δ d) → nD (σ k) = d) : ∀ (x K n m : Nat) (g : Nat → List Int32) (w : List Nat) (y0 : Int32) (l6 r7 q28 q29 q30 r4 r5 r6 : List Int32) (i2 : Int32), K + x + 1 = dE (δ d) → F ≤ K → x + 2 < n → x + 2 < m → CG σ δ D N g nn → CV σ δ D N K g → RB σ δ D N K q29 q30 → Cx σ w → nP (σ K) = tp w → Lx6 σ δ D N K w l6 → EA r7 (Ee σ δ D N K) → LB σ δ D N K q28 → (∃ (j' fn : Nat) (pl y : Int32) (g' : Nat → List Int32) (a4 a5 a6 a7 b28 b29 b30 : List Int32), m100_35 n (nI (K + d + 1)) (ckC s z g nn ((ns d F w).reverse) ((pst σ K w).reverse) l6.reverse r7 0 i3) = some (ckC s z g' nn a4 a5 a6 a7 (nI fn) pl) ∧ m187_45 m (nI K) (tyR t qr17 qr18 qr19 qr20 qr21 qr22 qr23 qr24 qr25 qr26 qr27 q28 q29 q30 qi31 (nI D) (nI N) 0 qi35 y0 ql4 ql5 ql6 ql7 qz1) = some (nI fn, (tyR t qr17 qr18 qr19 qr20 qr21 qr22 qr23 qr24 qr25 qr26 qr27 b28 b29 b30 qi31 (nI D) (nI N) (nI fn) (nI j') y ql4 ql5 ql6 ql7 false)) ∧ j' < N ∧ ((fn = 5 ∧ pl = nQ (σ j')) ∨ (fn = 6 ∧ pl = nL (σ j'))) ∧ a7.length = 24 ∧ b28.length = 4096 ∧ b29.length = 4096 ∧ b30.length = 4096) ∨ (∃ (n2 m2 : Nat) (g' : Nat → List Int32) (y : Int32) (a7 b28 b29 b30 : List Int32), m100_35 n (nI (K + d + 1)) (ckC s z g nn ((ns d F w).reverse) ((pst σ K w).reverse) l6.reverse r7 0 i3) = m100_35 n2 (nI (dE (δ d) + d + 1)) (ckC s z g' nn [] [] [] a7 0 i3) ∧ m187_45 m (nI K) (tyR t qr17 qr18 qr19 qr20 qr21 qr22 qr23 qr24 qr25 qr26 qr27 q28 q29 q30 qi31 (nI D) (nI N) 0 qi35 y0 ql4 ql5 ql6 ql7 qz1) = m187_45 m2 (nI (dE (δ d))) (tyR t qr17 qr18 qr19 qr20 qr21 qr22 qr23 qr24 qr25 qr26 qr27 b28 b29 b30 qi31 (nI D) (nI N) 0 qi35 y ql4 ql5 ql6 ql7 qz1) ∧ n ≤ n2 + (dE (δ d) - K) ∧ m ≤ m2 + (dE (δ d) - K) ∧ a7.length = 24 ∧ LB σ δ D N (dE (δ d)) b28 ∧ CG σ δ D N g' nn ∧ CV σ δ D N (dE (δ d)) g' ∧ RB σ δ D N (dE (δ d)) b29 b30) := by
  intro x
  induction x with
  | zero =>
    intro K n m g w y0 l6 r7 q28 q29 q30 r4 r5 r6 i2 hx hFK hn hm cg cv rb hcx hnp hls ea lb
    obtain ⟨n, rfl⟩ : ∃ n', n = n' + 1 := ⟨n - 1, by omega⟩
    obtain ⟨m, rfl⟩ : ∃ m', m = m' + 1 := ⟨m - 1, by omega⟩
    have hdE := (dk.1 d hd).1.2.1
    rcases node_ok (s := s) (z := z) (g := g) (nn := nn) (r7 := r7) (i3 := i3) (t := t) (qr17 := qr17) (qr18 := qr18) (qr19 := qr19) (qr20 := qr20) (qr21 := qr21) (qr22 := qr22) (qr23 := qr23) (qr24 := qr24) (qr25 := qr25) (qr26 := qr26) (qr27 := qr27) (qi31 := qi31) (qi35 := qi35) (qi36 := y0) (ql4 := ql4) (ql5 := ql5) (ql6 := ql6) (ql7 := ql7) (qz1 := qz1) (n := n) (m := m) hz wf hN hD dk td tn hlt dm hT cg cv rb (by omega) hd hF hFK (by omega) hdn hcx hnp hls ea lb (by omega) (by omega) with hf | ⟨w', g', y', l', a7, b28, b29, b30, e1, e2, e3, e4⟩ | ⟨g', y', a7, b28, b29, b30, e1, e2, e3, e4, e5, e6, e7, e8⟩
    · exact Or.inl hf
    · omega
    · rw [e3] at e1 e2 e5 e7 e8
      exact Or.inr ⟨n, m, g', y', a7, b28, b29, b30, e1, e2, by omega, by omega, e4, e5, e6, e7, e8⟩
  | succ x ih =>
    intro K n m g w y0 l6 r7 q28 q29 q30 r4 r5 r6 i2 hx hFK hn hm cg cv rb hcx hnp hls ea lb
    obtain ⟨n, rfl⟩ : ∃ n', n = n' + 1 := ⟨n - 1, by omega⟩
    obtain ⟨m, rfl⟩ : ∃ m', m = m' + 1 := ⟨m - 1, by omega⟩
    have hdE := (dk.1 d hd).1.2.1
    rcases node_ok (s := s) (z := z) (g := g) (nn := nn) (r7 := r7) (i3 := i3) (t := t) (qr17 := qr17) (qr18 := qr18) (qr19 := qr19) (qr20 := qr20) (qr21 := qr21) (qr22 := qr22) (qr23 := qr23) (qr24 := qr24) (qr25 := qr25) (qr26 := qr26) (qr27 := qr27) (qi31 := qi31) (qi35 := qi35) (qi36 := y0) (ql4 := ql4) (ql5 := ql5) (ql6 := ql6) (ql7 := ql7) (qz1 := qz1) (n := n) (m := m) hz wf hN hD dk td tn hlt dm hT cg cv rb (by omega) hd hF hFK (by omega) hdn hcx hnp hls ea lb (by omega) (by omega) with hf | ⟨w', g', y', l', a7, b28, b29, b30, e1, e2, e3, e4, e5, e6, e7, e8, e9, e10, e11⟩ | ⟨g', y', a7, b28, b29, b30, e1, e2, e3, e4⟩
    · exact Or.inl hf
    · rw [e1, e2]
      rcases ih (K + 1) n m g' w' y' l' a7 b28 b29 b30 r4 r5 r6 i2 (by omega) (by omega) (by omega) (by omega) e9 e10 e11 e4 e5 e6 e7 e8 with hf | ⟨n2, m2, g2, y2, c7, c28, c29, c30, f1, f2, f3, f4, f5⟩
      · exact Or.inl hf
      · exact Or.inr ⟨n2, m2, g2, y2, c7, c28, c29, c30, f1, f2, by omega, by omega, f5⟩
    · omega
theorem defn_ok (hz : gZ s 5 = z) (wf : WF 0 T σ N [] [] 0) (hN : N < 4090) (hD : D ≤ 64) (dk : DK σ δ D N) (td : TD δ D qr17 qr18 qr19 qr20 qr21 ql4 ql5) (tn : TN σ N N qr22 qr23 qr24 qr25 qr26 qr27 ql6 ql7) (hlt : (qr17.length = 64 ∧ qr18.length = 64 ∧ qr19.length = 64 ∧ qr20.length = 512 ∧ qr21.length = 65 ∧ qr22.length = 4096 ∧ qr23.length = 4096 ∧ qr24.length = 4096 ∧ qr25.length = 4096 ∧ qr26.length = 4096 ∧ qr27.length = 4096 ∧ ql4.length = 64 ∧ ql5.length = 512 ∧ ql6.length = 4096 ∧ ql7.length = 4096)) (dm : DM σ N D) (hT : gR s 0 = T) (hd : d < D) {n m : Nat} {g : Nat → List Int32} {y0 i2 : Int32} {r4 r5 r6 r7 q28 q29 q30 : List Int32} (hn : 4100 < n) (hm : 4100 < m) (cg : CG σ δ D N g nn) (cv : CV σ δ D N (dF (δ d)) g) (rb : RB σ δ D N (dF (δ d)) q29 q30) (h7' : r7.length = 24) (lb : LB σ δ D N (dF (δ d)) q28) : (∃ (j' fn : Nat) (pl y : Int32) (g' : Nat → List Int32) (a4 a5 a6 a7 b28 b29 b30 : List Int32), m100_35 n (nI (dF (δ d) + d)) (ckC s z g nn [] [] [] r7 0 i3) = some (ckC s z g' nn a4 a5 a6 a7 (nI fn) pl) ∧ m187_45 m (nI (dF (δ d))) (tyR t qr17 qr18 qr19 qr20 qr21 qr22 qr23 qr24 qr25 qr26 qr27 q28 q29 q30 qi31 (nI D) (nI N) 0 qi35 y0 ql4 ql5 ql6 ql7 qz1) = some (nI fn, (tyR t qr17 qr18 qr19 qr20 qr21 qr22 qr23 qr24 qr25 qr26 qr27 b28 b29 b30 qi31 (nI D) (nI N) (nI fn) (nI j') y ql4 ql5 ql6 ql7 false)) ∧ j' < N ∧ ((fn = 5 ∧ pl = nQ (σ j')) ∨ (fn = 6 ∧ pl = nL (σ j'))) ∧ a7.length = 24 ∧ b28.length = 4096 ∧ b29.length = 4096 ∧ b30.length = 4096) ∨ (∃ (n2 m2 : Nat) (g' : Nat → List Int32) (y : Int32) (a7 b28 b29 b30 : List Int32), m100_35 n (nI (dF (δ d) + d)) (ckC s z g nn [] [] [] r7 0 i3) = m100_35 n2 (nI (dE (δ d) + d + 1)) (ckC s z g' nn [] [] [] a7 0 i3) ∧ m187_45 m (nI (dF (δ d))) (tyR t qr17 qr18 qr19 qr20 qr21 qr22 qr23 qr24 qr25 qr26 qr27 q28 q29 q30 qi31 (nI D) (nI N) 0 qi35 y0 ql4 ql5 ql6 ql7 qz1) = m187_45 m2 (nI (dE (δ d))) (tyR t qr17 qr18 qr19 qr20 qr21 qr22 qr23 qr24 qr25 qr26 qr27 b28 b29 b30 qi31 (nI D) (nI N) 0 qi35 y ql4 ql5 ql6 ql7 qz1) ∧ n ≤ n2 + (dE (δ d) - dF (δ d)) + 1 ∧ m ≤ m2 + (dE (δ d) - dF (δ d)) ∧ a7.length = 24 ∧ LB σ δ D N (dE (δ d)) b28 ∧ CG σ δ D N g' nn ∧ CV σ δ D N (dE (δ d)) g' ∧ RB σ δ D N (dE (δ d)) b29 b30) := by
  obtain ⟨n, rfl⟩ : ∃ n', n = n' + 1 := ⟨n - 1, by omega⟩
  obtain ⟨⟨w1, w2, w3, w4, w5⟩, ⟨wg1, wg2, wg3, wg4⟩, ⟨wr, wr2⟩, wh, rt⟩ := dk.1 d hd
  obtain ⟨⟨c1, c2, c3, c4, c5, c6, c7⟩, c8, c9⟩ := cg.2.1 d hd
  have hdn : ∀ k, dF (δ d) ≤ k → k < dE (δ d) → nD (σ k) = d := nd_eq (N := N) w2 (fun k hk => (wf.2.1 k hk).2.1) rt
  obtain ⟨r7', m1, m2, m3⟩ := m105_eq (s := s) (z := z) (g := g) (nn := nn) (r4 := []) (r5 := []) (r6 := []) (r7 := r7) (i2 := 0) (i3 := i3) (d := d) hz (by omega) wg1 c3 wg2 c4 h7'
  have e1 := enter_def (s := s) (z := z) (g := g) (nn := nn) (r4 := []) (r5 := []) (r6 := []) (r7 := r7) (i2 := 0) (i3 := i3) (c := dF (δ d) + d) hz (by omega) c6
  rw [c7, m1, bs] at e1
  have e2 := m102_85_eq (s := s) (z := z) (g := g) (nn := nn) (r7 := r7') (i2 := 0) (i3 := i3) (x := nI (dF (δ d) + d)) (a := []) (b := []) (l := []) (by decide) (by decide) (by decide)
  have e3 : m102 (nI (dF (δ d) + d)) (ckC s z g nn [] [] [] r7 0 i3) = some (ckC s z g nn ((nI (dF (δ d) + d) :: []).reverse) (((0 : Int32) :: []).reverse) (((0 : Int32) :: []).reverse) r7' 0 i3) := e1.trans e2
  have ht := turn_c (s := s) (z := z) (g := g) (nn := nn) (r5 := ((0 : Int32) :: []).reverse) (r6 := ((0 : Int32) :: []).reverse) (r7 := r7') (i3 := i3) (K35 := m100_35 n) (f := 999999) (a := dF (δ d) + d) (e := dE (δ d) + d + 1) (c := dF (δ d) + d) (m := 0) (st := []) hz (by omega) (by omega) (by omega) (by omega) (by decide) c9
  rw [if_neg (by omega)] at ht
  have ec : m100_35 (n + 1) (nI (dF (δ d) + d)) (ckC s z g nn [] [] [] r7 0 i3) = m100_35 n (nI (dF (δ d) + d + 1)) (ckC s z g nn ((ns d (dF (δ d)) []).reverse) ((pst σ (dF (δ d)) []).reverse) (([0] : List Int32).reverse) r7' 0 i3) := by
    rw [c35_s, ckC_oz5, hz, ckC_gP, cg.2.2.1, if_neg (by rw [leN (by omega) (by omega)]; omega), ck13_0, bs, if_neg ff, e3, bs, ckC_r4]
    rw [nI_1] at ht
    exact ht
  have hE : Ee σ δ D N (dF (δ d)) = dT (δ d) := by rw [Ee_root rt.1, rt.2.2.1]
  rw [ec]
  rcases nodes_ok (t := t) (qr17 := qr17) (qr18 := qr18) (qr19 := qr19) (qr20 := qr20) (qr21 := qr21) (qr22 := qr22) (qr23 := qr23) (qr24 := qr24) (qr25 := qr25) (qr26 := qr26) (qr27 := qr27) (qi31 := qi31) (qi35 := qi35) (ql4 := ql4) (ql5 := ql5) (ql6 := ql6) (ql7 := ql7) (qz1 := qz1) (i3 := i3) hz wf hN hD dk td tn hlt dm hT hd rfl hdn (dE (δ d) - dF (δ d) - 1) (dF (δ d)) n m g [] y0 [0] r7' q28 q29 q30 r4 r5 r6 i2 (by omega) (Nat.le_refl _) (by omega) (by omega) cg cv rb trivial rt.1 ⟨0, rfl⟩ ⟨m2, fun i hi => by rw [hE] at hi ⊢; exact m3 i (by omega)⟩ lb with hf | ⟨n2, m2', g2, y2, b7, b28, b29, b30, f1, f2, f3, f4, f5⟩
  · exact Or.inl hf
  · exact Or.inr ⟨n2, m2', g2, y2, b7, b28, b29, b30, f1, f2, by omega, by omega, f5⟩
theorem defns_ok (hz : gZ s 5 = z) (wf : WF 0 T σ N [] [] 0) (hN : N < 4090) (hD : D ≤ 64) (dk : DK σ δ D N) (td : TD δ D qr17 qr18 qr19 qr20 qr21 ql4 ql5) (tn : TN σ N N qr22 qr23 qr24 qr25 qr26 qr27 ql6 ql7) (hlt : (qr17.length = 64 ∧ qr18.length = 64 ∧ qr19.length = 64 ∧ qr20.length = 512 ∧ qr21.length = 65 ∧ qr22.length = 4096 ∧ qr23.length = 4096 ∧ qr24.length = 4096 ∧ qr25.length = 4096 ∧ qr26.length = 4096 ∧ qr27.length = 4096 ∧ ql4.length = 64 ∧ ql5.length = 512 ∧ ql6.length = 4096 ∧ ql7.length = 4096)) (dm : DM σ N D) (hT : gR s 0 = T) (h0 : D = 0 → N = 0) : ∀ (x M n m : Nat) (g : Nat → List Int32) (y0 i2 : Int32) (r4 r5 r6 r7 q28 q29 q30 : List Int32), M + x = D → 4200 + 2 * (N - bgn δ N M) + x < n → 4200 + 2 * (N - bgn δ N M) + x < m → CG σ δ D N g nn → CV σ δ D N (bgn δ N M) g → RB σ δ D N (bgn δ N M) q29 q30 → r7.length = 24 → LB σ δ D N (bgn δ N M) q28 → (∃ (j' fn : Nat) (pl y : Int32) (g' : Nat → List Int32) (a4 a5 a6 a7 b28 b29 b30 : List Int32), m100_35 n (nI (bgn δ N M + M)) (ckC s z g nn [] [] [] r7 0 i3) = some (ckC s z g' nn a4 a5 a6 a7 (nI fn) pl) ∧ m187_45 m (nI (bgn δ N M)) (tyR t qr17 qr18 qr19 qr20 qr21 qr22 qr23 qr24 qr25 qr26 qr27 q28 q29 q30 qi31 (nI D) (nI N) 0 qi35 y0 ql4 ql5 ql6 ql7 qz1) = some (nI fn, (tyR t qr17 qr18 qr19 qr20 qr21 qr22 qr23 qr24 qr25 qr26 qr27 b28 b29 b30 qi31 (nI D) (nI N) (nI fn) (nI j') y ql4 ql5 ql6 ql7 false)) ∧ j' < N ∧ ((fn = 5 ∧ pl = nQ (σ j')) ∨ (fn = 6 ∧ pl = nL (σ j'))) ∧ a7.length = 24 ∧ b28.length = 4096 ∧ b29.length = 4096 ∧ b30.length = 4096) ∨ (∃ (g' : Nat → List Int32) (y : Int32) (a7 b28 b29 b30 : List Int32), m100_35 n (nI (bgn δ N M + M)) (ckC s z g nn [] [] [] r7 0 i3) = some (ckC s z g' nn [] [] [] a7 0 i3) ∧ m187_45 m (nI (bgn δ N M)) (tyR t qr17 qr18 qr19 qr20 qr21 qr22 qr23 qr24 qr25 qr26 qr27 q28 q29 q30 qi31 (nI D) (nI N) 0 qi35 y0 ql4 ql5 ql6 ql7 qz1) = some (0, (tyR t qr17 qr18 qr19 qr20 qr21 qr22 qr23 qr24 qr25 qr26 qr27 b28 b29 b30 qi31 (nI D) (nI N) 0 qi35 y ql4 ql5 ql6 ql7 true)) ∧ a7.length = 24 ∧ LB σ δ D N N b28 ∧ CG σ δ D N g' nn ∧ CV σ δ D N N g' ∧ RB σ δ D N N b29 b30) := by
  intro x
  induction x with
  | zero =>
    intro M n m g y0 i2 r4 r5 r6 r7 q28 q29 q30 hx hn hm cg cv rb h7' lb
    obtain ⟨n, rfl⟩ : ∃ n', n = n' + 1 := ⟨n - 1, by omega⟩
    obtain ⟨m, rfl⟩ : ∃ m', m = m' + 1 := ⟨m - 1, by omega⟩
    have hbN : bgn δ N M = N := by
      unfold bgn
      by_cases c : M = 0
      · rw [if_pos c]
        exact (h0 (by omega)).symm
      · rw [if_neg c]
        exact (dk.1 (M - 1) (by omega)).1.2.2.2.1 (by omega)
    rw [hbN] at cv rb lb ⊢
    refine Or.inr ⟨g, y0, r7, q28, q29, q30, ?_, ?_, h7', lb, cg, cv, rb⟩
    · rw [c35_s, ckC_oz5, hz, ckC_gP, cg.2.2.1, if_pos (by rw [leN (by omega) (by omega)]; omega)]
    · rw [r45_s, tyR_i33, if_pos (by rw [leN (by omega) (by omega)]; omega)]
      unfold m187_114
      rw [tyR_i34, if_pos rfl, tyR_sz1]
  | succ x ih =>
    intro M n m g y0 i2 r4 r5 r6 r7 q28 q29 q30 hx hn hm cg cv rb h7' lb
    have hMD : M < D := by omega
    have hb := bgn_eq dk.1 hMD
    have hw := (dk.1 M hMD).1
    have hb2 : bgn δ N (M + 1) = dE (δ M) := by
      unfold bgn
      rw [if_neg (by omega)]
      rfl
    rw [hb] at cv rb lb hn hm ⊢
    rcases defn_ok (g := g) (r4 := r4) (r5 := r5) (r6 := r6) (r7 := r7) (i2 := i2) (t := t) (qr17 := qr17) (qr18 := qr18) (qr19 := qr19) (qr20 := qr20) (qr21 := qr21) (qr22 := qr22) (qr23 := qr23) (qr24 := qr24) (qr25 := qr25) (qr26 := qr26) (qr27 := qr27) (qi31 := qi31) (qi35 := qi35) (ql4 := ql4) (ql5 := ql5) (ql6 := ql6) (ql7 := ql7) (qz1 := qz1) (n := n) (m := m) (y0 := y0) hz wf hN hD dk td tn hlt dm hT hMD (by omega) (by omega) cg cv rb h7' lb with hf | ⟨n2, m2, g2, y2, b7, b28, b29, b30, f1, f2, f3, f4, f5, f6, f7, f8, f9⟩
    · exact Or.inl hf
    · rw [f1, f2]
      rw [← hb2] at f6 f8 f9 ⊢
      rcases ih (M + 1) n2 m2 g2 y2 i2 r4 r5 r6 b7 b28 b29 b30 (by omega) (by omega) (by omega) f7 f8 f9 f5 f6 with hf | hok
      · exact Or.inl hf
      · exact Or.inr hok
end CkD
