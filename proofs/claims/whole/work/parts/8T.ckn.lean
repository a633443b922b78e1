/-! checking: node by node -/
section CkN
variable {T : List Int32} {σ : Nat → Nd} {δ : Nat → Dd} {N K M k d F D o i p j n m : Nat} {w : List Nat} {l6 q28 q29 q30 : List Int32} {t : xSt} {qr17 qr18 qr19 qr20 qr21 qr22 qr23 qr24 qr25 qr26 qr27 qr28 qr29 qr30 : List Int32} {qi31 qi32 qi33 qi34 qi35 qi36 : Int32} {ql4 ql5 ql6 ql7 : List Int64} {qz1 : Bool} {s : xSt} {z : Bool} {g : Nat → List Int32} {nn : List Int64} {r4 r5 r6 r7 : List Int32} {i2 i3 : Int32}
theorem c35_s {x : Int32} {S : xSt} : m100_35 (n + 1) x S = if nI ((gP S (gZ S 5) 0)).length ≤ x then some S else (m13 S).bind fun q3 => if q3.1 = true then some q3.2 else (m102 x q3.2).bind fun q5 => m100_69 (m100_35 n) 1000000 x (nI ((gR q5 4)).length) q5 := by
  rw [m100_35]
theorem r45_s {x : Int32} {S : xSt} : m187_45 (n + 1) x S = if (gI S 33) ≤ x then m187_114 S else if (gI S 34) = 0 then (m190 x S).bind fun q8 => m187_67 (m187_45 n) 1000000 x x q8 else m187_114 S := by
  rw [m187_45]
theorem c35_out {x : Int32} (hn : 0 < n) (h : ¬ i2 = 0) : m100_35 n x (ckC s z g nn r4 r5 r6 r7 i2 i3) = some (ckC s z g nn r4 r5 r6 r7 i2 i3) := by
  obtain ⟨n, rfl⟩ : ∃ n', n = n' + 1 := ⟨n - 1, by omega⟩
  rw [c35_s]
  split
  · rfl
  · rw [ck13_f h, bs, if_pos rfl]
theorem r45_out {x : Int32} (hn : 0 < n) (h : ¬ qi34 = 0) : m187_45 n x (tyR t qr17 qr18 qr19 qr20 qr21 qr22 qr23 qr24 qr25 qr26 qr27 qr28 qr29 qr30 qi31 qi32 qi33 qi34 qi35 qi36 ql4 ql5 ql6 ql7 qz1) = some (qi34, (tyR t qr17 qr18 qr19 qr20 qr21 qr22 qr23 qr24 qr25 qr26 qr27 qr28 qr29 qr30 qi31 qi32 qi33 qi34 qi35 qi36 ql4 ql5 ql6 ql7 false)) := by
  obtain ⟨n, rfl⟩ : ∃ n', n = n' + 1 := ⟨n - 1, by omega⟩
  have e : m187_114 (tyR t qr17 qr18 qr19 qr20 qr21 qr22 qr23 qr24 qr25 qr26 qr27 qr28 qr29 qr30 qi31 qi32 qi33 qi34 qi35 qi36 ql4 ql5 ql6 ql7 qz1) = some (qi34, (tyR t qr17 qr18 qr19 qr20 qr21 qr22 qr23 qr24 qr25 qr26 qr27 qr28 qr29 qr30 qi31 qi32 qi33 qi34 qi35 qi36 ql4 ql5 ql6 ql7 false)) := by
    unfold m187_114
    rw [tyR_i34, if_neg h, tyR_sz1]
  rw [r45_s, e, tyR_i34, if_neg h, ite_self]
theorem rb_set {a b : Int32} (rb : RB σ δ D N K q29 q30) (hK : K < 4096) (h1 : nK (σ K) = 1 → BS σ δ K (nA (σ K)) a ∧ ¬ a = -1) (h2 : kc (nK (σ K)) = true → b = nI (tg σ δ D K) ∧ TgO σ δ D N K) : RB σ δ D N (K + 1) (q29.set K a) (q30.set K b) := by
  obtain ⟨r1, r2, r3⟩ := rb
  refine ⟨fun k hk => ?_, by rw [List.length_set]; exact r2, by rw [List.length_set]; exact r3⟩
  rw [getD_setn (by omega), getD_setn (by omega)]
  by_cases c : k = K
  · rw [if_pos c, if_pos c, c]
    exact ⟨h1, h2⟩
  · rw [if_neg c, if_neg c]
    exact r1 k (by omega)
theorem node_ok (hz : gZ s 5 = z) (wf : WF 0 T σ N [] [] 0) (hN : N < 4090) (hD : D ≤ 64) (dk : DK σ δ D N) (td : TD δ D qr17 qr18 qr19 qr20 qr21 ql4 ql5) (tn : TN σ N N qr22 qr23 qr24 qr25 qr26 qr27 ql6 ql7) (hlt : (qr17.length = 64 ∧ qr18.length = 64 ∧ qr19.length = 64 ∧ qr20.length = 512 ∧ qr21.length = 65 ∧ qr22.length = 4096 ∧ qr23.length = 4096 ∧ qr24.length = 4096 ∧ qr25.length = 4096 ∧ qr26.length = 4096 ∧ qr27.length = 4096 ∧ ql4.length = 64 ∧ ql5.length = 512 ∧ ql6.length = 4096 ∧ ql7.length = 4096)) (dm : DM σ N D) (hT : gR s 0 = T) (cg : CG σ δ D N g nn) (cv : CV σ δ D N K g) (rb : RB σ δ D N K q29 q30) (hK : K < N) (hd : d < D) (hF : F = dF (δ d)) (hFK : F ≤ K) (hKE : K < dE (δ d)) (hdn : ∀ k, F ≤ k → k < dE (δ d) → nD (σ k) = d) (hcx : Cx σ w) (hnp : nP (σ K) = tp w) (hls : Lx6 σ δ D N K w l6) (ea : EA r7 (Ee σ δ D N K)) (lb : LB σ δ D N K q28) (hn : 0 < n) (hm : 0 < m) : (∃ (j' fn : Nat) (pl y : Int32) (g' : Nat → List Int32) (a4 a5 a6 a7 b28 b29 b30 : List Int32), m100_35 (n + 1) (nI (K + d + 1)) (ckC s z g nn ((ns d F w).reverse) ((pst σ K w).reverse) l6.reverse r7 0 i3) = some (ckC s z g' nn a4 a5 a6 a7 (nI fn) pl) ∧ m187_45 (m + 1) (nI K) (tyR t qr17 qr18 qr19 qr20 qr21 qr22 qr23 qr24 qr25 qr26 qr27 q28 q29 q30 qi31 (nI D) (nI N) 0 qi35 qi36 ql4 ql5 ql6 ql7 qz1) = some (nI fn, (tyR t qr17 qr18 qr19 qr20 qr21 qr22 qr23 qr24 qr25 qr26 qr27 b28 b29 b30 qi31 (nI D) (nI N) (nI fn) (nI j') y ql4 ql5 ql6 ql7 false)) ∧ j' < N ∧ ((fn = 5 ∧ pl = nQ (σ j')) ∨ (fn = 6 ∧ pl = nL (σ j'))) ∧ a7.length = 24 ∧ b28.length = 4096 ∧ b29.length = 4096 ∧ b30.length = 4096) ∨ (∃ (w' : List Nat) (g' : Nat → List Int32) (y : Int32) (l' a7 b28 b29 b30 : List Int32), m100_35 (n + 1) (nI (K + d + 1)) (ckC s z g nn ((ns d F w).reverse) ((pst σ K w).reverse) l6.reverse r7 0 i3) = m100_35 n (nI (K + 1 + d + 1)) (ckC s z g' nn ((ns d F w').reverse) ((pst σ (K + 1) w').reverse) l'.reverse a7 0 i3) ∧ m187_45 (m + 1) (nI K) (tyR t qr17 qr18 qr19 qr20 qr21 qr22 qr23 qr24 qr25 qr26 qr27 q28 q29 q30 qi31 (nI D) (nI N) 0 qi35 qi36 ql4 ql5 ql6 ql7 qz1) = m187_45 m (nI (K + 1)) (tyR t qr17 qr18 qr19 qr20 qr21 qr22 qr23 qr24 qr25 qr26 qr27 b28 b29 b30 qi31 (nI D) (nI N) 0 qi35 y ql4 ql5 ql6 ql7 qz1) ∧ K + 1 < dE (δ d) ∧ Cx σ w' ∧ nP (σ (K + 1)) = tp w' ∧ Lx6 σ δ D N (K + 1) w' l' ∧ EA a7 (Ee σ δ D N (K + 1)) ∧ LB σ δ D N (K + 1) b28 ∧ CG σ δ D N g' nn ∧ CV σ δ D N (K + 1) g' ∧ RB σ δ D N (K + 1) b29 b30) ∨ (∃ (g' : Nat → List Int32) (y : Int32) (a7 b28 b29 b30 : List Int32), m100_35 (n + 1) (nI (K + d + 1)) (ckC s z g nn ((ns d F w).reverse) ((pst σ K w).reverse) l6.reverse r7 0 i3) = m100_35 n (nI (K + 1 + d + 1)) (ckC s z g' nn [] [] [] a7 0 i3) ∧ m187_45 (m + 1) (nI K) (tyR t qr17 qr18 qr19 qr20 qr21 qr22 qr23 qr24 qr25 qr26 qr27 q28 q29 q30 qi31 (nI D) (nI N) 0 qi35 qi36 ql4 ql5 ql6 ql7 qz1) = m187_45 m (nI (K + 1)) (tyR t qr17 qr18 qr19 qr20 qr21 qr22 qr23 qr24 qr25 qr26 qr27 b28 b29 b30 qi31 (nI D) (nI N) 0 qi35 y ql4 ql5 ql6 ql7 qz1) ∧ K + 1 = dE (δ d) ∧ a7.length = 24 ∧ LB σ δ D N (K + 1) b28 ∧ CG σ δ D N g' nn ∧ CV σ δ D N (K + 1) g' ∧ RB σ δ D N (K + 1) b29 b30) := by
  have hlt' := hlt
  obtain ⟨h17, h18, h19, h20, h21, h22, h23, h24, h25, h26, h27, h4, h5, h6, h7⟩ := hlt'
  have hdK : nD (σ K) = d := hdn K hFK hKE
  obtain ⟨g1, g2, g3, g4, g5, g6⟩ := cg.1 K hK
  rw [hdK] at g1 g2 g5
  have hno := (wf.2.1 K hK).1
  have hr := hno.1
  have hcxK : Cx σ (K :: w) := ⟨hnp, hcx⟩
  have hwl := cx_len wf.1 w K hK hcxK
  have hnl := ns_len d F w
  have hpl := pst_len (σ := σ) w K
  have hll := ls_len w K l6 hls
  have hZ1 := (wf.2.2.1 K hK (by simp)).2.1
  have hp0 : pcnt (pr σ) K (K + 1) = 0 := pcnt_0 wf.1 (by omega) (Nat.le_refl _)
  have hg8 := (dk.1 d hd).2.1.1
  have hg8' : (dP (δ (nD (σ K)))).length ≤ 8 := by rw [hdK]; exact hg8
  have hcc : m100_35 (n + 1) (nI (K + d + 1)) (ckC s z g nn ((ns d F w).reverse) ((pst σ K w).reverse) l6.reverse r7 0 i3) = (m102 (nI (K + d + 1)) (ckC s z g nn ((ns d F w).reverse) ((pst σ K w).reverse) l6.reverse r7 0 i3)).bind fun q5 => m100_69 (m100_35 n) 1000000 (nI (K + d + 1)) (nI ((gR q5 4)).length) q5 := by
    rw [c35_s, ckC_oz5, hz, ckC_gP, cg.2.2.1, if_neg (by rw [leN (by omega) (by omega)]; omega), ck13_0, bs, if_neg ff]
  have hrr : m187_45 (m + 1) (nI K) (tyR t qr17 qr18 qr19 qr20 qr21 qr22 qr23 qr24 qr25 qr26 qr27 q28 q29 q30 qi31 (nI D) (nI N) 0 qi35 qi36 ql4 ql5 ql6 ql7 qz1) = (m190 (nI K) (tyR t qr17 qr18 qr19 qr20 qr21 qr22 qr23 qr24 qr25 qr26 qr27 q28 q29 q30 qi31 (nI D) (nI N) 0 qi35 qi36 ql4 ql5 ql6 ql7 qz1)).bind fun q8 => m187_67 (m187_45 m) 1000000 (nI K) (nI K) q8 := by
    rw [r45_s, tyR_i33, if_neg (by rw [leN (by omega) (by omega)]; omega), tyR_i34, if_pos rfl]
  obtain ⟨y, a, b, hcome⟩ := come_ok (t := t) (qr17 := qr17) (qr18 := qr18) (qr19 := qr19) (qr20 := qr20) (qr21 := qr21) (qr22 := qr22) (qr23 := qr23) (qr24 := qr24) (qr25 := qr25) (qr26 := qr26) (qr27 := qr27) (qr28 := q28) (qr29 := q29) (qr30 := q30) (qi31 := qi31) (qi33 := nI N) (qi35 := qi35) (qi36 := qi36) (ql4 := ql4) (ql5 := ql5) (ql6 := ql6) (ql7 := ql7) (qz1 := qz1) (k := K) wf (by omega) hD dk td tn hK h17 h19 h22 h23 h24 h25 h26 rb.2.1 rb.2.2 h4 h5 h6 h7
  have hgo : ∀ g' : Nat → List Int32, m102 (nI (K + d + 1)) (ckC s z g nn ((ns d F w).reverse) ((pst σ K w).reverse) l6.reverse r7 0 i3) = m102_85 (nI (K + d + 1)) (ckC s z g' nn ((ns d F w).reverse) ((pst σ K w).reverse) l6.reverse r7 0 i3) → CG σ δ D N g' nn → CV σ δ D N (K + 1) g' → m190 (nI K) (tyR t qr17 qr18 qr19 qr20 qr21 qr22 qr23 qr24 qr25 qr26 qr27 q28 q29 q30 qi31 (nI D) (nI N) 0 qi35 qi36 ql4 ql5 ql6 ql7 qz1) = some (tyR t qr17 qr18 qr19 qr20 qr21 qr22 qr23 qr24 qr25 qr26 qr27 q28 (q29.set K a) (q30.set K b) qi31 (nI D) (nI N) 0 qi35 y ql4 ql5 ql6 ql7 qz1) → RB σ δ D N (K + 1) (q29.set K a) (q30.set K b) → (∃ (j' fn : Nat) (pl y : Int32) (g' : Nat → List Int32) (a4 a5 a6 a7 b28 b29 b30 : List Int32), m100_35 (n + 1) (nI (K + d + 1)) (ckC s z g nn ((ns d F w).reverse) ((pst σ K w).reverse) l6.reverse r7 0 i3) = some (ckC s z g' nn a4 a5 a6 a7 (nI fn) pl) ∧ m187_45 (m + 1) (nI K) (tyR t qr17 qr18 qr19 qr20 qr21 qr22 qr23 qr24 qr25 qr26 qr27 q28 q29 q30 qi31 (nI D) (nI N) 0 qi35 qi36 ql4 ql5 ql6 ql7 qz1) = some (nI fn, (tyR t qr17 qr18 qr19 qr20 qr21 qr22 qr23 qr24 qr25 qr26 qr27 b28 b29 b30 qi31 (nI D) (nI N) (nI fn) (nI j') y ql4 ql5 ql6 ql7 false)) ∧ j' < N ∧ ((fn = 5 ∧ pl = nQ (σ j')) ∨ (fn = 6 ∧ pl = nL (σ j'))) ∧ a7.length = 24 ∧ b28.length = 4096 ∧ b29.length = 4096 ∧ b30.length = 4096) ∨ (∃ (w' : List Nat) (g' : Nat → List Int32) (y : Int32) (l' a7 b28 b29 b30 : List Int32), m100_35 (n + 1) (nI (K + d + 1)) (ckC s z g nn ((ns d F w).reverse) ((pst σ K w).reverse) l6.reverse r7 0 i3) = m100_35 n (nI (K + 1 + d + 1)) (ckC s z g' nn ((ns d F w').reverse) ((pst σ (K + 1) w').reverse) l'.reverse a7 0 i3) ∧ m187_45 (m + 1) (nI K) (tyR t qr17 qr18 qr19 qr20 qr21 qr22 qr23 qr24 qr25 qr26 qr27 q28 q29 q30 qi31 (nI D) (nI N) 0 qi35 qi36 ql4 ql5 ql6 ql7 qz1) = m187_45 m (nI (K + 1)) (tyR t qr17 qr18 qr19 qr20 qr21 qr22 qr23 qr24 qr25 qr26 qr27 b28 b29 b30 qi31 (nI D) (nI N) 0 qi35 y ql4 ql5 ql6 ql7 qz1) ∧ K + 1 < dE (δ d) ∧ Cx σ w' ∧ nP (σ (K + 1)) = tp w' ∧ Lx6 σ δ D N (K + 1) w' l' ∧ EA a7 (Ee σ δ D N (K + 1)) ∧ LB σ δ D N (K + 1) b28 ∧ CG σ δ D N g' nn ∧ CV σ δ D N (K + 1) g' ∧ RB σ δ D N (K + 1) b29 b30) ∨ (∃ (g' : Nat → List Int32) (y : Int32) (a7 b28 b29 b30 : List Int32), m100_35 (n + 1) (nI (K + d + 1)) (ckC s z g nn ((ns d F w).reverse) ((pst σ K w).reverse) l6.reverse r7 0 i3) = m100_35 n (nI (K + 1 + d + 1)) (ckC s z g' nn [] [] [] a7 0 i3) ∧ m187_45 (m + 1) (nI K) (tyR t qr17 qr18 qr19 qr20 qr21 qr22 qr23 qr24 qr25 qr26 qr27 q28 q29 q30 qi31 (nI D) (nI N) 0 qi35 qi36 ql4 ql5 ql6 ql7 qz1) = m187_45 m (nI (K + 1)) (tyR t qr17 qr18 qr19 qr20 qr21 qr22 qr23 qr24 qr25 qr26 qr27 b28 b29 b30 qi31 (nI D) (nI N) 0 qi35 y ql4 ql5 ql6 ql7 qz1) ∧ K + 1 = dE (δ d) ∧ a7.length = 24 ∧ LB σ δ D N (K + 1) b28 ∧ CG σ δ D N g' nn ∧ CV σ δ D N (K + 1) g' ∧ RB σ δ D N (K + 1) b29 b30) := by
    intro g' e1 cg' cv' e2 rb'
    have e3 := m102_85_eq (s := s) (z := z) (g := g') (nn := nn) (r7 := r7) (i2 := 0) (i3 := i3) (x := nI (K + d + 1)) (a := ns d F w) (b := pst σ K w) (l := l6) (by omega) (by omega) (by omega)
    have hin := inner (s := s) (z := z) (g := g') (nn := nn) (i3 := i3) (t := t) (qr17 := qr17) (qr18 := qr18) (qr19 := qr19) (qr20 := qr20) (qr21 := qr21) (qr22 := qr22) (qr23 := qr23) (qr24 := qr24) (qr25 := qr25) (qr26 := qr26) (qr27 := qr27) (qi31 := qi31) (qi35 := qi35) (qi36 := y) (ql4 := ql4) (ql5 := ql5) (ql6 := ql6) (ql7 := ql7) (qz1 := qz1) (K35 := m100_35 n) (K45 := m187_45 m) hz wf hN hD dk td tn hlt cg' cv' rb' hK hd hF hFK hKE hdn w K 1000000 1000000 0 l6 r7 q28 hcxK hFK (Nat.le_refl _) (by omega) (fun q q1 q2 => by omega) hls (fun p p1 p2 p3 => by omega) (by rw [hp0, bte_0, List.append_nil]; exact ea) ⟨lb.1, fun k k1 k2 => lb.2 k (by
      by_cases c : k = K
      · rw [c] at k2; omega
      · omega) (by omega)⟩ (by omega) (by omega)
    have ec : m100_35 (n + 1) (nI (K + d + 1)) (ckC s z g nn ((ns d F w).reverse) ((pst σ K w).reverse) l6.reverse r7 0 i3) = m100_69 (m100_35 n) 1000000 (nI (K + d + 1)) (nI (w.length + 2)) (ckC s z g' nn ((ns d F (K :: w)).reverse) ((nI (pcnt (pr σ) K (K + 1)) :: pst σ K w).reverse) (((0 : Int32) :: l6).reverse) r7 0 i3) := by
      rw [hcc, e1, e3, bs, ckC_r4, List.length_reverse, List.length_cons, hnl, hp0]
      rfl
    have er : m187_45 (m + 1) (nI K) (tyR t qr17 qr18 qr19 qr20 qr21 qr22 qr23 qr24 qr25 qr26 qr27 q28 q29 q30 qi31 (nI D) (nI N) 0 qi35 qi36 ql4 ql5 ql6 ql7 qz1) = m187_67 (m187_45 m) 1000000 (nI K) (nI K) (tyR t qr17 qr18 qr19 qr20 qr21 qr22 qr23 qr24 qr25 qr26 qr27 q28 (q29.set K a) (q30.set K b) qi31 (nI D) (nI N) 0 qi35 y ql4 ql5 ql6 ql7 qz1) := by
      rw [hrr, e2, bs]
    rw [ec, er]
    rcases hin with ⟨j', a4, a5, a6, a7, q, x1, x2, x3, x4, x5⟩ | ⟨w', l', a7, q, x1, x2, x3, x4, x5, x6, x7, x8⟩ | ⟨a7, q, x1, x2, x3, x4, x5⟩
    · refine Or.inl ⟨j', 6, nL (σ j'), y, g', a4, a5, a6, a7, q, q29.set K a, q30.set K b, ?_, ?_, x1, Or.inr ⟨rfl, rfl⟩, x4, x5, rb'.2.1, rb'.2.2⟩
      · rw [x2, c35_out hn (by decide)]
        rfl
      · rw [x3, r45_out hm (by decide)]
        rfl
    · refine Or.inr (Or.inl ⟨w', g', y, l', a7, q, q29.set K a, q30.set K b, ?_, ?_, x3, x4, x5, x6, x7, x8, cg', cv', rb'⟩)
      · rw [x1, nI_1, show K + d + 1 + 1 = K + 1 + d + 1 by omega]
      · rw [x2, nI_1]
    · refine Or.inr (Or.inr ⟨g', y, a7, q, q29.set K a, q30.set K b, ?_, ?_, x3, x4, x5, cg', cv', rb'⟩)
      · rw [x1, nI_1, show K + d + 1 + 1 = K + 1 + d + 1 by omega]
      · rw [x2, nI_1]
  have hbad : ∀ (pl : Int32), m102 (nI (K + d + 1)) (ckC s z g nn ((ns d F w).reverse) ((pst σ K w).reverse) l6.reverse r7 0 i3) = m102_85 (nI (K + d + 1)) (ckC s z g nn ((ns d F w).reverse) ((pst σ K w).reverse) l6.reverse r7 5 pl) → pl = nQ (σ K) → m190 (nI K) (tyR t qr17 qr18 qr19 qr20 qr21 qr22 qr23 qr24 qr25 qr26 qr27 q28 q29 q30 qi31 (nI D) (nI N) 0 qi35 qi36 ql4 ql5 ql6 ql7 qz1) = some (tyR t qr17 qr18 qr19 qr20 qr21 qr22 qr23 qr24 qr25 qr26 qr27 q28 (q29.set K a) (q30.set K b) qi31 (nI D) (nI N) 5 (nI K) y ql4 ql5 ql6 ql7 qz1) → (∃ (j' fn : Nat) (pl y : Int32) (g' : Nat → List Int32) (a4 a5 a6 a7 b28 b29 b30 : List Int32), m100_35 (n + 1) (nI (K + d + 1)) (ckC s z g nn ((ns d F w).reverse) ((pst σ K w).reverse) l6.reverse r7 0 i3) = some (ckC s z g' nn a4 a5 a6 a7 (nI fn) pl) ∧ m187_45 (m + 1) (nI K) (tyR t qr17 qr18 qr19 qr20 qr21 qr22 qr23 qr24 qr25 qr26 qr27 q28 q29 q30 qi31 (nI D) (nI N) 0 qi35 qi36 ql4 ql5 ql6 ql7 qz1) = some (nI fn, (tyR t qr17 qr18 qr19 qr20 qr21 qr22 qr23 qr24 qr25 qr26 qr27 b28 b29 b30 qi31 (nI D) (nI N) (nI fn) (nI j') y ql4 ql5 ql6 ql7 false)) ∧ j' < N ∧ ((fn = 5 ∧ pl = nQ (σ j')) ∨ (fn = 6 ∧ pl = nL (σ j'))) ∧ a7.length = 24 ∧ b28.length = 4096 ∧ b29.length = 4096 ∧ b30.length = 4096) := by
    intro pl e1 ep e2
    have e3 := m102_85_eq (s := s) (z := z) (g := g) (nn := nn) (r7 := r7) (i2 := 5) (i3 := pl) (x := nI (K + d + 1)) (a := ns d F w) (b := pst σ K w) (l := l6) (by omega) (by omega) (by omega)
    refine ⟨K, 5, pl, y, g, (nI (K + d + 1) :: ns d F w).reverse, ((0 : Int32) :: pst σ K w).reverse, ((0 : Int32) :: l6).reverse, r7, q28, q29.set K a, q30.set K b, ?_, ?_, hK, Or.inl ⟨rfl, ep⟩, ea.1, lb.1, by rw [List.length_set]; exact rb.2.1, by rw [List.length_set]; exact rb.2.2⟩
    · rw [hcc, e1, e3, bs, show (1000000 : Nat) = 999999 + 1 from rfl, c69_out (by decide), c35_out hn (by decide)]
      rfl
    · rw [hrr, e2, bs, show (1000000 : Nat) = 999999 + 1 from rfl, r67_out (by decide), r45_out hm (by decide)]
      rfl
  by_cases c1 : nK (σ K) = 1
  · have hkc : kc (nK (σ K)) = false := by rw [c1]; rfl
    by_cases cl : lix (nC (σ K)) (nA (σ K)) (nC (σ K)).length = -1
    · rcases hcome with ⟨e1, e2, e3⟩ | ⟨e1, e2⟩
      · exact absurd ((bs_one (e2 c1).1 hg8' hno.2.1 (by omega)).mpr cl) (e2 c1).2
      · refine Or.inl (hbad _ (enter_bad hz (by omega) (by rw [c1] at g1; exact g1) ((g5 c1).1.trans cl)) ?_ e1)
        rw [g2]
        exact (g5 c1).2.symm
    · rcases hcome with ⟨e1, e2, e3⟩ | ⟨e1, e2⟩
      · exact hgo g (enter_leaf hz (by omega) hr g1 hkc (fun _ => by rw [(g5 c1).1]; exact cl)) cg (cv_same cv hkc) e1 (rb_set rb (by omega) e2 (fun q => by rw [hkc] at q; exact absurd q ff))
      · rcases e2 with ⟨-, q⟩ | ⟨q, -⟩
        · exact absurd q cl
        · rw [hkc] at q
          exact absurd q ff
  · cases hkc : kc (nK (σ K))
    · rcases hcome with ⟨e1, e2, e3⟩ | ⟨e1, e2⟩
      · exact hgo g (enter_leaf hz (by omega) hr g1 hkc (fun q => absurd q c1)) cg (cv_same cv hkc) e1 (rb_set rb (by omega) e2 (fun q => by rw [hkc] at q; exact absurd q ff))
      · rcases e2 with ⟨q, -⟩ | ⟨q, -⟩
        · exact absurd q c1
        · rw [hkc] at q
          exact absurd q ff
    · have hcv := cv K hK hkc
      rw [if_neg (by omega), hdK] at hcv
      have hin : ∀ j, K ≤ j → j < K + nZ (σ K) → nD (σ j) = d ∧ j < N := fun j j1 j2 => by
        have h1 := root_end wf dk.1 hd
        rw [← hF] at h1
        have hFN : F < N := by omega
        have h2 := nest wf hFN hFK (by omega)
        have h3 := (wf.2.2.1 K hK (by simp)).2.2.1
        exact ⟨hdn j (by omega) (by omega), by omega⟩
      have hres := res_ok (s := s) (z := z) (g := g) (nn := nn) (r4 := (ns d F w).reverse) (r5 := (pst σ K w).reverse) (r6 := l6.reverse) (r7 := r7) (i3 := i3) (k := K) (d := d) hz hT wf (by omega) hD hK hkc (by omega) g1 hcv (fun j j1 j2 => (hin j j1 j2).1) (fun j j1 j2 => by
        have h := (cg.1 j (hin j j1 j2).2).2.2.2.2.2
        rw [(hin j j1 j2).1] at h
        exact h) cg.2.2.2.2.1 cg.2.2.2.2.2 (fun e he => ⟨(cg.2.1 e he).1, (dk.1 e he).2.1.1, by have := (dk.1 e he).1; omega⟩) (fun e he => (dk.1 e he).2.2.2.1)
      have hen := enter_call (s := s) (z := z) (g := g) (nn := nn) (r4 := (ns d F w).reverse) (r5 := (pst σ K w).reverse) (r6 := l6.reverse) (r7 := r7) (i2 := 0) (i3 := i3) (c := K + d + 1) hz (by omega) hr g1 hkc
      rcases hres with ⟨e, r1, r2, r3, r4', r5'⟩ | ⟨r1, r2⟩
      · have htg : tg σ δ D K = e := fdx_eq D (fun d hd => (dk.1 d hd).2.2.2.1) r1 r2
        have hto : TgO σ δ D N K := by
          unfold TgO
          rw [htg]
          exact ⟨r1, r2, r3, r4'⟩
        rcases hcome with ⟨e1, e2, e3⟩ | ⟨e1, e2⟩
        · obtain ⟨e', q1, q2, q3, q4, q5⟩ := e3 hkc
          have htg' : tg σ δ D K = e' := fdx_eq D (fun d hd => (dk.1 d hd).2.2.2.1) q1 q3
          obtain ⟨cg', cv'⟩ := cg_set wf dm dk.1 cg cv hK hd hdK (by rw [← hF]; exact hFK) hKE hkc
          refine hgo _ ?_ cg' cv' e1 (rb_set rb (by omega) e2 (fun _ => ⟨by rw [htg']; exact q2, hto⟩))
          rw [hen, r5', bs, htg]
        · rcases e2 with ⟨q, -⟩ | ⟨-, q⟩
          · exact absurd q c1
          · exact absurd ⟨r3, r4'⟩ (q e r1 r2)
      · rcases hcome with ⟨e1, e2, e3⟩ | ⟨e1, e2⟩
        · obtain ⟨e', q1, q2, q3, q4, q5⟩ := e3 hkc
          exact absurd ⟨q4, q5⟩ (r1 e' q1 q3)
        · refine Or.inl (hbad (nQ (σ K)) ?_ rfl e1)
          rw [hen, r2, bs]
end CkN
