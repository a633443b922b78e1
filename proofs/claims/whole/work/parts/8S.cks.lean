/-! checking: all that ends with a node is left -/
section CkS
variable {T : List Int32} {σ : Nat → Nd} {δ : Nat → Dd} {N K M k d F D o i p j : Nat} {q29 q30 : List Int32} {t : xSt} {qr17 qr18 qr19 qr20 qr21 qr22 qr23 qr24 qr25 qr26 qr27 qr28 qr29 qr30 : List Int32} {qi31 qi32 qi33 qi34 qi35 qi36 : Int32} {ql4 ql5 ql6 ql7 : List Int64} {qz1 : Bool} {s : xSt} {z : Bool} {g : Nat → List Int32} {nn : List Int64} {r4 r5 r6 r7 : List Int32} {i2 i3 : Int32} {K35 : Int32 → xSt → Option xSt} {K45 : Int32 → xSt → Option (Int32 × xSt)}
theorem c69_s {n : Nat} {x2 x3 : Int32} {S : xSt} : m100_69 K35 (n + 1) x2 x3 S = if x3 ≤ 0 then K35 (x2 + 1) S else (m107 x2 S).bind fun q7 => if q7.1 = true then (m13 q7.2).bind fun q9 => if q9.1 = true then K35 (x2 + 1) q9.2 else (m108 q9.2).bind fun q11 => m100_69 K35 n x2 (x3 + (-1)) q11 else K35 (x2 + 1) q7.2 := rfl
theorem r67_s {n : Nat} {x1 x2 : Int32} {S : xSt} : m187_67 K45 (n + 1) x1 x2 S = if x2 < 0 then K45 (x1 + 1) S else if (gI S 34) = 0 then (m195 x2 (x1 + 1) (gI S 33) S).bind fun q11 => if q11.1 = true then (m196 x2 q11.2).bind fun q13 => (xsGet (gR q13 24) x2).bind fun v14 => m187_67 K45 n x1 v14 q13 else K45 (x1 + 1) q11.2 else K45 (x1 + 1) S := rfl
theorem c69_out {x2 x3 : Int32} {f : Nat} (h : ¬ i2 = 0) : m100_69 K35 (f + 1) x2 x3 (ckC s z g nn r4 r5 r6 r7 i2 i3) = K35 (x2 + 1) (ckC s z g nn r4 r5 r6 r7 i2 i3) := by
  rw [c69_s]
  split
  · rfl
  · unfold m107
    split
    · rw [bs, if_pos rfl, ck13_f h, bs, if_pos rfl]
    · rw [bs, if_neg ff]
theorem r67_out {x1 x2 : Int32} {f : Nat} (h : ¬ qi34 = 0) : m187_67 K45 (f + 1) x1 x2 (tyR t qr17 qr18 qr19 qr20 qr21 qr22 qr23 qr24 qr25 qr26 qr27 qr28 qr29 qr30 qi31 qi32 qi33 qi34 qi35 qi36 ql4 ql5 ql6 ql7 qz1) = K45 (x1 + 1) (tyR t qr17 qr18 qr19 qr20 qr21 qr22 qr23 qr24 qr25 qr26 qr27 qr28 qr29 qr30 qi31 qi32 qi33 qi34 qi35 qi36 ql4 ql5 ql6 ql7 qz1) := by
  rw [r67_s]
  split
  · rfl
  · rw [tyR_i34, if_neg h]
/-- the first node of a definition holds all of it -/
theorem root_end (wf : WF 0 T σ N [] [] 0) (hw : ∀ d, d < D → Dw δ σ D N d) (hd : d < D) : dF (δ d) + nZ (σ (dF (δ d))) = dE (δ d) := by
  obtain ⟨⟨w1, w2, w3, w4, w5⟩, -, -, -, rt⟩ := hw d hd
  obtain ⟨a1, a2, a3, a4, a5, -⟩ := wf.2.2.1 (dF (δ d)) (by omega) (by simp)
  have h1 : dE (δ d) ≤ dF (δ d) + nZ (σ (dF (δ d))) := by
    by_cases c : dE (δ d) ≤ dF (δ d) + nZ (σ (dF (δ d)))
    · exact c
    · exfalso
      have h2 := a5 (by omega)
      have h3 := rt.2.2.2.2 (dF (δ d) + nZ (σ (dF (δ d)))) (by omega) (by omega)
      have h4 : pr σ (dF (δ d) + nZ (σ (dF (δ d)))) = nP (σ (dF (δ d) + nZ (σ (dF (δ d))))) := rfl
      omega
  by_cases c : dF (δ d) + nZ (σ (dF (δ d))) ≤ dE (δ d)
  · omega
  · exfalso
    have hdD : d + 1 < D := by
      by_cases q : d + 1 < D
      · exact q
      · have := w4 (by omega)
        omega
    have h3 := (hw (d + 1) hdD).2.2.2.2.1
    have h4 := a4 (dE (δ d)) (by omega) (by omega)
    rw [w3 hdD] at h4
    have h5 : pr σ (dF (δ (d + 1))) = nP (σ (dF (δ (d + 1)))) := rfl
    omega
theorem m113_def {b : Bool} {c : Nat} {x y : Int32} (hz : gZ s 5 = z) (hc : c < 2 ^ 30) (hk : (g 0).getD c 0 = nI (if b = true then 23 else 22)) : m113 (nI c) x y (ckC s z g nn r4 r5 r6 r7 i2 i3) = some (ckC s z g nn r4 r5 r6 r7 i2 i3) := by
  unfold m113 m113_41 m113_74
  rw [ckAt (j := 0) hz hc, hk]
  cases b <;> rw [if_neg (by decide), if_neg (by decide), if_neg (by decide)]
theorem tc_inj : ∀ y, y < 4 → ∀ x, x < 4 → (¬ tc y = tc x ∨ y = x) := by decide +kernel
theorem turn_c {a e c m f : Nat} {st : List Int32} (hz : gZ s 5 = z) (ha : a < 2 ^ 30) (he : e < 2 ^ 30) (hc : c < 2 ^ 30) (hm : m < 2 ^ 30) (hl : st.length < 2 ^ 30) (h4 : (g 4).getD a 0 = nI e) : m100_69 K35 (f + 1) (nI c) (nI (m + 1)) (ckC s z g nn ((nI a :: st).reverse) r5 r6 r7 0 i3) = if e = c + 1 then (m108 (ckC s z g nn ((nI a :: st).reverse) r5 r6 r7 0 i3)).bind fun q => m100_69 K35 f (nI c) (nI m) q else K35 (nI c + 1) (ckC s z g nn ((nI a :: st).reverse) r5 r6 r7 0 i3) := by
  have h107 := m107_eq (s := s) (z := z) (g := g) (nn := nn) (r5 := r5) (r6 := r6) (r7 := r7) (i2 := 0) (i3 := i3) (a := a) (e := e) (c := c) (st := st) hz ha he hc hl h4
  rw [c69_s, if_neg (by rw [leL_0 (by omega)]; omega), h107, bs]
  by_cases q : e = c + 1
  · rw [if_pos (decide_eq_true q), if_pos q, ck13_0, bs, if_neg ff, nI_dec]
  · rw [if_neg (by rw [decide_eq_false q]; exact ff), if_neg q]
theorem turn_r {f : Nat} (wf : WF 0 T σ N [] [] 0) (hN : N < 4090) (hD : D ≤ 64) (dk : DK σ δ D N) (td : TD δ D qr17 qr18 qr19 qr20 qr21 ql4 ql5) (tn : TN σ N N qr22 qr23 qr24 qr25 qr26 qr27 ql6 ql7) (hlt : (qr17.length = 64 ∧ qr18.length = 64 ∧ qr19.length = 64 ∧ qr20.length = 512 ∧ qr21.length = 65 ∧ qr22.length = 4096 ∧ qr23.length = 4096 ∧ qr24.length = 4096 ∧ qr25.length = 4096 ∧ qr26.length = 4096 ∧ qr27.length = 4096 ∧ ql4.length = 64 ∧ ql5.length = 512 ∧ ql6.length = 4096 ∧ ql7.length = 4096)) (hK : K < N) (hj : j ≤ K) (hKj : K < j + nZ (σ j)) : m187_67 K45 (f + 1) (nI K) (nI j) (tyR t qr17 qr18 qr19 qr20 qr21 qr22 qr23 qr24 qr25 qr26 qr27 qr28 qr29 qr30 qi31 (nI D) (nI N) 0 qi35 qi36 ql4 ql5 ql6 ql7 qz1) = if j + nZ (σ j) = K + 1 then (m196 (nI j) (tyR t qr17 qr18 qr19 qr20 qr21 qr22 qr23 qr24 qr25 qr26 qr27 qr28 qr29 qr30 qi31 (nI D) (nI N) 0 qi35 qi36 ql4 ql5 ql6 ql7 qz1)).bind fun q13 => (xsGet (gR q13 24) (nI j)).bind fun v14 => m187_67 K45 f (nI K) v14 q13 else K45 (nI K + 1) (tyR t qr17 qr18 qr19 qr20 qr21 qr22 qr23 qr24 qr25 qr26 qr27 qr28 qr29 qr30 qi31 (nI D) (nI N) 0 qi35 qi36 ql4 ql5 ql6 ql7 qz1) := by
  obtain ⟨h17, h18, h19, h20, h21, h22, h23, h24, h25, h26, h27, h4, h5, h6, h7⟩ := hlt
  rw [r67_s, if_neg (nI_pos (by omega)), tyR_i34, if_pos rfl, tyR_i33, nI_1, m195_eq wf (by omega) tn h24 hK hj hKj, bs]
  by_cases q : j + nZ (σ j) = K + 1
  · rw [if_pos (decide_eq_true q), if_pos q]
  · rw [if_neg (by rw [decide_eq_false q]; exact ff), if_neg q]
/-- the next node is a part of the top -/
theorem next_par (wf : WF 0 T σ N [] [] 0) (hK : K < N) (hj : j ≤ K) (h : K + 1 < j + nZ (σ j)) (hin : ∀ q, j < q → q ≤ K → q + nZ (σ q) ≤ K + 1) : nP (σ (K + 1)) = (j : Int) ∧ K + 1 < N := by
  obtain ⟨a1, a2, a3, a4, a5, -⟩ := wf.2.2.1 j (by omega) (by simp)
  have h1 := a4 (K + 1) (by omega) h
  have h2 := (wf.1 (K + 1) (by omega)).2.1
  have h3 : pr σ (K + 1) = nP (σ (K + 1)) := rfl
  refine ⟨?_, by omega⟩
  by_cases c : nP (σ (K + 1)) = (j : Int)
  · exact c
  · exfalso
    obtain ⟨q, hq⟩ : ∃ q : Nat, nP (σ (K + 1)) = (q : Int) := ⟨(nP (σ (K + 1))).toNat, by omega⟩
    have h4 := hin q (by omega) (by omega)
    have h5 := par_in wf (show K + 1 < N by omega) hq
    omega
theorem exit_go (hz : gZ s 5 = z) (wf : WF 0 T σ N [] [] 0) (hN : N < 4090) (hD : D ≤ 64) (dk : DK σ δ D N) (td : TD δ D qr17 qr18 qr19 qr20 qr21 ql4 ql5) (tn : TN σ N N qr22 qr23 qr24 qr25 qr26 qr27 ql6 ql7) (hlt : (qr17.length = 64 ∧ qr18.length = 64 ∧ qr19.length = 64 ∧ qr20.length = 512 ∧ qr21.length = 65 ∧ qr22.length = 4096 ∧ qr23.length = 4096 ∧ qr24.length = 4096 ∧ qr25.length = 4096 ∧ qr26.length = 4096 ∧ qr27.length = 4096 ∧ ql4.length = 64 ∧ ql5.length = 512 ∧ ql6.length = 4096 ∧ ql7.length = 4096)) (cg : CG σ δ D N g nn) (cv : CV σ δ D N (K + 1) g) (rb : RB σ δ D N (K + 1) q29 q30) (hK : K < N) (hd : d < D) (hF : F = dF (δ d)) (hFK : F ≤ K) (hKE : K < dE (δ d)) (hdn : ∀ k, F ≤ k → k < dE (δ d) → nD (σ k) = d) {w : List Nat} {f f2 : Nat} {v : Int32} {l6 q28 : List Int32} (hcx : Cx σ (j :: w)) (hFj : F ≤ j) (hjK : j ≤ K) (hKj : K < j + nZ (σ j)) (hin : ∀ q, j < q → q ≤ K → q + nZ (σ q) ≤ K + 1) (hls : Lx6 σ δ D N j w l6) (hv : ∀ p, p < N → nP (σ p) = (j : Int) → pq σ p + 1 = pcnt (pr σ) j (K + 1) → v = nI (tc (Ty σ δ D N p))) (ea : EA r7 (Ee σ δ D N j ++ bte (nK (σ j)) (pcnt (pr σ) j (K + 1)) (Ty σ δ D N (j + 1)))) (lf : LF σ δ D N K j q28) (hf : 0 < f) (hf2 : 0 < f2) (hnd : ¬ j + nZ (σ j) = K + 1) : (∃ (w' : List Nat) (l' a7 q : List Int32), m100_69 K35 f (nI (K + d + 1)) (nI (w.length + 2)) (ckC s z g nn ((ns d F (j :: w)).reverse) ((nI (pcnt (pr σ) j (K + 1)) :: pst σ j w).reverse) ((v :: l6).reverse) r7 0 i3) = K35 (nI (K + d + 1) + 1) (ckC s z g nn ((ns d F w').reverse) ((pst σ (K + 1) w').reverse) l'.reverse a7 0 i3) ∧ m187_67 K45 f2 (nI K) (nI j) (tyR t qr17 qr18 qr19 qr20 qr21 qr22 qr23 qr24 qr25 qr26 qr27 q28 q29 q30 qi31 (nI D) (nI N) 0 qi35 qi36 ql4 ql5 ql6 ql7 qz1) = K45 (nI K + 1) (tyR t qr17 qr18 qr19 qr20 qr21 qr22 qr23 qr24 qr25 qr26 qr27 q q29 q30 qi31 (nI D) (nI N) 0 qi35 qi36 ql4 ql5 ql6 ql7 qz1) ∧ K + 1 < dE (δ d) ∧ Cx σ w' ∧ nP (σ (K + 1)) = tp w' ∧ Lx6 σ δ D N (K + 1) w' l' ∧ EA a7 (Ee σ δ D N (K + 1)) ∧ LB σ δ D N (K + 1) q) := by
  obtain ⟨f, rfl⟩ : ∃ f', f = f' + 1 := ⟨f - 1, by omega⟩
  obtain ⟨f2, rfl⟩ : ∃ f', f2 = f' + 1 := ⟨f2 - 1, by omega⟩
  have hjN : j < N := by omega
  have hrend := root_end wf dk.1 hd
  rw [← hF] at hrend
  have hwl := cx_len wf.1 w j hjN hcx
  obtain ⟨n1, n2⟩ := next_par wf hK hjK (by omega) hin
  have hpq : pq σ (K + 1) = pcnt (pr σ) j (K + 1) := pq_eq n1
  obtain ⟨g1, g2, g3, g4, g5, g6⟩ := cg.1 j hjN
  have hdj : nD (σ j) = d := hdn j hFj (by omega)
  rw [hdj] at g6
  have hzj := (wf.2.2.1 j hjN (by simp)).2.2.1
  refine ⟨j :: w, v :: l6, r7, q28, ?_, ?_, ?_, hcx, n1, ⟨v, l6, rfl, fun p p1 p2 p3 => hv p p1 p2 (by rw [← hpq]; exact p3), hls⟩, ?_, lf_out wf hK hjK (by omega) lf⟩
  · have ht := turn_c (s := s) (z := z) (g := g) (nn := nn) (r5 := (nI (pcnt (pr σ) j (K + 1)) :: pst σ j w).reverse) (r6 := (v :: l6).reverse) (r7 := r7) (i3 := i3) (K35 := K35) (f := f) (a := j + d + 1) (e := j + d + 1 + nZ (σ j)) (c := K + d + 1) (m := w.length + 1) (st := ns d F w) hz (by omega) (by omega) (by omega) (by omega) (by rw [ns_len]; omega) g6
    rw [if_neg (by omega)] at ht
    refine ht.trans ?_
    rw [← hpq]
    rfl
  · have ht := turn_r (t := t) (qr17 := qr17) (qr18 := qr18) (qr19 := qr19) (qr20 := qr20) (qr21 := qr21) (qr22 := qr22) (qr23 := qr23) (qr24 := qr24) (qr25 := qr25) (qr26 := qr26) (qr27 := qr27) (qr28 := q28) (qr29 := q29) (qr30 := q30) (qi31 := qi31) (qi35 := qi35) (qi36 := qi36) (ql4 := ql4) (ql5 := ql5) (ql6 := ql6) (ql7 := ql7) (qz1 := qz1) (K45 := K45) (f := f2) wf hN hD dk td tn hlt hK hjK hKj
    rw [if_neg hnd] at ht
    exact ht
  · have := nest wf (show F < N by omega) hFj (by omega)
    omega
  · rw [Ee_part wf n2 n1, hpq]
    exact ea
theorem inner (hz : gZ s 5 = z) (wf : WF 0 T σ N [] [] 0) (hN : N < 4090) (hD : D ≤ 64) (dk : DK σ δ D N) (td : TD δ D qr17 qr18 qr19 qr20 qr21 ql4 ql5) (tn : TN σ N N qr22 qr23 qr24 qr25 qr26 qr27 ql6 ql7) (hlt : (qr17.length = 64 ∧ qr18.length = 64 ∧ qr19.length = 64 ∧ qr20.length = 512 ∧ qr21.length = 65 ∧ qr22.length = 4096 ∧ qr23.length = 4096 ∧ qr24.length = 4096 ∧ qr25.length = 4096 ∧ qr26.length = 4096 ∧ qr27.length = 4096 ∧ ql4.length = 64 ∧ ql5.length = 512 ∧ ql6.length = 4096 ∧ ql7.length = 4096)) (cg : CG σ δ D N g nn) (cv : CV σ δ D N (K + 1) g) (rb : RB σ δ D N (K + 1) q29 q30) (hK : K < N) (hd : d < D) (hF : F = dF (δ d)) (hFK : F ≤ K) (hKE : K < dE (δ d)) (hdn : ∀ k, F ≤ k → k < dE (δ d) → nD (σ k) = d) : ∀ (w : List Nat) (j f f2 : Nat) (v : Int32) (l6 r7 q28 : List Int32), Cx σ (j :: w) → F ≤ j → j ≤ K → K < j + nZ (σ j) → (∀ q, j < q → q ≤ K → q + nZ (σ q) ≤ K + 1) → Lx6 σ δ D N j w l6 → (∀ p, p < N → nP (σ p) = (j : Int) → pq σ p + 1 = pcnt (pr σ) j (K + 1) → v = nI (tc (Ty σ δ D N p))) → EA r7 (Ee σ δ D N j ++ bte (nK (σ j)) (pcnt (pr σ) j (K + 1)) (Ty σ δ D N (j + 1))) → LF σ δ D N K j q28 → w.length + 4 < f → w.length + 4 < f2 → (∃ (j' : Nat) (a4 a5 a6 a7 q : List Int32), j' < N ∧ m100_69 K35 f (nI (K + d + 1)) (nI (w.length + 2)) (ckC s z g nn ((ns d F (j :: w)).reverse) ((nI (pcnt (pr σ) j (K + 1)) :: pst σ j w).reverse) ((v :: l6).reverse) r7 0 i3) = K35 (nI (K + d + 1) + 1) (ckC s z g nn a4 a5 a6 a7 6 (nL (σ j'))) ∧ m187_67 K45 f2 (nI K) (nI j) (tyR t qr17 qr18 qr19 qr20 qr21 qr22 qr23 qr24 qr25 qr26 qr27 q28 q29 q30 qi31 (nI D) (nI N) 0 qi35 qi36 ql4 ql5 ql6 ql7 qz1) = K45 (nI K + 1) (tyR t qr17 qr18 qr19 qr20 qr21 qr22 qr23 qr24 qr25 qr26 qr27 q q29 q30 qi31 (nI D) (nI N) 6 (nI j') qi36 ql4 ql5 ql6 ql7 qz1) ∧ a7.length = 24 ∧ q.length = 4096) ∨ (∃ (w' : List Nat) (l' a7 q : List Int32), m100_69 K35 f (nI (K + d + 1)) (nI (w.length + 2)) (ckC s z g nn ((ns d F (j :: w)).reverse) ((nI (pcnt (pr σ) j (K + 1)) :: pst σ j w).reverse) ((v :: l6).reverse) r7 0 i3) = K35 (nI (K + d + 1) + 1) (ckC s z g nn ((ns d F w').reverse) ((pst σ (K + 1) w').reverse) l'.reverse a7 0 i3) ∧ m187_67 K45 f2 (nI K) (nI j) (tyR t qr17 qr18 qr19 qr20 qr21 qr22 qr23 qr24 qr25 qr26 qr27 q28 q29 q30 qi31 (nI D) (nI N) 0 qi35 qi36 ql4 ql5 ql6 ql7 qz1) = K45 (nI K + 1) (tyR t qr17 qr18 qr19 qr20 qr21 qr22 qr23 qr24 qr25 qr26 qr27 q q29 q30 qi31 (nI D) (nI N) 0 qi35 qi36 ql4 ql5 ql6 ql7 qz1) ∧ K + 1 < dE (δ d) ∧ Cx σ w' ∧ nP (σ (K + 1)) = tp w' ∧ Lx6 σ δ D N (K + 1) w' l' ∧ EA a7 (Ee σ δ D N (K + 1)) ∧ LB σ δ D N (K + 1) q) ∨ (∃ (a7 q : List Int32), m100_69 K35 f (nI (K + d + 1)) (nI (w.length + 2)) (ckC s z g nn ((ns d F (j :: w)).reverse) ((nI (pcnt (pr σ) j (K + 1)) :: pst σ j w).reverse) ((v :: l6).reverse) r7 0 i3) = K35 (nI (K + d + 1) + 1) (ckC s z g nn [] [] [] a7 0 i3) ∧ m187_67 K45 f2 (nI K) (nI j) (tyR t qr17 qr18 qr19 qr20 qr21 qr22 qr23 qr24 qr25 qr26 qr27 q28 q29 q30 qi31 (nI D) (nI N) 0 qi35 qi36 ql4 ql5 ql6 ql7 qz1) = K45 (nI K + 1) (tyR t qr17 qr18 qr19 qr20 qr21 qr22 qr23 qr24 qr25 qr26 qr27 q q29 q30 qi31 (nI D) (nI N) 0 qi35 qi36 ql4 ql5 ql6 ql7 qz1) ∧ K + 1 = dE (δ d) ∧ a7.length = 24 ∧ LB σ δ D N (K + 1) q) := by
  have hlt' := hlt
  obtain ⟨h17, h18, h19, h20, h21, h22, h23, h24, h25, h26, h27, h4, h5, h6, h7⟩ := hlt'
  have hw := dk.1
  have hrend := root_end wf hw hd
  rw [← hF] at hrend
  obtain ⟨⟨w1, w2, w3, w4, w5⟩, wg, ⟨wr, wr2⟩, wh, rt⟩ := hw d hd
  rw [← hF] at rt w1
  obtain ⟨⟨c1, c2, c3, c4, c5, c6, c7⟩, c8, c9⟩ := cg.2.1 d hd
  rw [← hF] at c6 c7 c9
  intro w
  induction w with
  | nil =>
    intro j f f2 v l6 r7 q28 hcx hFj hjK hKj hin hls hv ea lf hf hf2
    by_cases hdone : j + nZ (σ j) = K + 1
    · have hf' : 4 < f := hf
      have hf2' : 4 < f2 := hf2
      obtain ⟨f, rfl⟩ : ∃ f', f = f' + 1 + 1 + 1 := ⟨f - 3, by omega⟩
      obtain ⟨f2, rfl⟩ : ∃ f', f2 = f' + 1 + 1 := ⟨f2 - 2, by omega⟩
      have hjN : j < N := by omega
      have hroot : nP (σ j) = -1 := hcx.1
      have hjF : j = F := by
        by_cases c : j = F
        · exact c
        · have := rt.2.2.2.2 j (by omega) (by omega)
          omega
      obtain ⟨v0, rfl⟩ := hls
      have hend : K + 1 = dE (δ d) := by
        rw [← hrend, ← hjF]
        omega
      have hdj : nD (σ j) = d := hdn j hFj (by omega)
      obtain ⟨g1, g2, g3, g4, g5, g6⟩ := cg.1 j hjN
      rw [hdj] at g6 g2
      have hzj := (wf.2.2.1 j hjN (by simp)).2.2.1
      have hyl := Ty_lt wf dk hjN
      have ht := turn_c (s := s) (z := z) (g := g) (nn := nn) (r5 := (nI (pcnt (pr σ) j (K + 1)) :: pst σ j []).reverse) (r6 := (v :: [v0]).reverse) (r7 := r7) (i3 := i3) (K35 := K35) (f := f + 1 + 1) (a := j + d + 1) (e := j + d + 1 + nZ (σ j)) (c := K + d + 1) (m := 1) (st := [nI (F + d)]) hz (by omega) (by omega) (by omega) (by omega) (show 1 < 2 ^ 30 by decide) g6
      rw [if_pos (by omega)] at ht
      have hr := turn_r (t := t) (qr17 := qr17) (qr18 := qr18) (qr19 := qr19) (qr20 := qr20) (qr21 := qr21) (qr22 := qr22) (qr23 := qr23) (qr24 := qr24) (qr25 := qr25) (qr26 := qr26) (qr27 := qr27) (qr28 := q28) (qr29 := q29) (qr30 := q30) (qi31 := qi31) (qi35 := qi35) (qi36 := qi36) (ql4 := ql4) (ql5 := ql5) (ql6 := ql6) (ql7 := ql7) (qz1 := qz1) (K45 := K45) (f := f2 + 1) wf hN hD dk td tn hlt hK hjK hKj
      rw [if_pos hdone] at hr
      have h109 := typ_c (s := s) (z := z) (g := g) (nn := nn) (r4 := (nI (F + d) :: []).reverse) (r5 := (nI 0 :: []).reverse) (r6 := (v0 :: []).reverse) (r7 := r7) (i2 := 0) (i3 := i3) (v := v) (q29 := q29) (q30 := q30) hz wf hN hD dk cg cv rb hK hjK hdone hdj ea hv
      have h111 : m111 (nI (F + d)) (nI 0) (nI (tc (Ty σ δ D N j))) (ckC s z g nn ((nI (F + d) :: []).reverse) ((nI 0 :: []).reverse) ((v0 :: []).reverse) r7 0 i3) = some (nI (tc (dR (δ d))), (ckC s z g nn ((nI (F + d) :: []).reverse) ((nI 0 :: []).reverse) ((v0 :: []).reverse) r7 0 i3)) := by
        rw [m111_def hz (by omega) (by omega) c6 c7, c8]
      have htl := (tc_14 (dR (δ d)) (by omega)).2.2
      have h108 := m108_part (s := s) (z := z) (g := g) (nn := nn) (r7 := r7) (i3 := i3) (x := nI (pcnt (pr σ) j (K + 1))) (st := []) (qt := []) (lt := []) hz (by omega) (by decide) (by decide) (by decide) htl.1 hyl h109 h111
      have h197 := typ_r (t := t) (qr17 := qr17) (qr18 := qr18) (qr19 := qr19) (qr20 := qr20) (qr21 := qr21) (qr22 := qr22) (qr23 := qr23) (qr24 := qr24) (qr25 := qr25) (qr26 := qr26) (qr27 := qr27) (qi31 := qi31) (qi32 := nI D) (qi33 := nI N) (qi35 := qi35) (qi36 := qi36) (ql4 := ql4) (ql5 := ql5) (ql6 := ql6) (ql7 := ql7) (qz1 := qz1) wf hN hD dk td tn hlt rb lf hK hjK hdone
      have h200 := m200_root (t := t) (qr17 := qr17) (qr18 := qr18) (qr19 := qr19) (qr20 := qr20) (qr21 := qr21) (qr22 := qr22) (qr23 := qr23) (qr24 := qr24) (qr25 := qr25) (qr26 := qr26) (qr27 := qr27) (qr28 := q28.set j (nI (Ty σ δ D N j))) (qr29 := q29) (qr30 := q30) (qi31 := qi31) (qi32 := nI D) (qi33 := nI N) (qi34 := 0) (qi35 := qi35) (qi36 := qi36) (ql4 := ql4) (ql5 := ql5) (ql6 := ql6) (ql7 := ql7) (qz1 := qz1) (k := j) (y := Ty σ δ D N j) hjN (by omega) hD (by rw [hdj]; exact hd) hyl (by rw [hdj]; exact wr) hroot td tn h18 h24 h26
      have h196 := m196_eq (t := t) (qr17 := qr17) (qr18 := qr18) (qr19 := qr19) (qr20 := qr20) (qr21 := qr21) (qr22 := qr22) (qr23 := qr23) (qr24 := qr24) (qr25 := qr25) (qr26 := qr26) (qr27 := qr27) (qr28 := q28) (qr29 := q29) (qr30 := q30) (qi31 := qi31) (qi32 := nI D) (qi33 := nI N) (qi35 := qi35) (qi36 := qi36) (ql4 := ql4) (ql5 := ql5) (ql6 := ql6) (ql7 := ql7) (qz1 := qz1) (j := j) (by omega) lf.1 h197 h200
      have htn := (tn j hjN).2.2.1
      by_cases hT : Ty σ δ D N j = dR (δ d)
      · refine Or.inr (Or.inr ⟨r7, q28.set j (nI (Ty σ δ D N j)), ?_, ?_, by omega, ea.1, lf_root wf (by omega) hK hjK hroot lf ⟨fun _ => by rw [hdj]; exact hT, fun o ho => by omega⟩⟩)
        · refine ht.trans ?_
          have h113 := m113_def (s := s) (z := z) (g := g) (nn := nn) (r4 := (nI (F + d) :: []).reverse) (r5 := (nI 0 :: []).reverse) (r6 := (v0 :: []).reverse) (r7 := r7) (i2 := 0) (i3 := i3) (x := nI 0) (y := nI (tc (Ty σ δ D N j))) hz (show F + d < 2 ^ 30 by omega) c6
          rw [if_pos (Or.inr (by rw [hT])), m108_96_eq (s := s) (z := z) (g := g) (nn := nn) (r7 := r7) (i3 := i3) (r7' := r7) (qt := []) (lt := []) (st := []) (by decide) (by decide) h113] at h108
          have h108' : m108 (ckC s z g nn ((nI (j + d + 1) :: [nI (F + d)]).reverse) ((nI (pcnt (pr σ) j (K + 1)) :: pst σ j []).reverse) ((v :: [v0]).reverse) r7 0 i3) = some (ckC s z g nn ((nI (F + d) :: []).reverse) ((nI (0 + 1) :: []).reverse) ((nI (tc (Ty σ δ D N j)) :: []).reverse) r7 0 i3) := h108
          rw [h108', bs]
          have ht2 := turn_c (s := s) (z := z) (g := g) (nn := nn) (r5 := (nI (0 + 1) :: []).reverse) (r6 := (nI (tc (Ty σ δ D N j)) :: []).reverse) (r7 := r7) (i3 := i3) (K35 := K35) (f := f + 1) (a := F + d) (e := dE (δ d) + d + 1) (c := K + d + 1) (m := 0) (st := []) hz (by omega) (by omega) (by omega) (by omega) (by decide) c9
          rw [if_pos (by omega)] at ht2
          refine ht2.trans ?_
          have h8 := m108_def (s := s) (z := z) (g := g) (nn := nn) (r7 := r7) (i2 := 0) (i3 := i3) (a := F + d) (x := nI (0 + 1)) (v := nI (tc (Ty σ δ D N j))) hz (by omega) c6
          have h8' : m108 (ckC s z g nn ((nI (F + d) :: []).reverse) ((nI (0 + 1) :: []).reverse) ((nI (tc (Ty σ δ D N j)) :: []).reverse) r7 0 i3) = some (ckC s z g nn [] [] [] r7 0 i3) := h8
          rw [h8', bs, c69_s, if_pos (by decide)]
        · refine hr.trans ?_
          rw [h196, if_pos (by rw [hdj]; exact decide_eq_true hT), bs, tyR_r24, xsGet_d (by omega) (by omega), bs, htn, hroot, show pI (-1) = -1 from rfl, r67_s, if_pos (by decide)]
      · refine Or.inl ⟨j, [nI (F + d)], [nI 0], [v0], r7, q28.set j (nI (Ty σ δ D N j)), hjN, ?_, ?_, ea.1, by rw [List.length_set]; exact lf.1⟩
        · refine ht.trans ?_
          rw [if_neg (by
            rintro (q | q)
            · exact htl.2 q
            · rcases tc_inj _ hyl (dR (δ d)) (by omega) with q2 | q2
              · exact q2 q.symm
              · exact hT q2), g2] at h108
          have h108' : m108 (ckC s z g nn ((nI (j + d + 1) :: [nI (F + d)]).reverse) ((nI (pcnt (pr σ) j (K + 1)) :: pst σ j []).reverse) ((v :: [v0]).reverse) r7 0 i3) = some (ckC s z g nn ([nI (F + d)]) ([nI 0]) [v0] r7 6 (nL (σ j))) := h108
          rw [h108', bs, c69_out (by decide)]
        · refine hr.trans ?_
          rw [h196, if_neg (by rw [hdj, decide_eq_false hT]; exact ff), bs, tyR_r24, xsGet_d (by omega) (by omega), bs, r67_out (by decide)]
    · exact Or.inr (Or.inl (exit_go (s := s) (z := z) (g := g) (nn := nn) (r7 := r7) (i3 := i3) (t := t) (qr17 := qr17) (qr18 := qr18) (qr19 := qr19) (qr20 := qr20) (qr21 := qr21) (qr22 := qr22) (qr23 := qr23) (qr24 := qr24) (qr25 := qr25) (qr26 := qr26) (qr27 := qr27) (qi31 := qi31) (qi35 := qi35) (qi36 := qi36) (ql4 := ql4) (ql5 := ql5) (ql6 := ql6) (ql7 := ql7) (qz1 := qz1) (K35 := K35) (K45 := K45) hz wf hN hD dk td tn hlt cg cv rb hK hd hF hFK hKE hdn hcx hFj hjK hKj hin hls hv ea lf (by omega) (by omega) hdone))
  | cons o w ih =>
    intro j f f2 v l6 r7 q28 hcx hFj hjK hKj hin hls hv ea lf hf hf2
    by_cases hdone : j + nZ (σ j) = K + 1
    · rw [List.length_cons] at hf hf2
      obtain ⟨f, rfl⟩ : ∃ f', f = f' + 1 + 1 := ⟨f - 2, by omega⟩
      obtain ⟨f2, rfl⟩ : ∃ f', f2 = f' + 1 + 1 := ⟨f2 - 2, by omega⟩
      have hjN : j < N := by omega
      have ho : nP (σ j) = (o : Int) := hcx.1
      obtain ⟨u, l', rfl, hu, hls'⟩ := hls
      have hdj : nD (σ j) = d := hdn j hFj (by omega)
      obtain ⟨p1, p2, p3, p4, p5, p6⟩ := par3 wf hN hD dk hjN ho
      have hpi := par_in wf hjN ho
      have hFo : F ≤ o := by
        have hjF : ¬ j = F := fun q => by
          rw [q, rt.1] at ho
          omega
        have := rt.2.2.2.2 j (by omega) (by omega)
        omega
      have hwl := cx_len wf.1 w o (by omega) hcx.2
      obtain ⟨g1, g2, g3, g4, g5, g6⟩ := cg.1 j hjN
      rw [hdj] at g6 g2
      have hzj := (wf.2.2.1 j hjN (by simp)).2.2.1
      have hyl := Ty_lt wf dk hjN
      have hl1 : (ns d F w).length < 5000 := by rw [ns_len]; omega
      have hl2 : (pst σ o w).length < 5000 := by rw [pst_len]; omega
      have hl3 : l'.length < 5000 := by rw [ls_len w o l' hls']; omega
      have ht := turn_c (s := s) (z := z) (g := g) (nn := nn) (r5 := (nI (pcnt (pr σ) j (K + 1)) :: pst σ j (o :: w)).reverse) (r6 := (v :: u :: l').reverse) (r7 := r7) (i3 := i3) (K35 := K35) (f := f + 1) (a := j + d + 1) (e := j + d + 1 + nZ (σ j)) (c := K + d + 1) (m := w.length + 2) (st := ns d F (o :: w)) hz (by omega) (by omega) (by omega) (by omega) (by rw [ns_len, List.length_cons]; omega) g6
      rw [if_pos (by omega)] at ht
      have hr := turn_r (t := t) (qr17 := qr17) (qr18 := qr18) (qr19 := qr19) (qr20 := qr20) (qr21 := qr21) (qr22 := qr22) (qr23 := qr23) (qr24 := qr24) (qr25 := qr25) (qr26 := qr26) (qr27 := qr27) (qr28 := q28) (qr29 := q29) (qr30 := q30) (qi31 := qi31) (qi35 := qi35) (qi36 := qi36) (ql4 := ql4) (ql5 := ql5) (ql6 := ql6) (ql7 := ql7) (qz1 := qz1) (K45 := K45) (f := f2 + 1) wf hN hD dk td tn hlt hK hjK hKj
      rw [if_pos hdone] at hr
      have h109 := typ_c (s := s) (z := z) (g := g) (nn := nn) (r4 := (nI (o + d + 1) :: ns d F w).reverse) (r5 := (nI (pq σ j) :: pst σ o w).reverse) (r6 := (u :: l').reverse) (r7 := r7) (i2 := 0) (i3 := i3) (v := v) (q29 := q29) (q30 := q30) hz wf hN hD dk cg cv rb hK hjK hdone hdj ea hv
      have h111 := due_c (s := s) (z := z) (g := g) (nn := nn) (r4 := (nI (o + d + 1) :: ns d F w).reverse) (r5 := (nI (pq σ j) :: pst σ o w).reverse) (r6 := (u :: l').reverse) (r7 := r7) (i2 := 0) (i3 := i3) (q29 := q29) (q30 := q30) hz wf hN hD dk cg cv rb hK hjK ho hdj (fun p a1 a2 a3 => by rw [xsTop_r (by omega)]; exact hu p a1 a2 a3)
      have hdl : due (nK (σ o)) (pq σ j) (Ty σ δ D N j) (ptf σ δ D o (pq σ j)) (lt1 σ δ D N o) < 100 := by
        have t1 := (tc_14 (ptf σ δ D o (pq σ j)) (by unfold ptf; omega)).2.2.1
        have t2 := (tc_14 (lt1 σ δ D N o) (by unfold lt1; omega)).2.2.1
        unfold due
        repeat' split
        all_goals omega
      have h108 := m108_part (s := s) (z := z) (g := g) (nn := nn) (r7 := r7) (i3 := i3) (x := nI (pcnt (pr σ) j (K + 1))) (st := ns d F w) (qt := pst σ o w) (lt := l') hz (by omega) hl1 hl2 hl3 hdl hyl h109 h111
      have h197 := typ_r (t := t) (qr17 := qr17) (qr18 := qr18) (qr19 := qr19) (qr20 := qr20) (qr21 := qr21) (qr22 := qr22) (qr23 := qr23) (qr24 := qr24) (qr25 := qr25) (qr26 := qr26) (qr27 := qr27) (qi31 := qi31) (qi32 := nI D) (qi33 := nI N) (qi35 := qi35) (qi36 := qi36) (ql4 := ql4) (ql5 := ql5) (ql6 := ql6) (ql7 := ql7) (qz1 := qz1) wf hN hD dk td tn hlt rb lf hK hjK hdone
      have h200 := std_r (t := t) (qr17 := qr17) (qr18 := qr18) (qr19 := qr19) (qr20 := qr20) (qr21 := qr21) (qr22 := qr22) (qr23 := qr23) (qr24 := qr24) (qr25 := qr25) (qr26 := qr26) (qr27 := qr27) (qi31 := qi31) (qi32 := nI D) (qi33 := nI N) (qi35 := qi35) (qi36 := qi36) (ql4 := ql4) (ql5 := ql5) (ql6 := ql6) (ql7 := ql7) (qz1 := qz1) wf hN hD dk td tn hlt rb lf hK hjK ho
      have h196 := m196_eq (t := t) (qr17 := qr17) (qr18 := qr18) (qr19 := qr19) (qr20 := qr20) (qr21 := qr21) (qr22 := qr22) (qr23 := qr23) (qr24 := qr24) (qr25 := qr25) (qr26 := qr26) (qr27 := qr27) (qr28 := q28) (qr29 := q29) (qr30 := q30) (qi31 := qi31) (qi32 := nI D) (qi33 := nI N) (qi35 := qi35) (qi36 := qi36) (ql4 := ql4) (ql5 := ql5) (ql6 := ql6) (ql7 := ql7) (qz1 := qz1) (j := j) (by omega) lf.1 h197 h200
      have htn := (tn j hjN).2.2.1
      have hdue := due_ok (r := nK (σ o)) (i := pq σ j) (y := Ty σ δ D N j) (pt := ptf σ δ D o (pq σ j)) (l := lt1 σ δ D N o) (by omega) p3 (by
        cases q : kc (nK (σ o))
        · exact Or.inl (p6 q).2
        · exact Or.inr rfl) hyl (by unfold ptf; omega) (by unfold lt1; omega)
      by_cases hT : cst (nK (σ o)) (pq σ j) (Ty σ δ D N j) (ptf σ δ D o (pq σ j)) (lt1 σ δ D N o) = true
      · obtain ⟨r7', b1, b2⟩ := bind_c (s := s) (z := z) (g := g) (nn := nn) (r4 := (nI (o + d + 1) :: ns d F w).reverse) (r5 := (nI (pq σ j) :: pst σ o w).reverse) (r6 := (u :: l').reverse) (r7 := r7) (i2 := 0) (i3 := i3) hz wf hN hD dk cg hK hjK hdone ho hdj ea hT
        have hcnt : pcnt (pr σ) o (K + 1) = pq σ j + 1 := by rw [← hdone, (kid_next wf hjN ho).1, pq_eq ho]
        have hgoal := ih o (f + 1) (f2 + 1) (nI (tc (Ty σ δ D N j))) l' r7' (q28.set j (nI (Ty σ δ D N j))) hcx.2 hFo (by omega) (by omega) (fun q h1 h2 => by
          by_cases c1 : q = j
          · rw [c1]; omega
          · by_cases c2 : j < q
            · exact hin q c2 h2
            · obtain ⟨a1, a2, a3, a4, a5, -⟩ := wf.2.2.1 q (by omega) (by simp)
              by_cases c3 : q + nZ (σ q) ≤ j
              · omega
              · exfalso
                have h4 := a4 j (by omega) (by omega)
                have h5 : pr σ j = (o : Int) := ho
                omega) hls' (fun p a1 a2 a3 => by
          have e1 := (po_pq wf a1 a2).1
          have e2 := (po_pq wf hjN ho).1
          have e3 : pq σ p = pq σ j := by omega
          rw [e3] at e1
          rw [← e1, e2]) b2 (lf_up wf (by omega) hK hjK ho lf ⟨fun q => by omega, fun o' ho' => by
          have e : o' = o := by omega
          rw [e]
          exact hT⟩) (by omega) (by omega)
        rw [if_pos (hdue.mpr hT), m108_96_eq (s := s) (z := z) (g := g) (nn := nn) (r7 := r7) (i3 := i3) hl2 hl3 b1] at h108
        have ec : m100_69 K35 (f + 1 + 1) (nI (K + d + 1)) (nI ((o :: w).length + 2)) (ckC s z g nn ((ns d F (j :: o :: w)).reverse) ((nI (pcnt (pr σ) j (K + 1)) :: pst σ j (o :: w)).reverse) ((v :: u :: l').reverse) r7 0 i3) = m100_69 K35 (f + 1) (nI (K + d + 1)) (nI (w.length + 2)) (ckC s z g nn ((ns d F (o :: w)).reverse) ((nI (pcnt (pr σ) o (K + 1)) :: pst σ o w).reverse) ((nI (tc (Ty σ δ D N j)) :: l').reverse) r7' 0 i3) := by
          have h108' : m108 (ckC s z g nn ((nI (j + d + 1) :: ns d F (o :: w)).reverse) ((nI (pcnt (pr σ) j (K + 1)) :: pst σ j (o :: w)).reverse) ((v :: u :: l').reverse) r7 0 i3) = some (ckC s z g nn ((nI (o + d + 1) :: ns d F w).reverse) ((nI (pq σ j + 1) :: pst σ o w).reverse) ((nI (tc (Ty σ δ D N j)) :: l').reverse) r7' 0 i3) := h108
          refine ht.trans ?_
          rw [h108', bs, hcnt]
          rfl
        have er : m187_67 K45 (f2 + 1 + 1) (nI K) (nI j) (tyR t qr17 qr18 qr19 qr20 qr21 qr22 qr23 qr24 qr25 qr26 qr27 q28 q29 q30 qi31 (nI D) (nI N) 0 qi35 qi36 ql4 ql5 ql6 ql7 qz1) = m187_67 K45 (f2 + 1) (nI K) (nI o) (tyR t qr17 qr18 qr19 qr20 qr21 qr22 qr23 qr24 qr25 qr26 qr27 (q28.set j (nI (Ty σ δ D N j))) q29 q30 qi31 (nI D) (nI N) 0 qi35 qi36 ql4 ql5 ql6 ql7 qz1) := by
          refine hr.trans ?_
          rw [h196, if_pos hT, bs, tyR_r24, xsGet_d (by omega) (by omega), bs, htn, ho, pI_k]
        rcases hgoal with ⟨j', a4, a5, a6, a7, q, x1, x2, x3, x4, x5⟩ | ⟨w', l'', a7, q, x1, x2, x3⟩ | ⟨a7, q, x1, x2, x3⟩
        · exact Or.inl ⟨j', a4, a5, a6, a7, q, x1, ec.trans x2, er.trans x3, x4, x5⟩
        · exact Or.inr (Or.inl ⟨w', l'', a7, q, ec.trans x1, er.trans x2, x3⟩)
        · exact Or.inr (Or.inr ⟨a7, q, ec.trans x1, er.trans x2, x3⟩)
      · refine Or.inl ⟨j, (nI (o + d + 1) :: ns d F w).reverse, (nI (pq σ j) :: pst σ o w).reverse, (u :: l').reverse, r7, q28.set j (nI (Ty σ δ D N j)), hjN, ?_, ?_, ea.1, by rw [List.length_set]; exact lf.1⟩
        · rw [if_neg (fun q => hT (hdue.mp q)), g2] at h108
          have h108' : m108 (ckC s z g nn ((nI (j + d + 1) :: ns d F (o :: w)).reverse) ((nI (pcnt (pr σ) j (K + 1)) :: pst σ j (o :: w)).reverse) ((v :: u :: l').reverse) r7 0 i3) = some (ckC s z g nn ((nI (o + d + 1) :: ns d F w).reverse) ((nI (pq σ j) :: pst σ o w).reverse) ((u :: l').reverse) r7 6 (nL (σ j))) := h108
          refine ht.trans ?_
          rw [h108', bs, c69_out (by decide)]
        · refine hr.trans ?_
          rw [h196, if_neg hT, bs, tyR_r24, xsGet_d (by omega) (by omega), bs, r67_out (by decide)]
    · exact Or.inr (Or.inl (exit_go (s := s) (z := z) (g := g) (nn := nn) (r7 := r7) (i3 := i3) (t := t) (qr17 := qr17) (qr18 := qr18) (qr19 := qr19) (qr20 := qr20) (qr21 := qr21) (qr22 := qr22) (qr23 := qr23) (qr24 := qr24) (qr25 := qr25) (qr26 := qr26) (qr27 := qr27) (qi31 := qi31) (qi35 := qi35) (qi36 := qi36) (ql4 := ql4) (ql5 := ql5) (ql6 := ql6) (ql7 := ql7) (qz1 := qz1) (K35 := K35) (K45 := K45) hz wf hN hD dk td tn hlt cg cv rb hK hd hF hFK hKE hdn hcx hFj hjK hKj hin hls hv ea lf (by omega) (by omega) hdone))
end CkS
