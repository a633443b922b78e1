/-! a value has come -/
section SimV
variable {σ : xG} {s t : xSt} {n0 n τ k i : Nat} {w : List (Nat × Nat × Nat)} {ns ps vs os Sl Hd Tl hds tls hd vars wn wp wb ops : List Int32} {cb rb cl md L LR st F X : Nat} {rbI v r : Int32}
/-- what a node with its end here does next: a part of it -/
theorem v_tail (hP : SP σ) (hn0 : n0 ≤ 64) (hE : IHE σ s t n0 n) (hh : HRel cl md hd Hd Tl hds tls) (ha : ARel ((k, i, rb) :: w) (r :: os) vars wn wp wb ops) (hn : NRel σ n0 ((k, i, rb) :: w) ns ps (v :: vs) (r :: os) Sl cl md L LR st (if τ = 1 then 0 else 1)) (h1 : 4 * (6001 - st) + 2 * ((k, i, rb) :: w).length + 1 < n + 1) (h2 : 2 * (4 * (6001 - st) + 2 * ((k, i, rb) :: w).length + 1) < F) (h3 : X + 2 * (4 * (6001 - st) + 2 * ((k, i, rb) :: w).length + 1) < 1000000) {j L2 LR2 : Nat} {ns' ps' Sl2 vars2 : List Int32} (hns : ns ≠ [])
    (hc : m121 (cS s ns.reverse ps.reverse (v :: vs).reverse Sl Hd Tl (nI cb) (-1) (nI st)) = some (cS s ns'.reverse ps'.reverse vs.reverse Sl2 Hd Tl (nI cb) (nI (yf σ j)) (nI st)))
    (hr : m219 (nI k) (nI i) (rS t hds tls hd vars wn wp wb ops (nI cl) (nI md) (nI rb) (nI w.length) (nI (os.length + 1)) (nI st) (-1)) = some (rS t hds tls hd vars2 wn wp wb ops (nI cl) (nI md) (nI rb) (nI w.length) (nI os.length) (nI st) (nI j)))
    (hF : FocE σ j w ns' ps' vs os Sl2 hd vars2 cb rb cl md L2 LR2) (hv2 : vars2.length = 290000) (hl1 : Sl2.length ≤ st + 1) (hl2 : kS σ w + L2 + vs.length ≤ st + 1) (hl3 : LR2 ≤ 24 * w.length + 24) (hl4 : L2 ≤ Sl2.length) (hl5 : ns'.length ≤ w.length) (hl6 : ps'.length = ns'.length) :
    GoalR s t n0 (n + 1) F X (cS s ns.reverse ps.reverse (v :: vs).reverse Sl Hd Tl (nI cb) (-1) (nI st)) (rS t hds tls hd vars wn wp wb ops (nI cl) (nI md) rbI (nI ((k, i, rb) :: w).length) (nI (r :: os).length) (nI st) (-1)) := by
  obtain ⟨⟨a1, a2, a3, g1⟩, ⟨o1, g2⟩, g3, g4, g5, g6, g7⟩ := ha
  obtain ⟨q1, q2, q3, q4, q5, q6, q7, q8, q9, q10, q11, q12⟩ := hn
  rw [List.length_cons] at h1 h2 h3 q6 q7 q10
  have q2' : 3 * cl + ((if yk σ k = 13 then 1 + i else 1) + wS σ w) + (if τ = 1 then 0 else 1) ≤ st + 3 * n0 := q2
  obtain ⟨F, rfl⟩ : ∃ G, F = G + 1 := ⟨F - 1, by omega⟩
  have cg := cl_go (s := s) (N := ns.reverse) (P := ps.reverse) (V := (v :: vs).reverse) (Sl := Sl) (Hd := Hd) (Tl := Tl) (b := nI cb) (F := F) (X := X) (st := st) (by omega) q12 (by rw [List.length_reverse]; omega) (by simpa using hns)
  rw [hc] at cg
  have rg := rl_go (t := t) (hds := hds) (tls := tls) (hd := hd) (vars := vars) (wn := wn) (wp := wp) (wb := wb) (ops := ops) (cl := nI cl) (md := nI md) (rb := rbI) (om := nI (os.length + 1)) (n := n) (W := w.length) (c := st) (by omega) q12 g4 g5 g6 a1 a2 a3
  rw [hr] at rg
  rw [List.length_cons, List.length_cons]
  refine go_c cg (go_r rg ?_)
  refine hE j w ns' ps' vs os Sl2 Hd Tl hds tls hd vars2 wn wp wb ops cb rb cl md L2 LR2 st F (X + 1) hF hh ⟨g1, g2, hv2, g4, g5, g6, g7⟩ ⟨q1, by omega, hl2, hl1, hl4, by omega, hl5, hl6, ?_, by omega, hl3, q12⟩ (by omega) (by omega) (by omega)
  rw [List.length_cons, List.length_cons] at q9
  omega
/-- a modifiable, or what is written -/
theorem v_mod (hP : SP σ) (hR : SR σ t) (hn0 : n0 ≤ 64) (hV : IHV σ s t n0 n) (hh : HRel cl md hd Hd Tl hds tls) (ha : ARel ((k, i, rb) :: w) (r :: os) vars wn wp wb ops) (hn : NRel σ n0 ((k, i, rb) :: w) ns ps (v :: vs) (r :: os) Sl cl md L LR st (if τ = 1 then 0 else 1)) (h1 : 4 * (6001 - st) + 2 * ((k, i, rb) :: w).length + 1 < n + 1) (h2 : 2 * (4 * (6001 - st) + 2 * ((k, i, rb) :: w).length + 1) < F) (h3 : X + 2 * (4 * (6001 - st) + 2 * ((k, i, rb) :: w).length + 1) < 1000000) (hv : vr cl md hd τ v r) (hk : k < yN σ) {L2 LR2 : Nat} (hL : L2 ≤ L) (hLR : LR2 ≤ 24 * w.length + 24) (hm : yMod σ k) (hi : i = 0) (hτ : τ = yt σ (yo σ k 0)) (hS : Stk σ cl md hd Sl vars w ns ps cb L2 LR2 vs os (yt σ k)) (hl5 : ns.length ≤ w.length) :
    GoalR s t n0 (n + 1) F X (cS s ns.reverse ps.reverse (v :: vs).reverse Sl Hd Tl (nI cb) (-1) (nI st)) (rS t hds tls hd vars wn wp wb ops (nI cl) (nI md) rbI (nI ((k, i, rb) :: w).length) (nI (r :: os).length) (nI st) (-1)) := by
  obtain ⟨⟨a1, a2, a3, g1⟩, ⟨o1, g2⟩, g3, g4, g5, g6, g7⟩ := ha
  obtain ⟨q1, q2, q3, q4, q5, q6, q7, q8, q9, q10, q11, q12⟩ := hn
  rw [List.length_cons] at h1 h2 h3 q6 q7 q10
  have q2' : 3 * cl + ((if yk σ k = 13 then 1 + i else 1) + wS σ w) + (if τ = 1 then 0 else 1) ≤ st + 3 * n0 := q2
  have q3' : (if yk σ k = 12 ∨ yk σ k = 22 then 1 else 0) + kS σ w + L + (v :: vs).length ≤ st + 1 := q3
  rw [List.length_cons] at q3'
  rw [List.length_cons, List.length_cons] at q9
  subst hi
  have h13 : yk σ k ≠ 13 := by rcases hm with h | h | h <;> omega
  rw [if_neg h13] at q2'
  have rg := rl_go (t := t) (hds := hds) (tls := tls) (hd := hd) (vars := vars) (wn := wn) (wp := wp) (wb := wb) (ops := ops) (cl := nI cl) (md := nI md) (rb := rbI) (om := nI (os.length + 1)) (n := n) (W := w.length) (c := st) (by omega) q12 g4 g5 g6 a1 a2 a3
  rw [List.length_cons, List.length_cons]
  by_cases h19 : yk σ k = 19
  · rw [rp_wr hP hR hk h19 (rS t hds tls hd vars wn wp wb ops (nI cl) (nI md) (nI rb) (nI w.length) (nI (os.length + 1)) (nI st) (-1)) rfl] at rg
    refine go_r rg ?_
    have ht := ((hP.1 k hk).2.2.2.2.2.2.2.2.2.2.2.2.2 h19).2.1
    have e := hV τ w ns ps (v :: vs) (r :: os) Sl Hd Tl hds tls hd vars wn wp wb ops cb cl md L2 LR2 st F X (nI rb) ⟨v, r, vs, os, rfl, rfl, hv, by rw [hτ, ht]; exact hS⟩ hh ⟨g1, ⟨o1, g2⟩, g3, g4, g5, g6, g7⟩ ⟨q1, by omega, by rw [List.length_cons]; omega, q4, by omega, by omega, hl5, q8, by rw [List.length_cons, List.length_cons]; omega, by omega, hLR, q12⟩ (by omega) (by omega) (by omega)
    rw [List.length_cons] at e
    exact e
  · have h67 : yk σ k = 16 ∨ yk σ k = 17 := by
      rcases hm with h | h | h
      · exact Or.inl h
      · exact Or.inr h
      · exact absurd h h19
    rw [rp_mod hP hR hk h67 (by omega) hh.2.2.2.2.1 (by omega) g7, o1] at rg
    refine go_r rg ?_
    have hd1 : ∀ m, m ≤ md → (hd.set (md + 1) r).getD m 0 = hd.getD m 0 := fun m hm => by rw [getD_set_n, if_neg (by omega)]
    have hd2 : (hd.set (md + 1) r).getD (md + 1) 0 = r := by rw [getD_setn (by rw [hh.2.2.2.2.1]; omega), if_pos rfl]
    have hv2 : vr cl (md + 1) (hd.set (md + 1) r) (yt σ k) v (nI (md + 1)) ∧ yt σ k ≠ 1 := by
      rcases h67 with h | h
      · have ht := (hP.1 k hk).2.2.2.2.2.2.2.2.2.2.1 h
        rw [ht.2.1]
        rw [hτ, ht.2.2.1] at hv
        refine ⟨?_, by decide⟩
        unfold vr at *
        rw [if_neg (by decide), if_neg (by decide), if_pos rfl]
        rw [if_pos rfl] at hv
        exact ⟨md + 1, Nat.le_refl _, rfl, by rw [hd2]; exact hv⟩
      · have ht := (hP.1 k hk).2.2.2.2.2.2.2.2.2.2.2.1 h
        rw [ht.2.1]
        rw [hτ, ht.2.2.1] at hv
        refine ⟨?_, by decide⟩
        unfold vr at *
        rw [if_neg (by decide), if_neg (by decide), if_neg (by decide)]
        rw [if_neg (by decide), if_pos rfl] at hv
        obtain ⟨a, v1, v2, v3⟩ := hv
        exact ⟨md + 1, a, Nat.le_refl _, v1, rfl, by rw [hd2]; exact v3, v2⟩
    have hh2 : HRel cl (md + 1) (hd.set (md + 1) r) Hd Tl hds tls := by
      obtain ⟨b1, b2, b3, b4, b5, b6⟩ := hh
      refine ⟨b1, b2, b3, b4, by rw [List.length_set]; exact b5, fun a ha1 ha2 => ?_⟩
      obtain ⟨c1, m, a', c2, c3, c4, c5, c6⟩ := b6 a ha1 ha2
      exact ⟨c1, m, a', by omega, c3, c4, by rw [hd1 m c2]; exact c5, c6⟩
    have e := hV (yt σ k) w ns ps (v :: vs) (nI (md + 1) :: os) Sl Hd Tl hds tls (hd.set (md + 1) r) vars wn wp wb (ops.set os.length (nI (md + 1))) cb cl (md + 1) L2 LR2 st F X (nI rb) ⟨v, nI (md + 1), vs, os, rfl, rfl, hv2.1, stk_mono (Nat.le_refl _) (Nat.le_succ _) hd1 hS (Nat.le_refl _) (Nat.le_refl _) (fun _ _ => rfl) (fun _ _ => rfl)⟩ hh2 ⟨g1, oat_push g2 (by omega), g3, g4, g5, g6, by rw [List.length_set]; exact g7⟩ ⟨q1, by rw [if_neg hv2.2]; omega, by rw [List.length_cons]; omega, q4, by omega, by omega, hl5, q8, by rw [List.length_cons, List.length_cons]; omega, by omega, hLR, q12⟩ (by omega) (by omega) (by omega)
    rw [List.length_cons] at e
    exact e
end SimV
