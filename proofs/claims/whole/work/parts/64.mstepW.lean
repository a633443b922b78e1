/-! the ways that a value goes -/
section SimW
variable {σ : xG} {s t : xSt} {n0 n τ k i : Nat} {w : List (Nat × Nat × Nat)} {ns ps vs os Sl Hd Tl hds tls hd vars wn wp wb ops : List Int32} {cb rb cl md L LR st F X : Nat} {rbI v r pt : Int32}
theorem v_ret (hP : SP σ) (hC : SC σ s (gZ s 6)) (hR : SR σ t) (hn0 : n0 ≤ 64) (hE : IHE σ s t n0 n) (hV : IHV σ s t n0 n) (hh : HRel cl md hd Hd Tl hds tls) (ha : ARel ((k, i, rb) :: w) (r :: os) vars wn wp wb ops) (hn : NRel σ n0 ((k, i, rb) :: w) (nI (yf σ k) :: ns) (pt :: ps) (v :: vs) (r :: os) Sl cl md L LR st (if τ = 1 then 0 else 1)) (h1 : 4 * (6001 - st) + 2 * ((k, i, rb) :: w).length + 1 < n + 1) (h2 : 2 * (4 * (6001 - st) + 2 * ((k, i, rb) :: w).length + 1) < F) (h3 : X + 2 * (4 * (6001 - st) + 2 * ((k, i, rb) :: w).length + 1) < 1000000) (hv : vr cl md hd τ v r) (hk : k < yN σ) (hrb : rb ≤ 24 * w.length) {cb' L2 LR2 : Nat} (hc : yCall σ k) (hi : i = yn σ k) (hcb : cb = cb' + (ye σ k).length) (hτ : τ = yt σ k) (hpt : pt = -1) (hL : L2 ≤ L) (hLR : LR2 ≤ 24 * w.length + 24) (hS : Stk σ cl md hd Sl vars w ns ps cb' L2 LR2 vs os (yt σ k)) : GoalR s t n0 (n + 1) F X (cS s (nI (yf σ k) :: ns).reverse (pt :: ps).reverse (v :: vs).reverse Sl Hd Tl (nI cb) (-1) (nI st)) (rS t hds tls hd vars wn wp wb ops (nI cl) (nI md) rbI (nI ((k, i, rb) :: w).length) (nI (r :: os).length) (nI st) (-1)) := by
  have ha' := ha
  have hn' := hn
  obtain ⟨⟨a1, a2, a3, g1⟩, ⟨o1, g2⟩, g3, g4, g5, g6, g7⟩ := ha'
  obtain ⟨q1, q2, q3, q4, q5, q6, q7, q8, q9, q10, q11, q12⟩ := hn'
  have h1' := h1
  have h2' := h2
  have h3' := h3
  rw [List.length_cons] at h1' h2' h3' q6 q10
  rw [List.length_cons, List.length_cons] at q7 q8 q9
  have q2' : 3 * cl + ((if yk σ k = 13 then 1 + i else 1) + wS σ w) + (if τ = 1 then 0 else 1) ≤ st + 3 * n0 := q2
  have q3' : (if yk σ k = 12 ∨ yk σ k = 22 then 1 else 0) + kS σ w + L + (v :: vs).length ≤ st + 1 := q3
  rw [List.length_cons] at q3'
  have hyf := yf_lt hP hk
  have hN := hP.2.2.2.2.2.1
  have hs := hP.1 k hk
  have h24 := hs.1.2.2.2.1
  have hz := hP.2.2.2.2.2.2.2 k hk
  have hck2 : ck (yk σ k) < 100 := by
    rcases ck_lt (yk σ k) with h | h
    · exact h
    · have := hs.1.1
      omega
  have hkd := sc_kind hP hC hk
  obtain ⟨F, rfl⟩ : ∃ G, F = G + 1 := ⟨F - 1, by omega⟩
  have cg := cl_go (s := s) (N := (nI (yf σ k) :: ns).reverse) (P := (pt :: ps).reverse) (V := (v :: vs).reverse) (Sl := Sl) (Hd := Hd) (Tl := Tl) (b := nI cb) (F := F) (X := X) (st := st) (by omega) q12 (by rw [List.length_reverse, List.length_cons]; omega) (by simp)
  have rg := rl_go (t := t) (hds := hds) (tls := tls) (hd := hd) (vars := vars) (wn := wn) (wp := wp) (wb := wb) (ops := ops) (cl := nI cl) (md := nI md) (rb := rbI) (om := nI (os.length + 1)) (n := n) (W := w.length) (c := st) (by omega) q12 g4 g5 g6 a1 a2 a3
  have hck : ck (yk σ k) = 12 ∨ ck (yk σ k) = 13 ∨ ck (yk σ k) = 18 := by
    rcases hc with c | c | c <;> rw [c] <;> decide
  subst hi hpt hcb
  rw [mc121 (by omega) (by omega) (by omega) hck2 hkd, if_neg (by omega), if_neg (by omega), if_pos rfl, sc_dep hP hC hk, nI_subI (by omega), Nat.add_sub_cancel] at cg
  rw [rp_ret hP hR hk hc (rS t hds tls hd vars wn wp wb ops (nI cl) (nI md) (nI rb) (nI w.length) (nI (os.length + 1)) (nI st) (-1)) rfl rfl] at rg
  rw [List.length_cons, List.length_cons]
  refine go_c cg (go_r rg ?_)
  have h13 : yk σ k ≠ 13 := by rcases hc with h | h | h <;> omega
  rw [if_neg h13] at q2'
  have e := hV τ w ns ps (v :: vs) (r :: os) Sl Hd Tl hds tls hd vars wn wp wb ops cb' cl md L2 LR2 st F (X + 1) (nI rb) ⟨v, r, vs, os, rfl, rfl, hv, by rw [hτ]; exact hS⟩ hh ⟨g1, ⟨o1, g2⟩, g3, g4, g5, g6, g7⟩ ⟨q1, by omega, by rw [List.length_cons]; omega, q4, by omega, by omega, by omega, by omega, by rw [List.length_cons, List.length_cons]; omega, by omega, hLR, q12⟩ (by omega) (by omega) (by omega)
  rw [List.length_cons] at e
  exact e
theorem v_next (hP : SP σ) (hC : SC σ s (gZ s 6)) (hR : SR σ t) (hn0 : n0 ≤ 64) (hE : IHE σ s t n0 n) (hV : IHV σ s t n0 n) (hh : HRel cl md hd Hd Tl hds tls) (ha : ARel ((k, i, rb) :: w) (r :: os) vars wn wp wb ops) (hn : NRel σ n0 ((k, i, rb) :: w) (nI (yf σ k) :: ns) (pt :: ps) (v :: vs) (r :: os) Sl cl md L LR st (if τ = 1 then 0 else 1)) (h1 : 4 * (6001 - st) + 2 * ((k, i, rb) :: w).length + 1 < n + 1) (h2 : 2 * (4 * (6001 - st) + 2 * ((k, i, rb) :: w).length + 1) < F) (h3 : X + 2 * (4 * (6001 - st) + 2 * ((k, i, rb) :: w).length + 1) < 1000000) (hv : vr cl md hd τ v r) (hk : k < yN σ) (hrb : rb ≤ 24 * w.length) (hc : yCol σ k) (hi : i + 1 < yn σ k) (hτ : τ = yt σ (yo σ k i)) (hpt : pt = nI (yf σ k + (yo σ k (i + 1) - k))) (he : ev cl md hd Sl vars cb rb (ye σ k)) (hL : cb + (ye σ k).length ≤ L) {vs' os' : List Int32} (ho : opr cl md hd (fun j => yt σ (yo σ k j)) i vs os vs' os') (hS : Stk σ cl md hd Sl vars w ns ps cb (cb + (ye σ k).length) (rb + (ye σ k).length) vs' os' (yt σ k)) : GoalR s t n0 (n + 1) F X (cS s (nI (yf σ k) :: ns).reverse (pt :: ps).reverse (v :: vs).reverse Sl Hd Tl (nI cb) (-1) (nI st)) (rS t hds tls hd vars wn wp wb ops (nI cl) (nI md) rbI (nI ((k, i, rb) :: w).length) (nI (r :: os).length) (nI st) (-1)) := by
  have ha' := ha
  have hn' := hn
  obtain ⟨⟨a1, a2, a3, g1⟩, ⟨o1, g2⟩, g3, g4, g5, g6, g7⟩ := ha'
  obtain ⟨q1, q2, q3, q4, q5, q6, q7, q8, q9, q10, q11, q12⟩ := hn'
  have h1' := h1
  have h2' := h2
  have h3' := h3
  rw [List.length_cons] at h1' h2' h3' q6 q10
  rw [List.length_cons, List.length_cons] at q7 q8 q9
  have q2' : 3 * cl + ((if yk σ k = 13 then 1 + i else 1) + wS σ w) + (if τ = 1 then 0 else 1) ≤ st + 3 * n0 := q2
  have q3' : (if yk σ k = 12 ∨ yk σ k = 22 then 1 else 0) + kS σ w + L + (v :: vs).length ≤ st + 1 := q3
  rw [List.length_cons] at q3'
  have hyf := yf_lt hP hk
  have hN := hP.2.2.2.2.2.1
  have hs := hP.1 k hk
  have h24 := hs.1.2.2.2.1
  have hz := hP.2.2.2.2.2.2.2 k hk
  have hck2 : ck (yk σ k) < 100 := by
    rcases ck_lt (yk σ k) with h | h
    · exact h
    · have := hs.1.1
      omega
  have hkd := sc_kind hP hC hk
  obtain ⟨F, rfl⟩ : ∃ G, F = G + 1 := ⟨F - 1, by omega⟩
  have cg := cl_go (s := s) (N := (nI (yf σ k) :: ns).reverse) (P := (pt :: ps).reverse) (V := (v :: vs).reverse) (Sl := Sl) (Hd := Hd) (Tl := Tl) (b := nI cb) (F := F) (X := X) (st := st) (by omega) q12 (by rw [List.length_reverse, List.length_cons]; omega) (by simp)
  have rg := rl_go (t := t) (hds := hds) (tls := tls) (hd := hd) (vars := vars) (wn := wn) (wp := wp) (wb := wb) (ops := ops) (cl := nI cl) (md := nI md) (rb := rbI) (om := nI (os.length + 1)) (n := n) (W := w.length) (c := st) (by omega) q12 g4 g5 g6 a1 a2 a3
  have hcc := ck_col hc
  have hp := yf_part hP hk hi
  have hj := (hs.1.2.2.2.2 (i + 1) hi).1
  have hj2 := yo_ge hP hk (i + 1) (by omega)
  have hyj := yf_lt hP hj
  have hzj := hP.2.2.2.2.2.2.2 _ hj
  have hen := sc_end hP hC hj
  have hlast : yo σ k (i + 1) < k + yz σ k := by
    have e1 := hs.1.2.2.1
    have e2 : ∀ m, i + 1 < m → m ≤ yn σ k → yo σ k (i + 1) < yo σ k m := by
      intro m
      induction m with
      | zero => intro h; omega
      | succ m ih =>
        intro a b
        have z1 := (hP.1 _ (hs.1.2.2.2.2 m (by omega)).1).1.2.1
        show yo σ k (i + 1) < yo σ k m + yz σ (yo σ k m)
        by_cases z : i + 1 = m
        · rw [z]; omega
        · have := ih (by omega) (by omega)
          omega
    have := e2 (yn σ k) hi (Nat.le_refl _)
    omega
  subst hpt
  rw [← hp] at cg
  rw [mc121 (by omega) (by omega) (by omega) hck2 hkd, if_neg (by omega), if_neg (by omega), if_neg (by rw [nI_ne1 (by omega)]; exact id), sc_end hP hC hk, if_neg (by rw [leN (by omega) (by omega)]; omega), hen] at cg
  rw [rp_next hP hR hk hc hi (by omega) g4 g5 g6] at rg
  rw [List.length_cons, List.length_cons, ← hp]
  refine go_c cg (go_r rg ?_)
  have hye := ye_part hP hk hc hi
  have hwp := wat_push (k := k) (i := i + 1) (rb := rb) g1 (by omega) (by omega) (by omega)
  have e := hE (yo σ k (i + 1)) ((k, i + 1, rb) :: w) (nI (yf σ k) :: ns) (nI (yf σ k + (yo σ k (i + 1 + 1) - k)) :: ps) (v :: vs) (r :: os) Sl Hd Tl hds tls hd vars (wn.set w.length (nI k)) (wp.set w.length (nI (i + 1))) (wb.set w.length (nI rb)) ops cb rb cl md (cb + (ye σ k).length) (rb + (ye σ k).length) st F (X + 1) ⟨hj, by rw [List.length_cons]; omega, by rw [hye]; exact he, by rw [hye], by rw [hye], ⟨hk, hrb⟩, cb, he, Nat.le_refl _, Nat.le_refl _, Or.inr ⟨ns, ps, rfl, Or.inr (Or.inl ⟨hc, hi, rfl, rfl, rfl, vs', os', ⟨v, r, vs, os, rfl, rfl, by show vr cl md hd (yt σ (yo σ k i)) v r; rw [← hτ]; exact hv, ho⟩, hS⟩)⟩⟩ hh ⟨hwp, ⟨o1, g2⟩, g3, by rw [List.length_set]; exact g4, by rw [List.length_set]; exact g5, by rw [List.length_set]; exact g6, g7⟩ ⟨q1, ?_, ?_, q4, by omega, by rw [List.length_cons]; omega, by rw [List.length_cons, List.length_cons]; omega, by rw [List.length_cons, List.length_cons]; omega, by rw [List.length_cons, List.length_cons]; omega, by rw [List.length_cons]; omega, by rw [List.length_cons]; omega, q12⟩ (by rw [List.length_cons]; omega) (by rw [List.length_cons]; omega) (by rw [List.length_cons]; omega)
  · rw [List.length_cons, List.length_cons] at e
    rw [show yf σ (yo σ k (i + 1)) + yz σ (yo σ k (i + 1)) = yf σ k + (yo σ k (i + 1 + 1) - k) from by rw [hp]; show _ = yf σ k + (yo σ k (i + 1) + yz σ (yo σ k (i + 1)) - k); omega]
    exact e
  · show 3 * cl + ((if yk σ k = 13 then 1 + (i + 1) else 1) + wS σ w) + 0 ≤ _
    by_cases z : yk σ k = 13
    · rw [if_pos z] at q2' ⊢
      have ht := hs.2.2.2.2.2.2.2.2.1 z
      have hi0 : i = 0 := by omega
      subst hi0
      rw [hτ, ht.2.2.1, if_neg (by decide)] at q2'
      omega
    · rw [if_neg z] at q2' ⊢
      omega
  · show (if yk σ k = 12 ∨ yk σ k = 22 then 1 else 0) + kS σ w + (cb + (ye σ k).length) + (v :: vs).length ≤ _
    rw [List.length_cons]
    omega
end SimW
