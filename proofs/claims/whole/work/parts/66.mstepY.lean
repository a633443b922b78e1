/-! if, let, case, read -/
section SimY
variable {σ : xG} {s t : xSt} {n0 n τ k i : Nat} {w : List (Nat × Nat × Nat)} {ns ps vs os Sl Hd Tl hds tls hd vars wn wp wb ops : List Int32} {cb rb cl md L LR st F X : Nat} {rbI v r pt : Int32}
theorem v_if (hP : SP σ) (hC : SC σ s (gZ s 6)) (hR : SR σ t) (hn0 : n0 ≤ 64) (hE : IHE σ s t n0 n) (hV : IHV σ s t n0 n) (hh : HRel cl md hd Hd Tl hds tls) (ha : ARel ((k, i, rb) :: w) (r :: os) vars wn wp wb ops) (hn : NRel σ n0 ((k, i, rb) :: w) (nI (yf σ k) :: ns) (pt :: ps) (v :: vs) (r :: os) Sl cl md L LR st (if τ = 1 then 0 else 1)) (h1 : 4 * (6001 - st) + 2 * ((k, i, rb) :: w).length + 1 < n + 1) (h2 : 2 * (4 * (6001 - st) + 2 * ((k, i, rb) :: w).length + 1) < F) (h3 : X + 2 * (4 * (6001 - st) + 2 * ((k, i, rb) :: w).length + 1) < 1000000) (hv : vr cl md hd τ v r) (hk : k < yN σ) (hrb : rb ≤ 24 * w.length) (hc : yIf σ k) (hi : i = 0) (hτ : τ = yt σ (yo σ k 0)) (hpt : pt = nI (yf σ k + (yo σ k 1 - k))) (he : ev cl md hd Sl vars cb rb (ye σ k)) (hL : cb + (ye σ k).length ≤ L) (hS : Stk σ cl md hd Sl vars w ns ps cb (cb + (ye σ k).length) (rb + (ye σ k).length) vs os (yt σ k)) : GoalR s t n0 (n + 1) F X (cS s (nI (yf σ k) :: ns).reverse (pt :: ps).reverse (v :: vs).reverse Sl Hd Tl (nI cb) (-1) (nI st)) (rS t hds tls hd vars wn wp wb ops (nI cl) (nI md) rbI (nI ((k, i, rb) :: w).length) (nI (r :: os).length) (nI st) (-1)) := by
  have ha' := ha
  have hn' := hn
  obtain ⟨⟨a1, a2, a3, g1⟩, ⟨o1, g2⟩, g3, g4, g5, g6, g7⟩ := ha'
  obtain ⟨q1, q2, q3, q4, q5, q6, q7, q8, q9, q10, q11, q12⟩ := hn'
  have h1' := h1
  have h2' := h2
  have h3' := h3
  rw [List.length_cons] at h1' h2' h3' q6 q10
  rw [List.length_cons, List.length_cons] at q7 q8 q9
  have q2' : 3 * cl + ((if yk σ k = 13 then 1 + i else 1) + wS σ w) + (if τ = 1 then 0 else 1) ≤ st + 3 * n0 := q2
  have q3' : (if yk σ k = 12 ∨ yk σ k = 22 then 1 else 0) + kS σ w + L + (v :: vs).length ≤ st + 1 := q3
  rw [List.length_cons] at q3'
  have hyf := yf_lt hP hk
  have hN := hP.2.2.2.2.2.1
  have hs := hP.1 k hk
  have h24 := hs.1.2.2.2.1
  have hz := hP.2.2.2.2.2.2.2 k hk
  have hck2 : ck (yk σ k) < 100 := by
    rcases ck_lt (yk σ k) with h | h
    · exact h
    · have := hs.1.1
      omega
  have hkd := sc_kind hP hC hk
  have hct := ck_tail (Or.inl hc : yTail σ k)
  obtain ⟨-, hn2⟩ := ye_tail hP hk (Or.inl hc : yTail σ k)
  have hp := yf_part hP hk (i := 1) (by omega)
  have hj := (hs.1.2.2.2.2 1 (by omega)).1
  have hj0 := (hs.1.2.2.2.2 0 (by omega)).1
  have hz0 := (hP.1 _ hj0).1.2.1
  have hyj := yf_lt hP hj
  have hen := sc_end hP hC hj
  have hy1 : yo σ k 1 = k + 1 + yz σ (yo σ k 0) := rfl
  have hpt2 : pt = nI (yf σ (yo σ k 1)) := by rw [hpt, hp]
  have hc1 : m121 (cS s (nI (yf σ k) :: ns).reverse (pt :: ps).reverse (v :: vs).reverse Sl Hd Tl (nI cb) (-1) (nI st)) = m123 (nI (yf σ k)) pt (cS s (nI (yf σ k) :: ns).reverse (pt :: ps).reverse (v :: vs).reverse Sl Hd Tl (nI cb) (-1) (nI st)) := by
    rw [mc121 (by omega) (by omega) (by omega) hck2 hkd, if_pos hct, if_neg (by rw [hpt2, eqN (by omega) (by omega)]; omega)]
  rw [mc123 (by omega) (by omega) (by omega) hck2 hkd] at hc1
  subst hi
  have hy := hs.2.2.2.2.2.1 hc
  have hκ : ck (yk σ k) = 8 := by rcases hc with h | h <;> rw [h] <;> decide
  have evr : v = r := by
    rw [hτ, hy.2.1] at hv
    unfold vr at hv
    rw [if_pos rfl] at hv
    exact hv
  subst evr
  have rr := rp_if (t := t) (hds := hds) (tls := tls) (hd := hd) (vars := vars) (wn := wn) (wp := wp) (wb := wb) (ops := ops) (cl := nI cl) (md := nI md) (rb := nI rb) (wt := nI w.length) (ct := nI st) (nw := -1) (O := os.length) hP hR hk hc (by omega) g7 (nI 0)
  rw [o1] at rr
  rw [if_pos hκ] at hc1
  by_cases z : v = 0
  · rw [if_pos z] at hc1 rr
    have hj2 := (hs.1.2.2.2.2 2 (by omega)).1
    have hp2 := yf_part hP hk (i := 2) (by omega)
    have hy2 : yo σ k 2 = yo σ k 1 + yz σ (yo σ k 1) := rfl
    have hye := hy.2.2.2.2 2 (by omega)
    have hyo := yo_ge hP hk 1 (by omega)
    rw [hpt2, hen, show yf σ (yo σ k 1) + yz σ (yo σ k 1) = yf σ (yo σ k 2) from by rw [hp2, hp, hy2]; omega, ← hpt2] at hc1
    refine v_tail (L2 := cb + (ye σ k).length) (LR2 := rb + (ye σ k).length) hP hn0 hE hh ha hn h1 h2 h3 (by simp) hc1 rr ⟨hj2, hrb, by rw [hye]; exact he, by rw [hye], by rw [hye], by rw [hy.2.2.2.1]; exact hS⟩ g3 q4 (by omega) (by omega) (by omega) (by omega) (by omega)
  · rw [if_neg z] at hc1 rr
    have hye := hy.2.2.2.2 1 (by omega)
    rw [hpt2] at hc1 ⊢
    rw [hpt2] at hn
    exact v_tail (L2 := cb + (ye σ k).length) (LR2 := rb + (ye σ k).length) hP hn0 hE hh ha hn h1 h2 h3 (by simp) hc1 rr ⟨hj, hrb, by rw [hye]; exact he, by rw [hye], by rw [hye], by rw [hy.2.2.1]; exact hS⟩ g3 q4 (by omega) (by omega) (by omega) (by omega) (by omega)
theorem v_let (hP : SP σ) (hC : SC σ s (gZ s 6)) (hR : SR σ t) (hn0 : n0 ≤ 64) (hE : IHE σ s t n0 n) (hV : IHV σ s t n0 n) (hh : HRel cl md hd Hd Tl hds tls) (ha : ARel ((k, i, rb) :: w) (r :: os) vars wn wp wb ops) (hn : NRel σ n0 ((k, i, rb) :: w) (nI (yf σ k) :: ns) (pt :: ps) (v :: vs) (r :: os) Sl cl md L LR st (if τ = 1 then 0 else 1)) (h1 : 4 * (6001 - st) + 2 * ((k, i, rb) :: w).length + 1 < n + 1) (h2 : 2 * (4 * (6001 - st) + 2 * ((k, i, rb) :: w).length + 1) < F) (h3 : X + 2 * (4 * (6001 - st) + 2 * ((k, i, rb) :: w).length + 1) < 1000000) (hv : vr cl md hd τ v r) (hk : k < yN σ) (hrb : rb ≤ 24 * w.length) (hc : yLet σ k) (hi : i = 0) (hτ : τ = yt σ (yo σ k 0)) (hpt : pt = nI (yf σ k + (yo σ k 1 - k))) (he : ev cl md hd Sl vars cb rb (ye σ k)) (hL : cb + (ye σ k).length ≤ L) (hS : Stk σ cl md hd Sl vars w ns ps cb (cb + (ye σ k).length) (rb + (ye σ k).length) vs os (yt σ k)) : GoalR s t n0 (n + 1) F X (cS s (nI (yf σ k) :: ns).reverse (pt :: ps).reverse (v :: vs).reverse Sl Hd Tl (nI cb) (-1) (nI st)) (rS t hds tls hd vars wn wp wb ops (nI cl) (nI md) rbI (nI ((k, i, rb) :: w).length) (nI (r :: os).length) (nI st) (-1)) := by
  have ha' := ha
  have hn' := hn
  obtain ⟨⟨a1, a2, a3, g1⟩, ⟨o1, g2⟩, g3, g4, g5, g6, g7⟩ := ha'
  obtain ⟨q1, q2, q3, q4, q5, q6, q7, q8, q9, q10, q11, q12⟩ := hn'
  have h1' := h1
  have h2' := h2
  have h3' := h3
  rw [List.length_cons] at h1' h2' h3' q6 q10
  rw [List.length_cons, List.length_cons] at q7 q8 q9
  have q2' : 3 * cl + ((if yk σ k = 13 then 1 + i else 1) + wS σ w) + (if τ = 1 then 0 else 1) ≤ st + 3 * n0 := q2
  have q3' : (if yk σ k = 12 ∨ yk σ k = 22 then 1 else 0) + kS σ w + L + (v :: vs).length ≤ st + 1 := q3
  rw [List.length_cons] at q3'
  have hyf := yf_lt hP hk
  have hN := hP.2.2.2.2.2.1
  have hs := hP.1 k hk
  have h24 := hs.1.2.2.2.1
  have hz := hP.2.2.2.2.2.2.2 k hk
  have hck2 : ck (yk σ k) < 100 := by
    rcases ck_lt (yk σ k) with h | h
    · exact h
    · have := hs.1.1
      omega
  have hkd := sc_kind hP hC hk
  have hct := ck_tail (Or.inr (Or.inl hc) : yTail σ k)
  obtain ⟨-, hn2⟩ := ye_tail hP hk (Or.inr (Or.inl hc) : yTail σ k)
  have hp := yf_part hP hk (i := 1) (by omega)
  have hj := (hs.1.2.2.2.2 1 (by omega)).1
  have hj0 := (hs.1.2.2.2.2 0 (by omega)).1
  have hz0 := (hP.1 _ hj0).1.2.1
  have hyj := yf_lt hP hj
  have hen := sc_end hP hC hj
  have hy1 : yo σ k 1 = k + 1 + yz σ (yo σ k 0) := rfl
  have hpt2 : pt = nI (yf σ (yo σ k 1)) := by rw [hpt, hp]
  have hc1 : m121 (cS s (nI (yf σ k) :: ns).reverse (pt :: ps).reverse (v :: vs).reverse Sl Hd Tl (nI cb) (-1) (nI st)) = m123 (nI (yf σ k)) pt (cS s (nI (yf σ k) :: ns).reverse (pt :: ps).reverse (v :: vs).reverse Sl Hd Tl (nI cb) (-1) (nI st)) := by
    rw [mc121 (by omega) (by omega) (by omega) hck2 hkd, if_pos hct, if_neg (by rw [hpt2, eqN (by omega) (by omega)]; omega)]
  rw [mc123 (by omega) (by omega) (by omega) hck2 hkd] at hc1
  subst hi
  have hy := hs.2.2.2.2.2.2.1 hc
  have hκ : ck (yk σ k) = 9 := by rcases hc with h | h <;> rw [h] <;> decide
  have hlen : (ye σ (yo σ k 1)).length = (ye σ k).length + 1 := by rw [hy.2.2.2.2, List.length_append]; rfl
  have h24b := (hP.1 _ hj).1.2.2.2.1
  have rr := rp_let (t := t) (hds := hds) (tls := tls) (hd := hd) (vars := vars) (wn := wn) (wp := wp) (wb := wb) (ops := ops) (cl := nI cl) (md := nI md) (wt := nI w.length) (ct := nI st) (nw := -1) (rv := rb) (O := os.length) hP hR hk hc (by omega) g3 (by omega) g7 (nI 0)
  rw [o1, hy.2.1] at rr
  rw [if_neg (by omega), if_neg (by omega)] at hc1
  have hSl : ∀ j, j < cb + (ye σ k).length → (Sl.take (cb + (ye σ k).length) ++ [v]).getD j 0 = Sl.getD j 0 := fun j hj => take_app (by omega) hj
  have hcut : xsPush 6001 (xsCut Sl (nI cb + xsAt (gP s (gZ s 6) 3) (nI (yf σ k)))) v = Sl.take (cb + (ye σ k).length) ++ [v] := by
    rw [sc_dep hP hC hk, nI_add, xsCut_n (by omega), xsPush_n (by rw [List.length_take]; omega)]
  rw [hcut, hpt2] at hc1
  rw [hpt2]
  rw [hpt2] at hn
  have hva : ∀ j, j < rb + (ye σ k).length → (vars.set (rb + (ye σ k).length) r).getD j 0 = vars.getD j 0 := fun j hj => by rw [getD_set_n, if_neg (by omega)]
  refine v_tail (L2 := cb + (ye σ k).length + 1) (LR2 := rb + (ye σ k).length + 1) hP hn0 hE hh ha hn h1 h2 h3 (by simp) hc1 rr ⟨hj, hrb, ?_, by omega, by omega, by rw [hy.2.2.1]; exact stk_mono (Nat.le_refl _) (Nat.le_refl _) (fun _ _ => rfl) hS (by omega) (by omega) hSl hva⟩ (by rw [List.length_set]; exact g3) (by rw [List.length_append, List.length_take]; show _ + 1 ≤ _; omega) (by omega) (by omega) (by rw [List.length_append, List.length_take]; show _ ≤ _ + 1; omega) (by omega) (by omega)
  intro j hj
  rw [hlen] at hj
  rw [hy.2.2.2.2]
  by_cases z : j = (ye σ k).length
  · rw [z, take_app0 (by omega), getD_setn (by omega), if_pos rfl, getD_app_e, ← hτ]
    exact hv
  · rw [hSl _ (by omega), hva _ (by omega), getD_app_l (by omega)]
    exact he j (by omega)
theorem v_read (hP : SP σ) (hC : SC σ s (gZ s 6)) (hR : SR σ t) (hn0 : n0 ≤ 64) (hE : IHE σ s t n0 n) (hV : IHV σ s t n0 n) (hh : HRel cl md hd Hd Tl hds tls) (ha : ARel ((k, i, rb) :: w) (r :: os) vars wn wp wb ops) (hn : NRel σ n0 ((k, i, rb) :: w) (nI (yf σ k) :: ns) (pt :: ps) (v :: vs) (r :: os) Sl cl md L LR st (if τ = 1 then 0 else 1)) (h1 : 4 * (6001 - st) + 2 * ((k, i, rb) :: w).length + 1 < n + 1) (h2 : 2 * (4 * (6001 - st) + 2 * ((k, i, rb) :: w).length + 1) < F) (h3 : X + 2 * (4 * (6001 - st) + 2 * ((k, i, rb) :: w).length + 1) < 1000000) (hv : vr cl md hd τ v r) (hk : k < yN σ) (hrb : rb ≤ 24 * w.length) (hc : yk σ k = 18) (hi : i = 0) (hτ : τ = yt σ (yo σ k 0)) (hpt : pt = nI (yf σ k + (yo σ k 1 - k))) (he : ev cl md hd Sl vars cb rb (ye σ k)) (hL : cb + (ye σ k).length ≤ L) (hS : Stk σ cl md hd Sl vars w ns ps cb (cb + (ye σ k).length) (rb + (ye σ k).length) vs os (yt σ k)) : GoalR s t n0 (n + 1) F X (cS s (nI (yf σ k) :: ns).reverse (pt :: ps).reverse (v :: vs).reverse Sl Hd Tl (nI cb) (-1) (nI st)) (rS t hds tls hd vars wn wp wb ops (nI cl) (nI md) rbI (nI ((k, i, rb) :: w).length) (nI (r :: os).length) (nI st) (-1)) := by
  have ha' := ha
  have hn' := hn
  obtain ⟨⟨a1, a2, a3, g1⟩, ⟨o1, g2⟩, g3, g4, g5, g6, g7⟩ := ha'
  obtain ⟨q1, q2, q3, q4, q5, q6, q7, q8, q9, q10, q11, q12⟩ := hn'
  have h1' := h1
  have h2' := h2
  have h3' := h3
  rw [List.length_cons] at h1' h2' h3' q6 q10
  rw [List.length_cons, List.length_cons] at q7 q8 q9
  have q2' : 3 * cl + ((if yk σ k = 13 then 1 + i else 1) + wS σ w) + (if τ = 1 then 0 else 1) ≤ st + 3 * n0 := q2
  have q3' : (if yk σ k = 12 ∨ yk σ k = 22 then 1 else 0) + kS σ w + L + (v :: vs).length ≤ st + 1 := q3
  rw [List.length_cons] at q3'
  have hyf := yf_lt hP hk
  have hN := hP.2.2.2.2.2.1
  have hs := hP.1 k hk
  have h24 := hs.1.2.2.2.1
  have hz := hP.2.2.2.2.2.2.2 k hk
  have hck2 : ck (yk σ k) < 100 := by
    rcases ck_lt (yk σ k) with h | h
    · exact h
    · have := hs.1.1
      omega
  have hkd := sc_kind hP hC hk
  have hct := ck_tail (Or.inr (Or.inr (Or.inr hc)) : yTail σ k)
  obtain ⟨-, hn2⟩ := ye_tail hP hk (Or.inr (Or.inr (Or.inr hc)) : yTail σ k)
  have hp := yf_part hP hk (i := 1) (by omega)
  have hj := (hs.1.2.2.2.2 1 (by omega)).1
  have hj0 := (hs.1.2.2.2.2 0 (by omega)).1
  have hz0 := (hP.1 _ hj0).1.2.1
  have hyj := yf_lt hP hj
  have hen := sc_end hP hC hj
  have hy1 : yo σ k 1 = k + 1 + yz σ (yo σ k 0) := rfl
  have hpt2 : pt = nI (yf σ (yo σ k 1)) := by rw [hpt, hp]
  have hc1 : m121 (cS s (nI (yf σ k) :: ns).reverse (pt :: ps).reverse (v :: vs).reverse Sl Hd Tl (nI cb) (-1) (nI st)) = m123 (nI (yf σ k)) pt (cS s (nI (yf σ k) :: ns).reverse (pt :: ps).reverse (v :: vs).reverse Sl Hd Tl (nI cb) (-1) (nI st)) := by
    rw [mc121 (by omega) (by omega) (by omega) hck2 hkd, if_pos hct, if_neg (by rw [hpt2, eqN (by omega) (by omega)]; omega)]
  rw [mc123 (by omega) (by omega) (by omega) hck2 hkd] at hc1
  subst hi
  have hy := hs.2.2.2.2.2.2.2.2.2.2.2.2.1 hc
  have hκ : ck (yk σ k) = 16 := by rw [hc]; decide
  have hlen : (ye σ (yo σ k 1)).length = (ye σ k).length + 1 := by rw [hy.2.2.2.2.2, List.length_append]; rfl
  have h24b := (hP.1 _ hj).1.2.2.2.1
  have hm : ∃ m, m ≤ md ∧ r = nI m ∧ vr cl md hd (yt σ (yo σ k 0) - 2) v (hd.getD m 0) := by
    rw [hτ] at hv
    unfold vr at hv
    rcases hy.2.2.1 with h | h
    · rw [h] at hv ⊢
      rw [if_neg (by decide), if_neg (by decide), if_pos rfl] at hv
      obtain ⟨m, w1, w2, w3⟩ := hv
      exact ⟨m, w1, w2, by unfold vr; rw [if_pos rfl]; exact w3⟩
    · rw [h] at hv ⊢
      rw [if_neg (by decide), if_neg (by decide), if_neg (by decide)] at hv
      obtain ⟨m, a, w1, w2, w3, w4, w5⟩ := hv
      exact ⟨m, w1, w3, by unfold vr; rw [if_neg (by decide), if_pos rfl]; exact ⟨a, w2, w5, w4⟩⟩
  obtain ⟨m, hm1, hm2, hm3⟩ := hm
  have rr := rp_read (t := t) (hds := hds) (tls := tls) (hd := hd) (vars := vars) (wn := wn) (wp := wp) (wb := wb) (ops := ops) (cl := nI cl) (md := nI md) (wt := nI w.length) (ct := nI st) (nw := -1) (rv := rb) (m := m) (O := os.length) hP hR hk hc (by omega) g3 hh.2.2.2.2.1 (by omega) (by omega) g7 (by rw [o1]; exact hm2) (nI 0)
  rw [hy.2.1] at rr
  rw [if_neg (by omega), if_neg (by omega)] at hc1
  have hSl : ∀ j, j < cb + (ye σ k).length → (Sl.take (cb + (ye σ k).length) ++ [v]).getD j 0 = Sl.getD j 0 := fun j hj => take_app (by omega) hj
  have hcut : xsPush 6001 (xsCut Sl (nI cb + xsAt (gP s (gZ s 6) 3) (nI (yf σ k)))) v = Sl.take (cb + (ye σ k).length) ++ [v] := by
    rw [sc_dep hP hC hk, nI_add, xsCut_n (by omega), xsPush_n (by rw [List.length_take]; omega)]
  rw [hcut, hpt2] at hc1
  rw [hpt2]
  rw [hpt2] at hn
  have hva : ∀ j, j < rb + (ye σ k).length → (vars.set (rb + (ye σ k).length) (hd.getD m 0)).getD j 0 = vars.getD j 0 := fun j hj => by rw [getD_set_n, if_neg (by omega)]
  refine v_tail (L2 := cb + (ye σ k).length + 1) (LR2 := rb + (ye σ k).length + 1) hP hn0 hE hh ha hn h1 h2 h3 (by simp) hc1 rr ⟨hj, hrb, ?_, by omega, by omega, by rw [hy.2.2.2.1]; exact stk_mono (Nat.le_refl _) (Nat.le_refl _) (fun _ _ => rfl) hS (by omega) (by omega) hSl hva⟩ (by rw [List.length_set]; exact g3) (by rw [List.length_append, List.length_take]; show _ + 1 ≤ _; omega) (by omega) (by omega) (by rw [List.length_append, List.length_take]; show _ ≤ _ + 1; omega) (by omega) (by omega)
  intro j hj
  rw [hlen] at hj
  rw [hy.2.2.2.2.2]
  by_cases z : j = (ye σ k).length
  · rw [z, take_app0 (by omega), getD_setn (by omega), if_pos rfl, getD_app_e]
    exact hm3
  · rw [hSl _ (by omega), hva _ (by omega), getD_app_l (by omega)]
    exact he j (by omega)
theorem v_case (hP : SP σ) (hC : SC σ s (gZ s 6)) (hR : SR σ t) (hn0 : n0 ≤ 64) (hE : IHE σ s t n0 n) (hV : IHV σ s t n0 n) (hh : HRel cl md hd Hd Tl hds tls) (ha : ARel ((k, i, rb) :: w) (r :: os) vars wn wp wb ops) (hn : NRel σ n0 ((k, i, rb) :: w) (nI (yf σ k) :: ns) (pt :: ps) (v :: vs) (r :: os) Sl cl md L LR st (if τ = 1 then 0 else 1)) (h1 : 4 * (6001 - st) + 2 * ((k, i, rb) :: w).length + 1 < n + 1) (h2 : 2 * (4 * (6001 - st) + 2 * ((k, i, rb) :: w).length + 1) < F) (h3 : X + 2 * (4 * (6001 - st) + 2 * ((k, i, rb) :: w).length + 1) < 1000000) (hv : vr cl md hd τ v r) (hk : k < yN σ) (hrb : rb ≤ 24 * w.length) (hc : yCase σ k) (hi : i = 0) (hτ : τ = yt σ (yo σ k 0)) (hpt : pt = nI (yf σ k + (yo σ k 1 - k))) (he : ev cl md hd Sl vars cb rb (ye σ k)) (hL : cb + (ye σ k).length ≤ L) (hS : Stk σ cl md hd Sl vars w ns ps cb (cb + (ye σ k).length) (rb + (ye σ k).length) vs os (yt σ k)) : GoalR s t n0 (n + 1) F X (cS s (nI (yf σ k) :: ns).reverse (pt :: ps).reverse (v :: vs).reverse Sl Hd Tl (nI cb) (-1) (nI st)) (rS t hds tls hd vars wn wp wb ops (nI cl) (nI md) rbI (nI ((k, i, rb) :: w).length) (nI (r :: os).length) (nI st) (-1)) := by
  have ha' := ha
  have hn' := hn
  obtain ⟨⟨a1, a2, a3, g1⟩, ⟨o1, g2⟩, g3, g4, g5, g6, g7⟩ := ha'
  obtain ⟨q1, q2, q3, q4, q5, q6, q7, q8, q9, q10, q11, q12⟩ := hn'
  have h1' := h1
  have h2' := h2
  have h3' := h3
  rw [List.length_cons] at h1' h2' h3' q6 q10
  rw [List.length_cons, List.length_cons] at q7 q8 q9
  have q2' : 3 * cl + ((if yk σ k = 13 then 1 + i else 1) + wS σ w) + (if τ = 1 then 0 else 1) ≤ st + 3 * n0 := q2
  have q3' : (if yk σ k = 12 ∨ yk σ k = 22 then 1 else 0) + kS σ w + L + (v :: vs).length ≤ st + 1 := q3
  rw [List.length_cons] at q3'
  have hyf := yf_lt hP hk
  have hN := hP.2.2.2.2.2.1
  have hs := hP.1 k hk
  have h24 := hs.1.2.2.2.1
  have hz := hP.2.2.2.2.2.2.2 k hk
  have hck2 : ck (yk σ k) < 100 := by
    rcases ck_lt (yk σ k) with h | h
    · exact h
    · have := hs.1.1
      omega
  have hkd := sc_kind hP hC hk
  have hct := ck_tail (Or.inr (Or.inr (Or.inl hc)) : yTail σ k)
  obtain ⟨-, hn2⟩ := ye_tail hP hk (Or.inr (Or.inr (Or.inl hc)) : yTail σ k)
  have hp := yf_part hP hk (i := 1) (by omega)
  have hj := (hs.1.2.2.2.2 1 (by omega)).1
  have hj0 := (hs.1.2.2.2.2 0 (by omega)).1
  have hz0 := (hP.1 _ hj0).1.2.1
  have hyj := yf_lt hP hj
  have hen := sc_end hP hC hj
  have hy1 : yo σ k 1 = k + 1 + yz σ (yo σ k 0) := rfl
  have hpt2 : pt = nI (yf σ (yo σ k 1)) := by rw [hpt, hp]
  have hc1 : m121 (cS s (nI (yf σ k) :: ns).reverse (pt :: ps).reverse (v :: vs).reverse Sl Hd Tl (nI cb) (-1) (nI st)) = m123 (nI (yf σ k)) pt (cS s (nI (yf σ k) :: ns).reverse (pt :: ps).reverse (v :: vs).reverse Sl Hd Tl (nI cb) (-1) (nI st)) := by
    rw [mc121 (by omega) (by omega) (by omega) hck2 hkd, if_pos hct, if_neg (by rw [hpt2, eqN (by omega) (by omega)]; omega)]
  rw [mc123 (by omega) (by omega) (by omega) hck2 hkd] at hc1
  subst hi
  have hy := hs.2.2.2.2.2.2.2.1 hc
  have hκ : ck (yk σ k) = 10 := by rcases hc with h | h <;> rw [h] <;> decide
  have hj2 := (hs.1.2.2.2.2 2 (by omega)).1
  have hlen : (ye σ (yo σ k 2)).length = (ye σ k).length + 2 := by rw [hy.2.2.2.2.2.2.2, List.length_append]; rfl
  have h24b := (hP.1 _ hj2).1.2.2.2.1
  rw [hτ, hy.2.2.1] at hv
  unfold vr at hv
  rw [if_neg (by decide), if_pos rfl] at hv
  obtain ⟨a, ha1, ha2, ha3⟩ := hv
  have hcs : yk σ k = 12 ∨ yk σ k = 22 := hc
  rw [if_pos hcs] at q3'
  rw [if_neg (by rcases hcs with h | h <;> omega)] at q2'
  have rr := rp_case (t := t) (hds := hds) (tls := tls) (hd := hd) (vars := vars) (wn := wn) (wp := wp) (wb := wb) (ops := ops) (cl := nI cl) (md := nI md) (wt := nI w.length) (ct := nI st) (nw := -1) (rv := rb) (a := a) (O := os.length) hP hR hk hc (by omega) g3 hh.2.2.1 hh.2.2.2.1 (by omega) (by omega) g7 (by rw [o1]; exact ha3) (nI 0)
  rw [hy.2.1] at rr
  rw [if_neg (by omega), if_pos hκ, ha2] at hc1
  have hva : ∀ j, j < rb + (ye σ k).length → ((vars.set (rb + (ye σ k).length) (hds.getD a 0)).set (rb + (ye σ k).length + 1) (tls.getD a 0)).getD j 0 = vars.getD j 0 := fun j hj => by rw [getD_set_n, if_neg (by omega), getD_set_n, if_neg (by omega)]
  rw [ha2]
  by_cases z : a = 0
  · rw [if_pos (by rw [z]; rfl), hpt2] at hc1
    rw [if_pos z] at rr
    rw [hpt2]
    rw [hpt2] at hn
    have hye := hy.2.2.2.2.2.2.1
    exact v_tail (L2 := cb + (ye σ k).length) (LR2 := rb + (ye σ k).length) hP hn0 hE hh ha hn h1 h2 h3 (by simp) hc1 rr ⟨hj, hrb, by rw [hye]; exact ev_mono he (Nat.le_refl _) (Nat.le_refl _) (fun _ _ => rfl) (fun _ _ => rfl) hva (Nat.le_refl _) (Nat.le_refl _), by rw [hye], by rw [hye], by rw [hy.2.2.2.1]; exact stk_mono (Nat.le_refl _) (Nat.le_refl _) (fun _ _ => rfl) hS (Nat.le_refl _) (Nat.le_refl _) (fun _ _ => rfl) hva⟩ (by rw [List.length_set, List.length_set]; exact g3) q4 (by omega) (by omega) (by omega) (by omega) (by omega)
  · rw [if_neg (by rw [eqL_0 (by omega)]; exact z)] at hc1
    rw [if_neg z] at rr
    obtain ⟨b1, b2, b3, b4, b5, b6⟩ := hh
    obtain ⟨c1, m, a', c2, c3, c4, c5, c6⟩ := b6 a (by omega) ha1
    have hp2 := yf_part hP hk (i := 2) (by omega)
    have hy2 : yo σ k 2 = yo σ k 1 + yz σ (yo σ k 1) := rfl
    have hyo := yo_ge hP hk 1 (by omega)
    have hcut : xsPush 6001 (xsPush 6001 (xsCut Sl (nI cb + xsAt (gP s (gZ s 6) 3) (nI (yf σ k)))) (xsAt Hd (nI a))) (xsAt Tl (nI a)) = Sl.take (cb + (ye σ k).length) ++ [Hd.getD a 0, Tl.getD a 0] := by
      rw [sc_dep hP hC hk, nI_add, xsCut_n (by omega), xsPush_n (xs := Sl.take (cb + (ye σ k).length)) (by rw [List.length_take]; omega), xsPush_n (by rw [List.length_append, List.length_take]; show _ + 1 < _; omega), xsAt_n (by omega), xsAt_n (by omega), List.append_assoc]
      rfl
    have hSl : ∀ j, j < cb + (ye σ k).length → (Sl.take (cb + (ye σ k).length) ++ [Hd.getD a 0, Tl.getD a 0]).getD j 0 = Sl.getD j 0 := fun j hj => take_app (by omega) hj
    rw [hcut, hpt2, hen, show yf σ (yo σ k 1) + yz σ (yo σ k 1) = yf σ (yo σ k 2) from by rw [hp2, hp, hy2]; omega] at hc1
    rw [hpt2]
    rw [hpt2] at hn
    refine v_tail (L2 := cb + (ye σ k).length + 2) (LR2 := rb + (ye σ k).length + 2) hP hn0 hE ⟨b1, b2, b3, b4, b5, b6⟩ ha hn h1 h2 h3 (by simp) hc1 rr ⟨hj2, hrb, ?_, by omega, by omega, by rw [hy.2.2.2.2.1]; exact stk_mono (Nat.le_refl _) (Nat.le_refl _) (fun _ _ => rfl) hS (by omega) (by omega) hSl hva⟩ (by rw [List.length_set, List.length_set]; exact g3) (by rw [List.length_append, List.length_take]; show _ + 2 ≤ _; omega) (by omega) (by omega) (by rw [List.length_append, List.length_take]; show _ ≤ _ + 2; omega) (by omega) (by omega)
    intro j hj
    rw [hlen] at hj
    rw [hy.2.2.2.2.2.2.2]
    by_cases z1 : j = (ye σ k).length
    · have e1 : (ye σ k ++ [0, 3]).getD j 0 = 0 := by rw [z1, List.getD_eq_getElem?_getD, List.getElem?_append_right (Nat.le_refl _), Nat.sub_self]; rfl
      rw [e1, z1, take_app0 (by omega), getD_set_n, if_neg (by omega), getD_setn (by omega), if_pos rfl]
      unfold vr
      rw [if_pos rfl]
      exact c1
    · by_cases z2 : j = (ye σ k).length + 1
      · have e1 : (ye σ k ++ [0, 3]).getD j 0 = 3 := by rw [z2, List.getD_eq_getElem?_getD, List.getElem?_append_right (by omega), Nat.add_sub_cancel_left]; rfl
        rw [e1, z2, show cb + ((ye σ k).length + 1) = cb + (ye σ k).length + 1 by omega, show rb + ((ye σ k).length + 1) = rb + (ye σ k).length + 1 by omega, take_app2 (j := 1) (by omega), getD_setn (by rw [List.length_set]; omega), if_pos rfl]
        unfold vr
        rw [if_neg (by decide), if_neg (by decide), if_neg (by decide)]
        exact ⟨m, a', c2, by omega, c4, c5, c6⟩
      · rw [hSl _ (by omega), hva _ (by omega), getD_app_l (by omega)]
        exact he j (by omega)
end SimY
