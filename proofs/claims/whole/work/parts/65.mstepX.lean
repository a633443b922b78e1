/-! all operands are there -/
section SimX
variable {σ : xG} {s t : xSt} {n0 n τ k i : Nat} {w : List (Nat × Nat × Nat)} {ns ps vs os Sl Hd Tl hds tls hd vars wn wp wb ops : List Int32} {cb rb cl md L LR st F X : Nat} {rbI v r pt : Int32}
theorem v_op (hP : SP σ) (hC : SC σ s (gZ s 6)) (hR : SR σ t) (hn0 : n0 ≤ 64) (hE : IHE σ s t n0 n) (hV : IHV σ s t n0 n) (hh : HRel cl md hd Hd Tl hds tls) (ha : ARel ((k, i, rb) :: w) (r :: os) vars wn wp wb ops) (hn : NRel σ n0 ((k, i, rb) :: w) (nI (yf σ k) :: ns) (pt :: ps) (v :: vs) (r :: os) Sl cl md L LR st (if τ = 1 then 0 else 1)) (h1 : 4 * (6001 - st) + 2 * ((k, i, rb) :: w).length + 1 < n + 1) (h2 : 2 * (4 * (6001 - st) + 2 * ((k, i, rb) :: w).length + 1) < F) (h3 : X + 2 * (4 * (6001 - st) + 2 * ((k, i, rb) :: w).length + 1) < 1000000) (hv : vr cl md hd τ v r) (hk : k < yN σ) (hrb : rb ≤ 24 * w.length) (hc : yOp σ k) (hi : i + 1 = yn σ k) (hτ : τ = yt σ (yo σ k i)) (hpt : pt = nI (yf σ k + (yo σ k (i + 1) - k))) (he : ev cl md hd Sl vars cb rb (ye σ k)) (hL : cb + (ye σ k).length ≤ L) {vs' os' : List Int32} (ho : opr cl md hd (fun j => yt σ (yo σ k j)) i vs os vs' os') (hS : Stk σ cl md hd Sl vars w ns ps cb (cb + (ye σ k).length) (rb + (ye σ k).length) vs' os' (yt σ k)) : GoalR s t n0 (n + 1) F X (cS s (nI (yf σ k) :: ns).reverse (pt :: ps).reverse (v :: vs).reverse Sl Hd Tl (nI cb) (-1) (nI st)) (rS t hds tls hd vars wn wp wb ops (nI cl) (nI md) rbI (nI ((k, i, rb) :: w).length) (nI (r :: os).length) (nI st) (-1)) := by
  have ha' := ha
  have hn' := hn
  obtain ⟨⟨a1, a2, a3, g1⟩, ⟨o1, g2⟩, g3, g4, g5, g6, g7⟩ := ha'
  obtain ⟨q1, q2, q3, q4, q5, q6, q7, q8, q9, q10, q11, q12⟩ := hn'
  have h1' := h1
  have h2' := h2
  have h3' := h3
  rw [List.length_cons] at h1' h2' h3' q6 q10
  rw [List.length_cons, List.length_cons] at q7 q8 q9
  have q2' : 3 * cl + ((if yk σ k = 13 then 1 + i else 1) + wS σ w) + (if τ = 1 then 0 else 1) ≤ st + 3 * n0 := q2
  have q3' : (if yk σ k = 12 ∨ yk σ k = 22 then 1 else 0) + kS σ w + L + (v :: vs).length ≤ st + 1 := q3
  rw [List.length_cons] at q3'
  have hyf := yf_lt hP hk
  have hN := hP.2.2.2.2.2.1
  have hs := hP.1 k hk
  have h24 := hs.1.2.2.2.1
  have hz := hP.2.2.2.2.2.2.2 k hk
  have hck2 : ck (yk σ k) < 100 := by
    rcases ck_lt (yk σ k) with h | h
    · exact h
    · have := hs.1.1
      omega
  have hkd := sc_kind hP hC hk
  obtain ⟨F, rfl⟩ : ∃ G, F = G + 1 := ⟨F - 1, by omega⟩
  have cg := cl_go (s := s) (N := (nI (yf σ k) :: ns).reverse) (P := (pt :: ps).reverse) (V := (v :: vs).reverse) (Sl := Sl) (Hd := Hd) (Tl := Tl) (b := nI cb) (F := F) (X := X) (st := st) (by omega) q12 (by rw [List.length_reverse, List.length_cons]; omega) (by simp)
  have rg := rl_go (t := t) (hds := hds) (tls := tls) (hd := hd) (vars := vars) (wn := wn) (wp := wp) (wb := wb) (ops := ops) (cl := nI cl) (md := nI md) (rb := rbI) (om := nI (os.length + 1)) (n := n) (W := w.length) (c := st) (by omega) q12 g4 g5 g6 a1 a2 a3
  have hcc := ck_col (Or.inl hc : yCol σ k)
  have hyn := hs.2.2.2.2.1 hc
  have hi1 : i = 1 := by omega
  have hlast : yo σ k (i + 1) = k + yz σ k := by rw [hi]; exact hs.1.2.2.1
  have hptn : pt = nI (yf σ k + yz σ k) := by rw [hpt, hlast, Nat.add_sub_cancel_left]
  subst hptn
  rw [mc121 (by omega) (by omega) (by omega) hck2 hkd, if_neg (by omega), if_neg (by omega), if_neg (by rw [nI_ne1 (by omega)]; exact id), sc_end hP hC hk, if_pos (by rw [leN (by omega) (by omega)]; omega)] at cg
  subst hi1
  obtain ⟨v0, r0, vs1, os1, rfl, rfl, hv0, ⟨rfl, rfl⟩⟩ := ho
  have ht0 : yt σ (yo σ k 0) = 0 := (hyn.2.2 0 (by omega)).1
  have ht1 : yt σ (yo σ k 1) = 0 := (hyn.2.2 1 (by omega)).1
  have e0 : v0 = r0 := by
    have : vr cl md hd (yt σ (yo σ k 0)) v0 r0 := hv0
    rw [ht0] at this
    unfold vr at this
    rw [if_pos rfl] at this
    exact this
  have e1 : v = r := by
    rw [hτ, ht1] at hv
    unfold vr at hv
    rw [if_pos rfl] at hv
    exact hv
  subst e0 e1
  obtain ⟨x, x1, x2⟩ := arith hc.1 hc.2 v0 v
  have hκ : ck (yk σ k) = yk σ k - 2 := by
    have := hc.1
    have := hc.2
    unfold ck
    rw [if_neg (by omega), if_neg (by omega), if_neg (by omega), if_pos (by omega)]
  rw [List.length_cons] at q3' q9
  rw [List.length_cons] at q9
  rw [hκ] at hkd
  rw [mc127o (by have := hc.1; have := hc.2; omega) hkd (by omega) x1] at cg
  have p0 : ops.getD os1.length 0 = v0 := g2.1
  have p1 : ops.getD (os1.length + 1) 0 = v := o1
  have rr := rp_op (t := t) (hds := hds) (tls := tls) (hd := hd) (vars := vars) (wn := wn) (wp := wp) (wb := wb) (ops := ops) (cl := nI cl) (md := nI md) (rb := nI rb) (wt := nI w.length) (ct := nI st) (nw := -1) (x := x) (O := os1.length) hP hR hk hc (by omega) g7 (by rw [p0, p1]; exact x2)
  rw [List.length_cons] at rg
  rw [rr] at rg
  rw [List.length_cons, List.length_cons, List.length_cons]
  refine go_c cg (go_r rg ?_)
  rw [if_neg (by have := hc.2; omega)] at q2'
  have e := hV (yt σ k) w ns ps (x :: vs1) (x :: os1) Sl Hd Tl hds tls hd vars wn wp wb (ops.set os1.length x) cb cl md (cb + (ye σ k).length) (rb + (ye σ k).length) st F (X + 1) (nI rb) ⟨x, x, vs1, os1, rfl, rfl, by rw [hyn.2.1]; unfold vr; rw [if_pos rfl], hS⟩ hh ⟨g1, oat_push g2.2 (by omega), g3, g4, g5, g6, by rw [List.length_set]; exact g7⟩ ⟨q1, by rw [hyn.2.1, if_neg (by decide)]; omega, by rw [List.length_cons]; omega, q4, by omega, by omega, by omega, by omega, by rw [List.length_cons, List.length_cons]; omega, by omega, by omega, q12⟩ (by omega) (by omega) (by omega)
  rw [List.length_cons] at e
  exact e
theorem v_cons (hP : SP σ) (hC : SC σ s (gZ s 6)) (hR : SR σ t) (hn0 : n0 ≤ 64) (hE : IHE σ s t n0 n) (hV : IHV σ s t n0 n) (hh : HRel cl md hd Hd Tl hds tls) (ha : ARel ((k, i, rb) :: w) (r :: os) vars wn wp wb ops) (hn : NRel σ n0 ((k, i, rb) :: w) (nI (yf σ k) :: ns) (pt :: ps) (v :: vs) (r :: os) Sl cl md L LR st (if τ = 1 then 0 else 1)) (h1 : 4 * (6001 - st) + 2 * ((k, i, rb) :: w).length + 1 < n + 1) (h2 : 2 * (4 * (6001 - st) + 2 * ((k, i, rb) :: w).length + 1) < F) (h3 : X + 2 * (4 * (6001 - st) + 2 * ((k, i, rb) :: w).length + 1) < 1000000) (hv : vr cl md hd τ v r) (hk : k < yN σ) (hrb : rb ≤ 24 * w.length) (hc : yk σ k = 13) (hi : i + 1 = yn σ k) (hτ : τ = yt σ (yo σ k i)) (hpt : pt = nI (yf σ k + (yo σ k (i + 1) - k))) (he : ev cl md hd Sl vars cb rb (ye σ k)) (hL : cb + (ye σ k).length ≤ L) {vs' os' : List Int32} (ho : opr cl md hd (fun j => yt σ (yo σ k j)) i vs os vs' os') (hS : Stk σ cl md hd Sl vars w ns ps cb (cb + (ye σ k).length) (rb + (ye σ k).length) vs' os' (yt σ k)) : GoalR s t n0 (n + 1) F X (cS s (nI (yf σ k) :: ns).reverse (pt :: ps).reverse (v :: vs).reverse Sl Hd Tl (nI cb) (-1) (nI st)) (rS t hds tls hd vars wn wp wb ops (nI cl) (nI md) rbI (nI ((k, i, rb) :: w).length) (nI (r :: os).length) (nI st) (-1)) := by
  have ha' := ha
  have hn' := hn
  obtain ⟨⟨a1, a2, a3, g1⟩, ⟨o1, g2⟩, g3, g4, g5, g6, g7⟩ := ha'
  obtain ⟨q1, q2, q3, q4, q5, q6, q7, q8, q9, q10, q11, q12⟩ := hn'
  have h1' := h1
  have h2' := h2
  have h3' := h3
  rw [List.length_cons] at h1' h2' h3' q6 q10
  rw [List.length_cons, List.length_cons] at q7 q8 q9
  have q2' : 3 * cl + ((if yk σ k = 13 then 1 + i else 1) + wS σ w) + (if τ = 1 then 0 else 1) ≤ st + 3 * n0 := q2
  have q3' : (if yk σ k = 12 ∨ yk σ k = 22 then 1 else 0) + kS σ w + L + (v :: vs).length ≤ st + 1 := q3
  rw [List.length_cons] at q3'
  have hyf := yf_lt hP hk
  have hN := hP.2.2.2.2.2.1
  have hs := hP.1 k hk
  have h24 := hs.1.2.2.2.1
  have hz := hP.2.2.2.2.2.2.2 k hk
  have hck2 : ck (yk σ k) < 100 := by
    rcases ck_lt (yk σ k) with h | h
    · exact h
    · have := hs.1.1
      omega
  have hkd := sc_kind hP hC hk
  obtain ⟨F, rfl⟩ : ∃ G, F = G + 1 := ⟨F - 1, by omega⟩
  have cg := cl_go (s := s) (N := (nI (yf σ k) :: ns).reverse) (P := (pt :: ps).reverse) (V := (v :: vs).reverse) (Sl := Sl) (Hd := Hd) (Tl := Tl) (b := nI cb) (F := F) (X := X) (st := st) (by omega) q12 (by rw [List.length_reverse, List.length_cons]; omega) (by simp)
  have rg := rl_go (t := t) (hds := hds) (tls := tls) (hd := hd) (vars := vars) (wn := wn) (wp := wp) (wb := wb) (ops := ops) (cl := nI cl) (md := nI md) (rb := rbI) (om := nI (os.length + 1)) (n := n) (W := w.length) (c := st) (by omega) q12 g4 g5 g6 a1 a2 a3
  have hcc := ck_col (Or.inr (Or.inl hc) : yCol σ k)
  have hyn := hs.2.2.2.2.2.2.2.2.1 hc
  have hi1 : i = 1 := by omega
  have hlast : yo σ k (i + 1) = k + yz σ k := by rw [hi]; exact hs.1.2.2.1
  have hptn : pt = nI (yf σ k + yz σ k) := by rw [hpt, hlast, Nat.add_sub_cancel_left]
  subst hptn
  rw [mc121 (by omega) (by omega) (by omega) hck2 hkd, if_neg (by omega), if_neg (by omega), if_neg (by rw [nI_ne1 (by omega)]; exact id), sc_end hP hC hk, if_pos (by rw [leN (by omega) (by omega)]; omega)] at cg
  subst hi1
  obtain ⟨v0, r0, vs1, os1, rfl, rfl, hv0, ⟨rfl, rfl⟩⟩ := ho
  have e0 : v0 = r0 := by
    have : vr cl md hd (yt σ (yo σ k 0)) v0 r0 := hv0
    rw [hyn.2.2.1] at this
    unfold vr at this
    rw [if_pos rfl] at this
    exact this
  rw [hτ, hyn.2.2.2.1] at hv
  rw [hτ, hyn.2.2.2.1, if_pos hc, if_neg (by decide)] at q2'
  unfold vr at hv
  rw [if_neg (by decide), if_neg (by decide), if_neg (by decide)] at hv
  obtain ⟨m, a, w1, w2, w3, w4, w5⟩ := hv
  subst e0
  rw [List.length_cons] at q3' q9
  rw [List.length_cons] at q9
  obtain ⟨b1, b2, b3, b4, b5, b6⟩ := hh
  rw [hc] at hkd
  rw [mc127c (cl := cl) hkd (by omega) (by omega) b1 b2] at cg
  have p0 : ops.getD os1.length 0 = v0 := g2.1
  have p1 : ops.getD (os1.length + 1) 0 = r := o1
  have rr := rp_cons (t := t) (hds := hds) (tls := tls) (hd := hd) (vars := vars) (wn := wn) (wp := wp) (wb := wb) (ops := ops) (md := nI md) (rb := nI rb) (wt := nI w.length) (ct := nI st) (nw := -1) (a := cl) (O := os1.length) hP hR hk hc (by omega) b3 b4 (by omega) g7
  rw [p0, p1] at rr
  rw [List.length_cons] at rg
  rw [rr] at rg
  rw [List.length_cons, List.length_cons, List.length_cons]
  refine go_c cg (go_r rg ?_)
  have hh2 : HRel (cl + 1) md hd (Hd ++ [v0]) (Tl ++ [v]) (hds.set (cl + 1) v0) (tls.set (cl + 1) r) := by
    refine ⟨by rw [List.length_append, b1]; rfl, by rw [List.length_append, b2]; rfl, by rw [List.length_set]; exact b3, by rw [List.length_set]; exact b4, b5, fun x hx1 hx2 => ?_⟩
    rw [getD_push, getD_push, getD_setn (by omega), getD_setn (by omega), b1, b2]
    by_cases z : x = cl + 1
    · rw [if_pos z, if_pos z, if_pos z, if_pos z]
      exact ⟨rfl, m, a, w1, by omega, w3, w4, w5⟩
    · rw [if_neg z, if_neg z, if_neg z, if_neg z]
      exact b6 x hx1 (by omega)
  have e := hV (yt σ k) w ns ps (nI (cl + 1) :: vs1) (nI (cl + 1) :: os1) Sl (Hd ++ [v0]) (Tl ++ [v]) (hds.set (cl + 1) v0) (tls.set (cl + 1) r) hd vars wn wp wb (ops.set os1.length (nI (cl + 1))) cb (cl + 1) md (cb + (ye σ k).length) (rb + (ye σ k).length) st F (X + 1) (nI rb) ⟨nI (cl + 1), nI (cl + 1), vs1, os1, rfl, rfl, by rw [hyn.2.1]; unfold vr; rw [if_neg (by decide), if_pos rfl]; exact ⟨cl + 1, Nat.le_refl _, rfl, rfl⟩, stk_mono (Nat.le_succ _) (Nat.le_refl _) (fun _ _ => rfl) hS (Nat.le_refl _) (Nat.le_refl _) (fun _ _ => rfl) (fun _ _ => rfl)⟩ hh2 ⟨g1, oat_push g2.2 (by omega), g3, g4, g5, g6, by rw [List.length_set]; exact g7⟩ ⟨by omega, by rw [hyn.2.1, if_pos rfl]; omega, by rw [List.length_cons]; omega, q4, by omega, by omega, by omega, by omega, by rw [List.length_cons, List.length_cons]; omega, by omega, by omega, q12⟩ (by omega) (by omega) (by omega)
  rw [List.length_cons] at e
  exact e
theorem v_call (hP : SP σ) (hC : SC σ s (gZ s 6)) (hR : SR σ t) (hn0 : n0 ≤ 64) (hE : IHE σ s t n0 n) (hV : IHV σ s t n0 n) (hh : HRel cl md hd Hd Tl hds tls) (ha : ARel ((k, i, rb) :: w) (r :: os) vars wn wp wb ops) (hn : NRel σ n0 ((k, i, rb) :: w) (nI (yf σ k) :: ns) (pt :: ps) (v :: vs) (r :: os) Sl cl md L LR st (if τ = 1 then 0 else 1)) (h1 : 4 * (6001 - st) + 2 * ((k, i, rb) :: w).length + 1 < n + 1) (h2 : 2 * (4 * (6001 - st) + 2 * ((k, i, rb) :: w).length + 1) < F) (h3 : X + 2 * (4 * (6001 - st) + 2 * ((k, i, rb) :: w).length + 1) < 1000000) (hv : vr cl md hd τ v r) (hk : k < yN σ) (hrb : rb ≤ 24 * w.length) (hc : yCall σ k) (hi : i + 1 = yn σ k) (hτ : τ = yt σ (yo σ k i)) (hpt : pt = nI (yf σ k + (yo σ k (i + 1) - k))) (he : ev cl md hd Sl vars cb rb (ye σ k)) (hL : cb + (ye σ k).length ≤ L) {vs' os' : List Int32} (ho : opr cl md hd (fun j => yt σ (yo σ k j)) i vs os vs' os') (hS : Stk σ cl md hd Sl vars w ns ps cb (cb + (ye σ k).length) (rb + (ye σ k).length) vs' os' (yt σ k)) : GoalR s t n0 (n + 1) F X (cS s (nI (yf σ k) :: ns).reverse (pt :: ps).reverse (v :: vs).reverse Sl Hd Tl (nI cb) (-1) (nI st)) (rS t hds tls hd vars wn wp wb ops (nI cl) (nI md) rbI (nI ((k, i, rb) :: w).length) (nI (r :: os).length) (nI st) (-1)) := by
  have ha' := ha
  have hn' := hn
  obtain ⟨⟨a1, a2, a3, g1⟩, ⟨o1, g2⟩, g3, g4, g5, g6, g7⟩ := ha'
  obtain ⟨q1, q2, q3, q4, q5, q6, q7, q8, q9, q10, q11, q12⟩ := hn'
  have h1' := h1
  have h2' := h2
  have h3' := h3
  rw [List.length_cons] at h1' h2' h3' q6 q10
  rw [List.length_cons, List.length_cons] at q7 q8 q9
  have q2' : 3 * cl + ((if yk σ k = 13 then 1 + i else 1) + wS σ w) + (if τ = 1 then 0 else 1) ≤ st + 3 * n0 := q2
  have q3' : (if yk σ k = 12 ∨ yk σ k = 22 then 1 else 0) + kS σ w + L + (v :: vs).length ≤ st + 1 := q3
  rw [List.length_cons] at q3'
  have hyf := yf_lt hP hk
  have hN := hP.2.2.2.2.2.1
  have hs := hP.1 k hk
  have h24 := hs.1.2.2.2.1
  have hz := hP.2.2.2.2.2.2.2 k hk
  have hck2 : ck (yk σ k) < 100 := by
    rcases ck_lt (yk σ k) with h | h
    · exact h
    · have := hs.1.1
      omega
  have hkd := sc_kind hP hC hk
  obtain ⟨F, rfl⟩ : ∃ G, F = G + 1 := ⟨F - 1, by omega⟩
  have cg := cl_go (s := s) (N := (nI (yf σ k) :: ns).reverse) (P := (pt :: ps).reverse) (V := (v :: vs).reverse) (Sl := Sl) (Hd := Hd) (Tl := Tl) (b := nI cb) (F := F) (X := X) (st := st) (by omega) q12 (by rw [List.length_reverse, List.length_cons]; omega) (by simp)
  have rg := rl_go (t := t) (hds := hds) (tls := tls) (hd := hd) (vars := vars) (wn := wn) (wp := wp) (wb := wb) (ops := ops) (cl := nI cl) (md := nI md) (rb := rbI) (om := nI (os.length + 1)) (n := n) (W := w.length) (c := st) (by omega) q12 g4 g5 g6 a1 a2 a3
  have hcc : ck (yk σ k) = 12 ∨ ck (yk σ k) = 13 ∨ ck (yk σ k) = 18 := by
    rcases hc with c | c | c <;> rw [c] <;> decide
  have hg := hs.2.2.2.2.2.2.2.2.2.1 hc
  have h8 := (hP.2.1 _ hg.1).2.2.2
  have hlast : yo σ k (i + 1) = k + yz σ k := by rw [hi]; exact hs.1.2.2.1
  have hptn : pt = nI (yf σ k + yz σ k) := by rw [hpt, hlast, Nat.add_sub_cancel_left]
  subst hptn
  rw [mc121 (by omega) (by omega) (by omega) hck2 hkd, if_neg (by omega), if_neg (by omega), if_neg (by rw [nI_ne1 (by omega)]; exact id), sc_end hP hC hk, if_pos (by rw [leN (by omega) (by omega)]; omega)] at cg
  have ho2 : opr cl md hd (fun j => yt σ (yo σ k j)) (i + 1) (v :: vs) (r :: os) vs' os' := ⟨v, r, vs, os, rfl, rfl, by show vr cl md hd (yt σ (yo σ k i)) v r; rw [← hτ]; exact hv, ho⟩
  obtain ⟨as, e1, e2, e3, e4, e5⟩ := opr_args ho2 (⟨o1, g2⟩ : oat (r :: os) ops)
  rw [hi] at e2 e3 e5
  have hlen : (v :: vs).length = yn σ k + vs'.length := by rw [e1, List.length_append, e2]
  rw [List.length_cons] at hlen e3
  have ci := c_into (s := s) (Sl := Sl) (Hd := Hd) (Tl := Tl) (vs := vs') (ps := ps) (cb := cb) (N := (nI (yf σ k) :: ns).reverse) (as := as) (pt := nI (yf σ k + yz σ k)) (nx := -1) (sti := nI st) hP hC hk hc e2 (by omega) (by omega) (by omega)
  rw [e1] at cg
  rw [ci] at cg
  have m6 := mr216 (t := t) (hds := hds) (tls := tls) (hd := hd) (vars := vars) (wn := wn) (wp := wp) (wb := wb) (ops := ops) (cl := nI cl) (md := nI md) (ct := nI st) (nw := -1) hP hR hk hc (rv := rb) (O := os'.length) (W := w.length) (by omega) (by omega) (by omega) g7 g3 g4 g5 g6
  rw [← e3] at m6
  rw [rp_call hP hR hk hc hi (rS t hds tls hd vars wn wp wb ops (nI cl) (nI md) (nI rb) (nI w.length) (nI (os.length + 1)) (nI st) (-1)) rfl rfl, m6] at rg
  have hF := into_ok (Sl := Sl) (hd := hd) (vars := vars) (cb := cb) (rb := rb) (cl := cl) (md := md) (w := w) (ns := ns) (ps := ps) (vs := vs') (os := os') (ops := ops) (as := as) hP hk hc hrb he e2 e5 hS (by omega) g3 (by omega)
  have hwp := wat_push (k := k) (i := yn σ k) (rb := rb) g1 (by omega) (by omega) (by omega)
  rw [e1, List.length_cons, List.length_cons]
  refine go_c cg (go_r rg ?_)
  rw [if_neg (show ¬ yk σ k = 13 by rcases hc with h | h | h <;> omega)] at q2'
  rw [if_neg (show ¬ (yk σ k = 12 ∨ yk σ k = 22) by rcases hc with h | h | h <;> omega)] at q3'
  have e := hE _ _ _ _ _ _ _ Hd Tl hds tls _ _ (wn.set w.length (nI k)) (wp.set w.length (nI (yn σ k))) (wb.set w.length (nI rb)) ops _ _ _ _ _ _ st F (X + 1) hF hh ⟨hwp, e4, by rw [vput_len]; exact g3, by rw [List.length_set]; exact g4, by rw [List.length_set]; exact g5, by rw [List.length_set]; exact g6, g7⟩ ⟨q1, ?_, ?_, ?_, ?_, by rw [List.length_cons]; omega, by rw [List.length_cons, List.length_cons]; omega, by rw [List.length_cons, List.length_cons]; omega, by omega, by rw [List.length_cons]; omega, by rw [List.length_cons]; omega, q12⟩ (by rw [List.length_cons]; omega) (by rw [List.length_cons]; omega) (by rw [List.length_cons]; omega)
  · rw [List.length_cons] at e
    exact e
  · show 3 * cl + ((if yk σ k = 13 then 1 + yn σ k else 1) + wS σ w) + 0 ≤ _
    rw [if_neg (show ¬ yk σ k = 13 by rcases hc with h | h | h <;> omega)]
    omega
  · show (if yk σ k = 12 ∨ yk σ k = 22 then 1 else 0) + kS σ w + (cb + (ye σ k).length + yn σ k) + vs'.length ≤ _
    rw [if_neg (show ¬ (yk σ k = 12 ∨ yk σ k = 22) by rcases hc with h | h | h <;> omega)]
    omega
  · rw [List.length_append, List.length_take, List.length_reverse]
    omega
  · rw [List.length_append, List.length_take, List.length_reverse]
    omega
end SimX
