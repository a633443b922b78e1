/-! into what a definition says -/
section SimC
variable {σ : xG} {s t : xSt} {n0 n : Nat} {k : Nat} {w : List (Nat × Nat × Nat)} {ns ps vs os Sl Hd Tl hds tls hd vars wn wp wb ops : List Int32} {cb rb cl md L LR st F X : Nat}
theorem take_app {xs ys : List Int32} {m j : Nat} (hm : m ≤ xs.length) (hj : j < m) : (xs.take m ++ ys).getD j 0 = xs.getD j 0 := by
  rw [getD_app_l (by rw [List.length_take]; omega), getD_take_n hj]
theorem take_app2 {xs ys : List Int32} {m j : Nat} (hm : m ≤ xs.length) : (xs.take m ++ ys).getD (m + j) 0 = ys.getD j 0 := by
  rw [List.getD_eq_getElem?_getD, List.getElem?_append_right (by rw [List.length_take]; omega), List.length_take, show m + j - min m xs.length = j by omega, List.getD_eq_getElem?_getD]
theorem take_app0 {xs ys : List Int32} {m : Nat} {y : Int32} (hm : m ≤ xs.length) : (xs.take m ++ y :: ys).getD m 0 = y := take_app2 (j := 0) hm
theorem into_ok (hP : SP σ) (hk : k < yN σ) (hc : yCall σ k) (hrb : rb ≤ 24 * w.length) (he : ev cl md hd Sl vars cb rb (ye σ k)) {as : List Int32} (has : as.length = yn σ k) (hargs : ∀ j, j < yn σ k → vr cl md hd (yt σ (yo σ k j)) (as.reverse.getD j 0) (ops.getD (os.length + j) 0)) (hS : Stk σ cl md hd Sl vars w ns ps cb (cb + (ye σ k).length) (rb + (ye σ k).length) vs os (yt σ k)) (hL : cb + (ye σ k).length ≤ Sl.length) (hv : vars.length = 290000) (hw : w.length < 7000) :
    FocE σ (yb σ (yg σ k)) ((k, yn σ k, rb) :: w) (nI (yf σ k) :: ns) ((-1) :: ps) vs os (Sl.take (cb + (ye σ k).length) ++ as.reverse) hd (vput (rb + 24) os.length ops (yn σ k) vars) (cb + (ye σ k).length) (rb + 24) cl md (cb + (ye σ k).length + yn σ k) (rb + 24 + yn σ k) := by
  have hg := (hP.1 k hk).2.2.2.2.2.2.2.2.2.1 hc
  have h24 := (hP.1 k hk).1.2.2.2.1
  obtain ⟨b1, b2, b3, b4⟩ := hP.2.1 _ hg.1
  have hvp : ∀ j, j < rb + 24 → (vput (rb + 24) os.length ops (yn σ k) vars).getD j 0 = vars.getD j 0 := fun j hj => by rw [vput_at (by omega), if_neg (by omega)]
  have hsl : ∀ j, j < cb + (ye σ k).length → (Sl.take (cb + (ye σ k).length) ++ as.reverse).getD j 0 = Sl.getD j 0 := fun j hj => take_app hL hj
  refine ⟨b1, by rw [List.length_cons]; omega, ?_, by rw [b3, ← hg.2.1], by rw [b3, ← hg.2.1], ⟨hk, hrb⟩, cb, ?_, by omega, by omega, ?_⟩
  · intro j hj
    rw [b3, ← hg.2.1] at hj
    rw [take_app2 hL, vput_at (by omega), if_pos (by omega), Nat.add_sub_cancel_left, b3, ← (hg.2.2.2 j hj).1]
    exact hargs j hj
  · exact ev_mono he (Nat.le_refl _) (Nat.le_refl _) (fun _ _ => rfl) hsl (fun j hj => hvp j (by omega : j < rb + 24)) (Nat.le_refl _) (by omega : rb + (ye σ k).length ≤ rb + 24)
  · refine Or.inr ⟨ns, ps, rfl, Or.inr (Or.inr ⟨hc, rfl, rfl, hg.2.2.1.symm, rfl, ?_⟩)⟩
    exact stk_mono (Nat.le_refl _) (Nat.le_refl _) (fun _ _ => rfl) hS (Nat.le_refl _) (Nat.le_refl _) hsl (fun j hj => hvp j (by omega))
theorem c_into (hP : SP σ) (hC : SC σ s (gZ s 6)) (hk : k < yN σ) (hc : yCall σ k) {N as : List Int32} {pt nx sti : Int32} (has : as.length = yn σ k) (hps : ps.length < 10000) (hvs : vs.length < 9000) (hb : cb + (ye σ k).length + yn σ k ≤ 6001) : m127 (nI (yf σ k)) (cS s N (pt :: ps).reverse (as ++ vs).reverse Sl Hd Tl (nI cb) nx sti) = some (cS s N ((-1) :: ps).reverse vs.reverse (Sl.take (cb + (ye σ k).length) ++ as.reverse) Hd Tl (nI (cb + (ye σ k).length)) (nI (yf σ (yb σ (yg σ k)))) sti) := by
  have hg := (hP.1 k hk).2.2.2.2.2.2.2.2.2.1 hc
  obtain ⟨b1, b2, b3, b4⟩ := hP.2.1 _ hg.1
  have hM := hP.2.2.2.2.2.2.1
  have hN := hP.2.2.2.2.2.1
  have hyf := yf_lt hP hk
  have h1 : ck (yk σ k) = 12 ∨ ck (yk σ k) = 13 ∨ ck (yk σ k) = 18 := by
    rcases hc with c | c | c <;> rw [c] <;> decide
  rw [mc127a (S := cS s N (pt :: ps).reverse (as ++ vs).reverse Sl Hd Tl (nI cb) nx sti) h1 (sc_kind hP hC hk)]
  have h2 := hC.2.1 _ hg.1
  rw [mc128 (d := yg σ k) (n := yn σ k) (dp := (ye σ k).length) (nd := yb σ (yg σ k) + yg σ k) (by omega) (by omega) (by omega) (by rw [xsAt_n (by omega), (hC.1 k hk).2.2.2.2.2 hc]) (sc_dep hP hC hk) (by rw [xsAt_n (by omega), h2.2, hg.2.1]) (by rw [xsAt_n (by omega), h2.1]) has (by omega) hb]
  unfold yf
  rw [b2]
theorem e_call0 (hP : SP σ) (hC : SC σ s (gZ s 6)) (hR : SR σ t) (hn0 : n0 ≤ 64) (hE : IHE σ s t n0 n) (hf : FocE σ k w ns ps vs os Sl hd vars cb rb cl md L LR) (hh : HRel cl md hd Hd Tl hds tls) (ha : ARel w os vars wn wp wb ops) (hn : NRel σ n0 w ns ps vs os Sl cl md L LR st 0) (h1 : 4 * (6001 - st) + 2 * w.length < n + 1) (h2 : 2 * (4 * (6001 - st) + 2 * w.length) < F) (h3 : X + 2 * (4 * (6001 - st) + 2 * w.length) < 1000000) (hc : yCall σ k) (hnp : yn σ k = 0) : GoalR s t n0 (n + 1) F X (cS s ns.reverse ps.reverse vs.reverse Sl Hd Tl (nI cb) (nI (yf σ k)) (nI st)) (rS t hds tls hd vars wn wp wb ops (nI cl) (nI md) (nI rb) (nI w.length) (nI os.length) (nI st) (nI k)) := by
  obtain ⟨f1, f2, f3, f4, f5, f6⟩ := hf
  obtain ⟨g1, g2, g3, g4, g5, g6, g7⟩ := ha
  obtain ⟨q1, q2, q3, q4, q5, q6, q7, q8, q9, q10, q11, q12⟩ := hn
  have hyf := yf_lt hP f1
  have hN := hP.2.2.2.2.2.1
  have h23 := (hP.1 k f1).1.1
  have hg := (hP.1 k f1).2.2.2.2.2.2.2.2.2.1 hc
  have hyz : yz σ k = 1 := by
    have := (hP.1 k f1).1.2.2.1
    rw [hnp] at this
    have e : yo σ k 0 = k + 1 := rfl
    omega
  have hk3 : 3 ≤ yk σ k := by rcases hc with c | c | c <;> omega
  obtain ⟨F, rfl⟩ : ∃ G, F = G + 2 := ⟨F - 2, by omega⟩
  have cb1 := cl_begin (s := s) (N := ns.reverse) (P := ps.reverse) (V := vs.reverse) (Sl := Sl) (Hd := Hd) (Tl := Tl) (b := nI cb) (F := F + 1) (X := X) (c := yf σ k) (st := st) (by omega) q12 (by rw [List.length_reverse]; omega) (by omega)
  have rb1 := rl_begin (t := t) (hds := hds) (tls := tls) (hd := hd) (vars := vars) (wn := wn) (wp := wp) (wb := wb) (ops := ops) (cl := nI cl) (md := nI md) (rb := nI rb) (wt := nI w.length) (om := nI os.length) (n := n) (k := k) (c := st) (by omega) q12
  have hck : ck (yk σ k) = 12 ∨ ck (yk σ k) = 13 ∨ ck (yk σ k) = 18 := by
    rcases hc with c | c | c <;> rw [c] <;> decide
  rw [mc120 (by omega) (by omega) (by omega) (sc_kind hP hC f1), if_neg (show ¬ ck (yk σ k) = 19 by omega), if_neg (show ¬ ck (yk σ k) = 24 by omega), if_neg (show ¬ ck (yk σ k) = 25 by omega), xsPush_r (by omega), xsPush_r (by omega)] at cb1
  have m6 := mr216 (t := t) (hds := hds) (tls := tls) (hd := hd) (vars := vars) (wn := wn) (wp := wp) (wb := wb) (ops := ops) (cl := nI cl) (md := nI md) (ct := nI (st + 1)) (nw := nI k) hP hR f1 hc (rv := rb) (O := os.length) (W := w.length) (by omega) (by omega) (by omega) g7 g3 g4 g5 g6
  rw [mr214_c hP hR f1 hk3 hnp] at rb1
  rw [hnp, Nat.add_zero] at m6
  rw [m6] at rb1
  by_cases z : st + 1 ≤ 6000
  · rw [if_pos z] at cb1
    refine go_c cb1 (go_r rb1 ?_)
    have cg := cl_go (s := s) (N := (nI (yf σ k) :: ns).reverse) (P := (nI (yf σ k + 1) :: ps).reverse) (V := vs.reverse) (Sl := Sl) (Hd := Hd) (Tl := Tl) (b := nI cb) (F := F) (X := X + 1) (st := st + 1) (by omega) z (by rw [List.length_reverse, List.length_cons]; omega) (by simp)
    have ci := c_into (s := s) (Sl := Sl) (Hd := Hd) (Tl := Tl) (vs := vs) (ps := ps) (cb := cb) (N := (nI (yf σ k) :: ns).reverse) (as := []) (pt := nI (yf σ k + 1)) (nx := -1) (sti := nI (st + 1)) hP hC f1 hc (by rw [hnp]; rfl) (by omega) (by omega) (by omega)
    rw [mc121 (by omega) (by omega) (by omega) (by omega) (sc_kind hP hC f1), if_neg (by omega), if_neg (by omega), if_neg (by rw [nI_ne1 (by omega)]; exact id), sc_end hP hC f1, hyz, if_pos (by rw [leN (by omega) (by omega)]; omega)] at cg
    rw [List.nil_append] at ci
    rw [ci] at cg
    refine go_c cg ?_
    have hF := into_ok (Sl := Sl) (hd := hd) (vars := vars) (cb := cb) (rb := rb) (cl := cl) (md := md) (w := w) (ns := ns) (ps := ps) (vs := vs) (os := os) (ops := ops) (as := []) hP f1 hc f2 f3 (by rw [hnp]; rfl) (fun j hj => absurd hj (by omega)) (by rw [← f4, ← f5]; exact f6) (by rw [← f4]; exact q5) g3 (by omega)
    have hwp := wat_push (k := k) (i := 0) (rb := rb) g1 (by omega) (by omega) (by omega)
    rw [hnp] at hF
    have e := hE _ _ _ _ _ _ _ Hd Tl hds tls _ _ (wn.set w.length (nI k)) (wp.set w.length (nI 0)) (wb.set w.length (nI rb)) ops _ _ _ _ _ _ (st + 1) F (X + 1 + 1) hF hh ⟨hwp, g2, by rw [vput_len]; exact g3, by rw [List.length_set]; exact g4, by rw [List.length_set]; exact g5, by rw [List.length_set]; exact g6, g7⟩ ⟨q1, ?_, ?_, ?_, ?_, by rw [List.length_cons]; omega, by rw [List.length_cons, List.length_cons]; omega, by rw [List.length_cons, List.length_cons, q8], q9, by rw [List.length_cons]; omega, by rw [List.length_cons]; omega, z⟩ (by rw [List.length_cons]; omega) (by rw [List.length_cons]; omega) (by rw [List.length_cons]; omega)
    · rw [List.length_cons] at e
      exact e
    · show 3 * cl + ((if yk σ k = 13 then 1 + 0 else 1) + wS σ w) + 0 ≤ _
      split <;> omega
    · show (if yk σ k = 12 ∨ yk σ k = 22 then 1 else 0) + kS σ w + (cb + (ye σ k).length + 0) + vs.length ≤ _
      split <;> omega
    · rw [List.length_append, List.length_take]
      show _ + 0 ≤ _
      omega
    · rw [List.length_append, List.length_take]
      show _ ≤ _ + 0
      omega
  · rw [if_neg z] at cb1
    obtain rfl : st = 6000 := by omega
    refine go_c cb1 (go_r rb1 ?_)
    obtain ⟨n, rfl⟩ : ∃ G, n = G + 1 := ⟨n - 1, by omega⟩
    exact fin_no (by omega) (by rw [List.length_reverse]; omega) (by omega) ⟨hh.2.2.1, hh.2.2.2.1, hh.2.2.2.2.1, by rw [vput_len]; exact g3, by rw [List.length_set]; exact g4, by rw [List.length_set]; exact g5, by rw [List.length_set]; exact g6, g7⟩
end SimC
