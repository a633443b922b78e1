/-! a node is evaluated -/
def GoalR (s t : xSt) (n0 n F X : Nat) (S T : xSt) : Prop := ∃ b S' T', m115_r78_43 F (nI X) S = some (b, S') ∧ m211_105 n T = some (b, T') ∧ FIN s t n0 b S' T'
def IHE (σ : xG) (s t : xSt) (n0 n : Nat) : Prop := ∀ (k : Nat) (w : List (Nat × Nat × Nat)) (ns ps vs os Sl Hd Tl hds tls hd vars wn wp wb ops : List Int32) (cb rb cl md L LR st F X : Nat), FocE σ k w ns ps vs os Sl hd vars cb rb cl md L LR → HRel cl md hd Hd Tl hds tls → ARel w os vars wn wp wb ops → NRel σ n0 w ns ps vs os Sl cl md L LR st 0 → 4 * (6001 - st) + 2 * w.length < n → 2 * (4 * (6001 - st) + 2 * w.length) < F → X + 2 * (4 * (6001 - st) + 2 * w.length) < 1000000 → GoalR s t n0 n F X (cS s ns.reverse ps.reverse vs.reverse Sl Hd Tl (nI cb) (nI (yf σ k)) (nI st)) (rS t hds tls hd vars wn wp wb ops (nI cl) (nI md) (nI rb) (nI w.length) (nI os.length) (nI st) (nI k))
def IHV (σ : xG) (s t : xSt) (n0 n : Nat) : Prop := ∀ (τ : Nat) (w : List (Nat × Nat × Nat)) (ns ps vs os Sl Hd Tl hds tls hd vars wn wp wb ops : List Int32) (cb cl md L LR st F X : Nat) (rbI : Int32), FocV σ τ w ns ps vs os Sl hd vars cb cl md L LR → HRel cl md hd Hd Tl hds tls → ARel w os vars wn wp wb ops → NRel σ n0 w ns ps vs os Sl cl md L LR st (if τ = 1 then 0 else 1) → 4 * (6001 - st) + 2 * w.length + 1 < n → 2 * (4 * (6001 - st) + 2 * w.length + 1) < F → X + 2 * (4 * (6001 - st) + 2 * w.length + 1) < 1000000 → GoalR s t n0 n F X (cS s ns.reverse ps.reverse vs.reverse Sl Hd Tl (nI cb) (-1) (nI st)) (rS t hds tls hd vars wn wp wb ops (nI cl) (nI md) rbI (nI w.length) (nI os.length) (nI st) (-1))
section SimE
variable {σ : xG} {s t : xSt} {n0 n : Nat} {k : Nat} {w : List (Nat × Nat × Nat)} {ns ps vs os Sl Hd Tl hds tls hd vars wn wp wb ops : List Int32} {cb rb cl md L LR st F X : Nat}
theorem go_c {S S1 : xSt} {T : xSt} (h : m115_r78_43 (F + 1) (nI X) S = (some S1).bind fun q => m115_r78_43 F (nI (X + 1)) q) (hg : GoalR s t n0 n F (X + 1) S1 T) : GoalR s t n0 n (F + 1) X S T := by
  obtain ⟨b, S', T', e1, e2, e3⟩ := hg
  exact ⟨b, S', T', by rw [h, bs]; exact e1, e2, e3⟩
theorem go_r {S : xSt} {T T1 : xSt} (h : m211_105 (n + 1) T = (some T1).bind fun q => m211_105 n q) (hg : GoalR s t n0 n F X S T1) : GoalR s t n0 (n + 1) F X S T := by
  obtain ⟨b, S', T', e1, e2, e3⟩ := hg
  exact ⟨b, S', T', e1, by rw [h, bs]; exact e2, e3⟩
theorem e_leaf (hP : SP σ) (hn0 : n0 ≤ 64) (hV : IHV σ s t n0 n) (hf : FocE σ k w ns ps vs os Sl hd vars cb rb cl md L LR) (hh : HRel cl md hd Hd Tl hds tls) (ha : ARel w os vars wn wp wb ops) (hn : NRel σ n0 w ns ps vs os Sl cl md L LR st 0) (h1 : 4 * (6001 - st) + 2 * w.length < n + 1) (h2 : 2 * (4 * (6001 - st) + 2 * w.length) < F) (h3 : X + 2 * (4 * (6001 - st) + 2 * w.length) < 1000000) {v r : Int32} (hv : vr cl md hd (yt σ k) v r)
    (hc : m120 (nI (yf σ k)) (cS s ns.reverse ps.reverse vs.reverse Sl Hd Tl (nI cb) (nI (yf σ k)) (nI st)) = if st + 1 ≤ 6000 then some (cS s ns.reverse ps.reverse (xsPush 6001 vs.reverse v) Sl Hd Tl (nI cb) (-1) (nI (st + 1))) else some (cS s ns.reverse ps.reverse vs.reverse Sl Hd Tl (nI cb) (-1) (nI (st + 1))))
    (hr : m214 (nI k) (rS t hds tls hd vars wn wp wb ops (nI cl) (nI md) (nI rb) (nI w.length) (nI os.length) (nI st) (nI k)) = some (rS t hds tls hd vars wn wp wb (ops.set os.length r) (nI cl) (nI md) (nI rb) (nI w.length) (nI (os.length + 1)) (nI (st + 1)) (-1))) : GoalR s t n0 (n + 1) F X (cS s ns.reverse ps.reverse vs.reverse Sl Hd Tl (nI cb) (nI (yf σ k)) (nI st)) (rS t hds tls hd vars wn wp wb ops (nI cl) (nI md) (nI rb) (nI w.length) (nI os.length) (nI st) (nI k)) := by
  obtain ⟨f1, f2, f3, f4, f5, f6⟩ := hf
  obtain ⟨g1, g2, g3, g4, g5, g6, g7⟩ := ha
  obtain ⟨q1, q2, q3, q4, q5, q6, q7, q8, q9, q10, q11, q12⟩ := hn
  have hyf := yf_lt hP f1
  have hN := hP.2.2.2.2.2.1
  obtain ⟨F, rfl⟩ : ∃ G, F = G + 1 := ⟨F - 1, by omega⟩
  have cb1 := cl_begin (s := s) (N := ns.reverse) (P := ps.reverse) (V := vs.reverse) (Sl := Sl) (Hd := Hd) (Tl := Tl) (b := nI cb) (F := F) (X := X) (c := yf σ k) (st := st) (by omega) q12 (by rw [List.length_reverse]; omega) (by omega)
  have rb1 := rl_begin (t := t) (hds := hds) (tls := tls) (hd := hd) (vars := vars) (wn := wn) (wp := wp) (wb := wb) (ops := ops) (cl := nI cl) (md := nI md) (rb := nI rb) (wt := nI w.length) (om := nI os.length) (n := n) (k := k) (c := st) (by omega) q12
  rw [hc] at cb1
  rw [hr] at rb1
  by_cases z : st + 1 ≤ 6000
  · rw [if_pos z] at cb1
    refine go_c cb1 (go_r rb1 ?_)
    rw [xsPush_r (by omega)]
    refine hV (yt σ k) w ns ps (v :: vs) (r :: os) Sl Hd Tl hds tls hd vars wn wp wb (ops.set os.length r) cb cl md L LR (st + 1) F (X + 1) (nI rb) ⟨v, r, vs, os, rfl, rfl, hv, f6⟩ hh ⟨g1, oat_push g2 (by omega), g3, g4, g5, g6, by rw [List.length_set]; exact g7⟩ ⟨q1, ?_, by rw [List.length_cons]; omega, by omega, q5, by omega, q7, q8, by rw [List.length_cons, List.length_cons]; omega, by omega, q11, z⟩ (by omega) (by omega) (by omega)
    split <;> omega
  · rw [if_neg z] at cb1
    obtain rfl : st = 6000 := by omega
    refine go_c cb1 (go_r rb1 ?_)
    obtain ⟨n, rfl⟩ : ∃ G, n = G + 1 := ⟨n - 1, by omega⟩
    obtain ⟨F, rfl⟩ : ∃ G, F = G + 1 := ⟨F - 1, by omega⟩
    exact fin_no (by omega) (by rw [List.length_reverse]; omega) (by omega) ⟨hh.2.2.1, hh.2.2.2.1, hh.2.2.2.2.1, g3, g4, g5, g6, by rw [List.length_set]; exact g7⟩
/-- a whole with parts: it waits, its first part is next -/
theorem e_node (hP : SP σ) (hC : SC σ s (gZ s 6)) (hR : SR σ t) (hn0 : n0 ≤ 64) (hE : IHE σ s t n0 n) (hf : FocE σ k w ns ps vs os Sl hd vars cb rb cl md L LR) (hh : HRel cl md hd Hd Tl hds tls) (ha : ARel w os vars wn wp wb ops) (hn : NRel σ n0 w ns ps vs os Sl cl md L LR st 0) (h1 : 4 * (6001 - st) + 2 * w.length < n + 1) (h2 : 2 * (4 * (6001 - st) + 2 * w.length) < F) (h3 : X + 2 * (4 * (6001 - st) + 2 * w.length) < 1000000) {ns2 ps2 : List Int32} (hk3 : 3 ≤ yk σ k) (hnp : yn σ k ≠ 0) (henv : ye σ (yo σ k 0) = ye σ k)
    (h121 : m121 (cS s (nI (yf σ k) :: ns).reverse (nI (yf σ k + 1) :: ps).reverse vs.reverse Sl Hd Tl (nI cb) (-1) (nI (st + 1))) = some (cS s ns2.reverse ps2.reverse vs.reverse Sl Hd Tl (nI cb) (nI (yf σ k + 1)) (nI (st + 1))))
    (hstk : Stk σ cl md hd Sl vars ((k, 0, rb) :: w) ns2 ps2 cb L LR vs os (yt σ (yo σ k 0))) (hl : ns2.length ≤ w.length + 1) (hl2 : ps2.length = ns2.length) : GoalR s t n0 (n + 1) F X (cS s ns.reverse ps.reverse vs.reverse Sl Hd Tl (nI cb) (nI (yf σ k)) (nI st)) (rS t hds tls hd vars wn wp wb ops (nI cl) (nI md) (nI rb) (nI w.length) (nI os.length) (nI st) (nI k)) := by
  obtain ⟨f1, f2, f3, f4, f5, f6⟩ := hf
  obtain ⟨g1, g2, g3, g4, g5, g6, g7⟩ := ha
  obtain ⟨q1, q2, q3, q4, q5, q6, q7, q8, q9, q10, q11, q12⟩ := hn
  have hyf := yf_lt hP f1
  have hN := hP.2.2.2.2.2.1
  have h23 := (hP.1 k f1).1.1
  have hp := yf_part hP f1 (i := 0) (by omega)
  have hy1 : yo σ k 0 = k + 1 := rfl
  have hk1 := ((hP.1 k f1).1.2.2.2.2 0 (by omega)).1
  obtain ⟨F, rfl⟩ : ∃ G, F = G + 2 := ⟨F - 2, by omega⟩
  have cb1 := cl_begin (s := s) (N := ns.reverse) (P := ps.reverse) (V := vs.reverse) (Sl := Sl) (Hd := Hd) (Tl := Tl) (b := nI cb) (F := F + 1) (X := X) (c := yf σ k) (st := st) (by omega) q12 (by rw [List.length_reverse]; omega) (by omega)
  have rb1 := rl_begin (t := t) (hds := hds) (tls := tls) (hd := hd) (vars := vars) (wn := wn) (wp := wp) (wb := wb) (ops := ops) (cl := nI cl) (md := nI md) (rb := nI rb) (wt := nI w.length) (om := nI os.length) (n := n) (k := k) (c := st) (by omega) q12
  have hck : ck (yk σ k) ≠ 19 ∧ ck (yk σ k) ≠ 24 ∧ ck (yk σ k) ≠ 25 := by
    unfold ck
    repeat' split
    all_goals omega
  have hck2 : ck (yk σ k) < 100 := by
    rcases ck_lt (yk σ k) with h | h <;> omega
  rw [mc120 (by omega) (by omega) hck2 (sc_kind hP hC f1), if_neg hck.1, if_neg hck.2.1, if_neg hck.2.2, xsPush_r (by omega), xsPush_r (by omega)] at cb1
  rw [mr214_n hP hR f1 hk3 hnp (by omega) g4 g5 g6] at rb1
  by_cases z : st + 1 ≤ 6000
  · rw [if_pos z] at cb1
    refine go_c cb1 (go_r rb1 ?_)
    have cg := cl_go (s := s) (N := (nI (yf σ k) :: ns).reverse) (P := (nI (yf σ k + 1) :: ps).reverse) (V := vs.reverse) (Sl := Sl) (Hd := Hd) (Tl := Tl) (b := nI cb) (F := F) (X := X + 1) (st := st + 1) (by omega) z (by rw [List.length_reverse, List.length_cons]; omega) (by simp)
    rw [h121] at cg
    refine go_c cg ?_
    have hwp := wat_push (k := k) (i := 0) (rb := rb) g1 (by omega) (by omega) (by omega)
    have e := hE (k + 1) ((k, 0, rb) :: w) ns2 ps2 vs os Sl Hd Tl hds tls hd vars (wn.set w.length (nI k)) (wp.set w.length (nI 0)) (wb.set w.length (nI rb)) ops cb rb cl md L LR (st + 1) F (X + 1 + 1) ⟨by omega, by rw [List.length_cons]; omega, by rw [← hy1, henv]; exact f3, by rw [← hy1, henv]; exact f4, by rw [← hy1, henv]; exact f5, hstk⟩ hh ⟨hwp, g2, g3, by rw [List.length_set]; exact g4, by rw [List.length_set]; exact g5, by rw [List.length_set]; exact g6, g7⟩ ⟨q1, ?_, ?_, by omega, q5, by rw [List.length_cons]; omega, by rw [List.length_cons]; exact hl, hl2, q9, by rw [List.length_cons]; omega, by rw [List.length_cons]; omega, z⟩ (by rw [List.length_cons]; omega) (by rw [List.length_cons]; omega) (by rw [List.length_cons]; omega)
    · rw [hy1] at hp
      rw [List.length_cons, hp, show k + 1 - k = 1 by omega] at e
      exact e
    · show 3 * cl + ((if yk σ k = 13 then 1 + 0 else 1) + wS σ w) + 0 ≤ _
      split <;> omega
    · show (if yk σ k = 12 ∨ yk σ k = 22 then 1 else 0) + kS σ w + L + vs.length ≤ _
      split <;> omega
  · rw [if_neg z] at cb1
    obtain rfl : st = 6000 := by omega
    refine go_c cb1 (go_r rb1 ?_)
    obtain ⟨n, rfl⟩ : ∃ G, n = G + 1 := ⟨n - 1, by omega⟩
    exact fin_no (by omega) (by rw [List.length_reverse]; omega) (by omega) ⟨hh.2.2.1, hh.2.2.2.1, hh.2.2.2.2.1, g3, by rw [List.length_set]; exact g4, by rw [List.length_set]; exact g5, by rw [List.length_set]; exact g6, g7⟩
end SimE
