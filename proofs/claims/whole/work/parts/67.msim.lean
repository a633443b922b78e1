/-! THE RUNS AGREE -/
section SimZ
variable {σ : xG} {s t : xSt} {n0 n : Nat}
theorem stk_len {cl md : Nat} {hd Sl vars : List Int32} : ∀ {w : List (Nat × Nat × Nat)} {ns ps : List Int32} {cb L LR : Nat} {vs os : List Int32} {τ : Nat}, Stk σ cl md hd Sl vars w ns ps cb L LR vs os τ → ns.length ≤ w.length := by
  intro w
  induction w with
  | nil => intro ns ps cb L LR vs os τ h; rw [h.1]; exact Nat.le_refl _
  | cons e w ih =>
    obtain ⟨k, i, rb⟩ := e
    intro ns ps cb L LR vs os τ h
    obtain ⟨-, cb', -, -, -, alt⟩ := h
    rw [List.length_cons]
    rcases alt with ⟨-, -, -, -, a5⟩ | ⟨ns', ps', rfl, ⟨-, -, -, -, -, a6⟩ | ⟨-, -, -, -, -, vs1, os1, -, a7⟩ | ⟨-, -, -, -, -, a6⟩⟩
    · have := ih a5
      omega
    · have := ih a6
      rw [List.length_cons]
      omega
    · have := ih a7
      rw [List.length_cons]
      omega
    · have := ih a6
      rw [List.length_cons]
      omega
theorem stepV (hP : SP σ) (hC : SC σ s (gZ s 6)) (hR : SR σ t) (hn0 : n0 ≤ 64) (hE : IHE σ s t n0 n) (hV : IHV σ s t n0 n) : IHV σ s t n0 (n + 1) := by
  intro τ w ns ps vs os Sl Hd Tl hds tls hd vars wn wp wb ops cb cl md L LR st F X rbI hf hh ha hn h1 h2 h3
  obtain ⟨v, r, vs', os', rfl, rfl, hv, hS⟩ := hf
  cases w with
  | nil =>
    obtain ⟨rfl, rfl, rfl, rfl, rfl, rfl⟩ := hS
    obtain ⟨q1, q2, q3, q4, q5, q6, q7, q8, q9, q10, q11, q12⟩ := hn
    obtain ⟨g1, ⟨o1, g2⟩, g3, g4, g5, g6, g7⟩ := ha
    have q2' : 3 * cl + 0 + (if 3 = 1 then 0 else 1) ≤ st + 3 * n0 := q2
    have q10' : md + 0 ≤ n0 + 1 + st := q10
    obtain ⟨F, rfl⟩ : ∃ G, F = G + 1 := ⟨F - 1, by omega⟩
    refine ⟨decide (st ≤ 6000), _, _, cl_end (by omega) (by omega) (by decide) (fun h => by rcases h.2 with h | h; exact h rfl; exact h rfl), rl_end (W := 0) (by omega) (by decide) (Or.inr ⟨by decide, rfl⟩), [], [], [v], Sl, Hd, Tl, nI 0, -1, hds, tls, hd, vars, wn, wp, wb, ops, nI cl, nI md, rbI, nI 0, nI 1, -1, st, rfl, rfl, by omega, ⟨hh.2.2.1, hh.2.2.2.1, hh.2.2.2.2.1, g3, g4, g5, g6, g7⟩, fun _ => ⟨cl, md, v, rfl, by rw [show ops.getD 0 0 = r from o1]; exact hv, hh, ?_, by omega⟩⟩
    rw [if_neg (by decide)] at q2'
    omega
  | cons e w =>
    obtain ⟨k, i, rb⟩ := e
    obtain ⟨⟨hk, hrb⟩, cb', he, hL, hLR, alt⟩ := hS
    have h24 := (hP.1 k hk).1.2.2.2.1
    rcases alt with ⟨a1, a2, rfl, a4, a5⟩ | ⟨ns', ps', rfl, ⟨a1, a2, rfl, a4, rfl, a6⟩ | ⟨a1, a2, rfl, a4, rfl, vs1, os1, a6, a7⟩ | ⟨a1, a2, a3, a4, rfl, a6⟩⟩
    · have hl5 : ns.length ≤ w.length := stk_len a5
      exact v_mod hP hR hn0 hV hh ha hn h1 h2 h3 hv hk hL (by omega) a1 a2 a4 a5 hl5
    · rcases a1 with c | c | c | c
      · exact v_if hP hC hR hn0 hE hV hh ha hn h1 h2 h3 hv hk hrb c a2 a4 rfl he hL a6
      · exact v_let hP hC hR hn0 hE hV hh ha hn h1 h2 h3 hv hk hrb c a2 a4 rfl he hL a6
      · exact v_case hP hC hR hn0 hE hV hh ha hn h1 h2 h3 hv hk hrb c a2 a4 rfl he hL a6
      · exact v_read hP hC hR hn0 hE hV hh ha hn h1 h2 h3 hv hk hrb c a2 a4 rfl he hL a6
    · by_cases z : i + 1 < yn σ k
      · exact v_next hP hC hR hn0 hE hV hh ha hn h1 h2 h3 hv hk hrb a1 z a4 rfl he hL a6 a7
      · have z2 : i + 1 = yn σ k := by omega
        rcases a1 with c | c | c
        · exact v_op hP hC hR hn0 hE hV hh ha hn h1 h2 h3 hv hk hrb c z2 a4 rfl he hL a6 a7
        · exact v_cons hP hC hR hn0 hE hV hh ha hn h1 h2 h3 hv hk hrb c z2 a4 rfl he hL a6 a7
        · exact v_call hP hC hR hn0 hE hV hh ha hn h1 h2 h3 hv hk hrb c z2 a4 rfl he hL a6 a7
    · exact v_ret hP hC hR hn0 hE hV hh ha hn h1 h2 h3 hv hk hrb a1 a2 a3 a4 rfl hL (by omega) a6
theorem sim (hP : SP σ) (hC : SC σ s (gZ s 6)) (hR : SR σ t) (hn0 : n0 ≤ 64) : ∀ n, IHE σ s t n0 n ∧ IHV σ s t n0 n := by
  intro n
  induction n with
  | zero => exact ⟨fun k w ns ps vs os Sl Hd Tl hds tls hd vars wn wp wb ops cb rb cl md L LR st F X _ _ _ _ h => absurd h (by omega), fun τ w ns ps vs os Sl Hd Tl hds tls hd vars wn wp wb ops cb cl md L LR st F X rbI _ _ _ _ h => absurd h (by omega)⟩
  | succ n ih => exact ⟨stepE hP hC hR hn0 ih.1 ih.2, stepV hP hC hR hn0 ih.1 ih.2⟩
end SimZ
