/-! applyBatch -/
section Apply
variable {s t : xSt}
/-- a run leaves all but its own rows -/
theorem fin_keep {n0 : Nat} {b : Bool} {S T : xSt} (h : FIN s t n0 b S T) : (∃ N P V Sl Hd Tl i12 i13 i14, S = cS s N P V Sl Hd Tl i12 i13 i14) ∧ (∃ hds tls hd vars wn wp wb ops j12 j13 j14 j15 j16 j17 j18, T = rS t hds tls hd vars wn wp wb ops j12 j13 j14 j15 j16 j17 j18) ∧ RL T := by
  obtain ⟨N, P, V, Sl, Hd, Tl, i12, i13, hds, tls, hd, vars, wn, wp, wb, ops, j12, j13, j14, j15, j16, j18, st, rfl, rfl, -, hl, -⟩ := h
  exact ⟨⟨N, P, V, Sl, Hd, Tl, i12, i13, _, rfl⟩, ⟨hds, tls, hd, vars, wn, wp, wb, ops, j12, j13, j14, j15, j16, _, j18, rfl⟩, hl⟩
theorem cS_move {N P V Sl Hd Tl x y : List Int32} {a b c w : Int32} : sI (sR (sR (cS s N P V Sl Hd Tl a b c) 14 x) 15 y) 15 w = cS (sI (sR (sR s 14 x) 15 y) 15 w) N P V Sl Hd Tl a b c := by
  unfold cS
  refine Prod.ext ?_ (Prod.ext ?_ rfl)
  · funext j
    show bUp _ _ _ j = bUp _ _ _ j
    simp only [sR, sI, bUp_if]
    by_cases e1 : j = 14
    · simp [e1]
    · by_cases e2 : j = 15
      · simp [e2]
      · simp [e1, e2]
  · funext j
    show bUp _ _ _ j = bUp _ _ _ j
    simp only [sR, sI, bUp_if]
    by_cases e2 : j = 15
    · simp [e2]
    · simp [e2]
theorem rS_move {hds tls hd vars wn wp wb ops y : List Int32} {a b c d e f g v w : Int32} : sI (sR (sI (rS t hds tls hd vars wn wp wb ops a b c d e f g) 7 v) 45 y) 9 w = rS (sI (sR (sI t 7 v) 45 y) 9 w) hds tls hd vars wn wp wb ops a b c d e f g := by
  unfold rS
  refine Prod.ext ?_ (Prod.ext ?_ rfl)
  · funext j
    show bUp _ _ _ j = bUp _ _ _ j
    simp only [sR, sI, bUp_if]
    by_cases e1 : j = 45
    · simp [e1]
    · simp [e1]
  · funext j
    show bUp _ _ _ j = bUp _ _ _ j
    simp only [sR, sI, bUp_if]
    by_cases e1 : j = 7
    · simp [e1]
    · by_cases e2 : j = 9
      · simp [e2]
      · simp [e1, e2]
theorem apply_ok (hT : RT s t) (hI : RI s t) (hE : RE s t) (hO : RO s t) (hP : RP s t) : ∃ r s' t', m142 s = some (r, s') ∧ m229 t = some (r, t') ∧ RT s' t' ∧ RI s' t' ∧ RE s' t' ∧ RO s' t' ∧ RP s' t' ∧ gR s' 0 = gR s 0 := by
  have hO' := hO
  have hP' := hP
  obtain ⟨⟨o1, o2, o3, o4⟩, o5, o6, o7, o8⟩ := hO
  obtain ⟨p1, p2, p3⟩ := hP
  unfold m142 m229
  cases z : gZ s 2
  · rw [← o4, z, if_neg ff, if_neg ff]
    obtain ⟨s', t', y, e1, e2, e3, e4, e5, e6⟩ := become_ok (t := sI t 0 0) hI hE
    rw [e1, e2, bs, bs]
    subst e5 e6
    exact ⟨_, _, _, rfl, rfl, hT, e3, e4, hO', hP', rfl⟩
  · rw [← o4, z, if_pos rfl, if_pos rfl]
    obtain ⟨σ, s1, s2, s3⟩ := p3 z
    obtain ⟨b, S, T, r1, r2, r3⟩ := run81 (s := s) (t := sI t 0 0) s1 (z := gZ s 0) s2 (show SR σ (sI t 0 0) from s3) (xs := gR s 15) rfl hE.1 hE.2.2.1 p1
    rw [hE.2.1, r1, r2, bs, bs]
    obtain ⟨k1, k2, k3⟩ := fin_keep r3
    cases b
    · rw [if_neg ff, if_neg ff]
      obtain ⟨N, P, V, Sl, Hd, Tl, i12, i13, i14, rfl⟩ := k1
      obtain ⟨hds, tls, hd, vars, wn, wp, wb, ops, j12, j13, j14, j15, j16, j17, j18, rfl⟩ := k2
      exact ⟨_, _, _, rfl, rfl, hT, hI, hE, hO', ⟨k3, p2, fun _ => ⟨σ, s1, s2, s3⟩⟩, rfl⟩
    · rw [if_pos rfl, if_pos rfl]
      obtain ⟨N, P, V, Sl, Hd, Tl, i12, i13, hds, tls, hd, vars, wn, wp, wb, ops, j12, j13, j14, j15, j16, j18, st, rfl, rfl, f1, f2, f3⟩ := r3
      obtain ⟨s', t', y, e1, e2, e3, e4, e5, e6⟩ := become_ok (s := cS (sZ s 6 (gZ s 0)) N P V Sl Hd Tl i12 i13 (nI st)) (t := rS (sI t 0 0) hds tls hd vars wn wp wb ops j12 j13 j14 j15 j16 (nI st) j18) hI hE
      rw [cS_move] at e5
      rw [rS_move] at e6
      have hF2 : FIN (sI (sR (sR (sZ s 6 (gZ s 0)) 14 (gR s 15)) 15 (gR s 15)) 15 0) (sI (sR (sI (sI t 0 0) 7 (gI t 8)) 45 y) 9 0) (gR s 15).length true s' t' := ⟨N, P, V, Sl, Hd, Tl, i12, i13, hds, tls, hd, vars, wn, wp, wb, ops, j12, j13, j14, j15, j16, j18, st, e5, e6, f1, f2, f3⟩
      obtain ⟨zs, ys, q1, q2, q3, q4, q5, q6⟩ := out_ok hE.1 hF2 o6
      rw [e1, bs, e2, bs, q1, q2, bs, bs]
      subst e5 e6
      refine ⟨_, _, _, rfl, rfl, hT, e3, e4, ⟨⟨o1, o2, ?_, o4⟩, q5, q4, fun _ => ⟨q6, rfl, q3⟩, fun q => ?_⟩, ⟨f2, p2, fun _ => ⟨σ, s1, s2, s3⟩⟩, rfl⟩
      · show gI s 1 + 1 = gI t 4 + 1
        rw [o3]
      · have q' : gZ s 2 = false := q
        rw [z] at q'
        cases q'
end Apply
