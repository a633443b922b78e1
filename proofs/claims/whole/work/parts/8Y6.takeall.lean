section TakeAll
variable {s t : xSt}
theorem takeP_ok (hT : RT s t) (hI : RI s t) (hE : RE s t) (hO : RO s t) (hP : RP s t) (hQ : RQ s t) (hn4 : (gR s 0).length ≤ 4088) : ∃ r s' t', m134 s = some (r, s') ∧ m204 t = some (r, t') ∧ RT s' t' ∧ RI s' t' ∧ RE s' t' ∧ RO s' t' ∧ RP s' t' ∧ RQ s' t' ∧ gR s' 0 = [] ∧ gL t' 8 = gL t 8 := by
  have hQ' := hQ
  obtain ⟨q1, q2, q3, q4, q5, q6, q7⟩ := hQ
  obtain ⟨⟨b1, b2, b3, b4⟩, b5⟩ := id hT
  obtain ⟨U2, x1, x2, x3⟩ := copy_go (n := (gR s 0).length) (B := sI (sI t 0 0) 20 (gI t 1)) (U0 := gR t 0) b5 rfl b3 (by omega) q7 (gR s 0).length 0 1000000 (gR t 1) (by omega) (by omega) q2 (fun j hj => by omega)
  have eB : sR (sI (sI t 0 0) 20 (gI t 1)) 1 (gR t 1) = sI (sI t 0 0) 20 (gI t 1) := sR_id (sI (sI t 0 0) 20 (gI t 1)) 1
  rw [eB] at x1
  have hm204 : m204 t = tkR (sR (sI (sI t 0 0) 20 (gI t 1)) 1 U2) := x1
  obtain ⟨s2, t1, d1, d2, d3, d4, d5, ⟨w, wb, wc, rfl⟩⟩ := drop_ok (s := s) (t := sI (sR (sI (sI t 0 0) 20 (gI t 1)) 1 U2) 1 0) hI hE.2.2.2.1
  have hs2 : s2 = sI (sR s 15 (gR s 14)) 15 0 := by
    unfold m25_r78 at d1
    rw [if_pos hI.1] at d1
    injection d1 with d1
    exact d1.symm
  subst hs2
  generalize ht1 : sR (sI (sI (sI (sI (sR (sI (sI t 0 0) 20 (gI t 1)) 1 U2) 1 0) 0 0) 8 wb) 9 wc) 46 w = t1 at d2 d3 d4
  have h1 : T1r t t1 := by
    rw [← ht1]
    exact ⟨⟨rfl, x2, rfl, rfl⟩, ⟨rfl, rfl, rfl, rfl, rfl, rfl⟩, rfl, ⟨rfl, rfl, rfl, rfl, rfl, rfl, rfl⟩, hP.1⟩
  have hTR : TR (gR s 0) (gR t1 1) (gR s 0).length := by
    rw [← ht1]
    refine ⟨rfl, b2, x2, fun i hi => ?_⟩
    show tcr ((gR s 0).getD i 0) (U2.getD i 0)
    rw [x3 i hi]
    exact b4 i hi
  have h88 : gL t1 8 = gL t 8 := by rw [← ht1]; rfl
  have h20 : gI t1 20 = nI (gR s 0).length := by
    rw [← ht1]
    exact b5
  have r2 : RQ2 t1 := by rw [← ht1]; exact q3
  have r8 : RQ8 t1 := by rw [← ht1]; exact q4
  have r17 : RQ17 t1 := by rw [← ht1]; exact q5
  have r38 : RQ38 t1 := by
    rw [← ht1]
    obtain ⟨-, -, -, -, -, -, -, v1, v2, v3, v4, v5, v6, v7⟩ := q6
    exact ⟨v1, v2, v3, v4, v5, v6, v7⟩
  have hrd := read_ok (s := sI (sI s 2 0) 3 (-1)) (t := t1) (z := gZ s 1) hTR rfl h20 hn4 rfl rfl q1 r2 r8
  have hm134 : m134 s = (m76 (gZ s 1) (sI (sI s 2 0) 3 (-1))).bind fun q1 => (m13 q1).bind fun q2 => if q2.1 = true then m134_39 q2.2 else (m100 (gZ q2.2 1) q2.2).bind fun q8 => m134_39 q8 := rfl
  rw [hm134, hm204]
  unfold tkR
  rw [d2, bs]
  rcases hrd with ⟨f, pl, q, c, e1, e2, e3, e4, e5⟩ | ⟨R2, C2, D, N, σ, δ, e1, e2, e3⟩
  · -- a fault of reading
    obtain ⟨c1, c2, c3, c4⟩ := cf_fr (s := sI (sI s 2 0) 3 (-1)) q1 e5
    obtain ⟨k1, k2, k3, k4⟩ := rf_fr r17 r38 e4
    have c1' : CFr (gZ s 1) s c := c1
    have hf0 : ¬ f = 0 := by rcases e1 with rfl | rfl | rfl <;> decide
    have hfl : ¬ f ≤ 0 := by rcases e1 with rfl | rfl | rfl <;> decide
    rw [e3, bs, m13_n (by rw [c2]; exact hf0), bs, if_pos rfl]
    unfold m134_39
    rw [m13_n (by rw [c2]; exact hf0), bs, if_pos rfl, end_c hI.1 c1', e2, bs, if_neg hfl]
    unfold m204_86
    have g2 : gI (sI q 2 f) 2 = f := rfl
    rw [if_neg (show ¬ gI (sI q 2 f) 2 ≤ 0 from hfl)]
    have hRF : RFr t1 (sI (sI q 2 f) 3 (gI q 22)) := k1
    obtain ⟨v1, v2, v3, v4, v5, v6⟩ := fault_inv hT hI hO hP hQ' rfl h1 d4 c1' hRF c2 (by rw [c3]; exact k3.symm)
    rw [c2]
    exact ⟨f, _, _, rfl, rfl, v1, v2, v3, v4, v5, v6, rfl, (rf_l8 e4).trans h88⟩
  · obtain ⟨f1, pl, f2⟩ := ge_form e3
    obtain ⟨c1, c2, c3, c4⟩ := cf_fr (s := sI (sI s 2 0) 3 (-1)) q1 f1
    obtain ⟨k1, k2, k3, k4⟩ := rf_fr r17 r38 f2
    have c1' : CFr (gZ s 1) s C2 := c1
    have hz1 : gZ C2 1 = gZ s 1 := c1.2.2.1.2.1
    rw [e2, bs, m13_z c2, bs, if_neg ff, hz1, e1, bs, if_pos (show (0 : Int32) ≤ 0 by decide)]
    unfold m204_86
    rw [if_pos (show gI (sI R2 2 0) 2 ≤ 0 by show (0 : Int32) ≤ 0; decide)]
    have hGE := ge_move (a := 0) (b := -1) e3
    have hck := chk_ok (s := sZ (sI (sI s 2 0) 3 (-1)) 3 (gZ s 1)) (t := sI (sI R2 2 0) 3 (-1)) (n := (gR s 0).length) rfl rfl (by show gI R2 20 = _; rw [k4]; exact h20) hn4 q1.2.2 (by obtain ⟨-, -, -, -, -, -, -, -, y⟩ := k1; exact y) hGE
    rcases hck with ⟨fn, pl2, nn, C3, R3, g1, g2, g3, g4, g5, g6, g7⟩ | ⟨C3, R3, nn, g1, g2, g3, g4, g5, wf, hN, hD, dk, hSP, hSC, hRd, hRb⟩
    · -- a fault of checking
      obtain ⟨j1, j2, j3⟩ := ck_fr g4 c1' g5
      have l1 := ty_fr k1 g6
      have hf0 : ¬ nI fn = 0 := by rcases g1 with rfl | rfl | rfl <;> decide
      have hfl : ¬ nI fn ≤ 0 := by rcases g1 with rfl | rfl | rfl <;> decide
      rw [g2, bs]
      unfold m134_39
      rw [m13_n (by rw [j2]; exact hf0), bs, if_pos rfl, end_c hI.1 j1, g3, bs, if_neg hfl, g7, bs]
      obtain ⟨v1, v2, v3, v4, v5, v6⟩ := fault_inv (tf := sI (sI R3 2 (nI fn)) 3 pl2) hT hI hO hP hQ' rfl h1 d4 j1 l1 j2 (by rw [j3]; rfl)
      rw [j2]
      exact ⟨nI fn, _, _, rfl, rfl, v1, v2, v3, v4, v5, v6, rfl, (ty_l8 g6).trans ((rf_l8 f2).trans h88)⟩
    · obtain ⟨j1, j2, j3⟩ := ck_fr g3 c1' g4
      have l1 := ty_fr k1 g5
      have r3 : gI R3 3 = -1 := by
        obtain ⟨r17', r18', r19', r20', r21', r22', r23', r24', r25', r26', r27', r28', r29', r30', i31, i32, i33, i34, i35, i36, l4, l5, l6, l7, z1, rfl, hq⟩ := g5
        rfl
      rw [g1, bs]
      unfold m134_39
      rw [m13_z j2, bs, if_neg ff, g2, bs, if_pos (show (0 : Int32) ≤ 0 by decide)]
      rw [← ((ty_l8 g5).trans ((rf_l8 f2).trans h88))]
      refine start_ok hT hI hO hP hQ' rfl h1 d4 j1 j2 j3 l1 r3 hSP hSC (fun qr31 qr32 qr33 qr34 qr35 qr36 qr37 qr38 qr39 qr40 qr41 qr42 qr43 qr44 qi5 qi6 m31 m32 m33 m34 m35 m36 m37 => ?_)
      obtain ⟨a31, a32, a33, a34, a35, a36, a37, z1, z2⟩ := learn_ok (t := sI R3 2 0) (qr38 := qr38) (qr39 := qr39) (qr40 := qr40) (qr41 := qr41) (qr42 := qr42) (qr43 := qr43) (qr44 := qr44) (qi5 := qi5) (qi6 := qi6) wf hN hD dk hRd hRb m31 m32 m33 m34 m35 m36 m37
      exact ⟨a31, a32, a33, a34, a35, a36, a37, nI D, z1, z2⟩
end TakeAll
