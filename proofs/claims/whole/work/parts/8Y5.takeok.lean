section TakeOk
variable {s t t1 : xSt} {z : Bool} {n : Nat}
theorem m13_n {S : xSt} (h : ¬ gI S 2 = 0) : m13 S = some (true, S) := by
  unfold m13
  rw [if_neg h]
theorem m13_z {S : xSt} (h : gI S 2 = 0) : m13 S = some (false, S) := by
  unfold m13
  rw [if_pos h]
theorem end_c2 {S : xSt} (h : (gR S 14).length ≤ 64) : m134_53 S = some (gI S 2, Sff S) := by
  unfold m134_53 m25_r78
  have e : gR (sR S 0 (xsCut (gR S 0) 0)) 14 = gR S 14 := rfl
  rw [e, if_pos h, bs, xsCut_0]
  rfl
/-- a run of what is taken -/
theorem rf_l8 {f pl : Int32} {t R : xSt} (h : RF (sI t 19 0) f pl R) : gL R 8 = gL t 8 := by
  obtain ⟨qr2, qr3, qr4, qr5, qr6, qr7, qr8, qr9, qr10, qr11, qr12, qr13, qr14, qr15, qr16, qi23, qi24, qi25, qi26, qi27, qi28, qi29, qi30, qj0, ql0, ql1, ql2, ql3, rfl, -⟩ := h
  rfl
theorem ty_l8 {R R3 : xSt} {a b : Int32} (hs : TyS (sI (sI R 2 a) 3 b) R3) : gL R3 8 = gL R 8 := by
  obtain ⟨r17, r18, r19, r20, r21, r22, r23, r24, r25, r26, r27, r28, r29, r30, i31, i32, i33, i34, i35, i36, l4, l5, l6, l7, z1, rfl, hq⟩ := hs
  rfl
theorem start_ok {C3 R3 : xSt} {σ : xG} (hT : RT s t) (hI : RI s t) (hO : RO s t) (hP : RP s t) (hQ : RQ s t) (hz : gZ s 1 = z) (h1 : T1r t t1) (hE1 : RE (sI (sR s 15 (gR s 14)) 15 0) t1) (hC : CFr z s C3) (e2 : gI C3 2 = 0) (e3 : gI C3 3 = -1) (hR : RFr t1 R3) (r3 : gI R3 3 = -1) (hSP : SP σ) (hSC : SC σ C3 z) (hln : ∀ (qr31 qr32 qr33 qr34 qr35 qr36 qr37 qr38 qr39 qr40 qr41 qr42 qr43 qr44 : List Int32) (qi5 qi6 : Int32), qr31.length = 4200 → qr32.length = 4200 → qr33.length = 4200 → qr34.length = 4200 → qr35.length = 4200 → qr36.length = 4200 → qr37.length = 64 → ∃ a31 a32 a33 a34 a35 a36 a37 ai, m210 (lnR (sI R3 2 0) qr31 qr32 qr33 qr34 qr35 qr36 qr37 qr38 qr39 qr40 qr41 qr42 qr43 qr44 qi5 qi6) = some (lnR (sI R3 2 0) a31 a32 a33 a34 a35 a36 a37 qr38 qr39 qr40 qr41 qr42 qr43 qr44 ai qi6) ∧ SR σ (lnR (sI R3 2 0) a31 a32 a33 a34 a35 a36 a37 qr38 qr39 qr40 qr41 qr42 qr43 qr44 ai qi6)) : ∃ r s' t', ((m135 C3).bind fun q7 => m134_53 q7) = some (r, s') ∧ ((m209 (sI R3 2 0)).bind fun q8 => (m210 q8).bind fun q9 => (m211 (gI q9 7) false q9).bind fun q10 => if q10.1 = true then (m223 (sZ q10.2 0 true)).bind fun q12 => some (0, q12) else (m222 q10.2).bind fun q13 => some (7, (sI q13 2 7))) = some (r, t') ∧ RT s' t' ∧ RI s' t' ∧ RE s' t' ∧ RO s' t' ∧ RP s' t' ∧ RQ s' t' ∧ gR s' 0 = [] ∧ gL t' 8 = gL R3 8 := by
  have hC' := hC
  have hR' := hR
  have h1' := h1
  obtain ⟨⟨c1, c2, c3⟩, ⟨c4, c5⟩, ⟨c6, c7, c8⟩, c9, c10⟩ := hC
  obtain ⟨⟨x1, x2, x3, x4⟩, ⟨x5, x6, x7, x8, x9, x10⟩, x11, ⟨x12, x13, x14, x15, x16, x17, x18⟩, x26⟩ := h1
  obtain ⟨⟨y1, y2, y3, y4, y5⟩, ⟨y6, y7, y8, y9, y10, y11, y12, y13⟩, y14, ⟨y15, y16, y17, y18, y19, y20, y21⟩, ⟨y22, y23, y24, y25, y26, y27, y28⟩, ⟨y29, y30, y31, y32, y33, y34, y35, y36⟩, y37, y38, y39⟩ := hR
  have hO' := hO
  obtain ⟨⟨o1, o2, o3, o4⟩, o5, o6, o7, o8⟩ := hO
  have hP' := hP
  obtain ⟨p1, p2, p3⟩ := hP
  have hQ' := hQ
  obtain ⟨q1, q2, q3, q4, q5, q6, q7⟩ := hQ
  obtain ⟨i1, i2, i3, i4⟩ := hI
  have hI' : RI s t := ⟨i1, i2, i3, i4⟩
  have hz0 : gZ s 0 = !z := by rw [← hz, p2]; cases gZ s 0 <;> rfl
  have l31 : RQ31 R3 := by
    unfold RQ31 at q6 ⊢
    rw [y15.trans x12, y16.trans x13, y17.trans x14, y18.trans x15, y19.trans x16, y20.trans x17, y21.trans x18]
    obtain ⟨w1, w2, w3, w4, w5, w6, w7, -⟩ := q6
    exact ⟨w1, w2, w3, w4, w5, w6, w7, y22, y23, y24, y25, y26, y27, y28⟩
  obtain ⟨m31, m32, m33, m34, m35, m36, m37, m38, m39, m40, m41, m42, m43, m44⟩ := l31
  -- keep
  have ek : m209 (sI R3 2 0) = some (lnR (sI R3 2 0) (gR R3 31) (gR R3 32) (gR R3 33) (gR R3 34) (gR R3 35) (gR R3 36) (gR R3 37) (gR R3 31) (gR R3 32) (gR R3 33) (gR R3 34) (gR R3 35) (gR R3 36) (gR R3 37) (gI R3 5) (gI R3 5)) := by
    have h := keep_eq (t := sI R3 2 0) (qr31 := gR R3 31) (qr32 := gR R3 32) (qr33 := gR R3 33) (qr34 := gR R3 34) (qr35 := gR R3 35) (qr36 := gR R3 36) (qr37 := gR R3 37) (qr38 := gR R3 38) (qr39 := gR R3 39) (qr40 := gR R3 40) (qr41 := gR R3 41) (qr42 := gR R3 42) (qr43 := gR R3 43) (qr44 := gR R3 44) (qi5 := gI R3 5) (qi6 := gI R3 6) m31 m32 m33 m34 m35 m36 m37 m38 m39 m40 m41 m42 m43 m44
    have e := lnR_id (sI R3 2 0)
    have e' : lnR (sI R3 2 0) (gR R3 31) (gR R3 32) (gR R3 33) (gR R3 34) (gR R3 35) (gR R3 36) (gR R3 37) (gR R3 38) (gR R3 39) (gR R3 40) (gR R3 41) (gR R3 42) (gR R3 43) (gR R3 44) (gI R3 5) (gI R3 6) = sI R3 2 0 := e
    rw [e'] at h
    exact h
  obtain ⟨a31, a32, a33, a34, a35, a36, a37, ai, el, hSR⟩ := hln (gR R3 31) (gR R3 32) (gR R3 33) (gR R3 34) (gR R3 35) (gR R3 36) (gR R3 37) (gR R3 31) (gR R3 32) (gR R3 33) (gR R3 34) (gR R3 35) (gR R3 36) (gR R3 37) (gI R3 5) (gI R3 5) m31 m32 m33 m34 m35 m36 m37
  rw [ek, bs, el, bs]
  have g7 : gI (lnR (sI R3 2 0) a31 a32 a33 a34 a35 a36 a37 (gR R3 31) (gR R3 32) (gR R3 33) (gR R3 34) (gR R3 35) (gR R3 36) (gR R3 37) ai (gI R3 5)) 7 = nI (gR s 14).length := by
    show gI R3 7 = _
    rw [y9, x8, i2]
  have g45 : gR (lnR (sI R3 2 0) a31 a32 a33 a34 a35 a36 a37 (gR R3 31) (gR R3 32) (gR R3 33) (gR R3 34) (gR R3 35) (gR R3 36) (gR R3 37) ai (gI R3 5)) 45 = gR t 45 := by
    show gR R3 45 = _
    rw [y3, x3]
  have gRL : RL (lnR (sI R3 2 0) a31 a32 a33 a34 a35 a36 a37 (gR R3 31) (gR R3 32) (gR R3 33) (gR R3 34) (gR R3 35) (gR R3 36) (gR R3 37) ai (gI R3 5)) := by
    show (gR R3 48).length = 12200 ∧ (gR R3 49).length = 12200 ∧ (gR R3 50).length = 12400 ∧ (gR R3 51).length = 290000 ∧ (gR R3 52).length = 12100 ∧ (gR R3 53).length = 12100 ∧ (gR R3 54).length = 12100 ∧ (gR R3 55).length = 100000
    rw [y29, y30, y31, y32, y33, y34, y35, y36]
    exact x26
  obtain ⟨b, S', T', u1, u2, u3⟩ := run78 (s := C3) (z := z) hSP hSC hSR (xs := gR s 14) c2 i1 (by rw [g45]; exact i3) gRL
  rw [g7, u2, bs]
  unfold m135
  rw [c7, hz, u1, bs]
  obtain ⟨N, P, V, Sl, Hd, Tl, j12, j13, hds, tls, hd, vars, wn, wp, wb, ops, k12, k13, k14, k15, k16, k18, st, eS, eT, f1, f2, f3⟩ := u3
  cases b
  · rw [if_neg ff, if_neg ff]
    -- too many steps
    have eb : m222 T' = some (lnR T' (gR R3 31) (gR R3 32) (gR R3 33) (gR R3 34) (gR R3 35) (gR R3 36) (gR R3 37) (gR R3 31) (gR R3 32) (gR R3 33) (gR R3 34) (gR R3 35) (gR R3 36) (gR R3 37) (gI R3 5) (gI R3 5)) := by
      have lens : SR σ (lnR (sI R3 2 0) a31 a32 a33 a34 a35 a36 a37 (gR R3 31) (gR R3 32) (gR R3 33) (gR R3 34) (gR R3 35) (gR R3 36) (gR R3 37) ai (gI R3 5)) := hSR
      obtain ⟨-, -, -, n31, n32, n33, n34, n35, n36, n37⟩ := lens
      rw [lnR_r31] at n31
      rw [lnR_r32] at n32
      rw [lnR_r33] at n33
      rw [lnR_r34] at n34
      rw [lnR_r35] at n35
      rw [lnR_r36] at n36
      rw [lnR_r37] at n37
      have h := bring_eq (t := T') (qr31 := a31) (qr32 := a32) (qr33 := a33) (qr34 := a34) (qr35 := a35) (qr36 := a36) (qr37 := a37) (qr38 := gR R3 31) (qr39 := gR R3 32) (qr40 := gR R3 33) (qr41 := gR R3 34) (qr42 := gR R3 35) (qr43 := gR R3 36) (qr44 := gR R3 37) (qi5 := ai) (qi6 := gI R3 5) n31 n32 n33 n34 n35 n36 n37 m31 m32 m33 m34 m35 m36 m37
      have e' : lnR T' a31 a32 a33 a34 a35 a36 a37 (gR R3 31) (gR R3 32) (gR R3 33) (gR R3 34) (gR R3 35) (gR R3 36) (gR R3 37) ai (gI R3 5) = T' := by
        have e := lnR_id T'
        rw [eT] at e ⊢
        exact e
      rw [e'] at h
      exact h
    have e14 : m14 7 (-1) S' = some (sI (sI S' 2 7) 3 (-1)) := by
      unfold m14
      have : gI S' 2 = 0 := by rw [eS]; exact e2
      rw [if_pos this]
    have hCS : CFr z s (sI (sI S' 2 7) 3 (-1)) := by
      rw [eS]
      exact hC'
    have hend := end_c (s := s) i1 hCS
    have hg2 : gI (sI (sI S' 2 7) 3 (-1)) 2 = 7 := rfl
    rw [hg2] at hend
    rw [e14, bs, bs, hend, eb, bs]
    have t1d : T1r t (rS t1 hds tls hd vars wn wp wb ops k12 k13 k14 k15 k16 (nI st) k18) := by
      obtain ⟨z1, z2, z3, z4, z5⟩ := h1'
      exact ⟨z1, z2, z3, z4, f2⟩
    have hE2 : RE (sI (sR s 15 (gR s 14)) 15 0) (rS t1 hds tls hd vars wn wp wb ops k12 k13 k14 k15 k16 (nI st) k18) := hE1
    have hRF : RFr (rS t1 hds tls hd vars wn wp wb ops k12 k13 k14 k15 k16 (nI st) k18) (sI (lnR T' (gR R3 31) (gR R3 32) (gR R3 33) (gR R3 34) (gR R3 35) (gR R3 36) (gR R3 37) (gR R3 31) (gR R3 32) (gR R3 33) (gR R3 34) (gR R3 35) (gR R3 36) (gR R3 37) (gI R3 5) (gI R3 5)) 2 7) := by
      rw [eT]
      exact ⟨⟨y1, y2, y3, y4, y5⟩, ⟨y6, y7, y8, y9, y10, y11, y12, y13⟩, y14, ⟨y15, y16, y17, y18, y19, y20, y21⟩, ⟨m31, m32, m33, m34, m35, m36, m37⟩, ⟨rfl, rfl, rfl, rfl, rfl, rfl, rfl, rfl⟩, y37, y38, y39⟩
    obtain ⟨v1, v2, v3, v4, v5, v6⟩ := fault_inv hT hI' hO' hP' hQ' hz t1d hE2 hCS hRF rfl (by rw [eT]; exact r3.symm)
    exact ⟨_, _, _, rfl, rfl, v1, v2, v3, v4, v5, v6, rfl, by rw [eT]; rfl⟩
  · rw [if_pos rfl, if_pos rfl]
    have eS2 : sZ (sZ (sZ S' 0 (gZ S' 1)) 1 (gZ S' 0)) 2 true = cS (sZ (sZ (sZ (sZ C3 6 z) 0 z) 1 (!z)) 2 true) N P V Sl Hd Tl j12 j13 (nI st) := by
      have w1 : gZ S' 1 = z := by rw [eS]; exact c7.trans hz
      have w0 : gZ S' 0 = !z := by rw [eS]; exact c6.trans hz0
      rw [w1, w0, eS]
      rfl
    have eT2 : sZ T' 0 true = rS (sZ (lnR (sI R3 2 0) a31 a32 a33 a34 a35 a36 a37 (gR R3 31) (gR R3 32) (gR R3 33) (gR R3 34) (gR R3 35) (gR R3 36) (gR R3 37) ai (gI R3 5)) 0 true) hds tls hd vars wn wp wb ops k12 k13 k14 k15 k16 (nI st) k18 := by
      rw [eT]
      rfl
    have hF2 : FIN (sZ (sZ (sZ (sZ C3 6 z) 0 z) 1 (!z)) 2 true) (sZ (lnR (sI R3 2 0) a31 a32 a33 a34 a35 a36 a37 (gR R3 31) (gR R3 32) (gR R3 33) (gR R3 34) (gR R3 35) (gR R3 36) (gR R3 37) ai (gI R3 5)) 0 true) (gR s 14).length true (sZ (sZ (sZ S' 0 (gZ S' 1)) 1 (gZ S' 0)) 2 true) (sZ T' 0 true) := ⟨N, P, V, Sl, Hd, Tl, j12, j13, hds, tls, hd, vars, wn, wp, wb, ops, k12, k13, k14, k15, k16, k18, st, eS2, eT2, f1, f2, f3⟩
    obtain ⟨zs, ys, w1, w2, w3, w4, w5, w6⟩ := out_ok i1 hF2 (by show (gR R3 47).length = 12200; rw [y5, x4]; exact o6)
    rw [w1, bs, bs, w2, bs]
    rw [eS2, eT2] at w6 ⊢
    have hend : m134_53 (sI (sR (cS (sZ (sZ (sZ (sZ C3 6 z) 0 z) 1 (!z)) 2 true) N P V Sl Hd Tl j12 j13 (nI st)) 16 zs) 0 (gI (cS (sZ (sZ (sZ (sZ C3 6 z) 0 z) 1 (!z)) 2 true) N P V Sl Hd Tl j12 j13 (nI st)) 14)) = some (0, Sff (sI (sR (cS (sZ (sZ (sZ (sZ C3 6 z) 0 z) 1 (!z)) 2 true) N P V Sl Hd Tl j12 j13 (nI st)) 16 zs) 0 (gI (cS (sZ (sZ (sZ (sZ C3 6 z) 0 z) 1 (!z)) 2 true) N P V Sl Hd Tl j12 j13 (nI st)) 14))) := by
      have hle : (gR (sI (sR (cS (sZ (sZ (sZ (sZ C3 6 z) 0 z) 1 (!z)) 2 true) N P V Sl Hd Tl j12 j13 (nI st)) 16 zs) 0 (gI (cS (sZ (sZ (sZ (sZ C3 6 z) 0 z) 1 (!z)) 2 true) N P V Sl Hd Tl j12 j13 (nI st)) 14)) 14).length ≤ 64 := by
        show (gR C3 14).length ≤ 64
        rw [c2]
        exact i1
      refine (end_c2 hle).trans ?_
      rw [show gI (sI (sR (cS (sZ (sZ (sZ (sZ C3 6 z) 0 z) 1 (!z)) 2 true) N P V Sl Hd Tl j12 j13 (nI st)) 16 zs) 0 (gI (cS (sZ (sZ (sZ (sZ C3 6 z) 0 z) 1 (!z)) 2 true) N P V Sl Hd Tl j12 j13 (nI st)) 14)) 2 = 0 from e2]
    rw [hend]
    refine ⟨_, _, _, rfl, rfl, ?_, ?_, ?_, ?_, ?_, ?_, rfl, rfl⟩
    · show TR [] (gR R3 0) 0 ∧ gI R3 1 = nI 0
      rw [y1, x1, y6, x5]
      exact ⟨⟨rfl, by decide, hT.1.2.2.1, fun i hi => absurd hi (by simp)⟩, rfl⟩
    · show (gR C3 14).length ≤ 64 ∧ gI R3 7 = nI (gR C3 14).length ∧ ArrR (gR R3 45) (gR C3 14) ∧ (gR R3 45).length = 64
      rw [c2, y9, x8, y3, x3]
      exact hI'
    · show (gR C3 14).length ≤ 64 ∧ gI R3 8 = nI (gR C3 14).length ∧ ArrR (gR R3 46) (gR C3 14) ∧ (gR R3 46).length = 64 ∧ ∃ k, k ≤ 32 ∧ (0 : Int32) = nI k ∧ gI R3 9 = nI k
      rw [c2, y10, y4, y11]
      exact hE1
    · refine ⟨⟨?_, ?_, ?_, rfl⟩, w5, w4, fun _ => ⟨w6, rfl, w3⟩, fun q => by cases q⟩
      · show gI C3 2 = 0
        exact e2
      · show gI C3 3 = gI R3 3
        rw [e3, r3]
      · show gI C3 1 = gI R3 4
        rw [c5, y7, x6]
        exact o3
    · refine ⟨f2, ?_, fun _ => ⟨σ, hSP, hSC, hSR⟩⟩
      show (!z) = !z
      rfl
    · refine ⟨c10, ?_, y37, y38, y39, ?_, ?_⟩
      · show (gR R3 1).length = 8192
        rw [y2]
        exact x2
      · obtain ⟨-, -, -, n31, n32, n33, n34, n35, n36, n37⟩ := hSR
        exact ⟨n31, n32, n33, n34, n35, n36, n37, m31, m32, m33, m34, m35, m36, m37⟩
      · show ∀ x ∈ gR R3 0, cv8 x = x
        rw [y1, x1]
        exact q7
end TakeOk
