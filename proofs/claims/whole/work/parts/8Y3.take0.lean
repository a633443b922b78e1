/-! takeProgram: pieces -/
section Take0
variable {s t : xSt} {z : Bool} {n : Nat}
/-- the reference behind the copy of its tape -/
def tkR (S : xSt) : Option (Int32 × xSt) := (m205 (sI S 1 0)).bind fun q2 => (m149 q2).bind fun q3 => if q3.1 ≤ 0 then m204_86 (-1) (sI q3.2 2 q3.1) else m204_86 (gI q3.2 22) (sI q3.2 2 q3.1)
theorem copy_go {B : xSt} {U0 : List Int32} (h1 : gI B 1 = nI n) (h0 : gR B 0 = U0) (hU : U0.length = 8192) (hn : n ≤ 8192) (hb : ∀ x ∈ U0, cv8 x = x) : ∀ (m i f : Nat) (U1 : List Int32), i + m = n → m < f → U1.length = 8192 → (∀ j, j < i → U1.getD j 0 = U0.getD j 0) → ∃ U2, m204_18 f (nI i) (sR B 1 U1) = tkR (sR B 1 U2) ∧ U2.length = 8192 ∧ ∀ j, j < n → U2.getD j 0 = U0.getD j 0 := by
  intro m
  induction m with
  | zero =>
    intro i f U1 hi hf hl he
    obtain ⟨f, rfl⟩ : ∃ f', f = f' + 1 := ⟨f - 1, by omega⟩
    refine ⟨U1, ?_, hl, fun j hj => he j (by omega)⟩
    rw [m204_18, gI_sR, h1, if_pos (by rw [leN (by omega) (by omega)]; omega)]
    rfl
  | succ m ih =>
    intro i f U1 hi hf hl he
    obtain ⟨f, rfl⟩ : ∃ f', f = f' + 1 := ⟨f - 1, by omega⟩
    have hc : cv8 (U0.getD i 0) = U0.getD i 0 := by
      have hi' : i < U0.length := by omega
      rw [List.getD_eq_getElem?_getD, List.getElem?_eq_getElem hi']
      exact hb _ (List.getElem_mem hi')
    obtain ⟨U2, x1, x2, x3⟩ := ih (i + 1) f (U1.set i (U0.getD i 0)) (by omega) (by omega) (by rw [List.length_set]; exact hl) (fun j hj => by
      rw [getD_setn (by omega)]
      by_cases c : j = i
      · rw [if_pos c, c]
      · rw [if_neg c]
        exact he j (by omega))
    refine ⟨U2, ?_, x2, x3⟩
    have h00 : gR (sR B 1 U1) 0 = U0 := h0
    have h01 : gR (sR B 1 U1) 1 = U1 := by rw [gR_sR, if_pos rfl]
    rw [m204_18, gI_sR, h1, if_neg (by rw [leN (by omega) (by omega)]; omega), h00, h01, xsGet_d (by omega) (by omega), bs, xsPut_n (by omega) (by omega), bs, sR_sR, nI_1, show Int8.toInt32 (Int32.toInt8 (U0.getD i 0)) = U0.getD i 0 from hc]
    exact x1
theorem ge_move {T : List Int32} {D N : Nat} {σ : Nat → Nd} {δ : Nat → Dd} {C R : xSt} {a b : Int32} (h : GE T n s t z D σ N δ C R) : GE T n s (sI (sI R 2 a) 3 b) z D σ N δ C (sI (sI R 2 a) 3 b) := by
  obtain ⟨g, nn, i3, i4, i5, i6, i7, i8, i9, j0, l0, qi23, qr2, qr3, qr4, qr5, qr6, qr7, qr8, qr9, qr10, qr11, qr12, qr13, qr14, qr15, qr16, qi22, qi24, qi25, qi26, qi29, qi30, qj0, ql0, ql1, ql2, ql3, eC, eR, hrest⟩ := h
  refine ⟨g, nn, i3, i4, i5, i6, i7, i8, i9, j0, l0, qi23, qr2, qr3, qr4, qr5, qr6, qr7, qr8, qr9, qr10, qr11, qr12, qr13, qr14, qr15, qr16, qi22, qi24, qi25, qi26, qi29, qi30, qj0, ql0, ql1, ql2, ql3, eC, ?_, hrest⟩
  have xr2 : gR (sI (sI R 2 a) 3 b) 2 = qr2 := by
    show gR R 2 = _
    rw [eR, rdR_r2]
  have xr3 : gR (sI (sI R 2 a) 3 b) 3 = qr3 := by
    show gR R 3 = _
    rw [eR, rdR_r3]
  have xr4 : gR (sI (sI R 2 a) 3 b) 4 = qr4 := by
    show gR R 4 = _
    rw [eR, rdR_r4]
  have xr5 : gR (sI (sI R 2 a) 3 b) 5 = qr5 := by
    show gR R 5 = _
    rw [eR, rdR_r5]
  have xr6 : gR (sI (sI R 2 a) 3 b) 6 = qr6 := by
    show gR R 6 = _
    rw [eR, rdR_r6]
  have xr7 : gR (sI (sI R 2 a) 3 b) 7 = qr7 := by
    show gR R 7 = _
    rw [eR, rdR_r7]
  have xr8 : gR (sI (sI R 2 a) 3 b) 8 = qr8 := by
    show gR R 8 = _
    rw [eR, rdR_r8]
  have xr9 : gR (sI (sI R 2 a) 3 b) 9 = qr9 := by
    show gR R 9 = _
    rw [eR, rdR_r9]
  have xr10 : gR (sI (sI R 2 a) 3 b) 10 = qr10 := by
    show gR R 10 = _
    rw [eR, rdR_r10]
  have xr11 : gR (sI (sI R 2 a) 3 b) 11 = qr11 := by
    show gR R 11 = _
    rw [eR, rdR_r11]
  have xr12 : gR (sI (sI R 2 a) 3 b) 12 = qr12 := by
    show gR R 12 = _
    rw [eR, rdR_r12]
  have xr13 : gR (sI (sI R 2 a) 3 b) 13 = qr13 := by
    show gR R 13 = _
    rw [eR, rdR_r13]
  have xr14 : gR (sI (sI R 2 a) 3 b) 14 = qr14 := by
    show gR R 14 = _
    rw [eR, rdR_r14]
  have xr15 : gR (sI (sI R 2 a) 3 b) 15 = qr15 := by
    show gR R 15 = _
    rw [eR, rdR_r15]
  have xr16 : gR (sI (sI R 2 a) 3 b) 16 = qr16 := by
    show gR R 16 = _
    rw [eR, rdR_r16]
  have xi21 : gI (sI (sI R 2 a) 3 b) 21 = 0 := by
    show gI R 21 = _
    rw [eR, rdR_i21]
  have xi22 : gI (sI (sI R 2 a) 3 b) 22 = qi22 := by
    show gI R 22 = _
    rw [eR, rdR_i22]
  have xi23 : gI (sI (sI R 2 a) 3 b) 23 = qi23 := by
    show gI R 23 = _
    rw [eR, rdR_i23]
  have xi24 : gI (sI (sI R 2 a) 3 b) 24 = qi24 := by
    show gI R 24 = _
    rw [eR, rdR_i24]
  have xi25 : gI (sI (sI R 2 a) 3 b) 25 = qi25 := by
    show gI R 25 = _
    rw [eR, rdR_i25]
  have xi26 : gI (sI (sI R 2 a) 3 b) 26 = qi26 := by
    show gI R 26 = _
    rw [eR, rdR_i26]
  have xi27 : gI (sI (sI R 2 a) 3 b) 27 = nI D := by
    show gI R 27 = _
    rw [eR, rdR_i27]
  have xi28 : gI (sI (sI R 2 a) 3 b) 28 = nI N := by
    show gI R 28 = _
    rw [eR, rdR_i28]
  have xi29 : gI (sI (sI R 2 a) 3 b) 29 = qi29 := by
    show gI R 29 = _
    rw [eR, rdR_i29]
  have xi30 : gI (sI (sI R 2 a) 3 b) 30 = qi30 := by
    show gI R 30 = _
    rw [eR, rdR_i30]
  have xj0 : gJ (sI (sI R 2 a) 3 b) 0 = qj0 := by
    show gJ R 0 = _
    rw [eR, rdR_j0]
  have xl0 : gL (sI (sI R 2 a) 3 b) 0 = ql0 := by
    show gL R 0 = _
    rw [eR, rdR_l0]
  have xl1 : gL (sI (sI R 2 a) 3 b) 1 = ql1 := by
    show gL R 1 = _
    rw [eR, rdR_l1]
  have xl2 : gL (sI (sI R 2 a) 3 b) 2 = ql2 := by
    show gL R 2 = _
    rw [eR, rdR_l2]
  have xl3 : gL (sI (sI R 2 a) 3 b) 3 = ql3 := by
    show gL R 3 = _
    rw [eR, rdR_l3]
  have e := rdR_id (sI (sI R 2 a) 3 b)
  rw [xr2, xr3, xr4, xr5, xr6, xr7, xr8, xr9, xr10, xr11, xr12, xr13, xr14, xr15, xr16, xi21, xi22, xi23, xi24, xi25, xi26, xi27, xi28, xi29, xi30, xj0, xl0, xl1, xl2, xl3] at e
  exact e.symm
/-- the two states of reading, their forms alone -/
theorem ge_form {T : List Int32} {D N : Nat} {σ : Nat → Nd} {δ : Nat → Dd} {C R : xSt} (h : GE T n s t z D σ N δ C R) : CF s z 0 (-1) C ∧ ∃ pl, RF t 0 pl R := by
  obtain ⟨g, nn, i3, i4, i5, i6, i7, i8, i9, j0, l0, qi23, qr2, qr3, qr4, qr5, qr6, qr7, qr8, qr9, qr10, qr11, qr12, qr13, qr14, qr15, qr16, qi22, qi24, qi25, qi26, qi29, qi30, qj0, ql0, ql1, ql2, ql3, eC, eR, -, -, -, ⟨⟨hl0, hi3⟩, hnn, -⟩, k1, ⟨h8, h9, h10, h11, h12, h13, h14, g2, g3, h15, h16⟩, -⟩ := h
  subst hi3
  exact ⟨⟨g, nn, [], [], [], i4, i5, i6, i7, i8, i9, -1, 0, j0, l0, true, eC, hl0, hnn⟩, qi22, ⟨qr2, qr3, qr4, qr5, qr6, qr7, qr8, qr9, qr10, qr11, qr12, qr13, qr14, qr15, qr16, qi23, qi24, qi25, qi26, nI D, nI N, qi29, qi30, qj0, ql0, ql1, ql2, ql3, eR, k1, ⟨h8, h9, h10, h11, h12, h13, h14, g2, g3⟩, h15, h16⟩⟩
theorem sc_congr {σ : xG} {S S' : xSt} {y : Bool} (h : ∀ i, gP S y i = gP S' y i) (hs : SC σ S' y) : SC σ S y := by
  unfold SC at hs ⊢
  simp only [h]
  exact hs
/-- frames of our side: what reading and checking leave -/
def CFr (z : Bool) (s S : xSt) : Prop := (gR S 0 = gR s 0 ∧ gR S 14 = gR s 14 ∧ gR S 16 = gR s 16) ∧ (gI S 0 = gI s 0 ∧ gI S 1 = gI s 1) ∧ (gZ S 0 = gZ s 0 ∧ gZ S 1 = gZ s 1 ∧ gZ S 2 = gZ s 2) ∧ (∀ i, gP S (!z) i = gP s (!z) i) ∧ RQC S
def RQ38 (t : xSt) : Prop := (gR t 38).length = 4200 ∧ (gR t 39).length = 4200 ∧ (gR t 40).length = 4200 ∧ (gR t 41).length = 4200 ∧ (gR t 42).length = 4200 ∧ (gR t 43).length = 4200 ∧ (gR t 44).length = 64
/-- frames of the reference's side -/
def RFr (t R : xSt) : Prop := (gR R 0 = gR t 0 ∧ gR R 1 = gR t 1 ∧ gR R 45 = gR t 45 ∧ gR R 46 = gR t 46 ∧ gR R 47 = gR t 47) ∧ (gI R 1 = gI t 1 ∧ gI R 4 = gI t 4 ∧ gI R 5 = gI t 5 ∧ gI R 7 = gI t 7 ∧ gI R 8 = gI t 8 ∧ gI R 9 = gI t 9 ∧ gI R 10 = gI t 10 ∧ gI R 11 = gI t 11) ∧ gZ R 0 = gZ t 0 ∧ (gR R 31 = gR t 31 ∧ gR R 32 = gR t 32 ∧ gR R 33 = gR t 33 ∧ gR R 34 = gR t 34 ∧ gR R 35 = gR t 35 ∧ gR R 36 = gR t 36 ∧ gR R 37 = gR t 37) ∧ RQ38 R ∧ (gR R 48 = gR t 48 ∧ gR R 49 = gR t 49 ∧ gR R 50 = gR t 50 ∧ gR R 51 = gR t 51 ∧ gR R 52 = gR t 52 ∧ gR R 53 = gR t 53 ∧ gR R 54 = gR t 54 ∧ gR R 55 = gR t 55) ∧ RQ2 R ∧ RQ8 R ∧ RQ17 R
theorem cf_fr {f pl : Int32} {C : xSt} (hc : RQC s) (h : CF (sZ s 3 z) z f pl C) : CFr z s C ∧ gI C 2 = f ∧ gI C 3 = pl ∧ (gR C 7).length = 24 := by
  obtain ⟨g, nn, r1, r2, r3, i4, i5, i6, i7, i8, i9, i10, i11, j0, l0, z4, rfl, hl0, hnn⟩ := h
  refine ⟨⟨⟨rfl, rfl, rfl⟩, ⟨rfl, rfl⟩, ⟨rfl, rfl, rfl⟩, fun i => ?_, hl0, fun y => ?_, hc.2.2⟩, rfl, rfl, hc.2.2⟩
  · show zUp s.2.2.2.2.2.1 z g (!z) i = _
    rw [zUp_n]
    rfl
  · have e : gN (rdC (sZ s 3 z) z g nn r1 r2 r3 f pl i4 i5 i6 i7 i8 i9 i10 i11 j0 l0 z4) y = zUp s.2.2.2.2.2.2 z nn y := rfl
    rw [e]
    have h2 := hc.2.1
    cases y <;> cases z
    · exact hnn
    · exact h2 false
    · exact h2 true
    · exact hnn
theorem ck_fr {f pl : Int32} {nn : List Int64} {C C3 : xSt} (hnn : nn.length = 64) (hc : CFr z s C) (h : CkS z nn C C3 f pl) : CFr z s C3 ∧ gI C3 2 = f ∧ gI C3 3 = pl := by
  obtain ⟨g, a4, a5, a6, a7, rfl, h7⟩ := h
  obtain ⟨⟨c1, c2, c3⟩, ⟨c4, c5⟩, ⟨c6, c7, c8⟩, c9, c10, c11, c12⟩ := hc
  refine ⟨⟨⟨c1, c2, c3⟩, ⟨c4, c5⟩, ⟨c6, c7, c8⟩, fun i => ?_, c10, fun y => ?_, h7⟩, rfl, rfl⟩
  · rw [← c9 i]
    show zUp C.2.2.2.2.2.1 z g (!z) i = _
    rw [zUp_n]
    rfl
  · have e : gN (ckC (sZ C 5 z) z g nn a4 a5 a6 a7 f pl) y = zUp C.2.2.2.2.2.2 z nn y := rfl
    rw [e]
    cases y <;> cases z
    · exact hnn
    · exact c11 false
    · exact c11 true
    · exact hnn
theorem rf_fr {f pl : Int32} {R : xSt} (hq : RQ17 t) (h38 : RQ38 t) (h : RF (sI t 19 0) f pl R) : RFr t R ∧ gI R 21 = f ∧ gI R 22 = pl ∧ gI R 20 = gI t 20 := by
  obtain ⟨qr2, qr3, qr4, qr5, qr6, qr7, qr8, qr9, qr10, qr11, qr12, qr13, qr14, qr15, qr16, qi23, qi24, qi25, qi26, qi27, qi28, qi29, qi30, qj0, ql0, ql1, ql2, ql3, rfl, k2, ⟨h8, h9, h10, h11, h12, h13, h14, g2, g3⟩, h15, h16⟩ := h
  exact ⟨⟨⟨rfl, rfl, rfl, rfl, rfl⟩, ⟨rfl, rfl, rfl, rfl, rfl, rfl, rfl, rfl⟩, rfl, ⟨rfl, rfl, rfl, rfl, rfl, rfl, rfl⟩, h38, ⟨rfl, rfl, rfl, rfl, rfl, rfl, rfl, rfl⟩, k2, ⟨h8, h9, h10, h11, h12, h13, h14, g2, g3, h15, h16⟩, hq⟩, rfl, rfl, rfl⟩
theorem ty_fr {R R3 : xSt} {a b : Int32} (h : RFr t R) (hs : TyS (sI (sI R 2 a) 3 b) R3) : RFr t R3 := by
  obtain ⟨r17, r18, r19, r20, r21, r22, r23, r24, r25, r26, r27, r28, r29, r30, i31, i32, i33, i34, i35, i36, l4, l5, l6, l7, z1, rfl, hq⟩ := hs
  obtain ⟨f1, f2, f3, f4, f4b, f5, f6, f7, f8⟩ := h
  exact ⟨f1, f2, f3, f4, f4b, f5, f6, f7, hq⟩
end Take0
