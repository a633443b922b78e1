/-! both read the text -/
section Read
variable {s t : xSt} {z : Bool} {n : Nat}
theorem zUp_id {α : Type} (f : Bool → α) (z : Bool) : zUp f z (f z) = f := by
  funext y
  cases y <;> cases z <;> rfl
theorem sPf_id (s : xSt) (z : Bool) : sPf s z (gP s z) = s := by
  show (s.1, s.2.1, s.2.2.1, s.2.2.2.1, s.2.2.2.2.1, zUp s.2.2.2.2.2.1 z (s.2.2.2.2.2.1 z), s.2.2.2.2.2.2) = s
  rw [zUp_id]
theorem sN_id (s : xSt) (z : Bool) : sN s z (gN s z) = s := by
  show (s.1, s.2.1, s.2.2.1, s.2.2.2.1, s.2.2.2.2.1, s.2.2.2.2.2.1, zUp s.2.2.2.2.2.2 z (s.2.2.2.2.2.2 z)) = s
  rw [zUp_id]
theorem rdC_id (s : xSt) (z : Bool) : rdC s z (gP s z) (gN s z) (gR s 1) (gR s 2) (gR s 3) (gI s 2) (gI s 3) (gI s 4) (gI s 5) (gI s 6) (gI s 7) (gI s 8) (gI s 9) (gI s 10) (gI s 11) (gJ s 0) (gL s 0) (gZ s 4) = s := by
  unfold rdC
  simp only [sPf_id, sN_id, sR_id, sI_id, sJ_id, sL_id, sZ_id]
theorem ckC_id (s : xSt) (z : Bool) : ckC s z (gP s z) (gN s z) (gR s 4) (gR s 5) (gR s 6) (gR s 7) (gI s 2) (gI s 3) = s := by
  unfold ckC
  simp only [sPf_id, sN_id, sR_id, sI_id, sJ_id, sL_id, sZ_id]
section
variable {s : xSt} {z : Bool} {g : Nat → List Int32} {nn : List Int64} {r1 r2 r3 : List Int32} {i2 i3 i4 i5 i6 i7 i8 i9 i10 i11 : Int32} {j0 : Int64} {l0 : List Int64} {z4 : Bool}
theorem m77_eq (hz : gZ s 3 = z) : ∃ g', m77 (rdC s z g nn r1 r2 r3 i2 i3 i4 i5 i6 i7 i8 i9 i10 i11 j0 l0 z4) = some (rdC s z g' nn [] [] [] i2 i3 0 i5 i6 i7 i8 i9 (-1) 0 j0 l0 false) ∧ ∀ j, j ≤ 9 → g' j = [] := by
  have h53 : ∃ g', m53 z (rdC s z g nn r1 r2 r3 i2 i3 i4 i5 i6 i7 i8 i9 i10 i11 j0 l0 z4) = some (rdC s z g' nn r1 r2 r3 i2 i3 i4 i5 i6 i7 i8 i9 i10 i11 j0 l0 z4) ∧ ∀ j, j ≤ 9 → g' j = [] := by
    refine ⟨bUp (bUp (bUp (bUp (bUp (bUp (bUp (bUp (bUp (bUp g 0 []) 1 []) 2 []) 3 []) 4 []) 5 []) 6 []) 7 []) 8 []) 9 [], ?_, fun j hj => ?_⟩
    · unfold m53
      cases z
      · show m53f _ = _
        unfold m53f
        simp only [rdC_gP, rdC_sP, xsCut_0]
      · show m53t _ = _
        unfold m53t
        simp only [rdC_gP, rdC_sP, xsCut_0]
    · have hh : j = 0 ∨ j = 1 ∨ j = 2 ∨ j = 3 ∨ j = 4 ∨ j = 5 ∨ j = 6 ∨ j = 7 ∨ j = 8 ∨ j = 9 := by omega
      simp only [bUp_if]
      rcases hh with rfl | rfl | rfl | rfl | rfl | rfl | rfl | rfl | rfl | rfl <;> rfl
  obtain ⟨g', e1, e2⟩ := h53
  refine ⟨g', ?_, e2⟩
  unfold m77
  rw [rdC_oz3, hz, e1, bs]
  simp only [rdC_r1, rdC_r2, rdC_r3, rdC_si4, rdC_sr1, rdC_sr2, rdC_sr3, rdC_si11, rdC_si10, rdC_sz4, xsCut_0]
end
theorem read_ok {T : List Int32} (h : TR T (gR t 1) n) (hT : gR s 0 = T) (hn : gI t 20 = nI n) (hn4 : n ≤ 4088) (hi2 : gI s 2 = 0) (hi3 : gI s 3 = -1) (hc : RQC s) (h2 : RQ2 t) (h8 : RQ8 t) : Fl2 (sZ s 3 z) (sI t 19 0) z (m149 t) (m76 z s) ∨ ∃ (R2 C2 : xSt) (D N : Nat) (σ : Nat → Nd) (δ : Nat → Dd), m149 t = some (0, R2) ∧ m76 z s = some C2 ∧ GE T n (sZ s 3 z) (sI t 19 0) z D σ N δ C2 R2 := by
  have eC : sZ s 3 z = rdC (sZ s 3 z) z (gP s z) (gN s z) (gR s 1) (gR s 2) (gR s 3) 0 (-1) (gI s 4) (gI s 5) (gI s 6) (gI s 7) (gI s 8) (gI s 9) (gI s 10) (gI s 11) (gJ s 0) (gL s 0) (gZ s 4) := by
    have e := rdC_id (sZ s 3 z) z
    rw [show gI (sZ s 3 z) 2 = 0 from hi2, show gI (sZ s 3 z) 3 = -1 from hi3] at e
    exact e.symm
  obtain ⟨g', e1, e2⟩ := m77_eq (s := sZ s 3 z) (z := z) (g := gP s z) (nn := gN s z) (r1 := gR s 1) (r2 := gR s 2) (r3 := gR s 3) (i2 := 0) (i3 := -1) (i4 := gI s 4) (i5 := gI s 5) (i6 := gI s 6) (i7 := gI s 7) (i8 := gI s 8) (i9 := gI s 9) (i10 := gI s 10) (i11 := gI s 11) (j0 := gJ s 0) (l0 := gL s 0) (z4 := gZ s 4) rfl
  have hm76 : m76 z s = LC 0 (rdC (sZ s 3 z) z g' (gN s z) [] [] [] 0 (-1) 0 (gI s 5) (gI s 6) (gI s 7) (gI s 8) (gI s 9) (-1) 0 (gJ s 0) (gL s 0) false) := by
    unfold m76 LC
    rw [← eC] at e1
    rw [e1, bs]
    rfl
  have eR : sI (sI (sI (sI (sI (sI t 19 0) 21 0) 22 (-1)) 27 0) 28 0) 23 0 = rdR (sI t 19 0) (gR t 2) (gR t 3) (gR t 4) (gR t 5) (gR t 6) (gR t 7) (gR t 8) (gR t 9) (gR t 10) (gR t 11) (gR t 12) (gR t 13) (gR t 14) (gR t 15) (gR t 16) 0 (-1) 0 (gI t 24) (gI t 25) (gI t 26) 0 0 (gI t 29) (gI t 30) (gJ t 0) (gL t 0) (gL t 1) (gL t 2) (gL t 3) := by
    have e := rdR_id (sI t 19 0)
    have e' : sI t 19 0 = rdR (sI t 19 0) (gR t 2) (gR t 3) (gR t 4) (gR t 5) (gR t 6) (gR t 7) (gR t 8) (gR t 9) (gR t 10) (gR t 11) (gR t 12) (gR t 13) (gR t 14) (gR t 15) (gR t 16) (gI t 21) (gI t 22) (gI t 23) (gI t 24) (gI t 25) (gI t 26) (gI t 27) (gI t 28) (gI t 29) (gI t 30) (gJ t 0) (gL t 0) (gL t 1) (gL t 2) (gL t 3) := e.symm
    conv => lhs; rw [e']
    simp only [rdR_si21, rdR_si22, rdR_si27, rdR_si28, rdR_si23]
  have hm149 : m149 t = X1 1000000 (rdR (sI t 19 0) (gR t 2) (gR t 3) (gR t 4) (gR t 5) (gR t 6) (gR t 7) (gR t 8) (gR t 9) (gR t 10) (gR t 11) (gR t 12) (gR t 13) (gR t 14) (gR t 15) (gR t 16) 0 (-1) 0 (gI t 24) (gI t 25) (gI t 26) 0 0 (gI t 29) (gI t 30) (gJ t 0) (gL t 0) (gL t 1) (gL t 2) (gL t 3)) := by
    unfold m149 X1
    rw [eR]
  obtain ⟨k1, k2, k3, k4, k5, k6, k7, k8⟩ := h2
  obtain ⟨j1, j2, j3, j4, j5, j6, j7, j8, j9, j10, j11⟩ := h8
  have hle : n ≤ 4088 := hn4
  rw [hm76, hm149]
  have hGI : GI T n (sZ s 3 z) (sI t 19 0) z 0 0 (fun _ => mkN 0 0 0 0 0 [] 0 0 0 0 0) 0 (fun _ => ((0, 0, false), [], [], 0, 0, 0)) (rdC (sZ s 3 z) z g' (gN s z) [] [] [] 0 (-1) 0 (gI s 5) (gI s 6) (gI s 7) (gI s 8) (gI s 9) (-1) 0 (gJ s 0) (gL s 0) false) (rdR (sI t 19 0) (gR t 2) (gR t 3) (gR t 4) (gR t 5) (gR t 6) (gR t 7) (gR t 8) (gR t 9) (gR t 10) (gR t 11) (gR t 12) (gR t 13) (gR t 14) (gR t 15) (gR t 16) 0 (-1) 0 (gI t 24) (gI t 25) (gI t 26) 0 0 (gI t 29) (gI t 30) (gJ t 0) (gL t 0) (gL t 1) (gL t 2) (gL t 3)) := by
    refine ⟨g', gN s z, -1, gI s 5, gI s 6, gI s 7, gI s 8, gI s 9, gJ s 0, gL s 0, gR t 2, gR t 3, gR t 4, gR t 5, gR t 6, gR t 7, gR t 8, gR t 9, gR t 10, gR t 11, gR t 12, gR t 13, gR t 14, gR t 15, gR t 16, -1, gI t 24, gI t 25, gI t 26, gI t 29, gI t 30, gJ t 0, gL t 0, gL t 1, gL t 2, gL t 3, rfl, rfl, ⟨?_, fun i j _ hj => by omega, fun k hk => by omega, ⟨fun j hj => by rw [e2 j (by omega)]; rfl, fun k hk => by omega⟩, fun k hk => by omega⟩, fun d hd => by omega, fun _ => rfl, ⟨⟨hc.1, rfl⟩, hc.2.1 z, by rw [e2 5 (by omega)]; rfl, by rw [e2 6 (by omega)]; rfl, by rw [e2 7 (by omega)]; rfl, by rw [e2 8 (by omega)]; rfl, by rw [e2 9 (by omega)]; rfl⟩, ⟨k1, k2, k3, k4, k5, k6, k7, k8⟩, ⟨j1, j2, j3, j4, j5, j6, j7, j8, j9, j10, j11⟩, by omega, by omega, by omega⟩
    refine ⟨fun n hn => by omega, fun k hk => by omega, fun k hk _ => by omega, trivial, fun k hk => (by cases hk), ?_⟩
    show ([] : List Int64).length ≤ 24
    exact Nat.zero_le _
  exact defs_ok (s := sZ s 3 z) (t := sI t 19 0) h hT rfl hn rfl hn4 65 1000000 0 0 0 0 _ _ _ _ (by omega) (by omega) (by omega) hGI
end Read
