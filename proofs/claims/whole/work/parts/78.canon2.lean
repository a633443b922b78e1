/-! canonical states of reading, whole -/
def rdC (s : xSt) (z : Bool) (g : Nat → List Int32) (nn : List Int64) (r1 r2 r3 : List Int32) (i2 i3 i4 i5 i6 i7 i8 i9 i10 i11 : Int32) (j0 : Int64) (l0 : List Int64) (z4 : Bool) : xSt := sZ (sL (sJ (sI (sI (sI (sI (sI (sI (sI (sI (sI (sI (sR (sR (sR (sN (sPf s z g) z nn) 1 r1) 2 r2) 3 r3) 2 i2) 3 i3) 4 i4) 5 i5) 6 i6) 7 i7) 8 i8) 9 i9) 10 i10) 11 i11) 0 j0) 0 l0) 4 z4
theorem rdC_r1 (s : xSt) (z : Bool) (g : Nat → List Int32) (nn : List Int64) (r1 r2 r3 : List Int32) (i2 i3 i4 i5 i6 i7 i8 i9 i10 i11 : Int32) (j0 : Int64) (l0 : List Int64) (z4 : Bool) : gR (rdC s z g nn r1 r2 r3 i2 i3 i4 i5 i6 i7 i8 i9 i10 i11 j0 l0 z4) 1 = r1 := rfl
theorem rdC_r2 (s : xSt) (z : Bool) (g : Nat → List Int32) (nn : List Int64) (r1 r2 r3 : List Int32) (i2 i3 i4 i5 i6 i7 i8 i9 i10 i11 : Int32) (j0 : Int64) (l0 : List Int64) (z4 : Bool) : gR (rdC s z g nn r1 r2 r3 i2 i3 i4 i5 i6 i7 i8 i9 i10 i11 j0 l0 z4) 2 = r2 := rfl
theorem rdC_r3 (s : xSt) (z : Bool) (g : Nat → List Int32) (nn : List Int64) (r1 r2 r3 : List Int32) (i2 i3 i4 i5 i6 i7 i8 i9 i10 i11 : Int32) (j0 : Int64) (l0 : List Int64) (z4 : Bool) : gR (rdC s z g nn r1 r2 r3 i2 i3 i4 i5 i6 i7 i8 i9 i10 i11 j0 l0 z4) 3 = r3 := rfl
theorem rdC_i2 (s : xSt) (z : Bool) (g : Nat → List Int32) (nn : List Int64) (r1 r2 r3 : List Int32) (i2 i3 i4 i5 i6 i7 i8 i9 i10 i11 : Int32) (j0 : Int64) (l0 : List Int64) (z4 : Bool) : gI (rdC s z g nn r1 r2 r3 i2 i3 i4 i5 i6 i7 i8 i9 i10 i11 j0 l0 z4) 2 = i2 := rfl
theorem rdC_i3 (s : xSt) (z : Bool) (g : Nat → List Int32) (nn : List Int64) (r1 r2 r3 : List Int32) (i2 i3 i4 i5 i6 i7 i8 i9 i10 i11 : Int32) (j0 : Int64) (l0 : List Int64) (z4 : Bool) : gI (rdC s z g nn r1 r2 r3 i2 i3 i4 i5 i6 i7 i8 i9 i10 i11 j0 l0 z4) 3 = i3 := rfl
theorem rdC_i4 (s : xSt) (z : Bool) (g : Nat → List Int32) (nn : List Int64) (r1 r2 r3 : List Int32) (i2 i3 i4 i5 i6 i7 i8 i9 i10 i11 : Int32) (j0 : Int64) (l0 : List Int64) (z4 : Bool) : gI (rdC s z g nn r1 r2 r3 i2 i3 i4 i5 i6 i7 i8 i9 i10 i11 j0 l0 z4) 4 = i4 := rfl
theorem rdC_i5 (s : xSt) (z : Bool) (g : Nat → List Int32) (nn : List Int64) (r1 r2 r3 : List Int32) (i2 i3 i4 i5 i6 i7 i8 i9 i10 i11 : Int32) (j0 : Int64) (l0 : List Int64) (z4 : Bool) : gI (rdC s z g nn r1 r2 r3 i2 i3 i4 i5 i6 i7 i8 i9 i10 i11 j0 l0 z4) 5 = i5 := rfl
theorem rdC_i6 (s : xSt) (z : Bool) (g : Nat → List Int32) (nn : List Int64) (r1 r2 r3 : List Int32) (i2 i3 i4 i5 i6 i7 i8 i9 i10 i11 : Int32) (j0 : Int64) (l0 : List Int64) (z4 : Bool) : gI (rdC s z g nn r1 r2 r3 i2 i3 i4 i5 i6 i7 i8 i9 i10 i11 j0 l0 z4) 6 = i6 := rfl
theorem rdC_i7 (s : xSt) (z : Bool) (g : Nat → List Int32) (nn : List Int64) (r1 r2 r3 : List Int32) (i2 i3 i4 i5 i6 i7 i8 i9 i10 i11 : Int32) (j0 : Int64) (l0 : List Int64) (z4 : Bool) : gI (rdC s z g nn r1 r2 r3 i2 i3 i4 i5 i6 i7 i8 i9 i10 i11 j0 l0 z4) 7 = i7 := rfl
theorem rdC_i8 (s : xSt) (z : Bool) (g : Nat → List Int32) (nn : List Int64) (r1 r2 r3 : List Int32) (i2 i3 i4 i5 i6 i7 i8 i9 i10 i11 : Int32) (j0 : Int64) (l0 : List Int64) (z4 : Bool) : gI (rdC s z g nn r1 r2 r3 i2 i3 i4 i5 i6 i7 i8 i9 i10 i11 j0 l0 z4) 8 = i8 := rfl
theorem rdC_i9 (s : xSt) (z : Bool) (g : Nat → List Int32) (nn : List Int64) (r1 r2 r3 : List Int32) (i2 i3 i4 i5 i6 i7 i8 i9 i10 i11 : Int32) (j0 : Int64) (l0 : List Int64) (z4 : Bool) : gI (rdC s z g nn r1 r2 r3 i2 i3 i4 i5 i6 i7 i8 i9 i10 i11 j0 l0 z4) 9 = i9 := rfl
theorem rdC_i10 (s : xSt) (z : Bool) (g : Nat → List Int32) (nn : List Int64) (r1 r2 r3 : List Int32) (i2 i3 i4 i5 i6 i7 i8 i9 i10 i11 : Int32) (j0 : Int64) (l0 : List Int64) (z4 : Bool) : gI (rdC s z g nn r1 r2 r3 i2 i3 i4 i5 i6 i7 i8 i9 i10 i11 j0 l0 z4) 10 = i10 := rfl
theorem rdC_i11 (s : xSt) (z : Bool) (g : Nat → List Int32) (nn : List Int64) (r1 r2 r3 : List Int32) (i2 i3 i4 i5 i6 i7 i8 i9 i10 i11 : Int32) (j0 : Int64) (l0 : List Int64) (z4 : Bool) : gI (rdC s z g nn r1 r2 r3 i2 i3 i4 i5 i6 i7 i8 i9 i10 i11 j0 l0 z4) 11 = i11 := rfl
theorem rdC_j0 (s : xSt) (z : Bool) (g : Nat → List Int32) (nn : List Int64) (r1 r2 r3 : List Int32) (i2 i3 i4 i5 i6 i7 i8 i9 i10 i11 : Int32) (j0 : Int64) (l0 : List Int64) (z4 : Bool) : gJ (rdC s z g nn r1 r2 r3 i2 i3 i4 i5 i6 i7 i8 i9 i10 i11 j0 l0 z4) 0 = j0 := rfl
theorem rdC_l0 (s : xSt) (z : Bool) (g : Nat → List Int32) (nn : List Int64) (r1 r2 r3 : List Int32) (i2 i3 i4 i5 i6 i7 i8 i9 i10 i11 : Int32) (j0 : Int64) (l0 : List Int64) (z4 : Bool) : gL (rdC s z g nn r1 r2 r3 i2 i3 i4 i5 i6 i7 i8 i9 i10 i11 j0 l0 z4) 0 = l0 := rfl
theorem rdC_z4 (s : xSt) (z : Bool) (g : Nat → List Int32) (nn : List Int64) (r1 r2 r3 : List Int32) (i2 i3 i4 i5 i6 i7 i8 i9 i10 i11 : Int32) (j0 : Int64) (l0 : List Int64) (z4 : Bool) : gZ (rdC s z g nn r1 r2 r3 i2 i3 i4 i5 i6 i7 i8 i9 i10 i11 j0 l0 z4) 4 = z4 := rfl
theorem rdC_or0 (s : xSt) (z : Bool) (g : Nat → List Int32) (nn : List Int64) (r1 r2 r3 : List Int32) (i2 i3 i4 i5 i6 i7 i8 i9 i10 i11 : Int32) (j0 : Int64) (l0 : List Int64) (z4 : Bool) : gR (rdC s z g nn r1 r2 r3 i2 i3 i4 i5 i6 i7 i8 i9 i10 i11 j0 l0 z4) 0 = gR s 0 := rfl
theorem rdC_oz3 (s : xSt) (z : Bool) (g : Nat → List Int32) (nn : List Int64) (r1 r2 r3 : List Int32) (i2 i3 i4 i5 i6 i7 i8 i9 i10 i11 : Int32) (j0 : Int64) (l0 : List Int64) (z4 : Bool) : gZ (rdC s z g nn r1 r2 r3 i2 i3 i4 i5 i6 i7 i8 i9 i10 i11 j0 l0 z4) 3 = gZ s 3 := rfl
theorem rdC_gP (s : xSt) (z : Bool) (g : Nat → List Int32) (nn : List Int64) (r1 r2 r3 : List Int32) (i2 i3 i4 i5 i6 i7 i8 i9 i10 i11 : Int32) (j0 : Int64) (l0 : List Int64) (z4 : Bool) (i : Nat) : gP (rdC s z g nn r1 r2 r3 i2 i3 i4 i5 i6 i7 i8 i9 i10 i11 j0 l0 z4) z i = g i := by
  show zUp s.2.2.2.2.2.1 z g z i = g i
  rw [zUp_s]
theorem rdC_gN (s : xSt) (z : Bool) (g : Nat → List Int32) (nn : List Int64) (r1 r2 r3 : List Int32) (i2 i3 i4 i5 i6 i7 i8 i9 i10 i11 : Int32) (j0 : Int64) (l0 : List Int64) (z4 : Bool) : gN (rdC s z g nn r1 r2 r3 i2 i3 i4 i5 i6 i7 i8 i9 i10 i11 j0 l0 z4) z = nn := zUp_s _ _ _
theorem rdC_sP (s : xSt) (z : Bool) (g : Nat → List Int32) (nn : List Int64) (r1 r2 r3 : List Int32) (i2 i3 i4 i5 i6 i7 i8 i9 i10 i11 : Int32) (j0 : Int64) (l0 : List Int64) (z4 : Bool) (i : Nat) (y : List Int32) : sP (rdC s z g nn r1 r2 r3 i2 i3 i4 i5 i6 i7 i8 i9 i10 i11 j0 l0 z4) z i y = rdC s z (bUp g i y) nn r1 r2 r3 i2 i3 i4 i5 i6 i7 i8 i9 i10 i11 j0 l0 z4 := by
  unfold rdC
  refine Prod.ext rfl (Prod.ext rfl (Prod.ext rfl (Prod.ext rfl (Prod.ext rfl (Prod.ext ?_ rfl)))))
  show zUp (zUp s.2.2.2.2.2.1 z g) z (bUp (zUp s.2.2.2.2.2.1 z g z) i y) = zUp s.2.2.2.2.2.1 z (bUp g i y)
  rw [zUp_s, zUp_zUp]
theorem rdC_sN (s : xSt) (z : Bool) (g : Nat → List Int32) (nn : List Int64) (r1 r2 r3 : List Int32) (i2 i3 i4 i5 i6 i7 i8 i9 i10 i11 : Int32) (j0 : Int64) (l0 : List Int64) (z4 : Bool) (y : List Int64) : sN (rdC s z g nn r1 r2 r3 i2 i3 i4 i5 i6 i7 i8 i9 i10 i11 j0 l0 z4) z y = rdC s z g y r1 r2 r3 i2 i3 i4 i5 i6 i7 i8 i9 i10 i11 j0 l0 z4 := by
  unfold rdC
  refine Prod.ext rfl (Prod.ext rfl (Prod.ext rfl (Prod.ext rfl (Prod.ext rfl (Prod.ext rfl ?_)))))
  show zUp (zUp s.2.2.2.2.2.2 z nn) z y = zUp s.2.2.2.2.2.2 z y
  rw [zUp_zUp]
theorem rdC_sr1 (s : xSt) (z : Bool) (g : Nat → List Int32) (nn : List Int64) (r1 r2 r3 : List Int32) (i2 i3 i4 i5 i6 i7 i8 i9 i10 i11 : Int32) (j0 : Int64) (l0 : List Int64) (z4 : Bool) (y : List Int32) : sR (rdC s z g nn r1 r2 r3 i2 i3 i4 i5 i6 i7 i8 i9 i10 i11 j0 l0 z4) 1 y = rdC s z g nn y r2 r3 i2 i3 i4 i5 i6 i7 i8 i9 i10 i11 j0 l0 z4 := by
  unfold rdC
  refine Prod.ext ?_ rfl
  funext j
  show bUp _ _ _ j = bUp _ _ _ j
  simp only [sR, sI, sJ, sL, sZ, sN, sPf, bUp_if]
  by_cases e : j = 1 <;> simp [e]
theorem rdC_sr2 (s : xSt) (z : Bool) (g : Nat → List Int32) (nn : List Int64) (r1 r2 r3 : List Int32) (i2 i3 i4 i5 i6 i7 i8 i9 i10 i11 : Int32) (j0 : Int64) (l0 : List Int64) (z4 : Bool) (y : List Int32) : sR (rdC s z g nn r1 r2 r3 i2 i3 i4 i5 i6 i7 i8 i9 i10 i11 j0 l0 z4) 2 y = rdC s z g nn r1 y r3 i2 i3 i4 i5 i6 i7 i8 i9 i10 i11 j0 l0 z4 := by
  unfold rdC
  refine Prod.ext ?_ rfl
  funext j
  show bUp _ _ _ j = bUp _ _ _ j
  simp only [sR, sI, sJ, sL, sZ, sN, sPf, bUp_if]
  by_cases e : j = 2 <;> simp [e]
theorem rdC_sr3 (s : xSt) (z : Bool) (g : Nat → List Int32) (nn : List Int64) (r1 r2 r3 : List Int32) (i2 i3 i4 i5 i6 i7 i8 i9 i10 i11 : Int32) (j0 : Int64) (l0 : List Int64) (z4 : Bool) (y : List Int32) : sR (rdC s z g nn r1 r2 r3 i2 i3 i4 i5 i6 i7 i8 i9 i10 i11 j0 l0 z4) 3 y = rdC s z g nn r1 r2 y i2 i3 i4 i5 i6 i7 i8 i9 i10 i11 j0 l0 z4 := by
  unfold rdC
  refine Prod.ext ?_ rfl
  funext j
  show bUp _ _ _ j = bUp _ _ _ j
  simp only [sR, sI, sJ, sL, sZ, sN, sPf, bUp_if]
  by_cases e : j = 3 <;> simp [e]
theorem rdC_si2 (s : xSt) (z : Bool) (g : Nat → List Int32) (nn : List Int64) (r1 r2 r3 : List Int32) (i2 i3 i4 i5 i6 i7 i8 i9 i10 i11 : Int32) (j0 : Int64) (l0 : List Int64) (z4 : Bool) (y : Int32) : sI (rdC s z g nn r1 r2 r3 i2 i3 i4 i5 i6 i7 i8 i9 i10 i11 j0 l0 z4) 2 y = rdC s z g nn r1 r2 r3 y i3 i4 i5 i6 i7 i8 i9 i10 i11 j0 l0 z4 := by
  unfold rdC
  refine Prod.ext rfl (Prod.ext ?_ rfl)
  funext j
  show bUp _ _ _ j = bUp _ _ _ j
  simp only [sR, sI, sJ, sL, sZ, sN, sPf, bUp_if]
  by_cases e : j = 2 <;> simp [e]
theorem rdC_si3 (s : xSt) (z : Bool) (g : Nat → List Int32) (nn : List Int64) (r1 r2 r3 : List Int32) (i2 i3 i4 i5 i6 i7 i8 i9 i10 i11 : Int32) (j0 : Int64) (l0 : List Int64) (z4 : Bool) (y : Int32) : sI (rdC s z g nn r1 r2 r3 i2 i3 i4 i5 i6 i7 i8 i9 i10 i11 j0 l0 z4) 3 y = rdC s z g nn r1 r2 r3 i2 y i4 i5 i6 i7 i8 i9 i10 i11 j0 l0 z4 := by
  unfold rdC
  refine Prod.ext rfl (Prod.ext ?_ rfl)
  funext j
  show bUp _ _ _ j = bUp _ _ _ j
  simp only [sR, sI, sJ, sL, sZ, sN, sPf, bUp_if]
  by_cases e : j = 3 <;> simp [e]
theorem rdC_si4 (s : xSt) (z : Bool) (g : Nat → List Int32) (nn : List Int64) (r1 r2 r3 : List Int32) (i2 i3 i4 i5 i6 i7 i8 i9 i10 i11 : Int32) (j0 : Int64) (l0 : List Int64) (z4 : Bool) (y : Int32) : sI (rdC s z g nn r1 r2 r3 i2 i3 i4 i5 i6 i7 i8 i9 i10 i11 j0 l0 z4) 4 y = rdC s z g nn r1 r2 r3 i2 i3 y i5 i6 i7 i8 i9 i10 i11 j0 l0 z4 := by
  unfold rdC
  refine Prod.ext rfl (Prod.ext ?_ rfl)
  funext j
  show bUp _ _ _ j = bUp _ _ _ j
  simp only [sR, sI, sJ, sL, sZ, sN, sPf, bUp_if]
  by_cases e : j = 4 <;> simp [e]
theorem rdC_si5 (s : xSt) (z : Bool) (g : Nat → List Int32) (nn : List Int64) (r1 r2 r3 : List Int32) (i2 i3 i4 i5 i6 i7 i8 i9 i10 i11 : Int32) (j0 : Int64) (l0 : List Int64) (z4 : Bool) (y : Int32) : sI (rdC s z g nn r1 r2 r3 i2 i3 i4 i5 i6 i7 i8 i9 i10 i11 j0 l0 z4) 5 y = rdC s z g nn r1 r2 r3 i2 i3 i4 y i6 i7 i8 i9 i10 i11 j0 l0 z4 := by
  unfold rdC
  refine Prod.ext rfl (Prod.ext ?_ rfl)
  funext j
  show bUp _ _ _ j = bUp _ _ _ j
  simp only [sR, sI, sJ, sL, sZ, sN, sPf, bUp_if]
  by_cases e : j = 5 <;> simp [e]
theorem rdC_si6 (s : xSt) (z : Bool) (g : Nat → List Int32) (nn : List Int64) (r1 r2 r3 : List Int32) (i2 i3 i4 i5 i6 i7 i8 i9 i10 i11 : Int32) (j0 : Int64) (l0 : List Int64) (z4 : Bool) (y : Int32) : sI (rdC s z g nn r1 r2 r3 i2 i3 i4 i5 i6 i7 i8 i9 i10 i11 j0 l0 z4) 6 y = rdC s z g nn r1 r2 r3 i2 i3 i4 i5 y i7 i8 i9 i10 i11 j0 l0 z4 := by
  unfold rdC
  refine Prod.ext rfl (Prod.ext ?_ rfl)
  funext j
  show bUp _ _ _ j = bUp _ _ _ j
  simp only [sR, sI, sJ, sL, sZ, sN, sPf, bUp_if]
  by_cases e : j = 6 <;> simp [e]
theorem rdC_si7 (s : xSt) (z : Bool) (g : Nat → List Int32) (nn : List Int64) (r1 r2 r3 : List Int32) (i2 i3 i4 i5 i6 i7 i8 i9 i10 i11 : Int32) (j0 : Int64) (l0 : List Int64) (z4 : Bool) (y : Int32) : sI (rdC s z g nn r1 r2 r3 i2 i3 i4 i5 i6 i7 i8 i9 i10 i11 j0 l0 z4) 7 y = rdC s z g nn r1 r2 r3 i2 i3 i4 i5 i6 y i8 i9 i10 i11 j0 l0 z4 := by
  unfold rdC
  refine Prod.ext rfl (Prod.ext ?_ rfl)
  funext j
  show bUp _ _ _ j = bUp _ _ _ j
  simp only [sR, sI, sJ, sL, sZ, sN, sPf, bUp_if]
  by_cases e : j = 7 <;> simp [e]
theorem rdC_si8 (s : xSt) (z : Bool) (g : Nat → List Int32) (nn : List Int64) (r1 r2 r3 : List Int32) (i2 i3 i4 i5 i6 i7 i8 i9 i10 i11 : Int32) (j0 : Int64) (l0 : List Int64) (z4 : Bool) (y : Int32) : sI (rdC s z g nn r1 r2 r3 i2 i3 i4 i5 i6 i7 i8 i9 i10 i11 j0 l0 z4) 8 y = rdC s z g nn r1 r2 r3 i2 i3 i4 i5 i6 i7 y i9 i10 i11 j0 l0 z4 := by
  unfold rdC
  refine Prod.ext rfl (Prod.ext ?_ rfl)
  funext j
  show bUp _ _ _ j = bUp _ _ _ j
  simp only [sR, sI, sJ, sL, sZ, sN, sPf, bUp_if]
  by_cases e : j = 8 <;> simp [e]
theorem rdC_si9 (s : xSt) (z : Bool) (g : Nat → List Int32) (nn : List Int64) (r1 r2 r3 : List Int32) (i2 i3 i4 i5 i6 i7 i8 i9 i10 i11 : Int32) (j0 : Int64) (l0 : List Int64) (z4 : Bool) (y : Int32) : sI (rdC s z g nn r1 r2 r3 i2 i3 i4 i5 i6 i7 i8 i9 i10 i11 j0 l0 z4) 9 y = rdC s z g nn r1 r2 r3 i2 i3 i4 i5 i6 i7 i8 y i10 i11 j0 l0 z4 := by
  unfold rdC
  refine Prod.ext rfl (Prod.ext ?_ rfl)
  funext j
  show bUp _ _ _ j = bUp _ _ _ j
  simp only [sR, sI, sJ, sL, sZ, sN, sPf, bUp_if]
  by_cases e : j = 9 <;> simp [e]
theorem rdC_si10 (s : xSt) (z : Bool) (g : Nat → List Int32) (nn : List Int64) (r1 r2 r3 : List Int32) (i2 i3 i4 i5 i6 i7 i8 i9 i10 i11 : Int32) (j0 : Int64) (l0 : List Int64) (z4 : Bool) (y : Int32) : sI (rdC s z g nn r1 r2 r3 i2 i3 i4 i5 i6 i7 i8 i9 i10 i11 j0 l0 z4) 10 y = rdC s z g nn r1 r2 r3 i2 i3 i4 i5 i6 i7 i8 i9 y i11 j0 l0 z4 := by
  unfold rdC
  refine Prod.ext rfl (Prod.ext ?_ rfl)
  funext j
  show bUp _ _ _ j = bUp _ _ _ j
  simp only [sR, sI, sJ, sL, sZ, sN, sPf, bUp_if]
  by_cases e : j = 10 <;> simp [e]
theorem rdC_si11 (s : xSt) (z : Bool) (g : Nat → List Int32) (nn : List Int64) (r1 r2 r3 : List Int32) (i2 i3 i4 i5 i6 i7 i8 i9 i10 i11 : Int32) (j0 : Int64) (l0 : List Int64) (z4 : Bool) (y : Int32) : sI (rdC s z g nn r1 r2 r3 i2 i3 i4 i5 i6 i7 i8 i9 i10 i11 j0 l0 z4) 11 y = rdC s z g nn r1 r2 r3 i2 i3 i4 i5 i6 i7 i8 i9 i10 y j0 l0 z4 := by
  unfold rdC
  refine Prod.ext rfl (Prod.ext ?_ rfl)
  funext j
  show bUp _ _ _ j = bUp _ _ _ j
  simp only [sR, sI, sJ, sL, sZ, sN, sPf, bUp_if]
  by_cases e : j = 11 <;> simp [e]
theorem rdC_sj0 (s : xSt) (z : Bool) (g : Nat → List Int32) (nn : List Int64) (r1 r2 r3 : List Int32) (i2 i3 i4 i5 i6 i7 i8 i9 i10 i11 : Int32) (j0 : Int64) (l0 : List Int64) (z4 : Bool) (y : Int64) : sJ (rdC s z g nn r1 r2 r3 i2 i3 i4 i5 i6 i7 i8 i9 i10 i11 j0 l0 z4) 0 y = rdC s z g nn r1 r2 r3 i2 i3 i4 i5 i6 i7 i8 i9 i10 i11 y l0 z4 := by
  unfold rdC
  refine Prod.ext rfl (Prod.ext rfl (Prod.ext ?_ rfl))
  funext j
  show bUp _ _ _ j = bUp _ _ _ j
  simp only [sR, sI, sJ, sL, sZ, sN, sPf, bUp_if]
  by_cases e : j = 0 <;> simp [e]
theorem rdC_sl0 (s : xSt) (z : Bool) (g : Nat → List Int32) (nn : List Int64) (r1 r2 r3 : List Int32) (i2 i3 i4 i5 i6 i7 i8 i9 i10 i11 : Int32) (j0 : Int64) (l0 : List Int64) (z4 : Bool) (y : List Int64) : sL (rdC s z g nn r1 r2 r3 i2 i3 i4 i5 i6 i7 i8 i9 i10 i11 j0 l0 z4) 0 y = rdC s z g nn r1 r2 r3 i2 i3 i4 i5 i6 i7 i8 i9 i10 i11 j0 y z4 := by
  unfold rdC
  refine Prod.ext rfl (Prod.ext rfl (Prod.ext rfl (Prod.ext ?_ rfl)))
  funext j
  show bUp _ _ _ j = bUp _ _ _ j
  simp only [sR, sI, sJ, sL, sZ, sN, sPf, bUp_if]
  by_cases e : j = 0 <;> simp [e]
theorem rdC_sz4 (s : xSt) (z : Bool) (g : Nat → List Int32) (nn : List Int64) (r1 r2 r3 : List Int32) (i2 i3 i4 i5 i6 i7 i8 i9 i10 i11 : Int32) (j0 : Int64) (l0 : List Int64) (z4 : Bool) (y : Bool) : sZ (rdC s z g nn r1 r2 r3 i2 i3 i4 i5 i6 i7 i8 i9 i10 i11 j0 l0 z4) 4 y = rdC s z g nn r1 r2 r3 i2 i3 i4 i5 i6 i7 i8 i9 i10 i11 j0 l0 y := by
  unfold rdC
  refine Prod.ext rfl (Prod.ext rfl (Prod.ext rfl (Prod.ext rfl (Prod.ext ?_ rfl))))
  funext j
  show bUp _ _ _ j = bUp _ _ _ j
  simp only [sR, sI, sJ, sL, sZ, sN, sPf, bUp_if]
  by_cases e : j = 4 <;> simp [e]
def rdR (s : xSt) (r2 r3 r4 r5 r6 r7 r8 r9 r10 r11 r12 r13 r14 r15 r16 : List Int32) (i21 i22 i23 i24 i25 i26 i27 i28 i29 i30 : Int32) (j0 : Int64) (l0 l1 l2 l3 : List Int64) : xSt := sL (sL (sL (sL (sJ (sI (sI (sI (sI (sI (sI (sI (sI (sI (sI (sR (sR (sR (sR (sR (sR (sR (sR (sR (sR (sR (sR (sR (sR (sR s 2 r2) 3 r3) 4 r4) 5 r5) 6 r6) 7 r7) 8 r8) 9 r9) 10 r10) 11 r11) 12 r12) 13 r13) 14 r14) 15 r15) 16 r16) 21 i21) 22 i22) 23 i23) 24 i24) 25 i25) 26 i26) 27 i27) 28 i28) 29 i29) 30 i30) 0 j0) 0 l0) 1 l1) 2 l2) 3 l3
theorem rdR_r2 (s : xSt) (r2 r3 r4 r5 r6 r7 r8 r9 r10 r11 r12 r13 r14 r15 r16 : List Int32) (i21 i22 i23 i24 i25 i26 i27 i28 i29 i30 : Int32) (j0 : Int64) (l0 l1 l2 l3 : List Int64) : gR (rdR s r2 r3 r4 r5 r6 r7 r8 r9 r10 r11 r12 r13 r14 r15 r16 i21 i22 i23 i24 i25 i26 i27 i28 i29 i30 j0 l0 l1 l2 l3) 2 = r2 := rfl
theorem rdR_r3 (s : xSt) (r2 r3 r4 r5 r6 r7 r8 r9 r10 r11 r12 r13 r14 r15 r16 : List Int32) (i21 i22 i23 i24 i25 i26 i27 i28 i29 i30 : Int32) (j0 : Int64) (l0 l1 l2 l3 : List Int64) : gR (rdR s r2 r3 r4 r5 r6 r7 r8 r9 r10 r11 r12 r13 r14 r15 r16 i21 i22 i23 i24 i25 i26 i27 i28 i29 i30 j0 l0 l1 l2 l3) 3 = r3 := rfl
theorem rdR_r4 (s : xSt) (r2 r3 r4 r5 r6 r7 r8 r9 r10 r11 r12 r13 r14 r15 r16 : List Int32) (i21 i22 i23 i24 i25 i26 i27 i28 i29 i30 : Int32) (j0 : Int64) (l0 l1 l2 l3 : List Int64) : gR (rdR s r2 r3 r4 r5 r6 r7 r8 r9 r10 r11 r12 r13 r14 r15 r16 i21 i22 i23 i24 i25 i26 i27 i28 i29 i30 j0 l0 l1 l2 l3) 4 = r4 := rfl
theorem rdR_r5 (s : xSt) (r2 r3 r4 r5 r6 r7 r8 r9 r10 r11 r12 r13 r14 r15 r16 : List Int32) (i21 i22 i23 i24 i25 i26 i27 i28 i29 i30 : Int32) (j0 : Int64) (l0 l1 l2 l3 : List Int64) : gR (rdR s r2 r3 r4 r5 r6 r7 r8 r9 r10 r11 r12 r13 r14 r15 r16 i21 i22 i23 i24 i25 i26 i27 i28 i29 i30 j0 l0 l1 l2 l3) 5 = r5 := rfl
theorem rdR_r6 (s : xSt) (r2 r3 r4 r5 r6 r7 r8 r9 r10 r11 r12 r13 r14 r15 r16 : List Int32) (i21 i22 i23 i24 i25 i26 i27 i28 i29 i30 : Int32) (j0 : Int64) (l0 l1 l2 l3 : List Int64) : gR (rdR s r2 r3 r4 r5 r6 r7 r8 r9 r10 r11 r12 r13 r14 r15 r16 i21 i22 i23 i24 i25 i26 i27 i28 i29 i30 j0 l0 l1 l2 l3) 6 = r6 := rfl
theorem rdR_r7 (s : xSt) (r2 r3 r4 r5 r6 r7 r8 r9 r10 r11 r12 r13 r14 r15 r16 : List Int32) (i21 i22 i23 i24 i25 i26 i27 i28 i29 i30 : Int32) (j0 : Int64) (l0 l1 l2 l3 : List Int64) : gR (rdR s r2 r3 r4 r5 r6 r7 r8 r9 r10 r11 r12 r13 r14 r15 r16 i21 i22 i23 i24 i25 i26 i27 i28 i29 i30 j0 l0 l1 l2 l3) 7 = r7 := rfl
theorem rdR_r8 (s : xSt) (r2 r3 r4 r5 r6 r7 r8 r9 r10 r11 r12 r13 r14 r15 r16 : List Int32) (i21 i22 i23 i24 i25 i26 i27 i28 i29 i30 : Int32) (j0 : Int64) (l0 l1 l2 l3 : List Int64) : gR (rdR s r2 r3 r4 r5 r6 r7 r8 r9 r10 r11 r12 r13 r14 r15 r16 i21 i22 i23 i24 i25 i26 i27 i28 i29 i30 j0 l0 l1 l2 l3) 8 = r8 := rfl
theorem rdR_r9 (s : xSt) (r2 r3 r4 r5 r6 r7 r8 r9 r10 r11 r12 r13 r14 r15 r16 : List Int32) (i21 i22 i23 i24 i25 i26 i27 i28 i29 i30 : Int32) (j0 : Int64) (l0 l1 l2 l3 : List Int64) : gR (rdR s r2 r3 r4 r5 r6 r7 r8 r9 r10 r11 r12 r13 r14 r15 r16 i21 i22 i23 i24 i25 i26 i27 i28 i29 i30 j0 l0 l1 l2 l3) 9 = r9 := rfl
theorem rdR_r10 (s : xSt) (r2 r3 r4 r5 r6 r7 r8 r9 r10 r11 r12 r13 r14 r15 r16 : List Int32) (i21 i22 i23 i24 i25 i26 i27 i28 i29 i30 : Int32) (j0 : Int64) (l0 l1 l2 l3 : List Int64) : gR (rdR s r2 r3 r4 r5 r6 r7 r8 r9 r10 r11 r12 r13 r14 r15 r16 i21 i22 i23 i24 i25 i26 i27 i28 i29 i30 j0 l0 l1 l2 l3) 10 = r10 := rfl
theorem rdR_r11 (s : xSt) (r2 r3 r4 r5 r6 r7 r8 r9 r10 r11 r12 r13 r14 r15 r16 : List Int32) (i21 i22 i23 i24 i25 i26 i27 i28 i29 i30 : Int32) (j0 : Int64) (l0 l1 l2 l3 : List Int64) : gR (rdR s r2 r3 r4 r5 r6 r7 r8 r9 r10 r11 r12 r13 r14 r15 r16 i21 i22 i23 i24 i25 i26 i27 i28 i29 i30 j0 l0 l1 l2 l3) 11 = r11 := rfl
theorem rdR_r12 (s : xSt) (r2 r3 r4 r5 r6 r7 r8 r9 r10 r11 r12 r13 r14 r15 r16 : List Int32) (i21 i22 i23 i24 i25 i26 i27 i28 i29 i30 : Int32) (j0 : Int64) (l0 l1 l2 l3 : List Int64) : gR (rdR s r2 r3 r4 r5 r6 r7 r8 r9 r10 r11 r12 r13 r14 r15 r16 i21 i22 i23 i24 i25 i26 i27 i28 i29 i30 j0 l0 l1 l2 l3) 12 = r12 := rfl
theorem rdR_r13 (s : xSt) (r2 r3 r4 r5 r6 r7 r8 r9 r10 r11 r12 r13 r14 r15 r16 : List Int32) (i21 i22 i23 i24 i25 i26 i27 i28 i29 i30 : Int32) (j0 : Int64) (l0 l1 l2 l3 : List Int64) : gR (rdR s r2 r3 r4 r5 r6 r7 r8 r9 r10 r11 r12 r13 r14 r15 r16 i21 i22 i23 i24 i25 i26 i27 i28 i29 i30 j0 l0 l1 l2 l3) 13 = r13 := rfl
theorem rdR_r14 (s : xSt) (r2 r3 r4 r5 r6 r7 r8 r9 r10 r11 r12 r13 r14 r15 r16 : List Int32) (i21 i22 i23 i24 i25 i26 i27 i28 i29 i30 : Int32) (j0 : Int64) (l0 l1 l2 l3 : List Int64) : gR (rdR s r2 r3 r4 r5 r6 r7 r8 r9 r10 r11 r12 r13 r14 r15 r16 i21 i22 i23 i24 i25 i26 i27 i28 i29 i30 j0 l0 l1 l2 l3) 14 = r14 := rfl
theorem rdR_r15 (s : xSt) (r2 r3 r4 r5 r6 r7 r8 r9 r10 r11 r12 r13 r14 r15 r16 : List Int32) (i21 i22 i23 i24 i25 i26 i27 i28 i29 i30 : Int32) (j0 : Int64) (l0 l1 l2 l3 : List Int64) : gR (rdR s r2 r3 r4 r5 r6 r7 r8 r9 r10 r11 r12 r13 r14 r15 r16 i21 i22 i23 i24 i25 i26 i27 i28 i29 i30 j0 l0 l1 l2 l3) 15 = r15 := rfl
theorem rdR_r16 (s : xSt) (r2 r3 r4 r5 r6 r7 r8 r9 r10 r11 r12 r13 r14 r15 r16 : List Int32) (i21 i22 i23 i24 i25 i26 i27 i28 i29 i30 : Int32) (j0 : Int64) (l0 l1 l2 l3 : List Int64) : gR (rdR s r2 r3 r4 r5 r6 r7 r8 r9 r10 r11 r12 r13 r14 r15 r16 i21 i22 i23 i24 i25 i26 i27 i28 i29 i30 j0 l0 l1 l2 l3) 16 = r16 := rfl
theorem rdR_i21 (s : xSt) (r2 r3 r4 r5 r6 r7 r8 r9 r10 r11 r12 r13 r14 r15 r16 : List Int32) (i21 i22 i23 i24 i25 i26 i27 i28 i29 i30 : Int32) (j0 : Int64) (l0 l1 l2 l3 : List Int64) : gI (rdR s r2 r3 r4 r5 r6 r7 r8 r9 r10 r11 r12 r13 r14 r15 r16 i21 i22 i23 i24 i25 i26 i27 i28 i29 i30 j0 l0 l1 l2 l3) 21 = i21 := rfl
theorem rdR_i22 (s : xSt) (r2 r3 r4 r5 r6 r7 r8 r9 r10 r11 r12 r13 r14 r15 r16 : List Int32) (i21 i22 i23 i24 i25 i26 i27 i28 i29 i30 : Int32) (j0 : Int64) (l0 l1 l2 l3 : List Int64) : gI (rdR s r2 r3 r4 r5 r6 r7 r8 r9 r10 r11 r12 r13 r14 r15 r16 i21 i22 i23 i24 i25 i26 i27 i28 i29 i30 j0 l0 l1 l2 l3) 22 = i22 := rfl
theorem rdR_i23 (s : xSt) (r2 r3 r4 r5 r6 r7 r8 r9 r10 r11 r12 r13 r14 r15 r16 : List Int32) (i21 i22 i23 i24 i25 i26 i27 i28 i29 i30 : Int32) (j0 : Int64) (l0 l1 l2 l3 : List Int64) : gI (rdR s r2 r3 r4 r5 r6 r7 r8 r9 r10 r11 r12 r13 r14 r15 r16 i21 i22 i23 i24 i25 i26 i27 i28 i29 i30 j0 l0 l1 l2 l3) 23 = i23 := rfl
theorem rdR_i24 (s : xSt) (r2 r3 r4 r5 r6 r7 r8 r9 r10 r11 r12 r13 r14 r15 r16 : List Int32) (i21 i22 i23 i24 i25 i26 i27 i28 i29 i30 : Int32) (j0 : Int64) (l0 l1 l2 l3 : List Int64) : gI (rdR s r2 r3 r4 r5 r6 r7 r8 r9 r10 r11 r12 r13 r14 r15 r16 i21 i22 i23 i24 i25 i26 i27 i28 i29 i30 j0 l0 l1 l2 l3) 24 = i24 := rfl
theorem rdR_i25 (s : xSt) (r2 r3 r4 r5 r6 r7 r8 r9 r10 r11 r12 r13 r14 r15 r16 : List Int32) (i21 i22 i23 i24 i25 i26 i27 i28 i29 i30 : Int32) (j0 : Int64) (l0 l1 l2 l3 : List Int64) : gI (rdR s r2 r3 r4 r5 r6 r7 r8 r9 r10 r11 r12 r13 r14 r15 r16 i21 i22 i23 i24 i25 i26 i27 i28 i29 i30 j0 l0 l1 l2 l3) 25 = i25 := rfl
theorem rdR_i26 (s : xSt) (r2 r3 r4 r5 r6 r7 r8 r9 r10 r11 r12 r13 r14 r15 r16 : List Int32) (i21 i22 i23 i24 i25 i26 i27 i28 i29 i30 : Int32) (j0 : Int64) (l0 l1 l2 l3 : List Int64) : gI (rdR s r2 r3 r4 r5 r6 r7 r8 r9 r10 r11 r12 r13 r14 r15 r16 i21 i22 i23 i24 i25 i26 i27 i28 i29 i30 j0 l0 l1 l2 l3) 26 = i26 := rfl
theorem rdR_i27 (s : xSt) (r2 r3 r4 r5 r6 r7 r8 r9 r10 r11 r12 r13 r14 r15 r16 : List Int32) (i21 i22 i23 i24 i25 i26 i27 i28 i29 i30 : Int32) (j0 : Int64) (l0 l1 l2 l3 : List Int64) : gI (rdR s r2 r3 r4 r5 r6 r7 r8 r9 r10 r11 r12 r13 r14 r15 r16 i21 i22 i23 i24 i25 i26 i27 i28 i29 i30 j0 l0 l1 l2 l3) 27 = i27 := rfl
theorem rdR_i28 (s : xSt) (r2 r3 r4 r5 r6 r7 r8 r9 r10 r11 r12 r13 r14 r15 r16 : List Int32) (i21 i22 i23 i24 i25 i26 i27 i28 i29 i30 : Int32) (j0 : Int64) (l0 l1 l2 l3 : List Int64) : gI (rdR s r2 r3 r4 r5 r6 r7 r8 r9 r10 r11 r12 r13 r14 r15 r16 i21 i22 i23 i24 i25 i26 i27 i28 i29 i30 j0 l0 l1 l2 l3) 28 = i28 := rfl
theorem rdR_i29 (s : xSt) (r2 r3 r4 r5 r6 r7 r8 r9 r10 r11 r12 r13 r14 r15 r16 : List Int32) (i21 i22 i23 i24 i25 i26 i27 i28 i29 i30 : Int32) (j0 : Int64) (l0 l1 l2 l3 : List Int64) : gI (rdR s r2 r3 r4 r5 r6 r7 r8 r9 r10 r11 r12 r13 r14 r15 r16 i21 i22 i23 i24 i25 i26 i27 i28 i29 i30 j0 l0 l1 l2 l3) 29 = i29 := rfl
theorem rdR_i30 (s : xSt) (r2 r3 r4 r5 r6 r7 r8 r9 r10 r11 r12 r13 r14 r15 r16 : List Int32) (i21 i22 i23 i24 i25 i26 i27 i28 i29 i30 : Int32) (j0 : Int64) (l0 l1 l2 l3 : List Int64) : gI (rdR s r2 r3 r4 r5 r6 r7 r8 r9 r10 r11 r12 r13 r14 r15 r16 i21 i22 i23 i24 i25 i26 i27 i28 i29 i30 j0 l0 l1 l2 l3) 30 = i30 := rfl
theorem rdR_j0 (s : xSt) (r2 r3 r4 r5 r6 r7 r8 r9 r10 r11 r12 r13 r14 r15 r16 : List Int32) (i21 i22 i23 i24 i25 i26 i27 i28 i29 i30 : Int32) (j0 : Int64) (l0 l1 l2 l3 : List Int64) : gJ (rdR s r2 r3 r4 r5 r6 r7 r8 r9 r10 r11 r12 r13 r14 r15 r16 i21 i22 i23 i24 i25 i26 i27 i28 i29 i30 j0 l0 l1 l2 l3) 0 = j0 := rfl
theorem rdR_l0 (s : xSt) (r2 r3 r4 r5 r6 r7 r8 r9 r10 r11 r12 r13 r14 r15 r16 : List Int32) (i21 i22 i23 i24 i25 i26 i27 i28 i29 i30 : Int32) (j0 : Int64) (l0 l1 l2 l3 : List Int64) : gL (rdR s r2 r3 r4 r5 r6 r7 r8 r9 r10 r11 r12 r13 r14 r15 r16 i21 i22 i23 i24 i25 i26 i27 i28 i29 i30 j0 l0 l1 l2 l3) 0 = l0 := rfl
theorem rdR_l1 (s : xSt) (r2 r3 r4 r5 r6 r7 r8 r9 r10 r11 r12 r13 r14 r15 r16 : List Int32) (i21 i22 i23 i24 i25 i26 i27 i28 i29 i30 : Int32) (j0 : Int64) (l0 l1 l2 l3 : List Int64) : gL (rdR s r2 r3 r4 r5 r6 r7 r8 r9 r10 r11 r12 r13 r14 r15 r16 i21 i22 i23 i24 i25 i26 i27 i28 i29 i30 j0 l0 l1 l2 l3) 1 = l1 := rfl
theorem rdR_l2 (s : xSt) (r2 r3 r4 r5 r6 r7 r8 r9 r10 r11 r12 r13 r14 r15 r16 : List Int32) (i21 i22 i23 i24 i25 i26 i27 i28 i29 i30 : Int32) (j0 : Int64) (l0 l1 l2 l3 : List Int64) : gL (rdR s r2 r3 r4 r5 r6 r7 r8 r9 r10 r11 r12 r13 r14 r15 r16 i21 i22 i23 i24 i25 i26 i27 i28 i29 i30 j0 l0 l1 l2 l3) 2 = l2 := rfl
theorem rdR_l3 (s : xSt) (r2 r3 r4 r5 r6 r7 r8 r9 r10 r11 r12 r13 r14 r15 r16 : List Int32) (i21 i22 i23 i24 i25 i26 i27 i28 i29 i30 : Int32) (j0 : Int64) (l0 l1 l2 l3 : List Int64) : gL (rdR s r2 r3 r4 r5 r6 r7 r8 r9 r10 r11 r12 r13 r14 r15 r16 i21 i22 i23 i24 i25 i26 i27 i28 i29 i30 j0 l0 l1 l2 l3) 3 = l3 := rfl
theorem rdR_or1 (s : xSt) (r2 r3 r4 r5 r6 r7 r8 r9 r10 r11 r12 r13 r14 r15 r16 : List Int32) (i21 i22 i23 i24 i25 i26 i27 i28 i29 i30 : Int32) (j0 : Int64) (l0 l1 l2 l3 : List Int64) : gR (rdR s r2 r3 r4 r5 r6 r7 r8 r9 r10 r11 r12 r13 r14 r15 r16 i21 i22 i23 i24 i25 i26 i27 i28 i29 i30 j0 l0 l1 l2 l3) 1 = gR s 1 := rfl
theorem rdR_oi20 (s : xSt) (r2 r3 r4 r5 r6 r7 r8 r9 r10 r11 r12 r13 r14 r15 r16 : List Int32) (i21 i22 i23 i24 i25 i26 i27 i28 i29 i30 : Int32) (j0 : Int64) (l0 l1 l2 l3 : List Int64) : gI (rdR s r2 r3 r4 r5 r6 r7 r8 r9 r10 r11 r12 r13 r14 r15 r16 i21 i22 i23 i24 i25 i26 i27 i28 i29 i30 j0 l0 l1 l2 l3) 20 = gI s 20 := rfl
theorem rdR_P (s : xSt) (r2 r3 r4 r5 r6 r7 r8 r9 r10 r11 r12 r13 r14 r15 r16 : List Int32) (i21 i22 i23 i24 i25 i26 i27 i28 i29 i30 : Int32) (j0 : Int64) (l0 l1 l2 l3 : List Int64) (z : Bool) (i : Nat) : gP (rdR s r2 r3 r4 r5 r6 r7 r8 r9 r10 r11 r12 r13 r14 r15 r16 i21 i22 i23 i24 i25 i26 i27 i28 i29 i30 j0 l0 l1 l2 l3) z i = gP s z i := rfl
theorem rdR_N (s : xSt) (r2 r3 r4 r5 r6 r7 r8 r9 r10 r11 r12 r13 r14 r15 r16 : List Int32) (i21 i22 i23 i24 i25 i26 i27 i28 i29 i30 : Int32) (j0 : Int64) (l0 l1 l2 l3 : List Int64) (z : Bool) : gN (rdR s r2 r3 r4 r5 r6 r7 r8 r9 r10 r11 r12 r13 r14 r15 r16 i21 i22 i23 i24 i25 i26 i27 i28 i29 i30 j0 l0 l1 l2 l3) z = gN s z := rfl
theorem rdR_Z (s : xSt) (r2 r3 r4 r5 r6 r7 r8 r9 r10 r11 r12 r13 r14 r15 r16 : List Int32) (i21 i22 i23 i24 i25 i26 i27 i28 i29 i30 : Int32) (j0 : Int64) (l0 l1 l2 l3 : List Int64) (i : Nat) : gZ (rdR s r2 r3 r4 r5 r6 r7 r8 r9 r10 r11 r12 r13 r14 r15 r16 i21 i22 i23 i24 i25 i26 i27 i28 i29 i30 j0 l0 l1 l2 l3) i = gZ s i := rfl
theorem rdR_sr2 (s : xSt) (r2 r3 r4 r5 r6 r7 r8 r9 r10 r11 r12 r13 r14 r15 r16 : List Int32) (i21 i22 i23 i24 i25 i26 i27 i28 i29 i30 : Int32) (j0 : Int64) (l0 l1 l2 l3 : List Int64) (y : List Int32) : sR (rdR s r2 r3 r4 r5 r6 r7 r8 r9 r10 r11 r12 r13 r14 r15 r16 i21 i22 i23 i24 i25 i26 i27 i28 i29 i30 j0 l0 l1 l2 l3) 2 y = rdR s y r3 r4 r5 r6 r7 r8 r9 r10 r11 r12 r13 r14 r15 r16 i21 i22 i23 i24 i25 i26 i27 i28 i29 i30 j0 l0 l1 l2 l3 := by
  unfold rdR
  refine Prod.ext ?_ rfl
  funext j
  show bUp _ _ _ j = bUp _ _ _ j
  simp only [sR, sI, sJ, sL, sZ, sN, bUp_if]
  by_cases e : j = 2 <;> simp [e]
theorem rdR_sr3 (s : xSt) (r2 r3 r4 r5 r6 r7 r8 r9 r10 r11 r12 r13 r14 r15 r16 : List Int32) (i21 i22 i23 i24 i25 i26 i27 i28 i29 i30 : Int32) (j0 : Int64) (l0 l1 l2 l3 : List Int64) (y : List Int32) : sR (rdR s r2 r3 r4 r5 r6 r7 r8 r9 r10 r11 r12 r13 r14 r15 r16 i21 i22 i23 i24 i25 i26 i27 i28 i29 i30 j0 l0 l1 l2 l3) 3 y = rdR s r2 y r4 r5 r6 r7 r8 r9 r10 r11 r12 r13 r14 r15 r16 i21 i22 i23 i24 i25 i26 i27 i28 i29 i30 j0 l0 l1 l2 l3 := by
  unfold rdR
  refine Prod.ext ?_ rfl
  funext j
  show bUp _ _ _ j = bUp _ _ _ j
  simp only [sR, sI, sJ, sL, sZ, sN, bUp_if]
  by_cases e : j = 3 <;> simp [e]
theorem rdR_sr4 (s : xSt) (r2 r3 r4 r5 r6 r7 r8 r9 r10 r11 r12 r13 r14 r15 r16 : List Int32) (i21 i22 i23 i24 i25 i26 i27 i28 i29 i30 : Int32) (j0 : Int64) (l0 l1 l2 l3 : List Int64) (y : List Int32) : sR (rdR s r2 r3 r4 r5 r6 r7 r8 r9 r10 r11 r12 r13 r14 r15 r16 i21 i22 i23 i24 i25 i26 i27 i28 i29 i30 j0 l0 l1 l2 l3) 4 y = rdR s r2 r3 y r5 r6 r7 r8 r9 r10 r11 r12 r13 r14 r15 r16 i21 i22 i23 i24 i25 i26 i27 i28 i29 i30 j0 l0 l1 l2 l3 := by
  unfold rdR
  refine Prod.ext ?_ rfl
  funext j
  show bUp _ _ _ j = bUp _ _ _ j
  simp only [sR, sI, sJ, sL, sZ, sN, bUp_if]
  by_cases e : j = 4 <;> simp [e]
theorem rdR_sr5 (s : xSt) (r2 r3 r4 r5 r6 r7 r8 r9 r10 r11 r12 r13 r14 r15 r16 : List Int32) (i21 i22 i23 i24 i25 i26 i27 i28 i29 i30 : Int32) (j0 : Int64) (l0 l1 l2 l3 : List Int64) (y : List Int32) : sR (rdR s r2 r3 r4 r5 r6 r7 r8 r9 r10 r11 r12 r13 r14 r15 r16 i21 i22 i23 i24 i25 i26 i27 i28 i29 i30 j0 l0 l1 l2 l3) 5 y = rdR s r2 r3 r4 y r6 r7 r8 r9 r10 r11 r12 r13 r14 r15 r16 i21 i22 i23 i24 i25 i26 i27 i28 i29 i30 j0 l0 l1 l2 l3 := by
  unfold rdR
  refine Prod.ext ?_ rfl
  funext j
  show bUp _ _ _ j = bUp _ _ _ j
  simp only [sR, sI, sJ, sL, sZ, sN, bUp_if]
  by_cases e : j = 5 <;> simp [e]
theorem rdR_sr6 (s : xSt) (r2 r3 r4 r5 r6 r7 r8 r9 r10 r11 r12 r13 r14 r15 r16 : List Int32) (i21 i22 i23 i24 i25 i26 i27 i28 i29 i30 : Int32) (j0 : Int64) (l0 l1 l2 l3 : List Int64) (y : List Int32) : sR (rdR s r2 r3 r4 r5 r6 r7 r8 r9 r10 r11 r12 r13 r14 r15 r16 i21 i22 i23 i24 i25 i26 i27 i28 i29 i30 j0 l0 l1 l2 l3) 6 y = rdR s r2 r3 r4 r5 y r7 r8 r9 r10 r11 r12 r13 r14 r15 r16 i21 i22 i23 i24 i25 i26 i27 i28 i29 i30 j0 l0 l1 l2 l3 := by
  unfold rdR
  refine Prod.ext ?_ rfl
  funext j
  show bUp _ _ _ j = bUp _ _ _ j
  simp only [sR, sI, sJ, sL, sZ, sN, bUp_if]
  by_cases e : j = 6 <;> simp [e]
theorem rdR_sr7 (s : xSt) (r2 r3 r4 r5 r6 r7 r8 r9 r10 r11 r12 r13 r14 r15 r16 : List Int32) (i21 i22 i23 i24 i25 i26 i27 i28 i29 i30 : Int32) (j0 : Int64) (l0 l1 l2 l3 : List Int64) (y : List Int32) : sR (rdR s r2 r3 r4 r5 r6 r7 r8 r9 r10 r11 r12 r13 r14 r15 r16 i21 i22 i23 i24 i25 i26 i27 i28 i29 i30 j0 l0 l1 l2 l3) 7 y = rdR s r2 r3 r4 r5 r6 y r8 r9 r10 r11 r12 r13 r14 r15 r16 i21 i22 i23 i24 i25 i26 i27 i28 i29 i30 j0 l0 l1 l2 l3 := by
  unfold rdR
  refine Prod.ext ?_ rfl
  funext j
  show bUp _ _ _ j = bUp _ _ _ j
  simp only [sR, sI, sJ, sL, sZ, sN, bUp_if]
  by_cases e : j = 7 <;> simp [e]
theorem rdR_sr8 (s : xSt) (r2 r3 r4 r5 r6 r7 r8 r9 r10 r11 r12 r13 r14 r15 r16 : List Int32) (i21 i22 i23 i24 i25 i26 i27 i28 i29 i30 : Int32) (j0 : Int64) (l0 l1 l2 l3 : List Int64) (y : List Int32) : sR (rdR s r2 r3 r4 r5 r6 r7 r8 r9 r10 r11 r12 r13 r14 r15 r16 i21 i22 i23 i24 i25 i26 i27 i28 i29 i30 j0 l0 l1 l2 l3) 8 y = rdR s r2 r3 r4 r5 r6 r7 y r9 r10 r11 r12 r13 r14 r15 r16 i21 i22 i23 i24 i25 i26 i27 i28 i29 i30 j0 l0 l1 l2 l3 := by
  unfold rdR
  refine Prod.ext ?_ rfl
  funext j
  show bUp _ _ _ j = bUp _ _ _ j
  simp only [sR, sI, sJ, sL, sZ, sN, bUp_if]
  by_cases e : j = 8 <;> simp [e]
theorem rdR_sr9 (s : xSt) (r2 r3 r4 r5 r6 r7 r8 r9 r10 r11 r12 r13 r14 r15 r16 : List Int32) (i21 i22 i23 i24 i25 i26 i27 i28 i29 i30 : Int32) (j0 : Int64) (l0 l1 l2 l3 : List Int64) (y : List Int32) : sR (rdR s r2 r3 r4 r5 r6 r7 r8 r9 r10 r11 r12 r13 r14 r15 r16 i21 i22 i23 i24 i25 i26 i27 i28 i29 i30 j0 l0 l1 l2 l3) 9 y = rdR s r2 r3 r4 r5 r6 r7 r8 y r10 r11 r12 r13 r14 r15 r16 i21 i22 i23 i24 i25 i26 i27 i28 i29 i30 j0 l0 l1 l2 l3 := by
  unfold rdR
  refine Prod.ext ?_ rfl
  funext j
  show bUp _ _ _ j = bUp _ _ _ j
  simp only [sR, sI, sJ, sL, sZ, sN, bUp_if]
  by_cases e : j = 9 <;> simp [e]
theorem rdR_sr10 (s : xSt) (r2 r3 r4 r5 r6 r7 r8 r9 r10 r11 r12 r13 r14 r15 r16 : List Int32) (i21 i22 i23 i24 i25 i26 i27 i28 i29 i30 : Int32) (j0 : Int64) (l0 l1 l2 l3 : List Int64) (y : List Int32) : sR (rdR s r2 r3 r4 r5 r6 r7 r8 r9 r10 r11 r12 r13 r14 r15 r16 i21 i22 i23 i24 i25 i26 i27 i28 i29 i30 j0 l0 l1 l2 l3) 10 y = rdR s r2 r3 r4 r5 r6 r7 r8 r9 y r11 r12 r13 r14 r15 r16 i21 i22 i23 i24 i25 i26 i27 i28 i29 i30 j0 l0 l1 l2 l3 := by
  unfold rdR
  refine Prod.ext ?_ rfl
  funext j
  show bUp _ _ _ j = bUp _ _ _ j
  simp only [sR, sI, sJ, sL, sZ, sN, bUp_if]
  by_cases e : j = 10 <;> simp [e]
theorem rdR_sr11 (s : xSt) (r2 r3 r4 r5 r6 r7 r8 r9 r10 r11 r12 r13 r14 r15 r16 : List Int32) (i21 i22 i23 i24 i25 i26 i27 i28 i29 i30 : Int32) (j0 : Int64) (l0 l1 l2 l3 : List Int64) (y : List Int32) : sR (rdR s r2 r3 r4 r5 r6 r7 r8 r9 r10 r11 r12 r13 r14 r15 r16 i21 i22 i23 i24 i25 i26 i27 i28 i29 i30 j0 l0 l1 l2 l3) 11 y = rdR s r2 r3 r4 r5 r6 r7 r8 r9 r10 y r12 r13 r14 r15 r16 i21 i22 i23 i24 i25 i26 i27 i28 i29 i30 j0 l0 l1 l2 l3 := by
  unfold rdR
  refine Prod.ext ?_ rfl
  funext j
  show bUp _ _ _ j = bUp _ _ _ j
  simp only [sR, sI, sJ, sL, sZ, sN, bUp_if]
  by_cases e : j = 11 <;> simp [e]
theorem rdR_sr12 (s : xSt) (r2 r3 r4 r5 r6 r7 r8 r9 r10 r11 r12 r13 r14 r15 r16 : List Int32) (i21 i22 i23 i24 i25 i26 i27 i28 i29 i30 : Int32) (j0 : Int64) (l0 l1 l2 l3 : List Int64) (y : List Int32) : sR (rdR s r2 r3 r4 r5 r6 r7 r8 r9 r10 r11 r12 r13 r14 r15 r16 i21 i22 i23 i24 i25 i26 i27 i28 i29 i30 j0 l0 l1 l2 l3) 12 y = rdR s r2 r3 r4 r5 r6 r7 r8 r9 r10 r11 y r13 r14 r15 r16 i21 i22 i23 i24 i25 i26 i27 i28 i29 i30 j0 l0 l1 l2 l3 := by
  unfold rdR
  refine Prod.ext ?_ rfl
  funext j
  show bUp _ _ _ j = bUp _ _ _ j
  simp only [sR, sI, sJ, sL, sZ, sN, bUp_if]
  by_cases e : j = 12 <;> simp [e]
theorem rdR_sr13 (s : xSt) (r2 r3 r4 r5 r6 r7 r8 r9 r10 r11 r12 r13 r14 r15 r16 : List Int32) (i21 i22 i23 i24 i25 i26 i27 i28 i29 i30 : Int32) (j0 : Int64) (l0 l1 l2 l3 : List Int64) (y : List Int32) : sR (rdR s r2 r3 r4 r5 r6 r7 r8 r9 r10 r11 r12 r13 r14 r15 r16 i21 i22 i23 i24 i25 i26 i27 i28 i29 i30 j0 l0 l1 l2 l3) 13 y = rdR s r2 r3 r4 r5 r6 r7 r8 r9 r10 r11 r12 y r14 r15 r16 i21 i22 i23 i24 i25 i26 i27 i28 i29 i30 j0 l0 l1 l2 l3 := by
  unfold rdR
  refine Prod.ext ?_ rfl
  funext j
  show bUp _ _ _ j = bUp _ _ _ j
  simp only [sR, sI, sJ, sL, sZ, sN, bUp_if]
  by_cases e : j = 13 <;> simp [e]
theorem rdR_sr14 (s : xSt) (r2 r3 r4 r5 r6 r7 r8 r9 r10 r11 r12 r13 r14 r15 r16 : List Int32) (i21 i22 i23 i24 i25 i26 i27 i28 i29 i30 : Int32) (j0 : Int64) (l0 l1 l2 l3 : List Int64) (y : List Int32) : sR (rdR s r2 r3 r4 r5 r6 r7 r8 r9 r10 r11 r12 r13 r14 r15 r16 i21 i22 i23 i24 i25 i26 i27 i28 i29 i30 j0 l0 l1 l2 l3) 14 y = rdR s r2 r3 r4 r5 r6 r7 r8 r9 r10 r11 r12 r13 y r15 r16 i21 i22 i23 i24 i25 i26 i27 i28 i29 i30 j0 l0 l1 l2 l3 := by
  unfold rdR
  refine Prod.ext ?_ rfl
  funext j
  show bUp _ _ _ j = bUp _ _ _ j
  simp only [sR, sI, sJ, sL, sZ, sN, bUp_if]
  by_cases e : j = 14 <;> simp [e]
theorem rdR_sr15 (s : xSt) (r2 r3 r4 r5 r6 r7 r8 r9 r10 r11 r12 r13 r14 r15 r16 : List Int32) (i21 i22 i23 i24 i25 i26 i27 i28 i29 i30 : Int32) (j0 : Int64) (l0 l1 l2 l3 : List Int64) (y : List Int32) : sR (rdR s r2 r3 r4 r5 r6 r7 r8 r9 r10 r11 r12 r13 r14 r15 r16 i21 i22 i23 i24 i25 i26 i27 i28 i29 i30 j0 l0 l1 l2 l3) 15 y = rdR s r2 r3 r4 r5 r6 r7 r8 r9 r10 r11 r12 r13 r14 y r16 i21 i22 i23 i24 i25 i26 i27 i28 i29 i30 j0 l0 l1 l2 l3 := by
  unfold rdR
  refine Prod.ext ?_ rfl
  funext j
  show bUp _ _ _ j = bUp _ _ _ j
  simp only [sR, sI, sJ, sL, sZ, sN, bUp_if]
  by_cases e : j = 15 <;> simp [e]
theorem rdR_sr16 (s : xSt) (r2 r3 r4 r5 r6 r7 r8 r9 r10 r11 r12 r13 r14 r15 r16 : List Int32) (i21 i22 i23 i24 i25 i26 i27 i28 i29 i30 : Int32) (j0 : Int64) (l0 l1 l2 l3 : List Int64) (y : List Int32) : sR (rdR s r2 r3 r4 r5 r6 r7 r8 r9 r10 r11 r12 r13 r14 r15 r16 i21 i22 i23 i24 i25 i26 i27 i28 i29 i30 j0 l0 l1 l2 l3) 16 y = rdR s r2 r3 r4 r5 r6 r7 r8 r9 r10 r11 r12 r13 r14 r15 y i21 i22 i23 i24 i25 i26 i27 i28 i29 i30 j0 l0 l1 l2 l3 := by
  unfold rdR
  refine Prod.ext ?_ rfl
  funext j
  show bUp _ _ _ j = bUp _ _ _ j
  simp only [sR, sI, sJ, sL, sZ, sN, bUp_if]
  by_cases e : j = 16 <;> simp [e]
theorem rdR_si21 (s : xSt) (r2 r3 r4 r5 r6 r7 r8 r9 r10 r11 r12 r13 r14 r15 r16 : List Int32) (i21 i22 i23 i24 i25 i26 i27 i28 i29 i30 : Int32) (j0 : Int64) (l0 l1 l2 l3 : List Int64) (y : Int32) : sI (rdR s r2 r3 r4 r5 r6 r7 r8 r9 r10 r11 r12 r13 r14 r15 r16 i21 i22 i23 i24 i25 i26 i27 i28 i29 i30 j0 l0 l1 l2 l3) 21 y = rdR s r2 r3 r4 r5 r6 r7 r8 r9 r10 r11 r12 r13 r14 r15 r16 y i22 i23 i24 i25 i26 i27 i28 i29 i30 j0 l0 l1 l2 l3 := by
  unfold rdR
  refine Prod.ext rfl (Prod.ext ?_ rfl)
  funext j
  show bUp _ _ _ j = bUp _ _ _ j
  simp only [sR, sI, sJ, sL, sZ, sN, bUp_if]
  by_cases e : j = 21 <;> simp [e]
theorem rdR_si22 (s : xSt) (r2 r3 r4 r5 r6 r7 r8 r9 r10 r11 r12 r13 r14 r15 r16 : List Int32) (i21 i22 i23 i24 i25 i26 i27 i28 i29 i30 : Int32) (j0 : Int64) (l0 l1 l2 l3 : List Int64) (y : Int32) : sI (rdR s r2 r3 r4 r5 r6 r7 r8 r9 r10 r11 r12 r13 r14 r15 r16 i21 i22 i23 i24 i25 i26 i27 i28 i29 i30 j0 l0 l1 l2 l3) 22 y = rdR s r2 r3 r4 r5 r6 r7 r8 r9 r10 r11 r12 r13 r14 r15 r16 i21 y i23 i24 i25 i26 i27 i28 i29 i30 j0 l0 l1 l2 l3 := by
  unfold rdR
  refine Prod.ext rfl (Prod.ext ?_ rfl)
  funext j
  show bUp _ _ _ j = bUp _ _ _ j
  simp only [sR, sI, sJ, sL, sZ, sN, bUp_if]
  by_cases e : j = 22 <;> simp [e]
theorem rdR_si23 (s : xSt) (r2 r3 r4 r5 r6 r7 r8 r9 r10 r11 r12 r13 r14 r15 r16 : List Int32) (i21 i22 i23 i24 i25 i26 i27 i28 i29 i30 : Int32) (j0 : Int64) (l0 l1 l2 l3 : List Int64) (y : Int32) : sI (rdR s r2 r3 r4 r5 r6 r7 r8 r9 r10 r11 r12 r13 r14 r15 r16 i21 i22 i23 i24 i25 i26 i27 i28 i29 i30 j0 l0 l1 l2 l3) 23 y = rdR s r2 r3 r4 r5 r6 r7 r8 r9 r10 r11 r12 r13 r14 r15 r16 i21 i22 y i24 i25 i26 i27 i28 i29 i30 j0 l0 l1 l2 l3 := by
  unfold rdR
  refine Prod.ext rfl (Prod.ext ?_ rfl)
  funext j
  show bUp _ _ _ j = bUp _ _ _ j
  simp only [sR, sI, sJ, sL, sZ, sN, bUp_if]
  by_cases e : j = 23 <;> simp [e]
theorem rdR_si24 (s : xSt) (r2 r3 r4 r5 r6 r7 r8 r9 r10 r11 r12 r13 r14 r15 r16 : List Int32) (i21 i22 i23 i24 i25 i26 i27 i28 i29 i30 : Int32) (j0 : Int64) (l0 l1 l2 l3 : List Int64) (y : Int32) : sI (rdR s r2 r3 r4 r5 r6 r7 r8 r9 r10 r11 r12 r13 r14 r15 r16 i21 i22 i23 i24 i25 i26 i27 i28 i29 i30 j0 l0 l1 l2 l3) 24 y = rdR s r2 r3 r4 r5 r6 r7 r8 r9 r10 r11 r12 r13 r14 r15 r16 i21 i22 i23 y i25 i26 i27 i28 i29 i30 j0 l0 l1 l2 l3 := by
  unfold rdR
  refine Prod.ext rfl (Prod.ext ?_ rfl)
  funext j
  show bUp _ _ _ j = bUp _ _ _ j
  simp only [sR, sI, sJ, sL, sZ, sN, bUp_if]
  by_cases e : j = 24 <;> simp [e]
theorem rdR_si25 (s : xSt) (r2 r3 r4 r5 r6 r7 r8 r9 r10 r11 r12 r13 r14 r15 r16 : List Int32) (i21 i22 i23 i24 i25 i26 i27 i28 i29 i30 : Int32) (j0 : Int64) (l0 l1 l2 l3 : List Int64) (y : Int32) : sI (rdR s r2 r3 r4 r5 r6 r7 r8 r9 r10 r11 r12 r13 r14 r15 r16 i21 i22 i23 i24 i25 i26 i27 i28 i29 i30 j0 l0 l1 l2 l3) 25 y = rdR s r2 r3 r4 r5 r6 r7 r8 r9 r10 r11 r12 r13 r14 r15 r16 i21 i22 i23 i24 y i26 i27 i28 i29 i30 j0 l0 l1 l2 l3 := by
  unfold rdR
  refine Prod.ext rfl (Prod.ext ?_ rfl)
  funext j
  show bUp _ _ _ j = bUp _ _ _ j
  simp only [sR, sI, sJ, sL, sZ, sN, bUp_if]
  by_cases e : j = 25 <;> simp [e]
theorem rdR_si26 (s : xSt) (r2 r3 r4 r5 r6 r7 r8 r9 r10 r11 r12 r13 r14 r15 r16 : List Int32) (i21 i22 i23 i24 i25 i26 i27 i28 i29 i30 : Int32) (j0 : Int64) (l0 l1 l2 l3 : List Int64) (y : Int32) : sI (rdR s r2 r3 r4 r5 r6 r7 r8 r9 r10 r11 r12 r13 r14 r15 r16 i21 i22 i23 i24 i25 i26 i27 i28 i29 i30 j0 l0 l1 l2 l3) 26 y = rdR s r2 r3 r4 r5 r6 r7 r8 r9 r10 r11 r12 r13 r14 r15 r16 i21 i22 i23 i24 i25 y i27 i28 i29 i30 j0 l0 l1 l2 l3 := by
  unfold rdR
  refine Prod.ext rfl (Prod.ext ?_ rfl)
  funext j
  show bUp _ _ _ j = bUp _ _ _ j
  simp only [sR, sI, sJ, sL, sZ, sN, bUp_if]
  by_cases e : j = 26 <;> simp [e]
theorem rdR_si27 (s : xSt) (r2 r3 r4 r5 r6 r7 r8 r9 r10 r11 r12 r13 r14 r15 r16 : List Int32) (i21 i22 i23 i24 i25 i26 i27 i28 i29 i30 : Int32) (j0 : Int64) (l0 l1 l2 l3 : List Int64) (y : Int32) : sI (rdR s r2 r3 r4 r5 r6 r7 r8 r9 r10 r11 r12 r13 r14 r15 r16 i21 i22 i23 i24 i25 i26 i27 i28 i29 i30 j0 l0 l1 l2 l3) 27 y = rdR s r2 r3 r4 r5 r6 r7 r8 r9 r10 r11 r12 r13 r14 r15 r16 i21 i22 i23 i24 i25 i26 y i28 i29 i30 j0 l0 l1 l2 l3 := by
  unfold rdR
  refine Prod.ext rfl (Prod.ext ?_ rfl)
  funext j
  show bUp _ _ _ j = bUp _ _ _ j
  simp only [sR, sI, sJ, sL, sZ, sN, bUp_if]
  by_cases e : j = 27 <;> simp [e]
theorem rdR_si28 (s : xSt) (r2 r3 r4 r5 r6 r7 r8 r9 r10 r11 r12 r13 r14 r15 r16 : List Int32) (i21 i22 i23 i24 i25 i26 i27 i28 i29 i30 : Int32) (j0 : Int64) (l0 l1 l2 l3 : List Int64) (y : Int32) : sI (rdR s r2 r3 r4 r5 r6 r7 r8 r9 r10 r11 r12 r13 r14 r15 r16 i21 i22 i23 i24 i25 i26 i27 i28 i29 i30 j0 l0 l1 l2 l3) 28 y = rdR s r2 r3 r4 r5 r6 r7 r8 r9 r10 r11 r12 r13 r14 r15 r16 i21 i22 i23 i24 i25 i26 i27 y i29 i30 j0 l0 l1 l2 l3 := by
  unfold rdR
  refine Prod.ext rfl (Prod.ext ?_ rfl)
  funext j
  show bUp _ _ _ j = bUp _ _ _ j
  simp only [sR, sI, sJ, sL, sZ, sN, bUp_if]
  by_cases e : j = 28 <;> simp [e]
theorem rdR_si29 (s : xSt) (r2 r3 r4 r5 r6 r7 r8 r9 r10 r11 r12 r13 r14 r15 r16 : List Int32) (i21 i22 i23 i24 i25 i26 i27 i28 i29 i30 : Int32) (j0 : Int64) (l0 l1 l2 l3 : List Int64) (y : Int32) : sI (rdR s r2 r3 r4 r5 r6 r7 r8 r9 r10 r11 r12 r13 r14 r15 r16 i21 i22 i23 i24 i25 i26 i27 i28 i29 i30 j0 l0 l1 l2 l3) 29 y = rdR s r2 r3 r4 r5 r6 r7 r8 r9 r10 r11 r12 r13 r14 r15 r16 i21 i22 i23 i24 i25 i26 i27 i28 y i30 j0 l0 l1 l2 l3 := by
  unfold rdR
  refine Prod.ext rfl (Prod.ext ?_ rfl)
  funext j
  show bUp _ _ _ j = bUp _ _ _ j
  simp only [sR, sI, sJ, sL, sZ, sN, bUp_if]
  by_cases e : j = 29 <;> simp [e]
theorem rdR_si30 (s : xSt) (r2 r3 r4 r5 r6 r7 r8 r9 r10 r11 r12 r13 r14 r15 r16 : List Int32) (i21 i22 i23 i24 i25 i26 i27 i28 i29 i30 : Int32) (j0 : Int64) (l0 l1 l2 l3 : List Int64) (y : Int32) : sI (rdR s r2 r3 r4 r5 r6 r7 r8 r9 r10 r11 r12 r13 r14 r15 r16 i21 i22 i23 i24 i25 i26 i27 i28 i29 i30 j0 l0 l1 l2 l3) 30 y = rdR s r2 r3 r4 r5 r6 r7 r8 r9 r10 r11 r12 r13 r14 r15 r16 i21 i22 i23 i24 i25 i26 i27 i28 i29 y j0 l0 l1 l2 l3 := by
  unfold rdR
  refine Prod.ext rfl (Prod.ext ?_ rfl)
  funext j
  show bUp _ _ _ j = bUp _ _ _ j
  simp only [sR, sI, sJ, sL, sZ, sN, bUp_if]
  by_cases e : j = 30 <;> simp [e]
theorem rdR_sj0 (s : xSt) (r2 r3 r4 r5 r6 r7 r8 r9 r10 r11 r12 r13 r14 r15 r16 : List Int32) (i21 i22 i23 i24 i25 i26 i27 i28 i29 i30 : Int32) (j0 : Int64) (l0 l1 l2 l3 : List Int64) (y : Int64) : sJ (rdR s r2 r3 r4 r5 r6 r7 r8 r9 r10 r11 r12 r13 r14 r15 r16 i21 i22 i23 i24 i25 i26 i27 i28 i29 i30 j0 l0 l1 l2 l3) 0 y = rdR s r2 r3 r4 r5 r6 r7 r8 r9 r10 r11 r12 r13 r14 r15 r16 i21 i22 i23 i24 i25 i26 i27 i28 i29 i30 y l0 l1 l2 l3 := by
  unfold rdR
  refine Prod.ext rfl (Prod.ext rfl (Prod.ext ?_ rfl))
  funext j
  show bUp _ _ _ j = bUp _ _ _ j
  simp only [sR, sI, sJ, sL, sZ, sN, bUp_if]
  by_cases e : j = 0 <;> simp [e]
theorem rdR_sl0 (s : xSt) (r2 r3 r4 r5 r6 r7 r8 r9 r10 r11 r12 r13 r14 r15 r16 : List Int32) (i21 i22 i23 i24 i25 i26 i27 i28 i29 i30 : Int32) (j0 : Int64) (l0 l1 l2 l3 : List Int64) (y : List Int64) : sL (rdR s r2 r3 r4 r5 r6 r7 r8 r9 r10 r11 r12 r13 r14 r15 r16 i21 i22 i23 i24 i25 i26 i27 i28 i29 i30 j0 l0 l1 l2 l3) 0 y = rdR s r2 r3 r4 r5 r6 r7 r8 r9 r10 r11 r12 r13 r14 r15 r16 i21 i22 i23 i24 i25 i26 i27 i28 i29 i30 j0 y l1 l2 l3 := by
  unfold rdR
  refine Prod.ext rfl (Prod.ext rfl (Prod.ext rfl (Prod.ext ?_ rfl)))
  funext j
  show bUp _ _ _ j = bUp _ _ _ j
  simp only [sR, sI, sJ, sL, sZ, sN, bUp_if]
  by_cases e : j = 0 <;> simp [e]
theorem rdR_sl1 (s : xSt) (r2 r3 r4 r5 r6 r7 r8 r9 r10 r11 r12 r13 r14 r15 r16 : List Int32) (i21 i22 i23 i24 i25 i26 i27 i28 i29 i30 : Int32) (j0 : Int64) (l0 l1 l2 l3 : List Int64) (y : List Int64) : sL (rdR s r2 r3 r4 r5 r6 r7 r8 r9 r10 r11 r12 r13 r14 r15 r16 i21 i22 i23 i24 i25 i26 i27 i28 i29 i30 j0 l0 l1 l2 l3) 1 y = rdR s r2 r3 r4 r5 r6 r7 r8 r9 r10 r11 r12 r13 r14 r15 r16 i21 i22 i23 i24 i25 i26 i27 i28 i29 i30 j0 l0 y l2 l3 := by
  unfold rdR
  refine Prod.ext rfl (Prod.ext rfl (Prod.ext rfl (Prod.ext ?_ rfl)))
  funext j
  show bUp _ _ _ j = bUp _ _ _ j
  simp only [sR, sI, sJ, sL, sZ, sN, bUp_if]
  by_cases e : j = 1 <;> simp [e]
theorem rdR_sl2 (s : xSt) (r2 r3 r4 r5 r6 r7 r8 r9 r10 r11 r12 r13 r14 r15 r16 : List Int32) (i21 i22 i23 i24 i25 i26 i27 i28 i29 i30 : Int32) (j0 : Int64) (l0 l1 l2 l3 : List Int64) (y : List Int64) : sL (rdR s r2 r3 r4 r5 r6 r7 r8 r9 r10 r11 r12 r13 r14 r15 r16 i21 i22 i23 i24 i25 i26 i27 i28 i29 i30 j0 l0 l1 l2 l3) 2 y = rdR s r2 r3 r4 r5 r6 r7 r8 r9 r10 r11 r12 r13 r14 r15 r16 i21 i22 i23 i24 i25 i26 i27 i28 i29 i30 j0 l0 l1 y l3 := by
  unfold rdR
  refine Prod.ext rfl (Prod.ext rfl (Prod.ext rfl (Prod.ext ?_ rfl)))
  funext j
  show bUp _ _ _ j = bUp _ _ _ j
  simp only [sR, sI, sJ, sL, sZ, sN, bUp_if]
  by_cases e : j = 2 <;> simp [e]
theorem rdR_sl3 (s : xSt) (r2 r3 r4 r5 r6 r7 r8 r9 r10 r11 r12 r13 r14 r15 r16 : List Int32) (i21 i22 i23 i24 i25 i26 i27 i28 i29 i30 : Int32) (j0 : Int64) (l0 l1 l2 l3 : List Int64) (y : List Int64) : sL (rdR s r2 r3 r4 r5 r6 r7 r8 r9 r10 r11 r12 r13 r14 r15 r16 i21 i22 i23 i24 i25 i26 i27 i28 i29 i30 j0 l0 l1 l2 l3) 3 y = rdR s r2 r3 r4 r5 r6 r7 r8 r9 r10 r11 r12 r13 r14 r15 r16 i21 i22 i23 i24 i25 i26 i27 i28 i29 i30 j0 l0 l1 l2 y := by
  unfold rdR
  refine Prod.ext rfl (Prod.ext rfl (Prod.ext rfl (Prod.ext ?_ rfl)))
  funext j
  show bUp _ _ _ j = bUp _ _ _ j
  simp only [sR, sI, sJ, sL, sZ, sN, bUp_if]
  by_cases e : j = 3 <;> simp [e]
theorem rdR_id (s : xSt) : rdR s (gR s 2) (gR s 3) (gR s 4) (gR s 5) (gR s 6) (gR s 7) (gR s 8) (gR s 9) (gR s 10) (gR s 11) (gR s 12) (gR s 13) (gR s 14) (gR s 15) (gR s 16) (gI s 21) (gI s 22) (gI s 23) (gI s 24) (gI s 25) (gI s 26) (gI s 27) (gI s 28) (gI s 29) (gI s 30) (gJ s 0) (gL s 0) (gL s 1) (gL s 2) (gL s 3) = s := by
  unfold rdR
  simp only [sR_id, sI_id, sJ_id, sL_id, sZ_id]
