/-! canonical states of reading -/
theorem sJ_id (s : xSt) (i : Nat) : sJ s i (gJ s i) = s := by
  show (s.1, s.2.1, bUp s.2.2.1 i (s.2.2.1 i), s.2.2.2) = s
  rw [bUp_id]
theorem sL_id (s : xSt) (i : Nat) : sL s i (gL s i) = s := by
  show (s.1, s.2.1, s.2.2.1, bUp s.2.2.2.1 i (s.2.2.2.1 i), s.2.2.2.2) = s
  rw [bUp_id]
theorem sZ_id (s : xSt) (i : Nat) : sZ s i (gZ s i) = s := by
  show (s.1, s.2.1, s.2.2.1, s.2.2.2.1, bUp s.2.2.2.2.1 i (s.2.2.2.2.1 i), s.2.2.2.2.2) = s
  rw [bUp_id]
theorem zUp_zUp {α : Type} (f : Bool → α) (z : Bool) (a b : α) : zUp (zUp f z a) z b = zUp f z b := by
  funext y
  cases y <;> cases z <;> rfl
def sPf (s : xSt) (z : Bool) (g : Nat → List Int32) : xSt := (s.1, s.2.1, s.2.2.1, s.2.2.2.1, s.2.2.2.2.1, zUp s.2.2.2.2.2.1 z g, s.2.2.2.2.2.2)
def lexS (s : xSt) (i4 i5 i6 i7 i8 : Int32) (j0 : Int64) : xSt := sJ (sI (sI (sI (sI (sI s 4 i4) 5 i5) 6 i6) 7 i7) 8 i8) 0 j0
theorem lexS_i4 (s : xSt) (i4 i5 i6 i7 i8 : Int32) (j0 : Int64) : gI (lexS s i4 i5 i6 i7 i8 j0) 4 = i4 := rfl
theorem lexS_i5 (s : xSt) (i4 i5 i6 i7 i8 : Int32) (j0 : Int64) : gI (lexS s i4 i5 i6 i7 i8 j0) 5 = i5 := rfl
theorem lexS_i6 (s : xSt) (i4 i5 i6 i7 i8 : Int32) (j0 : Int64) : gI (lexS s i4 i5 i6 i7 i8 j0) 6 = i6 := rfl
theorem lexS_i7 (s : xSt) (i4 i5 i6 i7 i8 : Int32) (j0 : Int64) : gI (lexS s i4 i5 i6 i7 i8 j0) 7 = i7 := rfl
theorem lexS_i8 (s : xSt) (i4 i5 i6 i7 i8 : Int32) (j0 : Int64) : gI (lexS s i4 i5 i6 i7 i8 j0) 8 = i8 := rfl
theorem lexS_j0 (s : xSt) (i4 i5 i6 i7 i8 : Int32) (j0 : Int64) : gJ (lexS s i4 i5 i6 i7 i8 j0) 0 = j0 := rfl
theorem lexS_oi2 (s : xSt) (i4 i5 i6 i7 i8 : Int32) (j0 : Int64) : gI (lexS s i4 i5 i6 i7 i8 j0) 2 = gI s 2 := rfl
theorem lexS_oi3 (s : xSt) (i4 i5 i6 i7 i8 : Int32) (j0 : Int64) : gI (lexS s i4 i5 i6 i7 i8 j0) 3 = gI s 3 := rfl
theorem lexS_oi9 (s : xSt) (i4 i5 i6 i7 i8 : Int32) (j0 : Int64) : gI (lexS s i4 i5 i6 i7 i8 j0) 9 = gI s 9 := rfl
theorem lexS_oi10 (s : xSt) (i4 i5 i6 i7 i8 : Int32) (j0 : Int64) : gI (lexS s i4 i5 i6 i7 i8 j0) 10 = gI s 10 := rfl
theorem lexS_oi11 (s : xSt) (i4 i5 i6 i7 i8 : Int32) (j0 : Int64) : gI (lexS s i4 i5 i6 i7 i8 j0) 11 = gI s 11 := rfl
theorem lexS_P (s : xSt) (i4 i5 i6 i7 i8 : Int32) (j0 : Int64) (z : Bool) (i : Nat) : gP (lexS s i4 i5 i6 i7 i8 j0) z i = gP s z i := rfl
theorem lexS_N (s : xSt) (i4 i5 i6 i7 i8 : Int32) (j0 : Int64) (z : Bool) : gN (lexS s i4 i5 i6 i7 i8 j0) z = gN s z := rfl
theorem lexS_R (s : xSt) (i4 i5 i6 i7 i8 : Int32) (j0 : Int64) (i : Nat) : gR (lexS s i4 i5 i6 i7 i8 j0) i = gR s i := rfl
theorem lexS_L (s : xSt) (i4 i5 i6 i7 i8 : Int32) (j0 : Int64) (i : Nat) : gL (lexS s i4 i5 i6 i7 i8 j0) i = gL s i := rfl
theorem lexS_Z (s : xSt) (i4 i5 i6 i7 i8 : Int32) (j0 : Int64) (i : Nat) : gZ (lexS s i4 i5 i6 i7 i8 j0) i = gZ s i := rfl
theorem lexS_si4 (s : xSt) (i4 i5 i6 i7 i8 : Int32) (j0 : Int64) (y : Int32) : sI (lexS s i4 i5 i6 i7 i8 j0) 4 y = lexS s y i5 i6 i7 i8 j0 := by
  unfold lexS
  refine Prod.ext rfl (Prod.ext ?_ rfl)
  funext j
  show bUp _ _ _ j = bUp _ _ _ j
  simp only [sR, sI, sJ, sL, sZ, sN, bUp_if]
  by_cases e : j = 4 <;> simp [e]
theorem lexS_si5 (s : xSt) (i4 i5 i6 i7 i8 : Int32) (j0 : Int64) (y : Int32) : sI (lexS s i4 i5 i6 i7 i8 j0) 5 y = lexS s i4 y i6 i7 i8 j0 := by
  unfold lexS
  refine Prod.ext rfl (Prod.ext ?_ rfl)
  funext j
  show bUp _ _ _ j = bUp _ _ _ j
  simp only [sR, sI, sJ, sL, sZ, sN, bUp_if]
  by_cases e : j = 5 <;> simp [e]
theorem lexS_si6 (s : xSt) (i4 i5 i6 i7 i8 : Int32) (j0 : Int64) (y : Int32) : sI (lexS s i4 i5 i6 i7 i8 j0) 6 y = lexS s i4 i5 y i7 i8 j0 := by
  unfold lexS
  refine Prod.ext rfl (Prod.ext ?_ rfl)
  funext j
  show bUp _ _ _ j = bUp _ _ _ j
  simp only [sR, sI, sJ, sL, sZ, sN, bUp_if]
  by_cases e : j = 6 <;> simp [e]
theorem lexS_si7 (s : xSt) (i4 i5 i6 i7 i8 : Int32) (j0 : Int64) (y : Int32) : sI (lexS s i4 i5 i6 i7 i8 j0) 7 y = lexS s i4 i5 i6 y i8 j0 := by
  unfold lexS
  refine Prod.ext rfl (Prod.ext ?_ rfl)
  funext j
  show bUp _ _ _ j = bUp _ _ _ j
  simp only [sR, sI, sJ, sL, sZ, sN, bUp_if]
  by_cases e : j = 7 <;> simp [e]
theorem lexS_si8 (s : xSt) (i4 i5 i6 i7 i8 : Int32) (j0 : Int64) (y : Int32) : sI (lexS s i4 i5 i6 i7 i8 j0) 8 y = lexS s i4 i5 i6 i7 y j0 := by
  unfold lexS
  refine Prod.ext rfl (Prod.ext ?_ rfl)
  funext j
  show bUp _ _ _ j = bUp _ _ _ j
  simp only [sR, sI, sJ, sL, sZ, sN, bUp_if]
  by_cases e : j = 8 <;> simp [e]
theorem lexS_sj0 (s : xSt) (i4 i5 i6 i7 i8 : Int32) (j0 : Int64) (y : Int64) : sJ (lexS s i4 i5 i6 i7 i8 j0) 0 y = lexS s i4 i5 i6 i7 i8 y := by
  unfold lexS
  refine Prod.ext rfl (Prod.ext rfl (Prod.ext ?_ rfl))
  funext j
  show bUp _ _ _ j = bUp _ _ _ j
  simp only [sR, sI, sJ, sL, sZ, sN, bUp_if]
  by_cases e : j = 0 <;> simp [e]
theorem lexS_id (s : xSt) : lexS s (gI s 4) (gI s 5) (gI s 6) (gI s 7) (gI s 8) (gJ s 0) = s := by
  unfold lexS
  simp only [sR_id, sI_id, sJ_id, sL_id, sZ_id]
def lexR (s : xSt) (i21 i22 i23 i24 i25 i26 : Int32) (j0 : Int64) : xSt := sJ (sI (sI (sI (sI (sI (sI s 21 i21) 22 i22) 23 i23) 24 i24) 25 i25) 26 i26) 0 j0
theorem lexR_i21 (s : xSt) (i21 i22 i23 i24 i25 i26 : Int32) (j0 : Int64) : gI (lexR s i21 i22 i23 i24 i25 i26 j0) 21 = i21 := rfl
theorem lexR_i22 (s : xSt) (i21 i22 i23 i24 i25 i26 : Int32) (j0 : Int64) : gI (lexR s i21 i22 i23 i24 i25 i26 j0) 22 = i22 := rfl
theorem lexR_i23 (s : xSt) (i21 i22 i23 i24 i25 i26 : Int32) (j0 : Int64) : gI (lexR s i21 i22 i23 i24 i25 i26 j0) 23 = i23 := rfl
theorem lexR_i24 (s : xSt) (i21 i22 i23 i24 i25 i26 : Int32) (j0 : Int64) : gI (lexR s i21 i22 i23 i24 i25 i26 j0) 24 = i24 := rfl
theorem lexR_i25 (s : xSt) (i21 i22 i23 i24 i25 i26 : Int32) (j0 : Int64) : gI (lexR s i21 i22 i23 i24 i25 i26 j0) 25 = i25 := rfl
theorem lexR_i26 (s : xSt) (i21 i22 i23 i24 i25 i26 : Int32) (j0 : Int64) : gI (lexR s i21 i22 i23 i24 i25 i26 j0) 26 = i26 := rfl
theorem lexR_j0 (s : xSt) (i21 i22 i23 i24 i25 i26 : Int32) (j0 : Int64) : gJ (lexR s i21 i22 i23 i24 i25 i26 j0) 0 = j0 := rfl
theorem lexR_oi20 (s : xSt) (i21 i22 i23 i24 i25 i26 : Int32) (j0 : Int64) : gI (lexR s i21 i22 i23 i24 i25 i26 j0) 20 = gI s 20 := rfl
theorem lexR_oi27 (s : xSt) (i21 i22 i23 i24 i25 i26 : Int32) (j0 : Int64) : gI (lexR s i21 i22 i23 i24 i25 i26 j0) 27 = gI s 27 := rfl
theorem lexR_oi28 (s : xSt) (i21 i22 i23 i24 i25 i26 : Int32) (j0 : Int64) : gI (lexR s i21 i22 i23 i24 i25 i26 j0) 28 = gI s 28 := rfl
theorem lexR_oi29 (s : xSt) (i21 i22 i23 i24 i25 i26 : Int32) (j0 : Int64) : gI (lexR s i21 i22 i23 i24 i25 i26 j0) 29 = gI s 29 := rfl
theorem lexR_oi30 (s : xSt) (i21 i22 i23 i24 i25 i26 : Int32) (j0 : Int64) : gI (lexR s i21 i22 i23 i24 i25 i26 j0) 30 = gI s 30 := rfl
theorem lexR_P (s : xSt) (i21 i22 i23 i24 i25 i26 : Int32) (j0 : Int64) (z : Bool) (i : Nat) : gP (lexR s i21 i22 i23 i24 i25 i26 j0) z i = gP s z i := rfl
theorem lexR_N (s : xSt) (i21 i22 i23 i24 i25 i26 : Int32) (j0 : Int64) (z : Bool) : gN (lexR s i21 i22 i23 i24 i25 i26 j0) z = gN s z := rfl
theorem lexR_R (s : xSt) (i21 i22 i23 i24 i25 i26 : Int32) (j0 : Int64) (i : Nat) : gR (lexR s i21 i22 i23 i24 i25 i26 j0) i = gR s i := rfl
theorem lexR_L (s : xSt) (i21 i22 i23 i24 i25 i26 : Int32) (j0 : Int64) (i : Nat) : gL (lexR s i21 i22 i23 i24 i25 i26 j0) i = gL s i := rfl
theorem lexR_Z (s : xSt) (i21 i22 i23 i24 i25 i26 : Int32) (j0 : Int64) (i : Nat) : gZ (lexR s i21 i22 i23 i24 i25 i26 j0) i = gZ s i := rfl
theorem lexR_si21 (s : xSt) (i21 i22 i23 i24 i25 i26 : Int32) (j0 : Int64) (y : Int32) : sI (lexR s i21 i22 i23 i24 i25 i26 j0) 21 y = lexR s y i22 i23 i24 i25 i26 j0 := by
  unfold lexR
  refine Prod.ext rfl (Prod.ext ?_ rfl)
  funext j
  show bUp _ _ _ j = bUp _ _ _ j
  simp only [sR, sI, sJ, sL, sZ, sN, bUp_if]
  by_cases e : j = 21 <;> simp [e]
theorem lexR_si22 (s : xSt) (i21 i22 i23 i24 i25 i26 : Int32) (j0 : Int64) (y : Int32) : sI (lexR s i21 i22 i23 i24 i25 i26 j0) 22 y = lexR s i21 y i23 i24 i25 i26 j0 := by
  unfold lexR
  refine Prod.ext rfl (Prod.ext ?_ rfl)
  funext j
  show bUp _ _ _ j = bUp _ _ _ j
  simp only [sR, sI, sJ, sL, sZ, sN, bUp_if]
  by_cases e : j = 22 <;> simp [e]
theorem lexR_si23 (s : xSt) (i21 i22 i23 i24 i25 i26 : Int32) (j0 : Int64) (y : Int32) : sI (lexR s i21 i22 i23 i24 i25 i26 j0) 23 y = lexR s i21 i22 y i24 i25 i26 j0 := by
  unfold lexR
  refine Prod.ext rfl (Prod.ext ?_ rfl)
  funext j
  show bUp _ _ _ j = bUp _ _ _ j
  simp only [sR, sI, sJ, sL, sZ, sN, bUp_if]
  by_cases e : j = 23 <;> simp [e]
theorem lexR_si24 (s : xSt) (i21 i22 i23 i24 i25 i26 : Int32) (j0 : Int64) (y : Int32) : sI (lexR s i21 i22 i23 i24 i25 i26 j0) 24 y = lexR s i21 i22 i23 y i25 i26 j0 := by
  unfold lexR
  refine Prod.ext rfl (Prod.ext ?_ rfl)
  funext j
  show bUp _ _ _ j = bUp _ _ _ j
  simp only [sR, sI, sJ, sL, sZ, sN, bUp_if]
  by_cases e : j = 24 <;> simp [e]
theorem lexR_si25 (s : xSt) (i21 i22 i23 i24 i25 i26 : Int32) (j0 : Int64) (y : Int32) : sI (lexR s i21 i22 i23 i24 i25 i26 j0) 25 y = lexR s i21 i22 i23 i24 y i26 j0 := by
  unfold lexR
  refine Prod.ext rfl (Prod.ext ?_ rfl)
  funext j
  show bUp _ _ _ j = bUp _ _ _ j
  simp only [sR, sI, sJ, sL, sZ, sN, bUp_if]
  by_cases e : j = 25 <;> simp [e]
theorem lexR_si26 (s : xSt) (i21 i22 i23 i24 i25 i26 : Int32) (j0 : Int64) (y : Int32) : sI (lexR s i21 i22 i23 i24 i25 i26 j0) 26 y = lexR s i21 i22 i23 i24 i25 y j0 := by
  unfold lexR
  refine Prod.ext rfl (Prod.ext ?_ rfl)
  funext j
  show bUp _ _ _ j = bUp _ _ _ j
  simp only [sR, sI, sJ, sL, sZ, sN, bUp_if]
  by_cases e : j = 26 <;> simp [e]
theorem lexR_sj0 (s : xSt) (i21 i22 i23 i24 i25 i26 : Int32) (j0 : Int64) (y : Int64) : sJ (lexR s i21 i22 i23 i24 i25 i26 j0) 0 y = lexR s i21 i22 i23 i24 i25 i26 y := by
  unfold lexR
  refine Prod.ext rfl (Prod.ext rfl (Prod.ext ?_ rfl))
  funext j
  show bUp _ _ _ j = bUp _ _ _ j
  simp only [sR, sI, sJ, sL, sZ, sN, bUp_if]
  by_cases e : j = 0 <;> simp [e]
theorem lexR_id (s : xSt) : lexR s (gI s 21) (gI s 22) (gI s 23) (gI s 24) (gI s 25) (gI s 26) (gJ s 0) = s := by
  unfold lexR
  simp only [sR_id, sI_id, sJ_id, sL_id, sZ_id]
