/-! canonical states of a program that is learnt -/
def lnR (s : xSt) (r31 r32 r33 r34 r35 r36 r37 r38 r39 r40 r41 r42 r43 r44 : List Int32) (i5 i6 : Int32) : xSt := sI (sI (sR (sR (sR (sR (sR (sR (sR (sR (sR (sR (sR (sR (sR (sR s 31 r31) 32 r32) 33 r33) 34 r34) 35 r35) 36 r36) 37 r37) 38 r38) 39 r39) 40 r40) 41 r41) 42 r42) 43 r43) 44 r44) 5 i5) 6 i6
theorem lnR_r31 (s : xSt) (r31 r32 r33 r34 r35 r36 r37 r38 r39 r40 r41 r42 r43 r44 : List Int32) (i5 i6 : Int32) : gR (lnR s r31 r32 r33 r34 r35 r36 r37 r38 r39 r40 r41 r42 r43 r44 i5 i6) 31 = r31 := rfl
theorem lnR_r32 (s : xSt) (r31 r32 r33 r34 r35 r36 r37 r38 r39 r40 r41 r42 r43 r44 : List Int32) (i5 i6 : Int32) : gR (lnR s r31 r32 r33 r34 r35 r36 r37 r38 r39 r40 r41 r42 r43 r44 i5 i6) 32 = r32 := rfl
theorem lnR_r33 (s : xSt) (r31 r32 r33 r34 r35 r36 r37 r38 r39 r40 r41 r42 r43 r44 : List Int32) (i5 i6 : Int32) : gR (lnR s r31 r32 r33 r34 r35 r36 r37 r38 r39 r40 r41 r42 r43 r44 i5 i6) 33 = r33 := rfl
theorem lnR_r34 (s : xSt) (r31 r32 r33 r34 r35 r36 r37 r38 r39 r40 r41 r42 r43 r44 : List Int32) (i5 i6 : Int32) : gR (lnR s r31 r32 r33 r34 r35 r36 r37 r38 r39 r40 r41 r42 r43 r44 i5 i6) 34 = r34 := rfl
theorem lnR_r35 (s : xSt) (r31 r32 r33 r34 r35 r36 r37 r38 r39 r40 r41 r42 r43 r44 : List Int32) (i5 i6 : Int32) : gR (lnR s r31 r32 r33 r34 r35 r36 r37 r38 r39 r40 r41 r42 r43 r44 i5 i6) 35 = r35 := rfl
theorem lnR_r36 (s : xSt) (r31 r32 r33 r34 r35 r36 r37 r38 r39 r40 r41 r42 r43 r44 : List Int32) (i5 i6 : Int32) : gR (lnR s r31 r32 r33 r34 r35 r36 r37 r38 r39 r40 r41 r42 r43 r44 i5 i6) 36 = r36 := rfl
theorem lnR_r37 (s : xSt) (r31 r32 r33 r34 r35 r36 r37 r38 r39 r40 r41 r42 r43 r44 : List Int32) (i5 i6 : Int32) : gR (lnR s r31 r32 r33 r34 r35 r36 r37 r38 r39 r40 r41 r42 r43 r44 i5 i6) 37 = r37 := rfl
theorem lnR_r38 (s : xSt) (r31 r32 r33 r34 r35 r36 r37 r38 r39 r40 r41 r42 r43 r44 : List Int32) (i5 i6 : Int32) : gR (lnR s r31 r32 r33 r34 r35 r36 r37 r38 r39 r40 r41 r42 r43 r44 i5 i6) 38 = r38 := rfl
theorem lnR_r39 (s : xSt) (r31 r32 r33 r34 r35 r36 r37 r38 r39 r40 r41 r42 r43 r44 : List Int32) (i5 i6 : Int32) : gR (lnR s r31 r32 r33 r34 r35 r36 r37 r38 r39 r40 r41 r42 r43 r44 i5 i6) 39 = r39 := rfl
theorem lnR_r40 (s : xSt) (r31 r32 r33 r34 r35 r36 r37 r38 r39 r40 r41 r42 r43 r44 : List Int32) (i5 i6 : Int32) : gR (lnR s r31 r32 r33 r34 r35 r36 r37 r38 r39 r40 r41 r42 r43 r44 i5 i6) 40 = r40 := rfl
theorem lnR_r41 (s : xSt) (r31 r32 r33 r34 r35 r36 r37 r38 r39 r40 r41 r42 r43 r44 : List Int32) (i5 i6 : Int32) : gR (lnR s r31 r32 r33 r34 r35 r36 r37 r38 r39 r40 r41 r42 r43 r44 i5 i6) 41 = r41 := rfl
theorem lnR_r42 (s : xSt) (r31 r32 r33 r34 r35 r36 r37 r38 r39 r40 r41 r42 r43 r44 : List Int32) (i5 i6 : Int32) : gR (lnR s r31 r32 r33 r34 r35 r36 r37 r38 r39 r40 r41 r42 r43 r44 i5 i6) 42 = r42 := rfl
theorem lnR_r43 (s : xSt) (r31 r32 r33 r34 r35 r36 r37 r38 r39 r40 r41 r42 r43 r44 : List Int32) (i5 i6 : Int32) : gR (lnR s r31 r32 r33 r34 r35 r36 r37 r38 r39 r40 r41 r42 r43 r44 i5 i6) 43 = r43 := rfl
theorem lnR_r44 (s : xSt) (r31 r32 r33 r34 r35 r36 r37 r38 r39 r40 r41 r42 r43 r44 : List Int32) (i5 i6 : Int32) : gR (lnR s r31 r32 r33 r34 r35 r36 r37 r38 r39 r40 r41 r42 r43 r44 i5 i6) 44 = r44 := rfl
theorem lnR_i5 (s : xSt) (r31 r32 r33 r34 r35 r36 r37 r38 r39 r40 r41 r42 r43 r44 : List Int32) (i5 i6 : Int32) : gI (lnR s r31 r32 r33 r34 r35 r36 r37 r38 r39 r40 r41 r42 r43 r44 i5 i6) 5 = i5 := rfl
theorem lnR_i6 (s : xSt) (r31 r32 r33 r34 r35 r36 r37 r38 r39 r40 r41 r42 r43 r44 : List Int32) (i5 i6 : Int32) : gI (lnR s r31 r32 r33 r34 r35 r36 r37 r38 r39 r40 r41 r42 r43 r44 i5 i6) 6 = i6 := rfl
theorem lnR_or5 (s : xSt) (r31 r32 r33 r34 r35 r36 r37 r38 r39 r40 r41 r42 r43 r44 : List Int32) (i5 i6 : Int32) : gR (lnR s r31 r32 r33 r34 r35 r36 r37 r38 r39 r40 r41 r42 r43 r44 i5 i6) 5 = gR s 5 := rfl
theorem lnR_or8 (s : xSt) (r31 r32 r33 r34 r35 r36 r37 r38 r39 r40 r41 r42 r43 r44 : List Int32) (i5 i6 : Int32) : gR (lnR s r31 r32 r33 r34 r35 r36 r37 r38 r39 r40 r41 r42 r43 r44 i5 i6) 8 = gR s 8 := rfl
theorem lnR_or9 (s : xSt) (r31 r32 r33 r34 r35 r36 r37 r38 r39 r40 r41 r42 r43 r44 : List Int32) (i5 i6 : Int32) : gR (lnR s r31 r32 r33 r34 r35 r36 r37 r38 r39 r40 r41 r42 r43 r44 i5 i6) 9 = gR s 9 := rfl
theorem lnR_or13 (s : xSt) (r31 r32 r33 r34 r35 r36 r37 r38 r39 r40 r41 r42 r43 r44 : List Int32) (i5 i6 : Int32) : gR (lnR s r31 r32 r33 r34 r35 r36 r37 r38 r39 r40 r41 r42 r43 r44 i5 i6) 13 = gR s 13 := rfl
theorem lnR_or14 (s : xSt) (r31 r32 r33 r34 r35 r36 r37 r38 r39 r40 r41 r42 r43 r44 : List Int32) (i5 i6 : Int32) : gR (lnR s r31 r32 r33 r34 r35 r36 r37 r38 r39 r40 r41 r42 r43 r44 i5 i6) 14 = gR s 14 := rfl
theorem lnR_or29 (s : xSt) (r31 r32 r33 r34 r35 r36 r37 r38 r39 r40 r41 r42 r43 r44 : List Int32) (i5 i6 : Int32) : gR (lnR s r31 r32 r33 r34 r35 r36 r37 r38 r39 r40 r41 r42 r43 r44 i5 i6) 29 = gR s 29 := rfl
theorem lnR_or30 (s : xSt) (r31 r32 r33 r34 r35 r36 r37 r38 r39 r40 r41 r42 r43 r44 : List Int32) (i5 i6 : Int32) : gR (lnR s r31 r32 r33 r34 r35 r36 r37 r38 r39 r40 r41 r42 r43 r44 i5 i6) 30 = gR s 30 := rfl
theorem lnR_oi27 (s : xSt) (r31 r32 r33 r34 r35 r36 r37 r38 r39 r40 r41 r42 r43 r44 : List Int32) (i5 i6 : Int32) : gI (lnR s r31 r32 r33 r34 r35 r36 r37 r38 r39 r40 r41 r42 r43 r44 i5 i6) 27 = gI s 27 := rfl
theorem lnR_oi28 (s : xSt) (r31 r32 r33 r34 r35 r36 r37 r38 r39 r40 r41 r42 r43 r44 : List Int32) (i5 i6 : Int32) : gI (lnR s r31 r32 r33 r34 r35 r36 r37 r38 r39 r40 r41 r42 r43 r44 i5 i6) 28 = gI s 28 := rfl
theorem lnR_P (s : xSt) (r31 r32 r33 r34 r35 r36 r37 r38 r39 r40 r41 r42 r43 r44 : List Int32) (i5 i6 : Int32) (z : Bool) (i : Nat) : gP (lnR s r31 r32 r33 r34 r35 r36 r37 r38 r39 r40 r41 r42 r43 r44 i5 i6) z i = gP s z i := rfl
theorem lnR_N (s : xSt) (r31 r32 r33 r34 r35 r36 r37 r38 r39 r40 r41 r42 r43 r44 : List Int32) (i5 i6 : Int32) (z : Bool) : gN (lnR s r31 r32 r33 r34 r35 r36 r37 r38 r39 r40 r41 r42 r43 r44 i5 i6) z = gN s z := rfl
theorem lnR_J (s : xSt) (r31 r32 r33 r34 r35 r36 r37 r38 r39 r40 r41 r42 r43 r44 : List Int32) (i5 i6 : Int32) (i : Nat) : gJ (lnR s r31 r32 r33 r34 r35 r36 r37 r38 r39 r40 r41 r42 r43 r44 i5 i6) i = gJ s i := rfl
theorem lnR_L (s : xSt) (r31 r32 r33 r34 r35 r36 r37 r38 r39 r40 r41 r42 r43 r44 : List Int32) (i5 i6 : Int32) (i : Nat) : gL (lnR s r31 r32 r33 r34 r35 r36 r37 r38 r39 r40 r41 r42 r43 r44 i5 i6) i = gL s i := rfl
theorem lnR_Z (s : xSt) (r31 r32 r33 r34 r35 r36 r37 r38 r39 r40 r41 r42 r43 r44 : List Int32) (i5 i6 : Int32) (i : Nat) : gZ (lnR s r31 r32 r33 r34 r35 r36 r37 r38 r39 r40 r41 r42 r43 r44 i5 i6) i = gZ s i := rfl
theorem lnR_sr31 (s : xSt) (r31 r32 r33 r34 r35 r36 r37 r38 r39 r40 r41 r42 r43 r44 : List Int32) (i5 i6 : Int32) (y : List Int32) : sR (lnR s r31 r32 r33 r34 r35 r36 r37 r38 r39 r40 r41 r42 r43 r44 i5 i6) 31 y = lnR s y r32 r33 r34 r35 r36 r37 r38 r39 r40 r41 r42 r43 r44 i5 i6 := by
  unfold lnR
  refine Prod.ext ?_ rfl
  funext j
  show bUp _ _ _ j = bUp _ _ _ j
  simp only [sR, sI, sJ, sL, sZ, sN, bUp_if]
  by_cases e : j = 31 <;> simp [e]
theorem lnR_sr32 (s : xSt) (r31 r32 r33 r34 r35 r36 r37 r38 r39 r40 r41 r42 r43 r44 : List Int32) (i5 i6 : Int32) (y : List Int32) : sR (lnR s r31 r32 r33 r34 r35 r36 r37 r38 r39 r40 r41 r42 r43 r44 i5 i6) 32 y = lnR s r31 y r33 r34 r35 r36 r37 r38 r39 r40 r41 r42 r43 r44 i5 i6 := by
  unfold lnR
  refine Prod.ext ?_ rfl
  funext j
  show bUp _ _ _ j = bUp _ _ _ j
  simp only [sR, sI, sJ, sL, sZ, sN, bUp_if]
  by_cases e : j = 32 <;> simp [e]
theorem lnR_sr33 (s : xSt) (r31 r32 r33 r34 r35 r36 r37 r38 r39 r40 r41 r42 r43 r44 : List Int32) (i5 i6 : Int32) (y : List Int32) : sR (lnR s r31 r32 r33 r34 r35 r36 r37 r38 r39 r40 r41 r42 r43 r44 i5 i6) 33 y = lnR s r31 r32 y r34 r35 r36 r37 r38 r39 r40 r41 r42 r43 r44 i5 i6 := by
  unfold lnR
  refine Prod.ext ?_ rfl
  funext j
  show bUp _ _ _ j = bUp _ _ _ j
  simp only [sR, sI, sJ, sL, sZ, sN, bUp_if]
  by_cases e : j = 33 <;> simp [e]
theorem lnR_sr34 (s : xSt) (r31 r32 r33 r34 r35 r36 r37 r38 r39 r40 r41 r42 r43 r44 : List Int32) (i5 i6 : Int32) (y : List Int32) : sR (lnR s r31 r32 r33 r34 r35 r36 r37 r38 r39 r40 r41 r42 r43 r44 i5 i6) 34 y = lnR s r31 r32 r33 y r35 r36 r37 r38 r39 r40 r41 r42 r43 r44 i5 i6 := by
  unfold lnR
  refine Prod.ext ?_ rfl
  funext j
  show bUp _ _ _ j = bUp _ _ _ j
  simp only [sR, sI, sJ, sL, sZ, sN, bUp_if]
  by_cases e : j = 34 <;> simp [e]
theorem lnR_sr35 (s : xSt) (r31 r32 r33 r34 r35 r36 r37 r38 r39 r40 r41 r42 r43 r44 : List Int32) (i5 i6 : Int32) (y : List Int32) : sR (lnR s r31 r32 r33 r34 r35 r36 r37 r38 r39 r40 r41 r42 r43 r44 i5 i6) 35 y = lnR s r31 r32 r33 r34 y r36 r37 r38 r39 r40 r41 r42 r43 r44 i5 i6 := by
  unfold lnR
  refine Prod.ext ?_ rfl
  funext j
  show bUp _ _ _ j = bUp _ _ _ j
  simp only [sR, sI, sJ, sL, sZ, sN, bUp_if]
  by_cases e : j = 35 <;> simp [e]
theorem lnR_sr36 (s : xSt) (r31 r32 r33 r34 r35 r36 r37 r38 r39 r40 r41 r42 r43 r44 : List Int32) (i5 i6 : Int32) (y : List Int32) : sR (lnR s r31 r32 r33 r34 r35 r36 r37 r38 r39 r40 r41 r42 r43 r44 i5 i6) 36 y = lnR s r31 r32 r33 r34 r35 y r37 r38 r39 r40 r41 r42 r43 r44 i5 i6 := by
  unfold lnR
  refine Prod.ext ?_ rfl
  funext j
  show bUp _ _ _ j = bUp _ _ _ j
  simp only [sR, sI, sJ, sL, sZ, sN, bUp_if]
  by_cases e : j = 36 <;> simp [e]
theorem lnR_sr37 (s : xSt) (r31 r32 r33 r34 r35 r36 r37 r38 r39 r40 r41 r42 r43 r44 : List Int32) (i5 i6 : Int32) (y : List Int32) : sR (lnR s r31 r32 r33 r34 r35 r36 r37 r38 r39 r40 r41 r42 r43 r44 i5 i6) 37 y = lnR s r31 r32 r33 r34 r35 r36 y r38 r39 r40 r41 r42 r43 r44 i5 i6 := by
  unfold lnR
  refine Prod.ext ?_ rfl
  funext j
  show bUp _ _ _ j = bUp _ _ _ j
  simp only [sR, sI, sJ, sL, sZ, sN, bUp_if]
  by_cases e : j = 37 <;> simp [e]
theorem lnR_sr38 (s : xSt) (r31 r32 r33 r34 r35 r36 r37 r38 r39 r40 r41 r42 r43 r44 : List Int32) (i5 i6 : Int32) (y : List Int32) : sR (lnR s r31 r32 r33 r34 r35 r36 r37 r38 r39 r40 r41 r42 r43 r44 i5 i6) 38 y = lnR s r31 r32 r33 r34 r35 r36 r37 y r39 r40 r41 r42 r43 r44 i5 i6 := by
  unfold lnR
  refine Prod.ext ?_ rfl
  funext j
  show bUp _ _ _ j = bUp _ _ _ j
  simp only [sR, sI, sJ, sL, sZ, sN, bUp_if]
  by_cases e : j = 38 <;> simp [e]
theorem lnR_sr39 (s : xSt) (r31 r32 r33 r34 r35 r36 r37 r38 r39 r40 r41 r42 r43 r44 : List Int32) (i5 i6 : Int32) (y : List Int32) : sR (lnR s r31 r32 r33 r34 r35 r36 r37 r38 r39 r40 r41 r42 r43 r44 i5 i6) 39 y = lnR s r31 r32 r33 r34 r35 r36 r37 r38 y r40 r41 r42 r43 r44 i5 i6 := by
  unfold lnR
  refine Prod.ext ?_ rfl
  funext j
  show bUp _ _ _ j = bUp _ _ _ j
  simp only [sR, sI, sJ, sL, sZ, sN, bUp_if]
  by_cases e : j = 39 <;> simp [e]
theorem lnR_sr40 (s : xSt) (r31 r32 r33 r34 r35 r36 r37 r38 r39 r40 r41 r42 r43 r44 : List Int32) (i5 i6 : Int32) (y : List Int32) : sR (lnR s r31 r32 r33 r34 r35 r36 r37 r38 r39 r40 r41 r42 r43 r44 i5 i6) 40 y = lnR s r31 r32 r33 r34 r35 r36 r37 r38 r39 y r41 r42 r43 r44 i5 i6 := by
  unfold lnR
  refine Prod.ext ?_ rfl
  funext j
  show bUp _ _ _ j = bUp _ _ _ j
  simp only [sR, sI, sJ, sL, sZ, sN, bUp_if]
  by_cases e : j = 40 <;> simp [e]
theorem lnR_sr41 (s : xSt) (r31 r32 r33 r34 r35 r36 r37 r38 r39 r40 r41 r42 r43 r44 : List Int32) (i5 i6 : Int32) (y : List Int32) : sR (lnR s r31 r32 r33 r34 r35 r36 r37 r38 r39 r40 r41 r42 r43 r44 i5 i6) 41 y = lnR s r31 r32 r33 r34 r35 r36 r37 r38 r39 r40 y r42 r43 r44 i5 i6 := by
  unfold lnR
  refine Prod.ext ?_ rfl
  funext j
  show bUp _ _ _ j = bUp _ _ _ j
  simp only [sR, sI, sJ, sL, sZ, sN, bUp_if]
  by_cases e : j = 41 <;> simp [e]
theorem lnR_sr42 (s : xSt) (r31 r32 r33 r34 r35 r36 r37 r38 r39 r40 r41 r42 r43 r44 : List Int32) (i5 i6 : Int32) (y : List Int32) : sR (lnR s r31 r32 r33 r34 r35 r36 r37 r38 r39 r40 r41 r42 r43 r44 i5 i6) 42 y = lnR s r31 r32 r33 r34 r35 r36 r37 r38 r39 r40 r41 y r43 r44 i5 i6 := by
  unfold lnR
  refine Prod.ext ?_ rfl
  funext j
  show bUp _ _ _ j = bUp _ _ _ j
  simp only [sR, sI, sJ, sL, sZ, sN, bUp_if]
  by_cases e : j = 42 <;> simp [e]
theorem lnR_sr43 (s : xSt) (r31 r32 r33 r34 r35 r36 r37 r38 r39 r40 r41 r42 r43 r44 : List Int32) (i5 i6 : Int32) (y : List Int32) : sR (lnR s r31 r32 r33 r34 r35 r36 r37 r38 r39 r40 r41 r42 r43 r44 i5 i6) 43 y = lnR s r31 r32 r33 r34 r35 r36 r37 r38 r39 r40 r41 r42 y r44 i5 i6 := by
  unfold lnR
  refine Prod.ext ?_ rfl
  funext j
  show bUp _ _ _ j = bUp _ _ _ j
  simp only [sR, sI, sJ, sL, sZ, sN, bUp_if]
  by_cases e : j = 43 <;> simp [e]
theorem lnR_sr44 (s : xSt) (r31 r32 r33 r34 r35 r36 r37 r38 r39 r40 r41 r42 r43 r44 : List Int32) (i5 i6 : Int32) (y : List Int32) : sR (lnR s r31 r32 r33 r34 r35 r36 r37 r38 r39 r40 r41 r42 r43 r44 i5 i6) 44 y = lnR s r31 r32 r33 r34 r35 r36 r37 r38 r39 r40 r41 r42 r43 y i5 i6 := by
  unfold lnR
  refine Prod.ext ?_ rfl
  funext j
  show bUp _ _ _ j = bUp _ _ _ j
  simp only [sR, sI, sJ, sL, sZ, sN, bUp_if]
  by_cases e : j = 44 <;> simp [e]
theorem lnR_si5 (s : xSt) (r31 r32 r33 r34 r35 r36 r37 r38 r39 r40 r41 r42 r43 r44 : List Int32) (i5 i6 : Int32) (y : Int32) : sI (lnR s r31 r32 r33 r34 r35 r36 r37 r38 r39 r40 r41 r42 r43 r44 i5 i6) 5 y = lnR s r31 r32 r33 r34 r35 r36 r37 r38 r39 r40 r41 r42 r43 r44 y i6 := by
  unfold lnR
  refine Prod.ext rfl (Prod.ext ?_ rfl)
  funext j
  show bUp _ _ _ j = bUp _ _ _ j
  simp only [sR, sI, sJ, sL, sZ, sN, bUp_if]
  by_cases e : j = 5 <;> simp [e]
theorem lnR_si6 (s : xSt) (r31 r32 r33 r34 r35 r36 r37 r38 r39 r40 r41 r42 r43 r44 : List Int32) (i5 i6 : Int32) (y : Int32) : sI (lnR s r31 r32 r33 r34 r35 r36 r37 r38 r39 r40 r41 r42 r43 r44 i5 i6) 6 y = lnR s r31 r32 r33 r34 r35 r36 r37 r38 r39 r40 r41 r42 r43 r44 i5 y := by
  unfold lnR
  refine Prod.ext rfl (Prod.ext ?_ rfl)
  funext j
  show bUp _ _ _ j = bUp _ _ _ j
  simp only [sR, sI, sJ, sL, sZ, sN, bUp_if]
  by_cases e : j = 6 <;> simp [e]
theorem lnR_id (s : xSt) : lnR s (gR s 31) (gR s 32) (gR s 33) (gR s 34) (gR s 35) (gR s 36) (gR s 37) (gR s 38) (gR s 39) (gR s 40) (gR s 41) (gR s 42) (gR s 43) (gR s 44) (gI s 5) (gI s 6) = s := by
  unfold lnR
  simp only [sR_id, sI_id, sJ_id, sL_id, sZ_id]
