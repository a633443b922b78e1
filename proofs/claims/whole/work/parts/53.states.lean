/-! the states of a run: all but what a run changes is that of s -/
def cS (s : xSt) (x8 x9 x10 x11 x12 x13 : List Int32) (i12 i13 i14 : Int32) : xSt := sI (sI (sI (sR (sR (sR (sR (sR (sR s 8 x8) 9 x9) 10 x10) 11 x11) 12 x12) 13 x13) 12 i12) 13 i13) 14 i14
theorem cS_g8 (s : xSt) (x8 x9 x10 x11 x12 x13 : List Int32) (i12 i13 i14 : Int32) : gR (cS s x8 x9 x10 x11 x12 x13 i12 i13 i14) 8 = x8 := rfl
theorem cS_g9 (s : xSt) (x8 x9 x10 x11 x12 x13 : List Int32) (i12 i13 i14 : Int32) : gR (cS s x8 x9 x10 x11 x12 x13 i12 i13 i14) 9 = x9 := rfl
theorem cS_g10 (s : xSt) (x8 x9 x10 x11 x12 x13 : List Int32) (i12 i13 i14 : Int32) : gR (cS s x8 x9 x10 x11 x12 x13 i12 i13 i14) 10 = x10 := rfl
theorem cS_g11 (s : xSt) (x8 x9 x10 x11 x12 x13 : List Int32) (i12 i13 i14 : Int32) : gR (cS s x8 x9 x10 x11 x12 x13 i12 i13 i14) 11 = x11 := rfl
theorem cS_g12 (s : xSt) (x8 x9 x10 x11 x12 x13 : List Int32) (i12 i13 i14 : Int32) : gR (cS s x8 x9 x10 x11 x12 x13 i12 i13 i14) 12 = x12 := rfl
theorem cS_g13 (s : xSt) (x8 x9 x10 x11 x12 x13 : List Int32) (i12 i13 i14 : Int32) : gR (cS s x8 x9 x10 x11 x12 x13 i12 i13 i14) 13 = x13 := rfl
theorem cS_i12 (s : xSt) (x8 x9 x10 x11 x12 x13 : List Int32) (i12 i13 i14 : Int32) : gI (cS s x8 x9 x10 x11 x12 x13 i12 i13 i14) 12 = i12 := rfl
theorem cS_i13 (s : xSt) (x8 x9 x10 x11 x12 x13 : List Int32) (i12 i13 i14 : Int32) : gI (cS s x8 x9 x10 x11 x12 x13 i12 i13 i14) 13 = i13 := rfl
theorem cS_i14 (s : xSt) (x8 x9 x10 x11 x12 x13 : List Int32) (i12 i13 i14 : Int32) : gI (cS s x8 x9 x10 x11 x12 x13 i12 i13 i14) 14 = i14 := rfl
theorem cS_o14 (s : xSt) (x8 x9 x10 x11 x12 x13 : List Int32) (i12 i13 i14 : Int32) : gR (cS s x8 x9 x10 x11 x12 x13 i12 i13 i14) 14 = gR s 14 := rfl
theorem cS_o15 (s : xSt) (x8 x9 x10 x11 x12 x13 : List Int32) (i12 i13 i14 : Int32) : gR (cS s x8 x9 x10 x11 x12 x13 i12 i13 i14) 15 = gR s 15 := rfl
theorem cS_o16 (s : xSt) (x8 x9 x10 x11 x12 x13 : List Int32) (i12 i13 i14 : Int32) : gR (cS s x8 x9 x10 x11 x12 x13 i12 i13 i14) 16 = gR s 16 := rfl
theorem cS_o0 (s : xSt) (x8 x9 x10 x11 x12 x13 : List Int32) (i12 i13 i14 : Int32) : gR (cS s x8 x9 x10 x11 x12 x13 i12 i13 i14) 0 = gR s 0 := rfl
theorem cS_P (s : xSt) (x8 x9 x10 x11 x12 x13 : List Int32) (i12 i13 i14 : Int32) (z : Bool) (i : Nat) : gP (cS s x8 x9 x10 x11 x12 x13 i12 i13 i14) z i = gP s z i := rfl
theorem cS_Z (s : xSt) (x8 x9 x10 x11 x12 x13 : List Int32) (i12 i13 i14 : Int32) (i : Nat) : gZ (cS s x8 x9 x10 x11 x12 x13 i12 i13 i14) i = gZ s i := rfl
theorem cS_L (s : xSt) (x8 x9 x10 x11 x12 x13 : List Int32) (i12 i13 i14 : Int32) (i : Nat) : gL (cS s x8 x9 x10 x11 x12 x13 i12 i13 i14) i = gL s i := rfl
theorem cS_J (s : xSt) (x8 x9 x10 x11 x12 x13 : List Int32) (i12 i13 i14 : Int32) (i : Nat) : gJ (cS s x8 x9 x10 x11 x12 x13 i12 i13 i14) i = gJ s i := rfl
theorem cS_N (s : xSt) (x8 x9 x10 x11 x12 x13 : List Int32) (i12 i13 i14 : Int32) (z : Bool) : gN (cS s x8 x9 x10 x11 x12 x13 i12 i13 i14) z = gN s z := rfl
theorem cS_s8 (s : xSt) (x8 x9 x10 x11 x12 x13 : List Int32) (i12 i13 i14 : Int32) (y : List Int32) : sR (cS s x8 x9 x10 x11 x12 x13 i12 i13 i14) 8 y = cS s y x9 x10 x11 x12 x13 i12 i13 i14 := by
  unfold cS
  refine Prod.ext ?_ rfl
  funext j
  show bUp _ _ _ j = bUp _ _ _ j
  simp only [sR, sI, bUp_if]
  by_cases e : j = 8 <;> simp [e]
theorem cS_s9 (s : xSt) (x8 x9 x10 x11 x12 x13 : List Int32) (i12 i13 i14 : Int32) (y : List Int32) : sR (cS s x8 x9 x10 x11 x12 x13 i12 i13 i14) 9 y = cS s x8 y x10 x11 x12 x13 i12 i13 i14 := by
  unfold cS
  refine Prod.ext ?_ rfl
  funext j
  show bUp _ _ _ j = bUp _ _ _ j
  simp only [sR, sI, bUp_if]
  by_cases e : j = 9 <;> simp [e]
theorem cS_s10 (s : xSt) (x8 x9 x10 x11 x12 x13 : List Int32) (i12 i13 i14 : Int32) (y : List Int32) : sR (cS s x8 x9 x10 x11 x12 x13 i12 i13 i14) 10 y = cS s x8 x9 y x11 x12 x13 i12 i13 i14 := by
  unfold cS
  refine Prod.ext ?_ rfl
  funext j
  show bUp _ _ _ j = bUp _ _ _ j
  simp only [sR, sI, bUp_if]
  by_cases e : j = 10 <;> simp [e]
theorem cS_s11 (s : xSt) (x8 x9 x10 x11 x12 x13 : List Int32) (i12 i13 i14 : Int32) (y : List Int32) : sR (cS s x8 x9 x10 x11 x12 x13 i12 i13 i14) 11 y = cS s x8 x9 x10 y x12 x13 i12 i13 i14 := by
  unfold cS
  refine Prod.ext ?_ rfl
  funext j
  show bUp _ _ _ j = bUp _ _ _ j
  simp only [sR, sI, bUp_if]
  by_cases e : j = 11 <;> simp [e]
theorem cS_s12 (s : xSt) (x8 x9 x10 x11 x12 x13 : List Int32) (i12 i13 i14 : Int32) (y : List Int32) : sR (cS s x8 x9 x10 x11 x12 x13 i12 i13 i14) 12 y = cS s x8 x9 x10 x11 y x13 i12 i13 i14 := by
  unfold cS
  refine Prod.ext ?_ rfl
  funext j
  show bUp _ _ _ j = bUp _ _ _ j
  simp only [sR, sI, bUp_if]
  by_cases e : j = 12 <;> simp [e]
theorem cS_s13 (s : xSt) (x8 x9 x10 x11 x12 x13 : List Int32) (i12 i13 i14 : Int32) (y : List Int32) : sR (cS s x8 x9 x10 x11 x12 x13 i12 i13 i14) 13 y = cS s x8 x9 x10 x11 x12 y i12 i13 i14 := by
  unfold cS
  refine Prod.ext ?_ rfl
  funext j
  show bUp _ _ _ j = bUp _ _ _ j
  simp only [sR, sI, bUp_if]
  by_cases e : j = 13 <;> simp [e]
theorem cS_t12 (s : xSt) (x8 x9 x10 x11 x12 x13 : List Int32) (i12 i13 i14 : Int32) (y : Int32) : sI (cS s x8 x9 x10 x11 x12 x13 i12 i13 i14) 12 y = cS s x8 x9 x10 x11 x12 x13 y i13 i14 := by
  unfold cS
  refine Prod.ext rfl (Prod.ext ?_ rfl)
  funext j
  show bUp _ _ _ j = bUp _ _ _ j
  simp only [sR, sI, bUp_if]
  by_cases e : j = 12 <;> simp [e]
theorem cS_t13 (s : xSt) (x8 x9 x10 x11 x12 x13 : List Int32) (i12 i13 i14 : Int32) (y : Int32) : sI (cS s x8 x9 x10 x11 x12 x13 i12 i13 i14) 13 y = cS s x8 x9 x10 x11 x12 x13 i12 y i14 := by
  unfold cS
  refine Prod.ext rfl (Prod.ext ?_ rfl)
  funext j
  show bUp _ _ _ j = bUp _ _ _ j
  simp only [sR, sI, bUp_if]
  by_cases e : j = 13 <;> simp [e]
theorem cS_t14 (s : xSt) (x8 x9 x10 x11 x12 x13 : List Int32) (i12 i13 i14 : Int32) (y : Int32) : sI (cS s x8 x9 x10 x11 x12 x13 i12 i13 i14) 14 y = cS s x8 x9 x10 x11 x12 x13 i12 i13 y := by
  unfold cS
  refine Prod.ext rfl (Prod.ext ?_ rfl)
  funext j
  show bUp _ _ _ j = bUp _ _ _ j
  simp only [sR, sI, bUp_if]
  by_cases e : j = 14 <;> simp [e]
def rS (s : xSt) (x48 x49 x50 x51 x52 x53 x54 x55 : List Int32) (i12 i13 i14 i15 i16 i17 i18 : Int32) : xSt := sI (sI (sI (sI (sI (sI (sI (sR (sR (sR (sR (sR (sR (sR (sR s 48 x48) 49 x49) 50 x50) 51 x51) 52 x52) 53 x53) 54 x54) 55 x55) 12 i12) 13 i13) 14 i14) 15 i15) 16 i16) 17 i17) 18 i18
theorem rS_g48 (s : xSt) (x48 x49 x50 x51 x52 x53 x54 x55 : List Int32) (i12 i13 i14 i15 i16 i17 i18 : Int32) : gR (rS s x48 x49 x50 x51 x52 x53 x54 x55 i12 i13 i14 i15 i16 i17 i18) 48 = x48 := rfl
theorem rS_g49 (s : xSt) (x48 x49 x50 x51 x52 x53 x54 x55 : List Int32) (i12 i13 i14 i15 i16 i17 i18 : Int32) : gR (rS s x48 x49 x50 x51 x52 x53 x54 x55 i12 i13 i14 i15 i16 i17 i18) 49 = x49 := rfl
theorem rS_g50 (s : xSt) (x48 x49 x50 x51 x52 x53 x54 x55 : List Int32) (i12 i13 i14 i15 i16 i17 i18 : Int32) : gR (rS s x48 x49 x50 x51 x52 x53 x54 x55 i12 i13 i14 i15 i16 i17 i18) 50 = x50 := rfl
theorem rS_g51 (s : xSt) (x48 x49 x50 x51 x52 x53 x54 x55 : List Int32) (i12 i13 i14 i15 i16 i17 i18 : Int32) : gR (rS s x48 x49 x50 x51 x52 x53 x54 x55 i12 i13 i14 i15 i16 i17 i18) 51 = x51 := rfl
theorem rS_g52 (s : xSt) (x48 x49 x50 x51 x52 x53 x54 x55 : List Int32) (i12 i13 i14 i15 i16 i17 i18 : Int32) : gR (rS s x48 x49 x50 x51 x52 x53 x54 x55 i12 i13 i14 i15 i16 i17 i18) 52 = x52 := rfl
theorem rS_g53 (s : xSt) (x48 x49 x50 x51 x52 x53 x54 x55 : List Int32) (i12 i13 i14 i15 i16 i17 i18 : Int32) : gR (rS s x48 x49 x50 x51 x52 x53 x54 x55 i12 i13 i14 i15 i16 i17 i18) 53 = x53 := rfl
theorem rS_g54 (s : xSt) (x48 x49 x50 x51 x52 x53 x54 x55 : List Int32) (i12 i13 i14 i15 i16 i17 i18 : Int32) : gR (rS s x48 x49 x50 x51 x52 x53 x54 x55 i12 i13 i14 i15 i16 i17 i18) 54 = x54 := rfl
theorem rS_g55 (s : xSt) (x48 x49 x50 x51 x52 x53 x54 x55 : List Int32) (i12 i13 i14 i15 i16 i17 i18 : Int32) : gR (rS s x48 x49 x50 x51 x52 x53 x54 x55 i12 i13 i14 i15 i16 i17 i18) 55 = x55 := rfl
theorem rS_i12 (s : xSt) (x48 x49 x50 x51 x52 x53 x54 x55 : List Int32) (i12 i13 i14 i15 i16 i17 i18 : Int32) : gI (rS s x48 x49 x50 x51 x52 x53 x54 x55 i12 i13 i14 i15 i16 i17 i18) 12 = i12 := rfl
theorem rS_i13 (s : xSt) (x48 x49 x50 x51 x52 x53 x54 x55 : List Int32) (i12 i13 i14 i15 i16 i17 i18 : Int32) : gI (rS s x48 x49 x50 x51 x52 x53 x54 x55 i12 i13 i14 i15 i16 i17 i18) 13 = i13 := rfl
theorem rS_i14 (s : xSt) (x48 x49 x50 x51 x52 x53 x54 x55 : List Int32) (i12 i13 i14 i15 i16 i17 i18 : Int32) : gI (rS s x48 x49 x50 x51 x52 x53 x54 x55 i12 i13 i14 i15 i16 i17 i18) 14 = i14 := rfl
theorem rS_i15 (s : xSt) (x48 x49 x50 x51 x52 x53 x54 x55 : List Int32) (i12 i13 i14 i15 i16 i17 i18 : Int32) : gI (rS s x48 x49 x50 x51 x52 x53 x54 x55 i12 i13 i14 i15 i16 i17 i18) 15 = i15 := rfl
theorem rS_i16 (s : xSt) (x48 x49 x50 x51 x52 x53 x54 x55 : List Int32) (i12 i13 i14 i15 i16 i17 i18 : Int32) : gI (rS s x48 x49 x50 x51 x52 x53 x54 x55 i12 i13 i14 i15 i16 i17 i18) 16 = i16 := rfl
theorem rS_i17 (s : xSt) (x48 x49 x50 x51 x52 x53 x54 x55 : List Int32) (i12 i13 i14 i15 i16 i17 i18 : Int32) : gI (rS s x48 x49 x50 x51 x52 x53 x54 x55 i12 i13 i14 i15 i16 i17 i18) 17 = i17 := rfl
theorem rS_i18 (s : xSt) (x48 x49 x50 x51 x52 x53 x54 x55 : List Int32) (i12 i13 i14 i15 i16 i17 i18 : Int32) : gI (rS s x48 x49 x50 x51 x52 x53 x54 x55 i12 i13 i14 i15 i16 i17 i18) 18 = i18 := rfl
theorem rS_o31 (s : xSt) (x48 x49 x50 x51 x52 x53 x54 x55 : List Int32) (i12 i13 i14 i15 i16 i17 i18 : Int32) : gR (rS s x48 x49 x50 x51 x52 x53 x54 x55 i12 i13 i14 i15 i16 i17 i18) 31 = gR s 31 := rfl
theorem rS_o32 (s : xSt) (x48 x49 x50 x51 x52 x53 x54 x55 : List Int32) (i12 i13 i14 i15 i16 i17 i18 : Int32) : gR (rS s x48 x49 x50 x51 x52 x53 x54 x55 i12 i13 i14 i15 i16 i17 i18) 32 = gR s 32 := rfl
theorem rS_o33 (s : xSt) (x48 x49 x50 x51 x52 x53 x54 x55 : List Int32) (i12 i13 i14 i15 i16 i17 i18 : Int32) : gR (rS s x48 x49 x50 x51 x52 x53 x54 x55 i12 i13 i14 i15 i16 i17 i18) 33 = gR s 33 := rfl
theorem rS_o34 (s : xSt) (x48 x49 x50 x51 x52 x53 x54 x55 : List Int32) (i12 i13 i14 i15 i16 i17 i18 : Int32) : gR (rS s x48 x49 x50 x51 x52 x53 x54 x55 i12 i13 i14 i15 i16 i17 i18) 34 = gR s 34 := rfl
theorem rS_o35 (s : xSt) (x48 x49 x50 x51 x52 x53 x54 x55 : List Int32) (i12 i13 i14 i15 i16 i17 i18 : Int32) : gR (rS s x48 x49 x50 x51 x52 x53 x54 x55 i12 i13 i14 i15 i16 i17 i18) 35 = gR s 35 := rfl
theorem rS_o36 (s : xSt) (x48 x49 x50 x51 x52 x53 x54 x55 : List Int32) (i12 i13 i14 i15 i16 i17 i18 : Int32) : gR (rS s x48 x49 x50 x51 x52 x53 x54 x55 i12 i13 i14 i15 i16 i17 i18) 36 = gR s 36 := rfl
theorem rS_o37 (s : xSt) (x48 x49 x50 x51 x52 x53 x54 x55 : List Int32) (i12 i13 i14 i15 i16 i17 i18 : Int32) : gR (rS s x48 x49 x50 x51 x52 x53 x54 x55 i12 i13 i14 i15 i16 i17 i18) 37 = gR s 37 := rfl
theorem rS_o45 (s : xSt) (x48 x49 x50 x51 x52 x53 x54 x55 : List Int32) (i12 i13 i14 i15 i16 i17 i18 : Int32) : gR (rS s x48 x49 x50 x51 x52 x53 x54 x55 i12 i13 i14 i15 i16 i17 i18) 45 = gR s 45 := rfl
theorem rS_o46 (s : xSt) (x48 x49 x50 x51 x52 x53 x54 x55 : List Int32) (i12 i13 i14 i15 i16 i17 i18 : Int32) : gR (rS s x48 x49 x50 x51 x52 x53 x54 x55 i12 i13 i14 i15 i16 i17 i18) 46 = gR s 46 := rfl
theorem rS_o47 (s : xSt) (x48 x49 x50 x51 x52 x53 x54 x55 : List Int32) (i12 i13 i14 i15 i16 i17 i18 : Int32) : gR (rS s x48 x49 x50 x51 x52 x53 x54 x55 i12 i13 i14 i15 i16 i17 i18) 47 = gR s 47 := rfl
theorem rS_p5 (s : xSt) (x48 x49 x50 x51 x52 x53 x54 x55 : List Int32) (i12 i13 i14 i15 i16 i17 i18 : Int32) : gI (rS s x48 x49 x50 x51 x52 x53 x54 x55 i12 i13 i14 i15 i16 i17 i18) 5 = gI s 5 := rfl
theorem rS_p7 (s : xSt) (x48 x49 x50 x51 x52 x53 x54 x55 : List Int32) (i12 i13 i14 i15 i16 i17 i18 : Int32) : gI (rS s x48 x49 x50 x51 x52 x53 x54 x55 i12 i13 i14 i15 i16 i17 i18) 7 = gI s 7 := rfl
theorem rS_p8 (s : xSt) (x48 x49 x50 x51 x52 x53 x54 x55 : List Int32) (i12 i13 i14 i15 i16 i17 i18 : Int32) : gI (rS s x48 x49 x50 x51 x52 x53 x54 x55 i12 i13 i14 i15 i16 i17 i18) 8 = gI s 8 := rfl
theorem rS_p10 (s : xSt) (x48 x49 x50 x51 x52 x53 x54 x55 : List Int32) (i12 i13 i14 i15 i16 i17 i18 : Int32) : gI (rS s x48 x49 x50 x51 x52 x53 x54 x55 i12 i13 i14 i15 i16 i17 i18) 10 = gI s 10 := rfl
theorem rS_p11 (s : xSt) (x48 x49 x50 x51 x52 x53 x54 x55 : List Int32) (i12 i13 i14 i15 i16 i17 i18 : Int32) : gI (rS s x48 x49 x50 x51 x52 x53 x54 x55 i12 i13 i14 i15 i16 i17 i18) 11 = gI s 11 := rfl
theorem rS_P (s : xSt) (x48 x49 x50 x51 x52 x53 x54 x55 : List Int32) (i12 i13 i14 i15 i16 i17 i18 : Int32) (z : Bool) (i : Nat) : gP (rS s x48 x49 x50 x51 x52 x53 x54 x55 i12 i13 i14 i15 i16 i17 i18) z i = gP s z i := rfl
theorem rS_Z (s : xSt) (x48 x49 x50 x51 x52 x53 x54 x55 : List Int32) (i12 i13 i14 i15 i16 i17 i18 : Int32) (i : Nat) : gZ (rS s x48 x49 x50 x51 x52 x53 x54 x55 i12 i13 i14 i15 i16 i17 i18) i = gZ s i := rfl
theorem rS_L (s : xSt) (x48 x49 x50 x51 x52 x53 x54 x55 : List Int32) (i12 i13 i14 i15 i16 i17 i18 : Int32) (i : Nat) : gL (rS s x48 x49 x50 x51 x52 x53 x54 x55 i12 i13 i14 i15 i16 i17 i18) i = gL s i := rfl
theorem rS_J (s : xSt) (x48 x49 x50 x51 x52 x53 x54 x55 : List Int32) (i12 i13 i14 i15 i16 i17 i18 : Int32) (i : Nat) : gJ (rS s x48 x49 x50 x51 x52 x53 x54 x55 i12 i13 i14 i15 i16 i17 i18) i = gJ s i := rfl
theorem rS_N (s : xSt) (x48 x49 x50 x51 x52 x53 x54 x55 : List Int32) (i12 i13 i14 i15 i16 i17 i18 : Int32) (z : Bool) : gN (rS s x48 x49 x50 x51 x52 x53 x54 x55 i12 i13 i14 i15 i16 i17 i18) z = gN s z := rfl
theorem rS_s48 (s : xSt) (x48 x49 x50 x51 x52 x53 x54 x55 : List Int32) (i12 i13 i14 i15 i16 i17 i18 : Int32) (y : List Int32) : sR (rS s x48 x49 x50 x51 x52 x53 x54 x55 i12 i13 i14 i15 i16 i17 i18) 48 y = rS s y x49 x50 x51 x52 x53 x54 x55 i12 i13 i14 i15 i16 i17 i18 := by
  unfold rS
  refine Prod.ext ?_ rfl
  funext j
  show bUp _ _ _ j = bUp _ _ _ j
  simp only [sR, sI, bUp_if]
  by_cases e : j = 48 <;> simp [e]
theorem rS_s49 (s : xSt) (x48 x49 x50 x51 x52 x53 x54 x55 : List Int32) (i12 i13 i14 i15 i16 i17 i18 : Int32) (y : List Int32) : sR (rS s x48 x49 x50 x51 x52 x53 x54 x55 i12 i13 i14 i15 i16 i17 i18) 49 y = rS s x48 y x50 x51 x52 x53 x54 x55 i12 i13 i14 i15 i16 i17 i18 := by
  unfold rS
  refine Prod.ext ?_ rfl
  funext j
  show bUp _ _ _ j = bUp _ _ _ j
  simp only [sR, sI, bUp_if]
  by_cases e : j = 49 <;> simp [e]
theorem rS_s50 (s : xSt) (x48 x49 x50 x51 x52 x53 x54 x55 : List Int32) (i12 i13 i14 i15 i16 i17 i18 : Int32) (y : List Int32) : sR (rS s x48 x49 x50 x51 x52 x53 x54 x55 i12 i13 i14 i15 i16 i17 i18) 50 y = rS s x48 x49 y x51 x52 x53 x54 x55 i12 i13 i14 i15 i16 i17 i18 := by
  unfold rS
  refine Prod.ext ?_ rfl
  funext j
  show bUp _ _ _ j = bUp _ _ _ j
  simp only [sR, sI, bUp_if]
  by_cases e : j = 50 <;> simp [e]
theorem rS_s51 (s : xSt) (x48 x49 x50 x51 x52 x53 x54 x55 : List Int32) (i12 i13 i14 i15 i16 i17 i18 : Int32) (y : List Int32) : sR (rS s x48 x49 x50 x51 x52 x53 x54 x55 i12 i13 i14 i15 i16 i17 i18) 51 y = rS s x48 x49 x50 y x52 x53 x54 x55 i12 i13 i14 i15 i16 i17 i18 := by
  unfold rS
  refine Prod.ext ?_ rfl
  funext j
  show bUp _ _ _ j = bUp _ _ _ j
  simp only [sR, sI, bUp_if]
  by_cases e : j = 51 <;> simp [e]
theorem rS_s52 (s : xSt) (x48 x49 x50 x51 x52 x53 x54 x55 : List Int32) (i12 i13 i14 i15 i16 i17 i18 : Int32) (y : List Int32) : sR (rS s x48 x49 x50 x51 x52 x53 x54 x55 i12 i13 i14 i15 i16 i17 i18) 52 y = rS s x48 x49 x50 x51 y x53 x54 x55 i12 i13 i14 i15 i16 i17 i18 := by
  unfold rS
  refine Prod.ext ?_ rfl
  funext j
  show bUp _ _ _ j = bUp _ _ _ j
  simp only [sR, sI, bUp_if]
  by_cases e : j = 52 <;> simp [e]
theorem rS_s53 (s : xSt) (x48 x49 x50 x51 x52 x53 x54 x55 : List Int32) (i12 i13 i14 i15 i16 i17 i18 : Int32) (y : List Int32) : sR (rS s x48 x49 x50 x51 x52 x53 x54 x55 i12 i13 i14 i15 i16 i17 i18) 53 y = rS s x48 x49 x50 x51 x52 y x54 x55 i12 i13 i14 i15 i16 i17 i18 := by
  unfold rS
  refine Prod.ext ?_ rfl
  funext j
  show bUp _ _ _ j = bUp _ _ _ j
  simp only [sR, sI, bUp_if]
  by_cases e : j = 53 <;> simp [e]
theorem rS_s54 (s : xSt) (x48 x49 x50 x51 x52 x53 x54 x55 : List Int32) (i12 i13 i14 i15 i16 i17 i18 : Int32) (y : List Int32) : sR (rS s x48 x49 x50 x51 x52 x53 x54 x55 i12 i13 i14 i15 i16 i17 i18) 54 y = rS s x48 x49 x50 x51 x52 x53 y x55 i12 i13 i14 i15 i16 i17 i18 := by
  unfold rS
  refine Prod.ext ?_ rfl
  funext j
  show bUp _ _ _ j = bUp _ _ _ j
  simp only [sR, sI, bUp_if]
  by_cases e : j = 54 <;> simp [e]
theorem rS_s55 (s : xSt) (x48 x49 x50 x51 x52 x53 x54 x55 : List Int32) (i12 i13 i14 i15 i16 i17 i18 : Int32) (y : List Int32) : sR (rS s x48 x49 x50 x51 x52 x53 x54 x55 i12 i13 i14 i15 i16 i17 i18) 55 y = rS s x48 x49 x50 x51 x52 x53 x54 y i12 i13 i14 i15 i16 i17 i18 := by
  unfold rS
  refine Prod.ext ?_ rfl
  funext j
  show bUp _ _ _ j = bUp _ _ _ j
  simp only [sR, sI, bUp_if]
  by_cases e : j = 55 <;> simp [e]
theorem rS_t12 (s : xSt) (x48 x49 x50 x51 x52 x53 x54 x55 : List Int32) (i12 i13 i14 i15 i16 i17 i18 : Int32) (y : Int32) : sI (rS s x48 x49 x50 x51 x52 x53 x54 x55 i12 i13 i14 i15 i16 i17 i18) 12 y = rS s x48 x49 x50 x51 x52 x53 x54 x55 y i13 i14 i15 i16 i17 i18 := by
  unfold rS
  refine Prod.ext rfl (Prod.ext ?_ rfl)
  funext j
  show bUp _ _ _ j = bUp _ _ _ j
  simp only [sR, sI, bUp_if]
  by_cases e : j = 12 <;> simp [e]
theorem rS_t13 (s : xSt) (x48 x49 x50 x51 x52 x53 x54 x55 : List Int32) (i12 i13 i14 i15 i16 i17 i18 : Int32) (y : Int32) : sI (rS s x48 x49 x50 x51 x52 x53 x54 x55 i12 i13 i14 i15 i16 i17 i18) 13 y = rS s x48 x49 x50 x51 x52 x53 x54 x55 i12 y i14 i15 i16 i17 i18 := by
  unfold rS
  refine Prod.ext rfl (Prod.ext ?_ rfl)
  funext j
  show bUp _ _ _ j = bUp _ _ _ j
  simp only [sR, sI, bUp_if]
  by_cases e : j = 13 <;> simp [e]
theorem rS_t14 (s : xSt) (x48 x49 x50 x51 x52 x53 x54 x55 : List Int32) (i12 i13 i14 i15 i16 i17 i18 : Int32) (y : Int32) : sI (rS s x48 x49 x50 x51 x52 x53 x54 x55 i12 i13 i14 i15 i16 i17 i18) 14 y = rS s x48 x49 x50 x51 x52 x53 x54 x55 i12 i13 y i15 i16 i17 i18 := by
  unfold rS
  refine Prod.ext rfl (Prod.ext ?_ rfl)
  funext j
  show bUp _ _ _ j = bUp _ _ _ j
  simp only [sR, sI, bUp_if]
  by_cases e : j = 14 <;> simp [e]
theorem rS_t15 (s : xSt) (x48 x49 x50 x51 x52 x53 x54 x55 : List Int32) (i12 i13 i14 i15 i16 i17 i18 : Int32) (y : Int32) : sI (rS s x48 x49 x50 x51 x52 x53 x54 x55 i12 i13 i14 i15 i16 i17 i18) 15 y = rS s x48 x49 x50 x51 x52 x53 x54 x55 i12 i13 i14 y i16 i17 i18 := by
  unfold rS
  refine Prod.ext rfl (Prod.ext ?_ rfl)
  funext j
  show bUp _ _ _ j = bUp _ _ _ j
  simp only [sR, sI, bUp_if]
  by_cases e : j = 15 <;> simp [e]
theorem rS_t16 (s : xSt) (x48 x49 x50 x51 x52 x53 x54 x55 : List Int32) (i12 i13 i14 i15 i16 i17 i18 : Int32) (y : Int32) : sI (rS s x48 x49 x50 x51 x52 x53 x54 x55 i12 i13 i14 i15 i16 i17 i18) 16 y = rS s x48 x49 x50 x51 x52 x53 x54 x55 i12 i13 i14 i15 y i17 i18 := by
  unfold rS
  refine Prod.ext rfl (Prod.ext ?_ rfl)
  funext j
  show bUp _ _ _ j = bUp _ _ _ j
  simp only [sR, sI, bUp_if]
  by_cases e : j = 16 <;> simp [e]
theorem rS_t17 (s : xSt) (x48 x49 x50 x51 x52 x53 x54 x55 : List Int32) (i12 i13 i14 i15 i16 i17 i18 : Int32) (y : Int32) : sI (rS s x48 x49 x50 x51 x52 x53 x54 x55 i12 i13 i14 i15 i16 i17 i18) 17 y = rS s x48 x49 x50 x51 x52 x53 x54 x55 i12 i13 i14 i15 i16 y i18 := by
  unfold rS
  refine Prod.ext rfl (Prod.ext ?_ rfl)
  funext j
  show bUp _ _ _ j = bUp _ _ _ j
  simp only [sR, sI, bUp_if]
  by_cases e : j = 17 <;> simp [e]
theorem rS_t18 (s : xSt) (x48 x49 x50 x51 x52 x53 x54 x55 : List Int32) (i12 i13 i14 i15 i16 i17 i18 : Int32) (y : Int32) : sI (rS s x48 x49 x50 x51 x52 x53 x54 x55 i12 i13 i14 i15 i16 i17 i18) 18 y = rS s x48 x49 x50 x51 x52 x53 x54 x55 i12 i13 i14 i15 i16 i17 y := by
  unfold rS
  refine Prod.ext rfl (Prod.ext ?_ rfl)
  funext j
  show bUp _ _ _ j = bUp _ _ _ j
  simp only [sR, sI, bUp_if]
  by_cases e : j = 18 <;> simp [e]
