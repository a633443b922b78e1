/-! canonical states of checking -/
def ckC (s : xSt) (z : Bool) (g : Nat → List Int32) (nn : List Int64) (r4 r5 r6 r7 : List Int32) (i2 i3 : Int32) : xSt := sI (sI (sR (sR (sR (sR (sN (sPf s z g) z nn) 4 r4) 5 r5) 6 r6) 7 r7) 2 i2) 3 i3
theorem ckC_r4 (s : xSt) (z : Bool) (g : Nat → List Int32) (nn : List Int64) (r4 r5 r6 r7 : List Int32) (i2 i3 : Int32) : gR (ckC s z g nn r4 r5 r6 r7 i2 i3) 4 = r4 := rfl
theorem ckC_r5 (s : xSt) (z : Bool) (g : Nat → List Int32) (nn : List Int64) (r4 r5 r6 r7 : List Int32) (i2 i3 : Int32) : gR (ckC s z g nn r4 r5 r6 r7 i2 i3) 5 = r5 := rfl
theorem ckC_r6 (s : xSt) (z : Bool) (g : Nat → List Int32) (nn : List Int64) (r4 r5 r6 r7 : List Int32) (i2 i3 : Int32) : gR (ckC s z g nn r4 r5 r6 r7 i2 i3) 6 = r6 := rfl
theorem ckC_r7 (s : xSt) (z : Bool) (g : Nat → List Int32) (nn : List Int64) (r4 r5 r6 r7 : List Int32) (i2 i3 : Int32) : gR (ckC s z g nn r4 r5 r6 r7 i2 i3) 7 = r7 := rfl
theorem ckC_i2 (s : xSt) (z : Bool) (g : Nat → List Int32) (nn : List Int64) (r4 r5 r6 r7 : List Int32) (i2 i3 : Int32) : gI (ckC s z g nn r4 r5 r6 r7 i2 i3) 2 = i2 := rfl
theorem ckC_i3 (s : xSt) (z : Bool) (g : Nat → List Int32) (nn : List Int64) (r4 r5 r6 r7 : List Int32) (i2 i3 : Int32) : gI (ckC s z g nn r4 r5 r6 r7 i2 i3) 3 = i3 := rfl
theorem ckC_or0 (s : xSt) (z : Bool) (g : Nat → List Int32) (nn : List Int64) (r4 r5 r6 r7 : List Int32) (i2 i3 : Int32) : gR (ckC s z g nn r4 r5 r6 r7 i2 i3) 0 = gR s 0 := rfl
theorem ckC_oz5 (s : xSt) (z : Bool) (g : Nat → List Int32) (nn : List Int64) (r4 r5 r6 r7 : List Int32) (i2 i3 : Int32) : gZ (ckC s z g nn r4 r5 r6 r7 i2 i3) 5 = gZ s 5 := rfl
theorem ckC_gP (s : xSt) (z : Bool) (g : Nat → List Int32) (nn : List Int64) (r4 r5 r6 r7 : List Int32) (i2 i3 : Int32) (i : Nat) : gP (ckC s z g nn r4 r5 r6 r7 i2 i3) z i = g i := by
  show zUp s.2.2.2.2.2.1 z g z i = g i
  rw [zUp_s]
theorem ckC_gN (s : xSt) (z : Bool) (g : Nat → List Int32) (nn : List Int64) (r4 r5 r6 r7 : List Int32) (i2 i3 : Int32) : gN (ckC s z g nn r4 r5 r6 r7 i2 i3) z = nn := zUp_s _ _ _
theorem ckC_sP (s : xSt) (z : Bool) (g : Nat → List Int32) (nn : List Int64) (r4 r5 r6 r7 : List Int32) (i2 i3 : Int32) (i : Nat) (y : List Int32) : sP (ckC s z g nn r4 r5 r6 r7 i2 i3) z i y = ckC s z (bUp g i y) nn r4 r5 r6 r7 i2 i3 := by
  unfold ckC
  refine Prod.ext rfl (Prod.ext rfl (Prod.ext rfl (Prod.ext rfl (Prod.ext rfl (Prod.ext ?_ rfl)))))
  show zUp (zUp s.2.2.2.2.2.1 z g) z (bUp (zUp s.2.2.2.2.2.1 z g z) i y) = zUp s.2.2.2.2.2.1 z (bUp g i y)
  rw [zUp_s, zUp_zUp]
theorem ckC_sN (s : xSt) (z : Bool) (g : Nat → List Int32) (nn : List Int64) (r4 r5 r6 r7 : List Int32) (i2 i3 : Int32) (y : List Int64) : sN (ckC s z g nn r4 r5 r6 r7 i2 i3) z y = ckC s z g y r4 r5 r6 r7 i2 i3 := by
  unfold ckC
  refine Prod.ext rfl (Prod.ext rfl (Prod.ext rfl (Prod.ext rfl (Prod.ext rfl (Prod.ext rfl ?_)))))
  show zUp (zUp s.2.2.2.2.2.2 z nn) z y = zUp s.2.2.2.2.2.2 z y
  rw [zUp_zUp]
theorem ckC_J (s : xSt) (z : Bool) (g : Nat → List Int32) (nn : List Int64) (r4 r5 r6 r7 : List Int32) (i2 i3 : Int32) (i : Nat) : gJ (ckC s z g nn r4 r5 r6 r7 i2 i3) i = gJ s i := rfl
theorem ckC_L (s : xSt) (z : Bool) (g : Nat → List Int32) (nn : List Int64) (r4 r5 r6 r7 : List Int32) (i2 i3 : Int32) (i : Nat) : gL (ckC s z g nn r4 r5 r6 r7 i2 i3) i = gL s i := rfl
theorem ckC_Z (s : xSt) (z : Bool) (g : Nat → List Int32) (nn : List Int64) (r4 r5 r6 r7 : List Int32) (i2 i3 : Int32) (i : Nat) : gZ (ckC s z g nn r4 r5 r6 r7 i2 i3) i = gZ s i := rfl
theorem ckC_sr4 (s : xSt) (z : Bool) (g : Nat → List Int32) (nn : List Int64) (r4 r5 r6 r7 : List Int32) (i2 i3 : Int32) (y : List Int32) : sR (ckC s z g nn r4 r5 r6 r7 i2 i3) 4 y = ckC s z g nn y r5 r6 r7 i2 i3 := by
  unfold ckC
  refine Prod.ext ?_ rfl
  funext j
  show bUp _ _ _ j = bUp _ _ _ j
  simp only [sR, sI, sJ, sL, sZ, sN, sPf, bUp_if]
  by_cases e : j = 4 <;> simp [e]
theorem ckC_sr5 (s : xSt) (z : Bool) (g : Nat → List Int32) (nn : List Int64) (r4 r5 r6 r7 : List Int32) (i2 i3 : Int32) (y : List Int32) : sR (ckC s z g nn r4 r5 r6 r7 i2 i3) 5 y = ckC s z g nn r4 y r6 r7 i2 i3 := by
  unfold ckC
  refine Prod.ext ?_ rfl
  funext j
  show bUp _ _ _ j = bUp _ _ _ j
  simp only [sR, sI, sJ, sL, sZ, sN, sPf, bUp_if]
  by_cases e : j = 5 <;> simp [e]
theorem ckC_sr6 (s : xSt) (z : Bool) (g : Nat → List Int32) (nn : List Int64) (r4 r5 r6 r7 : List Int32) (i2 i3 : Int32) (y : List Int32) : sR (ckC s z g nn r4 r5 r6 r7 i2 i3) 6 y = ckC s z g nn r4 r5 y r7 i2 i3 := by
  unfold ckC
  refine Prod.ext ?_ rfl
  funext j
  show bUp _ _ _ j = bUp _ _ _ j
  simp only [sR, sI, sJ, sL, sZ, sN, sPf, bUp_if]
  by_cases e : j = 6 <;> simp [e]
theorem ckC_sr7 (s : xSt) (z : Bool) (g : Nat → List Int32) (nn : List Int64) (r4 r5 r6 r7 : List Int32) (i2 i3 : Int32) (y : List Int32) : sR (ckC s z g nn r4 r5 r6 r7 i2 i3) 7 y = ckC s z g nn r4 r5 r6 y i2 i3 := by
  unfold ckC
  refine Prod.ext ?_ rfl
  funext j
  show bUp _ _ _ j = bUp _ _ _ j
  simp only [sR, sI, sJ, sL, sZ, sN, sPf, bUp_if]
  by_cases e : j = 7 <;> simp [e]
theorem ckC_si2 (s : xSt) (z : Bool) (g : Nat → List Int32) (nn : List Int64) (r4 r5 r6 r7 : List Int32) (i2 i3 : Int32) (y : Int32) : sI (ckC s z g nn r4 r5 r6 r7 i2 i3) 2 y = ckC s z g nn r4 r5 r6 r7 y i3 := by
  unfold ckC
  refine Prod.ext rfl (Prod.ext ?_ rfl)
  funext j
  show bUp _ _ _ j = bUp _ _ _ j
  simp only [sR, sI, sJ, sL, sZ, sN, sPf, bUp_if]
  by_cases e : j = 2 <;> simp [e]
theorem ckC_si3 (s : xSt) (z : Bool) (g : Nat → List Int32) (nn : List Int64) (r4 r5 r6 r7 : List Int32) (i2 i3 : Int32) (y : Int32) : sI (ckC s z g nn r4 r5 r6 r7 i2 i3) 3 y = ckC s z g nn r4 r5 r6 r7 i2 y := by
  unfold ckC
  refine Prod.ext rfl (Prod.ext ?_ rfl)
  funext j
  show bUp _ _ _ j = bUp _ _ _ j
  simp only [sR, sI, sJ, sL, sZ, sN, sPf, bUp_if]
  by_cases e : j = 3 <;> simp [e]
def tyR (s : xSt) (r17 r18 r19 r20 r21 r22 r23 r24 r25 r26 r27 r28 r29 r30 : List Int32) (i31 i32 i33 i34 i35 i36 : Int32) (l4 l5 l6 l7 : List Int64) (z1 : Bool) : xSt := sZ (sL (sL (sL (sL (sI (sI (sI (sI (sI (sI (sR (sR (sR (sR (sR (sR (sR (sR (sR (sR (sR (sR (sR (sR s 17 r17) 18 r18) 19 r19) 20 r20) 21 r21) 22 r22) 23 r23) 24 r24) 25 r25) 26 r26) 27 r27) 28 r28) 29 r29) 30 r30) 31 i31) 32 i32) 33 i33) 34 i34) 35 i35) 36 i36) 4 l4) 5 l5) 6 l6) 7 l7) 1 z1
theorem tyR_r17 (s : xSt) (r17 r18 r19 r20 r21 r22 r23 r24 r25 r26 r27 r28 r29 r30 : List Int32) (i31 i32 i33 i34 i35 i36 : Int32) (l4 l5 l6 l7 : List Int64) (z1 : Bool) : gR (tyR s r17 r18 r19 r20 r21 r22 r23 r24 r25 r26 r27 r28 r29 r30 i31 i32 i33 i34 i35 i36 l4 l5 l6 l7 z1) 17 = r17 := rfl
theorem tyR_r18 (s : xSt) (r17 r18 r19 r20 r21 r22 r23 r24 r25 r26 r27 r28 r29 r30 : List Int32) (i31 i32 i33 i34 i35 i36 : Int32) (l4 l5 l6 l7 : List Int64) (z1 : Bool) : gR (tyR s r17 r18 r19 r20 r21 r22 r23 r24 r25 r26 r27 r28 r29 r30 i31 i32 i33 i34 i35 i36 l4 l5 l6 l7 z1) 18 = r18 := rfl
theorem tyR_r19 (s : xSt) (r17 r18 r19 r20 r21 r22 r23 r24 r25 r26 r27 r28 r29 r30 : List Int32) (i31 i32 i33 i34 i35 i36 : Int32) (l4 l5 l6 l7 : List Int64) (z1 : Bool) : gR (tyR s r17 r18 r19 r20 r21 r22 r23 r24 r25 r26 r27 r28 r29 r30 i31 i32 i33 i34 i35 i36 l4 l5 l6 l7 z1) 19 = r19 := rfl
theorem tyR_r20 (s : xSt) (r17 r18 r19 r20 r21 r22 r23 r24 r25 r26 r27 r28 r29 r30 : List Int32) (i31 i32 i33 i34 i35 i36 : Int32) (l4 l5 l6 l7 : List Int64) (z1 : Bool) : gR (tyR s r17 r18 r19 r20 r21 r22 r23 r24 r25 r26 r27 r28 r29 r30 i31 i32 i33 i34 i35 i36 l4 l5 l6 l7 z1) 20 = r20 := rfl
theorem tyR_r21 (s : xSt) (r17 r18 r19 r20 r21 r22 r23 r24 r25 r26 r27 r28 r29 r30 : List Int32) (i31 i32 i33 i34 i35 i36 : Int32) (l4 l5 l6 l7 : List Int64) (z1 : Bool) : gR (tyR s r17 r18 r19 r20 r21 r22 r23 r24 r25 r26 r27 r28 r29 r30 i31 i32 i33 i34 i35 i36 l4 l5 l6 l7 z1) 21 = r21 := rfl
theorem tyR_r22 (s : xSt) (r17 r18 r19 r20 r21 r22 r23 r24 r25 r26 r27 r28 r29 r30 : List Int32) (i31 i32 i33 i34 i35 i36 : Int32) (l4 l5 l6 l7 : List Int64) (z1 : Bool) : gR (tyR s r17 r18 r19 r20 r21 r22 r23 r24 r25 r26 r27 r28 r29 r30 i31 i32 i33 i34 i35 i36 l4 l5 l6 l7 z1) 22 = r22 := rfl
theorem tyR_r23 (s : xSt) (r17 r18 r19 r20 r21 r22 r23 r24 r25 r26 r27 r28 r29 r30 : List Int32) (i31 i32 i33 i34 i35 i36 : Int32) (l4 l5 l6 l7 : List Int64) (z1 : Bool) : gR (tyR s r17 r18 r19 r20 r21 r22 r23 r24 r25 r26 r27 r28 r29 r30 i31 i32 i33 i34 i35 i36 l4 l5 l6 l7 z1) 23 = r23 := rfl
theorem tyR_r24 (s : xSt) (r17 r18 r19 r20 r21 r22 r23 r24 r25 r26 r27 r28 r29 r30 : List Int32) (i31 i32 i33 i34 i35 i36 : Int32) (l4 l5 l6 l7 : List Int64) (z1 : Bool) : gR (tyR s r17 r18 r19 r20 r21 r22 r23 r24 r25 r26 r27 r28 r29 r30 i31 i32 i33 i34 i35 i36 l4 l5 l6 l7 z1) 24 = r24 := rfl
theorem tyR_r25 (s : xSt) (r17 r18 r19 r20 r21 r22 r23 r24 r25 r26 r27 r28 r29 r30 : List Int32) (i31 i32 i33 i34 i35 i36 : Int32) (l4 l5 l6 l7 : List Int64) (z1 : Bool) : gR (tyR s r17 r18 r19 r20 r21 r22 r23 r24 r25 r26 r27 r28 r29 r30 i31 i32 i33 i34 i35 i36 l4 l5 l6 l7 z1) 25 = r25 := rfl
theorem tyR_r26 (s : xSt) (r17 r18 r19 r20 r21 r22 r23 r24 r25 r26 r27 r28 r29 r30 : List Int32) (i31 i32 i33 i34 i35 i36 : Int32) (l4 l5 l6 l7 : List Int64) (z1 : Bool) : gR (tyR s r17 r18 r19 r20 r21 r22 r23 r24 r25 r26 r27 r28 r29 r30 i31 i32 i33 i34 i35 i36 l4 l5 l6 l7 z1) 26 = r26 := rfl
theorem tyR_r27 (s : xSt) (r17 r18 r19 r20 r21 r22 r23 r24 r25 r26 r27 r28 r29 r30 : List Int32) (i31 i32 i33 i34 i35 i36 : Int32) (l4 l5 l6 l7 : List Int64) (z1 : Bool) : gR (tyR s r17 r18 r19 r20 r21 r22 r23 r24 r25 r26 r27 r28 r29 r30 i31 i32 i33 i34 i35 i36 l4 l5 l6 l7 z1) 27 = r27 := rfl
theorem tyR_r28 (s : xSt) (r17 r18 r19 r20 r21 r22 r23 r24 r25 r26 r27 r28 r29 r30 : List Int32) (i31 i32 i33 i34 i35 i36 : Int32) (l4 l5 l6 l7 : List Int64) (z1 : Bool) : gR (tyR s r17 r18 r19 r20 r21 r22 r23 r24 r25 r26 r27 r28 r29 r30 i31 i32 i33 i34 i35 i36 l4 l5 l6 l7 z1) 28 = r28 := rfl
theorem tyR_r29 (s : xSt) (r17 r18 r19 r20 r21 r22 r23 r24 r25 r26 r27 r28 r29 r30 : List Int32) (i31 i32 i33 i34 i35 i36 : Int32) (l4 l5 l6 l7 : List Int64) (z1 : Bool) : gR (tyR s r17 r18 r19 r20 r21 r22 r23 r24 r25 r26 r27 r28 r29 r30 i31 i32 i33 i34 i35 i36 l4 l5 l6 l7 z1) 29 = r29 := rfl
theorem tyR_r30 (s : xSt) (r17 r18 r19 r20 r21 r22 r23 r24 r25 r26 r27 r28 r29 r30 : List Int32) (i31 i32 i33 i34 i35 i36 : Int32) (l4 l5 l6 l7 : List Int64) (z1 : Bool) : gR (tyR s r17 r18 r19 r20 r21 r22 r23 r24 r25 r26 r27 r28 r29 r30 i31 i32 i33 i34 i35 i36 l4 l5 l6 l7 z1) 30 = r30 := rfl
theorem tyR_i31 (s : xSt) (r17 r18 r19 r20 r21 r22 r23 r24 r25 r26 r27 r28 r29 r30 : List Int32) (i31 i32 i33 i34 i35 i36 : Int32) (l4 l5 l6 l7 : List Int64) (z1 : Bool) : gI (tyR s r17 r18 r19 r20 r21 r22 r23 r24 r25 r26 r27 r28 r29 r30 i31 i32 i33 i34 i35 i36 l4 l5 l6 l7 z1) 31 = i31 := rfl
theorem tyR_i32 (s : xSt) (r17 r18 r19 r20 r21 r22 r23 r24 r25 r26 r27 r28 r29 r30 : List Int32) (i31 i32 i33 i34 i35 i36 : Int32) (l4 l5 l6 l7 : List Int64) (z1 : Bool) : gI (tyR s r17 r18 r19 r20 r21 r22 r23 r24 r25 r26 r27 r28 r29 r30 i31 i32 i33 i34 i35 i36 l4 l5 l6 l7 z1) 32 = i32 := rfl
theorem tyR_i33 (s : xSt) (r17 r18 r19 r20 r21 r22 r23 r24 r25 r26 r27 r28 r29 r30 : List Int32) (i31 i32 i33 i34 i35 i36 : Int32) (l4 l5 l6 l7 : List Int64) (z1 : Bool) : gI (tyR s r17 r18 r19 r20 r21 r22 r23 r24 r25 r26 r27 r28 r29 r30 i31 i32 i33 i34 i35 i36 l4 l5 l6 l7 z1) 33 = i33 := rfl
theorem tyR_i34 (s : xSt) (r17 r18 r19 r20 r21 r22 r23 r24 r25 r26 r27 r28 r29 r30 : List Int32) (i31 i32 i33 i34 i35 i36 : Int32) (l4 l5 l6 l7 : List Int64) (z1 : Bool) : gI (tyR s r17 r18 r19 r20 r21 r22 r23 r24 r25 r26 r27 r28 r29 r30 i31 i32 i33 i34 i35 i36 l4 l5 l6 l7 z1) 34 = i34 := rfl
theorem tyR_i35 (s : xSt) (r17 r18 r19 r20 r21 r22 r23 r24 r25 r26 r27 r28 r29 r30 : List Int32) (i31 i32 i33 i34 i35 i36 : Int32) (l4 l5 l6 l7 : List Int64) (z1 : Bool) : gI (tyR s r17 r18 r19 r20 r21 r22 r23 r24 r25 r26 r27 r28 r29 r30 i31 i32 i33 i34 i35 i36 l4 l5 l6 l7 z1) 35 = i35 := rfl
theorem tyR_i36 (s : xSt) (r17 r18 r19 r20 r21 r22 r23 r24 r25 r26 r27 r28 r29 r30 : List Int32) (i31 i32 i33 i34 i35 i36 : Int32) (l4 l5 l6 l7 : List Int64) (z1 : Bool) : gI (tyR s r17 r18 r19 r20 r21 r22 r23 r24 r25 r26 r27 r28 r29 r30 i31 i32 i33 i34 i35 i36 l4 l5 l6 l7 z1) 36 = i36 := rfl
theorem tyR_l4 (s : xSt) (r17 r18 r19 r20 r21 r22 r23 r24 r25 r26 r27 r28 r29 r30 : List Int32) (i31 i32 i33 i34 i35 i36 : Int32) (l4 l5 l6 l7 : List Int64) (z1 : Bool) : gL (tyR s r17 r18 r19 r20 r21 r22 r23 r24 r25 r26 r27 r28 r29 r30 i31 i32 i33 i34 i35 i36 l4 l5 l6 l7 z1) 4 = l4 := rfl
theorem tyR_l5 (s : xSt) (r17 r18 r19 r20 r21 r22 r23 r24 r25 r26 r27 r28 r29 r30 : List Int32) (i31 i32 i33 i34 i35 i36 : Int32) (l4 l5 l6 l7 : List Int64) (z1 : Bool) : gL (tyR s r17 r18 r19 r20 r21 r22 r23 r24 r25 r26 r27 r28 r29 r30 i31 i32 i33 i34 i35 i36 l4 l5 l6 l7 z1) 5 = l5 := rfl
theorem tyR_l6 (s : xSt) (r17 r18 r19 r20 r21 r22 r23 r24 r25 r26 r27 r28 r29 r30 : List Int32) (i31 i32 i33 i34 i35 i36 : Int32) (l4 l5 l6 l7 : List Int64) (z1 : Bool) : gL (tyR s r17 r18 r19 r20 r21 r22 r23 r24 r25 r26 r27 r28 r29 r30 i31 i32 i33 i34 i35 i36 l4 l5 l6 l7 z1) 6 = l6 := rfl
theorem tyR_l7 (s : xSt) (r17 r18 r19 r20 r21 r22 r23 r24 r25 r26 r27 r28 r29 r30 : List Int32) (i31 i32 i33 i34 i35 i36 : Int32) (l4 l5 l6 l7 : List Int64) (z1 : Bool) : gL (tyR s r17 r18 r19 r20 r21 r22 r23 r24 r25 r26 r27 r28 r29 r30 i31 i32 i33 i34 i35 i36 l4 l5 l6 l7 z1) 7 = l7 := rfl
theorem tyR_z1 (s : xSt) (r17 r18 r19 r20 r21 r22 r23 r24 r25 r26 r27 r28 r29 r30 : List Int32) (i31 i32 i33 i34 i35 i36 : Int32) (l4 l5 l6 l7 : List Int64) (z1 : Bool) : gZ (tyR s r17 r18 r19 r20 r21 r22 r23 r24 r25 r26 r27 r28 r29 r30 i31 i32 i33 i34 i35 i36 l4 l5 l6 l7 z1) 1 = z1 := rfl
theorem tyR_or2 (s : xSt) (r17 r18 r19 r20 r21 r22 r23 r24 r25 r26 r27 r28 r29 r30 : List Int32) (i31 i32 i33 i34 i35 i36 : Int32) (l4 l5 l6 l7 : List Int64) (z1 : Bool) : gR (tyR s r17 r18 r19 r20 r21 r22 r23 r24 r25 r26 r27 r28 r29 r30 i31 i32 i33 i34 i35 i36 l4 l5 l6 l7 z1) 2 = gR s 2 := rfl
theorem tyR_or3 (s : xSt) (r17 r18 r19 r20 r21 r22 r23 r24 r25 r26 r27 r28 r29 r30 : List Int32) (i31 i32 i33 i34 i35 i36 : Int32) (l4 l5 l6 l7 : List Int64) (z1 : Bool) : gR (tyR s r17 r18 r19 r20 r21 r22 r23 r24 r25 r26 r27 r28 r29 r30 i31 i32 i33 i34 i35 i36 l4 l5 l6 l7 z1) 3 = gR s 3 := rfl
theorem tyR_or4 (s : xSt) (r17 r18 r19 r20 r21 r22 r23 r24 r25 r26 r27 r28 r29 r30 : List Int32) (i31 i32 i33 i34 i35 i36 : Int32) (l4 l5 l6 l7 : List Int64) (z1 : Bool) : gR (tyR s r17 r18 r19 r20 r21 r22 r23 r24 r25 r26 r27 r28 r29 r30 i31 i32 i33 i34 i35 i36 l4 l5 l6 l7 z1) 4 = gR s 4 := rfl
theorem tyR_or5 (s : xSt) (r17 r18 r19 r20 r21 r22 r23 r24 r25 r26 r27 r28 r29 r30 : List Int32) (i31 i32 i33 i34 i35 i36 : Int32) (l4 l5 l6 l7 : List Int64) (z1 : Bool) : gR (tyR s r17 r18 r19 r20 r21 r22 r23 r24 r25 r26 r27 r28 r29 r30 i31 i32 i33 i34 i35 i36 l4 l5 l6 l7 z1) 5 = gR s 5 := rfl
theorem tyR_or6 (s : xSt) (r17 r18 r19 r20 r21 r22 r23 r24 r25 r26 r27 r28 r29 r30 : List Int32) (i31 i32 i33 i34 i35 i36 : Int32) (l4 l5 l6 l7 : List Int64) (z1 : Bool) : gR (tyR s r17 r18 r19 r20 r21 r22 r23 r24 r25 r26 r27 r28 r29 r30 i31 i32 i33 i34 i35 i36 l4 l5 l6 l7 z1) 6 = gR s 6 := rfl
theorem tyR_or7 (s : xSt) (r17 r18 r19 r20 r21 r22 r23 r24 r25 r26 r27 r28 r29 r30 : List Int32) (i31 i32 i33 i34 i35 i36 : Int32) (l4 l5 l6 l7 : List Int64) (z1 : Bool) : gR (tyR s r17 r18 r19 r20 r21 r22 r23 r24 r25 r26 r27 r28 r29 r30 i31 i32 i33 i34 i35 i36 l4 l5 l6 l7 z1) 7 = gR s 7 := rfl
theorem tyR_or8 (s : xSt) (r17 r18 r19 r20 r21 r22 r23 r24 r25 r26 r27 r28 r29 r30 : List Int32) (i31 i32 i33 i34 i35 i36 : Int32) (l4 l5 l6 l7 : List Int64) (z1 : Bool) : gR (tyR s r17 r18 r19 r20 r21 r22 r23 r24 r25 r26 r27 r28 r29 r30 i31 i32 i33 i34 i35 i36 l4 l5 l6 l7 z1) 8 = gR s 8 := rfl
theorem tyR_or9 (s : xSt) (r17 r18 r19 r20 r21 r22 r23 r24 r25 r26 r27 r28 r29 r30 : List Int32) (i31 i32 i33 i34 i35 i36 : Int32) (l4 l5 l6 l7 : List Int64) (z1 : Bool) : gR (tyR s r17 r18 r19 r20 r21 r22 r23 r24 r25 r26 r27 r28 r29 r30 i31 i32 i33 i34 i35 i36 l4 l5 l6 l7 z1) 9 = gR s 9 := rfl
theorem tyR_or10 (s : xSt) (r17 r18 r19 r20 r21 r22 r23 r24 r25 r26 r27 r28 r29 r30 : List Int32) (i31 i32 i33 i34 i35 i36 : Int32) (l4 l5 l6 l7 : List Int64) (z1 : Bool) : gR (tyR s r17 r18 r19 r20 r21 r22 r23 r24 r25 r26 r27 r28 r29 r30 i31 i32 i33 i34 i35 i36 l4 l5 l6 l7 z1) 10 = gR s 10 := rfl
theorem tyR_or11 (s : xSt) (r17 r18 r19 r20 r21 r22 r23 r24 r25 r26 r27 r28 r29 r30 : List Int32) (i31 i32 i33 i34 i35 i36 : Int32) (l4 l5 l6 l7 : List Int64) (z1 : Bool) : gR (tyR s r17 r18 r19 r20 r21 r22 r23 r24 r25 r26 r27 r28 r29 r30 i31 i32 i33 i34 i35 i36 l4 l5 l6 l7 z1) 11 = gR s 11 := rfl
theorem tyR_or12 (s : xSt) (r17 r18 r19 r20 r21 r22 r23 r24 r25 r26 r27 r28 r29 r30 : List Int32) (i31 i32 i33 i34 i35 i36 : Int32) (l4 l5 l6 l7 : List Int64) (z1 : Bool) : gR (tyR s r17 r18 r19 r20 r21 r22 r23 r24 r25 r26 r27 r28 r29 r30 i31 i32 i33 i34 i35 i36 l4 l5 l6 l7 z1) 12 = gR s 12 := rfl
theorem tyR_or13 (s : xSt) (r17 r18 r19 r20 r21 r22 r23 r24 r25 r26 r27 r28 r29 r30 : List Int32) (i31 i32 i33 i34 i35 i36 : Int32) (l4 l5 l6 l7 : List Int64) (z1 : Bool) : gR (tyR s r17 r18 r19 r20 r21 r22 r23 r24 r25 r26 r27 r28 r29 r30 i31 i32 i33 i34 i35 i36 l4 l5 l6 l7 z1) 13 = gR s 13 := rfl
theorem tyR_or14 (s : xSt) (r17 r18 r19 r20 r21 r22 r23 r24 r25 r26 r27 r28 r29 r30 : List Int32) (i31 i32 i33 i34 i35 i36 : Int32) (l4 l5 l6 l7 : List Int64) (z1 : Bool) : gR (tyR s r17 r18 r19 r20 r21 r22 r23 r24 r25 r26 r27 r28 r29 r30 i31 i32 i33 i34 i35 i36 l4 l5 l6 l7 z1) 14 = gR s 14 := rfl
theorem tyR_oi20 (s : xSt) (r17 r18 r19 r20 r21 r22 r23 r24 r25 r26 r27 r28 r29 r30 : List Int32) (i31 i32 i33 i34 i35 i36 : Int32) (l4 l5 l6 l7 : List Int64) (z1 : Bool) : gI (tyR s r17 r18 r19 r20 r21 r22 r23 r24 r25 r26 r27 r28 r29 r30 i31 i32 i33 i34 i35 i36 l4 l5 l6 l7 z1) 20 = gI s 20 := rfl
theorem tyR_oi27 (s : xSt) (r17 r18 r19 r20 r21 r22 r23 r24 r25 r26 r27 r28 r29 r30 : List Int32) (i31 i32 i33 i34 i35 i36 : Int32) (l4 l5 l6 l7 : List Int64) (z1 : Bool) : gI (tyR s r17 r18 r19 r20 r21 r22 r23 r24 r25 r26 r27 r28 r29 r30 i31 i32 i33 i34 i35 i36 l4 l5 l6 l7 z1) 27 = gI s 27 := rfl
theorem tyR_oi28 (s : xSt) (r17 r18 r19 r20 r21 r22 r23 r24 r25 r26 r27 r28 r29 r30 : List Int32) (i31 i32 i33 i34 i35 i36 : Int32) (l4 l5 l6 l7 : List Int64) (z1 : Bool) : gI (tyR s r17 r18 r19 r20 r21 r22 r23 r24 r25 r26 r27 r28 r29 r30 i31 i32 i33 i34 i35 i36 l4 l5 l6 l7 z1) 28 = gI s 28 := rfl
theorem tyR_ol0 (s : xSt) (r17 r18 r19 r20 r21 r22 r23 r24 r25 r26 r27 r28 r29 r30 : List Int32) (i31 i32 i33 i34 i35 i36 : Int32) (l4 l5 l6 l7 : List Int64) (z1 : Bool) : gL (tyR s r17 r18 r19 r20 r21 r22 r23 r24 r25 r26 r27 r28 r29 r30 i31 i32 i33 i34 i35 i36 l4 l5 l6 l7 z1) 0 = gL s 0 := rfl
theorem tyR_ol1 (s : xSt) (r17 r18 r19 r20 r21 r22 r23 r24 r25 r26 r27 r28 r29 r30 : List Int32) (i31 i32 i33 i34 i35 i36 : Int32) (l4 l5 l6 l7 : List Int64) (z1 : Bool) : gL (tyR s r17 r18 r19 r20 r21 r22 r23 r24 r25 r26 r27 r28 r29 r30 i31 i32 i33 i34 i35 i36 l4 l5 l6 l7 z1) 1 = gL s 1 := rfl
theorem tyR_ol2 (s : xSt) (r17 r18 r19 r20 r21 r22 r23 r24 r25 r26 r27 r28 r29 r30 : List Int32) (i31 i32 i33 i34 i35 i36 : Int32) (l4 l5 l6 l7 : List Int64) (z1 : Bool) : gL (tyR s r17 r18 r19 r20 r21 r22 r23 r24 r25 r26 r27 r28 r29 r30 i31 i32 i33 i34 i35 i36 l4 l5 l6 l7 z1) 2 = gL s 2 := rfl
theorem tyR_ol3 (s : xSt) (r17 r18 r19 r20 r21 r22 r23 r24 r25 r26 r27 r28 r29 r30 : List Int32) (i31 i32 i33 i34 i35 i36 : Int32) (l4 l5 l6 l7 : List Int64) (z1 : Bool) : gL (tyR s r17 r18 r19 r20 r21 r22 r23 r24 r25 r26 r27 r28 r29 r30 i31 i32 i33 i34 i35 i36 l4 l5 l6 l7 z1) 3 = gL s 3 := rfl
theorem tyR_P (s : xSt) (r17 r18 r19 r20 r21 r22 r23 r24 r25 r26 r27 r28 r29 r30 : List Int32) (i31 i32 i33 i34 i35 i36 : Int32) (l4 l5 l6 l7 : List Int64) (z1 : Bool) (z : Bool) (i : Nat) : gP (tyR s r17 r18 r19 r20 r21 r22 r23 r24 r25 r26 r27 r28 r29 r30 i31 i32 i33 i34 i35 i36 l4 l5 l6 l7 z1) z i = gP s z i := rfl
theorem tyR_N (s : xSt) (r17 r18 r19 r20 r21 r22 r23 r24 r25 r26 r27 r28 r29 r30 : List Int32) (i31 i32 i33 i34 i35 i36 : Int32) (l4 l5 l6 l7 : List Int64) (z1 : Bool) (z : Bool) : gN (tyR s r17 r18 r19 r20 r21 r22 r23 r24 r25 r26 r27 r28 r29 r30 i31 i32 i33 i34 i35 i36 l4 l5 l6 l7 z1) z = gN s z := rfl
theorem tyR_J (s : xSt) (r17 r18 r19 r20 r21 r22 r23 r24 r25 r26 r27 r28 r29 r30 : List Int32) (i31 i32 i33 i34 i35 i36 : Int32) (l4 l5 l6 l7 : List Int64) (z1 : Bool) (i : Nat) : gJ (tyR s r17 r18 r19 r20 r21 r22 r23 r24 r25 r26 r27 r28 r29 r30 i31 i32 i33 i34 i35 i36 l4 l5 l6 l7 z1) i = gJ s i := rfl
theorem tyR_sr17 (s : xSt) (r17 r18 r19 r20 r21 r22 r23 r24 r25 r26 r27 r28 r29 r30 : List Int32) (i31 i32 i33 i34 i35 i36 : Int32) (l4 l5 l6 l7 : List Int64) (z1 : Bool) (y : List Int32) : sR (tyR s r17 r18 r19 r20 r21 r22 r23 r24 r25 r26 r27 r28 r29 r30 i31 i32 i33 i34 i35 i36 l4 l5 l6 l7 z1) 17 y = tyR s y r18 r19 r20 r21 r22 r23 r24 r25 r26 r27 r28 r29 r30 i31 i32 i33 i34 i35 i36 l4 l5 l6 l7 z1 := by
  unfold tyR
  refine Prod.ext ?_ rfl
  funext j
  show bUp _ _ _ j = bUp _ _ _ j
  simp only [sR, sI, sJ, sL, sZ, sN, bUp_if]
  by_cases e : j = 17 <;> simp [e]
theorem tyR_sr18 (s : xSt) (r17 r18 r19 r20 r21 r22 r23 r24 r25 r26 r27 r28 r29 r30 : List Int32) (i31 i32 i33 i34 i35 i36 : Int32) (l4 l5 l6 l7 : List Int64) (z1 : Bool) (y : List Int32) : sR (tyR s r17 r18 r19 r20 r21 r22 r23 r24 r25 r26 r27 r28 r29 r30 i31 i32 i33 i34 i35 i36 l4 l5 l6 l7 z1) 18 y = tyR s r17 y r19 r20 r21 r22 r23 r24 r25 r26 r27 r28 r29 r30 i31 i32 i33 i34 i35 i36 l4 l5 l6 l7 z1 := by
  unfold tyR
  refine Prod.ext ?_ rfl
  funext j
  show bUp _ _ _ j = bUp _ _ _ j
  simp only [sR, sI, sJ, sL, sZ, sN, bUp_if]
  by_cases e : j = 18 <;> simp [e]
theorem tyR_sr19 (s : xSt) (r17 r18 r19 r20 r21 r22 r23 r24 r25 r26 r27 r28 r29 r30 : List Int32) (i31 i32 i33 i34 i35 i36 : Int32) (l4 l5 l6 l7 : List Int64) (z1 : Bool) (y : List Int32) : sR (tyR s r17 r18 r19 r20 r21 r22 r23 r24 r25 r26 r27 r28 r29 r30 i31 i32 i33 i34 i35 i36 l4 l5 l6 l7 z1) 19 y = tyR s r17 r18 y r20 r21 r22 r23 r24 r25 r26 r27 r28 r29 r30 i31 i32 i33 i34 i35 i36 l4 l5 l6 l7 z1 := by
  unfold tyR
  refine Prod.ext ?_ rfl
  funext j
  show bUp _ _ _ j = bUp _ _ _ j
  simp only [sR, sI, sJ, sL, sZ, sN, bUp_if]
  by_cases e : j = 19 <;> simp [e]
theorem tyR_sr20 (s : xSt) (r17 r18 r19 r20 r21 r22 r23 r24 r25 r26 r27 r28 r29 r30 : List Int32) (i31 i32 i33 i34 i35 i36 : Int32) (l4 l5 l6 l7 : List Int64) (z1 : Bool) (y : List Int32) : sR (tyR s r17 r18 r19 r20 r21 r22 r23 r24 r25 r26 r27 r28 r29 r30 i31 i32 i33 i34 i35 i36 l4 l5 l6 l7 z1) 20 y = tyR s r17 r18 r19 y r21 r22 r23 r24 r25 r26 r27 r28 r29 r30 i31 i32 i33 i34 i35 i36 l4 l5 l6 l7 z1 := by
  unfold tyR
  refine Prod.ext ?_ rfl
  funext j
  show bUp _ _ _ j = bUp _ _ _ j
  simp only [sR, sI, sJ, sL, sZ, sN, bUp_if]
  by_cases e : j = 20 <;> simp [e]
theorem tyR_sr21 (s : xSt) (r17 r18 r19 r20 r21 r22 r23 r24 r25 r26 r27 r28 r29 r30 : List Int32) (i31 i32 i33 i34 i35 i36 : Int32) (l4 l5 l6 l7 : List Int64) (z1 : Bool) (y : List Int32) : sR (tyR s r17 r18 r19 r20 r21 r22 r23 r24 r25 r26 r27 r28 r29 r30 i31 i32 i33 i34 i35 i36 l4 l5 l6 l7 z1) 21 y = tyR s r17 r18 r19 r20 y r22 r23 r24 r25 r26 r27 r28 r29 r30 i31 i32 i33 i34 i35 i36 l4 l5 l6 l7 z1 := by
  unfold tyR
  refine Prod.ext ?_ rfl
  funext j
  show bUp _ _ _ j = bUp _ _ _ j
  simp only [sR, sI, sJ, sL, sZ, sN, bUp_if]
  by_cases e : j = 21 <;> simp [e]
theorem tyR_sr22 (s : xSt) (r17 r18 r19 r20 r21 r22 r23 r24 r25 r26 r27 r28 r29 r30 : List Int32) (i31 i32 i33 i34 i35 i36 : Int32) (l4 l5 l6 l7 : List Int64) (z1 : Bool) (y : List Int32) : sR (tyR s r17 r18 r19 r20 r21 r22 r23 r24 r25 r26 r27 r28 r29 r30 i31 i32 i33 i34 i35 i36 l4 l5 l6 l7 z1) 22 y = tyR s r17 r18 r19 r20 r21 y r23 r24 r25 r26 r27 r28 r29 r30 i31 i32 i33 i34 i35 i36 l4 l5 l6 l7 z1 := by
  unfold tyR
  refine Prod.ext ?_ rfl
  funext j
  show bUp _ _ _ j = bUp _ _ _ j
  simp only [sR, sI, sJ, sL, sZ, sN, bUp_if]
  by_cases e : j = 22 <;> simp [e]
theorem tyR_sr23 (s : xSt) (r17 r18 r19 r20 r21 r22 r23 r24 r25 r26 r27 r28 r29 r30 : List Int32) (i31 i32 i33 i34 i35 i36 : Int32) (l4 l5 l6 l7 : List Int64) (z1 : Bool) (y : List Int32) : sR (tyR s r17 r18 r19 r20 r21 r22 r23 r24 r25 r26 r27 r28 r29 r30 i31 i32 i33 i34 i35 i36 l4 l5 l6 l7 z1) 23 y = tyR s r17 r18 r19 r20 r21 r22 y r24 r25 r26 r27 r28 r29 r30 i31 i32 i33 i34 i35 i36 l4 l5 l6 l7 z1 := by
  unfold tyR
  refine Prod.ext ?_ rfl
  funext j
  show bUp _ _ _ j = bUp _ _ _ j
  simp only [sR, sI, sJ, sL, sZ, sN, bUp_if]
  by_cases e : j = 23 <;> simp [e]
theorem tyR_sr24 (s : xSt) (r17 r18 r19 r20 r21 r22 r23 r24 r25 r26 r27 r28 r29 r30 : List Int32) (i31 i32 i33 i34 i35 i36 : Int32) (l4 l5 l6 l7 : List Int64) (z1 : Bool) (y : List Int32) : sR (tyR s r17 r18 r19 r20 r21 r22 r23 r24 r25 r26 r27 r28 r29 r30 i31 i32 i33 i34 i35 i36 l4 l5 l6 l7 z1) 24 y = tyR s r17 r18 r19 r20 r21 r22 r23 y r25 r26 r27 r28 r29 r30 i31 i32 i33 i34 i35 i36 l4 l5 l6 l7 z1 := by
  unfold tyR
  refine Prod.ext ?_ rfl
  funext j
  show bUp _ _ _ j = bUp _ _ _ j
  simp only [sR, sI, sJ, sL, sZ, sN, bUp_if]
  by_cases e : j = 24 <;> simp [e]
theorem tyR_sr25 (s : xSt) (r17 r18 r19 r20 r21 r22 r23 r24 r25 r26 r27 r28 r29 r30 : List Int32) (i31 i32 i33 i34 i35 i36 : Int32) (l4 l5 l6 l7 : List Int64) (z1 : Bool) (y : List Int32) : sR (tyR s r17 r18 r19 r20 r21 r22 r23 r24 r25 r26 r27 r28 r29 r30 i31 i32 i33 i34 i35 i36 l4 l5 l6 l7 z1) 25 y = tyR s r17 r18 r19 r20 r21 r22 r23 r24 y r26 r27 r28 r29 r30 i31 i32 i33 i34 i35 i36 l4 l5 l6 l7 z1 := by
  unfold tyR
  refine Prod.ext ?_ rfl
  funext j
  show bUp _ _ _ j = bUp _ _ _ j
  simp only [sR, sI, sJ, sL, sZ, sN, bUp_if]
  by_cases e : j = 25 <;> simp [e]
theorem tyR_sr26 (s : xSt) (r17 r18 r19 r20 r21 r22 r23 r24 r25 r26 r27 r28 r29 r30 : List Int32) (i31 i32 i33 i34 i35 i36 : Int32) (l4 l5 l6 l7 : List Int64) (z1 : Bool) (y : List Int32) : sR (tyR s r17 r18 r19 r20 r21 r22 r23 r24 r25 r26 r27 r28 r29 r30 i31 i32 i33 i34 i35 i36 l4 l5 l6 l7 z1) 26 y = tyR s r17 r18 r19 r20 r21 r22 r23 r24 r25 y r27 r28 r29 r30 i31 i32 i33 i34 i35 i36 l4 l5 l6 l7 z1 := by
  unfold tyR
  refine Prod.ext ?_ rfl
  funext j
  show bUp _ _ _ j = bUp _ _ _ j
  simp only [sR, sI, sJ, sL, sZ, sN, bUp_if]
  by_cases e : j = 26 <;> simp [e]
theorem tyR_sr27 (s : xSt) (r17 r18 r19 r20 r21 r22 r23 r24 r25 r26 r27 r28 r29 r30 : List Int32) (i31 i32 i33 i34 i35 i36 : Int32) (l4 l5 l6 l7 : List Int64) (z1 : Bool) (y : List Int32) : sR (tyR s r17 r18 r19 r20 r21 r22 r23 r24 r25 r26 r27 r28 r29 r30 i31 i32 i33 i34 i35 i36 l4 l5 l6 l7 z1) 27 y = tyR s r17 r18 r19 r20 r21 r22 r23 r24 r25 r26 y r28 r29 r30 i31 i32 i33 i34 i35 i36 l4 l5 l6 l7 z1 := by
  unfold tyR
  refine Prod.ext ?_ rfl
  funext j
  show bUp _ _ _ j = bUp _ _ _ j
  simp only [sR, sI, sJ, sL, sZ, sN, bUp_if]
  by_cases e : j = 27 <;> simp [e]
theorem tyR_sr28 (s : xSt) (r17 r18 r19 r20 r21 r22 r23 r24 r25 r26 r27 r28 r29 r30 : List Int32) (i31 i32 i33 i34 i35 i36 : Int32) (l4 l5 l6 l7 : List Int64) (z1 : Bool) (y : List Int32) : sR (tyR s r17 r18 r19 r20 r21 r22 r23 r24 r25 r26 r27 r28 r29 r30 i31 i32 i33 i34 i35 i36 l4 l5 l6 l7 z1) 28 y = tyR s r17 r18 r19 r20 r21 r22 r23 r24 r25 r26 r27 y r29 r30 i31 i32 i33 i34 i35 i36 l4 l5 l6 l7 z1 := by
  unfold tyR
  refine Prod.ext ?_ rfl
  funext j
  show bUp _ _ _ j = bUp _ _ _ j
  simp only [sR, sI, sJ, sL, sZ, sN, bUp_if]
  by_cases e : j = 28 <;> simp [e]
theorem tyR_sr29 (s : xSt) (r17 r18 r19 r20 r21 r22 r23 r24 r25 r26 r27 r28 r29 r30 : List Int32) (i31 i32 i33 i34 i35 i36 : Int32) (l4 l5 l6 l7 : List Int64) (z1 : Bool) (y : List Int32) : sR (tyR s r17 r18 r19 r20 r21 r22 r23 r24 r25 r26 r27 r28 r29 r30 i31 i32 i33 i34 i35 i36 l4 l5 l6 l7 z1) 29 y = tyR s r17 r18 r19 r20 r21 r22 r23 r24 r25 r26 r27 r28 y r30 i31 i32 i33 i34 i35 i36 l4 l5 l6 l7 z1 := by
  unfold tyR
  refine Prod.ext ?_ rfl
  funext j
  show bUp _ _ _ j = bUp _ _ _ j
  simp only [sR, sI, sJ, sL, sZ, sN, bUp_if]
  by_cases e : j = 29 <;> simp [e]
theorem tyR_sr30 (s : xSt) (r17 r18 r19 r20 r21 r22 r23 r24 r25 r26 r27 r28 r29 r30 : List Int32) (i31 i32 i33 i34 i35 i36 : Int32) (l4 l5 l6 l7 : List Int64) (z1 : Bool) (y : List Int32) : sR (tyR s r17 r18 r19 r20 r21 r22 r23 r24 r25 r26 r27 r28 r29 r30 i31 i32 i33 i34 i35 i36 l4 l5 l6 l7 z1) 30 y = tyR s r17 r18 r19 r20 r21 r22 r23 r24 r25 r26 r27 r28 r29 y i31 i32 i33 i34 i35 i36 l4 l5 l6 l7 z1 := by
  unfold tyR
  refine Prod.ext ?_ rfl
  funext j
  show bUp _ _ _ j = bUp _ _ _ j
  simp only [sR, sI, sJ, sL, sZ, sN, bUp_if]
  by_cases e : j = 30 <;> simp [e]
theorem tyR_si31 (s : xSt) (r17 r18 r19 r20 r21 r22 r23 r24 r25 r26 r27 r28 r29 r30 : List Int32) (i31 i32 i33 i34 i35 i36 : Int32) (l4 l5 l6 l7 : List Int64) (z1 : Bool) (y : Int32) : sI (tyR s r17 r18 r19 r20 r21 r22 r23 r24 r25 r26 r27 r28 r29 r30 i31 i32 i33 i34 i35 i36 l4 l5 l6 l7 z1) 31 y = tyR s r17 r18 r19 r20 r21 r22 r23 r24 r25 r26 r27 r28 r29 r30 y i32 i33 i34 i35 i36 l4 l5 l6 l7 z1 := by
  unfold tyR
  refine Prod.ext rfl (Prod.ext ?_ rfl)
  funext j
  show bUp _ _ _ j = bUp _ _ _ j
  simp only [sR, sI, sJ, sL, sZ, sN, bUp_if]
  by_cases e : j = 31 <;> simp [e]
theorem tyR_si32 (s : xSt) (r17 r18 r19 r20 r21 r22 r23 r24 r25 r26 r27 r28 r29 r30 : List Int32) (i31 i32 i33 i34 i35 i36 : Int32) (l4 l5 l6 l7 : List Int64) (z1 : Bool) (y : Int32) : sI (tyR s r17 r18 r19 r20 r21 r22 r23 r24 r25 r26 r27 r28 r29 r30 i31 i32 i33 i34 i35 i36 l4 l5 l6 l7 z1) 32 y = tyR s r17 r18 r19 r20 r21 r22 r23 r24 r25 r26 r27 r28 r29 r30 i31 y i33 i34 i35 i36 l4 l5 l6 l7 z1 := by
  unfold tyR
  refine Prod.ext rfl (Prod.ext ?_ rfl)
  funext j
  show bUp _ _ _ j = bUp _ _ _ j
  simp only [sR, sI, sJ, sL, sZ, sN, bUp_if]
  by_cases e : j = 32 <;> simp [e]
theorem tyR_si33 (s : xSt) (r17 r18 r19 r20 r21 r22 r23 r24 r25 r26 r27 r28 r29 r30 : List Int32) (i31 i32 i33 i34 i35 i36 : Int32) (l4 l5 l6 l7 : List Int64) (z1 : Bool) (y : Int32) : sI (tyR s r17 r18 r19 r20 r21 r22 r23 r24 r25 r26 r27 r28 r29 r30 i31 i32 i33 i34 i35 i36 l4 l5 l6 l7 z1) 33 y = tyR s r17 r18 r19 r20 r21 r22 r23 r24 r25 r26 r27 r28 r29 r30 i31 i32 y i34 i35 i36 l4 l5 l6 l7 z1 := by
  unfold tyR
  refine Prod.ext rfl (Prod.ext ?_ rfl)
  funext j
  show bUp _ _ _ j = bUp _ _ _ j
  simp only [sR, sI, sJ, sL, sZ, sN, bUp_if]
  by_cases e : j = 33 <;> simp [e]
theorem tyR_si34 (s : xSt) (r17 r18 r19 r20 r21 r22 r23 r24 r25 r26 r27 r28 r29 r30 : List Int32) (i31 i32 i33 i34 i35 i36 : Int32) (l4 l5 l6 l7 : List Int64) (z1 : Bool) (y : Int32) : sI (tyR s r17 r18 r19 r20 r21 r22 r23 r24 r25 r26 r27 r28 r29 r30 i31 i32 i33 i34 i35 i36 l4 l5 l6 l7 z1) 34 y = tyR s r17 r18 r19 r20 r21 r22 r23 r24 r25 r26 r27 r28 r29 r30 i31 i32 i33 y i35 i36 l4 l5 l6 l7 z1 := by
  unfold tyR
  refine Prod.ext rfl (Prod.ext ?_ rfl)
  funext j
  show bUp _ _ _ j = bUp _ _ _ j
  simp only [sR, sI, sJ, sL, sZ, sN, bUp_if]
  by_cases e : j = 34 <;> simp [e]
theorem tyR_si35 (s : xSt) (r17 r18 r19 r20 r21 r22 r23 r24 r25 r26 r27 r28 r29 r30 : List Int32) (i31 i32 i33 i34 i35 i36 : Int32) (l4 l5 l6 l7 : List Int64) (z1 : Bool) (y : Int32) : sI (tyR s r17 r18 r19 r20 r21 r22 r23 r24 r25 r26 r27 r28 r29 r30 i31 i32 i33 i34 i35 i36 l4 l5 l6 l7 z1) 35 y = tyR s r17 r18 r19 r20 r21 r22 r23 r24 r25 r26 r27 r28 r29 r30 i31 i32 i33 i34 y i36 l4 l5 l6 l7 z1 := by
  unfold tyR
  refine Prod.ext rfl (Prod.ext ?_ rfl)
  funext j
  show bUp _ _ _ j = bUp _ _ _ j
  simp only [sR, sI, sJ, sL, sZ, sN, bUp_if]
  by_cases e : j = 35 <;> simp [e]
theorem tyR_si36 (s : xSt) (r17 r18 r19 r20 r21 r22 r23 r24 r25 r26 r27 r28 r29 r30 : List Int32) (i31 i32 i33 i34 i35 i36 : Int32) (l4 l5 l6 l7 : List Int64) (z1 : Bool) (y : Int32) : sI (tyR s r17 r18 r19 r20 r21 r22 r23 r24 r25 r26 r27 r28 r29 r30 i31 i32 i33 i34 i35 i36 l4 l5 l6 l7 z1) 36 y = tyR s r17 r18 r19 r20 r21 r22 r23 r24 r25 r26 r27 r28 r29 r30 i31 i32 i33 i34 i35 y l4 l5 l6 l7 z1 := by
  unfold tyR
  refine Prod.ext rfl (Prod.ext ?_ rfl)
  funext j
  show bUp _ _ _ j = bUp _ _ _ j
  simp only [sR, sI, sJ, sL, sZ, sN, bUp_if]
  by_cases e : j = 36 <;> simp [e]
theorem tyR_sl4 (s : xSt) (r17 r18 r19 r20 r21 r22 r23 r24 r25 r26 r27 r28 r29 r30 : List Int32) (i31 i32 i33 i34 i35 i36 : Int32) (l4 l5 l6 l7 : List Int64) (z1 : Bool) (y : List Int64) : sL (tyR s r17 r18 r19 r20 r21 r22 r23 r24 r25 r26 r27 r28 r29 r30 i31 i32 i33 i34 i35 i36 l4 l5 l6 l7 z1) 4 y = tyR s r17 r18 r19 r20 r21 r22 r23 r24 r25 r26 r27 r28 r29 r30 i31 i32 i33 i34 i35 i36 y l5 l6 l7 z1 := by
  unfold tyR
  refine Prod.ext rfl (Prod.ext rfl (Prod.ext rfl (Prod.ext ?_ rfl)))
  funext j
  show bUp _ _ _ j = bUp _ _ _ j
  simp only [sR, sI, sJ, sL, sZ, sN, bUp_if]
  by_cases e : j = 4 <;> simp [e]
theorem tyR_sl5 (s : xSt) (r17 r18 r19 r20 r21 r22 r23 r24 r25 r26 r27 r28 r29 r30 : List Int32) (i31 i32 i33 i34 i35 i36 : Int32) (l4 l5 l6 l7 : List Int64) (z1 : Bool) (y : List Int64) : sL (tyR s r17 r18 r19 r20 r21 r22 r23 r24 r25 r26 r27 r28 r29 r30 i31 i32 i33 i34 i35 i36 l4 l5 l6 l7 z1) 5 y = tyR s r17 r18 r19 r20 r21 r22 r23 r24 r25 r26 r27 r28 r29 r30 i31 i32 i33 i34 i35 i36 l4 y l6 l7 z1 := by
  unfold tyR
  refine Prod.ext rfl (Prod.ext rfl (Prod.ext rfl (Prod.ext ?_ rfl)))
  funext j
  show bUp _ _ _ j = bUp _ _ _ j
  simp only [sR, sI, sJ, sL, sZ, sN, bUp_if]
  by_cases e : j = 5 <;> simp [e]
theorem tyR_sl6 (s : xSt) (r17 r18 r19 r20 r21 r22 r23 r24 r25 r26 r27 r28 r29 r30 : List Int32) (i31 i32 i33 i34 i35 i36 : Int32) (l4 l5 l6 l7 : List Int64) (z1 : Bool) (y : List Int64) : sL (tyR s r17 r18 r19 r20 r21 r22 r23 r24 r25 r26 r27 r28 r29 r30 i31 i32 i33 i34 i35 i36 l4 l5 l6 l7 z1) 6 y = tyR s r17 r18 r19 r20 r21 r22 r23 r24 r25 r26 r27 r28 r29 r30 i31 i32 i33 i34 i35 i36 l4 l5 y l7 z1 := by
  unfold tyR
  refine Prod.ext rfl (Prod.ext rfl (Prod.ext rfl (Prod.ext ?_ rfl)))
  funext j
  show bUp _ _ _ j = bUp _ _ _ j
  simp only [sR, sI, sJ, sL, sZ, sN, bUp_if]
  by_cases e : j = 6 <;> simp [e]
theorem tyR_sl7 (s : xSt) (r17 r18 r19 r20 r21 r22 r23 r24 r25 r26 r27 r28 r29 r30 : List Int32) (i31 i32 i33 i34 i35 i36 : Int32) (l4 l5 l6 l7 : List Int64) (z1 : Bool) (y : List Int64) : sL (tyR s r17 r18 r19 r20 r21 r22 r23 r24 r25 r26 r27 r28 r29 r30 i31 i32 i33 i34 i35 i36 l4 l5 l6 l7 z1) 7 y = tyR s r17 r18 r19 r20 r21 r22 r23 r24 r25 r26 r27 r28 r29 r30 i31 i32 i33 i34 i35 i36 l4 l5 l6 y z1 := by
  unfold tyR
  refine Prod.ext rfl (Prod.ext rfl (Prod.ext rfl (Prod.ext ?_ rfl)))
  funext j
  show bUp _ _ _ j = bUp _ _ _ j
  simp only [sR, sI, sJ, sL, sZ, sN, bUp_if]
  by_cases e : j = 7 <;> simp [e]
theorem tyR_sz1 (s : xSt) (r17 r18 r19 r20 r21 r22 r23 r24 r25 r26 r27 r28 r29 r30 : List Int32) (i31 i32 i33 i34 i35 i36 : Int32) (l4 l5 l6 l7 : List Int64) (z1 : Bool) (y : Bool) : sZ (tyR s r17 r18 r19 r20 r21 r22 r23 r24 r25 r26 r27 r28 r29 r30 i31 i32 i33 i34 i35 i36 l4 l5 l6 l7 z1) 1 y = tyR s r17 r18 r19 r20 r21 r22 r23 r24 r25 r26 r27 r28 r29 r30 i31 i32 i33 i34 i35 i36 l4 l5 l6 l7 y := by
  unfold tyR
  refine Prod.ext rfl (Prod.ext rfl (Prod.ext rfl (Prod.ext rfl (Prod.ext ?_ rfl))))
  funext j
  show bUp _ _ _ j = bUp _ _ _ j
  simp only [sR, sI, sJ, sL, sZ, sN, bUp_if]
  by_cases e : j = 1 <;> simp [e]
theorem tyR_id (s : xSt) : tyR s (gR s 17) (gR s 18) (gR s 19) (gR s 20) (gR s 21) (gR s 22) (gR s 23) (gR s 24) (gR s 25) (gR s 26) (gR s 27) (gR s 28) (gR s 29) (gR s 30) (gI s 31) (gI s 32) (gI s 33) (gI s 34) (gI s 35) (gI s 36) (gL s 4) (gL s 5) (gL s 6) (gL s 7) (gZ s 1) = s := by
  unfold tyR
  simp only [sR_id, sI_id, sJ_id, sL_id, sZ_id]
