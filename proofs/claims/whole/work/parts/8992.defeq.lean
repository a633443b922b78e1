/-! definitions: equations -/
def dfx (nn : List Int64) (x : Int64) : Nat → Nat → Int32
  | _, 0 => -1
  | i, m + 1 => if nn.getD i 0 = x then nI i else dfx nn x (i + 1) m
theorem dfx_spec (nn : List Int64) (x : Int64) : ∀ m i, (dfx nn x i m = -1 ∧ ∀ j, i ≤ j → j < i + m → ¬ nn.getD j 0 = x) ∨ ∃ j, i ≤ j ∧ j < i + m ∧ dfx nn x i m = nI j ∧ nn.getD j 0 = x := by
  intro m
  induction m with
  | zero => intro i; exact Or.inl ⟨rfl, fun j h1 h2 => by omega⟩
  | succ m ih =>
    intro i
    by_cases c : nn.getD i 0 = x
    · refine Or.inr ⟨i, Nat.le_refl _, by omega, ?_, c⟩
      show (if nn.getD i 0 = x then nI i else dfx nn x (i + 1) m) = _
      rw [if_pos c]
    · have e : dfx nn x i (m + 1) = dfx nn x (i + 1) m := by
        show (if nn.getD i 0 = x then nI i else dfx nn x (i + 1) m) = _
        rw [if_neg c]
      rw [e]
      rcases ih (i + 1) with ⟨h1, h2⟩ | ⟨j, h1, h2, h3, h4⟩
      · refine Or.inl ⟨h1, fun j a b => ?_⟩
        by_cases y : j = i
        · rw [y]; exact c
        · exact h2 j (by omega) (by omega)
      · exact Or.inr ⟨j, by omega, by omega, h3, h4⟩
/-- one more definition in our rows -/
def defN (g : Nat → List Int32) (pl nd : Int32) : Nat → List Int32 := bUp (bUp (bUp (bUp (bUp g 5 (g 5 ++ [pl])) 6 (g 6 ++ [nd])) 7 (g 7 ++ [0])) 8 (g 8 ++ [0])) 9 (g 9 ++ [0, 0, 0, 0, 0, 0, 0, 0])
section DefEq
variable {T U : List Int32} {n p m N D c x : Nat} {S S2 S3 : xSt} {s : xSt} {z : Bool} {g : Nat → List Int32} {nn : List Int64} {r1 r2 r3 : List Int32} {i2 i3 i4 i5 i6 i7 i8 i9 i10 i11 : Int32} {j0 : Int64} {l0 : List Int64} {z4 : Bool} {t : xSt} {qr2 qr3 qr4 qr5 qr6 qr7 qr8 qr9 qr10 qr11 qr12 qr13 qr14 qr15 qr16 : List Int32} {qi21 qi22 qi23 qi24 qi25 qi26 qi27 qi28 qi29 qi30 : Int32} {qj0 : Int64} {ql0 ql1 ql2 ql3 : List Int64}
theorem m60_go {y : Int64} (hD : (g 6).length = D) (hD64 : D ≤ 64) (hnn : nn.length = 64) : ∀ (m i f : Nat), i + m = D → m < f → (m60t_2 f y (nI i) (rdC s true g nn r1 r2 r3 i2 i3 i4 i5 i6 i7 i8 i9 i10 i11 j0 l0 z4) = some (dfx nn y i m, rdC s true g nn r1 r2 r3 i2 i3 i4 i5 i6 i7 i8 i9 i10 i11 j0 l0 z4)) ∧ (m60f_2 f y (nI i) (rdC s false g nn r1 r2 r3 i2 i3 i4 i5 i6 i7 i8 i9 i10 i11 j0 l0 z4) = some (dfx nn y i m, rdC s false g nn r1 r2 r3 i2 i3 i4 i5 i6 i7 i8 i9 i10 i11 j0 l0 z4)) := by
  intro m
  induction m with
  | zero =>
    intro i f hi hf
    obtain ⟨f, rfl⟩ : ∃ f', f = f' + 1 := ⟨f - 1, by omega⟩
    constructor
    · unfold m60t_2
      rw [rdC_gP, hD, if_pos (by rw [leN (by omega) (by omega)]; omega)]
      rfl
    · unfold m60f_2
      rw [rdC_gP, hD, if_pos (by rw [leN (by omega) (by omega)]; omega)]
      rfl
  | succ m ih =>
    intro i f hi hf
    obtain ⟨f, rfl⟩ : ∃ f', f = f' + 1 := ⟨f - 1, by omega⟩
    obtain ⟨t1, t2⟩ := ih (i + 1) f (by omega) (by omega)
    have e : dfx nn y i (m + 1) = if nn.getD i 0 = y then nI i else dfx nn y (i + 1) m := rfl
    constructor
    · unfold m60t_2
      rw [rdC_gP, rdC_gN, hD, hnn, if_neg (by rw [leN (by omega) (by omega)]; omega), if_neg (by rw [leN (by decide) (by omega)]; omega), xlGet_d (by omega) (by omega), bs, nI_1, t1, e]
      by_cases c : nn.getD i 0 = y
      · rw [if_pos c, if_pos ((lg_cmp_eq _ _).mpr c)]
      · rw [if_neg c, if_neg (fun q => c ((lg_cmp_eq _ _).mp q))]
    · unfold m60f_2
      rw [rdC_gP, rdC_gN, hD, hnn, if_neg (by rw [leN (by omega) (by omega)]; omega), if_neg (by rw [leN (by decide) (by omega)]; omega), xlGet_d (by omega) (by omega), bs, nI_1, t2, e]
      by_cases c : nn.getD i 0 = y
      · rw [if_pos c, if_pos ((lg_cmp_eq _ _).mpr c)]
      · rw [if_neg c, if_neg (fun q => c ((lg_cmp_eq _ _).mp q))]
theorem m60_eq {y : Int64} (hD : (g 6).length = D) (hD64 : D ≤ 64) (hnn : nn.length = 64) : m60 z y (rdC s z g nn r1 r2 r3 i2 i3 i4 i5 i6 i7 i8 i9 i10 i11 j0 l0 z4) = some (dfx nn y 0 D, (rdC s z g nn r1 r2 r3 i2 i3 i4 i5 i6 i7 i8 i9 i10 i11 j0 l0 z4)) := by
  unfold m60
  cases z
  · show m60f y _ = _
    unfold m60f
    exact (m60_go hD hD64 hnn D 0 1000000 (by omega) (by omega)).2
  · show m60t y _ = _
    unfold m60t
    exact (m60_go hD hD64 hnn D 0 1000000 (by omega) (by omega)).1
theorem m61_go : ∀ (m i f : Nat), i + m = 8 → m < f → (g 9).length + m ≤ 512 → (m61t_64 f (nI i) (rdC s true g nn r1 r2 r3 i2 i3 i4 i5 i6 i7 i8 i9 i10 i11 j0 l0 z4) = some (rdC s true (bUp g 9 (g 9 ++ List.replicate m 0)) nn r1 r2 r3 i2 i3 i4 i5 i6 i7 i8 i9 i10 i11 j0 l0 z4)) ∧ (m61f_64 f (nI i) (rdC s false g nn r1 r2 r3 i2 i3 i4 i5 i6 i7 i8 i9 i10 i11 j0 l0 z4) = some (rdC s false (bUp g 9 (g 9 ++ List.replicate m 0)) nn r1 r2 r3 i2 i3 i4 i5 i6 i7 i8 i9 i10 i11 j0 l0 z4)) := by
  intro m
  induction m generalizing g with
  | zero =>
    intro i f hi hf hl
    obtain ⟨f, rfl⟩ : ∃ f', f = f' + 1 := ⟨f - 1, by omega⟩
    have e : bUp g 9 (g 9 ++ List.replicate 0 0) = g := by
      rw [List.replicate_zero, List.append_nil, bUp_id]
    rw [e]
    constructor
    · unfold m61t_64
      rw [if_pos (by rw [geL_8 (by omega)]; omega)]
    · unfold m61f_64
      rw [if_pos (by rw [geL_8 (by omega)]; omega)]
  | succ m ih =>
    intro i f hi hf hl
    obtain ⟨f, rfl⟩ : ∃ f', f = f' + 1 := ⟨f - 1, by omega⟩
    have e9 : bUp g 9 (g 9 ++ [0]) 9 = g 9 ++ [0] := by rw [bUp_if, if_pos rfl]
    have hl9 : (g 9 ++ [(0 : Int32)]).length = (g 9).length + 1 := by rw [List.length_append]; rfl
    obtain ⟨t1, t2⟩ := ih (g := bUp g 9 (g 9 ++ [0])) (i + 1) f (by omega) (by omega) (by rw [e9, hl9]; omega)
    have e : bUp (bUp g 9 (g 9 ++ [0])) 9 (g 9 ++ [0] ++ List.replicate m 0) = bUp g 9 (g 9 ++ List.replicate (m + 1) 0) := by
      rw [bUp_bUp, List.append_assoc]
      rfl
    rw [e9, e] at t1 t2
    constructor
    · unfold m61t_64
      rw [if_neg (by rw [geL_8 (by omega)]; omega), rdC_gP, xsPush_n (by omega), rdC_sP, nI_1, t1]
    · unfold m61f_64
      rw [if_neg (by rw [geL_8 (by omega)]; omega), rdC_gP, xsPush_n (by omega), rdC_sP, nI_1, t2]
theorem defN_eq {a b : Int32} : bUp (bUp (bUp (bUp (bUp g 5 (g 5 ++ [a])) 6 (g 6 ++ [b])) 7 (g 7 ++ [0])) 8 (g 8 ++ [0])) 9 (g 9 ++ List.replicate 8 0) = defN g a b := rfl
theorem m61_eq {y : Int64} {a b : Int32} (h5 : (g 5).length = D) (h6 : (g 6).length = D) (h7 : (g 7).length = D) (h8 : (g 8).length = D) (h9 : (g 9).length = 8 * D) (hD64 : D < 64) (hnn : nn.length = 64) : m61 z y a b (rdC s z g nn r1 r2 r3 i2 i3 i4 i5 i6 i7 i8 i9 i10 i11 j0 l0 z4) = some (rdC s z (defN g a b) (nn.set D y) r1 r2 r3 i2 i3 i4 i5 i6 i7 i8 i9 i10 i11 j0 l0 z4) := by
  unfold m61
  cases z
  · show m61f y a b _ = _
    unfold m61f
    rw [rdC_gP, rdC_gN, h6, hnn, if_pos (by rw [ltN (by omega) (by decide)]; omega), xlPut_n (by omega) (by omega), bs, rdC_sN]
    simp only [rdC_gP, rdC_sP, bUp_if]
    rw [xsPush_n (by omega)]
    rw [xsPush_n (by omega), xsPush_n (by omega), xsPush_n (by omega)]
    have e := (m61_go (s := s) (g := bUp (bUp (bUp (bUp g 5 (g 5 ++ [a])) 6 (g 6 ++ [b])) 7 (g 7 ++ [0])) 8 (g 8 ++ [0])) (nn := nn.set D y) (r1 := r1) (r2 := r2) (r3 := r3) (i2 := i2) (i3 := i3) (i4 := i4) (i5 := i5) (i6 := i6) (i7 := i7) (i8 := i8) (i9 := i9) (i10 := i10) (i11 := i11) (j0 := j0) (l0 := l0) (z4 := z4) 8 0 1000000 (by omega) (by omega) (by simp only [bUp_if, Nat.reduceEqDiff, if_false]; omega)).2
    simp only [bUp_if, Nat.reduceEqDiff, if_false] at e
    exact e
  · show m61t y a b _ = _
    unfold m61t
    rw [rdC_gP, rdC_gN, h6, hnn, if_pos (by rw [ltN (by omega) (by decide)]; omega), xlPut_n (by omega) (by omega), bs, rdC_sN]
    simp only [rdC_gP, rdC_sP, bUp_if]
    rw [xsPush_n (by omega)]
    rw [xsPush_n (by omega), xsPush_n (by omega), xsPush_n (by omega)]
    have e := (m61_go (s := s) (g := bUp (bUp (bUp (bUp g 5 (g 5 ++ [a])) 6 (g 6 ++ [b])) 7 (g 7 ++ [0])) 8 (g 8 ++ [0])) (nn := nn.set D y) (r1 := r1) (r2 := r2) (r3 := r3) (i2 := i2) (i3 := i3) (i4 := i4) (i5 := i5) (i6 := i6) (i7 := i7) (i8 := i8) (i9 := i9) (i10 := i10) (i11 := i11) (j0 := j0) (l0 := l0) (z4 := z4) 8 0 1000000 (by omega) (by omega) (by simp only [bUp_if, Nat.reduceEqDiff, if_false]; omega)).1
    simp only [bUp_if, Nat.reduceEqDiff, if_false] at e
    exact e
end DefEq
