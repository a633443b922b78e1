/-! parameters: equations -/
def tw (l : List Int64) (x : Int64) : Nat → Nat → Bool
  | _, 0 => false
  | s, m + 1 => decide (l.getD s 0 = x) || tw l x (s + 1) m
theorem tw_iff (l : List Int64) (x : Int64) : ∀ m s, tw l x s m = true ↔ ∃ i, i < m ∧ l.getD (s + i) 0 = x := by
  intro m
  induction m with
  | zero => intro s; exact ⟨(fun h => by cases h), fun ⟨i, h, _⟩ => by omega⟩
  | succ m ih =>
    intro s
    have e : tw l x s (m + 1) = (decide (l.getD s 0 = x) || tw l x (s + 1) m) := rfl
    rw [e, Bool.or_eq_true, decide_eq_true_eq, ih (s + 1)]
    constructor
    · rintro (h | ⟨i, h1, h2⟩)
      · exact ⟨0, by omega, h⟩
      · exact ⟨i + 1, by omega, by rw [show s + (i + 1) = s + 1 + i by omega]; exact h2⟩
    · rintro ⟨i, h1, h2⟩
      by_cases c : i = 0
      · subst c
        exact Or.inl h2
      · exact Or.inr ⟨i - 1, by omega, by rw [show s + 1 + (i - 1) = s + i by omega]; exact h2⟩
theorem lix_none {l : List Int64} {y : Int64} : ∀ m, m < 1000 → ((lix l y m = -1) ↔ ∀ i, i < m → ¬ l.getD i 0 = y) := by
  intro m
  induction m with
  | zero => intro _; exact ⟨fun _ i hi => by omega, fun _ => rfl⟩
  | succ m ih =>
    intro hm
    have e : lix l y (m + 1) = if l.getD m 0 = y then nI m else lix l y m := rfl
    rw [e]
    by_cases c : l.getD m 0 = y
    · rw [if_pos c]
      exact ⟨fun h => absurd h (by rw [nI_ne1 (by omega)]; exact not_false), fun h => absurd c (h m (by omega))⟩
    · rw [if_neg c, ih (by omega)]
      constructor
      · intro h i hi
        by_cases ci : i = m
        · rw [ci]; exact c
        · exact h i (by omega)
      · intro h i hi
        exact h i (by omega)
section DPar0
variable {T U : List Int32} {n p N D F x y d K : Nat} {o : Bool} {s : xSt} {z : Bool} {g : Nat → List Int32} {nn : List Int64} {r1 r2 r3 : List Int32} {i2 i3 i4 i5 i6 i7 i8 i9 i10 i11 : Int32} {j0 : Int64} {l0 : List Int64} {z4 : Bool} {t : xSt} {qr2 qr3 qr4 qr5 qr6 qr7 qr8 qr9 qr10 qr11 qr12 qr13 qr14 qr15 qr16 : List Int32} {qi21 qi22 qi23 qi24 qi25 qi26 qi27 qi28 qi29 qi30 : Int32} {qj0 : Int64} {ql0 ql1 ql2 ql3 : List Int64}
theorem m165_29_eq (hD : D < 64) (a4 : qr4.length = 64) (b1 : ql1.length = 512) (hK : qr4.getD D 0 = nI K) (hK8 : K ≤ 8) (ho : m160 (rdR t qr2 qr3 qr4 qr5 qr6 qr7 qr8 qr9 qr10 qr11 qr12 qr13 qr14 qr15 qr16 0 qi22 qi23 qi24 qi25 qi26 qi27 qi28 qi29 qi30 qj0 ql0 ql1 ql2 ql3) = some (o, (rdR t qr2 qr3 qr4 qr5 qr6 qr7 qr8 qr9 qr10 qr11 qr12 qr13 qr14 qr15 qr16 0 qi22 qi23 qi24 qi25 qi26 qi27 qi28 qi29 qi30 qj0 ql0 ql1 ql2 ql3))) : ∀ (m i f : Nat) (b : Bool), i + m = K → m < f → m165_29 f (nI D) b (nI i) (rdR t qr2 qr3 qr4 qr5 qr6 qr7 qr8 qr9 qr10 qr11 qr12 qr13 qr14 qr15 qr16 0 qi22 qi23 qi24 qi25 qi26 qi27 qi28 qi29 qi30 qj0 ql0 ql1 ql2 ql3) = m165_98 (nI D) (o && !(b || tw ql1 qj0 (8 * D + i) m)) (rdR t qr2 qr3 qr4 qr5 qr6 qr7 qr8 qr9 qr10 qr11 qr12 qr13 qr14 qr15 qr16 0 qi22 qi23 qi24 qi25 qi26 qi27 qi28 qi29 qi30 qj0 ql0 ql1 ql2 ql3) := by
  intro m
  induction m with
  | zero =>
    intro i f b hi hff
    obtain ⟨f, rfl⟩ : ∃ f', f = f' + 1 := ⟨f - 1, by omega⟩
    unfold m165_29 m165_93 m165_97
    rw [rdR_r4, xsGet_d (by omega) (by omega), bs, hK, if_pos (by rw [leN (by omega) (by omega)]; omega), rdR_i21, if_neg (by decide), ho, bs]
    show _ = m165_98 (nI D) (o && !(b || false)) _
    cases o <;> cases b <;> rfl
  | succ m ih =>
    intro i f b hi hff
    obtain ⟨f, rfl⟩ : ∃ f', f = f' + 1 := ⟨f - 1, by omega⟩
    unfold m165_29
    rw [rdR_r4, xsGet_d (by omega) (by omega), bs, hK, if_neg (by rw [leN (by omega) (by omega)]; omega), nI_1]
    have e : tw ql1 qj0 (8 * D + i) (m + 1) = (decide (ql1.getD (8 * D + i) 0 = qj0) || tw ql1 qj0 (8 * D + (i + 1)) m) := rfl
    rw [e]
    cases b
    · rw [if_neg ff, rdR_l1, rdR_j0, nI_8x, xlGet_d (by omega) (by omega), bs]
      by_cases c : ql1.getD (8 * D + i) 0 = qj0
      · rw [if_pos ((lg_cmp_eq _ _).mpr c), decide_eq_true c, ih (i + 1) f true (by omega) (by omega)]
        rfl
      · rw [if_neg (fun q => c ((lg_cmp_eq _ _).mp q)), decide_eq_false c, ih (i + 1) f false (by omega) (by omega)]
        rfl
    · rw [if_pos rfl, ih (i + 1) f true (by omega) (by omega)]
      rfl
theorem m165_29_0 (hD : D < 64) (a4 : qr4.length = 64) (b1 : ql1.length = 512) (hK : qr4.getD D 0 = nI K) (hK8 : K ≤ 8) (ho : m160 (rdR t qr2 qr3 qr4 qr5 qr6 qr7 qr8 qr9 qr10 qr11 qr12 qr13 qr14 qr15 qr16 0 qi22 qi23 qi24 qi25 qi26 qi27 qi28 qi29 qi30 qj0 ql0 ql1 ql2 ql3) = some (o, (rdR t qr2 qr3 qr4 qr5 qr6 qr7 qr8 qr9 qr10 qr11 qr12 qr13 qr14 qr15 qr16 0 qi22 qi23 qi24 qi25 qi26 qi27 qi28 qi29 qi30 qj0 ql0 ql1 ql2 ql3))) : m165_29 1000000 (nI D) false 0 (rdR t qr2 qr3 qr4 qr5 qr6 qr7 qr8 qr9 qr10 qr11 qr12 qr13 qr14 qr15 qr16 0 qi22 qi23 qi24 qi25 qi26 qi27 qi28 qi29 qi30 qj0 ql0 ql1 ql2 ql3) = m165_98 (nI D) (o && !(false || tw ql1 qj0 (8 * D) K)) (rdR t qr2 qr3 qr4 qr5 qr6 qr7 qr8 qr9 qr10 qr11 qr12 qr13 qr14 qr15 qr16 0 qi22 qi23 qi24 qi25 qi26 qi27 qi28 qi29 qi30 qj0 ql0 ql1 ql2 ql3) := m165_29_eq hD a4 b1 hK hK8 ho K 0 1000000 false (by omega) (by omega)
theorem m157_120_eq (hD : D < 64) (b0 : ql0.length = 64) (ho : m160 (rdR t qr2 qr3 qr4 qr5 qr6 qr7 qr8 qr9 qr10 qr11 qr12 qr13 qr14 qr15 qr16 0 qi22 qi23 qi24 qi25 qi26 qi27 qi28 qi29 qi30 qj0 ql0 ql1 ql2 ql3) = some (o, (rdR t qr2 qr3 qr4 qr5 qr6 qr7 qr8 qr9 qr10 qr11 qr12 qr13 qr14 qr15 qr16 0 qi22 qi23 qi24 qi25 qi26 qi27 qi28 qi29 qi30 qj0 ql0 ql1 ql2 ql3))) : ∀ (m i f : Nat) (b : Bool), i + m = D → m < f → m157_120 f (nI D) b (nI i) (rdR t qr2 qr3 qr4 qr5 qr6 qr7 qr8 qr9 qr10 qr11 qr12 qr13 qr14 qr15 qr16 0 qi22 qi23 qi24 qi25 qi26 qi27 qi28 qi29 qi30 qj0 ql0 ql1 ql2 ql3) = m157_179 (nI D) (o && !(b || tw ql0 qj0 i m)) (rdR t qr2 qr3 qr4 qr5 qr6 qr7 qr8 qr9 qr10 qr11 qr12 qr13 qr14 qr15 qr16 0 qi22 qi23 qi24 qi25 qi26 qi27 qi28 qi29 qi30 qj0 ql0 ql1 ql2 ql3) := by
  intro m
  induction m with
  | zero =>
    intro i f b hi hff
    obtain ⟨f, rfl⟩ : ∃ f', f = f' + 1 := ⟨f - 1, by omega⟩
    unfold m157_120 m157_174 m157_178
    rw [if_pos (by rw [leN (by omega) (by omega)]; omega), rdR_i21, if_neg (by decide), ho, bs]
    show _ = m157_179 (nI D) (o && !(b || false)) _
    cases o <;> cases b <;> rfl
  | succ m ih =>
    intro i f b hi hff
    obtain ⟨f, rfl⟩ : ∃ f', f = f' + 1 := ⟨f - 1, by omega⟩
    unfold m157_120
    rw [if_neg (by rw [leN (by omega) (by omega)]; omega), nI_1]
    have e : tw ql0 qj0 i (m + 1) = (decide (ql0.getD i 0 = qj0) || tw ql0 qj0 (i + 1) m) := rfl
    rw [e]
    cases b
    · rw [if_neg ff, rdR_l0, rdR_j0, xlGet_d (by omega) (by omega), bs]
      by_cases c : ql0.getD i 0 = qj0
      · rw [if_pos ((lg_cmp_eq _ _).mpr c), decide_eq_true c, ih (i + 1) f true (by omega) (by omega)]
        rfl
      · rw [if_neg (fun q => c ((lg_cmp_eq _ _).mp q)), decide_eq_false c, ih (i + 1) f false (by omega) (by omega)]
        rfl
    · rw [if_pos rfl, ih (i + 1) f true (by omega) (by omega)]
      rfl
theorem m83_81 {u : Int32} : m83 81 (rdC s z g nn r1 [u] r3 i2 i3 i4 i5 i6 i7 i8 i9 i10 i11 j0 l0 z4) = (m84 (decide (i5 = 3)) (rdC s z g nn r1 [u] r3 i2 i3 i4 i5 i6 i7 i8 i9 i10 i11 j0 l0 z4)).bind fun q => some (sR q.2 2 (xsSetTop (gR q.2 2) 2)) := by
  rw [m83_o (by decide) (by decide) (by decide) (by decide) (by decide) (by decide) (by decide) (by decide)]
  unfold m93 m93_132
  rw [if_neg (by decide), if_neg (by decide), if_neg (by decide), if_pos rfl, rdC_i5]
  have e : ∀ q : Bool × xSt, ((m79 22 q.2).bind fun q10 => (xtIdx q10.1 80).bind fun v11 => some (sR q10.2 2 (xsSetTop (gR q10.2 2) v11))) = some (sR q.2 2 (xsSetTop (gR q.2 2) 2)) := fun q => by
    rw [show (22 : Int32) = nI 22 from rfl, m79_eq (by decide), bs]
    rfl
  by_cases c : i5 = 3
  · rw [if_pos c, decide_eq_true c, m84_t, bs, bs, e]
  · rw [if_neg c, decide_eq_false c]
    congr 1
theorem m83_80 {K : Nat} {u : Int32} (hK : K ≤ 8) : m83 80 (rdC s z g nn r1 [u] r3 i2 i3 i4 i5 i6 i7 i8 i9 i10 (nI K) j0 l0 z4) = if i5 = 3 then some (rdC s z g nn r1 [6] r3 i2 i3 i4 i5 i6 i7 i8 i9 i10 (nI K) j0 l0 z4) else (m84 (decide (i5 = 2 ∧ K < 8)) (rdC s z g nn r1 [u] r3 i2 i3 i4 i5 i6 i7 i8 i9 i10 (nI K) j0 l0 z4)).bind fun q => some q.2 := by
  rw [m83_o (by decide) (by decide) (by decide) (by decide) (by decide) (by decide) (by decide) (by decide)]
  unfold m93
  rw [if_neg (by decide), if_neg (by decide), if_pos rfl]
  refine (bind_id _).trans ?_
  unfold m96 m96_56 m96_57
  rw [rdC_i5, rdC_i11]
  by_cases c3 : i5 = 3
  · rw [if_pos c3, if_pos c3, show (22 : Int32) = nI 22 from rfl, m79_eq (by decide), bs, rdC_r2]
    show (some (6 : Int32)).bind _ = _
    rw [bs, setTop_n (xs := [u]) (m := 0) rfl (by decide)]
    show some (sR (rdC s z g nn r1 [u] r3 i2 i3 i4 i5 i6 i7 i8 i9 i10 (nI K) j0 l0 z4) 2 [6]) = _
    rw [rdC_sr2]
  · rw [if_neg c3, if_neg c3]
    by_cases c2 : i5 = 2
    · rw [if_pos c2]
      by_cases c8 : 8 ≤ K
      · rw [if_pos (by rw [geL_8 (by omega)]; exact c8), decide_eq_false (by omega)]
      · rw [if_neg (by rw [geL_8 (by omega)]; exact c8), decide_eq_true ⟨c2, by omega⟩]
    · rw [if_neg c2, decide_eq_false (fun q => c2 q.1)]
theorem m83_89 {c K : Nat} (hz : gZ s 3 = z) (hc : c ≤ 23) (h6 : (g 6).length = D + 1) (h8 : (g 8).length = D + 1) (hK : (g 8).getD D 0 = nI K) (hD : D < 64) (hK8 : K < 8) : m83 89 (rdC s z g nn r1 r2 r3 i2 i3 i4 i5 i6 i7 (nI c) i9 i10 i11 j0 l0 z4) = (m84 (decide (c = 20 ∨ c = 21 ∨ c = 14 ∨ c = 15)) (rdC s z g nn r1 r2 r3 i2 i3 i4 i5 i6 i7 (nI c) i9 i10 i11 j0 l0 z4)).bind fun q => if q.1 = true then some (rdC s z (bUp (bUp g 9 ((g 9).set (8 * D + K) (nI c))) 8 ((g 8).set D (nI (K + 1)))) nn r1 r2 r3 i2 i3 i4 i5 i6 i7 (nI c) i9 i10 i11 j0 l0 z4) else some q.2 := by
  rw [m83_o (by decide) (by decide) (by decide) (by decide) (by decide) (by decide) (by decide) (by decide)]
  unfold m93
  rw [if_neg (by decide), if_neg (by decide), if_neg (by decide), if_neg (by decide), if_neg (by decide), if_pos rfl, rdC_i8, m21_eq hc, bs]
  cases hq : decide (c = 20 ∨ c = 21 ∨ c = 14 ∨ c = 15)
  · rw [show m84 (false, rdC s z g nn r1 r2 r3 i2 i3 i4 i5 i6 i7 (nI c) i9 i10 i11 j0 l0 z4).1 _ = m84 false (rdC s z g nn r1 r2 r3 i2 i3 i4 i5 i6 i7 (nI c) i9 i10 i11 j0 l0 z4) from rfl]
    unfold m84 m14
    rw [if_neg ff]
    cases hg : decide (gI (rdC s z g nn r1 r2 r3 i2 i3 i4 i5 i6 i7 (nI c) i9 i10 i11 j0 l0 z4) 2 = 0) <;> simp_all
  · rw [m84_t, bs, bs, if_pos rfl, if_pos rfl]
    simp only [rdC_oz3, hz, rdC_gP, rdC_sP, rdC_i8, h6, nI_pred, top_n h8 (by omega : D < 2 ^ 30), hK, nI_1, bUp_if]
    rw [show nI D * 8 + nI K = nI (8 * D + K) by rw [Int32.mul_comm]; exact nI_8x D K, xsSet_n (by omega)]
    rw [setTop_n h8 (by omega)]
end DPar0
