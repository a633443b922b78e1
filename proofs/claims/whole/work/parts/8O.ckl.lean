/-! our checker: the type of a node, the due type, what is bound -/
section CkL
variable {T : List Int32} {σ : Nat → Nd} {δ : Nat → Dd} {N K M k d f D o i p e c r : Nat} {s : xSt} {z : Bool} {g : Nat → List Int32} {nn : List Int64} {r4 r5 r6 r7 : List Int32} {i2 i3 : Int32} {S : xSt}
theorem m110_eq {x : Int32} (h7 : r7.length = 24) (hi : i < 24) (hv : r7.getD i 0 = x) : m110 (nI i) (ckC s z g nn r4 r5 r6 r7 i2 i3) = some (x, (ckC s z g nn r4 r5 r6 r7 i2 i3)) := by
  unfold m110
  rw [if_neg (nI_pos (by omega)), ckC_r7, h7, if_neg (by rw [leN (by decide) (by omega)]; omega), xsGet_d (by omega) (by omega), bs, hv]
/-- which way the type goes -/
def twy (r : Nat) : Nat := if lastk r = true then 0 else if r = 2 ∨ r = 13 then 1 else if kc r = true then 2 else if r = 16 ∨ r = 17 then 3 else if r = 1 then 4 else 5
theorem twy_tbl : ∀ r, r < 24 → (decide (ck r = 8 ∨ ck r = 9 ∨ ck r = 10 ∨ ck r = 16 ∨ ck r = 17) = decide (twy r = 0)) ∧ (decide (ck r = 11 ∨ ck r = 19) = decide (twy r = 1)) ∧ (decide (ck r = 12 ∨ ck r = 13 ∨ ck r = 18) = decide (twy r = 2)) ∧ (decide (ck r = 14 ∨ ck r = 15) = decide (twy r = 3)) ∧ (decide (ck r = 25) = decide (twy r = 4)) ∧ ck r < 100 ∧ twy r ≤ 5 := by decide +kernel
theorem tyo_tbl : ∀ r, r < 24 → (twy r = 0 → lastk r = true ∧ (r = 1 ∨ r = 0 ∨ (3 ≤ r ∧ r ≤ 9) ∨ r = 2 ∨ r = 13 ∨ kc r = true ∨ r = 16 ∨ r = 17) = False) ∧ (twy r = 1 → (r = 2 ∨ r = 13)) ∧ (twy r = 2 → kc r = true) ∧ (twy r = 3 → (r = 16 ∧ ck r = 14 ∨ r = 17 ∧ ck r = 15)) ∧ (twy r = 4 → r = 1) ∧ (twy r = 5 → (r = 0 ∨ (3 ≤ r ∧ r ≤ 9))) := by
  intro r hr
  have hcc : r = 0 ∨ r = 1 ∨ r = 2 ∨ r = 3 ∨ r = 4 ∨ r = 5 ∨ r = 6 ∨ r = 7 ∨ r = 8 ∨ r = 9 ∨ r = 10 ∨ r = 11 ∨ r = 12 ∨ r = 13 ∨ r = 14 ∨ r = 15 ∨ r = 16 ∨ r = 17 ∨ r = 18 ∨ r = 19 ∨ r = 20 ∨ r = 21 ∨ r = 22 ∨ r = 23 := by omega
  rcases hcc with rfl | rfl | rfl | rfl | rfl | rfl | rfl | rfl | rfl | rfl | rfl | rfl | rfl | rfl | rfl | rfl | rfl | rfl | rfl | rfl | rfl | rfl | rfl | rfl <;> (refine ⟨?_, ?_, ?_, ?_, ?_, ?_⟩ <;> first | decide | (intro h; exact absurd h (by decide)) | (intro _; refine ⟨by decide, eq_false (by decide)⟩))
theorem tyo_0 {v pt l : Nat} (h : (r = 1 ∨ r = 0 ∨ (3 ≤ r ∧ r ≤ 9) ∨ r = 2 ∨ r = 13 ∨ kc r = true ∨ r = 16 ∨ r = 17) = False) : tyo r v pt l = l := by
  have h' := of_eq_false h
  unfold tyo
  rw [if_neg (fun q => h' (Or.inl q)), if_neg (fun q => h' (by rcases q with q | q; exact Or.inr (Or.inl q); exact Or.inr (Or.inr (Or.inl q)))), if_neg (fun q => h' (by rcases q with q | q; exact Or.inr (Or.inr (Or.inr (Or.inl q))); exact Or.inr (Or.inr (Or.inr (Or.inr (Or.inl q)))))), if_neg (fun q => h' (Or.inr (Or.inr (Or.inr (Or.inr (Or.inr (Or.inl q))))))), if_neg (fun q => h' (Or.inr (Or.inr (Or.inr (Or.inr (Or.inr (Or.inr (Or.inl q)))))))), if_neg (fun q => h' (Or.inr (Or.inr (Or.inr (Or.inr (Or.inr (Or.inr (Or.inr q))))))))]
theorem m109_eq {v' pt l : Nat} {v : Int32} (hz : gZ s 5 = z) (hc : c < 2 ^ 30) (hr : r ≤ 23) (hk : (g 0).getD c 0 = nI (ck r)) (h7 : r7.length = 24) (hv : r = 1 → ∃ i, (g 2).getD c 0 = nI i ∧ i < 24 ∧ r7.getD i 0 = nI (tc v')) (hcl : kc r = true → ∃ e, (g 2).getD c 0 = nI e ∧ e < 64 ∧ (g 7).getD e 0 = nI (tc pt)) (hl : lastk r = true → v = nI (tc l)) : m109 (nI c) v (ckC s z g nn r4 r5 r6 r7 i2 i3) = some (nI (tc (tyo r v' pt l)), (ckC s z g nn r4 r5 r6 r7 i2 i3)) := by
  obtain ⟨a0, a1, a2, a3, a4, a5, a6⟩ := twy_tbl r (by omega)
  obtain ⟨b0, b1, b2, b3, b4, b5⟩ := tyo_tbl r (by omega)
  have e0 : (nI (ck r) = 8 ∨ nI (ck r) = 9 ∨ nI (ck r) = 10 ∨ nI (ck r) = 16 ∨ nI (ck r) = 17) = (twy r = 0) := by
    rw [eqL_8 (by omega), eqL_9 (by omega), eqL_10 (by omega), eqL_16 (by omega), eqL_17 (by omega)]
    exact propext (decide_eq_decide.mp a0)
  have e1 : (nI (ck r) = 11 ∨ nI (ck r) = 19) = (twy r = 1) := by
    rw [eqL_11 (by omega), eqL_19 (by omega)]
    exact propext (decide_eq_decide.mp a1)
  have e2 : (nI (ck r) = 12 ∨ nI (ck r) = 13 ∨ nI (ck r) = 18) = (twy r = 2) := by
    rw [eqL_12 (by omega), eqL_13 (by omega), eqL_18 (by omega)]
    exact propext (decide_eq_decide.mp a2)
  have e3 : (nI (ck r) = 14 ∨ nI (ck r) = 15) = (twy r = 3) := by
    rw [eqL_14 (by omega), eqL_15 (by omega)]
    exact propext (decide_eq_decide.mp a3)
  have e4 : (nI (ck r) = 25) = (twy r = 4) := by
    rw [eqL_25 (by omega)]
    exact propext (decide_eq_decide.mp a4)
  unfold m109
  rw [ckAt (j := 0) hz hc, ckAt (j := 2) hz hc, hk]
  simp only [e0, e1, e2, e3, e4]
  by_cases c0 : twy r = 0
  · rw [if_pos c0, tyo_0 (b0 c0).2, hl (b0 c0).1]
  rw [if_neg c0]
  by_cases c1 : twy r = 1
  · rw [if_pos c1]
    rcases b1 c1 with rfl | rfl <;> rfl
  rw [if_neg c1]
  by_cases c2 : twy r = 2
  · obtain ⟨e, g1, g2, g3⟩ := hcl (b2 c2)
    rw [if_pos c2, g1, ckAt (j := 7) hz (by omega), g3]
    have hkc := b2 c2
    unfold kc at hkc
    rw [Bool.or_eq_true, Bool.or_eq_true, beq_iff_eq, beq_iff_eq, beq_iff_eq] at hkc
    rcases hkc with (rfl | rfl) | rfl <;> rfl
  rw [if_neg c2]
  by_cases c3 : twy r = 3
  · rw [if_pos c3]
    rcases b3 c3 with ⟨rfl, q⟩ | ⟨rfl, q⟩ <;> rfl
  rw [if_neg c3]
  by_cases c4 : twy r = 4
  · obtain ⟨i, g1, g2, g3⟩ := hv (b4 c4)
    rw [if_pos c4, g1, m110_eq h7 g2 g3, bs]
    have q := b4 c4
    subst q
    rfl
  rw [if_neg c4]
  rcases b5 (by omega) with rfl | ⟨q1, q2⟩
  · rfl
  · have h9 : r = 3 ∨ r = 4 ∨ r = 5 ∨ r = 6 ∨ r = 7 ∨ r = 8 ∨ r = 9 := by omega
    rcases h9 with rfl | rfl | rfl | rfl | rfl | rfl | rfl <;> rfl
theorem tc_14 : ∀ y, y < 4 → (tc y = 14 ↔ y = 2) ∧ (tc y = 20 ↔ y = 0) ∧ tc y < 100 ∧ ¬ tc y = 0 := by decide +kernel
theorem m112_eq {l : Nat} (hi : i < 10000) (hl : 1 < i → xsTop r6 = nI (tc l)) : m112 (nI i) (ckC s z g nn r4 r5 r6 r7 i2 i3) = some (nI (if i ≤ 1 then 0 else tc l), (ckC s z g nn r4 r5 r6 r7 i2 i3)) := by
  unfold m112
  simp (disch := omega) only [leL_1]
  by_cases q : i ≤ 1
  · rw [if_pos q, if_pos q]
    rfl
  · rw [if_neg q, if_neg q, ckC_r6, hl (by omega)]
theorem cls_tbl : ∀ r, r < 24 → r < 3 ∨ (kc r = true ∧ (ck r = 12 ∨ ck r = 13 ∨ ck r = 18)) ∨ (kc r = false ∧ (r = 10 ∨ r = 20) ∧ ck r = 8) ∨ (kc r = false ∧ ¬ (r = 10 ∨ r = 20) ∧ kl r = true ∧ ck r = 9) ∨ (kc r = false ∧ ¬ (r = 10 ∨ r = 20) ∧ kl r = false ∧ kz r = true ∧ ck r = 10) ∨ (kc r = false ∧ ¬ (r = 10 ∨ r = 20) ∧ kl r = false ∧ kz r = false ∧ ((r = 13 ∧ ck r = 11) ∨ (r = 17 ∧ ck r = 15) ∨ (r = 18 ∧ ck r = 16) ∨ (r = 19 ∧ ck r = 17) ∨ ((r ≤ 9 ∨ r = 16) ∧ (ck r ≤ 7 ∨ ck r = 14)))) := by
  intro r hr
  have hcc : r = 0 ∨ r = 1 ∨ r = 2 ∨ r = 3 ∨ r = 4 ∨ r = 5 ∨ r = 6 ∨ r = 7 ∨ r = 8 ∨ r = 9 ∨ r = 10 ∨ r = 11 ∨ r = 12 ∨ r = 13 ∨ r = 14 ∨ r = 15 ∨ r = 16 ∨ r = 17 ∨ r = 18 ∨ r = 19 ∨ r = 20 ∨ r = 21 ∨ r = 22 ∨ r = 23 := by omega
  rcases hcc with rfl | rfl | rfl | rfl | rfl | rfl | rfl | rfl | rfl | rfl | rfl | rfl | rfl | rfl | rfl | rfl | rfl | rfl | rfl | rfl | rfl | rfl | rfl | rfl <;> simp [kc, kl, kz, ck]
/-- the type that is due -/
theorem m111_eq {y pt l : Nat} (hz : gZ s 5 = z) (hc : c < 2 ^ 30) (hr : r ≤ 23) (h3 : 3 ≤ r) (hk : (g 0).getD c 0 = nI (ck r)) (hi : i < 8000) (hy : y < 4) (hcl : kc r = true → ∃ e, (g 2).getD c 0 = nI e ∧ e < 64 ∧ (g 9).getD (8 * e + i) 0 = nI (tc pt)) (hl : 1 < i → (r = 10 ∨ r = 20 ∨ kz r = true) → xsTop r6 = nI (tc l)) : m111 (nI c) (nI i) (nI (tc y)) (ckC s z g nn r4 r5 r6 r7 i2 i3) = some (nI (due r i y pt l), (ckC s z g nn r4 r5 r6 r7 i2 i3)) := by
  obtain ⟨y1, y2, y3, y4⟩ := tc_14 y hy
  have ei : (nI i = 0) = (i = 0) := eqL_0 (by omega)
  have h12 : (r = 10 ∨ r = 20 ∨ kz r = true) → m112 (nI i) (ckC s z g nn r4 r5 r6 r7 i2 i3) = some (nI (if i ≤ 1 then 0 else tc l), (ckC s z g nn r4 r5 r6 r7 i2 i3)) := fun q => m112_eq (by omega) (fun q1 => hl q1 q)
  have hcall : kc r = true → ((xsAt (gP (ckC s z g nn r4 r5 r6 r7 i2 i3) (gZ (ckC s z g nn r4 r5 r6 r7 i2 i3) 5) 9) (((g 2).getD c 0 * 8) + nI i)) : Int32) = nI (tc pt) := fun q => by
    obtain ⟨e, g1, g2, g3⟩ := hcl q
    rw [g1, show nI e * 8 + nI i = nI (8 * e + i) by rw [Int32.mul_comm]; exact nI_8x e i, ckAt (j := 9) hz (by omega), g3]
  have hcls := cls_tbl r (by omega)
  have hck : ck r < 100 := (ck_tbl r (by omega)).2.2.2.1 |> fun q => by omega
  have fk : ∀ b : Bool, b = false → ¬ b = true := fun b q => by rw [q]; exact ff
  unfold m111
  rw [ckAt (j := 0) hz hc, ckAt (j := 2) hz hc, hk]
  have f8 : (nI (ck r) = 8) = (ck r = 8) := eqL_8 (by omega)
  have f9 : (nI (ck r) = 9) = (ck r = 9) := eqL_9 (by omega)
  have f10 : (nI (ck r) = 10) = (ck r = 10) := eqL_10 (by omega)
  have f11 : (nI (ck r) = 11) = (ck r = 11) := eqL_11 (by omega)
  have f12 : (nI (ck r) = 12) = (ck r = 12) := eqL_12 (by omega)
  have f13 : (nI (ck r) = 13) = (ck r = 13) := eqL_13 (by omega)
  have f15 : (nI (ck r) = 15) = (ck r = 15) := eqL_15 (by omega)
  have f16 : (nI (ck r) = 16) = (ck r = 16) := eqL_16 (by omega)
  have f17 : (nI (ck r) = 17) = (ck r = 17) := eqL_17 (by omega)
  have f18 : (nI (ck r) = 18) = (ck r = 18) := eqL_18 (by omega)
  have f22 : (nI (ck r) = 22) = (ck r = 22) := eqL_22 (by omega)
  have f23 : (nI (ck r) = 23) = (ck r = 23) := eqL_23 (by omega)
  have fy : (nI (tc y) = 14) = (tc y = 14) := eqL_14 (by omega)
  have fz : (nI (tc y) = 20) = (tc y = 20) := eqL_20 (by omega)
  have fi : (nI i ≤ 0) = (i ≤ 0) := leL_0 (by omega)
  simp only [f8, f9, f10, f11, f12, f13, f15, f16, f17, f18, f22, f23, ei, fi, fy, fz]
  rcases hcls with a1 | ⟨a1, a2⟩ | ⟨a1, a2, a3⟩ | ⟨a1, a2, a3, a4⟩ | ⟨a1, a2, a3, a4, a5⟩ | ⟨a1, a2, a3, a4, a5⟩
  · omega
  · rw [if_neg (by omega), if_neg (by omega), if_neg (by omega), if_neg (by omega), if_pos a2, hcall a1]
    unfold due
    rw [if_pos a1]
  · rw [if_pos a3, h12 (by rcases a2 with q | q; exact Or.inl q; exact Or.inr (Or.inl q)), bs]
    unfold due
    rw [if_neg (fk _ a1), if_pos a2]
    by_cases q : i = 0
    · rw [if_pos q, if_pos q]
      try rfl
    · rw [if_neg q, if_neg q]
  · rw [if_neg (by omega), if_pos a4]
    unfold due
    rw [if_neg (fk _ a1), if_neg a2, if_pos a3]
    try rfl
  · rw [if_neg (by omega), if_neg (by omega), if_pos a5, h12 (Or.inr (Or.inr a4)), bs]
    unfold due
    rw [if_neg (fk _ a1), if_neg a2, if_neg (fk _ a3), if_pos a4]
    by_cases q : i = 0
    · rw [if_pos q, if_pos q]
      try rfl
    · rw [if_neg q, if_neg q]
  · have hd0 : due r i y pt l = if r = 13 then (if i = 0 then 20 else 15) else if r = 17 then 21 else if r = 18 then (if i = 0 then (if y = 2 then 14 else 15) else 0) else if r = 19 then (if y = 0 then 20 else 21) else 20 := by
      unfold due
      rw [if_neg (fk _ a1), if_neg a2, if_neg (fk _ a3), if_neg (fk _ a4)]
    rcases a5 with ⟨b1, b2⟩ | ⟨b1, b2⟩ | ⟨b1, b2⟩ | ⟨b1, b2⟩ | ⟨b1, b2⟩
    · rw [if_pos b1] at hd0
      rw [hd0, if_neg (by omega), if_neg (by omega), if_neg (by omega), if_pos b2]
      by_cases q : i = 0
      · rw [if_pos q, if_pos q]
        try rfl
      · rw [if_neg q, if_neg q]
        try rfl
    · rw [if_neg (by omega), if_pos b1] at hd0
      rw [hd0, if_neg (by omega), if_neg (by omega), if_neg (by omega), if_neg (by omega), if_neg (by omega), if_pos b2]
      try rfl
    · rw [if_neg (by omega), if_neg (by omega), if_pos b1] at hd0
      rw [hd0, if_neg (by omega), if_neg (by omega), if_neg (by omega), if_neg (by omega), if_neg (by omega), if_neg (by omega), if_pos b2]
      by_cases q : i = 0
      · rw [if_pos (show i ≤ 0 by omega), if_pos q]
        by_cases q2 : y = 2
        · rw [if_pos (y1.mpr q2), if_pos q2]
          try rfl
        · rw [if_neg (fun q3 => q2 (y1.mp q3)), if_neg q2]
          try rfl
      · rw [if_neg (show ¬ i ≤ 0 by omega), if_neg q]
        try rfl
    · rw [if_neg (by omega), if_neg (by omega), if_neg (by omega), if_pos b1] at hd0
      rw [hd0, if_neg (by omega), if_neg (by omega), if_neg (by omega), if_neg (by omega), if_neg (by omega), if_neg (by omega), if_neg (by omega), if_pos b2]
      by_cases q2 : y = 0
      · rw [if_pos (y2.mpr q2), if_pos q2]
        try rfl
      · rw [if_neg (fun q3 => q2 (y2.mp q3)), if_neg q2]
        try rfl
    · rw [if_neg (by omega), if_neg (by omega), if_neg (by omega), if_neg (by omega)] at hd0
      rw [hd0, if_neg (by omega), if_neg (by omega), if_neg (by omega), if_neg (by omega), if_neg (by omega), if_neg (by omega), if_neg (by omega), if_neg (by omega), if_neg (by omega)]
      try rfl
theorem m111_def {y x : Int32} {b : Bool} (hz : gZ s 5 = z) (hc : c < 2 ^ 30) (hd : d < 64) (hk : (g 0).getD c 0 = nI (if b = true then 23 else 22)) (h2 : (g 2).getD c 0 = nI d) : m111 (nI c) x y (ckC s z g nn r4 r5 r6 r7 i2 i3) = some ((g 7).getD d 0, (ckC s z g nn r4 r5 r6 r7 i2 i3)) := by
  unfold m111
  rw [ckAt (j := 0) hz hc, ckAt (j := 2) hz hc, hk, h2, ckAt (j := 7) hz (by omega)]
  cases b <;> rw [if_neg (by decide), if_neg (by decide), if_neg (by decide), if_neg (by decide), if_neg (by decide), if_neg (by decide), if_neg (by decide), if_neg (by decide), if_pos (by decide)]
/-- what a part binds for those behind it -/
theorem m113_eq {y m : Nat} (hz : gZ s 5 = z) (hc : c < 2 ^ 30) (hr : r ≤ 23) (h3 : 3 ≤ r) (hk : (g 0).getD c 0 = nI (ck r)) (hd : (g 3).getD c 0 = nI m) (hi : i < 8000) (hy : y < 4) (h7 : r7.length = 24) (hm : m + (bte r (i + 1) y).length ≤ 24) (h18 : r = 18 → i = 0 → 1 < y) : ∃ r7', m113 (nI c) (nI i) (nI (tc y)) (ckC s z g nn r4 r5 r6 r7 i2 i3) = some (ckC s z g nn r4 r5 r6 r7' i2 i3) ∧ r7'.length = 24 ∧ (∀ j, j < m → r7'.getD j 0 = r7.getD j 0) ∧ ∀ j, j < (bte r (i + 1) y).length → r7'.getD (m + j) 0 = nI (tc ((bte r (i + 1) y).getD j 0)) := by
  have hone : ∀ (w : Nat) (x : Int32), bte r (i + 1) y = [w] → x = nI (tc w) → ∃ r7', m106 (nI m) x (ckC s z g nn r4 r5 r6 r7 i2 i3) = some (ckC s z g nn r4 r5 r6 r7' i2 i3) ∧ r7'.length = 24 ∧ (∀ j, j < m → r7'.getD j 0 = r7.getD j 0) ∧ ∀ j, j < (bte r (i + 1) y).length → r7'.getD (m + j) 0 = nI (tc ((bte r (i + 1) y).getD j 0)) := fun w x hw hx => by
    rw [hw] at hm ⊢
    have hm' : m + 1 ≤ 24 := hm
    refine ⟨_, m106_eq h7 (by omega), by rw [List.length_set]; exact h7, fun j hj => ?_, fun j hj => ?_⟩
    · rw [getD_setn (by omega), if_neg (by omega)]
    · have hj' : j < 1 := hj
      have hj0 : j = 0 := by omega
      subst hj0
      rw [Nat.add_zero, getD_setn (by omega), if_pos rfl, hx]
      rfl
  have hnone : bte r (i + 1) y = [] → ∃ r7', some (ckC s z g nn r4 r5 r6 r7 i2 i3) = some (ckC s z g nn r4 r5 r6 r7' i2 i3) ∧ r7'.length = 24 ∧ (∀ j, j < m → r7'.getD j 0 = r7.getD j 0) ∧ ∀ j, j < (bte r (i + 1) y).length → r7'.getD (m + j) 0 = nI (tc ((bte r (i + 1) y).getD j 0)) := fun hw => by
    rw [hw]
    refine ⟨r7, rfl, h7, fun j _ => rfl, fun j hj => ?_⟩
    have hj' : j < 0 := hj
    omega
  have ei : (nI i = 0) = (i = 0) := eqL_0 (by omega)
  have ei1 : (nI i = 1) = (i = 1) := eqL_1 (by omega)
  obtain ⟨y1, y2, y3, y4⟩ := tc_14 y hy
  have tb : ∀ r, r < 24 → (ck r = 9 ↔ kl r = true) ∧ (ck r = 16 ↔ r = 18) ∧ (ck r = 10 ↔ kz r = true) ∧ ck r < 100 ∧ (kl r = true → kz r = false ∧ ¬ r = 18) ∧ (kz r = true → ¬ r = 18) := by decide +kernel
  obtain ⟨k1, k2, k3, k4, k5, k6⟩ := tb r (by omega)
  unfold m113 m113_41 m113_74 m113_68
  rw [ckAt (j := 0) hz hc, ckAt (j := 3) hz hc, hk, hd]
  simp (disch := omega) only [eqL_9, eqL_16, eqL_10, ei, ei1, eqL_14]
  by_cases c1 : kl r = true
  · obtain ⟨z1, z2⟩ := k5 c1
    rw [if_pos (k1.mpr c1)]
    by_cases q : i = 0
    · rw [if_pos q, bind_id]
      refine hone y _ ?_ rfl
      unfold bte
      rw [if_pos ⟨c1, by omega⟩]
    · rw [if_neg q, if_neg (fun q1 => z2 (k2.mp q1)), if_neg (fun q1 => by have := k3.mp q1; rw [z1] at this; exact absurd this (by decide))]
      refine hnone ?_
      unfold bte
      rw [if_neg (fun q1 => q (by omega)), if_neg (fun q1 => by rw [z1] at q1; exact absurd q1.1 (by decide)), if_neg (fun q1 => z2 q1.1)]
  · rw [if_neg (fun q1 => c1 (k1.mp q1))]
    by_cases c2 : r = 18
    · rw [if_pos (k2.mpr c2)]
      have nz : ¬ kz r = true := by rw [c2]; decide
      by_cases q : i = 0
      · have h1y := h18 c2 q
        rw [if_pos q]
        rw [bind_id, bind_id]
        have eb : bte r (i + 1) y = [y - 2] := by
          unfold bte
          rw [if_neg (fun q1 => c1 q1.1), if_neg (fun q1 => nz q1.1), if_pos ⟨c2, by omega⟩]
        by_cases q2 : y = 2
        · rw [if_pos (y1.mpr q2)]
          refine hone (y - 2) _ eb ?_
          rw [q2]
          decide
        · rw [if_neg (fun q3 => q2 (y1.mp q3))]
          refine hone (y - 2) _ eb ?_
          rw [show y = 3 by omega]
          decide
      · rw [if_neg q, if_neg (fun q1 => nz (k3.mp q1))]
        refine hnone ?_
        unfold bte
        rw [if_neg (fun q1 => c1 q1.1), if_neg (fun q1 => nz q1.1), if_neg (fun q1 => q (by omega))]
    · rw [if_neg (fun q1 => c2 (k2.mp q1))]
      by_cases c3 : kz r = true
      · rw [if_pos (k3.mpr c3)]
        by_cases q : i = 1
        · have eb : bte r (i + 1) y = [0, 3] := by
            unfold bte
            rw [if_neg (fun q1 => c1 q1.1), if_pos ⟨c3, by omega⟩]
          rw [eb] at hm ⊢
          have hm' : m + 2 ≤ 24 := hm
          rw [if_pos q, m106_eq h7 (by omega), bs, nI_1, m106_eq (by rw [List.length_set]; exact h7) (by omega), bs]
          refine ⟨_, rfl, by rw [List.length_set, List.length_set]; exact h7, fun j hj => ?_, fun j hj => ?_⟩
          · rw [getD_setn (by rw [List.length_set]; omega), if_neg (by omega), getD_setn (by omega), if_neg (by omega)]
          · have hj' : j < 2 := hj
            have hjj : j = 0 ∨ j = 1 := by omega
            rcases hjj with rfl | rfl
            · rw [getD_setn (by rw [List.length_set]; omega), if_neg (by omega), getD_setn (by omega), if_pos (by omega)]
              rfl
            · rw [getD_setn (by rw [List.length_set]; omega), if_pos rfl]
              rfl
        · rw [if_neg q]
          refine hnone ?_
          unfold bte
          rw [if_neg (fun q1 => c1 q1.1), if_neg (fun q1 => q (by omega)), if_neg (fun q1 => c2 q1.1)]
      · rw [if_neg (fun q1 => c3 (k3.mp q1))]
        refine hnone ?_
        unfold bte
        rw [if_neg (fun q1 => c1 q1.1), if_neg (fun q1 => c3 q1.1), if_neg (fun q1 => c2 q1.1)]
/-- a part is left -/
theorem m108_part {y du i : Nat} {a b : Nat} {x u v : Int32} {st qt lt : List Int32} (hz : gZ s 5 = z) (ha : a < 2 ^ 30) (hs1 : st.length < 5000) (hs2 : qt.length < 5000) (hs3 : lt.length < 5000) (hdu : du < 100) (hy : y < 4) (h109 : m109 (nI a) v (ckC s z g nn ((nI b :: st).reverse) ((nI i :: qt).reverse) ((u :: lt).reverse) r7 0 i3) = some (nI (tc y), (ckC s z g nn ((nI b :: st).reverse) ((nI i :: qt).reverse) ((u :: lt).reverse) r7 0 i3))) (h111 : m111 (nI b) (nI i) (nI (tc y)) (ckC s z g nn ((nI b :: st).reverse) ((nI i :: qt).reverse) ((u :: lt).reverse) r7 0 i3) = some (nI du, (ckC s z g nn ((nI b :: st).reverse) ((nI i :: qt).reverse) ((u :: lt).reverse) r7 0 i3))) : m108 (ckC s z g nn ((nI a :: nI b :: st).reverse) ((x :: nI i :: qt).reverse) ((v :: u :: lt).reverse) r7 0 i3) = if du = 0 ∨ du = tc y then m108_96 (nI (tc y)) (nI b) (nI i) (ckC s z g nn ((nI b :: st).reverse) ((nI i :: qt).reverse) ((u :: lt).reverse) r7 0 i3) else some (ckC s z g nn ((nI b :: st).reverse) ((nI i :: qt).reverse) ((u :: lt).reverse) r7 6 ((g 1).getD a 0)) := by
  obtain ⟨y1, y2, y3, y4⟩ := tc_14 y hy
  have t1 : xsTop (nI a :: nI b :: st).reverse = nI a := xsTop_r (by rw [List.length_cons]; omega)
  have t2 : xsTop (v :: u :: lt).reverse = v := xsTop_r (by rw [List.length_cons]; omega)
  have t3 : xsTop (nI b :: st).reverse = nI b := xsTop_r (by omega)
  have t4 : xsTop (nI i :: qt).reverse = nI i := xsTop_r (by omega)
  unfold m108
  rw [ckC_r4, ckC_r5, ckC_r6, t1, t2, xsPop_r, xsPop_r, xsPop_r, ckC_sr4, ckC_sr5, ckC_sr6, h109, bs, ckC_r4, if_neg (by rw [List.length_reverse, List.length_cons, eqL_0 (by omega)]; omega), t3, ckC_r5, t4, h111, bs]
  by_cases q : du = 0
  · rw [if_pos (Or.inl q), if_pos (by rw [q]; rfl)]
  · rw [if_neg (by rw [eqL_0 (by omega)]; exact q)]
    by_cases q2 : du = tc y
    · rw [if_pos (Or.inr q2), if_pos (by rw [q2])]
    · rw [if_neg (by rw [eqN (by omega) (by omega)]; exact q2), if_neg (by rintro (q3 | q3); exact q q3; exact q2 q3), ckAt (j := 1) hz ha, ck14, bs]
theorem m108_96_eq {y i : Nat} {b : Nat} {u : Int32} {st qt lt r7' : List Int32} (hs2 : qt.length < 5000) (hs3 : lt.length < 5000) (h113 : m113 (nI b) (nI i) (nI (tc y)) (ckC s z g nn ((nI b :: st).reverse) ((nI i :: qt).reverse) ((u :: lt).reverse) r7 0 i3) = some (ckC s z g nn ((nI b :: st).reverse) ((nI i :: qt).reverse) ((u :: lt).reverse) r7' 0 i3)) : m108_96 (nI (tc y)) (nI b) (nI i) (ckC s z g nn ((nI b :: st).reverse) ((nI i :: qt).reverse) ((u :: lt).reverse) r7 0 i3) = some (ckC s z g nn ((nI b :: st).reverse) ((nI (i + 1) :: qt).reverse) ((nI (tc y) :: lt).reverse) r7' 0 i3) := by
  unfold m108_96
  rw [h113, bs, ckC_r5, ckC_r6, xsSetTop_r (by omega), xsSetTop_r (by omega), ckC_sr5, ckC_sr6, nI_1]
/-- the definition itself is left -/
theorem m108_def {a : Nat} {x v : Int32} {b : Bool} (hz : gZ s 5 = z) (ha : a < 2 ^ 30) (hk : (g 0).getD a 0 = nI (if b = true then 23 else 22)) : m108 (ckC s z g nn ([nI a]) [x] [v] r7 i2 i3) = some (ckC s z g nn [] [] [] r7 i2 i3) := by
  have t1 : xsTop [nI a] = nI a := xsTop_r (st := []) (by decide)
  have t2 : xsTop [v] = v := xsTop_r (st := []) (by decide)
  have h109 : m109 (nI a) v (ckC s z g nn [] [] [] r7 i2 i3) = some (20, (ckC s z g nn [] [] [] r7 i2 i3)) := by
    unfold m109
    rw [ckAt (j := 0) hz ha, hk]
    cases b <;> rw [if_neg (by decide), if_neg (by decide), if_neg (by decide), if_neg (by decide), if_neg (by decide)]
  unfold m108
  rw [ckC_r4, ckC_r5, ckC_r6, t1, t2, List.dropLast_singleton, List.dropLast_singleton, List.dropLast_singleton, ckC_sr4, ckC_sr5, ckC_sr6, h109, bs, ckC_r4, if_pos (show nI ([] : List Int32).length = 0 from rfl)]
end CkL
