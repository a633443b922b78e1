/-! our checker: equations -/
section CkEq
variable {T : List Int32} {σ : Nat → Nd} {δ : Nat → Dd} {N K M k d f D o i p e : Nat} {s : xSt} {z : Bool} {g : Nat → List Int32} {nn : List Int64} {r4 r5 r6 r7 : List Int32} {i2 i3 : Int32}
/-- how many parts, as far as we count -/
theorem m104_go (hz : gZ s 5 = z) (wf : WF 0 T σ N [] [] 0) (hN : N < 4096) (hD : D ≤ 64) (hk : k < N) (hdk : ∀ j, k ≤ j → j < k + nZ (σ k) → nD (σ j) = d) (hd : d < 64) (h4 : ∀ j, k ≤ j → j < k + nZ (σ k) → (g 4).getD (j + d + 1) 0 = nI (j + d + 1 + nZ (σ j))) : ∀ (m j f : Nat), j + m = k + nZ (σ k) → k < j → m < f → (j < k + nZ (σ k) → nP (σ j) = (k : Int)) → pcnt (pr σ) k j ≤ 9 → ∃ c, m104_6 f (nI (k + d + 1)) (nI (pcnt (pr σ) k j)) (nI (j + d + 1)) (ckC s z g nn r4 r5 r6 r7 i2 i3) = some (nI c, (ckC s z g nn r4 r5 r6 r7 i2 i3)) ∧ (c = pcnt (pr σ) k N ∨ (c = 9 ∧ 9 ≤ pcnt (pr σ) k N)) := by
  have hb := wf.2.2.1 k hk (by simp)
  have hall := pcnt_all wf hk
  intro m
  induction m using Nat.strongRecOn with
  | _ m ih =>
    intro j f hj hkj hf hpj hc
    obtain ⟨f, rfl⟩ : ∃ f', f = f' + 1 := ⟨f - 1, by omega⟩
    have hend := h4 k (Nat.le_refl _) (by have := hb.2.1; omega)
    have hle := hb.2.2.1
    unfold m104_6
    rw [ckC_oz5, hz, ckC_gP, xsAt_n (by omega), hend]
    by_cases cm : m = 0
    · rw [if_pos (by rw [leN (by omega) (by omega)]; omega)]
      refine ⟨_, rfl, Or.inl ?_⟩
      rw [show j = k + nZ (σ k) by omega]
      exact hall
    · have hpk := hpj (by omega)
      obtain ⟨n1, n2, n3, n4⟩ := kid_next wf (by omega) hpk
      have hjb := wf.2.2.1 j (by omega) (by simp)
      rw [if_neg (by rw [leN (by omega) (by omega)]; omega)]
      by_cases c9 : 8 < pcnt (pr σ) k j
      · rw [if_pos (by rw [gtL_8 (by omega)]; exact c9)]
        refine ⟨_, rfl, Or.inr ⟨by omega, ?_⟩⟩
        rw [← hall]
        have := pcnt_mono (par := pr σ) (k := k) (show j ≤ k + nZ (σ k) by omega)
        omega
      · rw [if_neg (by rw [gtL_8 (by omega)]; exact c9), xsAt_n (by omega), h4 j (by omega) (by omega), nI_1]
        have hz1 := hjb.2.1
        obtain ⟨c, c1, c2⟩ := ih (m - nZ (σ j)) (by omega) (j + nZ (σ j)) f (by omega) (by omega) (by omega) n4 (by omega)
        rw [n1] at c1
        rw [show j + d + 1 + nZ (σ j) = j + nZ (σ j) + d + 1 by omega]
        exact ⟨c, c1, c2⟩
theorem m104_eq (hz : gZ s 5 = z) (wf : WF 0 T σ N [] [] 0) (hN : N < 4096) (hD : D ≤ 64) (hk : k < N) (hdk : ∀ j, k ≤ j → j < k + nZ (σ k) → nD (σ j) = d) (hd : d < 64) (h4 : ∀ j, k ≤ j → j < k + nZ (σ k) → (g 4).getD (j + d + 1) 0 = nI (j + d + 1 + nZ (σ j))) : ∃ c, m104 (nI (k + d + 1)) (ckC s z g nn r4 r5 r6 r7 i2 i3) = some (nI c, (ckC s z g nn r4 r5 r6 r7 i2 i3)) ∧ (c = pcnt (pr σ) k N ∨ (c = 9 ∧ 9 ≤ pcnt (pr σ) k N)) := by
  have hb := wf.2.2.1 k hk (by simp)
  have h0 := pcnt_0 wf.1 (show k + 1 ≤ N by omega) (Nat.le_refl (k + 1))
  obtain ⟨c, c1, c2⟩ := m104_go (s := s) (z := z) (g := g) (nn := nn) (r4 := r4) (r5 := r5) (r6 := r6) (r7 := r7) (i2 := i2) (i3 := i3) hz wf hN hD hk hdk hd h4 (nZ (σ k) - 1) (k + 1) 1000000 (by have := hb.2.1; omega) (by omega) (by have := hb.2.2.1; omega) (fun q => (kid_first wf hk (by omega)).1) (by omega)
  rw [h0] at c1
  refine ⟨c, ?_, c2⟩
  unfold m104
  rw [nI_1, show k + d + 1 + 1 = k + 1 + d + 1 by omega]
  exact c1
theorem m106_eq {y : Int32} (h7 : r7.length = 24) (hi : i < 24) : m106 (nI i) y (ckC s z g nn r4 r5 r6 r7 i2 i3) = some (ckC s z g nn r4 r5 r6 (r7.set i y) i2 i3) := by
  unfold m106
  rw [if_neg (nI_pos (by omega)), ckC_r7, h7, if_neg (by rw [leN (by omega) (by omega)]; omega), xsPut_n (by omega) (by omega), bs, ckC_sr7]
/-- the types of the parameters -/
theorem m105_go (hz : gZ s 5 = z) (hd : d < 64) {P : Nat} (hP : P ≤ 8) (h8 : (g 8).getD d 0 = nI P) {tys : List Nat} (ht : tys.length = P) (h9 : ∀ i, i < P → (g 9).getD (8 * d + i) 0 = nI (tc (tys.getD i 0))) : ∀ (m i f : Nat) (r7 : List Int32), i + m = P → m < f → r7.length = 24 → (∀ e, e < i → r7.getD e 0 = nI (tc (tys.getD e 0))) → ∃ r7', m105_2 f (nI d) (nI i) (ckC s z g nn r4 r5 r6 r7 i2 i3) = some (ckC s z g nn r4 r5 r6 r7' i2 i3) ∧ r7'.length = 24 ∧ ∀ e, e < P → r7'.getD e 0 = nI (tc (tys.getD e 0)) := by
  intro m
  induction m with
  | zero =>
    intro i f r7 hi hf h7 he
    obtain ⟨f, rfl⟩ : ∃ f', f = f' + 1 := ⟨f - 1, by omega⟩
    refine ⟨r7, ?_, h7, fun e h => he e (by omega)⟩
    unfold m105_2
    rw [ckC_oz5, hz, ckC_gP, xsAt_n (by omega), h8, if_pos (by rw [leN (by omega) (by omega)]; omega)]
  | succ m ih =>
    intro i f r7 hi hf h7 he
    obtain ⟨f, rfl⟩ : ∃ f', f = f' + 1 := ⟨f - 1, by omega⟩
    obtain ⟨r7', a1, a2, a3⟩ := ih (i + 1) f (r7.set i (nI (tc (tys.getD i 0)))) (by omega) (by omega) (by rw [List.length_set]; exact h7) (fun e h => by
      rw [getD_setn (by omega)]
      by_cases c : e = i
      · rw [if_pos c, c]
      · rw [if_neg c]; exact he e (by omega))
    refine ⟨r7', ?_, a2, a3⟩
    unfold m105_2
    rw [ckC_oz5, hz, ckC_gP, xsAt_n (by omega), h8, if_neg (by rw [leN (by omega) (by omega)]; omega), ckC_gP, show nI d * 8 + nI i = nI (8 * d + i) by rw [Int32.mul_comm]; exact nI_8x d i, xsAt_n (by omega), h9 i (by omega), m106_eq h7 (by omega), bs, nI_1, a1]
theorem m105_eq (hz : gZ s 5 = z) (hd : d < 64) {P : Nat} (hP : P ≤ 8) (h8 : (g 8).getD d 0 = nI P) {tys : List Nat} (ht : tys.length = P) (h9 : ∀ i, i < P → (g 9).getD (8 * d + i) 0 = nI (tc (tys.getD i 0))) (h7 : r7.length = 24) : ∃ r7', m105 (nI d) (ckC s z g nn r4 r5 r6 r7 i2 i3) = some (ckC s z g nn r4 r5 r6 r7' i2 i3) ∧ r7'.length = 24 ∧ ∀ e, e < P → r7'.getD e 0 = nI (tc (tys.getD e 0)) := by
  unfold m105
  exact m105_go hz hd hP h8 ht h9 P 0 1000000 r7 (by omega) (by omega) h7 (fun e he => by omega)
end CkEq
