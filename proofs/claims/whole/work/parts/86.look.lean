/-! what is kept between calls -/
/-- fault, output, steps, batches -/
def RO (s t : xSt) : Prop := (gI s 2 = gI t 2 ∧ gI s 3 = gI t 3 ∧ gI s 1 = gI t 4 ∧ gZ s 2 = gZ t 0) ∧ (gR s 16).length ≤ 2065 ∧ (gR t 47).length = 12200 ∧ (gZ s 2 = true → gI s 0 = gI t 11 ∧ gI t 10 = nI (gR s 16).length ∧ ArrR (gR t 47) (gR s 16)) ∧ (gZ s 2 = false → gR s 16 = [])
/-- the program -/
def RP (s t : xSt) : Prop := RL t ∧ gZ s 1 = (!gZ s 0) ∧ (gZ s 2 = true → ∃ σ, SP σ ∧ SC σ s (gZ s 0) ∧ SR σ t)
section Look
variable {s t : xSt}
theorem look_ok (hT : RT s t) (hI : RI s t) (hE : RE s t) (hO : RO s t) (hP : RP s t) (a : Int32) : ∃ r, m144 a s = some (r, s) ∧ m233 a t = some (r, sI t 0 0) := by
  obtain ⟨⟨o1, o2, o3, o4⟩, o5, o6, o7, o8⟩ := hO
  obtain ⟨k, k1, k2, k3⟩ := hE.2.2.2.2
  unfold m144 m233
  by_cases c0 : a = 0
  · rw [if_pos c0, if_pos c0, hT.2]; exact ⟨_, rfl, rfl⟩
  rw [if_neg c0, if_neg c0]
  by_cases c1 : a = 1
  · rw [if_pos c1, if_pos c1, o1]; exact ⟨_, rfl, rfl⟩
  rw [if_neg c1, if_neg c1]
  by_cases c2 : a = 2
  · rw [if_pos c2, if_pos c2, o2]; exact ⟨_, rfl, rfl⟩
  rw [if_neg c2, if_neg c2]
  by_cases c3 : a = 3
  · rw [if_pos c3, if_pos c3]
    cases z : gZ s 2
    · rw [← o4, z, if_neg ff, if_neg ff]; exact ⟨_, rfl, rfl⟩
    · obtain ⟨σ, -, s2, s3⟩ := hP.2.2 z
      rw [← o4, z, if_pos rfl, if_pos rfl, s2.2.2, s3.2.2.1]; exact ⟨_, rfl, rfl⟩
  rw [if_neg c3, if_neg c3]
  by_cases c4 : a = 4
  · rw [if_pos c4, if_pos c4, hI.2.1]; exact ⟨_, rfl, rfl⟩
  rw [if_neg c4, if_neg c4]
  by_cases c5 : a = 5
  · rw [if_pos c5, if_pos c5, hE.2.1]; exact ⟨_, rfl, rfl⟩
  rw [if_neg c5, if_neg c5]
  by_cases c6 : a = 6
  · rw [if_pos c6, if_pos c6, k2, k3]; exact ⟨_, rfl, rfl⟩
  rw [if_neg c6, if_neg c6]
  by_cases c7 : a = 7
  · rw [if_pos c7, if_pos c7]
    cases z : gZ s 2
    · rw [← o4, z, if_neg ff, if_neg ff]; exact ⟨_, rfl, rfl⟩
    · rw [← o4, z, if_pos rfl, if_pos rfl, (o7 z).2.1]; exact ⟨_, rfl, rfl⟩
  rw [if_neg c7, if_neg c7]
  by_cases c8 : a = 8
  · rw [if_pos c8, if_pos c8]
    cases z : gZ s 2
    · rw [← o4, z, if_neg ff, if_neg ff]; exact ⟨_, rfl, rfl⟩
    · rw [← o4, z, if_pos rfl, if_pos rfl, (o7 z).1]; exact ⟨_, rfl, rfl⟩
  rw [if_neg c8, if_neg c8]
  by_cases c9 : a = 9
  · rw [if_pos c9, if_pos c9, o3]; exact ⟨_, rfl, rfl⟩
  rw [if_neg c9, if_neg c9]
  by_cases c10 : a = 10
  · rw [if_pos c10, if_pos c10, if_pos (by omega)]
    refine ⟨_, rfl, ?_⟩
    unfold m234
    cases z : gZ s 2
    · rw [o8 z, show (1000000 : Nat) = 999999 + 1 from rfl]
      unfold m234_4
      rw [show gZ (sI t 0 0) 0 = gZ t 0 from rfl, ← o4, z]
      by_cases y : gI (sI t 0 0) 10 ≤ 0
      · rw [if_pos y, bs]; rfl
      · rw [if_neg y, if_neg ff, bs]; rfl
    · obtain ⟨p1, p2, p3⟩ := o7 z
      rw [← nI_0, sum_lock (t := sI t 0 (nI 0)) (xs := gR s 16) (by show gZ t 0 = true; rw [← o4]; exact z) p2 (by omega) p3 1000000 0 _ (by omega) (by omega), bs]
      rfl
  rw [if_neg c10, if_neg c10]
  exact ⟨_, rfl, rfl⟩
end Look
