/-! takeProgram: both agree -/
/-- our state at the end -/
def Sff (S : xSt) : xSt := sI (sR (sR S 0 []) 15 (gR S 14)) 15 0
/-- the reference ahead of reading -/
def T1r (t t1 : xSt) : Prop := (gR t1 0 = gR t 0 ∧ (gR t1 1).length = 8192 ∧ gR t1 45 = gR t 45 ∧ gR t1 47 = gR t 47) ∧ (gI t1 1 = 0 ∧ gI t1 4 = gI t 4 ∧ gI t1 5 = gI t 5 ∧ gI t1 7 = gI t 7 ∧ gI t1 10 = gI t 10 ∧ gI t1 11 = gI t 11) ∧ gZ t1 0 = gZ t 0 ∧ (gR t1 31 = gR t 31 ∧ gR t1 32 = gR t 32 ∧ gR t1 33 = gR t 33 ∧ gR t1 34 = gR t 34 ∧ gR t1 35 = gR t 35 ∧ gR t1 36 = gR t 36 ∧ gR t1 37 = gR t 37) ∧ RL t1
section Take
variable {s t t1 : xSt} {z : Bool} {n : Nat}
theorem end_c {S : xSt} (hI : (gR s 14).length ≤ 64) (hC : CFr z s S) : m134_53 S = some (gI S 2, Sff S) := by
  unfold m134_53 m25_r78
  have e : gR (sR S 0 (xsCut (gR S 0) 0)) 14 = gR s 14 := hC.1.2.1
  rw [e, if_pos hI, bs, xsCut_0]
  unfold Sff
  rw [hC.1.2.1]
  rfl
theorem sr_congr {σ : xG} {R : xSt} (h : gR R 31 = gR t 31 ∧ gR R 32 = gR t 32 ∧ gR R 33 = gR t 33 ∧ gR R 34 = gR t 34 ∧ gR R 35 = gR t 35 ∧ gR R 36 = gR t 36 ∧ gR R 37 = gR t 37) (h5 : gI R 5 = gI t 5) (hs : SR σ t) : SR σ R := by
  obtain ⟨a1, a2, a3, a4, a5, a6, a7⟩ := h
  unfold SR at hs ⊢
  rw [a1, a2, a3, a4, a5, a6, a7, h5]
  exact hs
/-- where the program stays as it was -/
theorem fault_inv {S tf : xSt} (hT : RT s t) (hI : RI s t) (hO : RO s t) (hP : RP s t) (hQ : RQ s t) (hz : gZ s 1 = z) (h1 : T1r t t1) (hE1 : RE (sI (sR s 15 (gR s 14)) 15 0) t1) (hC : CFr z s S) (hR : RFr t1 tf) (e2 : gI S 2 = gI tf 2) (e3 : gI S 3 = gI tf 3) : RT (Sff S) tf ∧ RI (Sff S) tf ∧ RE (Sff S) tf ∧ RO (Sff S) tf ∧ RP (Sff S) tf ∧ RQ (Sff S) tf := by
  obtain ⟨⟨c1, c2, c3⟩, ⟨c4, c5⟩, ⟨c6, c7, c8⟩, c9, c10⟩ := hC
  obtain ⟨⟨x1, x2, x3, x4⟩, ⟨x5, x6, x7, x8, x9, x10⟩, x11, ⟨x12, x13, x14, x15, x16, x17, x18⟩, x26⟩ := h1
  obtain ⟨⟨y1, y2, y3, y4, y5⟩, ⟨y6, y7, y8, y9, y10, y11, y12, y13⟩, y14, ⟨y15, y16, y17, y18, y19, y20, y21⟩, ⟨y22, y23, y24, y25, y26, y27, y28⟩, ⟨y29, y30, y31, y32, y33, y34, y35, y36⟩, y37, y38, y39⟩ := hR
  obtain ⟨⟨o1, o2, o3, o4⟩, o5, o6, o7, o8⟩ := hO
  obtain ⟨p1, p2, p3⟩ := hP
  obtain ⟨q1, q2, q3, q4, q5, q6, q7⟩ := hQ
  have d0 : gR (Sff S) 0 = [] := rfl
  have d14 : gR (Sff S) 14 = gR s 14 := c2
  have d15 : gR (Sff S) 15 = gR s 14 := c2
  have d16 : gR (Sff S) 16 = gR s 16 := c3
  have k0 : gR tf 0 = gR t 0 := y1.trans x1
  have k45 : gR tf 45 = gR t 45 := y3.trans x3
  have k47 : gR tf 47 = gR t 47 := y5.trans x4
  have k7 : gI tf 7 = gI t 7 := y9.trans x8
  have hz0 : gZ s 0 = !z := by rw [← hz, p2]; cases gZ s 0 <;> rfl
  have kt : (gR tf 31 = gR t 31 ∧ gR tf 32 = gR t 32 ∧ gR tf 33 = gR t 33 ∧ gR tf 34 = gR t 34 ∧ gR tf 35 = gR t 35 ∧ gR tf 36 = gR t 36 ∧ gR tf 37 = gR t 37) := ⟨y15.trans x12, y16.trans x13, y17.trans x14, y18.trans x15, y19.trans x16, y20.trans x17, y21.trans x18⟩
  refine ⟨?_, ?_, ?_, ?_, ?_, ?_⟩
  · unfold RT
    rw [d0, k0, y6, x5]
    exact ⟨⟨rfl, by decide, hT.1.2.2.1, fun i hi => absurd hi (by simp)⟩, rfl⟩
  · unfold RI
    rw [d14, k7, k45]
    exact hI
  · have h := hE1
    unfold RE at h ⊢
    have f1 : gR (sI (sR s 15 (gR s 14)) 15 0) 15 = gR s 14 := rfl
    have f2 : gI (sI (sR s 15 (gR s 14)) 15 0) 15 = 0 := rfl
    have f3 : gI (Sff S) 15 = 0 := rfl
    rw [f1, f2] at h
    rw [d15, f3, y10, y11, y4]
    exact h
  · unfold RO
    have f1 : gI (Sff S) 1 = gI s 1 := c5
    have f0 : gI (Sff S) 0 = gI s 0 := c4
    have f2 : gZ (Sff S) 2 = gZ s 2 := c8
    have f3 : gI (Sff S) 2 = gI tf 2 := e2
    have f4 : gI (Sff S) 3 = gI tf 3 := e3
    rw [d16, f0, f1, f2, k47, y7, x6, y14, x11, y12, x9, y13, x10]
    exact ⟨⟨f3, f4, o3, o4⟩, o5, o6, o7, o8⟩
  · unfold RP
    have f0 : gZ (Sff S) 0 = gZ s 0 := c6
    have f1 : gZ (Sff S) 1 = gZ s 1 := c7
    have f2 : gZ (Sff S) 2 = gZ s 2 := c8
    rw [f0, f1, f2]
    refine ⟨?_, p2, fun h => ?_⟩
    · unfold RL
      rw [y29, y30, y31, y32, y33, y34, y35, y36]
      exact x26
    · obtain ⟨σ, s1, s2, s3⟩ := p3 h
      refine ⟨σ, s1, sc_congr (fun i => ?_) s2, sr_congr kt (y8.trans x7) s3⟩
      rw [hz0]
      exact c9 i
  · refine ⟨c10, by rw [y2]; exact x2, y37, y38, y39, ?_, by rw [k0]; exact q7⟩
    unfold RQ31 at q6 ⊢
    rw [kt.1, kt.2.1, kt.2.2.1, kt.2.2.2.1, kt.2.2.2.2.1, kt.2.2.2.2.2.1, kt.2.2.2.2.2.2]
    obtain ⟨w1, w2, w3, w4, w5, w6, w7, -⟩ := q6
    exact ⟨w1, w2, w3, w4, w5, w6, w7, y22, y23, y24, y25, y26, y27, y28⟩
end Take
