/-! definitions, and what both hold of them -/
abbrev Dd : Type := (Nat × Nat × Bool) × List Int64 × List Nat × Nat × Int64 × Int32
def dF (x : Dd) : Nat := x.1.1
def dE (x : Dd) : Nat := x.1.2.1
def dH (x : Dd) : Bool := x.1.2.2
def dP (x : Dd) : List Int64 := x.2.1
def dT (x : Dd) : List Nat := x.2.2.1
def dR (x : Dd) : Nat := x.2.2.2.1
def dN (x : Dd) : Int64 := x.2.2.2.2.1
def dL (x : Dd) : Int32 := x.2.2.2.2.2
def fd (δ : Nat → Dd) (k : Nat) (v : Dd) (j : Nat) : Dd := if j = k then v else δ j
theorem fd_s (δ : Nat → Dd) (k : Nat) (v : Dd) : fd δ k v k = v := if_pos rfl
theorem fd_n {δ : Nat → Dd} {k j : Nat} {v : Dd} (h : ¬ j = k) : fd δ k v j = δ j := if_neg h
/-- our words of the types -/
def tc (y : Nat) : Nat := if y = 0 then 20 else if y = 1 then 21 else if y = 2 then 14 else 15
def lvl (b : Bool) : Int32 := if b = true then 1 else 0
/-- a definition by itself -/
def Dg (x : Dd) : Prop := (dP x).length ≤ 8 ∧ (dT x).length = (dP x).length ∧ (∀ i, i < (dP x).length → (dT x).getD i 0 ≤ 3 ∧ 0 < (dP x).getD i 0) ∧ (∀ i j, i < j → j < (dP x).length → (dP x).getD i 0 ≠ (dP x).getD j 0)
/-- its head in our rows; in the reference's -/
def DC1 (x : Dd) (d : Nat) (g : Nat → List Int32) (nn : List Int64) : Prop := (g 5).getD d 0 = dL x ∧ (g 6).getD d 0 = nI (dF x + d) ∧ (g 8).getD d 0 = nI (dP x).length ∧ (∀ i, i < (dP x).length → (g 9).getD (8 * d + i) 0 = nI (tc ((dT x).getD i 0))) ∧ nn.getD d 0 = dN x ∧ (g 0).getD (dF x + d) 0 = nI (if dH x = true then 23 else 22) ∧ (g 2).getD (dF x + d) 0 = nI d
def DR1 (x : Dd) (d : Nat) (qr2 qr4 qr6 qr7 : List Int32) (ql0 ql1 : List Int64) : Prop := qr2.getD d 0 = lvl (dH x) ∧ qr4.getD d 0 = nI (dP x).length ∧ qr6.getD d 0 = dL x ∧ ql0.getD d 0 = dN x ∧ ∀ i, i < (dP x).length → ql1.getD (8 * d + i) 0 = (dP x).getD i 0 ∧ qr7.getD (8 * d + i) 0 = nI ((dT x).getD i 0)
/-- the result, and its place among the nodes -/
def DC2 (x : Dd) (d : Nat) (g : Nat → List Int32) : Prop := (g 7).getD d 0 = nI (tc (dR x)) ∧ (g 4).getD (dF x + d) 0 = nI (dE x + d + 1)
def DR2 (x : Dd) (d : Nat) (qr3 qr5 : List Int32) : Prop := qr3.getD d 0 = nI (dR x) ∧ qr5.getD d 0 = nI (dF x)
def Dh (δ : Nat → Dd) (d : Nat) : Prop := 0 < dN (δ d) ∧ ∀ e, e < d → dN (δ e) ≠ dN (δ d)
/-- a definition that is read -/
def Dw (δ : Nat → Dd) (σ : Nat → Nd) (D N d : Nat) : Prop := (dF (δ d) < dE (δ d) ∧ dE (δ d) ≤ N ∧ (d + 1 < D → dE (δ d) = dF (δ (d + 1))) ∧ (d + 1 = D → dE (δ d) = N) ∧ (d = 0 → dF (δ d) = 0)) ∧ Dg (δ d) ∧ (dR (δ d) ≤ 3 ∧ (dH (δ d) = true → dR (δ d) < 2)) ∧ Dh δ d ∧ Rt σ (dE (δ d)) (dF (δ d)) d (dP (δ d)) (lvl (dH (δ d)))
def GI (T : List Int32) (n : Nat) (s t : xSt) (z : Bool) (D p : Nat) (σ : Nat → Nd) (N : Nat) (δ : Nat → Dd) (C R : xSt) : Prop := ∃ (g : Nat → List Int32) (nn : List Int64) (i3 i5 i6 i7 i8 i9 : Int32) (j0 : Int64) (l0 : List Int64) (qr2 qr3 qr4 qr5 qr6 qr7 qr8 qr9 qr10 qr11 qr12 qr13 qr14 qr15 qr16 : List Int32) (qi22 qi24 qi25 qi26 qi29 qi30 : Int32) (qj0 : Int64) (ql0 ql1 ql2 ql3 : List Int64), C = (rdC s z g nn [] [] [] 0 i3 (nI p) i5 i6 i7 i8 i9 (-1) 0 j0 l0 false) ∧ R = (rdR t qr2 qr3 qr4 qr5 qr6 qr7 qr8 qr9 qr10 qr11 qr12 qr13 qr14 qr15 qr16 0 qi22 (nI p) qi24 qi25 qi26 (nI D) (nI N) qi29 qi30 qj0 ql0 ql1 ql2 ql3) ∧ (WF 0 T σ N [] [] 0 ∧ DM σ N D ∧ ((∀ j, j < 5 → (g j).length = N + D) ∧ ∀ k, k < N → NC (σ k) (k + nD (σ k) + 1) g) ∧ RA σ N qr8 qr9 qr10 qr11 qr13 qr14 ql2 ql3) ∧ (∀ d, d < D → Dw δ σ D N d ∧ DC1 (δ d) d g nn ∧ DC2 (δ d) d g ∧ DR1 (δ d) d qr2 qr4 qr6 qr7 ql0 ql1 ∧ DR2 (δ d) d qr3 qr5) ∧ (D = 0 → N = 0) ∧ (l0.length = 24 ∧ nn.length = 64 ∧ (g 5).length = D ∧ (g 6).length = D ∧ (g 7).length = D ∧ (g 8).length = D ∧ (g 9).length = 8 * D) ∧ (qr2.length = 64 ∧ qr3.length = 64 ∧ qr4.length = 64 ∧ qr5.length = 64 ∧ qr6.length = 64 ∧ qr7.length = 512 ∧ ql0.length = 64 ∧ ql1.length = 512) ∧ (qr8.length = 8192 ∧ qr9.length = 8192 ∧ qr10.length = 8192 ∧ qr11.length = 8192 ∧ qr12.length = 8192 ∧ qr13.length = 8192 ∧ qr14.length = 8192 ∧ ql2.length = 8192 ∧ ql3.length = 8192 ∧ qr15.length = 33000 ∧ qr16.length = 33000) ∧ N + D ≤ p ∧ p ≤ n ∧ D ≤ 64
/-- in the head of a definition, ahead of a spot of its form -/
def HI (T : List Int32) (n : Nat) (s t : xSt) (z : Bool) (D p sp : Nat) (σ : Nat → Nd) (N : Nat) (δ : Nat → Dd) (C R : xSt) : Prop := ∃ (g : Nat → List Int32) (nn : List Int64) (i3 i5 i6 i7 i8 i9 : Int32) (j0 : Int64) (l0 : List Int64) (qr2 qr3 qr4 qr5 qr6 qr7 qr8 qr9 qr10 qr11 qr12 qr13 qr14 qr15 qr16 : List Int32) (qi22 qi24 qi25 qi26 qi29 qi30 : Int32) (qj0 : Int64) (ql0 ql1 ql2 ql3 : List Int64), C = (rdC s z g nn ([nI (N + D)]) ([nI sp]) ([lvl (dH (δ D))]) 0 i3 (nI p) i5 i6 i7 i8 i9 (-1) (nI (dP (δ D)).length) j0 l0 false) ∧ R = (rdR t qr2 qr3 qr4 qr5 qr6 qr7 qr8 qr9 qr10 qr11 qr12 qr13 qr14 qr15 qr16 0 qi22 (nI p) qi24 qi25 qi26 (nI D) (nI N) qi29 qi30 qj0 ql0 ql1 ql2 ql3) ∧ (WF 0 T σ N [] [] 0 ∧ DM σ N D ∧ ((∀ j, j < 5 → (g j).length = N + D + 1) ∧ ∀ k, k < N → NC (σ k) (k + nD (σ k) + 1) g) ∧ RA σ N qr8 qr9 qr10 qr11 qr13 qr14 ql2 ql3) ∧ (∀ d, d < D → Dw δ σ D N d ∧ DC1 (δ d) d g nn ∧ DC2 (δ d) d g ∧ DR1 (δ d) d qr2 qr4 qr6 qr7 ql0 ql1 ∧ DR2 (δ d) d qr3 qr5) ∧ (D = 0 → N = 0) ∧ (Dg (δ D) ∧ Dh δ D ∧ dF (δ D) = N ∧ DC1 (δ D) D g nn ∧ DR1 (δ D) D qr2 qr4 qr6 qr7 ql0 ql1) ∧ (l0.length = 24 ∧ (∀ i, i < (dP (δ D)).length → l0.getD i 0 = (dP (δ D)).getD i 0) ∧ nn.length = 64 ∧ (g 5).length = D + 1 ∧ (g 6).length = D + 1 ∧ (g 7).length = D + 1 ∧ (g 8).length = D + 1 ∧ (g 9).length = 8 * (D + 1)) ∧ (qr2.length = 64 ∧ qr3.length = 64 ∧ qr4.length = 64 ∧ qr5.length = 64 ∧ qr6.length = 64 ∧ qr7.length = 512 ∧ ql0.length = 64 ∧ ql1.length = 512) ∧ (qr8.length = 8192 ∧ qr9.length = 8192 ∧ qr10.length = 8192 ∧ qr11.length = 8192 ∧ qr12.length = 8192 ∧ qr13.length = 8192 ∧ qr14.length = 8192 ∧ ql2.length = 8192 ∧ ql3.length = 8192 ∧ qr15.length = 33000 ∧ qr16.length = 33000) ∧ N + D + 1 ≤ p ∧ p ≤ n ∧ D < 64
