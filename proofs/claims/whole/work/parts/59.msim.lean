/-! THE RUN of both, side by side -/
def wS (σ : xG) : List (Nat × Nat × Nat) → Nat
  | [] => 0
  | (k, i, _) :: w => (if yk σ k = 13 then 1 + i else 1) + wS σ w
def kS (σ : xG) : List (Nat × Nat × Nat) → Nat
  | [] => 0
  | (k, _, _) :: w => (if yk σ k = 12 ∨ yk σ k = 22 then 1 else 0) + kS σ w
/-- the cells -/
def HRel (cl md : Nat) (hd Hd Tl hds tls : List Int32) : Prop := Hd.length = cl + 1 ∧ Tl.length = cl + 1 ∧ hds.length = 12200 ∧ tls.length = 12200 ∧ hd.length = 12400 ∧ ∀ a, 1 ≤ a → a ≤ cl → Hd.getD a 0 = hds.getD a 0 ∧ ∃ m a', m ≤ md ∧ a' < a ∧ tls.getD a 0 = nI m ∧ hd.getD m 0 = nI a' ∧ Tl.getD a 0 = nI a'
def ARel (w : List (Nat × Nat × Nat)) (os vars wn wp wb ops : List Int32) : Prop := wat w wn wp wb ∧ oat os ops ∧ vars.length = 290000 ∧ wn.length = 12100 ∧ wp.length = 12100 ∧ wb.length = 12100 ∧ ops.length = 100000
def NRel (σ : xG) (n0 : Nat) (w : List (Nat × Nat × Nat)) (ns ps vs os Sl : List Int32) (cl md L LR st cred : Nat) : Prop := n0 ≤ cl ∧ 3 * cl + wS σ w + cred ≤ st + 3 * n0 ∧ kS σ w + L + vs.length ≤ st + 1 ∧ Sl.length ≤ st + 1 ∧ L ≤ Sl.length ∧ w.length ≤ st ∧ ns.length ≤ w.length ∧ ps.length = ns.length ∧ os.length = vs.length ∧ md + w.length ≤ n0 + 1 + st ∧ LR ≤ 24 * w.length + 24 ∧ st ≤ 6000
/-- a node is to be evaluated -/
def FocE (σ : xG) (k : Nat) (w : List (Nat × Nat × Nat)) (ns ps vs os Sl hd vars : List Int32) (cb rb cl md L LR : Nat) : Prop := k < yN σ ∧ rb ≤ 24 * w.length ∧ ev cl md hd Sl vars cb rb (ye σ k) ∧ L = cb + (ye σ k).length ∧ LR = rb + (ye σ k).length ∧ Stk σ cl md hd Sl vars w ns ps cb L LR vs os (yt σ k)
/-- a value is there -/
def FocV (σ : xG) (τ : Nat) (w : List (Nat × Nat × Nat)) (ns ps vs os Sl hd vars : List Int32) (cb cl md L LR : Nat) : Prop := ∃ v r vs' os', vs = v :: vs' ∧ os = r :: os' ∧ vr cl md hd τ v r ∧ Stk σ cl md hd Sl vars w ns ps cb L LR vs' os' τ
/-- the end of both -/
def FIN (s t : xSt) (n0 : Nat) (b : Bool) (S' T' : xSt) : Prop := ∃ N P V Sl Hd Tl i12 i13 hds tls hd vars wn wp wb ops j12 j13 j14 j15 j16 j18 st, S' = cS s N P V Sl Hd Tl i12 i13 (nI st) ∧ T' = rS t hds tls hd vars wn wp wb ops j12 j13 j14 j15 j16 (nI st) j18 ∧ st ≤ 6001 ∧ (hds.length = 12200 ∧ tls.length = 12200 ∧ hd.length = 12400 ∧ vars.length = 290000 ∧ wn.length = 12100 ∧ wp.length = 12100 ∧ wb.length = 12100 ∧ ops.length = 100000) ∧ (b = true → ∃ cl md v, V = [v] ∧ vr cl md hd 3 v (ops.getD 0 0) ∧ HRel cl md hd Hd Tl hds tls ∧ cl ≤ n0 + 2000 ∧ md < 12400)
section Sim
variable {σ : xG} {s t : xSt} {n0 : Nat}
theorem sc_kind (hP : SP σ) (hC : SC σ s (gZ s 6)) {k : Nat} (hk : k < yN σ) : xsAt (gP s (gZ s 6) 0) (nI (yf σ k)) = nI (ck (yk σ k)) := by
  have hN := hP.2.2.2.2.2.1
  have hM := hP.2.2.2.2.2.2.1
  have hd := hP.2.2.2.2.2.2.2 k hk
  rw [xsAt_n (by unfold yf; omega), (hC.1 k hk).1]
theorem sc_dep (hP : SP σ) (hC : SC σ s (gZ s 6)) {k : Nat} (hk : k < yN σ) : xsAt (gP s (gZ s 6) 3) (nI (yf σ k)) = nI (ye σ k).length := by
  have hN := hP.2.2.2.2.2.1
  have hM := hP.2.2.2.2.2.2.1
  have hd := hP.2.2.2.2.2.2.2 k hk
  rw [xsAt_n (by unfold yf; omega), (hC.1 k hk).2.1]
theorem sc_end (hP : SP σ) (hC : SC σ s (gZ s 6)) {k : Nat} (hk : k < yN σ) : xsAt (gP s (gZ s 6) 4) (nI (yf σ k)) = nI (yf σ k + yz σ k) := by
  have hN := hP.2.2.2.2.2.1
  have hM := hP.2.2.2.2.2.2.1
  have hd := hP.2.2.2.2.2.2.2 k hk
  rw [xsAt_n (by unfold yf; omega), (hC.1 k hk).2.2.1]
theorem yf_lt (hP : SP σ) {k : Nat} (hk : k < yN σ) : yf σ k < 5000 := by
  have hN := hP.2.2.2.2.2.1
  have hM := hP.2.2.2.2.2.2.1
  have hd := hP.2.2.2.2.2.2.2 k hk
  unfold yf
  omega
theorem yf_part (hP : SP σ) {k i : Nat} (hk : k < yN σ) (hi : i < yn σ k) : yf σ (yo σ k i) = yf σ k + (yo σ k i - k) := by
  have h1 := yo_ge hP hk i (by omega)
  have h2 := ((hP.1 k hk).1.2.2.2.2 i hi).2
  unfold yf
  rw [h2]
  omega
theorem yz_lt (hP : SP σ) {k : Nat} (hk : k < yN σ) : k + yz σ k ≤ yN σ + yz σ k := by omega
theorem ck_lt (r : Nat) : ck r < 100 ∨ 23 < r := by
  unfold ck
  repeat' split
  all_goals omega
/-- too many steps -/
theorem fin_no {F X n W : Nat} {N P V Sl Hd Tl hds tls hd vars wn wp wb ops : List Int32} {i12 i13 j12 j13 j14 j16 j18 : Int32} (hX : X < 1000000) (hN : N.length < 2 ^ 30) (hW : W < 2 ^ 30) (hl : hds.length = 12200 ∧ tls.length = 12200 ∧ hd.length = 12400 ∧ vars.length = 290000 ∧ wn.length = 12100 ∧ wp.length = 12100 ∧ wb.length = 12100 ∧ ops.length = 100000) :
    ∃ b S' T', m115_r78_43 (F + 1) (nI X) (cS s N P V Sl Hd Tl i12 i13 (nI 6001)) = some (b, S') ∧ m211_105 (n + 1) (rS t hds tls hd vars wn wp wb ops j12 j13 j14 (nI W) j16 (nI 6001) j18) = some (b, T') ∧ FIN s t n0 b S' T' := by
  refine ⟨false, _, _, cl_end hX (by omega) hN (by omega), rl_end (by omega) hW (Or.inl (by omega)), N, P, V, Sl, Hd, Tl, i12, i13, hds, tls, hd, vars, wn, wp, wb, ops, j12, j13, j14, nI W, j16, j18, 6001, rfl, rfl, by omega, hl, fun h => by cases h⟩
end Sim
