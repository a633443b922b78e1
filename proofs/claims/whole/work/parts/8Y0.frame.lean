/-! what else is kept between calls: lengths, and bytes -/
def cv8 (x : Int32) : Int32 := Int8.toInt32 (Int32.toInt8 x)
def RQ2 (t : xSt) : Prop := (gR t 2).length = 64 ∧ (gR t 3).length = 64 ∧ (gR t 4).length = 64 ∧ (gR t 5).length = 64 ∧ (gR t 6).length = 64 ∧ (gR t 7).length = 512 ∧ (gL t 0).length = 64 ∧ (gL t 1).length = 512
def RQ8 (t : xSt) : Prop := (gR t 8).length = 8192 ∧ (gR t 9).length = 8192 ∧ (gR t 10).length = 8192 ∧ (gR t 11).length = 8192 ∧ (gR t 12).length = 8192 ∧ (gR t 13).length = 8192 ∧ (gR t 14).length = 8192 ∧ (gL t 2).length = 8192 ∧ (gL t 3).length = 8192 ∧ (gR t 15).length = 33000 ∧ (gR t 16).length = 33000
def RQ17 (t : xSt) : Prop := ((gR t 17).length = 64 ∧ (gR t 18).length = 64 ∧ (gR t 19).length = 64 ∧ (gR t 20).length = 512 ∧ (gR t 21).length = 65 ∧ (gR t 22).length = 4096 ∧ (gR t 23).length = 4096 ∧ (gR t 24).length = 4096 ∧ (gR t 25).length = 4096 ∧ (gR t 26).length = 4096 ∧ (gR t 27).length = 4096 ∧ (gL t 4).length = 64 ∧ (gL t 5).length = 512 ∧ (gL t 6).length = 4096 ∧ (gL t 7).length = 4096) ∧ (gR t 28).length = 4096 ∧ (gR t 29).length = 4096 ∧ (gR t 30).length = 4096
def RQ31 (t : xSt) : Prop := (gR t 31).length = 4200 ∧ (gR t 32).length = 4200 ∧ (gR t 33).length = 4200 ∧ (gR t 34).length = 4200 ∧ (gR t 35).length = 4200 ∧ (gR t 36).length = 4200 ∧ (gR t 37).length = 64 ∧ (gR t 38).length = 4200 ∧ (gR t 39).length = 4200 ∧ (gR t 40).length = 4200 ∧ (gR t 41).length = 4200 ∧ (gR t 42).length = 4200 ∧ (gR t 43).length = 4200 ∧ (gR t 44).length = 64
def RQC (s : xSt) : Prop := (gL s 0).length = 24 ∧ (∀ z, (gN s z).length = 64) ∧ (gR s 7).length = 24
def RQ (s t : xSt) : Prop := RQC s ∧ (gR t 1).length = 8192 ∧ RQ2 t ∧ RQ8 t ∧ RQ17 t ∧ RQ31 t ∧ ∀ x ∈ gR t 0, cv8 x = x
section Frame
variable {s t s' t' : xSt}
theorem cv8_cv8 (x : Int32) : cv8 (cv8 x) = cv8 x := by
  unfold cv8
  rw [Int8.toInt8_toInt32]
theorem mem_set' {α : Type} {l : List α} {i : Nat} {v x : α} (h : x ∈ l.set i v) : x ∈ l ∨ x = v := List.mem_or_eq_of_mem_set h
theorem put_by {l l' : List Int32} {i v : Int32} (h : xsPut l i (cv8 v) = some l') (hb : ∀ x ∈ l, cv8 x = x) : ∀ x ∈ l', cv8 x = x := by
  unfold xsPut at h
  split at h
  · cases h
  · split at h
    · injection h with h
      subst h
      intro x hx
      rcases mem_set' hx with q | q
      · exact hb x q
      · rw [q]; exact cv8_cv8 v
    · cases h
theorem give_by {v : Int64} : ∀ (f : Nat) (x : Int32) (t : xSt) (b : Bool) (t' : xSt), m203_35 f v x t = some (b, t') → (∀ x ∈ gR t 0, cv8 x = x) → ∀ x ∈ gR t' 0, cv8 x = x := by
  intro f
  induction f with
  | zero => intro x t b t' h; cases h
  | succ f ih =>
    intro x t b t' h hb
    rw [m203_35] at h
    split at h
    · injection h with h
      injection h with h1 h2
      subst h2
      exact hb
    · cases hp : xsPut (gR t 0) (gI t 1) (Int8.toInt32 (Int32.toInt8 (Int8.toInt32 (Int32.toInt8 (Int64.toInt32 (v >>> ((Int32.toInt64 (8 * x)) &&& 63))))))) with
      | none => rw [hp] at h; cases h
      | some u =>
        rw [hp, bs] at h
        exact ih _ _ _ _ h (put_by (v := Int8.toInt32 (Int32.toInt8 (Int64.toInt32 (v >>> ((Int32.toInt64 (8 * x)) &&& 63))))) hp hb)
theorem give_ok2 (h : RT s t) (hq : RQ s t) (v : Int64) (a : Int32) : ∃ b s' t', m133 v a s = some (b, s') ∧ m203 v a t = some (b, t') ∧ RT s' t' ∧ RQ s' t' ∧ (∃ T', s' = sR s 0 T' ∧ T'.length ≤ (gR s 0).length + 8) ∧ ∃ U' n', t' = sI (sR (sI t 0 0) 0 U') 1 n' := by
  obtain ⟨b, s', t', h1, h2, h3, ⟨T', rfl, h4⟩, U', n', rfl⟩ := give_ok h v a
  refine ⟨b, _, _, h1, h2, h3, ?_, ⟨T', rfl, h4⟩, U', n', rfl⟩
  obtain ⟨q1, q2, q3, q4, q5, q6, q7⟩ := hq
  refine ⟨q1, q2, q3, q4, q5, q6, ?_⟩
  unfold m203 at h2
  split at h2
  · injection h2 with h2
    injection h2 with _ h2
    rw [← h2]
    exact q7
  · split at h2
    · injection h2 with h2
      injection h2 with _ h2
      rw [← h2]
      exact q7
    · split at h2
      · exact give_by _ _ _ _ _ h2 q7
      · injection h2 with h2
        injection h2 with _ h2
        rw [← h2]
        exact q7
theorem rq_edit (hq : RQ s t) (h1 : SF s s') (h2 : TF t t') : RQ s' t' := by
  obtain ⟨x, y, rfl⟩ := h1
  obtain ⟨x', b, c, rfl⟩ := h2
  exact hq
theorem apply_ok2 (hT : RT s t) (hI : RI s t) (hE : RE s t) (hO : RO s t) (hP : RP s t) (hQ : RQ s t) : ∃ r s' t', m142 s = some (r, s') ∧ m229 t = some (r, t') ∧ RT s' t' ∧ RI s' t' ∧ RE s' t' ∧ RO s' t' ∧ RP s' t' ∧ RQ s' t' ∧ gR s' 0 = gR s 0 ∧ gL t' 8 = gL t 8 := by
  have hO' := hO
  have hP' := hP
  obtain ⟨⟨o1, o2, o3, o4⟩, o5, o6, o7, o8⟩ := hO
  obtain ⟨p1, p2, p3⟩ := hP
  unfold m142 m229
  cases z : gZ s 2
  · rw [← o4, z, if_neg ff, if_neg ff]
    obtain ⟨s', t', y, e1, e2, e3, e4, e5, e6⟩ := become_ok (t := sI t 0 0) hI hE
    rw [e1, e2, bs, bs]
    subst e5 e6
    exact ⟨_, _, _, rfl, rfl, hT, e3, e4, hO', hP', hQ, rfl, rfl⟩
  · rw [← o4, z, if_pos rfl, if_pos rfl]
    obtain ⟨σ, s1, s2, s3⟩ := p3 z
    obtain ⟨b, S, T, r1, r2, r3⟩ := run81 (s := s) (t := sI t 0 0) s1 (z := gZ s 0) s2 (show SR σ (sI t 0 0) from s3) (xs := gR s 15) rfl hE.1 hE.2.2.1 p1
    rw [hE.2.1, r1, r2, bs, bs]
    obtain ⟨k1, k2, k3⟩ := fin_keep r3
    cases b
    · rw [if_neg ff, if_neg ff]
      obtain ⟨N, P, V, Sl, Hd, Tl, i12, i13, i14, rfl⟩ := k1
      obtain ⟨hds, tls, hd, vars, wn, wp, wb, ops, j12, j13, j14, j15, j16, j17, j18, rfl⟩ := k2
      exact ⟨_, _, _, rfl, rfl, hT, hI, hE, hO', ⟨k3, p2, fun _ => ⟨σ, s1, s2, s3⟩⟩, hQ, rfl, rfl⟩
    · rw [if_pos rfl, if_pos rfl]
      obtain ⟨N, P, V, Sl, Hd, Tl, i12, i13, hds, tls, hd, vars, wn, wp, wb, ops, j12, j13, j14, j15, j16, j18, st, rfl, rfl, f1, f2, f3⟩ := r3
      obtain ⟨s', t', y, e1, e2, e3, e4, e5, e6⟩ := become_ok (s := cS (sZ s 6 (gZ s 0)) N P V Sl Hd Tl i12 i13 (nI st)) (t := rS (sI t 0 0) hds tls hd vars wn wp wb ops j12 j13 j14 j15 j16 (nI st) j18) hI hE
      rw [cS_move] at e5
      rw [rS_move] at e6
      have hF2 : FIN (sI (sR (sR (sZ s 6 (gZ s 0)) 14 (gR s 15)) 15 (gR s 15)) 15 0) (sI (sR (sI (sI t 0 0) 7 (gI t 8)) 45 y) 9 0) (gR s 15).length true s' t' := ⟨N, P, V, Sl, Hd, Tl, i12, i13, hds, tls, hd, vars, wn, wp, wb, ops, j12, j13, j14, j15, j16, j18, st, e5, e6, f1, f2, f3⟩
      obtain ⟨zs, ys, q1, q2, q3, q4, q5, q6⟩ := out_ok hE.1 hF2 o6
      rw [e1, bs, e2, bs, q1, q2, bs, bs]
      subst e5 e6
      refine ⟨_, _, _, rfl, rfl, hT, e3, e4, ⟨⟨o1, o2, ?_, o4⟩, q5, q4, fun _ => ⟨q6, rfl, q3⟩, fun q => ?_⟩, ⟨f2, p2, fun _ => ⟨σ, s1, s2, s3⟩⟩, hQ, rfl, rfl⟩
      · show gI s 1 + 1 = gI t 4 + 1
        rw [o3]
      · have q' : gZ s 2 = false := q
        rw [z] at q'
        cases q'
end Frame
