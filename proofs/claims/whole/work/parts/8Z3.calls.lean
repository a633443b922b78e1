/-! WHAT HOLDS BETWEEN TWO CALLS OF THE LAW: n calls were made at most -/
def KI (s t : xSt) (n : Nat) : Prop := RT s t ∧ RI s t ∧ RE s t ∧ RO s t ∧ RP s t ∧ RQ s t ∧ (gL t 8).length = 1 ∧ (gR s 0).length ≤ 8 * n
section KCalls
variable {s t : xSt} {n : Nat}
theorem ki_give (h : KI s t n) (v : Int64) (a : Int32) : ∃ b s' t', m133 v a s = some (b, s') ∧ m203 v a t = some (b, t') ∧ KI s' t' (n + 1) := by
  obtain ⟨h1, h2, h3, h4, h5, h6, h7, h8⟩ := h
  obtain ⟨b, s', t', e1, e2, e3, e4, ⟨T', rfl, e5⟩, U', n', rfl⟩ := give_ok2 h1 h6 v a
  exact ⟨b, _, _, e1, e2, e3, h2, h3, h4, h5, e4, h7, by show T'.length ≤ _; omega⟩
theorem ki_edit {s' t' : xSt} (h : KI s t n) (hE : RE s' t') (h1 : SF s s') (h2 : TF t t') : KI s' t' (n + 1) := by
  obtain ⟨h1', h2', h3, h4, h5, h6, h7, h8⟩ := h
  have hq := rq_edit h6 h1 h2
  obtain ⟨x, y, rfl⟩ := h1
  obtain ⟨x', b, c, rfl⟩ := h2
  exact ⟨h1', h2', hE, h4, h5, hq, h7, by show (gR s 0).length ≤ _; omega⟩
theorem ki_ins (h : KI s t n) (a1 a2 : Int32) : ∃ b s' t', m137 a1 a2 s = some (b, s') ∧ m224 a1 a2 t = some (b, t') ∧ KI s' t' (n + 1) := by
  obtain ⟨b, s', t', e1, e2, e3, e4, e5⟩ := ins_ok h.2.2.1 a1 a2
  exact ⟨b, s', t', e1, e2, ki_edit h e3 e4 e5⟩
theorem ki_rep (h : KI s t n) (a1 a2 : Int32) : ∃ b s' t', m138 a1 a2 s = some (b, s') ∧ m225 a1 a2 t = some (b, t') ∧ KI s' t' (n + 1) := by
  obtain ⟨b, s', t', e1, e2, e3, e4, e5⟩ := rep_ok h.2.2.1 a1 a2
  exact ⟨b, s', t', e1, e2, ki_edit h e3 e4 e5⟩
theorem ki_del (h : KI s t n) (a1 a2 : Int32) : ∃ b s' t', m139 a1 a2 s = some (b, s') ∧ m226 a1 a2 t = some (b, t') ∧ KI s' t' (n + 1) := by
  obtain ⟨b, s', t', e1, e2, e3, e4, e5⟩ := del_ok h.2.2.1 a1 a2
  exact ⟨b, s', t', e1, e2, ki_edit h e3 e4 e5⟩
theorem ki_rev (h : KI s t n) (a1 a2 : Int32) : ∃ b s' t', m140 a1 a2 s = some (b, s') ∧ m228 a1 a2 t = some (b, t') ∧ KI s' t' (n + 1) := by
  obtain ⟨b, s', t', e1, e2, e3, e4, e5⟩ := rev_ok h.2.2.1 a1 a2
  exact ⟨b, s', t', e1, e2, ki_edit h e3 e4 e5⟩
theorem ki_drop (h : KI s t n) : ∃ s' t', m141 s = some s' ∧ m205 t = some t' ∧ KI s' t' (n + 1) := by
  obtain ⟨s', t', e1, e2, e3, e4, e5, e6⟩ := drop_ok h.2.1 h.2.2.1.2.2.2.1
  refine ⟨s', t', ?_, e2, ki_edit h e4 e5 e6⟩
  unfold m141
  rw [e1, bs]
theorem ki_apply (h : KI s t n) : ∃ r s' t', m142 s = some (r, s') ∧ m229 t = some (r, t') ∧ KI s' t' (n + 1) := by
  obtain ⟨h1, h2, h3, h4, h5, h6, h7, h8⟩ := h
  obtain ⟨r, s', t', e1, e2, k1, k2, k3, k4, k5, k6, k7, k8⟩ := apply_ok2 h1 h2 h3 h4 h5 h6
  exact ⟨r, s', t', e1, e2, k1, k2, k3, k4, k5, k6, by rw [k8]; exact h7, by rw [k7]; omega⟩
theorem ki_take (h : KI s t n) (hn : n ≤ 511) : ∃ r s' t', m134 s = some (r, s') ∧ m204 t = some (r, t') ∧ KI s' t' (n + 1) := by
  obtain ⟨h1, h2, h3, h4, h5, h6, h7, h8⟩ := h
  obtain ⟨r, s', t', e1, e2, k1, k2, k3, k4, k5, k6, k7, k8⟩ := takeP_ok h1 h2 h3 h4 h5 h6 (by omega)
  exact ⟨r, s', t', e1, e2, k1, k2, k3, k4, k5, k6, by rw [k8]; exact h7, by rw [k7]; exact Nat.zero_le _⟩
theorem ki_0 (h : KI s t n) (b : Int32) : KI s (sI t 0 b) (n + 1) := by
  obtain ⟨h1, h2, h3, h4, h5, h6, h7, h8⟩ := h
  exact ⟨h1, h2, h3, h4, h5, h6, h7, by omega⟩
theorem ki_out (h : KI s t n) {x : List Int64} (hx : x.length = 1) : KI s (sL t 8 x) n := by
  obtain ⟨h1, h2, h3, h4, h5, h6, h7, h8⟩ := h
  exact ⟨h1, h2, h3, h4, h5, h6, hx, h8⟩
theorem ki_look (h : KI s t n) (a : Int32) : ∃ r, m144 a s = some (r, s) ∧ m233 a t = some (r, sI t 0 0) := look_ok h.1 h.2.1 h.2.2.1 h.2.2.2.1 h.2.2.2.2.1 a
/-- the int at a place of a list, and whether there is one -/
def inB (xs : List Int32) (a : Int32) : Prop := ¬ a < 0 ∧ a < nI xs.length
theorem inB_nat {xs : List Int32} {j : Nat} (hj : j < 2 ^ 31) (hl : xs.length < 2 ^ 31) : inB xs (nI j) ↔ j < xs.length := by
  unfold inB
  rw [ltN hj hl]
  constructor
  · intro h; exact h.2
  · intro h; exact ⟨by show ¬ nI j < nI 0; rw [ltN hj (by decide)]; omega, h⟩
theorem arr_get {xs ys : List Int32} {a : Int32} (hA : ArrR ys xs) (hl : xs.length < 2 ^ 31) (h : inB xs a) : xsGet ys a = some (xsAt xs a) := by
  obtain ⟨j, hj, rfl⟩ := iv_n h.1
  rw [inB_nat hj hl] at h
  rw [xsGet_d hj (Nat.lt_of_lt_of_le h hA.1), xsAt_n hj, hA.2 j h]
theorem ref_out (h : KI s t n) (a : Int32) : (inB (gR s 16) a → m231 a t = some (xsAt (gR s 16) a, sI t 0 0)) ∧ (¬ inB (gR s 16) a → m231 a t = some (0, sI t 0 1)) := by
  obtain ⟨h1, h2, h3, ⟨⟨o1, o2, o3, o4⟩, o5, o6, o7, o8⟩, h5, h6, h7, h8⟩ := h
  have e1 : m231_24 a t = some (0, sI t 0 1) := by
    show (if (1 : Int32) ≤ 0 then (xsGet (gR t 47) a).bind fun v4 => some (v4, sI t 0 1) else some (0, sI t 0 1)) = _
    rw [if_neg (by decide)]
  have e0 : m231_25 a false t = (xsGet (gR t 47) a).bind fun v4 => some (v4, sI t 0 0) := by
    show (if (0 : Int32) ≤ 0 then (xsGet (gR t 47) a).bind fun v4 => some (v4, sI t 0 0) else some (0, sI t 0 0)) = _
    rw [if_pos (by decide)]
  unfold m231
  rw [← o4]
  cases z : gZ s 2
  · rw [if_neg ff, o8 z]
    refine ⟨fun q => ?_, fun _ => e1⟩
    obtain ⟨q1, q2⟩ := q
    exact absurd q2 q1
  · rw [if_pos rfl]
    obtain ⟨p1, p2, p3⟩ := o7 z
    rw [p2]
    refine ⟨fun q => ?_, fun q => ?_⟩
    · rw [if_neg q.1, if_neg (by rw [Int32.not_le]; exact q.2), e0, arr_get p3 (by omega) q, bs]
    · by_cases q1 : a < 0
      · rw [if_pos q1, e1]
      · rw [if_neg q1]
        by_cases q2 : nI (gR s 16).length ≤ a
        · rw [if_pos q2, e1]
        · exact absurd ⟨q1, by rw [Int32.not_le] at q2; exact q2⟩ q
def inL (s : xSt) (b : Bool) : List Int32 := bif b then gR s 15 else gR s 14
theorem ref_in (h : KI s t n) (a : Int32) (b : Bool) : (inB (inL s b) a → m232 a b t = some (xsAt (inL s b) a, sI t 0 0)) ∧ (¬ inB (inL s b) a → m232 a b t = some (0, sI t 0 1)) := by
  obtain ⟨h1, ⟨i1, i2, i3, i4⟩, ⟨r1, r2, r3, r4, r5⟩, -⟩ := h
  have e1 : m232_28 a b t = some (0, sI t 0 1) := by
    unfold m232_28 m232_29
    rw [if_neg (by decide)]
    rfl
  have e0 : m232_29 a b false t = if b = true then (xsGet (gR t 46) a).bind fun v4 => some (v4, sI t 0 0) else (xsGet (gR t 45) a).bind fun v5 => some (v5, sI t 0 0) := by
    unfold m232_29
    rw [if_pos (by decide)]
    rfl
  unfold m232 m232_21
  rw [r2, i2]
  cases b
  · rw [if_neg ff]
    rw [if_neg ff] at e0
    show (inB (gR s 14) a → _) ∧ (¬ inB (gR s 14) a → _)
    refine ⟨fun q => ?_, fun q => ?_⟩
    · rw [if_neg q.1, if_neg (by rw [Int32.not_le]; exact q.2), e0, arr_get i3 (by omega) q, bs]
      rfl
    · by_cases q1 : a < 0
      · rw [if_pos q1, e1]
      · rw [if_neg q1]
        by_cases q2 : nI (gR s 14).length ≤ a
        · rw [if_pos q2, e1]
        · exact absurd ⟨q1, by rw [Int32.not_le] at q2; exact q2⟩ q
  · rw [if_pos rfl]
    rw [if_pos rfl] at e0
    show (inB (gR s 15) a → _) ∧ (¬ inB (gR s 15) a → _)
    refine ⟨fun q => ?_, fun q => ?_⟩
    · rw [if_neg q.1, if_neg (by rw [Int32.not_le]; exact q.2), e0, arr_get r3 (by omega) q, bs]
      rfl
    · by_cases q1 : a < 0
      · rw [if_pos q1, e1]
      · rw [if_neg q1]
        by_cases q2 : nI (gR s 15).length ≤ a
        · rw [if_pos q2, e1]
        · exact absurd ⟨q1, by rw [Int32.not_le] at q2; exact q2⟩ q
end KCalls
theorem ki_start : KI iS iT 0 := by
  refine ⟨⟨⟨rfl, by decide, List.length_replicate, fun i hi => absurd hi (Nat.not_lt_zero _)⟩, rfl⟩, ⟨by decide, rfl, ⟨Nat.zero_le _, fun j hj => absurd hj (Nat.not_lt_zero _)⟩, List.length_replicate⟩, ⟨by decide, rfl, ⟨Nat.zero_le _, fun j hj => absurd hj (Nat.not_lt_zero _)⟩, List.length_replicate, 0, by decide, rfl, rfl⟩, ⟨⟨rfl, rfl, rfl, rfl⟩, by decide, List.length_replicate, fun h => (by cases h), fun _ => rfl⟩, ⟨⟨List.length_replicate, List.length_replicate, List.length_replicate, List.length_replicate, List.length_replicate, List.length_replicate, List.length_replicate, List.length_replicate⟩, rfl, fun h => (by cases h)⟩, ?_, List.length_replicate, Nat.zero_le _⟩
  refine ⟨⟨List.length_replicate, fun _ => List.length_replicate, List.length_replicate⟩, List.length_replicate, ?_, ?_, ?_, ?_, fun x hx => ?_⟩
  · refine ⟨?_, ?_, ?_, ?_, ?_, ?_, ?_, ?_⟩ <;> exact List.length_replicate
  · refine ⟨?_, ?_, ?_, ?_, ?_, ?_, ?_, ?_, ?_, ?_, ?_⟩ <;> exact List.length_replicate
  · refine ⟨⟨?_, ?_, ?_, ?_, ?_, ?_, ?_, ?_, ?_, ?_, ?_, ?_, ?_, ?_, ?_⟩, ?_, ?_, ?_⟩ <;> exact List.length_replicate
  · refine ⟨?_, ?_, ?_, ?_, ?_, ?_, ?_, ?_, ?_, ?_, ?_, ?_, ?_, ?_⟩ <;> exact List.length_replicate
  · have : x = 0 := List.eq_of_mem_replicate (show x ∈ List.replicate (nRi 0) (0 : Int32) from hx)
    rw [this]
    decide
