section Sm133
variable {V : xmV} {L : List Nat} {Kc Ks : Nat} {Q : List xE}
theorem m133_33_ok   : ∀ (n : Nat) (x1 : Int64) (x4 : Int32) (s : xSt) (q : Bool × xSt), m133_33  n x1 x4 s = some q → HE V L Kc Ks 133 (33, [(0, .ref 0), (1, .long x1), (4, .int x4)], [], (hpC s, Q)) (some (.int (b01 q.1))) (hpC q.2, Q) := by
  intro n
  induction n with
  | zero => intro x1 x4 s q h; cases h
  | succ n ih =>
    intro x1 x4 s q h
    unfold m133_33 at h
    refine h_it 1 (x' := (35, [(0, .ref 0), (1, .long x1), (4, .int x4)], [.int x4], (hpC s, Q))) rfl ?_
    refine h_br (b := decide (x4 < 0)) (t := 63) (f := 38) (lv' := [(0, .ref 0), (1, .long x1), (4, .int x4)]) (st' := []) rfl rfl ?_
    by_cases h4 : x4 < 0
    · replace h := if_y h4 h
      refine h_y h4 ?_
      replace h := Option.some.inj h; subst h
      refine h_it 1 (x' := (64, [(0, .ref 0), (1, .long x1), (4, .int x4)], [.int (b01 true)], (hpC s, Q))) rfl ?_
      exact h_zret rfl rfl
    · replace h := if_n h4 h
      refine h_n h4 ?_
      refine h_it 13 (x' := (33, [(4, .int (x4 + (-1))), (0, .ref 0), (1, .long x1)], [], (hpC (sR s 0 (xsPush 8192 (gR s 0) ((Int64.toInt32 ((Int64.toUInt64 x1) >>> ((Int64.toUInt64 (Int32.toInt64 (8 * x4))) &&& Int64.toUInt64 63)).toInt64) &&& 255))), Q))) rfl ?_
      refine h_lw (lv := [(0, .ref 0), (1, .long x1), (4, .int (x4 + (-1)))]) (fa_c rfl (fa_c rfl (fa_c rfl (fa_n)))) rfl ?_
      exact ih x1 (x4 + (-1)) (sR s 0 (xsPush 8192 (gR s 0) ((Int64.toInt32 ((Int64.toUInt64 x1) >>> ((Int64.toUInt64 (Int32.toInt64 (8 * x4))) &&& Int64.toUInt64 63)).toInt64) &&& 255))) _ h
theorem m133_ok {l1 : Int64} {a2 : Int32} {s : xSt} {q : Bool × xSt} (h : m133 l1 a2 s = some q) : HC V L Kc Ks 133 [.ref 0, .long l1, .int a2] (hpC s, Q) (some (.int (b01 q.1))) (hpC q.2, Q) := by
  unfold m133 at h
  refine hc_of (by decide) rfl ?_
  refine h_it 2 (x' := (2, [(0, .ref 0), (1, .long l1), (3, .int a2)], [.int 1, .int a2], (hpC s, Q))) rfl ?_
  refine h_br (b := decide (a2 < 1)) (t := 26) (f := 5) (lv' := [(0, .ref 0), (1, .long l1), (3, .int a2)]) (st' := []) rfl rfl ?_
  by_cases h1 : a2 < 1
  · replace h := if_y h1 h
    refine h_y h1 ?_
    replace h := Option.some.inj h; subst h
    refine h_it 1 (x' := (27, [(0, .ref 0), (1, .long l1), (3, .int a2)], [.int (b01 false)], (hpC s, Q))) rfl ?_
    exact h_zret rfl rfl
  · replace h := if_n h1 h
    refine h_n h1 ?_
    refine h_it 2 (x' := (8, [(0, .ref 0), (1, .long l1), (3, .int a2)], [.int 8, .int a2], (hpC s, Q))) rfl ?_
    refine h_br (b := decide (8 < a2)) (t := 26) (f := 11) (lv' := [(0, .ref 0), (1, .long l1), (3, .int a2)]) (st' := []) rfl rfl ?_
    by_cases h2 : 8 < a2
    · replace h := if_y h2 h
      refine h_y h2 ?_
      replace h := Option.some.inj h; subst h
      refine h_it 1 (x' := (27, [(0, .ref 0), (1, .long l1), (3, .int a2)], [.int (b01 false)], (hpC s, Q))) rfl ?_
      exact h_zret rfl rfl
    · replace h := if_n h2 h
      refine h_n h2 ?_
      refine h_it 6 (x' := (23, [(0, .ref 0), (1, .long l1), (3, .int a2)], [.int 8192, .int ((nI ((gR s 0)).length) + a2)], (hpC s, Q))) rfl ?_
      refine h_br (b := decide (((nI ((gR s 0)).length) + a2) ≤ 8192)) (t := 28) (f := 26) (lv' := [(0, .ref 0), (1, .long l1), (3, .int a2)]) (st' := []) rfl rfl ?_
      by_cases h3 : ((nI ((gR s 0)).length) + a2) ≤ 8192
      · replace h := if_y h3 h
        refine h_y h3 ?_
        refine h_it 4 (x' := (33, [(4, .int (a2 - 1)), (0, .ref 0), (1, .long l1), (3, .int a2)], [], (hpC s, Q))) rfl ?_
        refine h_lw (lv := [(0, .ref 0), (1, .long l1), (4, .int (a2 - 1))]) (fa_c rfl (fa_c rfl (fa_c rfl (fa_n)))) rfl ?_
        exact m133_33_ok  1000000 l1 (a2 - 1) s _ h
      · replace h := if_n h3 h
        refine h_n h3 ?_
        replace h := Option.some.inj h; subst h
        refine h_it 1 (x' := (27, [(0, .ref 0), (1, .long l1), (3, .int a2)], [.int (b01 false)], (hpC s, Q))) rfl ?_
        exact h_zret rfl rfl
end Sm133
section Sm12
variable {V : xmV} {L : List Nat} {Kc Ks : Nat} {Q : List xE}
theorem m12_ok  (s : xSt) : HC V L Kc Ks 12 [.ref 47] (hpC s, Q) (none) (hpC (sI (sI s 2 0) 3 (-1)), Q) := by
  refine hc_of (by decide) rfl ?_
  refine h_it 6 (x' := (10, [(0, .ref 47)], [], (hpC (sI (sI s 2 0) 3 (-1)), Q))) rfl ?_
  exact h_vret rfl rfl
end Sm12
section Sm53
variable {V : xmV} {L : List Nat} {Kc Ks : Nat} {Q : List xE}
theorem m53f_ok  {s : xSt} {q : xSt} (h : m53f  s = some q) : HC V L Kc Ks 53 [.ref (pa false)] (hpC s, Q) (none) (hpC q, Q) := by
  unfold m53f at h
  refine hc_of (by decide) rfl ?_
  refine h_it 19 (x' := (37, [(0, .ref (pa false))], [.int 0, .ref 10], (hpC (sP (sP (sP (sP s false 0 (xsCut (gP s false 0) 0)) false 1 (xsCut (gP s false 1) 0)) false 2 (xsCut (gP s false 2) 0)) false 3 (xsCut (gP s false 3) 0)), Q))) rfl ?_
  refine (show ∀ w : xSt, HE V L Kc Ks 53 (40, [(0, .ref (pa false))], [], (hpC (sP w false 4 (xsCut (gP w false 4) 0)), Q)) _ _ → HE V L Kc Ks 53 (37, [(0, .ref (pa false))], [.int 0, .ref 10], (hpC w, Q)) _ _ from fun w e => h_it 1 rfl e) (sP (sP (sP (sP s false 0 (xsCut (gP s false 0) 0)) false 1 (xsCut (gP s false 1) 0)) false 2 (xsCut (gP s false 2) 0)) false 3 (xsCut (gP s false 3) 0)) ?_
  show HE V L Kc Ks 53 (40, [(0, .ref (pa false))], [], (hpC (sP (sP (sP (sP (sP s false 0 (xsCut (gP s false 0) 0)) false 1 (xsCut (gP s false 1) 0)) false 2 (xsCut (gP s false 2) 0)) false 3 (xsCut (gP s false 3) 0)) false 4 (xsCut (gP s false 4) 0)), Q)) _ _
  refine h_it 3 (x' := (45, [(0, .ref (pa false))], [.int 0, .ref 13], (hpC (sP (sP (sP (sP (sP s false 0 (xsCut (gP s false 0) 0)) false 1 (xsCut (gP s false 1) 0)) false 2 (xsCut (gP s false 2) 0)) false 3 (xsCut (gP s false 3) 0)) false 4 (xsCut (gP s false 4) 0)), Q))) rfl ?_
  refine (show ∀ w : xSt, HE V L Kc Ks 53 (48, [(0, .ref (pa false))], [], (hpC (sP w false 5 (xsCut (gP w false 5) 0)), Q)) _ _ → HE V L Kc Ks 53 (45, [(0, .ref (pa false))], [.int 0, .ref 13], (hpC w, Q)) _ _ from fun w e => h_it 1 rfl e) (sP (sP (sP (sP (sP s false 0 (xsCut (gP s false 0) 0)) false 1 (xsCut (gP s false 1) 0)) false 2 (xsCut (gP s false 2) 0)) false 3 (xsCut (gP s false 3) 0)) false 4 (xsCut (gP s false 4) 0)) ?_
  show HE V L Kc Ks 53 (48, [(0, .ref (pa false))], [], (hpC (sP (sP (sP (sP (sP (sP s false 0 (xsCut (gP s false 0) 0)) false 1 (xsCut (gP s false 1) 0)) false 2 (xsCut (gP s false 2) 0)) false 3 (xsCut (gP s false 3) 0)) false 4 (xsCut (gP s false 4) 0)) false 5 (xsCut (gP s false 5) 0)), Q)) _ _
  refine h_it 3 (x' := (53, [(0, .ref (pa false))], [.int 0, .ref 15], (hpC (sP (sP (sP (sP (sP (sP s false 0 (xsCut (gP s false 0) 0)) false 1 (xsCut (gP s false 1) 0)) false 2 (xsCut (gP s false 2) 0)) false 3 (xsCut (gP s false 3) 0)) false 4 (xsCut (gP s false 4) 0)) false 5 (xsCut (gP s false 5) 0)), Q))) rfl ?_
  refine (show ∀ w : xSt, HE V L Kc Ks 53 (56, [(0, .ref (pa false))], [], (hpC (sP w false 6 (xsCut (gP w false 6) 0)), Q)) _ _ → HE V L Kc Ks 53 (53, [(0, .ref (pa false))], [.int 0, .ref 15], (hpC w, Q)) _ _ from fun w e => h_it 1 rfl e) (sP (sP (sP (sP (sP (sP s false 0 (xsCut (gP s false 0) 0)) false 1 (xsCut (gP s false 1) 0)) false 2 (xsCut (gP s false 2) 0)) false 3 (xsCut (gP s false 3) 0)) false 4 (xsCut (gP s false 4) 0)) false 5 (xsCut (gP s false 5) 0)) ?_
  show HE V L Kc Ks 53 (56, [(0, .ref (pa false))], [], (hpC (sP (sP (sP (sP (sP (sP (sP s false 0 (xsCut (gP s false 0) 0)) false 1 (xsCut (gP s false 1) 0)) false 2 (xsCut (gP s false 2) 0)) false 3 (xsCut (gP s false 3) 0)) false 4 (xsCut (gP s false 4) 0)) false 5 (xsCut (gP s false 5) 0)) false 6 (xsCut (gP s false 6) 0)), Q)) _ _
  refine h_it 3 (x' := (61, [(0, .ref (pa false))], [.int 0, .ref 17], (hpC (sP (sP (sP (sP (sP (sP (sP s false 0 (xsCut (gP s false 0) 0)) false 1 (xsCut (gP s false 1) 0)) false 2 (xsCut (gP s false 2) 0)) false 3 (xsCut (gP s false 3) 0)) false 4 (xsCut (gP s false 4) 0)) false 5 (xsCut (gP s false 5) 0)) false 6 (xsCut (gP s false 6) 0)), Q))) rfl ?_
  refine (show ∀ w : xSt, HE V L Kc Ks 53 (64, [(0, .ref (pa false))], [], (hpC (sP w false 7 (xsCut (gP w false 7) 0)), Q)) _ _ → HE V L Kc Ks 53 (61, [(0, .ref (pa false))], [.int 0, .ref 17], (hpC w, Q)) _ _ from fun w e => h_it 1 rfl e) (sP (sP (sP (sP (sP (sP (sP s false 0 (xsCut (gP s false 0) 0)) false 1 (xsCut (gP s false 1) 0)) false 2 (xsCut (gP s false 2) 0)) false 3 (xsCut (gP s false 3) 0)) false 4 (xsCut (gP s false 4) 0)) false 5 (xsCut (gP s false 5) 0)) false 6 (xsCut (gP s false 6) 0)) ?_
  show HE V L Kc Ks 53 (64, [(0, .ref (pa false))], [], (hpC (sP (sP (sP (sP (sP (sP (sP (sP s false 0 (xsCut (gP s false 0) 0)) false 1 (xsCut (gP s false 1) 0)) false 2 (xsCut (gP s false 2) 0)) false 3 (xsCut (gP s false 3) 0)) false 4 (xsCut (gP s false 4) 0)) false 5 (xsCut (gP s false 5) 0)) false 6 (xsCut (gP s false 6) 0)) false 7 (xsCut (gP s false 7) 0)), Q)) _ _
  refine h_it 3 (x' := (69, [(0, .ref (pa false))], [.int 0, .ref 19], (hpC (sP (sP (sP (sP (sP (sP (sP (sP s false 0 (xsCut (gP s false 0) 0)) false 1 (xsCut (gP s false 1) 0)) false 2 (xsCut (gP s false 2) 0)) false 3 (xsCut (gP s false 3) 0)) false 4 (xsCut (gP s false 4) 0)) false 5 (xsCut (gP s false 5) 0)) false 6 (xsCut (gP s false 6) 0)) false 7 (xsCut (gP s false 7) 0)), Q))) rfl ?_
  refine (show ∀ w : xSt, HE V L Kc Ks 53 (72, [(0, .ref (pa false))], [], (hpC (sP w false 8 (xsCut (gP w false 8) 0)), Q)) _ _ → HE V L Kc Ks 53 (69, [(0, .ref (pa false))], [.int 0, .ref 19], (hpC w, Q)) _ _ from fun w e => h_it 1 rfl e) (sP (sP (sP (sP (sP (sP (sP (sP s false 0 (xsCut (gP s false 0) 0)) false 1 (xsCut (gP s false 1) 0)) false 2 (xsCut (gP s false 2) 0)) false 3 (xsCut (gP s false 3) 0)) false 4 (xsCut (gP s false 4) 0)) false 5 (xsCut (gP s false 5) 0)) false 6 (xsCut (gP s false 6) 0)) false 7 (xsCut (gP s false 7) 0)) ?_
  show HE V L Kc Ks 53 (72, [(0, .ref (pa false))], [], (hpC (sP (sP (sP (sP (sP (sP (sP (sP (sP s false 0 (xsCut (gP s false 0) 0)) false 1 (xsCut (gP s false 1) 0)) false 2 (xsCut (gP s false 2) 0)) false 3 (xsCut (gP s false 3) 0)) false 4 (xsCut (gP s false 4) 0)) false 5 (xsCut (gP s false 5) 0)) false 6 (xsCut (gP s false 6) 0)) false 7 (xsCut (gP s false 7) 0)) false 8 (xsCut (gP s false 8) 0)), Q)) _ _
  refine h_it 3 (x' := (77, [(0, .ref (pa false))], [.int 0, .ref 21], (hpC (sP (sP (sP (sP (sP (sP (sP (sP (sP s false 0 (xsCut (gP s false 0) 0)) false 1 (xsCut (gP s false 1) 0)) false 2 (xsCut (gP s false 2) 0)) false 3 (xsCut (gP s false 3) 0)) false 4 (xsCut (gP s false 4) 0)) false 5 (xsCut (gP s false 5) 0)) false 6 (xsCut (gP s false 6) 0)) false 7 (xsCut (gP s false 7) 0)) false 8 (xsCut (gP s false 8) 0)), Q))) rfl ?_
  refine (show ∀ w : xSt, HE V L Kc Ks 53 (80, [(0, .ref (pa false))], [], (hpC (sP w false 9 (xsCut (gP w false 9) 0)), Q)) _ _ → HE V L Kc Ks 53 (77, [(0, .ref (pa false))], [.int 0, .ref 21], (hpC w, Q)) _ _ from fun w e => h_it 1 rfl e) (sP (sP (sP (sP (sP (sP (sP (sP (sP s false 0 (xsCut (gP s false 0) 0)) false 1 (xsCut (gP s false 1) 0)) false 2 (xsCut (gP s false 2) 0)) false 3 (xsCut (gP s false 3) 0)) false 4 (xsCut (gP s false 4) 0)) false 5 (xsCut (gP s false 5) 0)) false 6 (xsCut (gP s false 6) 0)) false 7 (xsCut (gP s false 7) 0)) false 8 (xsCut (gP s false 8) 0)) ?_
  show HE V L Kc Ks 53 (80, [(0, .ref (pa false))], [], (hpC (sP (sP (sP (sP (sP (sP (sP (sP (sP (sP s false 0 (xsCut (gP s false 0) 0)) false 1 (xsCut (gP s false 1) 0)) false 2 (xsCut (gP s false 2) 0)) false 3 (xsCut (gP s false 3) 0)) false 4 (xsCut (gP s false 4) 0)) false 5 (xsCut (gP s false 5) 0)) false 6 (xsCut (gP s false 6) 0)) false 7 (xsCut (gP s false 7) 0)) false 8 (xsCut (gP s false 8) 0)) false 9 (xsCut (gP s false 9) 0)), Q)) _ _
  replace h := Option.some.inj h; subst h
  exact h_vret rfl rfl
theorem m53t_ok  {s : xSt} {q : xSt} (h : m53t  s = some q) : HC V L Kc Ks 53 [.ref (pa true)] (hpC s, Q) (none) (hpC q, Q) := by
  unfold m53t at h
  refine hc_of (by decide) rfl ?_
  refine h_it 19 (x' := (37, [(0, .ref (pa true))], [.int 0, .ref 32], (hpC (sP (sP (sP (sP s true 0 (xsCut (gP s true 0) 0)) true 1 (xsCut (gP s true 1) 0)) true 2 (xsCut (gP s true 2) 0)) true 3 (xsCut (gP s true 3) 0)), Q))) rfl ?_
  refine (show ∀ w : xSt, HE V L Kc Ks 53 (40, [(0, .ref (pa true))], [], (hpC (sP w true 4 (xsCut (gP w true 4) 0)), Q)) _ _ → HE V L Kc Ks 53 (37, [(0, .ref (pa true))], [.int 0, .ref 32], (hpC w, Q)) _ _ from fun w e => h_it 1 rfl e) (sP (sP (sP (sP s true 0 (xsCut (gP s true 0) 0)) true 1 (xsCut (gP s true 1) 0)) true 2 (xsCut (gP s true 2) 0)) true 3 (xsCut (gP s true 3) 0)) ?_
  show HE V L Kc Ks 53 (40, [(0, .ref (pa true))], [], (hpC (sP (sP (sP (sP (sP s true 0 (xsCut (gP s true 0) 0)) true 1 (xsCut (gP s true 1) 0)) true 2 (xsCut (gP s true 2) 0)) true 3 (xsCut (gP s true 3) 0)) true 4 (xsCut (gP s true 4) 0)), Q)) _ _
  refine h_it 3 (x' := (45, [(0, .ref (pa true))], [.int 0, .ref 35], (hpC (sP (sP (sP (sP (sP s true 0 (xsCut (gP s true 0) 0)) true 1 (xsCut (gP s true 1) 0)) true 2 (xsCut (gP s true 2) 0)) true 3 (xsCut (gP s true 3) 0)) true 4 (xsCut (gP s true 4) 0)), Q))) rfl ?_
  refine (show ∀ w : xSt, HE V L Kc Ks 53 (48, [(0, .ref (pa true))], [], (hpC (sP w true 5 (xsCut (gP w true 5) 0)), Q)) _ _ → HE V L Kc Ks 53 (45, [(0, .ref (pa true))], [.int 0, .ref 35], (hpC w, Q)) _ _ from fun w e => h_it 1 rfl e) (sP (sP (sP (sP (sP s true 0 (xsCut (gP s true 0) 0)) true 1 (xsCut (gP s true 1) 0)) true 2 (xsCut (gP s true 2) 0)) true 3 (xsCut (gP s true 3) 0)) true 4 (xsCut (gP s true 4) 0)) ?_
  show HE V L Kc Ks 53 (48, [(0, .ref (pa true))], [], (hpC (sP (sP (sP (sP (sP (sP s true 0 (xsCut (gP s true 0) 0)) true 1 (xsCut (gP s true 1) 0)) true 2 (xsCut (gP s true 2) 0)) true 3 (xsCut (gP s true 3) 0)) true 4 (xsCut (gP s true 4) 0)) true 5 (xsCut (gP s true 5) 0)), Q)) _ _
  refine h_it 3 (x' := (53, [(0, .ref (pa true))], [.int 0, .ref 37], (hpC (sP (sP (sP (sP (sP (sP s true 0 (xsCut (gP s true 0) 0)) true 1 (xsCut (gP s true 1) 0)) true 2 (xsCut (gP s true 2) 0)) true 3 (xsCut (gP s true 3) 0)) true 4 (xsCut (gP s true 4) 0)) true 5 (xsCut (gP s true 5) 0)), Q))) rfl ?_
  refine (show ∀ w : xSt, HE V L Kc Ks 53 (56, [(0, .ref (pa true))], [], (hpC (sP w true 6 (xsCut (gP w true 6) 0)), Q)) _ _ → HE V L Kc Ks 53 (53, [(0, .ref (pa true))], [.int 0, .ref 37], (hpC w, Q)) _ _ from fun w e => h_it 1 rfl e) (sP (sP (sP (sP (sP (sP s true 0 (xsCut (gP s true 0) 0)) true 1 (xsCut (gP s true 1) 0)) true 2 (xsCut (gP s true 2) 0)) true 3 (xsCut (gP s true 3) 0)) true 4 (xsCut (gP s true 4) 0)) true 5 (xsCut (gP s true 5) 0)) ?_
  show HE V L Kc Ks 53 (56, [(0, .ref (pa true))], [], (hpC (sP (sP (sP (sP (sP (sP (sP s true 0 (xsCut (gP s true 0) 0)) true 1 (xsCut (gP s true 1) 0)) true 2 (xsCut (gP s true 2) 0)) true 3 (xsCut (gP s true 3) 0)) true 4 (xsCut (gP s true 4) 0)) true 5 (xsCut (gP s true 5) 0)) true 6 (xsCut (gP s true 6) 0)), Q)) _ _
  refine h_it 3 (x' := (61, [(0, .ref (pa true))], [.int 0, .ref 39], (hpC (sP (sP (sP (sP (sP (sP (sP s true 0 (xsCut (gP s true 0) 0)) true 1 (xsCut (gP s true 1) 0)) true 2 (xsCut (gP s true 2) 0)) true 3 (xsCut (gP s true 3) 0)) true 4 (xsCut (gP s true 4) 0)) true 5 (xsCut (gP s true 5) 0)) true 6 (xsCut (gP s true 6) 0)), Q))) rfl ?_
  refine (show ∀ w : xSt, HE V L Kc Ks 53 (64, [(0, .ref (pa true))], [], (hpC (sP w true 7 (xsCut (gP w true 7) 0)), Q)) _ _ → HE V L Kc Ks 53 (61, [(0, .ref (pa true))], [.int 0, .ref 39], (hpC w, Q)) _ _ from fun w e => h_it 1 rfl e) (sP (sP (sP (sP (sP (sP (sP s true 0 (xsCut (gP s true 0) 0)) true 1 (xsCut (gP s true 1) 0)) true 2 (xsCut (gP s true 2) 0)) true 3 (xsCut (gP s true 3) 0)) true 4 (xsCut (gP s true 4) 0)) true 5 (xsCut (gP s true 5) 0)) true 6 (xsCut (gP s true 6) 0)) ?_
  show HE V L Kc Ks 53 (64, [(0, .ref (pa true))], [], (hpC (sP (sP (sP (sP (sP (sP (sP (sP s true 0 (xsCut (gP s true 0) 0)) true 1 (xsCut (gP s true 1) 0)) true 2 (xsCut (gP s true 2) 0)) true 3 (xsCut (gP s true 3) 0)) true 4 (xsCut (gP s true 4) 0)) true 5 (xsCut (gP s true 5) 0)) true 6 (xsCut (gP s true 6) 0)) true 7 (xsCut (gP s true 7) 0)), Q)) _ _
  refine h_it 3 (x' := (69, [(0, .ref (pa true))], [.int 0, .ref 41], (hpC (sP (sP (sP (sP (sP (sP (sP (sP s true 0 (xsCut (gP s true 0) 0)) true 1 (xsCut (gP s true 1) 0)) true 2 (xsCut (gP s true 2) 0)) true 3 (xsCut (gP s true 3) 0)) true 4 (xsCut (gP s true 4) 0)) true 5 (xsCut (gP s true 5) 0)) true 6 (xsCut (gP s true 6) 0)) true 7 (xsCut (gP s true 7) 0)), Q))) rfl ?_
  refine (show ∀ w : xSt, HE V L Kc Ks 53 (72, [(0, .ref (pa true))], [], (hpC (sP w true 8 (xsCut (gP w true 8) 0)), Q)) _ _ → HE V L Kc Ks 53 (69, [(0, .ref (pa true))], [.int 0, .ref 41], (hpC w, Q)) _ _ from fun w e => h_it 1 rfl e) (sP (sP (sP (sP (sP (sP (sP (sP s true 0 (xsCut (gP s true 0) 0)) true 1 (xsCut (gP s true 1) 0)) true 2 (xsCut (gP s true 2) 0)) true 3 (xsCut (gP s true 3) 0)) true 4 (xsCut (gP s true 4) 0)) true 5 (xsCut (gP s true 5) 0)) true 6 (xsCut (gP s true 6) 0)) true 7 (xsCut (gP s true 7) 0)) ?_
  show HE V L Kc Ks 53 (72, [(0, .ref (pa true))], [], (hpC (sP (sP (sP (sP (sP (sP (sP (sP (sP s true 0 (xsCut (gP s true 0) 0)) true 1 (xsCut (gP s true 1) 0)) true 2 (xsCut (gP s true 2) 0)) true 3 (xsCut (gP s true 3) 0)) true 4 (xsCut (gP s true 4) 0)) true 5 (xsCut (gP s true 5) 0)) true 6 (xsCut (gP s true 6) 0)) true 7 (xsCut (gP s true 7) 0)) true 8 (xsCut (gP s true 8) 0)), Q)) _ _
  refine h_it 3 (x' := (77, [(0, .ref (pa true))], [.int 0, .ref 43], (hpC (sP (sP (sP (sP (sP (sP (sP (sP (sP s true 0 (xsCut (gP s true 0) 0)) true 1 (xsCut (gP s true 1) 0)) true 2 (xsCut (gP s true 2) 0)) true 3 (xsCut (gP s true 3) 0)) true 4 (xsCut (gP s true 4) 0)) true 5 (xsCut (gP s true 5) 0)) true 6 (xsCut (gP s true 6) 0)) true 7 (xsCut (gP s true 7) 0)) true 8 (xsCut (gP s true 8) 0)), Q))) rfl ?_
  refine (show ∀ w : xSt, HE V L Kc Ks 53 (80, [(0, .ref (pa true))], [], (hpC (sP w true 9 (xsCut (gP w true 9) 0)), Q)) _ _ → HE V L Kc Ks 53 (77, [(0, .ref (pa true))], [.int 0, .ref 43], (hpC w, Q)) _ _ from fun w e => h_it 1 rfl e) (sP (sP (sP (sP (sP (sP (sP (sP (sP s true 0 (xsCut (gP s true 0) 0)) true 1 (xsCut (gP s true 1) 0)) true 2 (xsCut (gP s true 2) 0)) true 3 (xsCut (gP s true 3) 0)) true 4 (xsCut (gP s true 4) 0)) true 5 (xsCut (gP s true 5) 0)) true 6 (xsCut (gP s true 6) 0)) true 7 (xsCut (gP s true 7) 0)) true 8 (xsCut (gP s true 8) 0)) ?_
  show HE V L Kc Ks 53 (80, [(0, .ref (pa true))], [], (hpC (sP (sP (sP (sP (sP (sP (sP (sP (sP (sP s true 0 (xsCut (gP s true 0) 0)) true 1 (xsCut (gP s true 1) 0)) true 2 (xsCut (gP s true 2) 0)) true 3 (xsCut (gP s true 3) 0)) true 4 (xsCut (gP s true 4) 0)) true 5 (xsCut (gP s true 5) 0)) true 6 (xsCut (gP s true 6) 0)) true 7 (xsCut (gP s true 7) 0)) true 8 (xsCut (gP s true 8) 0)) true 9 (xsCut (gP s true 9) 0)), Q)) _ _
  replace h := Option.some.inj h; subst h
  exact h_vret rfl rfl
theorem m53_ok {z0 : Bool} {s : xSt} {q : xSt} (h : m53 z0 s = some q) : HC V L Kc Ks 53 [.ref (pa z0)] (hpC s, Q) (none) (hpC q, Q) := by
  cases z0
  · exact m53f_ok h
  · exact m53t_ok h
end Sm53
section Sm36
variable {V : xmV} {L : List Nat} {Kc Ks : Nat} {Q : List xE}
theorem m36_ok  (s : xSt) : HC V L Kc Ks 36 [.ref 48] (hpC s, Q) (none) (hpC (sI s 4 0), Q) := by
  refine hc_of (by decide) rfl ?_
  refine h_it 3 (x' := (5, [(0, .ref 48)], [], (hpC (sI s 4 0), Q))) rfl ?_
  exact h_vret rfl rfl
end Sm36
section Sm77
variable {V : xmV} {L : List Nat} {Kc Ks : Nat} {Q : List xE}
theorem m77_ok  {s : xSt} {q : xSt} (h : m77  s = some q) : HC V L Kc Ks 77 [.ref 49] (hpC s, Q) (none) (hpC q, Q) := by
  unfold m77 at h
  refine hc_of (by decide) rfl ?_
  refine h_it 2 (x' := (4, [(0, .ref 49)], [.ref (pa (gZ s 3))], (hpC s, Q))) rfl ?_
  obtain ⟨q1, hq1, h⟩ := Option.bind_eq_some_iff.mp h
  refine h_callO (As := []) (r1 := none) (st := []) (H1 := (hpC q1, Q)) rfl rfl rfl rfl rfl hp_pa (m53_ok hq1) ?_
  refine h_it 2 (x' := (11, [(0, .ref 49)], [.ref 48], (hpC q1, Q))) rfl ?_
  refine h_callO (As := []) (r1 := none) (st := []) (H1 := (hpC (sI q1 4 0), Q)) rfl rfl rfl rfl rfl rfl (m36_ok  q1) ?_
  refine h_it 14 (x' := (40, [(0, .ref 49)], [.int 0, .ref 49], (hpC (sR (sR (sR (sI q1 4 0) 1 (xsCut (gR q1 1) 0)) 2 (xsCut (gR q1 2) 0)) 3 (xsCut (gR q1 3) 0)), Q))) rfl ?_
  refine (show ∀ w : xSt, HE V L Kc Ks 77 (43, [(0, .ref 49)], [], (hpC (sI w 11 0), Q)) _ _ → HE V L Kc Ks 77 (40, [(0, .ref 49)], [.int 0, .ref 49], (hpC w, Q)) _ _ from fun w e => h_it 1 rfl e) (sR (sR (sR (sI q1 4 0) 1 (xsCut (gR q1 1) 0)) 2 (xsCut (gR q1 2) 0)) 3 (xsCut (gR q1 3) 0)) ?_
  show HE V L Kc Ks 77 (43, [(0, .ref 49)], [], (hpC (sI (sR (sR (sR (sI q1 4 0) 1 (xsCut (gR q1 1) 0)) 2 (xsCut (gR q1 2) 0)) 3 (xsCut (gR q1 3) 0)) 11 0), Q)) _ _
  refine h_it 2 (x' := (45, [(0, .ref 49)], [.int (-1), .ref 49], (hpC (sI (sR (sR (sR (sI q1 4 0) 1 (xsCut (gR q1 1) 0)) 2 (xsCut (gR q1 2) 0)) 3 (xsCut (gR q1 3) 0)) 11 0), Q))) rfl ?_
  refine (show ∀ w : xSt, HE V L Kc Ks 77 (48, [(0, .ref 49)], [], (hpC (sI w 10 (-1)), Q)) _ _ → HE V L Kc Ks 77 (45, [(0, .ref 49)], [.int (-1), .ref 49], (hpC w, Q)) _ _ from fun w e => h_it 1 rfl e) (sI (sR (sR (sR (sI q1 4 0) 1 (xsCut (gR q1 1) 0)) 2 (xsCut (gR q1 2) 0)) 3 (xsCut (gR q1 3) 0)) 11 0) ?_
  show HE V L Kc Ks 77 (48, [(0, .ref 49)], [], (hpC (sI (sI (sR (sR (sR (sI q1 4 0) 1 (xsCut (gR q1 1) 0)) 2 (xsCut (gR q1 2) 0)) 3 (xsCut (gR q1 3) 0)) 11 0) 10 (-1)), Q)) _ _
  refine h_it 2 (x' := (50, [(0, .ref 49)], [.int (b01 false), .ref 49], (hpC (sI (sI (sR (sR (sR (sI q1 4 0) 1 (xsCut (gR q1 1) 0)) 2 (xsCut (gR q1 2) 0)) 3 (xsCut (gR q1 3) 0)) 11 0) 10 (-1)), Q))) rfl ?_
  refine h_putZ (ty := .boolean) rfl rfl rfl ?_
  show HE V L Kc Ks 77 (53, [(0, .ref 49)], [], (hpC (sZ (sI (sI (sR (sR (sR (sI q1 4 0) 1 (xsCut (gR q1 1) 0)) 2 (xsCut (gR q1 2) 0)) 3 (xsCut (gR q1 3) 0)) 11 0) 10 (-1)) 4 false), Q)) _ _
  replace h := Option.some.inj h; subst h
  exact h_vret rfl rfl
end Sm77
section Sm13
variable {V : xmV} {L : List Nat} {Kc Ks : Nat} {Q : List xE}
theorem m13_ok  {s : xSt} {q : Bool × xSt} (h : m13  s = some q) : HC V L Kc Ks 13 [.ref 47] (hpC s, Q) (some (.int (b01 q.1))) (hpC q.2, Q) := by
  unfold m13 at h
  refine hc_of (by decide) rfl ?_
  refine h_it 2 (x' := (4, [(0, .ref 47)], [.int (gI s 2)], (hpC s, Q))) rfl ?_
  refine h_br (b := decide ((gI s 2) = 0)) (t := 11) (f := 7) (lv' := [(0, .ref 47)]) (st' := []) rfl rfl ?_
  by_cases h1 : (gI s 2) = 0
  · replace h := if_y h1 h
    refine h_y h1 ?_
    replace h := Option.some.inj h; subst h
    refine h_it 1 (x' := (12, [(0, .ref 47)], [.int (b01 false)], (hpC s, Q))) rfl ?_
    exact h_zret rfl rfl
  · replace h := if_n h1 h
    refine h_n h1 ?_
    replace h := Option.some.inj h; subst h
    refine h_it 2 (x' := (12, [(0, .ref 47)], [.int (b01 true)], (hpC s, Q))) rfl ?_
    exact h_zret rfl rfl
end Sm13
section Sm54
variable {V : xmV} {L : List Nat} {Kc Ks : Nat} {Q : List xE}
theorem m54_okf (a1 : Int32) (s : xSt) : HC V L Kc Ks 54 [.ref (pa false), .int a1] (hpC s, Q) (some (.int (xsAt (gP s false 0) a1))) (hpC s, Q) := by
  refine hc_of (by decide) rfl ?_
  refine h_it 4 (x' := (8, [(0, .ref (pa false)), (1, .int a1)], [.int (xsAt (gP s false 0) a1)], (hpC s, Q))) rfl ?_
  exact h_iret rfl rfl
theorem m54_okt (a1 : Int32) (s : xSt) : HC V L Kc Ks 54 [.ref (pa true), .int a1] (hpC s, Q) (some (.int (xsAt (gP s true 0) a1))) (hpC s, Q) := by
  refine hc_of (by decide) rfl ?_
  refine h_it 4 (x' := (8, [(0, .ref (pa true)), (1, .int a1)], [.int (xsAt (gP s true 0) a1)], (hpC s, Q))) rfl ?_
  exact h_iret rfl rfl
theorem m54_ok (z0 : Bool) (a1 : Int32) (s : xSt) : HC V L Kc Ks 54 [.ref (pa z0), .int a1] (hpC s, Q) (some (.int (xsAt (gP s z0 0) a1))) (hpC s, Q) := by
  cases z0
  · exact m54_okf a1 s
  · exact m54_okt a1 s
end Sm54
section Sm79
variable {V : xmV} {L : List Nat} {Kc Ks : Nat} {Q : List xE}
theorem m79_ok {a0 : Int32} {s : xSt} {q : Nat × xSt} (h : m79 a0 s = some q) : HC V L Kc Ks 79 [.int a0] (hpC s, Q) (some (.retAddr q.1)) (hpC q.2, Q) := by
  unfold m79 at h
  refine hc_of (by decide) rfl ?_
  refine h_it 1 (x' := (1, [(0, .int a0)], [.int a0], (hpC s, Q))) rfl ?_
  by_cases h1 : a0 = 8
  · replace h := if_y h1 h
    refine h_ts (t := 83) rfl (by rw [h1]; decide) ?_
    replace h := Option.some.inj h; subst h
    refine h_it 1 (x' := (85, [(0, .int a0)], [.retAddr 1], (hpC s, Q))) rfl ?_
    exact h_tret rfl rfl
  replace h := if_n h1 h
  by_cases h2 : a0 = 9
  · replace h := if_y h2 h
    refine h_ts (t := 86) rfl (by rw [h2]; decide) ?_
    replace h := Option.some.inj h; subst h
    refine h_it 1 (x' := (88, [(0, .int a0)], [.retAddr 2], (hpC s, Q))) rfl ?_
    exact h_tret rfl rfl
  replace h := if_n h2 h
  by_cases h3 : a0 = 10
  · replace h := if_y h3 h
    refine h_ts (t := 89) rfl (by rw [h3]; decide) ?_
    replace h := Option.some.inj h; subst h
    refine h_it 1 (x' := (91, [(0, .int a0)], [.retAddr 3], (hpC s, Q))) rfl ?_
    exact h_tret rfl rfl
  replace h := if_n h3 h
  by_cases h4 : a0 = 12 ∨ a0 = 13 ∨ a0 = 18
  · replace h := if_y h4 h
    refine h_ts (t := 92) rfl (by rcases h4 with e9 | e9 | e9 <;> rw [e9] <;> decide) ?_
    replace h := Option.some.inj h; subst h
    refine h_it 1 (x' := (94, [(0, .int a0)], [.retAddr 4], (hpC s, Q))) rfl ?_
    exact h_tret rfl rfl
  replace h := if_n h4 h
  by_cases h5 : a0 = 14 ∨ a0 = 15
  · replace h := if_y h5 h
    refine h_ts (t := 95) rfl (by rcases h5 with e9 | e9 <;> rw [e9] <;> decide) ?_
    replace h := Option.some.inj h; subst h
    refine h_it 1 (x' := (97, [(0, .int a0)], [.retAddr 5], (hpC s, Q))) rfl ?_
    exact h_tret rfl rfl
  replace h := if_n h5 h
  by_cases h6 : a0 = 16
  · replace h := if_y h6 h
    refine h_ts (t := 98) rfl (by rw [h6]; decide) ?_
    replace h := Option.some.inj h; subst h
    refine h_it 1 (x' := (100, [(0, .int a0)], [.retAddr 6], (hpC s, Q))) rfl ?_
    exact h_tret rfl rfl
  replace h := if_n h6 h
  by_cases h7 : a0 = 17
  · replace h := if_y h7 h
    refine h_ts (t := 101) rfl (by rw [h7]; decide) ?_
    replace h := Option.some.inj h; subst h
    refine h_it 1 (x' := (103, [(0, .int a0)], [.retAddr 7], (hpC s, Q))) rfl ?_
    exact h_tret rfl rfl
  replace h := if_n h7 h
  by_cases h8 : a0 = 22 ∨ a0 = 23
  · replace h := if_y h8 h
    refine h_ts (t := 80) rfl (by rcases h8 with e9 | e9 <;> rw [e9] <;> decide) ?_
    replace h := Option.some.inj h; subst h
    refine h_it 1 (x' := (82, [(0, .int a0)], [.retAddr 0], (hpC s, Q))) rfl ?_
    exact h_tret rfl rfl
  replace h := if_n h8 h
  refine h_ts (t := 104) rfl (ts_d [8, 9, 10, 12, 13, 18, 14, 15, 16, 17, 22, 23] rfl (by decide) (fun v hv => by
      simp only [List.mem_cons, List.not_mem_nil, or_false] at hv
      rcases hv with rfl | rfl | rfl | rfl | rfl | rfl | rfl | rfl | rfl | rfl | rfl | rfl
      · exact h1
      · exact h2
      · exact h3
      · exact (fun e9 => h4 (Or.inl e9))
      · exact (fun e9 => h4 (Or.inr (Or.inl e9)))
      · exact (fun e9 => h4 (Or.inr (Or.inr (e9))))
      · exact (fun e9 => h5 (Or.inl e9))
      · exact (fun e9 => h5 (Or.inr (e9)))
      · exact h6
      · exact h7
      · exact (fun e9 => h8 (Or.inl e9))
      · exact (fun e9 => h8 (Or.inr (e9))))) ?_
  replace h := Option.some.inj h; subst h
  refine h_it 1 (x' := (106, [(0, .int a0)], [.retAddr 8], (hpC s, Q))) rfl ?_
  exact h_tret rfl rfl
end Sm79
section Sm78
variable {V : xmV} {L : List Nat} {Kc Ks : Nat} {Q : List xE}
theorem m78_ok  {s : xSt} {q : Int32 × xSt} (h : m78  s = some q) : HC V L Kc Ks 78 [.ref 49] (hpC s, Q) (some (.int q.1)) (hpC q.2, Q) := by
  unfold m78 at h
  refine hc_of (by decide) rfl ?_
  refine h_it 3 (x' := (5, [(0, .ref 49)], [.int (-1), .int (gI s 10)], (hpC s, Q))) rfl ?_
  refine h_br (b := decide ((gI s 10) = (-1))) (t := 11) (f := 8) (lv' := [(0, .ref 49)]) (st' := []) rfl rfl ?_
  by_cases h1 : (gI s 10) = (-1)
  · replace h := if_y h1 h
    refine h_y h1 ?_
    refine h_it 3 (x' := (18, [(0, .ref 49)], [.int (nI ((gR s 1)).length)], (hpC s, Q))) rfl ?_
    refine h_br (b := decide (¬ (nI ((gR s 1)).length) = 0)) (t := 24) (f := 21) (lv' := [(0, .ref 49)]) (st' := []) rfl rfl ?_
    by_cases h2 : (nI ((gR s 1)).length) = 0
    · replace h := if_y h2 h
      refine h_n (fun z => z h2) ?_
      replace h := Option.some.inj h; subst h
      refine h_it 1 (x' := (23, [(0, .ref 49)], [.int 65], (hpC s, Q))) rfl ?_
      exact h_cret rfl rfl rfl
    · replace h := if_n h2 h
      refine h_y h2 ?_
      refine h_it 5 (x' := (35, [(0, .ref 49)], [.int (xsTop (gR s 1)), .ref (pa (gZ s 3))], (hpC s, Q))) rfl ?_
      refine h_callO (As := [.int (xsTop (gR s 1))]) (r1 := some (.int (xsAt (gP s (gZ s 3) 0) (xsTop (gR s 1))))) (st := []) (H1 := (hpC s, Q)) rfl rfl rfl rfl rfl hp_pa (m54_ok (gZ s 3) (xsTop (gR s 1)) s) ?_
      obtain ⟨q3, hq3, h⟩ := Option.bind_eq_some_iff.mp h
      refine h_callS (av := [.int (xsAt (gP s (gZ s 3) 0) (xsTop (gR s 1)))]) (r1 := some (.retAddr q3.1)) (st := []) (H1 := (hpC q3.2, Q)) rfl rfl rfl rfl rfl (m79_ok hq3) ?_
      refine h_it 12 (x' := (61, [(2, .int (xsTop (gR q3.2 2))), (1, .retAddr q3.1), (0, .ref 49)], [.int (xsTop (gR q3.2 2))], (hpC (sR q3.2 2 (xsSetTop (gR q3.2 2) ((xsTop (gR q3.2 2)) + 1))), Q))) rfl ?_
      refine h_br (b := decide ((xsTop (gR q3.2 2)) < 0)) (t := 80) (f := 64) (lv' := [(2, .int (xsTop (gR q3.2 2))), (1, .retAddr q3.1), (0, .ref 49)]) (st' := []) rfl rfl ?_
      by_cases h4 : (xsTop (gR q3.2 2)) < 0
      · replace h := if_y h4 h
        refine h_y h4 ?_
        replace h := Option.some.inj h; subst h
        refine h_it 1 (x' := (82, [(2, .int (xsTop (gR q3.2 2))), (1, .retAddr q3.1), (0, .ref 49)], [.int 41], (hpC (sR q3.2 2 (xsSetTop (gR q3.2 2) ((xsTop (gR q3.2 2)) + 1))), Q))) rfl ?_
        exact h_cret rfl rfl rfl
      · replace h := if_n h4 h
        refine h_n h4 ?_
        refine h_it 2 (x' := (66, [(2, .int (xsTop (gR q3.2 2))), (1, .retAddr q3.1), (0, .ref 49)], [.retAddr q3.1, .int (xsTop (gR q3.2 2))], (hpC (sR q3.2 2 (xsSetTop (gR q3.2 2) ((xsTop (gR q3.2 2)) + 1))), Q))) rfl ?_
        obtain ⟨v5, hv5, h⟩ := Option.bind_eq_some_iff.mp h
        refine h_callT (As := []) (r1 := some (.int v5)) (st := [.int (xsTop (gR q3.2 2))]) rfl rfl (xt_ltL hv5) rfl rfl rfl (xt_len_ok hv5) ?_
        refine h_br (b := decide (v5 ≤ (xsTop (gR q3.2 2)))) (t := 80) (f := 72) (lv' := [(2, .int (xsTop (gR q3.2 2))), (1, .retAddr q3.1), (0, .ref 49)]) (st' := []) rfl rfl ?_
        by_cases h6 : v5 ≤ (xsTop (gR q3.2 2))
        · replace h := if_y h6 h
          refine h_y h6 ?_
          replace h := Option.some.inj h; subst h
          refine h_it 1 (x' := (82, [(2, .int (xsTop (gR q3.2 2))), (1, .retAddr q3.1), (0, .ref 49)], [.int 41], (hpC (sR q3.2 2 (xsSetTop (gR q3.2 2) ((xsTop (gR q3.2 2)) + 1))), Q))) rfl ?_
          exact h_cret rfl rfl rfl
        · replace h := if_n h6 h
          refine h_n h6 ?_
          refine h_it 2 (x' := (74, [(2, .int (xsTop (gR q3.2 2))), (1, .retAddr q3.1), (0, .ref 49)], [.int (xsTop (gR q3.2 2)), .retAddr q3.1], (hpC (sR q3.2 2 (xsSetTop (gR q3.2 2) ((xsTop (gR q3.2 2)) + 1))), Q))) rfl ?_
          obtain ⟨v7, hv7, h⟩ := Option.bind_eq_some_iff.mp h
          refine h_callT (As := [.int (xsTop (gR q3.2 2))]) (r1 := some (.int v7)) (st := []) rfl rfl (xt_ltA hv7) rfl rfl rfl (xt_at_ok hv7) ?_
          replace h := Option.some.inj h; subst h
          refine h_it 1 (x' := (82, [(2, .int (xsTop (gR q3.2 2))), (1, .retAddr q3.1), (0, .ref 49)], [.int v7], (hpC (sR q3.2 2 (xsSetTop (gR q3.2 2) ((xsTop (gR q3.2 2)) + 1))), Q))) rfl ?_
          exact h_cret rfl rfl (by first | exact xt_narrow (by assumption) | assumption)
  · replace h := if_n h1 h
    refine h_n h1 ?_
    replace h := Option.some.inj h; subst h
    refine h_it 1 (x' := (10, [(0, .ref 49)], [.int 72], (hpC s, Q))) rfl ?_
    exact h_cret rfl rfl rfl
end Sm78
section Sm55
variable {V : xmV} {L : List Nat} {Kc Ks : Nat} {Q : List xE}
theorem m55_okf (a1 : Int32) (s : xSt) : HC V L Kc Ks 55 [.ref (pa false), .int a1] (hpC s, Q) (some (.int (xsAt (gP s false 2) a1))) (hpC s, Q) := by
  refine hc_of (by decide) rfl ?_
  refine h_it 4 (x' := (8, [(0, .ref (pa false)), (1, .int a1)], [.int (xsAt (gP s false 2) a1)], (hpC s, Q))) rfl ?_
  exact h_iret rfl rfl
theorem m55_okt (a1 : Int32) (s : xSt) : HC V L Kc Ks 55 [.ref (pa true), .int a1] (hpC s, Q) (some (.int (xsAt (gP s true 2) a1))) (hpC s, Q) := by
  refine hc_of (by decide) rfl ?_
  refine h_it 4 (x' := (8, [(0, .ref (pa true)), (1, .int a1)], [.int (xsAt (gP s true 2) a1)], (hpC s, Q))) rfl ?_
  exact h_iret rfl rfl
theorem m55_ok (z0 : Bool) (a1 : Int32) (s : xSt) : HC V L Kc Ks 55 [.ref (pa z0), .int a1] (hpC s, Q) (some (.int (xsAt (gP s z0 2) a1))) (hpC s, Q) := by
  cases z0
  · exact m55_okf a1 s
  · exact m55_okt a1 s
end Sm55
section Sm38
variable {V : xmV} {L : List Nat} {Kc Ks : Nat} {Q : List xE}
theorem m38_ok {a0 : Int32} {s : xSt} {q : Bool × xSt} (h : m38 a0 s = some q) : HC V L Kc Ks 38 [.int a0] (hpC s, Q) (some (.int (b01 q.1))) (hpC q.2, Q) := by
  unfold m38 at h
  refine hc_of (by decide) rfl ?_
  refine h_it 2 (x' := (3, [(0, .int a0)], [.int 97, .int a0], (hpC s, Q))) rfl ?_
  refine h_br (b := decide (a0 < 97)) (t := 16) (f := 6) (lv' := [(0, .int a0)]) (st' := []) rfl rfl ?_
  by_cases h1 : a0 < 97
  · replace h := if_y h1 h
    refine h_y h1 ?_
    replace h := Option.some.inj h; subst h
    refine h_it 1 (x' := (17, [(0, .int a0)], [.int (b01 false)], (hpC s, Q))) rfl ?_
    exact h_zret rfl rfl
  · replace h := if_n h1 h
    refine h_n h1 ?_
    refine h_it 2 (x' := (9, [(0, .int a0)], [.int 122, .int a0], (hpC s, Q))) rfl ?_
    refine h_br (b := decide (122 < a0)) (t := 16) (f := 12) (lv' := [(0, .int a0)]) (st' := []) rfl rfl ?_
    by_cases h2 : 122 < a0
    · replace h := if_y h2 h
      refine h_y h2 ?_
      replace h := Option.some.inj h; subst h
      refine h_it 1 (x' := (17, [(0, .int a0)], [.int (b01 false)], (hpC s, Q))) rfl ?_
      exact h_zret rfl rfl
    · replace h := if_n h2 h
      refine h_n h2 ?_
      replace h := Option.some.inj h; subst h
      refine h_it 2 (x' := (17, [(0, .int a0)], [.int (b01 true)], (hpC s, Q))) rfl ?_
      exact h_zret rfl rfl
end Sm38
section Sm17
variable {V : xmV} {L : List Nat} {Kc Ks : Nat} {Q : List xE}
theorem m17_ok (l0 : Int64) (a1 : Int32) (s : xSt) : HC V L Kc Ks 17 [.long l0, .int a1] (hpC s, Q) (some (.long ((l0 * 32) + (Int32.toInt64 ((a1 - 97) + 1))))) (hpC s, Q) := by
  refine hc_of (by decide) rfl ?_
  refine h_it 10 (x' := (13, [(0, .long l0), (2, .int a1)], [.long ((l0 * 32) + (Int32.toInt64 ((a1 - 97) + 1)))], (hpC s, Q))) rfl ?_
  exact h_lret rfl rfl
end Sm17
section Sm37
variable {V : xmV} {L : List Nat} {Kc Ks : Nat} {Q : List xE}
theorem m37_5_ok   : ∀ (n : Nat) (x1 : Int32) (x2 : Int64) (x4 : Int32) (s : xSt) (q : Int64 × xSt), m37_5  n x1 x2 x4 s = some q → HE V L Kc Ks 37 (5, [(0, .ref 48), (1, .int x1), (2, .long x2), (4, .int x4)], [], (hpC s, Q)) (some (.long q.1)) (hpC q.2, Q) := by
  intro n
  induction n with
  | zero => intro x1 x2 x4 s q h; cases h
  | succ n ih =>
    intro x1 x2 x4 s q h
    unfold m37_5 at h
    refine h_it 4 (x' := (11, [(0, .ref 48), (1, .int x1), (2, .long x2), (4, .int x4)], [.int (x1 + 12), .int x4], (hpC s, Q))) rfl ?_
    refine h_br (b := decide ((x1 + 12) ≤ x4)) (t := 49) (f := 14) (lv' := [(0, .ref 48), (1, .int x1), (2, .long x2), (4, .int x4)]) (st' := []) rfl rfl ?_
    by_cases h1 : (x1 + 12) ≤ x4
    · replace h := if_y h1 h
      refine h_y h1 ?_
      replace h := Option.some.inj h; subst h
      refine h_it 1 (x' := (50, [(0, .ref 48), (1, .int x1), (2, .long x2), (4, .int x4)], [.long x2], (hpC s, Q))) rfl ?_
      exact h_lret rfl rfl
    · replace h := if_n h1 h
      refine h_n h1 ?_
      refine h_it 4 (x' := (23, [(0, .ref 48), (1, .int x1), (2, .long x2), (4, .int x4)], [.int (xsAt (gR s 0) x4)], (hpC s, Q))) rfl ?_
      obtain ⟨q2, hq2, h⟩ := Option.bind_eq_some_iff.mp h
      refine h_callS (av := [.int (xsAt (gR s 0) x4)]) (r1 := some (.int (b01 q2.1))) (st := []) (H1 := (hpC q2.2, Q)) rfl rfl rfl rfl rfl (m38_ok hq2) ?_
      refine h_br (b := decide ((b01 q2.1) = 0)) (t := 49) (f := 29) (lv' := [(0, .ref 48), (1, .int x1), (2, .long x2), (4, .int x4)]) (st' := []) rfl rfl ?_
      by_cases h3 : q2.1 = true
      · replace h := if_y h3 h
        refine h_n (b01_1 h3) ?_
        refine h_it 5 (x' := (39, [(0, .ref 48), (1, .int x1), (2, .long x2), (4, .int x4)], [.int (xsAt (gR q2.2 0) x4), .long x2], (hpC q2.2, Q))) rfl ?_
        refine h_callS (av := [.long x2, .int (xsAt (gR q2.2 0) x4)]) (r1 := some (.long ((x2 * 32) + (Int32.toInt64 (((xsAt (gR q2.2 0) x4) - 97) + 1))))) (st := []) (H1 := (hpC q2.2, Q)) rfl rfl rfl rfl rfl (m17_ok x2 (xsAt (gR q2.2 0) x4) q2.2) ?_
        refine h_it 3 (x' := (5, [(4, .int (x4 + 1)), (2, .long ((x2 * 32) + (Int32.toInt64 (((xsAt (gR q2.2 0) x4) - 97) + 1)))), (0, .ref 48), (1, .int x1)], [], (hpC q2.2, Q))) rfl ?_
        refine h_lw (lv := [(0, .ref 48), (1, .int x1), (2, .long ((x2 * 32) + (Int32.toInt64 (((xsAt (gR q2.2 0) x4) - 97) + 1)))), (4, .int (x4 + 1))]) (fa_c rfl (fa_c rfl (fa_c rfl (fa_c rfl (fa_n))))) rfl ?_
        exact ih x1 ((x2 * 32) + (Int32.toInt64 (((xsAt (gR q2.2 0) x4) - 97) + 1))) (x4 + 1) q2.2 _ h
      · replace h := if_n h3 h
        refine h_y (b01_0 h3) ?_
        replace h := Option.some.inj h; subst h
        refine h_it 1 (x' := (50, [(0, .ref 48), (1, .int x1), (2, .long x2), (4, .int x4)], [.long x2], (hpC q2.2, Q))) rfl ?_
        exact h_lret rfl rfl
theorem m37_ok {a1 : Int32} {s : xSt} {q : Int64 × xSt} (h : m37 a1 s = some q) : HC V L Kc Ks 37 [.ref 48, .int a1] (hpC s, Q) (some (.long q.1)) (hpC q.2, Q) := by
  unfold m37 at h
  refine hc_of (by decide) rfl ?_
  refine h_it 4 (x' := (5, [(4, .int a1), (2, .long 0), (0, .ref 48), (1, .int a1)], [], (hpC s, Q))) rfl ?_
  refine h_lw (lv := [(0, .ref 48), (1, .int a1), (2, .long 0), (4, .int a1)]) (fa_c rfl (fa_c rfl (fa_c rfl (fa_c rfl (fa_n))))) rfl ?_
  exact m37_5_ok  1000000 a1 0 a1 s _ h
end Sm37
section Sm80
variable {V : xmV} {L : List Nat} {Kc Ks : Nat} {Q : List xE}
theorem m80_ok {l1 : Int64} {s : xSt} {q : xSt} (h : m80 l1 s = some q) : HC V L Kc Ks 80 [.ref 49, .long l1] (hpC s, Q) (none) (hpC q, Q) := by
  unfold m80 at h
  refine hc_of (by decide) rfl ?_
  refine h_it 2 (x' := (4, [(0, .ref 49), (1, .long l1)], [.int (gI s 11)], (hpC s, Q))) rfl ?_
  refine h_br (b := decide ((gI s 11) < 0)) (t := 39) (f := 7) (lv' := [(0, .ref 49), (1, .long l1)]) (st' := []) rfl rfl ?_
  by_cases h1 : (gI s 11) < 0
  · replace h := if_y h1 h
    refine h_y h1 ?_
    replace h := Option.some.inj h; subst h
    exact h_vret rfl rfl
  · replace h := if_n h1 h
    refine h_n h1 ?_
    refine h_it 4 (x' := (15, [(0, .ref 49), (1, .long l1)], [.ref 50, .int (gI s 11)], (hpC s, Q))) rfl ?_
    refine h_llen rfl rfl ?_
    refine h_br (b := decide ((nI ((gL s 0)).length) ≤ (gI s 11))) (t := 39) (f := 19) (lv' := [(0, .ref 49), (1, .long l1)]) (st' := []) rfl rfl ?_
    by_cases h2 : (nI ((gL s 0)).length) ≤ (gI s 11)
    · replace h := if_y h2 h
      refine h_y h2 ?_
      replace h := Option.some.inj h; subst h
      exact h_vret rfl rfl
    · replace h := if_n h2 h
      refine h_n h2 ?_
      refine h_it 5 (x' := (28, [(0, .ref 49), (1, .long l1)], [.long l1, .int (gI s 11), .ref 50], (hpC s, Q))) rfl ?_
      obtain ⟨u3, hu3, h⟩ := Option.bind_eq_some_iff.mp h
      refine h_last rfl rfl hu3 ?_
      show HE V L Kc Ks 80 (29, [(0, .ref 49), (1, .long l1)], [], (hpC (sL s 0 u3), Q)) _ _
      replace h := Option.some.inj h; subst h
      refine h_it 6 (x' := (39, [(0, .ref 49), (1, .long l1)], [], (hpC (sI (sL s 0 u3) 11 ((gI s 11) + 1)), Q))) rfl ?_
      exact h_vret rfl rfl
end Sm80
section Sm40
variable {V : xmV} {L : List Nat} {Kc Ks : Nat} {Q : List xE}
theorem m40_0_ok   : ∀ (n : Nat)  (s : xSt) (q : xSt), m40_0  n  s = some q → HE V L Kc Ks 40 (0, [(0, .ref 48)], [], (hpC s, Q)) (none) (hpC q, Q) := by
  intro n
  induction n with
  | zero => intro  s q h; cases h
  | succ n ih =>
    intro  s q h
    unfold m40_0 at h
    refine h_it 5 (x' := (11, [(0, .ref 48)], [.int (nI ((gR s 0)).length), .int (gI s 4)], (hpC s, Q))) rfl ?_
    refine h_br (b := decide ((nI ((gR s 0)).length) ≤ (gI s 4))) (t := 59) (f := 14) (lv' := [(0, .ref 48)]) (st' := []) rfl rfl ?_
    by_cases h1 : (nI ((gR s 0)).length) ≤ (gI s 4)
    · replace h := if_y h1 h
      refine h_y h1 ?_
      replace h := Option.some.inj h; subst h
      exact h_vret rfl rfl
    · replace h := if_n h1 h
      refine h_n h1 ?_
      refine h_it 6 (x' := (27, [(0, .ref 48)], [.int 32, .int (xsAt (gR s 0) (gI s 4))], (hpC s, Q))) rfl ?_
      refine h_br (b := decide ((xsAt (gR s 0) (gI s 4)) = 32)) (t := 46) (f := 30) (lv' := [(0, .ref 48)]) (st' := []) rfl rfl ?_
      by_cases h2 : (xsAt (gR s 0) (gI s 4)) = 32
      · replace h := if_y h2 h
        refine h_y h2 ?_
        refine h_it 7 (x' := (0, [(0, .ref 48)], [], (hpC (sI s 4 ((gI s 4) + 1)), Q))) rfl ?_
        refine h_lw (lv := [(0, .ref 48)]) (fa_c rfl (fa_n)) rfl ?_
        exact ih (sI s 4 ((gI s 4) + 1)) _ h
      · replace h := if_n h2 h
        refine h_n h2 ?_
        refine h_it 6 (x' := (43, [(0, .ref 48)], [.int 10, .int (xsAt (gR s 0) (gI s 4))], (hpC s, Q))) rfl ?_
        refine h_br (b := decide (¬ (xsAt (gR s 0) (gI s 4)) = 10)) (t := 59) (f := 46) (lv' := [(0, .ref 48)]) (st' := []) rfl rfl ?_
        by_cases h3 : (xsAt (gR s 0) (gI s 4)) = 10
        · replace h := if_y h3 h
          refine h_n (fun z => z h3) ?_
          refine h_it 7 (x' := (0, [(0, .ref 48)], [], (hpC (sI s 4 ((gI s 4) + 1)), Q))) rfl ?_
          refine h_lw (lv := [(0, .ref 48)]) (fa_c rfl (fa_n)) rfl ?_
          exact ih (sI s 4 ((gI s 4) + 1)) _ h
        · replace h := if_n h3 h
          refine h_y h3 ?_
          replace h := Option.some.inj h; subst h
          exact h_vret rfl rfl
theorem m40_ok  {s : xSt} {q : xSt} (h : m40  s = some q) : HC V L Kc Ks 40 [.ref 48] (hpC s, Q) (none) (hpC q, Q) := by
  unfold m40 at h
  refine hc_of (by decide) rfl ?_
  refine h_lw (lv := [(0, .ref 48)]) (fa_c rfl (fa_n)) rfl ?_
  exact m40_0_ok  1000000 s _ h
end Sm40
section Sm42
variable {V : xmV} {L : List Nat} {Kc Ks : Nat} {Q : List xE}
theorem m42_ok {a0 : Int32} {s : xSt} {q : Bool × xSt} (h : m42 a0 s = some q) : HC V L Kc Ks 42 [.int a0] (hpC s, Q) (some (.int (b01 q.1))) (hpC q.2, Q) := by
  unfold m42 at h
  refine hc_of (by decide) rfl ?_
  refine h_it 2 (x' := (3, [(0, .int a0)], [.int 48, .int a0], (hpC s, Q))) rfl ?_
  refine h_br (b := decide (a0 < 48)) (t := 16) (f := 6) (lv' := [(0, .int a0)]) (st' := []) rfl rfl ?_
  by_cases h1 : a0 < 48
  · replace h := if_y h1 h
    refine h_y h1 ?_
    replace h := Option.some.inj h; subst h
    refine h_it 1 (x' := (17, [(0, .int a0)], [.int (b01 false)], (hpC s, Q))) rfl ?_
    exact h_zret rfl rfl
  · replace h := if_n h1 h
    refine h_n h1 ?_
    refine h_it 2 (x' := (9, [(0, .int a0)], [.int 57, .int a0], (hpC s, Q))) rfl ?_
    refine h_br (b := decide (57 < a0)) (t := 16) (f := 12) (lv' := [(0, .int a0)]) (st' := []) rfl rfl ?_
    by_cases h2 : 57 < a0
    · replace h := if_y h2 h
      refine h_y h2 ?_
      replace h := Option.some.inj h; subst h
      refine h_it 1 (x' := (17, [(0, .int a0)], [.int (b01 false)], (hpC s, Q))) rfl ?_
      exact h_zret rfl rfl
    · replace h := if_n h2 h
      refine h_n h2 ?_
      replace h := Option.some.inj h; subst h
      refine h_it 2 (x' := (17, [(0, .int a0)], [.int (b01 true)], (hpC s, Q))) rfl ?_
      exact h_zret rfl rfl
end Sm42
section Sm41
variable {V : xmV} {L : List Nat} {Kc Ks : Nat} {Q : List xE}
theorem m41_ok {a0 : Int32} {s : xSt} {q : Bool × xSt} (h : m41 a0 s = some q) : HC V L Kc Ks 41 [.int a0] (hpC s, Q) (some (.int (b01 q.1))) (hpC q.2, Q) := by
  unfold m41 at h
  refine hc_of (by decide) rfl ?_
  refine h_it 1 (x' := (1, [(0, .int a0)], [.int a0], (hpC s, Q))) rfl ?_
  obtain ⟨q1, hq1, h⟩ := Option.bind_eq_some_iff.mp h
  refine h_callS (av := [.int a0]) (r1 := some (.int (b01 q1.1))) (st := []) (H1 := (hpC q1.2, Q)) rfl rfl rfl rfl rfl (m38_ok hq1) ?_
  refine h_br (b := decide (¬ (b01 q1.1) = 0)) (t := 20) (f := 7) (lv' := [(0, .int a0)]) (st' := []) rfl rfl ?_
  by_cases h2 : q1.1 = true
  · replace h := if_y h2 h
    refine h_y (b01_1 h2) ?_
    replace h := Option.some.inj h; subst h
    refine h_it 2 (x' := (25, [(0, .int a0)], [.int (b01 true)], (hpC q1.2, Q))) rfl ?_
    exact h_zret rfl rfl
  · replace h := if_n h2 h
    refine h_n (fun z => z (b01_0 h2)) ?_
    refine h_it 1 (x' := (8, [(0, .int a0)], [.int a0], (hpC q1.2, Q))) rfl ?_
    obtain ⟨q3, hq3, h⟩ := Option.bind_eq_some_iff.mp h
    refine h_callS (av := [.int a0]) (r1 := some (.int (b01 q3.1))) (st := []) (H1 := (hpC q3.2, Q)) rfl rfl rfl rfl rfl (m42_ok hq3) ?_
    refine h_br (b := decide (¬ (b01 q3.1) = 0)) (t := 20) (f := 14) (lv' := [(0, .int a0)]) (st' := []) rfl rfl ?_
    by_cases h4 : q3.1 = true
    · replace h := if_y h4 h
      refine h_y (b01_1 h4) ?_
      replace h := Option.some.inj h; subst h
      refine h_it 2 (x' := (25, [(0, .int a0)], [.int (b01 true)], (hpC q3.2, Q))) rfl ?_
      exact h_zret rfl rfl
    · replace h := if_n h4 h
      refine h_n (fun z => z (b01_0 h4)) ?_
      refine h_it 2 (x' := (17, [(0, .int a0)], [.int 45, .int a0], (hpC q3.2, Q))) rfl ?_
      refine h_br (b := decide (¬ a0 = 45)) (t := 24) (f := 20) (lv' := [(0, .int a0)]) (st' := []) rfl rfl ?_
      by_cases h5 : a0 = 45
      · replace h := if_y h5 h
        refine h_n (fun z => z h5) ?_
        replace h := Option.some.inj h; subst h
        refine h_it 2 (x' := (25, [(0, .int a0)], [.int (b01 true)], (hpC q3.2, Q))) rfl ?_
        exact h_zret rfl rfl
      · replace h := if_n h5 h
        refine h_y h5 ?_
        replace h := Option.some.inj h; subst h
        refine h_it 1 (x' := (25, [(0, .int a0)], [.int (b01 false)], (hpC q3.2, Q))) rfl ?_
        exact h_zret rfl rfl
end Sm41
section Sm44
variable {V : xmV} {L : List Nat} {Kc Ks : Nat} {Q : List xE}
theorem m44_5_ok   : ∀ (n : Nat) (x1 : Int32) (s : xSt) (q : Bool × xSt), m44_5  n x1 s = some q → HE V L Kc Ks 44 (5, [(0, .ref 48), (1, .int x1)], [], (hpC s, Q)) (some (.int (b01 q.1))) (hpC q.2, Q) := by
  intro n
  induction n with
  | zero => intro x1 s q h; cases h
  | succ n ih =>
    intro x1 s q h
    unfold m44_5 at h
    refine h_it 3 (x' := (10, [(0, .ref 48), (1, .int x1)], [.int (gI s 4), .int x1], (hpC s, Q))) rfl ?_
    refine h_br (b := decide ((gI s 4) ≤ x1)) (t := 35) (f := 13) (lv' := [(0, .ref 48), (1, .int x1)]) (st' := []) rfl rfl ?_
    by_cases h1 : (gI s 4) ≤ x1
    · replace h := if_y h1 h
      refine h_y h1 ?_
      refine h_it 6 (x' := (46, [(0, .ref 48), (1, .int x1)], [.int 12, .int ((gI s 4) - (gI s 6))], (hpC s, Q))) rfl ?_
      refine h_br (b := decide (12 < ((gI s 4) - (gI s 6)))) (t := 53) (f := 49) (lv' := [(0, .ref 48), (1, .int x1)]) (st' := []) rfl rfl ?_
      by_cases h2 : 12 < ((gI s 4) - (gI s 6))
      · replace h := if_y h2 h
        refine h_y h2 ?_
        replace h := Option.some.inj h; subst h
        refine h_it 1 (x' := (54, [(0, .ref 48), (1, .int x1)], [.int (b01 false)], (hpC s, Q))) rfl ?_
        exact h_zret rfl rfl
      · replace h := if_n h2 h
        refine h_n h2 ?_
        replace h := Option.some.inj h; subst h
        refine h_it 2 (x' := (54, [(0, .ref 48), (1, .int x1)], [.int (b01 true)], (hpC s, Q))) rfl ?_
        exact h_zret rfl rfl
    · replace h := if_n h1 h
      refine h_n h1 ?_
      refine h_it 4 (x' := (21, [(0, .ref 48), (1, .int x1)], [.int (xsAt (gR s 0) x1)], (hpC s, Q))) rfl ?_
      obtain ⟨q3, hq3, h⟩ := Option.bind_eq_some_iff.mp h
      refine h_callS (av := [.int (xsAt (gR s 0) x1)]) (r1 := some (.int (b01 q3.1))) (st := []) (H1 := (hpC q3.2, Q)) rfl rfl rfl rfl rfl (m38_ok hq3) ?_
      refine h_br (b := decide (¬ (b01 q3.1) = 0)) (t := 29) (f := 27) (lv' := [(0, .ref 48), (1, .int x1)]) (st' := []) rfl rfl ?_
      by_cases h4 : q3.1 = true
      · replace h := if_y h4 h
        refine h_y (b01_1 h4) ?_
        refine h_it 2 (x' := (5, [(1, .int (x1 + 1)), (0, .ref 48)], [], (hpC q3.2, Q))) rfl ?_
        refine h_lw (lv := [(0, .ref 48), (1, .int (x1 + 1))]) (fa_c rfl (fa_c rfl (fa_n))) rfl ?_
        exact ih (x1 + 1) q3.2 _ h
      · replace h := if_n h4 h
        refine h_n (fun z => z (b01_0 h4)) ?_
        replace h := Option.some.inj h; subst h
        refine h_it 1 (x' := (28, [(0, .ref 48), (1, .int x1)], [.int (b01 false)], (hpC q3.2, Q))) rfl ?_
        exact h_zret rfl rfl
theorem m44_ok  {s : xSt} {q : Bool × xSt} (h : m44  s = some q) : HC V L Kc Ks 44 [.ref 48] (hpC s, Q) (some (.int (b01 q.1))) (hpC q.2, Q) := by
  unfold m44 at h
  refine hc_of (by decide) rfl ?_
  refine h_it 3 (x' := (5, [(1, .int (gI s 6)), (0, .ref 48)], [], (hpC s, Q))) rfl ?_
  refine h_lw (lv := [(0, .ref 48), (1, .int (gI s 6))]) (fa_c rfl (fa_c rfl (fa_n))) rfl ?_
  exact m44_5_ok  1000000 (gI s 6) s _ h
end Sm44
section Sm18
variable {V : xmV} {L : List Nat} {Kc Ks : Nat} {Q : List xE}
theorem m18_7_ok   : ∀ (n : Nat) (x0 : Int64) (x2 : Int32) (x3 : Int64) (x5 : Int32) (s : xSt) (q : Int32 × xSt), m18_7  n x0 x2 x3 x5 s = some q → HE V L Kc Ks 18 (7, [(0, .long x0), (2, .int x2), (3, .long x3), (5, .int x5)], [], (hpC s, Q)) (some (.int q.1)) (hpC q.2, Q) := by
  intro n
  induction n with
  | zero => intro x0 x2 x3 x5 s q h; cases h
  | succ n ih =>
    intro x0 x2 x3 x5 s q h
    unfold m18_7 at h
    refine h_it 2 (x' := (11, [(0, .long x0), (2, .int x2), (3, .long x3), (5, .int x5)], [.retAddr 9, .int x5], (hpC s, Q))) rfl ?_
    obtain ⟨v1, hv1, h⟩ := Option.bind_eq_some_iff.mp h
    refine h_callT (As := []) (r1 := some (.int v1)) (st := [.int x5]) rfl rfl (xt_ltL hv1) rfl rfl rfl (xt_len_ok hv1) ?_
    refine h_br (b := decide (v1 ≤ x5)) (t := 62) (f := 17) (lv' := [(0, .long x0), (2, .int x2), (3, .long x3), (5, .int x5)]) (st' := []) rfl rfl ?_
    by_cases h2 : v1 ≤ x5
    · replace h := if_y h2 h
      refine h_y h2 ?_
      replace h := Option.some.inj h; subst h
      refine h_it 1 (x' := (63, [(0, .long x0), (2, .int x2), (3, .long x3), (5, .int x5)], [.int 0], (hpC s, Q))) rfl ?_
      exact h_iret rfl rfl
    · replace h := if_n h2 h
      refine h_n h2 ?_
      refine h_it 2 (x' := (21, [(0, .long x0), (2, .int x2), (3, .long x3), (5, .int x5)], [.int x5, .retAddr 9], (hpC s, Q))) rfl ?_
      obtain ⟨v3, hv3, h⟩ := Option.bind_eq_some_iff.mp h
      refine h_callT (As := [.int x5]) (r1 := some (.int v3)) (st := []) rfl rfl (xt_ltA hv3) rfl rfl rfl (xt_at_ok hv3) ?_
      refine h_it 3 (x' := (30, [(6, .int v3), (0, .long x0), (2, .int x2), (3, .long x3), (5, .int x5)], [.int 32, .int v3], (hpC s, Q))) rfl ?_
      refine h_br (b := decide (v3 = 32)) (t := 43) (f := 33) (lv' := [(6, .int v3), (0, .long x0), (2, .int x2), (3, .long x3), (5, .int x5)]) (st' := []) rfl rfl ?_
      by_cases h4 : v3 = 32
      · replace h := if_y h4 h
        refine h_y h4 ?_
        refine h_it 3 (x' := (46, [(6, .int v3), (0, .long x0), (2, .int x2), (3, .long x3), (5, .int x5)], [.int (lg_cmp x3 x0)], (hpC s, Q))) rfl ?_
        refine h_br (b := decide (¬ (lg_cmp x3 x0) = 0)) (t := 51) (f := 49) (lv' := [(6, .int v3), (0, .long x0), (2, .int x2), (3, .long x3), (5, .int x5)]) (st' := []) rfl rfl ?_
        by_cases h5 : (lg_cmp x3 x0) = 0
        · replace h := if_y h5 h
          refine h_n (fun z => z h5) ?_
          replace h := Option.some.inj h; subst h
          refine h_it 1 (x' := (50, [(6, .int v3), (0, .long x0), (2, .int x2), (3, .long x3), (5, .int x5)], [.int x2], (hpC s, Q))) rfl ?_
          exact h_iret rfl rfl
        · replace h := if_n h5 h
          refine h_y h5 ?_
          refine h_it 5 (x' := (7, [(5, .int (x5 + 1)), (2, .int (x2 + 1)), (3, .long 0), (6, .int v3), (0, .long x0)], [], (hpC s, Q))) rfl ?_
          refine h_lw (lv := [(0, .long x0), (2, .int (x2 + 1)), (3, .long 0), (5, .int (x5 + 1))]) (fa_c rfl (fa_c rfl (fa_c rfl (fa_c rfl (fa_n))))) rfl ?_
          exact ih x0 (x2 + 1) 0 (x5 + 1) s _ h
      · replace h := if_n h4 h
        refine h_n h4 ?_
        refine h_it 2 (x' := (36, [(6, .int v3), (0, .long x0), (2, .int x2), (3, .long x3), (5, .int x5)], [.int v3, .long x3], (hpC s, Q))) rfl ?_
        refine h_callS (av := [.long x3, .int v3]) (r1 := some (.long ((x3 * 32) + (Int32.toInt64 ((v3 - 97) + 1))))) (st := []) (H1 := (hpC s, Q)) rfl rfl rfl rfl rfl (m17_ok x3 v3 s) ?_
        refine h_it 4 (x' := (7, [(5, .int (x5 + 1)), (3, .long ((x3 * 32) + (Int32.toInt64 ((v3 - 97) + 1)))), (6, .int v3), (0, .long x0), (2, .int x2)], [], (hpC s, Q))) rfl ?_
        refine h_lw (lv := [(0, .long x0), (2, .int x2), (3, .long ((x3 * 32) + (Int32.toInt64 ((v3 - 97) + 1)))), (5, .int (x5 + 1))]) (fa_c rfl (fa_c rfl (fa_c rfl (fa_c rfl (fa_n))))) rfl ?_
        exact ih x0 x2 ((x3 * 32) + (Int32.toInt64 ((v3 - 97) + 1))) (x5 + 1) s _ h
theorem m18_ok {l0 : Int64} {s : xSt} {q : Int32 × xSt} (h : m18 l0 s = some q) : HC V L Kc Ks 18 [.long l0] (hpC s, Q) (some (.int q.1)) (hpC q.2, Q) := by
  unfold m18 at h
  refine hc_of (by decide) rfl ?_
  refine h_it 6 (x' := (7, [(5, .int 0), (3, .long 0), (2, .int 1), (0, .long l0)], [], (hpC s, Q))) rfl ?_
  refine h_lw (lv := [(0, .long l0), (2, .int 1), (3, .long 0), (5, .int 0)]) (fa_c rfl (fa_c rfl (fa_c rfl (fa_c rfl (fa_n))))) rfl ?_
  exact m18_7_ok  1000000 l0 1 0 0 s _ h
end Sm18
section Sm45
variable {V : xmV} {L : List Nat} {Kc Ks : Nat} {Q : List xE}
theorem m45_136_ok   {x2 : Int32} {y0 : Int64} {s : xSt} {q : Bool × xSt} (h : m45_136  x2 y0 s = some q) : HE V L Kc Ks 45 (136, [(0, .ref 48), (2, .int x2)], [.long y0, .ref 48], (hpC s, Q)) (some (.int (b01 q.1))) (hpC q.2, Q) := by
  unfold m45_136 at h
  refine h_it 5 (x' := (145, [(0, .ref 48), (2, .int x2)], [.int (gI s 4), .int x2], (hpC (sI s 7 (Int64.toInt32 y0)), Q))) rfl ?_
  refine h_br (b := decide ((gI s 4) ≤ x2)) (t := 152) (f := 148) (lv' := [(0, .ref 48), (2, .int x2)]) (st' := []) rfl rfl ?_
  by_cases h6 : (gI s 4) ≤ x2
  · replace h := if_y h6 h
    refine h_y h6 ?_
    replace h := Option.some.inj h; subst h
    refine h_it 1 (x' := (153, [(0, .ref 48), (2, .int x2)], [.int (b01 false)], (hpC (sI s 7 (Int64.toInt32 y0)), Q))) rfl ?_
    exact h_zret rfl rfl
  · replace h := if_n h6 h
    refine h_n h6 ?_
    replace h := Option.some.inj h; subst h
    refine h_it 2 (x' := (153, [(0, .ref 48), (2, .int x2)], [.int (b01 true)], (hpC (sI s 7 (Int64.toInt32 y0)), Q))) rfl ?_
    exact h_zret rfl rfl
theorem m45_60_ok   : ∀ (n : Nat) (x1 : Bool) (x2 : Int32) (x3 : Int64) (x5 : Int64) (x7 : Int32) (s : xSt) (q : Bool × xSt), m45_60  n x1 x2 x3 x5 x7 s = some q → HE V L Kc Ks 45 (60, [(0, .ref 48), (1, .int (b01 x1)), (2, .int x2), (3, .long x3), (5, .long x5), (7, .int x7)], [], (hpC s, Q)) (some (.int (b01 q.1))) (hpC q.2, Q) := by
  intro n
  induction n with
  | zero => intro x1 x2 x3 x5 x7 s q h; cases h
  | succ n ih =>
    intro x1 x2 x3 x5 x7 s q h
    unfold m45_60 at h
    refine h_it 3 (x' := (66, [(0, .ref 48), (1, .int (b01 x1)), (2, .int x2), (3, .long x3), (5, .long x5), (7, .int x7)], [.int (gI s 4), .int x7], (hpC s, Q))) rfl ?_
    refine h_br (b := decide ((gI s 4) ≤ x7)) (t := 123) (f := 69) (lv' := [(0, .ref 48), (1, .int (b01 x1)), (2, .int x2), (3, .long x3), (5, .long x5), (7, .int x7)]) (st' := []) rfl rfl ?_
    by_cases h4 : (gI s 4) ≤ x7
    · replace h := if_y h4 h
      refine h_y h4 ?_
      refine h_it 2 (x' := (125, [(0, .ref 48), (1, .int (b01 x1)), (2, .int x2), (3, .long x3), (5, .long x5), (7, .int x7)], [.int (b01 x1), .ref 48], (hpC s, Q))) rfl ?_
      refine h_br (b := decide ((b01 x1) = 0)) (t := 134) (f := 128) (lv' := [(0, .ref 48), (1, .int (b01 x1)), (2, .int x2), (3, .long x3), (5, .long x5), (7, .int x7)]) (st' := [.ref 48]) rfl rfl ?_
      by_cases h5 : x1 = true
      · replace h := if_y h5 h
        refine h_n (b01_1 h5) ?_
        refine h_it 3 (x' := (136, [(0, .ref 48), (1, .int (b01 x1)), (2, .int x2), (3, .long x3), (5, .long x5), (7, .int x7)], [.long (-x5), .ref 48], (hpC s, Q))) rfl ?_
        refine h_lw (lv := [(0, .ref 48), (2, .int x2)]) (fa_c rfl (fa_c rfl (fa_n))) rfl ?_
        exact m45_136_ok  h
      · replace h := if_n h5 h
        refine h_y (b01_0 h5) ?_
        refine h_it 1 (x' := (136, [(0, .ref 48), (1, .int (b01 x1)), (2, .int x2), (3, .long x3), (5, .long x5), (7, .int x7)], [.long x5, .ref 48], (hpC s, Q))) rfl ?_
        refine h_lw (lv := [(0, .ref 48), (2, .int x2)]) (fa_c rfl (fa_c rfl (fa_n))) rfl ?_
        exact m45_136_ok  h
    · replace h := if_n h4 h
      refine h_n h4 ?_
      refine h_it 4 (x' := (78, [(0, .ref 48), (1, .int (b01 x1)), (2, .int x2), (3, .long x3), (5, .long x5), (7, .int x7)], [.int (xsAt (gR s 0) x7)], (hpC s, Q))) rfl ?_
      obtain ⟨q7, hq7, h⟩ := Option.bind_eq_some_iff.mp h
      refine h_callS (av := [.int (xsAt (gR s 0) x7)]) (r1 := some (.int (b01 q7.1))) (st := []) (H1 := (hpC q7.2, Q)) rfl rfl rfl rfl rfl (m42_ok hq7) ?_
      refine h_br (b := decide (¬ (b01 q7.1) = 0)) (t := 86) (f := 84) (lv' := [(0, .ref 48), (1, .int (b01 x1)), (2, .int x2), (3, .long x3), (5, .long x5), (7, .int x7)]) (st' := []) rfl rfl ?_
      by_cases h8 : q7.1 = true
      · replace h := if_y h8 h
        refine h_y (b01_1 h8) ?_
        refine h_it 15 (x' := (112, [(5, .long ((x5 * 10) + (Int32.toInt64 ((xsAt (gR q7.2 0) x7) - 48)))), (0, .ref 48), (1, .int (b01 x1)), (2, .int x2), (3, .long x3), (7, .int x7)], [.int (lg_cmp ((x5 * 10) + (Int32.toInt64 ((xsAt (gR q7.2 0) x7) - 48))) x3)], (hpC q7.2, Q))) rfl ?_
        refine h_br (b := decide ((lg_cmp ((x5 * 10) + (Int32.toInt64 ((xsAt (gR q7.2 0) x7) - 48))) x3) ≤ 0)) (t := 117) (f := 115) (lv' := [(5, .long ((x5 * 10) + (Int32.toInt64 ((xsAt (gR q7.2 0) x7) - 48)))), (0, .ref 48), (1, .int (b01 x1)), (2, .int x2), (3, .long x3), (7, .int x7)]) (st' := []) rfl rfl ?_
        by_cases h9 : (lg_cmp ((x5 * 10) + (Int32.toInt64 ((xsAt (gR q7.2 0) x7) - 48))) x3) ≤ 0
        · replace h := if_y h9 h
          refine h_y h9 ?_
          refine h_it 2 (x' := (60, [(7, .int (x7 + 1)), (5, .long ((x5 * 10) + (Int32.toInt64 ((xsAt (gR q7.2 0) x7) - 48)))), (0, .ref 48), (1, .int (b01 x1)), (2, .int x2), (3, .long x3)], [], (hpC q7.2, Q))) rfl ?_
          refine h_lw (lv := [(0, .ref 48), (1, .int (b01 x1)), (2, .int x2), (3, .long x3), (5, .long ((x5 * 10) + (Int32.toInt64 ((xsAt (gR q7.2 0) x7) - 48)))), (7, .int (x7 + 1))]) (fa_c rfl (fa_c rfl (fa_c rfl (fa_c rfl (fa_c rfl (fa_c rfl (fa_n))))))) rfl ?_
          exact ih x1 x2 x3 ((x5 * 10) + (Int32.toInt64 ((xsAt (gR q7.2 0) x7) - 48))) (x7 + 1) q7.2 _ h
        · replace h := if_n h9 h
          refine h_n h9 ?_
          replace h := Option.some.inj h; subst h
          refine h_it 1 (x' := (116, [(5, .long ((x5 * 10) + (Int32.toInt64 ((xsAt (gR q7.2 0) x7) - 48)))), (0, .ref 48), (1, .int (b01 x1)), (2, .int x2), (3, .long x3), (7, .int x7)], [.int (b01 false)], (hpC q7.2, Q))) rfl ?_
          exact h_zret rfl rfl
      · replace h := if_n h8 h
        refine h_n (fun z => z (b01_0 h8)) ?_
        replace h := Option.some.inj h; subst h
        refine h_it 1 (x' := (85, [(0, .ref 48), (1, .int (b01 x1)), (2, .int x2), (3, .long x3), (5, .long x5), (7, .int x7)], [.int (b01 false)], (hpC q7.2, Q))) rfl ?_
        exact h_zret rfl rfl
theorem m45_53_ok   {x1 : Bool} {x2 : Int32} {y0 : Int64} {s : xSt} {q : Bool × xSt} (h : m45_53  x1 x2 y0 s = some q) : HE V L Kc Ks 45 (53, [(0, .ref 48), (1, .int (b01 x1)), (2, .int x2)], [.long y0], (hpC s, Q)) (some (.int (b01 q.1))) (hpC q.2, Q) := by
  unfold m45_53 at h
  refine h_it 5 (x' := (60, [(7, .int x2), (5, .long 0), (3, .long y0), (0, .ref 48), (1, .int (b01 x1)), (2, .int x2)], [], (hpC s, Q))) rfl ?_
  refine h_lw (lv := [(0, .ref 48), (1, .int (b01 x1)), (2, .int x2), (3, .long y0), (5, .long 0), (7, .int x2)]) (fa_c rfl (fa_c rfl (fa_c rfl (fa_c rfl (fa_c rfl (fa_c rfl (fa_n))))))) rfl ?_
  exact m45_60_ok  1000000 x1 x2 y0 0 x2 s _ h
theorem m45_39_ok   {x1 : Bool} {y0 : Int32} {s : xSt} {q : Bool × xSt} (h : m45_39  x1 y0 s = some q) : HE V L Kc Ks 45 (39, [(0, .ref 48), (1, .int (b01 x1))], [.int y0], (hpC s, Q)) (some (.int (b01 q.1))) (hpC q.2, Q) := by
  unfold m45_39 at h
  refine h_it 2 (x' := (41, [(2, .int y0), (0, .ref 48), (1, .int (b01 x1))], [.int (b01 x1)], (hpC s, Q))) rfl ?_
  refine h_br (b := decide ((b01 x1) = 0)) (t := 50) (f := 44) (lv' := [(2, .int y0), (0, .ref 48), (1, .int (b01 x1))]) (st' := []) rfl rfl ?_
  by_cases h3 : x1 = true
  · replace h := if_y h3 h
    refine h_n (b01_1 h3) ?_
    refine h_it 2 (x' := (53, [(2, .int y0), (0, .ref 48), (1, .int (b01 x1))], [.long 2147483648], (hpC s, Q))) rfl ?_
    refine h_lw (lv := [(0, .ref 48), (1, .int (b01 x1)), (2, .int y0)]) (fa_c rfl (fa_c rfl (fa_c rfl (fa_n)))) rfl ?_
    exact m45_53_ok  h
  · replace h := if_n h3 h
    refine h_y (b01_0 h3) ?_
    refine h_it 1 (x' := (53, [(2, .int y0), (0, .ref 48), (1, .int (b01 x1))], [.long 2147483647], (hpC s, Q))) rfl ?_
    refine h_lw (lv := [(0, .ref 48), (1, .int (b01 x1)), (2, .int y0)]) (fa_c rfl (fa_c rfl (fa_c rfl (fa_n)))) rfl ?_
    exact m45_53_ok  h
theorem m45_21_ok   {y0 : Bool} {s : xSt} {q : Bool × xSt} (h : m45_21  y0 s = some q) : HE V L Kc Ks 45 (21, [(0, .ref 48)], [.int (b01 y0)], (hpC s, Q)) (some (.int (b01 q.1))) (hpC q.2, Q) := by
  unfold m45_21 at h
  refine h_it 2 (x' := (23, [(1, .int (b01 y0)), (0, .ref 48)], [.int (b01 y0)], (hpC s, Q))) rfl ?_
  refine h_br (b := decide ((b01 y0) = 0)) (t := 35) (f := 26) (lv' := [(1, .int (b01 y0)), (0, .ref 48)]) (st' := []) rfl rfl ?_
  by_cases h2 : y0 = true
  · replace h := if_y h2 h
    refine h_n (b01_1 h2) ?_
    refine h_it 5 (x' := (39, [(1, .int (b01 y0)), (0, .ref 48)], [.int ((gI s 6) + 1)], (hpC s, Q))) rfl ?_
    refine h_lw (lv := [(0, .ref 48), (1, .int (b01 y0))]) (fa_c rfl (fa_c rfl (fa_n))) rfl ?_
    exact m45_39_ok  h
  · replace h := if_n h2 h
    refine h_y (b01_0 h2) ?_
    refine h_it 2 (x' := (39, [(1, .int (b01 y0)), (0, .ref 48)], [.int (gI s 6)], (hpC s, Q))) rfl ?_
    refine h_lw (lv := [(0, .ref 48), (1, .int (b01 y0))]) (fa_c rfl (fa_c rfl (fa_n))) rfl ?_
    exact m45_39_ok  h
theorem m45_ok  {s : xSt} {q : Bool × xSt} (h : m45  s = some q) : HC V L Kc Ks 45 [.ref 48] (hpC s, Q) (some (.int (b01 q.1))) (hpC q.2, Q) := by
  unfold m45 at h
  refine hc_of (by decide) rfl ?_
  refine h_it 6 (x' := (13, [(0, .ref 48)], [.int 45, .int (xsAt (gR s 0) (gI s 6))], (hpC s, Q))) rfl ?_
  refine h_br (b := decide (¬ (xsAt (gR s 0) (gI s 6)) = 45)) (t := 20) (f := 16) (lv' := [(0, .ref 48)]) (st' := []) rfl rfl ?_
  by_cases h1 : (xsAt (gR s 0) (gI s 6)) = 45
  · replace h := if_y h1 h
    refine h_n (fun z => z h1) ?_
    refine h_it 2 (x' := (21, [(0, .ref 48)], [.int 1], (hpC s, Q))) rfl ?_
    refine h_lw (lv := [(0, .ref 48)]) (fa_c rfl (fa_n)) rfl ?_
    exact m45_21_ok  h
  · replace h := if_n h1 h
    refine h_y h1 ?_
    refine h_it 1 (x' := (21, [(0, .ref 48)], [.int 0], (hpC s, Q))) rfl ?_
    refine h_lw (lv := [(0, .ref 48)]) (fa_c rfl (fa_n)) rfl ?_
    exact m45_21_ok  h
end Sm45
