/-! texts: length, charAt, indexOf -/
def xtLen (t : Nat) : Option Int32 := if t < zN then some (nI (zBy t).length) else none
def xtAt (t : Nat) (i : Int32) : Option Int32 := if t < zN then xsGet (zBy t) i else none
def xtIdx (t : Nat) (c : Int32) : Option Int32 := if t = 0 ∧ c = 80 then some 2 else if t = 0 ∧ c = 82 then some 6 else none
theorem xt_ltL {t : Nat} {v : Int32} (h : xtLen t = some v) : t < zN := by
  unfold xtLen at h
  split at h
  · assumption
  · cases h
theorem xt_ltA {t : Nat} {i v : Int32} (h : xtAt t i = some v) : t < zN := by
  unfold xtAt at h
  split at h
  · assumption
  · cases h
theorem xt_ltI {t : Nat} {i v : Int32} (h : xtIdx t i = some v) : t < zN := by
  unfold xtIdx at h
  split at h
  next h1 => rw [h1.1]; decide
  next =>
    split at h
    next h1 => rw [h1.1]; decide
    next => cases h
section Txt
variable {V : xmV} {L : List Nat} {Kc Ks : Nat} {H : xHp}
theorem xt_len_ok {t : Nat} {v : Int32} (h : xtLen t = some v) : HC V L Kc Ks 236 [.retAddr t] H (some (.int v)) H := sorry
theorem xt_at_ok {t : Nat} {i v : Int32} (h : xtAt t i = some v) : HC V L Kc Ks 238 [.retAddr t, .int i] H (some (.int v)) H := sorry
theorem xt_idx_ok {t : Nat} {i v : Int32} (h : xtIdx t i = some v) : HC V L Kc Ks 243 [.retAddr t, .int i] H (some (.int v)) H := sorry
theorem xt_narrow {t : Nat} {i v : Int32} (h : xtAt t i = some v) : narrow .char (.int v) = .int v := sorry
end Txt
