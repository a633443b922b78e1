theorem zq_0 : okCls 0 = true := by decide +kernel
theorem zq_1 : okCls 1 = true := by decide +kernel
theorem zq_2 : okCls 2 = true := by decide +kernel
theorem zq_3 : okCls 3 = true := by decide +kernel
theorem zq_4 : okCls 4 = true := by decide +kernel
theorem zq_5 : okCls 5 = true := by decide +kernel
theorem zq_6 : okCls 6 = true := by decide +kernel
theorem zq_7 : okCls 7 = true := by decide +kernel
theorem zq_8 : okCls 8 = true := by decide +kernel
theorem zq_9 : okCls 9 = true := by decide +kernel
theorem zq_10 : okCls 10 = true := by decide +kernel
theorem zq_11 : okCls 11 = true := by decide +kernel
theorem zk_c : ∀ k, k < 12 → okCls k = true := by
  intro k hk
  rcases Nat.lt_or_ge k 6 with h | h
  · rcases Nat.lt_or_ge k 3 with h | h
    · rcases Nat.lt_or_ge k 1 with h | h
      · obtain rfl : k = 0 := by omega
        exact zq_0
      · rcases Nat.lt_or_ge k 2 with h | h
        · obtain rfl : k = 1 := by omega
          exact zq_1
        · obtain rfl : k = 2 := by omega
          exact zq_2
    · rcases Nat.lt_or_ge k 4 with h | h
      · obtain rfl : k = 3 := by omega
        exact zq_3
      · rcases Nat.lt_or_ge k 5 with h | h
        · obtain rfl : k = 4 := by omega
          exact zq_4
        · obtain rfl : k = 5 := by omega
          exact zq_5
  · rcases Nat.lt_or_ge k 9 with h | h
    · rcases Nat.lt_or_ge k 7 with h | h
      · obtain rfl : k = 6 := by omega
        exact zq_6
      · rcases Nat.lt_or_ge k 8 with h | h
        · obtain rfl : k = 7 := by omega
          exact zq_7
        · obtain rfl : k = 8 := by omega
          exact zq_8
    · rcases Nat.lt_or_ge k 10 with h | h
      · obtain rfl : k = 9 := by omega
        exact zq_9
      · rcases Nat.lt_or_ge k 11 with h | h
        · obtain rfl : k = 10 := by omega
          exact zq_10
        · obtain rfl : k = 11 := by omega
          exact zq_11
