/-! WHAT HOLDS AT THE LAW'S START -/
def txT (k : Nat) : Term := .string (zS k).1 (zS k).2.1
def txF (k : Nat) : Term := .field (txT k) "java/lang/String" "value" "[B"
def txW (k : Nat) : List Cond := [.exactly (txT k) "java/lang/String", .eq (.field (txT k) "java/lang/String" "coder" "B") (.int 0), .arrayOf (txF k) .byte, .eq (.length (txF k)) (.int (Int32.ofNat (zBy k).length))] ++ (List.range (zBy k).length).map (fun j => .eq (.elem (txF k) (.int (Int32.ofNat j))) (.int ((zBy k).getD j 0)))
def txO : List Nat := [23, 36, 44, 54, 68, 74, 80, 89, 95, 102, 210, 218, 242, 249, 256, 263, 271, 279, 287, 294, 301, 308, 315, 322, 330, 338, 344, 351, 359, 367, 375, 383, 391, 400, 408]
def gvC : List Cond := flatC (Jvm.Cond.and given_1 narrow_1)
theorem tx_mem {k n : Nat} (h : (gvC.drop n).take (txW k).length = txW k) : ∀ w ∈ txW k, w ∈ flatC (Jvm.Cond.and given_1 narrow_1) := fun w hw => by
  rw [← h] at hw
  exact List.mem_of_mem_drop (List.mem_of_mem_take hw)
theorem tx_0 : ∀ w ∈ txW 0, w ∈ flatC (Jvm.Cond.and given_1 narrow_1) := tx_mem (n := 23) (by decide +kernel)
theorem tx_1 : ∀ w ∈ txW 1, w ∈ flatC (Jvm.Cond.and given_1 narrow_1) := tx_mem (n := 36) (by decide +kernel)
theorem tx_2 : ∀ w ∈ txW 2, w ∈ flatC (Jvm.Cond.and given_1 narrow_1) := tx_mem (n := 44) (by decide +kernel)
theorem tx_3 : ∀ w ∈ txW 3, w ∈ flatC (Jvm.Cond.and given_1 narrow_1) := tx_mem (n := 54) (by decide +kernel)
theorem tx_4 : ∀ w ∈ txW 4, w ∈ flatC (Jvm.Cond.and given_1 narrow_1) := tx_mem (n := 68) (by decide +kernel)
theorem tx_5 : ∀ w ∈ txW 5, w ∈ flatC (Jvm.Cond.and given_1 narrow_1) := tx_mem (n := 74) (by decide +kernel)
theorem tx_6 : ∀ w ∈ txW 6, w ∈ flatC (Jvm.Cond.and given_1 narrow_1) := tx_mem (n := 80) (by decide +kernel)
theorem tx_7 : ∀ w ∈ txW 7, w ∈ flatC (Jvm.Cond.and given_1 narrow_1) := tx_mem (n := 89) (by decide +kernel)
theorem tx_8 : ∀ w ∈ txW 8, w ∈ flatC (Jvm.Cond.and given_1 narrow_1) := tx_mem (n := 95) (by decide +kernel)
theorem tx_9 : ∀ w ∈ txW 9, w ∈ flatC (Jvm.Cond.and given_1 narrow_1) := tx_mem (n := 102) (by decide +kernel)
theorem tx_10 : ∀ w ∈ txW 10, w ∈ flatC (Jvm.Cond.and given_1 narrow_1) := tx_mem (n := 210) (by decide +kernel)
theorem tx_11 : ∀ w ∈ txW 11, w ∈ flatC (Jvm.Cond.and given_1 narrow_1) := tx_mem (n := 218) (by decide +kernel)
theorem tx_12 : ∀ w ∈ txW 12, w ∈ flatC (Jvm.Cond.and given_1 narrow_1) := tx_mem (n := 242) (by decide +kernel)
theorem tx_13 : ∀ w ∈ txW 13, w ∈ flatC (Jvm.Cond.and given_1 narrow_1) := tx_mem (n := 249) (by decide +kernel)
theorem tx_14 : ∀ w ∈ txW 14, w ∈ flatC (Jvm.Cond.and given_1 narrow_1) := tx_mem (n := 256) (by decide +kernel)
theorem tx_15 : ∀ w ∈ txW 15, w ∈ flatC (Jvm.Cond.and given_1 narrow_1) := tx_mem (n := 263) (by decide +kernel)
theorem tx_16 : ∀ w ∈ txW 16, w ∈ flatC (Jvm.Cond.and given_1 narrow_1) := tx_mem (n := 271) (by decide +kernel)
theorem tx_17 : ∀ w ∈ txW 17, w ∈ flatC (Jvm.Cond.and given_1 narrow_1) := tx_mem (n := 279) (by decide +kernel)
theorem tx_18 : ∀ w ∈ txW 18, w ∈ flatC (Jvm.Cond.and given_1 narrow_1) := tx_mem (n := 287) (by decide +kernel)
theorem tx_19 : ∀ w ∈ txW 19, w ∈ flatC (Jvm.Cond.and given_1 narrow_1) := tx_mem (n := 294) (by decide +kernel)
theorem tx_20 : ∀ w ∈ txW 20, w ∈ flatC (Jvm.Cond.and given_1 narrow_1) := tx_mem (n := 301) (by decide +kernel)
theorem tx_21 : ∀ w ∈ txW 21, w ∈ flatC (Jvm.Cond.and given_1 narrow_1) := tx_mem (n := 308) (by decide +kernel)
theorem tx_22 : ∀ w ∈ txW 22, w ∈ flatC (Jvm.Cond.and given_1 narrow_1) := tx_mem (n := 315) (by decide +kernel)
theorem tx_23 : ∀ w ∈ txW 23, w ∈ flatC (Jvm.Cond.and given_1 narrow_1) := tx_mem (n := 322) (by decide +kernel)
theorem tx_24 : ∀ w ∈ txW 24, w ∈ flatC (Jvm.Cond.and given_1 narrow_1) := tx_mem (n := 330) (by decide +kernel)
theorem tx_25 : ∀ w ∈ txW 25, w ∈ flatC (Jvm.Cond.and given_1 narrow_1) := tx_mem (n := 338) (by decide +kernel)
theorem tx_26 : ∀ w ∈ txW 26, w ∈ flatC (Jvm.Cond.and given_1 narrow_1) := tx_mem (n := 344) (by decide +kernel)
theorem tx_27 : ∀ w ∈ txW 27, w ∈ flatC (Jvm.Cond.and given_1 narrow_1) := tx_mem (n := 351) (by decide +kernel)
theorem tx_28 : ∀ w ∈ txW 28, w ∈ flatC (Jvm.Cond.and given_1 narrow_1) := tx_mem (n := 359) (by decide +kernel)
theorem tx_29 : ∀ w ∈ txW 29, w ∈ flatC (Jvm.Cond.and given_1 narrow_1) := tx_mem (n := 367) (by decide +kernel)
theorem tx_30 : ∀ w ∈ txW 30, w ∈ flatC (Jvm.Cond.and given_1 narrow_1) := tx_mem (n := 375) (by decide +kernel)
theorem tx_31 : ∀ w ∈ txW 31, w ∈ flatC (Jvm.Cond.and given_1 narrow_1) := tx_mem (n := 383) (by decide +kernel)
theorem tx_32 : ∀ w ∈ txW 32, w ∈ flatC (Jvm.Cond.and given_1 narrow_1) := tx_mem (n := 391) (by decide +kernel)
theorem tx_33 : ∀ w ∈ txW 33, w ∈ flatC (Jvm.Cond.and given_1 narrow_1) := tx_mem (n := 400) (by decide +kernel)
theorem tx_34 : ∀ w ∈ txW 34, w ∈ flatC (Jvm.Cond.and given_1 narrow_1) := tx_mem (n := 408) (by decide +kernel)
theorem tx_in (k : Nat) (hk : k ∈ List.range zN) : ∀ w ∈ txW k, w ∈ flatC (Jvm.Cond.and given_1 narrow_1) := by
  have h : k < 35 := List.mem_range.mp hk
  match k, h with
  | 0, _ => exact tx_0
  | 1, _ => exact tx_1
  | 2, _ => exact tx_2
  | 3, _ => exact tx_3
  | 4, _ => exact tx_4
  | 5, _ => exact tx_5
  | 6, _ => exact tx_6
  | 7, _ => exact tx_7
  | 8, _ => exact tx_8
  | 9, _ => exact tx_9
  | 10, _ => exact tx_10
  | 11, _ => exact tx_11
  | 12, _ => exact tx_12
  | 13, _ => exact tx_13
  | 14, _ => exact tx_14
  | 15, _ => exact tx_15
  | 16, _ => exact tx_16
  | 17, _ => exact tx_17
  | 18, _ => exact tx_18
  | 19, _ => exact tx_19
  | 20, _ => exact tx_20
  | 21, _ => exact tx_21
  | 22, _ => exact tx_22
  | 23, _ => exact tx_23
  | 24, _ => exact tx_24
  | 25, _ => exact tx_25
  | 26, _ => exact tx_26
  | 27, _ => exact tx_27
  | 28, _ => exact tx_28
  | 29, _ => exact tx_29
  | 30, _ => exact tx_30
  | 31, _ => exact tx_31
  | 32, _ => exact tx_32
  | 33, _ => exact tx_33
  | 34, _ => exact tx_34
  | k + 35, h => exact absurd h (by omega)
theorem sr_in : ∀ k ∈ List.range zN, Cond.stringRef (zS k).1 (zS k).2.1 (zS k).2.2 ∈ lw_tbl := by decide +kernel
theorem tx_len : ∀ k ∈ List.range zN, (zBy k).length < 2 ^ 31 := by decide +kernel
theorem i_z1 : xR1 ∈ flatC (Jvm.Cond.and given_1 narrow_1) := by decide +kernel
theorem i_z2 : xR2 ∈ flatC (Jvm.Cond.and given_1 narrow_1) := by decide +kernel
theorem i_cs : Cond.eq (.static "java/lang/String" "COMPACT_STRINGS" "Z") (.int 1) ∈ flatC (Jvm.Cond.and given_1 narrow_1) := by decide +kernel
theorem i_sf : Cond.isRef (.static "jdk/internal/util/Preconditions" "SIOOBE_FORMATTER" "Ljava/util/function/BiFunction;") ∈ flatC (Jvm.Cond.and given_1 narrow_1) := by decide +kernel
theorem t_cs : Cond.laysStatic "java/lang/String" "COMPACT_STRINGS" "Z" ∈ lw_tbl := by decide +kernel
theorem t_cs2 : Cond.initialized "java/lang/String" ∈ lw_tbl := by decide +kernel
theorem t_sf : Cond.laysStatic "jdk/internal/util/Preconditions" "SIOOBE_FORMATTER" "Ljava/util/function/BiFunction;" ∈ lw_tbl := by decide +kernel
theorem t_sf2 : Cond.initialized "jdk/internal/util/Preconditions" ∈ lw_tbl := by decide +kernel
theorem t_a1 : Cond.arrayClass .int ∈ lw_tbl := by decide +kernel
theorem t_a2 : Cond.arrayClass .long ∈ lw_tbl := by decide +kernel
theorem t_a3 : Cond.arrayClass .byte ∈ lw_tbl := by decide +kernel
theorem t_a4 : Cond.arrayClass .boolean ∈ lw_tbl := by decide +kernel
section Facts
variable {s : State} {args : Array Value}
theorem tx_at (hts : ∀ w ∈ lw_tbl, w.before args s = true) (hg : ∀ w ∈ flatC (Jvm.Cond.and given_1 narrow_1), w.before args s = true) {k : Nat} (hk : k < zN) : ∃ q : Nat × Nat, va_O "java/lang/String" q.1 (fun q => s.heap.size ≤ q) s s.heap ∧ va_OF "java/lang/String" "coder" "B" (.int 0) q.1 (fun q => s.heap.size ≤ q) s s.heap ∧ va_OF "java/lang/String" "value" "[B" (.ref q.2) q.1 (fun q => s.heap.size ≤ q) s s.heap ∧ va_T .byte q.2 (zBy k).length (fun j => .int ((zBy k).getD j 0)) (fun q => s.heap.size ≤ q) s s.heap ∧ vk_R (zS k).1 (zS k).2.1 (zS k).2.2 q.1 s := by
  have hr : k ∈ List.range zN := List.mem_range.mpr hk
  have hw : ∀ w ∈ txW k, w.before args s = true := fun w h => hg w (tx_in k hr w h)
  obtain ⟨adK, adV, h1, h2⟩ := vk_Sof (args := args) (s := s) (N := 1) (tm := fun _ => txT k) (len := [(zBy k).length]) (byt := [zBy k]) (A := fun q => s.heap.size ≤ q)
    (fun i hi => by obtain rfl : i = 0 := by omega
                    exact tx_len k hr)
    (fun i _ => hw _ (List.mem_append_left _ (by simp))) (fun i _ => hw _ (List.mem_append_left _ (by simp))) (fun i _ => hw _ (List.mem_append_left _ (by simp [txF])))
    (fun i hi => by obtain rfl : i = 0 := by omega
                    exact hw _ (List.mem_append_left _ (by simp [txF])))
    (fun i hi j hj => by obtain rfl : i = 0 := by omega
                         exact hw _ (List.mem_append_right _ (List.mem_map.mpr ⟨j, List.mem_range.mpr hj, rfl⟩)))
    (fun i j hi hj h => absurd (show i = j by omega) h) (fun a ha => Nat.not_le.mpr ha)
  exact ⟨(adK 0, adV 0), (h1.1 0 (by decide)).1, (h1.1 0 (by decide)).2.1, (h1.1 0 (by decide)).2.2.1, (h1.1 0 (by decide)).2.2.2, vk_R.of (hts _ (sr_in k hr)) (h2 0 (by decide))⟩
theorem arr_at {ty : FieldType} (h : (Cond.arrayClass ty).before args s = true) : ∃ cA, ArrOfT s cA ty ∧ s.vm.findClass ("[" ++ ty.toString) = some cA := by
  obtain ⟨cA, kA, comp, h1, h2, h3⟩ := Cond.arrayClass_spec h
  exact ⟨cA, fun n z => ⟨fun k h => (by cases h), kA, h2, comp, h3⟩, h1⟩
theorem cls_at (hcls : ∀ ci, ci < 12 → xmClsOK ci) (hts : ∀ w ∈ xmTs, w.before args s = true) (k : Nat) : ∃ q : ClassId × (Nat → Nat), ∀ r : vw_C, vwCl[k]? = some r → u_Kn s r.1 r.2.1 r.2.2 q.1 q.2 := by
  by_cases hk : k < 12
  · obtain ⟨q, hq, hin, -, -, hinst, -, -, -⟩ := hcls k hk
    obtain ⟨cC, iS9, hK⟩ := u_known (C := q.1) (T := q.2.1) (N := q.2.2) (n := q.2.2) hts hin (hts _ hinst)
    exact ⟨(cC, iS9), fun r hr => by cases hq.symm.trans hr; exact hK⟩
  · exact ⟨(0, fun _ => 0), fun r hr => by
      have h9 : vwCl.length = 12 := rfl
      rw [List.getElem?_eq_none (by omega)] at hr
      cases hr⟩
theorem start_V {p : Program} (hx : p.tables.exec = Jvm.exec) (hcls : ∀ ci, ci < 12 → xmClsOK ci) {b : Nat} {xsL : List Int32} (hts : ∀ w ∈ lw_tbl, w.before args s = true) (hX : va_X b xsL.length (fun j => xsL.getD j 0) s s.heap) (hb : b < s.heap.size) (hg : ∀ w ∈ flatC (Jvm.Cond.and given_1 narrow_1), w.before args s = true) :
    ∃ V : xmV, V.2.2.2.1 = s.heap.size ∧ V.2.2.2.2.2.2.1 = b ∧ V.2.2.2.2.2.2.2.1 = xsL ∧ bxC p s args V := by
  have hts' : ∀ w ∈ xmTs, w.before args s = true := fun w hw => hts w (List.mem_filter.mp hw).1
  obtain ⟨fC, hfC⟩ := Classical.axiomOfChoice (cls_at hcls hts')
  obtain ⟨c1, a1, b1⟩ := arr_at (hts _ t_a1)
  obtain ⟨c2, a2, b2⟩ := arr_at (hts _ t_a2)
  obtain ⟨c3, a3, b3⟩ := arr_at (hts _ t_a3)
  obtain ⟨c4, a4, b4⟩ := arr_at (hts _ t_a4)
  have hT : ∀ k, ∃ q : Nat × Nat, k < zN → va_O "java/lang/String" q.1 (fun q => s.heap.size ≤ q) s s.heap ∧ va_OF "java/lang/String" "coder" "B" (.int 0) q.1 (fun q => s.heap.size ≤ q) s s.heap ∧ va_OF "java/lang/String" "value" "[B" (.ref q.2) q.1 (fun q => s.heap.size ≤ q) s s.heap ∧ va_T .byte q.2 (zBy k).length (fun j => .int ((zBy k).getD j 0)) (fun q => s.heap.size ≤ q) s s.heap ∧ vk_R (zS k).1 (zS k).2.1 (zS k).2.2 q.1 s := by
    intro k
    by_cases hk : k < zN
    · obtain ⟨q, hq⟩ := tx_at hts hg hk
      exact ⟨q, fun _ => hq⟩
    · exact ⟨(0, 0), fun h => absurd h hk⟩
  obtain ⟨fT, hfT⟩ := Classical.axiomOfChoice hT
  have hA : ∀ a : Nat, a < s.heap.size → ¬ (fun q : Nat => s.heap.size ≤ q) a := fun a ha => Nat.not_le.mpr ha
  obtain ⟨rf9, hrf⟩ : ∃ r : Option Nat, va_Z "jdk/internal/util/Preconditions" "SIOOBE_FORMATTER" "Ljava/util/function/BiFunction;" (va_rf r) (fun q => s.heap.size ≤ q) s s.heap := by
    rcases va_Zqof (hts _ t_sf) (hts _ t_sf2) (hg _ i_sf) hA with h | ⟨t, h⟩
    · exact ⟨none, h⟩
    · exact ⟨some t, h⟩
  have hcs : va_Z "java/lang/String" "COMPACT_STRINGS" "Z" (.int 1) (fun q => s.heap.size ≤ q) s s.heap := by
    obtain ⟨w, h1, h2⟩ := Cond.eq_one (hg _ i_cs)
    have h3 : w = .int 1 := (Option.some.inj h2).symm
    subst h3
    exact va_Zof (hts _ t_cs) (hts _ t_cs2) h1 hA
  refine ⟨(fun k => (fC k).1, fun k => (fC k).2, fun t => if t = 1 then c1 else if t = 2 then c2 else if t = 3 then c3 else c4, s.heap.size, fun k => (fT k).1, fun k => (fT k).2, b, xsL, rf9), rfl, rfl, rfl, hx, hts', ⟨⟨fun k q hq => hfC k q hq, fun k q hk => ?_⟩, ⟨hX, hb⟩, fun w hw hn => va_Nw.of (xmNst_on hn) (hts w hw), fun k hk => ⟨⟨(hfT k hk).1, (hfT k hk).2.1, (hfT k hk).2.2.1, (hfT k hk).2.2.2.1⟩, (hfT k hk).2.2.2.2⟩, hcs, hrf⟩, Nat.le_refl _, zLs.of (hts _ z1_in) (hg _ i_z1), zLs.of (hts _ z2_in) (hg _ i_z2), fun w hw => hts w (wd_in w hw)⟩
  match k, hk with
  | 0, hk => cases hk; exact ⟨a1, b1⟩
  | 1, hk => cases hk; exact ⟨a2, b2⟩
  | 2, hk => cases hk; exact ⟨a3, b3⟩
  | 3, hk => cases hk; exact ⟨a4, b4⟩
  | k + 4, hk => simp at hk
end Facts
