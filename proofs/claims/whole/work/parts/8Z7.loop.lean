/-! THE LAW'S LOOP AS A WHOLE -/
theorem and15 (x : Int32) : ∃ k, k < 16 ∧ x &&& 15 = nI k := by
  refine ⟨(x &&& 15).toBitVec.toNat, ?_, ?_⟩
  · rw [Int32.toBitVec_and, BitVec.toNat_and]
    exact Nat.lt_succ_of_le Nat.and_le_right
  · refine Int32.toBitVec_inj.mp ?_
    show _ = BitVec.ofNat 32 _
    simp
theorem cmp4 {n j : Nat} (hn : n ≤ 2048) (hj : j ≤ 512) : nI n - 4 < nI (4 * j) ↔ ¬ 4 * j + 4 ≤ n := by
  by_cases h : 4 ≤ n
  · rw [show nI n - 4 = nI (n - 4) from nI_subI (b := 4) h, ltN (by omega) (by omega)]
    omega
  · have h1 : n = 0 ∨ n = 1 ∨ n = 2 ∨ n = 3 := by omega
    rw [Int32.lt_iff_toInt_lt, nI_toInt (by omega)]
    rcases h1 with rfl | rfl | rfl | rfl
    · rw [show (nI 0 - 4).toInt = -4 by decide]; omega
    · rw [show (nI 1 - 4).toInt = -3 by decide]; omega
    · rw [show (nI 2 - 4).toInt = -2 by decide]; omega
    · rw [show (nI 3 - 4).toInt = -1 by decide]; omega
theorem ki_mono {S T : xSt} {n n' : Nat} (h : KI S T n) (hn : n ≤ n') : KI S T n' := by
  obtain ⟨h1, h2, h3, h4, h5, h6, h7, h8⟩ := h
  exact ⟨h1, h2, h3, h4, h5, h6, h7, by omega⟩
section LoopAll
variable {p : Program} {l : Launch} {e : Env} {R : Room} {s : State} {m : MethodId} {args : Array Value} {below : List Frame} {meth : Method} {c : Code} {Q : State → Prop} {V : xmV} {G0 : xmH}
theorem sc_at {i k : Nat} (h : i + k < V.2.2.2.2.2.2.2.1.length) (hl : V.2.2.2.2.2.2.2.1.length ≤ 2048) {x : Int32} (hx : x = nI (i + k)) : scH V x := by
  subst hx
  exact ⟨nI_pos (by omega), by rw [nI_clamp (by omega)]; exact h⟩
set_option maxHeartbeats 1000000 in
theorem law_body (C : lwC p R s m args meth c V G0) (hO : lwOut p l e R s m args below meth c Q V G0) (hI : lwIn p l e R s m args below meth c Q V G0) (hL : V.2.2.2.2.2.2.2.1.length ≤ 2048) {Kc Ks j : Nat} (K : lwK (Kc + 1) (Ks + 16)) {S T : xSt} (hK : KI S T j) (hj : 4 * j + 4 ≤ V.2.2.2.2.2.2.2.1.length)
    (k : ∀ S1 T1, KI S1 T1 (j + 1) → LG p l e R s m args below meth c Q V G0 (Kc + 1) (Ks + 16) (515, bsL (nI (4 * j)), [], (hpC S1, hpR T1))) : LG p l e R s m args below meth c Q V G0 Kc Ks (32, bsL (nI (4 * j)), [], (hpC S, hpR T)) := by
  have K0 : lwK Kc Ks := ⟨Nat.le_trans (Nat.le_succ _) K.1, Nat.le_trans (Nat.le_add_right _ 16) K.2⟩
  have q0 : scH V (nI (4 * j)) := sc_at (i := 4 * j) (k := 0) (by omega) hL rfl
  have q1 : scH V (nI (4 * j) + 1) := sc_at (i := 4 * j) (k := 1) (by omega) hL (nI_add _ 1)
  have q2 : scH V (nI (4 * j) + 2) := sc_at (i := 4 * j) (k := 2) (by omega) hL (nI_add _ 2)
  have q3 : scH V (nI (4 * j) + 3) := sc_at (i := 4 * j) (k := 3) (by omega) hL (nI_add _ 3)
  generalize nI (4 * j) = i at *
  refine lg_it C K0 2 (pc' := 35) (lv' := bsL i) (st' := [.int i, .retAddr 2000]) (fun _ => rfl) ?_
  refine lg_scr C K0 rfl q0.1 q0.2 ?_
  refine lg_it C K0 2 (pc' := 39) (lv' := bsL i) (st' := [.int (scA V i &&& 15)]) (fun _ => rfl) ?_
  obtain ⟨w, hw, e9⟩ := and15 (scA V i)
  rw [e9]
  have h9 : w = 0 ∨ w = 1 ∨ w = 2 ∨ w = 3 ∨ w = 4 ∨ w = 5 ∨ w = 6 ∨ w = 7 ∨ w = 8 ∨ w = 9 ∨ w = 10 ∨ w = 11 ∨ w = 12 ∨ w = 13 ∨ w = 14 ∨ w = 15 := by omega
  have kd := lg_mono (Nat.le_succ Kc) (Nat.le_add_right Ks 16) (k S T (ki_mono hK (Nat.le_succ _)))
  rcases h9 with rfl | rfl | rfl | rfl | rfl | rfl | rfl | rfl | rfl | rfl | rfl | rfl | rfl | rfl | rfl | rfl
  · exact lg_it C K0 1 (pc' := 96) (lv' := bsL i) (st' := []) (fun _ => rfl) (lc_0 C K hK q1 q2 q3 k)
  · exact lg_it C K0 1 (pc' := 165) (lv' := bsL i) (st' := []) (fun _ => rfl) (lc_1 C K hK (by omega) k)
  · exact lg_it C K0 1 (pc' := 178) (lv' := bsL i) (st' := []) (fun _ => rfl) (lc_2 C K hK q1 q2 k)
  · exact lg_it C K0 1 (pc' := 215) (lv' := bsL i) (st' := []) (fun _ => rfl) (lc_3 C K hK q1 q2 k)
  · exact lg_it C K0 1 (pc' := 252) (lv' := bsL i) (st' := []) (fun _ => rfl) (lc_4 C K hK q1 q2 k)
  · exact lg_it C K0 1 (pc' := 289) (lv' := bsL i) (st' := []) (fun _ => rfl) (lc_5 C K hK q1 q2 k)
  · exact lg_it C K0 1 (pc' := 326) (lv' := bsL i) (st' := []) (fun _ => rfl) (lc_6 C K hK k)
  · exact lg_it C K0 1 (pc' := 337) (lv' := bsL i) (st' := []) (fun _ => rfl) (lc_7 C K hK k)
  · exact lg_it C K0 1 (pc' := 350) (lv' := bsL i) (st' := []) (fun _ => rfl) (lc_8 C K hK hO q1 k)
  · exact lg_it C K0 1 (pc' := 406) (lv' := bsL i) (st' := []) (fun _ => rfl) (lc_9 C K hK hI q1 q2 k)
  · exact lg_it C K0 1 (pc' := 490) (lv' := bsL i) (st' := []) (fun _ => rfl) (lc_10 C K hK q1 k)
  · exact lg_it C K0 1 (pc' := 515) (lv' := bsL i) (st' := []) (fun _ => rfl) kd
  · exact lg_it C K0 1 (pc' := 515) (lv' := bsL i) (st' := []) (fun _ => rfl) kd
  · exact lg_it C K0 1 (pc' := 515) (lv' := bsL i) (st' := []) (fun _ => rfl) kd
  · exact lg_it C K0 1 (pc' := 515) (lv' := bsL i) (st' := []) (fun _ => rfl) kd
  · exact lg_it C K0 1 (pc' := 515) (lv' := bsL i) (st' := []) (fun _ => rfl) kd
theorem law_loop (C : lwC p R s m args meth c V G0) (hO : lwOut p l e R s m args below meth c Q V G0) (hI : lwIn p l e R s m args below meth c Q V G0) (hL : V.2.2.2.2.2.2.2.1.length ≤ 2048)
    (hE : ∀ (Kc Ks : Nat) (lv : xmL) (H : xHp), lwK Kc Ks → LG p l e R s m args below meth c Q V G0 Kc Ks (522, lv, [.int 1], H)) :
    ∀ (n j : Nat) (S T : xSt), V.2.2.2.2.2.2.2.1.length ≤ 4 * j + 4 * n + 3 → KI S T j → j ≤ 512 → LG p l e R s m args below meth c Q V G0 (105184 + j) (1046588 + 16 * j) (23, bsL (nI (4 * j)), [], (hpC S, hpR T)) := by
  intro n
  induction n with
  | zero =>
    intro j S T hn hK hj
    have K0 : lwK (105184 + j) (1046588 + 16 * j) := ⟨by omega, by omega⟩
    refine lg_it C K0 2 (pc' := 26) (lv' := bsL (nI (4 * j))) (st' := [.retAddr 2000, .int (nI (4 * j))]) (fun _ => rfl) ?_
    refine lg_scl C K0 rfl ?_
    refine lg_it C K0 2 (pc' := 29) (lv' := bsL (nI (4 * j))) (st' := [.int (nI V.2.2.2.2.2.2.2.1.length - 4), .int (nI (4 * j))]) (fun _ => rfl) ?_
    refine lg_br C K0 (t := 521) (f := 32) (b := decide (nI V.2.2.2.2.2.2.2.1.length - 4 < nI (4 * j))) (lv' := bsL (nI (4 * j))) (st' := []) rfl (fun _ => rfl) (fun _ => ?_) (fun h => ?_)
    · exact lg_it C K0 1 (pc' := 522) (lv' := bsL (nI (4 * j))) (st' := [.int 1]) (fun _ => rfl) (hE _ _ _ _ K0)
    · have h1 := of_decide_eq_false h
      rw [cmp4 hL hj] at h1
      omega
  | succ n ih =>
    intro j S T hn hK hj
    have K0 : lwK (105184 + j) (1046588 + 16 * j) := ⟨by omega, by omega⟩
    have K1 : lwK (105184 + j + 1) (1046588 + 16 * j + 16) := ⟨by omega, by omega⟩
    refine lg_it C K0 2 (pc' := 26) (lv' := bsL (nI (4 * j))) (st' := [.retAddr 2000, .int (nI (4 * j))]) (fun _ => rfl) ?_
    refine lg_scl C K0 rfl ?_
    refine lg_it C K0 2 (pc' := 29) (lv' := bsL (nI (4 * j))) (st' := [.int (nI V.2.2.2.2.2.2.2.1.length - 4), .int (nI (4 * j))]) (fun _ => rfl) ?_
    refine lg_br C K0 (t := 521) (f := 32) (b := decide (nI V.2.2.2.2.2.2.2.1.length - 4 < nI (4 * j))) (lv' := bsL (nI (4 * j))) (st' := []) rfl (fun _ => rfl) (fun _ => ?_) (fun h => ?_)
    · exact lg_it C K0 1 (pc' := 522) (lv' := bsL (nI (4 * j))) (st' := [.int 1]) (fun _ => rfl) (hE _ _ _ _ K0)
    · have h1 := of_decide_eq_false h
      rw [cmp4 hL hj] at h1
      have h2 : 4 * j + 4 ≤ V.2.2.2.2.2.2.2.1.length := by omega
      refine law_body C hO hI hL K1 hK h2 (fun S1 T1 hK1 => ?_)
      refine lg_it C K1 2 (pc' := 23) (lv' := bsL (nI (4 * j) + 4)) (st' := []) (fun _ => rfl) ?_
      have e4 : nI (4 * j) + 4 = nI (4 * (j + 1)) := nI_add _ 4
      have e5 : 105184 + j + 1 = 105184 + (j + 1) := by omega
      have e6 : 1046588 + 16 * j + 16 = 1046588 + 16 * (j + 1) := by omega
      rw [e4, e5, e6]
      exact ih (j + 1) S1 T1 (by omega) hK1 (by omega)
end LoopAll
