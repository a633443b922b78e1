/-! elementOf, outputAt, inputAt, WHERE THEY RETURN -/
section Ret
variable {V : xmV} {L : List Nat} {Kc Ks : Nat} {S : xSt} {Q : List xE} {i : Int32}
theorem el_ok83 (h : inB (gR S 16) i) : HC V L Kc Ks 146 [.ref 83, .int i] (hpC S, Q) (some (.int (xsAt (gR S 16) i))) (hpC S, Q) := by
  refine hc_of (by decide) rfl ?_
  refine h_it 1 (x' := (1, [(0, .ref 83), (1, .int i)], [.int i], (hpC S, Q))) rfl ?_
  refine h_br (b := decide (i < 0)) (t := 12) (f := 4) (lv' := [(0, .ref 83), (1, .int i)]) (st' := []) rfl rfl ?_
  refine h_n h.1 ?_
  refine h_it 3 (x' := (9, [(0, .ref 83), (1, .int i)], [.int (nI (gR S 16).length), .int i], (hpC S, Q))) rfl ?_
  refine h_br (b := decide (i < nI (gR S 16).length)) (t := 22) (f := 12) (lv' := [(0, .ref 83), (1, .int i)]) (st' := []) rfl rfl ?_
  refine h_y h.2 ?_
  refine h_it 3 (x' := (27, [(0, .ref 83), (1, .int i)], [.int (xsAt (gR S 16) i)], (hpC S, Q))) rfl ?_
  exact h_iret rfl rfl
theorem el_ok78 (h : inB (gR S 14) i) : HC V L Kc Ks 146 [.ref 78, .int i] (hpC S, Q) (some (.int (xsAt (gR S 14) i))) (hpC S, Q) := by
  refine hc_of (by decide) rfl ?_
  refine h_it 1 (x' := (1, [(0, .ref 78), (1, .int i)], [.int i], (hpC S, Q))) rfl ?_
  refine h_br (b := decide (i < 0)) (t := 12) (f := 4) (lv' := [(0, .ref 78), (1, .int i)]) (st' := []) rfl rfl ?_
  refine h_n h.1 ?_
  refine h_it 3 (x' := (9, [(0, .ref 78), (1, .int i)], [.int (nI (gR S 14).length), .int i], (hpC S, Q))) rfl ?_
  refine h_br (b := decide (i < nI (gR S 14).length)) (t := 22) (f := 12) (lv' := [(0, .ref 78), (1, .int i)]) (st' := []) rfl rfl ?_
  refine h_y h.2 ?_
  refine h_it 3 (x' := (27, [(0, .ref 78), (1, .int i)], [.int (xsAt (gR S 14) i)], (hpC S, Q))) rfl ?_
  exact h_iret rfl rfl
theorem el_ok81 (h : inB (gR S 15) i) : HC V L Kc Ks 146 [.ref 81, .int i] (hpC S, Q) (some (.int (xsAt (gR S 15) i))) (hpC S, Q) := by
  refine hc_of (by decide) rfl ?_
  refine h_it 1 (x' := (1, [(0, .ref 81), (1, .int i)], [.int i], (hpC S, Q))) rfl ?_
  refine h_br (b := decide (i < 0)) (t := 12) (f := 4) (lv' := [(0, .ref 81), (1, .int i)]) (st' := []) rfl rfl ?_
  refine h_n h.1 ?_
  refine h_it 3 (x' := (9, [(0, .ref 81), (1, .int i)], [.int (nI (gR S 15).length), .int i], (hpC S, Q))) rfl ?_
  refine h_br (b := decide (i < nI (gR S 15).length)) (t := 22) (f := 12) (lv' := [(0, .ref 81), (1, .int i)]) (st' := []) rfl rfl ?_
  refine h_y h.2 ?_
  refine h_it 3 (x' := (27, [(0, .ref 81), (1, .int i)], [.int (xsAt (gR S 15) i)], (hpC S, Q))) rfl ?_
  exact h_iret rfl rfl
theorem drf_ok : HC V L Kc Ks 33 [.ref 80] (hpC S, Q) (some (.ref 81)) (hpC S, Q) := by
  refine hc_of (by decide) rfl ?_
  refine h_it 2 (x' := (4, [(0, .ref 80)], [.ref 81], (hpC S, Q))) rfl ?_
  exact ⟨0, ea_aret rfl rfl (Or.inl ⟨_, rfl⟩)⟩
theorem out_okC (h : inB (gR S 16) i) : HC V L Kc Ks 145 [.ref 0, .int i] (hpC S, Q) (some (.int (xsAt (gR S 16) i))) (hpC S, Q) := by
  refine hc_of (by decide) rfl ?_
  refine h_it 3 (x' := (5, [(0, .ref 0), (1, .int i)], [.int i, .ref 83], (hpC S, Q))) rfl ?_
  refine h_callS (av := [.ref 83, .int i]) (r1 := some (.int (xsAt (gR S 16) i))) (st := []) (H1 := (hpC S, Q)) rfl rfl rfl rfl rfl (el_ok83 h) ?_
  exact h_iret rfl rfl
theorem in_okC {b : Bool} (h : inB (inL S b) i) : HC V L Kc Ks 147 [.ref 0, .int i, .int (b01 b)] (hpC S, Q) (some (.int (xsAt (inL S b) i))) (hpC S, Q) := by
  refine hc_of (by decide) rfl ?_
  refine h_it 1 (x' := (1, [(0, .ref 0), (1, .int i), (2, .int (b01 b))], [.int (b01 b)], (hpC S, Q))) rfl ?_
  refine h_br (b := decide (b01 b = 0)) (t := 14) (f := 4) (lv' := [(0, .ref 0), (1, .int i), (2, .int (b01 b))]) (st' := []) rfl rfl ?_
  cases b with
  | false =>
    refine h_y rfl ?_
    refine h_it 3 (x' := (19, [(0, .ref 0), (1, .int i), (2, .int (b01 false))], [.int i, .ref 78], (hpC S, Q))) rfl ?_
    refine h_callS (av := [.ref 78, .int i]) (r1 := some (.int (xsAt (gR S 14) i))) (st := []) (H1 := (hpC S, Q)) rfl rfl rfl rfl rfl (el_ok78 h) ?_
    exact h_iret rfl rfl
  | true =>
    refine h_n (by decide) ?_
    refine h_it 2 (x' := (8, [(0, .ref 0), (1, .int i), (2, .int (b01 true))], [.ref 80], (hpC S, Q))) rfl ?_
    refine h_callO (As := []) (r1 := some (.ref 81)) (st := []) (H1 := (hpC S, Q)) rfl rfl rfl rfl rfl rfl (drf_ok) ?_
    refine h_it 2 (x' := (19, [(0, .ref 0), (1, .int i), (2, .int (b01 true))], [.int i, .ref 81], (hpC S, Q))) rfl ?_
    refine h_callS (av := [.ref 81, .int i]) (r1 := some (.int (xsAt (gR S 15) i))) (st := []) (H1 := (hpC S, Q)) rfl rfl rfl rfl rfl (el_ok81 h) ?_
    exact h_iret rfl rfl
end Ret
