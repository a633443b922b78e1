/-! one instruction of the little machine, at any point: the law is walked with it (it has calls that the little machine lacks) -/
set_option maxHeartbeats 4000000 in
theorem xmStep_sound {p : Program} {l : Launch} {e : Env} {R : Room} {s : State} {m : MethodId} {args : Array Value} {below : List Frame} {meth : Method} {c : Code} {Q : State → Prop} {V : xmV} {G0 : xmH} {k : Nat} {O : xmO} (X : xmCtx p s m args meth c V k) (hcd : ∀ pc i, xmCd k pc = some i → xmOK k pc i) (hO : ∀ j av G r1 G1, O j av G r1 G1 → xmLe G G1 ∧ xmMet l V j av r1 G G1) (hR : xmFr k ≤ R.frames ∧ xmLo k ≤ R.locals) :
    ∀ {i : xmI} {x x' : xmC}, xmCd k x.1 = some i → (xmPure id i x = some x' ∨ xmHR V i x x' ∨ xmIR O i x x') → xmLe G0 x.2.2.2 → x'.2.2.2.2.1 - G0.2.1 ≤ R.cells → x'.2.2.2.2.2 - G0.2.2 ≤ R.slots → xmGoal p l e R s m args below meth c Q V (xmML k) G0 x' → xmGoal p l e R s m args below meth c Q V (xmML k) G0 x := by
  have X0 := X
  obtain ⟨hx, hb, hml, hown, hts, hK, hr, hlocks, hnm, hbs⟩ := X0
  have hA1 : ArrOfT s (V.2.2.1 1) .int := (hK.1.2 0 _ rfl).1
  have hA2 : ArrOfT s (V.2.2.1 2) .long := (hK.1.2 1 _ rfl).1
  have hA3 : ArrOfT s (V.2.2.1 3) .byte := (hK.1.2 2 _ rfl).1
  have hA4 : ArrOfT s (V.2.2.1 4) .boolean := (hK.1.2 3 _ rfl).1
  intro i x x' hi h1 h0 hc hs kk
  obtain ⟨G', hG9⟩ : ∃ G', G' = x'.2.2.2 := ⟨_, rfl⟩
  have hle : xmLe x'.2.2.2 G' := by rw [hG9]; exact xmLe.rf
  rw [← hG9] at hc hs
  clear hG9
  obtain ⟨pc, lv, st, G⟩ := x
  have hok := hcd pc i hi
  obtain ⟨ins, len, aux⟩ := i
  obtain ⟨hdg, hok⟩ := hok
  rcases h1 with h1 | h1 | h1
  · have hp := xmPure_heap h1
    skip
    have hnum : ((xmSwi ins = false → len = xmLen ins) ∧ xmNum (xmML k) pc (ins, len, aux) = true) ∧ xmKs V (xmY k).cls (ins, len, aux) args s := by
      cases ins
      case ldc idx =>
        refine ⟨⟨fun _ => hok.1, rfl⟩, ?_⟩
        rcases hok.2 with ⟨g1, g2, g3, g4⟩ | ⟨g1, g2⟩
        · refine Or.inl ⟨g1, (zS (aux.headD 0)).2.2, ?_⟩
          have g5 := (hK.2.2.2.1 _ g2).2
          dsimp only at g3 g4 g5
          rw [g3, g4] at g5
          rw [show xmSt V (aux.headD 0) = V.2.2.2.2.1 (aux.headD 0) from if_pos (Nat.lt_trans g2 (by decide))]
          exact g5
        · exact Or.inr ⟨g1, hts _ g2⟩
      case ldc2_w idx => exact ⟨⟨fun _ => hok.1, rfl⟩, hts _ hok.2⟩
      all_goals first | exact ⟨hok, trivial⟩ | cases h1
    exact xmPure_sound hx hb hown hnum.2 hdg hnum.1.1 hnum.1.2 h1 kk
  · skip
    cases ins
    case getfield idx =>
      obtain ⟨hlen, hok⟩ := hok
      cases hlen
      rcases h1 with ⟨a, r, he, ha, h2 | h2⟩ | ⟨hm, a, fs, v, r, he, hG, hv, rfl⟩
      · obtain ⟨hm, rfl⟩ := h2
        rcases hok with ⟨hb2, -⟩ | ⟨-, hlink⟩ | ⟨hb2, -⟩
        · omega
        · cases he
          have e9 : xmSt V (1000 + a) = V.2.2.2.2.2.1 a := by
            have : zN < 1000 := by decide
            unfold xmSt
            rw [if_neg (by omega), if_pos (by omega), Nat.add_sub_cancel_left]
          exact xs_sfield (v := .retAddr (1000 + a)) (w := .retAddr a) hx hb hts hown (by show va_OF _ _ _ (.ref (xmSt V (1000 + a))) _ _ _ _; rw [e9]; exact (hK.2.2.2.1 a ha).1.2.2.1) hlink hdg (congrArg Value.ref (if_pos (Nat.lt_trans ha (by decide)))) kk
        · omega
      · obtain ⟨hm, rfl⟩ := h2
        rcases hok with ⟨hb2, -⟩ | ⟨hb2, -⟩ | ⟨-, hlink⟩
        · omega
        · omega
        · cases he
          exact xs_sfield (v := .int 0) (w := .retAddr a) hx hb hts hown (hK.2.2.2.1 a ha).1.2.1 hlink hdg (congrArg Value.ref (if_pos (Nat.lt_trans ha (by decide)))) kk
      · rcases hok with ⟨-, ⟨q, hq, hin, hty, hnam, hinst, hini, hfl, hfd⟩, q', hq', hfi, hlink⟩ | ⟨hb2, -⟩ | ⟨hb2, -⟩
        · cases hq.symm.trans hq'
          cases he
          rcases hlink with hlink | ⟨host, hlink⟩
          · exact xs_getfield hx hb hts hown hK.1 hq hin hfi hlink hdg hG hv kk
          · exact xs_getfieldN hx hb hts hown hK.1 hq hin hfi (va_Nw.use rfl (hK.2.2.1 _ hlink rfl)) hdg hG hv kk
        · omega
        · omega
    case getstatic idx =>
      obtain ⟨hlen, hok⟩ := hok
      cases hlen
      rcases h1 with ⟨hm, rfl⟩ | ⟨hm, rfl⟩
      · rcases hok with ⟨-, hlink⟩ | ⟨hb2, -⟩
        · exact xs_stat (v := .int 1) hx hb hts hown hK.2.2.2.2.1 hlink hdg kk
        · omega
      · rcases hok with ⟨hb2, -⟩ | ⟨-, hlink⟩
        · omega
        · exact xs_stat (v := .float 0) hx hb hts hown hK.2.2.2.2.2 hlink hdg kk
    case putfield idx =>
      obtain ⟨a, fs, v, r, he, hG, hn, hf, rfl⟩ := h1
      obtain ⟨hlen, ⟨q, hq, hin, hty, hnam, hinst, hini, hfl, hfd⟩, q2, hq2, hfi, hfin⟩ := hok
      cases hq.symm.trans hq2
      cases hlen
      cases he
      rcases hfin with ⟨hfin, hlink⟩ | ⟨hfin, host, hlink⟩ | ⟨hfin, hnm2, hdecl, hlink⟩
      · exact xs_putfield hx hb hts hown hK.1 hq hin hty hnam hfi hfin hlink hn hf hdg hG kk
      · exact xs_putfieldN hx hb hts hown hK.1 hq hin hty hnam hfi hfin (va_Nw.use rfl (hK.2.2.1 _ hlink rfl)) hn hf hdg hG kk
      · exact xs_putfieldF hx hb hts hown hK.1 hq hin hty hnam hfi hfin (hnm.trans hnm2) hdecl hlink hn hf hdg hG kk
    case iaload =>
      have hlen := hok.1 rfl
      cases hlen
      rcases h1 with ⟨j, r, he, h3, h4, rfl⟩ | ⟨a, vs, j, v, r, he, hG, h3, h4, rfl⟩
      · cases he
        exact xs_scr (w := .retAddr 2000) hx hb hK.2.1.1 hK.2.1.2 hbs rfl h3 h4 hdg kk
      · cases he
        exact xs_iaload hx hb hA1 hdg hG h3 h4 kk
    case laload =>
      obtain ⟨a, vs, j, v, r, he, hG, h3, h4, rfl⟩ := h1
      have hlen := hok.1 rfl
      cases hlen
      cases he
      exact xs_laload hx hb hA2 hdg hG h3 h4 kk
    case iastore =>
      obtain ⟨a, vs, j, y, r, he, hG, h3, h4, rfl⟩ := h1
      have hlen := hok.1 rfl
      cases hlen
      cases he
      exact xs_iastore hx hb hA1 hdg hG h3 h4 kk
    case lastore =>
      obtain ⟨a, vs, j, y, r, he, hG, h3, h4, rfl⟩ := h1
      have hlen := hok.1 rfl
      cases hlen
      cases he
      exact xs_lastore hx hb hA2 hdg hG h3 h4 kk
    case baload =>
      have hlen := hok.1 rfl
      cases hlen
      rcases h1 with ⟨a, j, z, r, he, ha, h3, h4, rfl⟩ | ⟨a, t, vs, j, v, r, he, hG, ht, h3, h4, rfl⟩
      · cases he
        have e9 : xmSt V (1000 + a) = V.2.2.2.2.2.1 a := by
          have : zN < 1000 := by decide
          unfold xmSt
          rw [if_neg (by omega), if_pos (by omega), Nat.add_sub_cancel_left]
        exact xs_sbald (w := .retAddr (1000 + a)) hx hb (hK.2.2.2.1 a ha).1.2.2.2 (congrArg Value.ref e9) h3 (List.getElem?_eq_some_iff.mp h4).1 (by rw [List.getD_eq_getElem?_getD, h4]; rfl) hdg kk
      · cases he
        rcases ht with rfl | rfl
        · exact xs_baload hx hb hA3 hdg hG h3 h4 kk
        · exact xs_zaload hx hb hA4 hdg hG h3 h4 kk
    case bastore =>
      obtain ⟨a, t, vs, j, y, r, he, hG, ht, h3, h4, rfl⟩ := h1
      have hlen := hok.1 rfl
      cases hlen
      cases he
      rcases ht with rfl | rfl
      · exact xs_bastore hx hb hA3 hdg hG h3 h4 kk
      · exact xs_zastore hx hb hA4 hdg hG h3 h4 kk
    case arraylength =>
      have hlen := hok.1 rfl
      cases hlen
      rcases h1 with ⟨a, r, he, ha, rfl⟩ | ⟨r, he, rfl⟩ | ⟨a, t, vs, r, he, hG, ht, rfl⟩
      · cases he
        have e9 : xmSt V (1000 + a) = V.2.2.2.2.2.1 a := by
          have : zN < 1000 := by decide
          unfold xmSt
          rw [if_neg (by omega), if_pos (by omega), Nat.add_sub_cancel_left]
        exact xs_slen (w := .retAddr (1000 + a)) hx hb (hK.2.2.2.1 a ha).1.2.2.2 (congrArg Value.ref e9) hdg kk
      · cases he
        exact xs_scrlen (w := .retAddr 2000) hx hb hK.2.1.1 hK.2.1.2 hbs rfl hdg kk
      · cases he
        rcases ht with rfl | rfl | rfl | rfl
        · exact xs_arraylength hx hb (by decide) (by decide) hA1 hdg hG kk
        · exact xs_arraylength hx hb (by decide) (by decide) hA2 hdg hG kk
        · exact xs_arraylength hx hb (by decide) (by decide) hA3 hdg hG kk
        · exact xs_arraylength hx hb (by decide) (by decide) hA4 hdg hG kk
    case newarray at1 =>
      obtain ⟨n9, r, he, h3, h4, rfl⟩ := h1
      obtain ⟨hlen, ht, hty, hac⟩ := hok
      cases hlen
      cases he
      have hle1 : G.2.1 + 1 ≤ G'.2.1 := hle.1
      have hle2 : G.2.2 + n9.toNatClampNeg ≤ G'.2.2 := hle.2
      have g1 : G0.2.1 ≤ G.2.1 := h0.1
      have g2 : G0.2.2 ≤ G.2.2 := h0.2
      generalize xmN (ClassFile.Instr.newarray at1, 2, aux) 0 = t at ht hty kk
      rcases ht with rfl | rfl | rfl | rfl
      · exact xs_newarray hx hb (by decide) (by decide) hty rfl (hts _ hac) (hK.1.2 0 _ rfl).2 h3 (by show _ * 4 ≤ _; omega) hdg g1 g2 (by omega) (by omega) kk
      · exact xs_newarray hx hb (by decide) (by decide) hty rfl (hts _ hac) (hK.1.2 1 _ rfl).2 h3 (by show _ * 8 ≤ _; omega) hdg g1 g2 (by omega) (by omega) kk
      · exact xs_newarray hx hb (by decide) (by decide) hty rfl (hts _ hac) (hK.1.2 2 _ rfl).2 h3 (by show _ * 1 ≤ _; omega) hdg g1 g2 (by omega) (by omega) kk
      · exact xs_newarray hx hb (by decide) (by decide) hty rfl (hts _ hac) (hK.1.2 3 _ rfl).2 h3 (by show _ * 1 ≤ _; omega) hdg g1 g2 (by omega) (by omega) kk
    case new idx =>
      cases h1
      obtain ⟨hlen, ⟨q, hq, hin, hty, hnam, hinst, hini, hfl, hfd⟩, q', hq', hlink⟩ := hok
      cases hq.symm.trans hq'
      cases hlen
      have hro := xmDef_ro V (xmN (ClassFile.Instr.new idx, 3, aux) 0)
      have hle1 : G.2.1 + 1 ≤ G'.2.1 := hle.1
      have hle2 : G.2.2 + (xmDef (xmN (ClassFile.Instr.new idx, 3, aux) 0)).length ≤ G'.2.2 := hle.2
      have g1 : G0.2.1 ≤ G.2.1 := h0.1
      have g2 : G0.2.2 ≤ G.2.2 := h0.2
      have s1 : G.2.1 + 1 - G0.2.1 ≤ R.cells := by omega
      have s2 : G.2.2 + (xmDef (xmN (ClassFile.Instr.new idx, 3, aux) 0)).length - G0.2.2 ≤ R.slots := by omega
      exact xs_new hx hb hts hown hK.1 hq hin hty hlink hinst hini hfl hfd hro hdg g1 g2 s1 s2 kk
    all_goals exact h1.elim
  · skip
    cases ins
    case invokestatic idx =>
      obtain ⟨hlen, hok⟩ := hok
      cases hlen
      have g1 : G.2.1 ≤ G'.2.1 ∧ G.2.2 ≤ G'.2.2 := xmLe.tr (xmIR_le (fun j av G r1 G1 z => (hO j av G r1 G1 z).1) h1) hle
      rcases h1 with ⟨hm, a, b, rest, he, h8, rfl⟩ | ⟨hm, a, b, rest, he, h8, rfl⟩ | ⟨hm, a0, a1, vs, ws, rest, sp, dp, n9, he, e0, e1, hint, hsp, hdp, hn, h4, h5, h8, rfl⟩ | ⟨hm, av, rest, r1, G1, he, hl, h8, ho, rfl⟩
      · rcases hok with ⟨hb2, -⟩ | ⟨hf1, hl1, ⟨hb2, -⟩ | ⟨-, hlink, hst, hini, hcode⟩ | ⟨hb2, -⟩⟩
        · omega
        · omega
        · cases he
          exact xs_max X ⟨by omega, by omega⟩ hlink hst hini hcode h8 hdg ⟨by omega, by omega⟩ kk
        · omega
      · rcases hok with ⟨hb2, -⟩ | ⟨hf1, hl1, ⟨-, hlink, hst, hini, hcode⟩ | ⟨hb2, -⟩ | ⟨hb2, -⟩⟩
        · omega
        · cases he
          exact xs_min X ⟨by omega, by omega⟩ hlink hst hini hcode h8 hdg ⟨by omega, by omega⟩ kk
        · omega
        · omega
      · rcases hok with ⟨hb2, -⟩ | ⟨hf1, hl1, ⟨hb2, -⟩ | ⟨hb2, -⟩ | ⟨-, hlink, hnat, hst, hini⟩⟩
        · omega
        · omega
        · omega
        · cases he
          exact xs_copy X ⟨by omega, by omega⟩ hlink hnat hst hini e0 e1 hint hsp hdp hn h4 h5 h8 hdg kk
      · rcases hok with ⟨-, ⟨hco, hfr, hlo, hini, hna⟩, hlink, hst⟩ | ⟨-, -, ⟨hb2, -⟩ | ⟨hb2, -⟩ | ⟨hb2, -⟩⟩
        · cases he
          have hle1 : G1.2.1 ≤ G'.2.1 := hle.1
          have hle2 : G1.2.2 ≤ G'.2.2 := hle.2
          exact xs_callS X (hO _ _ _ _ _ ho).2 ⟨by omega, by omega⟩ hco hlink hst hini (by rw [hl]; exact hna) h8 hdg h0 (hO _ _ _ _ _ ho).1 ⟨by omega, by omega⟩ kk
        · omega
        · omega
        · omega
    case invokevirtual idx =>
      obtain ⟨hlen, ⟨hco, hfr, hlo, hini, hna⟩, hlink, hst, hsel, hrc⟩ := hok
      cases hlen
      rcases h1 with ⟨hm, b, As, rest, r1, G1, hb9, he, hl, h8, ho, rfl⟩ | ⟨hm, b, As, rest, r1, G1, fs, he, hl, h8, hG, ho, rfl⟩
      · rcases hrc with ⟨hb2, -⟩ | ⟨-, hj9⟩
        · omega
        · cases he
          have hle1 : G1.2.1 ≤ G'.2.1 := hle.1
          have hle2 : G1.2.2 ≤ G'.2.2 := hle.2
          exact xs_callT X hb9 hj9 (hO _ _ _ _ _ ho).2 ⟨by omega, by omega⟩ hco hlink hst hsel hini (by rw [hl]; exact hna) h8 hdg h0 (hO _ _ _ _ _ ho).1 ⟨by omega, by omega⟩ kk
      · rcases hrc with ⟨-, q, hq, hqc⟩ | ⟨hb2, -⟩
        · cases he
          have hle1 : G1.2.1 ≤ G'.2.1 := hle.1
          have hle2 : G1.2.2 ≤ G'.2.2 := hle.2
          exact xs_callV X hG hq hqc (hO _ _ _ _ _ ho).2 ⟨by omega, by omega⟩ hco hlink hst hsel hini (by rw [hl]; exact hna) h8 hdg h0 (hO _ _ _ _ _ ho).1 ⟨by omega, by omega⟩ kk
        · omega
    case invokespecial idx =>
      obtain ⟨hlen, hok⟩ := hok
      cases hlen
      rcases h1 with ⟨ha, b, rest, he, h8, rfl⟩ | ⟨ha, b, As, rest, G1, he, hl, h8, ho, rfl⟩
      · rcases hok with ⟨-, hf1, hl1, hlink, hst, hcode⟩ | ⟨hb2, -⟩
        · cases he
          exact xs_objInit X ⟨by omega, by omega⟩ hlink hst hcode h8 hdg kk
        · exact absurd ha hb2
      · rcases hok with ⟨hb2, -⟩ | ⟨-, ⟨hco, hfr, hlo, hini, hna⟩, hlink, hst, hrt, hnam⟩
        · exact absurd hb2 ha
        · cases he
          have hle1 : G1.2.1 ≤ G'.2.1 := hle.1
          have hle2 : G1.2.2 ≤ G'.2.2 := hle.2
          rcases hlink with hlink | ⟨host, hlink⟩
          · exact xs_callI X (hO _ _ _ _ _ ho).2 ⟨by omega, by omega⟩ hco hrt hlink hst hini hnam (by rw [hl]; exact hna) h8 hdg h0 (hO _ _ _ _ _ ho).1 ⟨by omega, by omega⟩ kk
          · exact xs_callIN X (hO _ _ _ _ _ ho).2 ⟨by omega, by omega⟩ hco hrt (hK.2.2.1 _ hlink rfl) hst hini hnam (by rw [hl]; exact hna) h8 hdg h0 (hO _ _ _ _ _ ho).1 ⟨by omega, by omega⟩ kk
    all_goals exact h1.elim

