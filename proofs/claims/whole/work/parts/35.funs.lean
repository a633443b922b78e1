/-! the functions of ours and reference, printed by gen5.py -/
def m133_33  : Nat → Int64 → Int32 → xSt → Option (Bool × xSt)
  | 0, _, _, _ => none
  | n + 1, x1, x4, s =>
    if x4 < 0 then
      some (true, s)
    else
      m133_33  n x1 (x4 + (-1)) (sR s 0 (xsPush 8192 (gR s 0) ((Int64.toInt32 ((Int64.toUInt64 x1) >>> ((Int64.toUInt64 (Int32.toInt64 (8 * x4))) &&& Int64.toUInt64 63)).toInt64) &&& 255)))
def m133 (l1 : Int64) (a2 : Int32) (s : xSt) : Option (Bool × xSt) :=
  if a2 < 1 then
    some (false, s)
  else
    if 8 < a2 then
      some (false, s)
    else
      if ((nI ((gR s 0)).length) + a2) ≤ 8192 then
        m133_33  1000000 l1 (a2 - 1) s
      else
        some (false, s)
def m53f  (s : xSt) : Option (xSt) :=
  some (sP (sP (sP (sP (sP (sP (sP (sP (sP (sP s false 0 (xsCut (gP s false 0) 0)) false 1 (xsCut (gP s false 1) 0)) false 2 (xsCut (gP s false 2) 0)) false 3 (xsCut (gP s false 3) 0)) false 4 (xsCut (gP s false 4) 0)) false 5 (xsCut (gP s false 5) 0)) false 6 (xsCut (gP s false 6) 0)) false 7 (xsCut (gP s false 7) 0)) false 8 (xsCut (gP s false 8) 0)) false 9 (xsCut (gP s false 9) 0))
def m53t  (s : xSt) : Option (xSt) :=
  some (sP (sP (sP (sP (sP (sP (sP (sP (sP (sP s true 0 (xsCut (gP s true 0) 0)) true 1 (xsCut (gP s true 1) 0)) true 2 (xsCut (gP s true 2) 0)) true 3 (xsCut (gP s true 3) 0)) true 4 (xsCut (gP s true 4) 0)) true 5 (xsCut (gP s true 5) 0)) true 6 (xsCut (gP s true 6) 0)) true 7 (xsCut (gP s true 7) 0)) true 8 (xsCut (gP s true 8) 0)) true 9 (xsCut (gP s true 9) 0))
def m53 (z0 : Bool) (s : xSt) : Option (xSt) := bif z0 then m53t  s else m53f  s
def m77  (s : xSt) : Option (xSt) :=
  (m53 (gZ s 3) s).bind fun q1 =>
  some (sZ (sI (sI (sR (sR (sR (sI q1 4 0) 1 (xsCut (gR q1 1) 0)) 2 (xsCut (gR q1 2) 0)) 3 (xsCut (gR q1 3) 0)) 11 0) 10 (-1)) 4 false)
def m13  (s : xSt) : Option (Bool × xSt) :=
  if (gI s 2) = 0 then
    some (false, s)
  else
    some (true, s)
def m79 (a0 : Int32) (s : xSt) : Option (Nat × xSt) :=
  if a0 = 8 then
    some (1, s)
  else if a0 = 9 then
    some (2, s)
  else if a0 = 10 then
    some (3, s)
  else if a0 = 12 ∨ a0 = 13 ∨ a0 = 18 then
    some (4, s)
  else if a0 = 14 ∨ a0 = 15 then
    some (5, s)
  else if a0 = 16 then
    some (6, s)
  else if a0 = 17 then
    some (7, s)
  else if a0 = 22 ∨ a0 = 23 then
    some (0, s)
  else 
  some (8, s)
def m78  (s : xSt) : Option (Int32 × xSt) :=
  if (gI s 10) = (-1) then
    if (nI ((gR s 1)).length) = 0 then
      some (65, s)
    else
      (m79 (xsAt (gP s (gZ s 3) 0) (xsTop (gR s 1))) s).bind fun q3 =>
      if (xsTop (gR q3.2 2)) < 0 then
        some (41, (sR q3.2 2 (xsSetTop (gR q3.2 2) ((xsTop (gR q3.2 2)) + 1))))
      else
        (xtLen q3.1).bind fun v5 =>
        if v5 ≤ (xsTop (gR q3.2 2)) then
          some (41, (sR q3.2 2 (xsSetTop (gR q3.2 2) ((xsTop (gR q3.2 2)) + 1))))
        else
          (xtAt q3.1 (xsTop (gR q3.2 2))).bind fun v7 =>
          some (v7, (sR q3.2 2 (xsSetTop (gR q3.2 2) ((xsTop (gR q3.2 2)) + 1))))
  else
    some (72, s)
def m38 (a0 : Int32) (s : xSt) : Option (Bool × xSt) :=
  if a0 < 97 then
    some (false, s)
  else
    if 122 < a0 then
      some (false, s)
    else
      some (true, s)
def m37_5  : Nat → Int32 → Int64 → Int32 → xSt → Option (Int64 × xSt)
  | 0, _, _, _, _ => none
  | n + 1, x1, x2, x4, s =>
    if (x1 + 12) ≤ x4 then
      some (x2, s)
    else
      (m38 (xsAt (gR s 0) x4) s).bind fun q2 =>
      if q2.1 = true then
        m37_5  n x1 ((x2 * 32) + (Int32.toInt64 (((xsAt (gR q2.2 0) x4) - 97) + 1))) (x4 + 1) q2.2
      else
        some (x2, q2.2)
def m37 (a1 : Int32) (s : xSt) : Option (Int64 × xSt) :=
  m37_5  1000000 a1 0 a1 s
def m80 (l1 : Int64) (s : xSt) : Option (xSt) :=
  if (gI s 11) < 0 then
    some s
  else
    if (nI ((gL s 0)).length) ≤ (gI s 11) then
      some s
    else
      (xlPut (gL s 0) (gI s 11) l1).bind fun u3 =>
      some (sI (sL s 0 u3) 11 ((gI s 11) + 1))
def m40_0  : Nat → xSt → Option (xSt)
  | 0, _ => none
  | n + 1, s =>
    if (nI ((gR s 0)).length) ≤ (gI s 4) then
      some s
    else
      if (xsAt (gR s 0) (gI s 4)) = 32 then
        m40_0  n (sI s 4 ((gI s 4) + 1))
      else
        if (xsAt (gR s 0) (gI s 4)) = 10 then
          m40_0  n (sI s 4 ((gI s 4) + 1))
        else
          some s
def m40  (s : xSt) : Option (xSt) :=
  m40_0  1000000 s
def m42 (a0 : Int32) (s : xSt) : Option (Bool × xSt) :=
  if a0 < 48 then
    some (false, s)
  else
    if 57 < a0 then
      some (false, s)
    else
      some (true, s)
def m41 (a0 : Int32) (s : xSt) : Option (Bool × xSt) :=
  (m38 a0 s).bind fun q1 =>
  if q1.1 = true then
    some (true, q1.2)
  else
    (m42 a0 q1.2).bind fun q3 =>
    if q3.1 = true then
      some (true, q3.2)
    else
      if a0 = 45 then
        some (true, q3.2)
      else
        some (false, q3.2)
def m44_5  : Nat → Int32 → xSt → Option (Bool × xSt)
  | 0, _, _ => none
  | n + 1, x1, s =>
    if (gI s 4) ≤ x1 then
      if 12 < ((gI s 4) - (gI s 6)) then
        some (false, s)
      else
        some (true, s)
    else
      (m38 (xsAt (gR s 0) x1) s).bind fun q3 =>
      if q3.1 = true then
        m44_5  n (x1 + 1) q3.2
      else
        some (false, q3.2)
def m44  (s : xSt) : Option (Bool × xSt) :=
  m44_5  1000000 (gI s 6) s
def m18_7  : Nat → Int64 → Int32 → Int64 → Int32 → xSt → Option (Int32 × xSt)
  | 0, _, _, _, _, _ => none
  | n + 1, x0, x2, x3, x5, s =>
    (xtLen 9).bind fun v1 =>
    if v1 ≤ x5 then
      some (0, s)
    else
      (xtAt 9 x5).bind fun v3 =>
      if v3 = 32 then
        if (lg_cmp x3 x0) = 0 then
          some (x2, s)
        else
          m18_7  n x0 (x2 + 1) 0 (x5 + 1) s
      else
        m18_7  n x0 x2 ((x3 * 32) + (Int32.toInt64 ((v3 - 97) + 1))) (x5 + 1) s
def m18 (l0 : Int64) (s : xSt) : Option (Int32 × xSt) :=
  m18_7  1000000 l0 1 0 0 s
def m45_136  (x2 : Int32) (y0 : Int64) (s : xSt) : Option (Bool × xSt) :=
  if (gI s 4) ≤ x2 then
    some (false, (sI s 7 (Int64.toInt32 y0)))
  else
    some (true, (sI s 7 (Int64.toInt32 y0)))
def m45_60  : Nat → Bool → Int32 → Int64 → Int64 → Int32 → xSt → Option (Bool × xSt)
  | 0, _, _, _, _, _, _ => none
  | n + 1, x1, x2, x3, x5, x7, s =>
    if (gI s 4) ≤ x7 then
      if x1 = true then
        m45_136  x2 (-x5) s
      else
        m45_136  x2 x5 s
    else
      (m42 (xsAt (gR s 0) x7) s).bind fun q7 =>
      if q7.1 = true then
        if (lg_cmp ((x5 * 10) + (Int32.toInt64 ((xsAt (gR q7.2 0) x7) - 48))) x3) ≤ 0 then
          m45_60  n x1 x2 x3 ((x5 * 10) + (Int32.toInt64 ((xsAt (gR q7.2 0) x7) - 48))) (x7 + 1) q7.2
        else
          some (false, q7.2)
      else
        some (false, q7.2)
def m45_53  (x1 : Bool) (x2 : Int32) (y0 : Int64) (s : xSt) : Option (Bool × xSt) :=
  m45_60  1000000 x1 x2 y0 0 x2 s
def m45_39  (x1 : Bool) (y0 : Int32) (s : xSt) : Option (Bool × xSt) :=
  if x1 = true then
    m45_53  x1 y0 2147483648 s
  else
    m45_53  x1 y0 2147483647 s
def m45_21  (y0 : Bool) (s : xSt) : Option (Bool × xSt) :=
  if y0 = true then
    m45_39  y0 ((gI s 6) + 1) s
  else
    m45_39  y0 (gI s 6) s
def m45  (s : xSt) : Option (Bool × xSt) :=
  if (xsAt (gR s 0) (gI s 6)) = 45 then
    m45_21  true s
  else
    m45_21  false s
def m43_44   (s : xSt) : Option (xSt) :=
  (m44  s).bind fun q2 =>
  if q2.1 = true then
    (m37 (gI q2.2 6) (sI q2.2 5 4)).bind fun q4 =>
    (m18 q4.1 (sJ q4.2 0 q4.1)).bind fun q5 =>
    some (sI q5.2 8 q5.1)
  else
    (m45  q2.2).bind fun q6 =>
    if q6.1 = true then
      some (sI q6.2 5 5)
    else
      some (sI q6.2 5 1)
def m43_0  : Nat → xSt → Option (xSt)
  | 0, _ => none
  | n + 1, s =>
    if (nI ((gR s 0)).length) ≤ (gI s 4) then
      m43_44  s
    else
      (m41 (xsAt (gR s 0) (gI s 4)) s).bind fun q8 =>
      if q8.1 = true then
        m43_0  n (sI q8.2 4 ((gI q8.2 4) + 1))
      else
        m43_44  q8.2
def m43  (s : xSt) : Option (xSt) :=
  m43_0  1000000 s
def m39  (s : xSt) : Option (xSt) :=
  (m40  s).bind fun q1 =>
  if (gI q1 4) < (nI ((gR q1 0)).length) then
    (m41 (xsAt (gR q1 0) (gI q1 4)) (sI (sI q1 6 (gI q1 4)) 8 0)).bind fun q3 =>
    if q3.1 = true then
      (m43  q3.2).bind fun q5 =>
      some q5
    else
      if (xsAt (gR q1 0) (gI q1 4)) = 40 then
        some (sI (sI q3.2 4 ((gI q3.2 4) + 1)) 5 2)
      else
        if (xsAt (gR q1 0) (gI q1 4)) = 41 then
          some (sI (sI q3.2 4 ((gI q3.2 4) + 1)) 5 3)
        else
          some (sI (sI q3.2 4 ((gI q3.2 4) + 1)) 5 1)
  else
    some (sI (sI (sI q1 6 (gI q1 4)) 8 0) 5 0)
def m14 (a1 : Int32) (a2 : Int32) (s : xSt) : Option (xSt) :=
  if (gI s 2) = 0 then
    some (sI (sI s 2 a1) 3 a2)
  else
    some s
def m81 (a1 : Int32) (s : xSt) : Option (Bool × xSt) :=
  (m39  s).bind fun q1 =>
  if (gI q1 5) = 0 then
    if a1 = 65 then
      some (false, (sZ q1 4 true))
    else
      (m14 3 (gI q1 6) (sZ q1 4 true)).bind fun q4 =>
      some (false, q4)
  else
    if (gI q1 5) = 1 then
      (m14 1 (gI q1 6) q1).bind fun q6 =>
      some (false, q6)
    else
      some (true, q1)
def m82  (s : xSt) : Option (Int32 × xSt) :=
  if (gI s 5) = 3 then
    some (41, s)
  else
    some (69, (sR s 2 (xsSetTop (gR s 2) ((xsTop (gR s 2)) - 1))))
def m84 (b1 : Bool) (s : xSt) : Option (Bool × xSt) :=
  if b1 = true then
    some (b1, s)
  else
    (m14 2 (gI s 6) s).bind fun q2 =>
    some (b1, q2)
def m92_17  (y0 : Bool) (s : xSt) : Option (xSt) :=
  (m84 y0 s).bind fun q2 =>
  if q2.1 = true then
    if (nI (((gR q2.2 1)).dropLast).length) = 0 then
      some (sI (sR (sR (sP (sR q2.2 1 ((gR q2.2 1)).dropLast) (gZ q2.2 3) 4 (xsSet (gP q2.2 (gZ q2.2 3) 4) (xsTop (gR q2.2 1)) (nI ((gP q2.2 (gZ q2.2 3) 0)).length))) 2 ((gR q2.2 2)).dropLast) 3 ((gR q2.2 3)).dropLast) 11 0)
    else
      some (sR (sR (sP (sR q2.2 1 ((gR q2.2 1)).dropLast) (gZ q2.2 3) 4 (xsSet (gP q2.2 (gZ q2.2 3) 4) (xsTop (gR q2.2 1)) (nI ((gP q2.2 (gZ q2.2 3) 0)).length))) 2 ((gR q2.2 2)).dropLast) 3 ((gR q2.2 3)).dropLast)
  else
    some q2.2
def m92  (s : xSt) : Option (xSt) :=
  if (gI s 5) = 3 then
    m92_17  true s
  else
    m92_17  false s
def m56f  (s : xSt) : Option (Bool × xSt) :=
  if (nI ((gP s false 6)).length) < 64 then
    some (false, s)
  else
    some (true, s)
def m56t  (s : xSt) : Option (Bool × xSt) :=
  if (nI ((gP s true 6)).length) < 64 then
    some (false, s)
  else
    some (true, s)
def m56 (z0 : Bool) (s : xSt) : Option (Bool × xSt) := bif z0 then m56t  s else m56f  s
def m90_27  (y0 : Bool) (s : xSt) : Option (Bool × xSt) :=
  (m84 y0 s).bind fun q3 =>
  some (q3.1, q3.2)
def m90_26   (s : xSt) : Option (Bool × xSt) :=
  m90_27  false s
def m90  (s : xSt) : Option (Bool × xSt) :=
  if (gI s 5) = 4 then
    if (gI s 8) = 0 then
      m90_27  true s
    else
      m90_26  s
  else
    m90_26  s
def m91_15  : Nat → Int64 → Int32 → xSt → Option (Int32 × xSt)
  | 0, _, _, _ => none
  | n + 1, x1, x3, s =>
    if x3 < 0 then
      some ((-1), s)
    else
      (xlGet (gL s 0) x3).bind fun v2 =>
      if (lg_cmp v2 x1) = 0 then
        some (x3, s)
      else
        m91_15  n x1 (x3 + (-1)) s
def m91 (l1 : Int64) (s : xSt) : Option (Int32 × xSt) :=
  m91_15  1000000 l1 ((if (nI ((gL s 0)).length) < (gI s 11) then (nI ((gL s 0)).length) else (gI s 11)) - 1) s
def m89  (s : xSt) : Option (xSt) :=
  if (gI s 5) = 5 then
    some (sP (sP (sP (sP (sP s (gZ s 3) 0 (xsPush 4097 (gP s (gZ s 3) 0) 24)) (gZ s 3) 1 (xsPush 4097 (gP s (gZ s 3) 1) (gI s 6))) (gZ s 3) 2 (xsPush 4097 (gP s (gZ s 3) 2) (gI s 7))) (gZ s 3) 3 (xsPush 4097 (gP s (gZ s 3) 3) (gI s 11))) (gZ s 3) 4 (xsPush 4097 (gP s (gZ s 3) 4) ((nI ((gP s (gZ s 3) 0)).length) + 1)))
  else
    if (gI s 8) = 19 then
      some (sP (sP (sP (sP (sP s (gZ s 3) 0 (xsPush 4097 (gP s (gZ s 3) 0) 19)) (gZ s 3) 1 (xsPush 4097 (gP s (gZ s 3) 1) (gI s 6))) (gZ s 3) 2 (xsPush 4097 (gP s (gZ s 3) 2) 0)) (gZ s 3) 3 (xsPush 4097 (gP s (gZ s 3) 3) (gI s 11))) (gZ s 3) 4 (xsPush 4097 (gP s (gZ s 3) 4) ((nI ((gP s (gZ s 3) 0)).length) + 1)))
    else
      (m90  s).bind fun q3 =>
      if q3.1 = true then
        (m91 (gJ q3.2 0) q3.2).bind fun q5 =>
        some (sP (sP (sP (sP (sP q5.2 (gZ q3.2 3) 0 (xsPush 4097 (gP q5.2 (gZ q3.2 3) 0) 25)) (gZ q3.2 3) 1 (xsPush 4097 (gP q5.2 (gZ q3.2 3) 1) (gI q3.2 6))) (gZ q3.2 3) 2 (xsPush 4097 (gP q5.2 (gZ q3.2 3) 2) q5.1)) (gZ q3.2 3) 3 (xsPush 4097 (gP q5.2 (gZ q3.2 3) 3) (gI q5.2 11))) (gZ q3.2 3) 4 (xsPush 4097 (gP q5.2 (gZ q3.2 3) 4) ((nI ((gP q5.2 (gZ q3.2 3) 0)).length) + 1)))
      else
        some q3.2
def m88_40  (y0 : Bool) (s : xSt) : Option (xSt) :=
  (m84 y0 s).bind fun q4 =>
  if q4.1 = true then
    (m89  q4.2).bind fun q6 =>
    some q6
  else
    some q4.2
def m88_39   (s : xSt) : Option (xSt) :=
  m88_40  false s
def m88 (a1 : Int32) (s : xSt) : Option (xSt) :=
  if (gI s 5) = 2 then
    some (sI (sI s 9 (gI s 6)) 10 a1)
  else
    if a1 = 0 then
      if (gI s 5) = 3 then
        m88_39  s
      else
        m88_40  true s
    else
      m88_39  s
def m19 (a0 : Int32) (s : xSt) : Option (Bool × xSt) :=
  if a0 < 1 then
    some (false, s)
  else
    if 15 < a0 then
      some (false, s)
    else
      some (true, s)
def m20_12  (x0 : Int32) (s : xSt) : Option (Bool × xSt) :=
  if x0 < 16 then
    some (false, s)
  else
    if 18 < x0 then
      some (false, s)
    else
      some (true, s)
def m20 (a0 : Int32) (s : xSt) : Option (Bool × xSt) :=
  if a0 < 8 then
    m20_12  a0 s
  else
    if a0 ≤ 10 then
      some (true, s)
    else
      m20_12  a0 s
def m87 (a1 : Int32) (s : xSt) : Option (Bool × xSt) :=
  if (gI s 10) = 2 then
    if a1 = 22 then
      some (true, s)
    else
      if a1 = 23 then
        some (true, s)
      else
        some (false, s)
  else
    if (gI s 10) = 0 then
      (m19 a1 s).bind fun q5 =>
      some (q5.1, q5.2)
    else
      (m20 a1 s).bind fun q6 =>
      some (q6.1, q6.2)
def m86_43  (x1 : Int32) (x2 : Int32) (s : xSt) : Option (xSt) :=
  some (sI (sR (sR (sR (sP (sP (sP (sP (sP s (gZ s 3) 0 (xsPush 4097 (gP s (gZ s 3) 0) x1)) (gZ s 3) 1 (xsPush 4097 (gP s (gZ s 3) 1) (gI s 9))) (gZ s 3) 2 (xsPush 4097 (gP s (gZ s 3) 2) (nI ((gP s (gZ s 3) 6)).length))) (gZ s 3) 3 (xsPush 4097 (gP s (gZ s 3) 3) (gI s 11))) (gZ s 3) 4 (xsPush 4097 (gP s (gZ s 3) 4) ((nI ((gP s (gZ s 3) 0)).length) + 1))) 1 (xsPush 4097 (gR s 1) (nI ((gP s (gZ s 3) 0)).length))) 2 (xsPush 4097 (gR s 2) 0)) 3 (xsPush 4097 (gR s 3) x2)) 10 (-1))
def m86_42  (x1 : Int32) (y0 : Bool) (s : xSt) : Option (xSt) :=
  m86_43  x1 (b01 y0) s
def m86  (s : xSt) : Option (xSt) :=
  (m87 (gI s 8) s).bind fun q1 =>
  (m84 q1.1 q1.2).bind fun q2 =>
  if q2.1 = true then
    if (gI q2.2 10) = 2 then
      if (gI s 8) = 22 then
        m86_42  (gI s 8) false q2.2
      else
        m86_42  (gI s 8) true q2.2
    else
      m86_43  (gI s 8) (gI q2.2 10) q2.2
  else
    some q2.2
def m60f_2  : Nat → Int64 → Int32 → xSt → Option (Int32 × xSt)
  | 0, _, _, _ => none
  | n + 1, x1, x3, s =>
    if (nI ((gP s false 6)).length) ≤ x3 then
      some ((-1), s)
    else
      if (nI ((gN s false)).length) ≤ x3 then
        some ((-1), s)
      else
        (xlGet (gN s false) x3).bind fun v3 =>
        if (lg_cmp v3 x1) = 0 then
          some (x3, s)
        else
          m60f_2  n x1 (x3 + 1) s
def m60f (l1 : Int64) (s : xSt) : Option (Int32 × xSt) :=
  m60f_2  1000000 l1 0 s
def m60t_2  : Nat → Int64 → Int32 → xSt → Option (Int32 × xSt)
  | 0, _, _, _ => none
  | n + 1, x1, x3, s =>
    if (nI ((gP s true 6)).length) ≤ x3 then
      some ((-1), s)
    else
      if (nI ((gN s true)).length) ≤ x3 then
        some ((-1), s)
      else
        (xlGet (gN s true) x3).bind fun v3 =>
        if (lg_cmp v3 x1) = 0 then
          some (x3, s)
        else
          m60t_2  n x1 (x3 + 1) s
def m60t (l1 : Int64) (s : xSt) : Option (Int32 × xSt) :=
  m60t_2  1000000 l1 0 s
def m60 (z0 : Bool) (l1 : Int64) (s : xSt) : Option (Int32 × xSt) := bif z0 then m60t l1 s else m60f l1 s
def m61f_64  : Nat → Int32 → xSt → Option (xSt)
  | 0, _, _ => none
  | n + 1, x6, s =>
    if 8 ≤ x6 then
      some s
    else
      m61f_64  n (x6 + 1) (sP s false 9 (xsPush 512 (gP s false 9) 0))
def m61f (l1 : Int64) (a2 : Int32) (a3 : Int32) (s : xSt) : Option (xSt) :=
  if (nI ((gP s false 6)).length) < (nI ((gN s false)).length) then
    (xlPut (gN s false) (nI ((gP s false 6)).length) l1).bind fun u2 =>
    m61f_64  1000000 0 (sP (sP (sP (sP (sN s false u2) false 5 (xsPush 64 (gP s false 5) a2)) false 6 (xsPush 64 (gP s false 6) a3)) false 7 (xsPush 64 (gP s false 7) 0)) false 8 (xsPush 64 (gP s false 8) 0))
  else
    some s
def m61t_64  : Nat → Int32 → xSt → Option (xSt)
  | 0, _, _ => none
  | n + 1, x6, s =>
    if 8 ≤ x6 then
      some s
    else
      m61t_64  n (x6 + 1) (sP s true 9 (xsPush 512 (gP s true 9) 0))
def m61t (l1 : Int64) (a2 : Int32) (a3 : Int32) (s : xSt) : Option (xSt) :=
  if (nI ((gP s true 6)).length) < (nI ((gN s true)).length) then
    (xlPut (gN s true) (nI ((gP s true 6)).length) l1).bind fun u2 =>
    m61t_64  1000000 0 (sP (sP (sP (sP (sN s true u2) true 5 (xsPush 64 (gP s true 5) a2)) true 6 (xsPush 64 (gP s true 6) a3)) true 7 (xsPush 64 (gP s true 7) 0)) true 8 (xsPush 64 (gP s true 8) 0))
  else
    some s
def m61 (z0 : Bool) (l1 : Int64) (a2 : Int32) (a3 : Int32) (s : xSt) : Option (xSt) := bif z0 then m61t l1 a2 a3 s else m61f l1 a2 a3 s
def m94_31  (y0 : Bool) (s : xSt) : Option (xSt) :=
  (m84 y0 s).bind fun q5 =>
  if q5.1 = true then
    (m61 (gZ q5.2 3) (gJ q5.2 0) (gI q5.2 6) (xsTop (gR q5.2 1)) q5.2).bind fun q7 =>
    some q7
  else
    some q5.2
def m94  (s : xSt) : Option (xSt) :=
  (m90  s).bind fun q1 =>
  if q1.1 = true then
    (m60 (gZ q1.2 3) (gJ q1.2 0) q1.2).bind fun q3 =>
    if q3.1 = (-1) then
      m94_31  true q3.2
    else
      m94_31  false q3.2
  else
    some q1.2
def m95  (s : xSt) : Option (xSt) :=
  (m90  s).bind fun q1 =>
  if q1.1 = true then
    some (sP q1.2 (gZ q1.2 3) 2 (xsSet (gP q1.2 (gZ q1.2 3) 2) (xsTop (gR q1.2 1)) (gI q1.2 6)))
  else
    some q1.2
def m96_57  (y0 : Bool) (s : xSt) : Option (xSt) :=
  (m84 y0 s).bind fun q6 =>
  some q6.2
def m96_56   (s : xSt) : Option (xSt) :=
  m96_57  false s
def m96  (s : xSt) : Option (xSt) :=
  if (gI s 5) = 3 then
    (m79 22 s).bind fun q2 =>
    (xtIdx q2.1 82).bind fun v3 =>
    some (sR q2.2 2 (xsSetTop (gR q2.2 2) v3))
  else
    if (gI s 5) = 2 then
      if 8 ≤ (gI s 11) then
        m96_56  s
      else
        m96_57  true s
    else
      m96_56  s
def m21 (a0 : Int32) (s : xSt) : Option (Bool × xSt) :=
  if a0 = 20 then
    some (true, s)
  else
    if a0 = 21 then
      some (true, s)
    else
      if a0 = 14 then
        some (true, s)
      else
        if a0 = 15 then
          some (true, s)
        else
          some (false, s)
def m97_45  (x1 : Int32) (y0 : Bool) (s : xSt) : Option (xSt) :=
  (m84 y0 s).bind fun q4 =>
  if q4.1 = true then
    some (sP q4.2 (gZ q4.2 3) 7 (xsSetTop (gP q4.2 (gZ q4.2 3) 7) x1))
  else
    some q4.2
def m97_25  (x1 : Int32) (y0 : Bool) (s : xSt) : Option (xSt) :=
  if (xsTop (gR s 3)) = 0 then
    (m21 x1 s).bind fun q3 =>
    m97_45  x1 q3.1 q3.2
  else
    m97_45  x1 y0 s
def m97_20  (x1 : Int32) (s : xSt) : Option (xSt) :=
  m97_25  x1 true s
def m97  (s : xSt) : Option (xSt) :=
  if (gI s 8) = 20 then
    m97_20  (gI s 8) s
  else
    if (gI s 8) = 21 then
      m97_20  (gI s 8) s
    else
      m97_25  (gI s 8) false s
def m98_114  (y0 : Bool) (s : xSt) : Option (xSt) :=
  (m84 y0 s).bind fun q11 =>
  if q11.1 = true then
    (m80 (gJ q11.2 0) q11.2).bind fun q13 =>
    some q13
  else
    some q11.2
def m98_73  (x1 : Int32) (y0 : Bool) (s : xSt) : Option (xSt) :=
  if x1 = 88 then
    some (sP s (gZ s 3) 2 (xsSet (gP s (gZ s 3) 2) (xsTop (gR s 1)) (gI s 6)))
  else
    if y0 = true then
      m98_114  false s
    else
      m98_114  true s
def m98_68  (x1 : Int32) (s : xSt) : Option (xSt) :=
  m98_73  x1 true s
def m98_72  (x1 : Int32) (s : xSt) : Option (xSt) :=
  m98_73  x1 false s
def m98_57  (x1 : Int32) (x2 : Int32) (s : xSt) : Option (xSt) :=
  if x1 = 78 then
    if x2 = (-1) then
      m98_72  x1 s
    else
      m98_68  x1 s
  else
    m98_72  x1 s
def m98_22  (x1 : Int32) (y0 : Bool) (s : xSt) : Option (xSt) :=
  (m84 y0 s).bind fun q4 =>
  if q4.1 = true then
    (m91 (gJ q4.2 0) q4.2).bind fun q6 =>
    if x1 = 84 then
      if q6.1 = ((gI q6.2 11) - 1) then
        m98_68  x1 q6.2
      else
        m98_57  x1 q6.1 q6.2
    else
      m98_57  x1 q6.1 q6.2
  else
    some q4.2
def m98 (a1 : Int32) (s : xSt) : Option (xSt) :=
  (m90  s).bind fun q1 =>
  if q1.1 = true then
    if 24 ≤ (gI q1.2 11) then
      m98_22  a1 false q1.2
    else
      m98_22  a1 true q1.2
  else
    some q1.2
def m93_132  (y0 : Bool) (s : xSt) : Option (xSt) :=
  (m84 y0 s).bind fun q9 =>
  (m79 22 q9.2).bind fun q10 =>
  (xtIdx q10.1 80).bind fun v11 =>
  some (sR q10.2 2 (xsSetTop (gR q10.2 2) v11))
def m93 (a1 : Int32) (s : xSt) : Option (xSt) :=
  if a1 = 68 then
    (m94  s).bind fun q2 =>
    some q2
  else if a1 = 70 then
    (m95  s).bind fun q4 =>
    some q4
  else if a1 = 80 then
    (m96  s).bind fun q6 =>
    some q6
  else if a1 = 81 then
    if (gI s 5) = 3 then
      m93_132  true s
    else
      m93_132  false s
  else if a1 = 82 then
    (m97  s).bind fun q13 =>
    some q13
  else if a1 = 89 then
    (m21 (gI s 8) s).bind fun q15 =>
    (m84 q15.1 q15.2).bind fun q16 =>
    if q16.1 = true then
      some (sP (sP q16.2 (gZ q16.2 3) 9 (xsSet (gP q16.2 (gZ q16.2 3) 9) ((((nI ((gP q16.2 (gZ q16.2 3) 6)).length) - 1) * 8) + (xsTop (gP q16.2 (gZ q16.2 3) 8))) (gI q16.2 8))) (gZ q16.2 3) 8 (xsSetTop (gP q16.2 (gZ q16.2 3) 8) ((xsTop (gP q16.2 (gZ q16.2 3) 8)) + 1)))
    else
      some q16.2
  else 
  (m98 a1 s).bind fun q18 =>
  some q18
def m83_171  (y0 : Bool) (s : xSt) : Option (xSt) :=
  (m84 y0 s).bind fun q3 =>
  some q3.2
def m83_103  (y0 : Bool) (s : xSt) : Option (xSt) :=
  (m84 y0 s).bind fun q10 =>
  if q10.1 = true then
    some (sI (sI q10.2 9 (gI q10.2 6)) 10 2)
  else
    some q10.2
def m83_102   (s : xSt) : Option (xSt) :=
  m83_103  false s
def m83_195  (y0 : Bool) (s : xSt) : Option (xSt) :=
  (m84 y0 s).bind fun q20 =>
  some q20.2
def m83 (a1 : Int32) (s : xSt) : Option (xSt) :=
  if a1 = 40 then
    if (gI s 5) = 2 then
      m83_171  true s
    else
      m83_171  false s
  else if a1 = 41 then
    (m92  s).bind fun q5 =>
    some q5
  else if a1 = 65 then
    if (gI s 5) = 2 then
      (m56 (gZ s 3) s).bind fun q8 =>
      if q8.1 = true then
        m83_102  q8.2
      else
        m83_103  true q8.2
    else
      m83_102  s
  else if a1 = 67 then
    (m88 1 s).bind fun q13 =>
    some q13
  else if a1 = 69 then
    (m88 0 s).bind fun q15 =>
    some q15
  else if a1 = 72 then
    (m86  s).bind fun q17 =>
    some q17
  else if a1 = 73 then
    if (gI s 5) = 3 then
      m83_195  true s
    else
      m83_195  false s
  else if a1 = 83 then
    (m88 (xsTop (gR s 3)) s).bind fun q22 =>
    some q22
  else 
  (m93 a1 s).bind fun q23 =>
  some q23
def m76_115 (K11 : Int32 → xSt → Option (xSt)) (x2 : Int32) (y0 : Int32) (s : xSt) : Option (xSt) :=
  (m83 y0 s).bind fun q15 =>
  K11 (x2 + 1) q15
def m76_11  : Nat → Int32 → xSt → Option (xSt)
  | 0, _, _ => none
  | n + 1, x2, s =>
    if 1000000 ≤ x2 then
      some s
    else
      if (gZ s 4) = true then
        some s
      else
        (m13  s).bind fun q4 =>
        if q4.1 = true then
          some q4.2
        else
          (m78  q4.2).bind fun q6 =>
          if q6.1 = 66 then
            (m37 (xsAt (gP q6.2 (gZ q6.2 3) 2) (xsTop (gR q6.2 1))) q6.2).bind fun q8 =>
            (m80 q8.1 q8.2).bind fun q9 =>
            m76_11  n (x2 + 1) q9
          else
            if q6.1 = 85 then
              m76_11  n (x2 + 1) (sI q6.2 11 ((gI q6.2 11) - 1))
            else
              (m81 q6.1 q6.2).bind fun q11 =>
              if q11.1 = true then
                if q6.1 = 42 then
                  (m82  q11.2).bind fun q14 =>
                  m76_115 (m76_11 n) x2 q14.1 q14.2
                else
                  m76_115 (m76_11 n) x2 q6.1 q11.2
              else
                m76_11  n (x2 + 1) q11.2
def m76 (z1 : Bool) (s : xSt) : Option (xSt) :=
  (m77  (sZ s 3 z1)).bind fun q1 =>
  m76_11  1000000 0 q1
def m25_r78  (s : xSt) : Option (xSt) :=
  if ((gR s 14)).length ≤ 64 then
    some (sI (sR s 15 (gR s 14)) 15 0)
  else none
def m116  (s : xSt) : Option (xSt) :=
  some (sI (sI (sR (sR (sR (sR (sR (sR (sR (sR s 8 (xsCut (gR s 8) 0)) 9 (xsCut (gR s 9) 0)) 10 (xsCut (gR s 10) 0)) 11 (xsCut (gR s 11) 0)) 12 (xsCut (gR s 12) 0)) 13 (xsCut (gR s 13) 0)) 12 (xsPush 2065 (xsCut (gR s 12) 0) 0)) 13 (xsPush 2065 (xsCut (gR s 13) 0) 0)) 12 0) 14 0)
def m118_r78_9  : Nat → Int32 → Int32 → xSt → Option (Int32 × xSt)
  | 0, _, _, _ => none
  | n + 1, x2, x3, s =>
    if x3 < 0 then
      some (x2, s)
    else
      m118_r78_9  n ((nI ((xsPush 2065 (gR s 12) (xsAt (gR s 14) x3))).length) - 1) (x3 + (-1)) (sR (sR s 12 (xsPush 2065 (gR s 12) (xsAt (gR s 14) x3))) 13 (xsPush 2065 (gR s 13) x2))
def m118_r78  (s : xSt) : Option (Int32 × xSt) :=
  m118_r78_9  1000000 0 ((nI ((gR s 14)).length) - 1) s
def m119  (s : xSt) : Option (Bool × xSt) :=
  if 6000 < (gI s 14) then
    some (false, s)
  else
    if (gI s 13) = (-1) then
      if (nI ((gR s 8)).length) ≤ 0 then
        some (false, s)
      else
        some (true, s)
    else
      some (true, s)
def m123_154  (x5 : Int32) (s : xSt) : Option (xSt) :=
  some (sI (sR (sR s 8 ((gR s 8)).dropLast) 9 ((gR s 9)).dropLast) 13 x5)
def m123_44  (y0 : Int32) (s : xSt) : Option (xSt) :=
  m123_154  y0 s
def m123 (a1 : Int32) (a2 : Int32) (s : xSt) : Option (xSt) :=
  if (xsAt (gP s (gZ s 6) 0) a1) = 8 then
    if (xsTop (gR s 10)) = 0 then
      m123_44  (xsAt (gP s (gZ s 6) 4) a2) (sR s 10 ((gR s 10)).dropLast)
    else
      m123_44  a2 (sR s 10 ((gR s 10)).dropLast)
  else
    if (xsAt (gP s (gZ s 6) 0) a1) = 10 then
      if (xsTop (gR s 10)) = 0 then
        m123_154  a2 (sR s 10 ((gR s 10)).dropLast)
      else
        m123_154  (xsAt (gP s (gZ s 6) 4) a2) (sR (sR s 10 ((gR s 10)).dropLast) 11 (xsPush 6001 (xsPush 6001 (xsCut (gR s 11) ((gI s 12) + (xsAt (gP s (gZ s 6) 3) a1))) (xsAt (gR s 12) (xsTop (gR s 10)))) (xsAt (gR s 13) (xsTop (gR s 10)))))
    else
      m123_154  a2 (sR (sR s 10 ((gR s 10)).dropLast) 11 (xsPush 6001 (xsCut (gR s 11) ((gI s 12) + (xsAt (gP s (gZ s 6) 3) a1))) (xsTop (gR s 10))))
def m23 (a0 : Int32) (s : xSt) : Option (Bool × xSt) :=
  if a0 = 12 then
    some (true, s)
  else
    if a0 = 13 then
      some (true, s)
    else
      if a0 = 18 then
        some (true, s)
      else
        some (false, s)
def m128_57  : Nat → Int32 → Int32 → Int32 → xSt → Option (xSt)
  | 0, _, _, _, _ => none
  | n + 1, x2, x3, x4, s =>
    if (nI ((gR s 10)).length) ≤ x4 then
      some (sI (sR (sR s 10 (xsCut (gR s 10) x3)) 9 (xsSetTop (gR s 9) (-1))) 13 ((xsAt (gP s (gZ s 6) 6) x2) + 1))
    else
      m128_57  n x2 x3 (x4 + 1) (sR s 11 (xsPush 6001 (gR s 11) (xsAt (gR s 10) x4)))
def m128 (a1 : Int32) (s : xSt) : Option (xSt) :=
  m128_57  1000000 (xsAt (gP s (gZ s 6) 2) a1) ((nI ((gR s 10)).length) - (xsAt (gP s (gZ s 6) 8) (xsAt (gP s (gZ s 6) 2) a1))) ((nI ((gR s 10)).length) - (xsAt (gP s (gZ s 6) 8) (xsAt (gP s (gZ s 6) 2) a1))) (sR (sI s 12 ((gI s 12) + (xsAt (gP s (gZ s 6) 3) a1))) 11 (xsCut (gR s 11) ((gI s 12) + (xsAt (gP s (gZ s 6) 3) a1))))
def m129 (a0 : Int32) (a1 : Int32) (a2 : Int32) (s : xSt) : Option (Int32 × xSt) :=
  if a0 = 1 then
    some ((a1 + a2), s)
  else if a0 = 2 then
    some ((a1 - a2), s)
  else if a0 = 3 then
    some ((a1 * a2), s)
  else if a0 = 4 then
    if a2 = 0 then
      some (0, s)
    else
      if a2 = 0 then none else
      some ((a1 / a2), s)
  else if a0 = 5 then
    if a2 = 0 then
      some (a1, s)
    else
      if a2 = 0 then none else
      some ((a1 - a1 / a2 * a2), s)
  else if a0 = 6 then
    if a2 ≤ a1 then
      some (0, s)
    else
      some (1, s)
  else 
  if a1 = a2 then
    some (1, s)
  else
    some (0, s)
def m127 (a1 : Int32) (s : xSt) : Option (xSt) :=
  (m23 (xsAt (gP s (gZ s 6) 0) a1) s).bind fun q1 =>
  if q1.1 = true then
    (m128 a1 q1.2).bind fun q3 =>
    some q3
  else
    if (xsAt (gP s (gZ s 6) 0) a1) = 11 then
      some (sR (sR (sR (sR (sR (sR q1.2 8 ((gR q1.2 8)).dropLast) 9 ((gR q1.2 9)).dropLast) 10 (((gR q1.2 10)).dropLast).dropLast) 12 (xsPush 2065 (gR q1.2 12) (xsTop ((gR q1.2 10)).dropLast))) 13 (xsPush 2065 (gR q1.2 13) (xsTop (gR q1.2 10)))) 10 (xsPush 6001 (((gR q1.2 10)).dropLast).dropLast ((nI ((xsPush 2065 (gR q1.2 12) (xsTop ((gR q1.2 10)).dropLast))).length) - 1)))
    else
      (m129 (xsAt (gP s (gZ s 6) 0) a1) (xsTop ((gR q1.2 10)).dropLast) (xsTop (gR q1.2 10)) (sR (sR (sR q1.2 8 ((gR q1.2 8)).dropLast) 9 ((gR q1.2 9)).dropLast) 10 (((gR q1.2 10)).dropLast).dropLast)).bind fun q5 =>
      some (sR q5.2 10 (xsPush 6001 (gR q5.2 10) q5.1))
def m121  (s : xSt) : Option (xSt) :=
  if (xsAt (gP s (gZ s 6) 0) (xsTop (gR s 8))) = 8 ∨ (xsAt (gP s (gZ s 6) 0) (xsTop (gR s 8))) = 9 ∨ (xsAt (gP s (gZ s 6) 0) (xsTop (gR s 8))) = 10 ∨ (xsAt (gP s (gZ s 6) 0) (xsTop (gR s 8))) = 16 then
    if (xsTop (gR s 9)) = ((xsTop (gR s 8)) + 1) then
      some (sI (sR s 9 (xsSetTop (gR s 9) (xsAt (gP s (gZ s 6) 4) (xsTop (gR s 9))))) 13 (xsTop (gR s 9)))
    else
      (m123 (xsTop (gR s 8)) (xsTop (gR s 9)) s).bind fun q3 =>
      some q3
  else if (xsAt (gP s (gZ s 6) 0) (xsTop (gR s 8))) = 14 ∨ (xsAt (gP s (gZ s 6) 0) (xsTop (gR s 8))) = 15 ∨ (xsAt (gP s (gZ s 6) 0) (xsTop (gR s 8))) = 17 then
    some (sI (sR (sR s 8 ((gR s 8)).dropLast) 9 ((gR s 9)).dropLast) 13 (xsTop (gR s 9)))
  else 
  if (xsTop (gR s 9)) = (-1) then
    some (sR (sR (sI s 12 ((gI s 12) - (xsAt (gP s (gZ s 6) 3) (xsTop (gR s 8))))) 8 ((gR s 8)).dropLast) 9 ((gR s 9)).dropLast)
  else
    if (xsAt (gP s (gZ s 6) 4) (xsTop (gR s 8))) ≤ (xsTop (gR s 9)) then
      (m127 (xsTop (gR s 8)) s).bind fun q7 =>
      some q7
    else
      some (sI (sR s 9 (xsSetTop (gR s 9) (xsAt (gP s (gZ s 6) 4) (xsTop (gR s 9))))) 13 (xsTop (gR s 9)))
def m120 (a1 : Int32) (s : xSt) : Option (xSt) :=
  if ((gI s 14) + 1) ≤ 6000 then
    if (xsAt (gP s (gZ s 6) 0) a1) = 19 then
      some (sR (sI (sI s 13 (-1)) 14 ((gI s 14) + 1)) 10 (xsPush 6001 (gR s 10) 0))
    else if (xsAt (gP s (gZ s 6) 0) a1) = 24 then
      some (sR (sI (sI s 13 (-1)) 14 ((gI s 14) + 1)) 10 (xsPush 6001 (gR s 10) (xsAt (gP s (gZ s 6) 2) a1)))
    else if (xsAt (gP s (gZ s 6) 0) a1) = 25 then
      some (sR (sI (sI s 13 (-1)) 14 ((gI s 14) + 1)) 10 (xsPush 6001 (gR s 10) (xsAt (gR s 11) ((gI s 12) + (xsAt (gP s (gZ s 6) 2) a1)))))
    else 
    some (sR (sR (sI (sI s 13 (-1)) 14 ((gI s 14) + 1)) 8 (xsPush 6001 (gR s 8) a1)) 9 (xsPush 6001 (gR s 9) (a1 + 1)))
  else
    some (sI (sI s 13 (-1)) 14 ((gI s 14) + 1))
def m115_r78_85   (s : xSt) : Option (Bool × xSt) :=
  if 6000 < (gI s 14) then
    some (false, s)
  else
    some (true, s)
def m115_r78_43  : Nat → Int32 → xSt → Option (Bool × xSt)
  | 0, _, _ => none
  | n + 1, x3, s =>
    if 1000000 ≤ x3 then
      m115_r78_85  s
    else
      (m119  s).bind fun q5 =>
      if q5.1 = true then
        if (gI q5.2 13) = (-1) then
          (m121  q5.2).bind fun q8 =>
          m115_r78_43  n (x3 + 1) q8
        else
          (m120 (gI q5.2 13) q5.2).bind fun q9 =>
          m115_r78_43  n (x3 + 1) q9
      else
        m115_r78_85  q5.2
def m115_r78 (z1 : Bool) (s : xSt) : Option (Bool × xSt) :=
  (m116  (sZ s 6 z1)).bind fun q1 =>
  (m118_r78  q1).bind fun q2 =>
  m115_r78_43  1000000 0 (sI (sR q2.2 11 (xsPush 6001 (gR q2.2 11) q2.1)) 13 ((xsAt (gP q2.2 (gZ q2.2 6) 6) ((nI ((gP q2.2 (gZ q2.2 6) 6)).length) - 1)) + 1))
def m130_r83_15  : Nat → Int32 → Int32 → xSt → Option (xSt)
  | 0, _, _, _ => none
  | n + 1, x2, x3, s =>
    if (nI ((gR s 12)).length) ≤ x3 then
      some s
    else
      if x2 = 0 then
        some s
      else
        m130_r83_15  n (xsAt (gR s 13) x2) (x3 + 1) (sR s 16 (xsPush 2065 (gR s 16) (xsAt (gR s 12) x2)))
def m130_r83  (s : xSt) : Option (xSt) :=
  m130_r83_15  1000000 (xsTop (gR s 10)) 0 (sR s 16 (xsCut (gR s 16) 0))
def m136  (s : xSt) : Option (xSt) :=
  (m130_r83  s).bind fun q1 =>
  some (sI q1 0 (gI q1 14))
def m135  (s : xSt) : Option (xSt) :=
  (m115_r78 (gZ s 1) s).bind fun q1 =>
  if q1.1 = true then
    (m136  (sZ (sZ (sZ q1.2 0 (gZ q1.2 1)) 1 (gZ q1.2 0)) 2 true)).bind fun q3 =>
    some q3
  else
    (m14 7 (-1) q1.2).bind fun q4 =>
    some q4
def m22_4  : Nat → Nat → Int64 → Int32 → xSt → Option (Int64 × xSt)
  | 0, _, _, _, _ => none
  | n + 1, x0, x1, x3, s =>
    (xtLen x0).bind fun v1 =>
    if v1 ≤ x3 then
      some (x1, s)
    else
      (xtAt x0 x3).bind fun v3 =>
      m22_4  n x0 ((x1 * 32) + (Int32.toInt64 ((v3 - 97) + 1))) (x3 + 1) s
def m22 (t0 : Nat) (s : xSt) : Option (Int64 × xSt) :=
  m22_4  1000000 t0 0 0 s
def m101_130  (x1 : Int32) (s : xSt) : Option (xSt) :=
  (m14 4 (xsAt (gP s (gZ s 5) 5) x1) s).bind fun q12 =>
  some q12
def m101_115  (x1 : Int32) (x2 : Bool) (x3 : Bool) (y0 : Bool) (s : xSt) : Option (xSt) :=
  if x2 = true then
    if x3 = true then
      if y0 = true then
        some s
      else
        m101_130  x1 s
    else
      m101_130  x1 s
  else
    m101_130  x1 s
def m101_114  (x1 : Int32) (x2 : Bool) (x3 : Bool) (s : xSt) : Option (xSt) :=
  m101_115  x1 x2 x3 false s
def m101_83  (x1 : Int32) (x2 : Bool) (y0 : Bool) (s : xSt) : Option (xSt) :=
  if (xsAt (gP s (gZ s 5) 8) x1) = 1 then
    if (xsAt (gP s (gZ s 5) 9) ((x1 * 8) + 0)) = 15 then
      m101_115  x1 x2 y0 true s
    else
      m101_114  x1 x2 y0 s
  else
    m101_114  x1 x2 y0 s
def m101_82  (x1 : Int32) (x2 : Bool) (s : xSt) : Option (xSt) :=
  m101_83  x1 x2 false s
def m101_51  (x1 : Int32) (y0 : Bool) (s : xSt) : Option (xSt) :=
  if (xsAt (gP s (gZ s 5) 0) (xsAt (gP s (gZ s 5) 6) x1)) = 22 then
    if (xsAt (gP s (gZ s 5) 7) x1) = 15 then
      m101_83  x1 y0 true s
    else
      m101_82  x1 y0 s
  else
    m101_82  x1 y0 s
def m101  (s : xSt) : Option (xSt) :=
  if 0 ≤ ((nI ((gP s (gZ s 5) 6)).length) - 1) then
    (m22 10 s).bind fun q2 =>
    (m60 (gZ s 5) q2.1 q2.2).bind fun q3 =>
    if q3.1 = ((nI ((gP s (gZ s 5) 6)).length) - 1) then
      m101_51  ((nI ((gP s (gZ s 5) 6)).length) - 1) true q3.2
    else
      m101_51  ((nI ((gP s (gZ s 5) 6)).length) - 1) false q3.2
  else
    (m14 4 (nI ((gR s 0)).length) s).bind fun q13 =>
    some q13
def m104_6  : Nat → Int32 → Int32 → Int32 → xSt → Option (Int32 × xSt)
  | 0, _, _, _, _ => none
  | n + 1, x1, x2, x3, s =>
    if (xsAt (gP s (gZ s 5) 4) x1) ≤ x3 then
      some (x2, s)
    else
      if 8 < x2 then
        some (x2, s)
      else
        m104_6  n x1 (x2 + 1) (xsAt (gP s (gZ s 5) 4) x3) s
def m104 (a1 : Int32) (s : xSt) : Option (Int32 × xSt) :=
  m104_6  1000000 a1 0 (a1 + 1) s
def m103_81  (x2 : Int32) (s : xSt) : Option (xSt) :=
  (m14 5 x2 s).bind fun q5 =>
  some q5
def m103_45  (x1 : Int32) (x2 : Int32) (x3 : Int32) (y0 : Int32) (s : xSt) : Option (xSt) :=
  if x3 = (-1) then
    m103_81  x2 s
  else
    if (xsAt (gP s (gZ s 5) 0) (xsAt (gP s (gZ s 5) 6) x3)) = y0 then
      (m104 x1 s).bind fun q7 =>
      if (xsAt (gP s (gZ s 5) 8) x3) = q7.1 then
        some (sP q7.2 (gZ q7.2 5) 2 (xsSet (gP q7.2 (gZ q7.2 5) 2) x1 x3))
      else
        m103_81  x2 q7.2
    else
      m103_81  x2 s
def m103 (a1 : Int32) (s : xSt) : Option (xSt) :=
  (m37 (xsAt (gP s (gZ s 5) 2) a1) s).bind fun q1 =>
  (m60 (gZ s 5) q1.1 q1.2).bind fun q2 =>
  if (xsAt (gP q2.2 (gZ q2.2 5) 0) a1) = 18 then
    m103_45  a1 (xsAt (gP s (gZ s 5) 2) a1) q2.1 23 q2.2
  else
    m103_45  a1 (xsAt (gP s (gZ s 5) 2) a1) q2.1 22 q2.2
def m106 (a1 : Int32) (a2 : Int32) (s : xSt) : Option (xSt) :=
  if a1 < 0 then
    some s
  else
    if (nI ((gR s 7)).length) ≤ a1 then
      some s
    else
      (xsPut (gR s 7) a1 a2).bind fun u3 =>
      some (sR s 7 u3)
def m105_2  : Nat → Int32 → Int32 → xSt → Option (xSt)
  | 0, _, _, _ => none
  | n + 1, x1, x2, s =>
    if (xsAt (gP s (gZ s 5) 8) x1) ≤ x2 then
      some s
    else
      (m106 x2 (xsAt (gP s (gZ s 5) 9) ((x1 * 8) + x2)) s).bind fun q2 =>
      m105_2  n x1 (x2 + 1) q2
def m105 (a1 : Int32) (s : xSt) : Option (xSt) :=
  m105_2  1000000 a1 0 s
def m102_85  (x1 : Int32) (s : xSt) : Option (xSt) :=
  some (sR (sR (sR s 4 (xsPush 4097 (gR s 4) x1)) 5 (xsPush 4097 (gR s 5) 0)) 6 (xsPush 4097 (gR s 6) 0))
def m102_73  (x1 : Int32) (s : xSt) : Option (xSt) :=
  (m105 (xsAt (gP s (gZ s 5) 2) x1) s).bind fun q8 =>
  m102_85  x1 q8
def m102_46  (x1 : Int32) (x2 : Int32) (s : xSt) : Option (xSt) :=
  (m23 x2 s).bind fun q4 =>
  if q4.1 = true then
    (m103 x1 q4.2).bind fun q6 =>
    m102_85  x1 q6
  else
    if x2 = 22 then
      m102_73  x1 q4.2
    else
      if x2 = 23 then
        m102_73  x1 q4.2
      else
        m102_85  x1 q4.2
def m102 (a1 : Int32) (s : xSt) : Option (xSt) :=
  if (xsAt (gP s (gZ s 5) 0) a1) = 25 then
    if (xsAt (gP s (gZ s 5) 2) a1) = (-1) then
      (m14 5 (xsAt (gP s (gZ s 5) 1) a1) s).bind fun q3 =>
      m102_85  a1 q3
    else
      m102_46  a1 (xsAt (gP s (gZ s 5) 0) a1) s
  else
    m102_46  a1 (xsAt (gP s (gZ s 5) 0) a1) s
def m107 (a1 : Int32) (s : xSt) : Option (Bool × xSt) :=
  if (xsAt (gP s (gZ s 5) 4) (xsTop (gR s 4))) = (a1 + 1) then
    some (true, s)
  else
    some (false, s)
def m110 (a1 : Int32) (s : xSt) : Option (Int32 × xSt) :=
  if a1 < 0 then
    some (0, s)
  else
    if (nI ((gR s 7)).length) ≤ a1 then
      some (0, s)
    else
      (xsGet (gR s 7) a1).bind fun v3 =>
      some (v3, s)
def m109 (a1 : Int32) (a2 : Int32) (s : xSt) : Option (Int32 × xSt) :=
  if (xsAt (gP s (gZ s 5) 0) a1) = 8 ∨ (xsAt (gP s (gZ s 5) 0) a1) = 9 ∨ (xsAt (gP s (gZ s 5) 0) a1) = 10 ∨ (xsAt (gP s (gZ s 5) 0) a1) = 16 ∨ (xsAt (gP s (gZ s 5) 0) a1) = 17 then
    some (a2, s)
  else if (xsAt (gP s (gZ s 5) 0) a1) = 11 ∨ (xsAt (gP s (gZ s 5) 0) a1) = 19 then
    some (21, s)
  else if (xsAt (gP s (gZ s 5) 0) a1) = 12 ∨ (xsAt (gP s (gZ s 5) 0) a1) = 13 ∨ (xsAt (gP s (gZ s 5) 0) a1) = 18 then
    some ((xsAt (gP s (gZ s 5) 7) (xsAt (gP s (gZ s 5) 2) a1)), s)
  else if (xsAt (gP s (gZ s 5) 0) a1) = 14 ∨ (xsAt (gP s (gZ s 5) 0) a1) = 15 then
    some ((xsAt (gP s (gZ s 5) 0) a1), s)
  else if (xsAt (gP s (gZ s 5) 0) a1) = 25 then
    (m110 (xsAt (gP s (gZ s 5) 2) a1) s).bind fun q6 =>
    some (q6.1, q6.2)
  else 
  some (20, s)
def m112 (a1 : Int32) (s : xSt) : Option (Int32 × xSt) :=
  if a1 ≤ 1 then
    some (0, s)
  else
    some ((xsTop (gR s 6)), s)
def m111 (a1 : Int32) (a2 : Int32) (a3 : Int32) (s : xSt) : Option (Int32 × xSt) :=
  if (xsAt (gP s (gZ s 5) 0) a1) = 8 then
    if a2 = 0 then
      some (20, s)
    else
      (m112 a2 s).bind fun q3 =>
      some (q3.1, q3.2)
  else if (xsAt (gP s (gZ s 5) 0) a1) = 9 then
    some (0, s)
  else if (xsAt (gP s (gZ s 5) 0) a1) = 10 then
    if a2 = 0 then
      some (21, s)
    else
      (m112 a2 s).bind fun q7 =>
      some (q7.1, q7.2)
  else if (xsAt (gP s (gZ s 5) 0) a1) = 11 then
    if a2 = 0 then
      some (20, s)
    else
      some (15, s)
  else if (xsAt (gP s (gZ s 5) 0) a1) = 12 ∨ (xsAt (gP s (gZ s 5) 0) a1) = 13 ∨ (xsAt (gP s (gZ s 5) 0) a1) = 18 then
    some ((xsAt (gP s (gZ s 5) 9) (((xsAt (gP s (gZ s 5) 2) a1) * 8) + a2)), s)
  else if (xsAt (gP s (gZ s 5) 0) a1) = 15 then
    some (21, s)
  else if (xsAt (gP s (gZ s 5) 0) a1) = 16 then
    if a2 ≤ 0 then
      if a3 = 14 then
        some (14, s)
      else
        some (15, s)
    else
      some (0, s)
  else if (xsAt (gP s (gZ s 5) 0) a1) = 17 then
    if a3 = 20 then
      some (20, s)
    else
      some (21, s)
  else if (xsAt (gP s (gZ s 5) 0) a1) = 22 ∨ (xsAt (gP s (gZ s 5) 0) a1) = 23 then
    some ((xsAt (gP s (gZ s 5) 7) (xsAt (gP s (gZ s 5) 2) a1)), s)
  else 
  some (20, s)
def m113_68  (y0 : Int32) (y1 : Int32) (s : xSt) : Option (xSt) :=
  (m106 y1 y0 s).bind fun q7 =>
  some q7
def m113_74  (x2 : Int32) (x4 : Int32) (x5 : Int32) (s : xSt) : Option (xSt) :=
  if x4 = 10 then
    if x2 = 1 then
      (m106 x5 20 s).bind fun q10 =>
      (m106 (x5 + 1) 15 q10).bind fun q11 =>
      some q11
    else
      some s
  else
    some s
def m113_41  (x2 : Int32) (x3 : Int32) (x4 : Int32) (x5 : Int32) (s : xSt) : Option (xSt) :=
  if x4 = 16 then
    if x2 = 0 then
      if x3 = 14 then
        m113_68  20 x5 s
      else
        m113_68  21 x5 s
    else
      m113_74  x2 x4 x5 s
  else
    m113_74  x2 x4 x5 s
def m113 (a1 : Int32) (a2 : Int32) (a3 : Int32) (s : xSt) : Option (xSt) :=
  if (xsAt (gP s (gZ s 5) 0) a1) = 9 then
    if a2 = 0 then
      (m106 (xsAt (gP s (gZ s 5) 3) a1) a3 s).bind fun q3 =>
      some q3
    else
      m113_41  a2 a3 (xsAt (gP s (gZ s 5) 0) a1) (xsAt (gP s (gZ s 5) 3) a1) s
  else
    m113_41  a2 a3 (xsAt (gP s (gZ s 5) 0) a1) (xsAt (gP s (gZ s 5) 3) a1) s
def m108_96  (x2 : Int32) (x3 : Int32) (x4 : Int32) (s : xSt) : Option (xSt) :=
  (m113 x3 x4 x2 s).bind fun q5 =>
  some (sR (sR q5 5 (xsSetTop (gR q5 5) (x4 + 1))) 6 (xsSetTop (gR q5 6) x2))
def m108  (s : xSt) : Option (xSt) :=
  (m109 (xsTop (gR s 4)) (xsTop (gR s 6)) (sR (sR (sR s 4 ((gR s 4)).dropLast) 5 ((gR s 5)).dropLast) 6 ((gR s 6)).dropLast)).bind fun q1 =>
  if (nI ((gR q1.2 4)).length) = 0 then
    some q1.2
  else
    (m111 (xsTop (gR q1.2 4)) (xsTop (gR q1.2 5)) q1.1 q1.2).bind fun q3 =>
    if q3.1 = 0 then
      m108_96  q1.1 (xsTop (gR q1.2 4)) (xsTop (gR q1.2 5)) q3.2
    else
      if q3.1 = q1.1 then
        m108_96  q1.1 (xsTop (gR q1.2 4)) (xsTop (gR q1.2 5)) q3.2
      else
        (m14 6 (xsAt (gP q3.2 (gZ q3.2 5) 1) (xsTop (gR s 4))) q3.2).bind fun q7 =>
        some q7
def m100_69 (K35 : Int32 → xSt → Option (xSt)) : Nat → Int32 → Int32 → xSt → Option (xSt)
  | 0, _, _, _ => none
  | n + 1, x2, x3, s =>
    if x3 ≤ 0 then
      K35 (x2 + 1) s
    else
      (m107 x2 s).bind fun q7 =>
      if q7.1 = true then
        (m13  q7.2).bind fun q9 =>
        if q9.1 = true then
          K35 (x2 + 1) q9.2
        else
          (m108  q9.2).bind fun q11 =>
          m100_69 K35 n x2 (x3 + (-1)) q11
      else
        K35 (x2 + 1) q7.2
def m100_35  : Nat → Int32 → xSt → Option (xSt)
  | 0, _, _ => none
  | n + 1, x2, s =>
    if (nI ((gP s (gZ s 5) 0)).length) ≤ x2 then
      some s
    else
      (m13  s).bind fun q3 =>
      if q3.1 = true then
        some q3.2
      else
        (m102 x2 q3.2).bind fun q5 =>
        m100_69 (m100_35 n) 1000000 x2 (nI ((gR q5 4)).length) q5
def m100 (z1 : Bool) (s : xSt) : Option (xSt) :=
  (m101  (sR (sR (sR (sZ s 5 z1) 4 (xsCut (gR s 4) 0)) 5 (xsCut (gR s 5) 0)) 6 (xsCut (gR s 6) 0))).bind fun q1 =>
  m100_35  1000000 0 q1
def m134_53   (s : xSt) : Option (Int32 × xSt) :=
  (m25_r78  (sR s 0 (xsCut (gR s 0) 0))).bind fun q6 =>
  some ((gI q6 2), q6)
def m134_39   (s : xSt) : Option (Int32 × xSt) :=
  (m13  s).bind fun q4 =>
  if q4.1 = true then
    m134_53  q4.2
  else
    (m135  q4.2).bind fun q7 =>
    m134_53  q7
def m134  (s : xSt) : Option (Int32 × xSt) :=
  (m76 (gZ s 1) (sI (sI s 2 0) 3 (-1))).bind fun q1 =>
  (m13  q1).bind fun q2 =>
  if q2.1 = true then
    m134_39  q2.2
  else
    (m100 (gZ q2.2 1) q2.2).bind fun q8 =>
    m134_39  q8
def m27  (s : xSt) : Option (Bool × xSt) :=
  if (gI s 15) < 32 then
    some (false, s)
  else
    some (true, s)
def m26_54  : Nat → Int32 → Int32 → xSt → Option (Bool × xSt)
  | 0, _, _, _ => none
  | n + 1, x1, x3, s =>
    if x3 ≤ x1 then
      some (true, (sI s 15 ((gI s 15) + 1)))
    else
      m26_54  n x1 (x3 + (-1)) (sR s 15 (xsSet (xsSet (gR s 15) x3 (xsAt (gR s 15) (x3 - 1))) (x3 - 1) (xsAt (gR s 15) x3)))
def m26 (a1 : Int32) (a2 : Int32) (s : xSt) : Option (Bool × xSt) :=
  (m27  s).bind fun q1 =>
  if q1.1 = true then
    some (false, q1.2)
  else
    if a1 < 0 then
      some (false, q1.2)
    else
      if (nI ((gR q1.2 15)).length) < a1 then
        some (false, q1.2)
      else
        if (nI ((gR q1.2 15)).length) < 64 then
          m26_54  1000000 a1 ((nI ((xsPush 64 (gR q1.2 15) a2)).length) - 1) (sR q1.2 15 (xsPush 64 (gR q1.2 15) a2))
        else
          some (false, q1.2)
def m137 (a1 : Int32) (a2 : Int32) (s : xSt) : Option (Bool × xSt) :=
  (m26 a1 a2 s).bind fun q1 =>
  some (q1.1, q1.2)
def m30 (a1 : Int32) (a2 : Int32) (s : xSt) : Option (Bool × xSt) :=
  if a1 < 0 then
    some (false, s)
  else
    if (nI ((gR s 15)).length) < a1 then
      some (false, s)
    else
      if ((nI ((gR s 15)).length) - a1) < a2 then
        some (false, s)
      else
        some (true, s)
def m29 (a1 : Int32) (a2 : Int32) (s : xSt) : Option (Bool × xSt) :=
  (m27  s).bind fun q1 =>
  if q1.1 = true then
    some (false, q1.2)
  else
    (m30 a1 1 q1.2).bind fun q3 =>
    if q3.1 = true then
      some (true, (sI (sR q3.2 15 (xsSet (gR q3.2 15) a1 a2)) 15 ((gI q3.2 15) + 1)))
    else
      some (false, q3.2)
def m138 (a1 : Int32) (a2 : Int32) (s : xSt) : Option (Bool × xSt) :=
  (m29 a1 a2 s).bind fun q1 =>
  some (q1.1, q1.2)
def m31_36  : Nat → Int32 → Int32 → Int32 → xSt → Option (Bool × xSt)
  | 0, _, _, _, _ => none
  | n + 1, x2, x3, x4, s =>
    if x3 ≤ x4 then
      some (true, (sI (sR s 15 (xsCut (gR s 15) x3)) 15 ((gI s 15) + 1)))
    else
      m31_36  n x2 x3 (x4 + 1) (sR s 15 (xsSet (gR s 15) x4 (xsAt (gR s 15) (x4 + x2))))
def m31 (a1 : Int32) (a2 : Int32) (s : xSt) : Option (Bool × xSt) :=
  (m27  s).bind fun q1 =>
  if q1.1 = true then
    some (false, q1.2)
  else
    if a2 < 1 then
      some (false, q1.2)
    else
      (m30 a1 a2 q1.2).bind fun q4 =>
      if q4.1 = true then
        m31_36  1000000 a2 ((nI ((gR q4.2 15)).length) - a2) a1 q4.2
      else
        some (false, q4.2)
def m139 (a1 : Int32) (a2 : Int32) (s : xSt) : Option (Bool × xSt) :=
  (m31 a1 a2 s).bind fun q1 =>
  some (q1.1, q1.2)
def m32_25  : Nat → Int32 → Int32 → Int32 → xSt → Option (Bool × xSt)
  | 0, _, _, _, _ => none
  | n + 1, x1, x2, x3, s =>
    if (x2 / 2) ≤ x3 then
      some (true, (sI s 15 ((gI s 15) + 1)))
    else
      m32_25  n x1 x2 (x3 + 1) (sR s 15 (xsSet (xsSet (gR s 15) (x1 + x3) (xsAt (gR s 15) (((x1 + x2) - 1) - x3))) (((x1 + x2) - 1) - x3) (xsAt (gR s 15) (x1 + x3))))
def m32 (a1 : Int32) (a2 : Int32) (s : xSt) : Option (Bool × xSt) :=
  (m27  s).bind fun q1 =>
  if q1.1 = true then
    some (false, q1.2)
  else
    if a2 < 2 then
      some (false, q1.2)
    else
      (m30 a1 a2 q1.2).bind fun q4 =>
      if q4.1 = true then
        m32_25  1000000 a1 a2 0 q4.2
      else
        some (false, q4.2)
def m140 (a1 : Int32) (a2 : Int32) (s : xSt) : Option (Bool × xSt) :=
  (m32 a1 a2 s).bind fun q1 =>
  some (q1.1, q1.2)
def m141  (s : xSt) : Option (xSt) :=
  (m25_r78  s).bind fun q1 =>
  some q1
def m118_r81_9  : Nat → Int32 → Int32 → xSt → Option (Int32 × xSt)
  | 0, _, _, _ => none
  | n + 1, x2, x3, s =>
    if x3 < 0 then
      some (x2, s)
    else
      m118_r81_9  n ((nI ((xsPush 2065 (gR s 12) (xsAt (gR s 15) x3))).length) - 1) (x3 + (-1)) (sR (sR s 12 (xsPush 2065 (gR s 12) (xsAt (gR s 15) x3))) 13 (xsPush 2065 (gR s 13) x2))
def m118_r81  (s : xSt) : Option (Int32 × xSt) :=
  m118_r81_9  1000000 0 ((nI ((gR s 15)).length) - 1) s
def m115_r81_85   (s : xSt) : Option (Bool × xSt) :=
  if 6000 < (gI s 14) then
    some (false, s)
  else
    some (true, s)
def m115_r81_43  : Nat → Int32 → xSt → Option (Bool × xSt)
  | 0, _, _ => none
  | n + 1, x3, s =>
    if 1000000 ≤ x3 then
      m115_r81_85  s
    else
      (m119  s).bind fun q5 =>
      if q5.1 = true then
        if (gI q5.2 13) = (-1) then
          (m121  q5.2).bind fun q8 =>
          m115_r81_43  n (x3 + 1) q8
        else
          (m120 (gI q5.2 13) q5.2).bind fun q9 =>
          m115_r81_43  n (x3 + 1) q9
      else
        m115_r81_85  q5.2
def m115_r81 (z1 : Bool) (s : xSt) : Option (Bool × xSt) :=
  (m116  (sZ s 6 z1)).bind fun q1 =>
  (m118_r81  q1).bind fun q2 =>
  m115_r81_43  1000000 0 (sI (sR q2.2 11 (xsPush 6001 (gR q2.2 11) q2.1)) 13 ((xsAt (gP q2.2 (gZ q2.2 6) 6) ((nI ((gP q2.2 (gZ q2.2 6) 6)).length) - 1)) + 1))
def m143  (s : xSt) : Option (xSt) :=
  if ((gR s 15)).length ≤ 64 then
    (m25_r78  (sR s 14 (gR s 15))).bind fun q2 =>
    some q2
  else none
def m142  (s : xSt) : Option (Int32 × xSt) :=
  if (gZ s 2) = true then
    (m115_r81 (gZ s 0) s).bind fun q2 =>
    if q2.1 = true then
      (m143  q2.2).bind fun q4 =>
      (m136  q4).bind fun q5 =>
      some ((nI ((gR q5 16)).length), (sI q5 1 ((gI q5 1) + 1)))
    else
      some ((-7), q2.2)
  else
    (m143  s).bind fun q6 =>
    some ((-1), q6)
def m144 (a1 : Int32) (s : xSt) : Option (Int32 × xSt) :=
  if a1 = 0 then
    some ((nI ((gR s 0)).length), s)
  else if a1 = 1 then
    some ((gI s 2), s)
  else if a1 = 2 then
    some ((gI s 3), s)
  else if a1 = 3 then
    if (gZ s 2) = true then
      some ((nI ((gP s (gZ s 0) 6)).length), s)
    else
      some (0, s)
  else if a1 = 4 then
    some ((nI ((gR s 14)).length), s)
  else if a1 = 5 then
    some ((nI ((gR s 15)).length), s)
  else if a1 = 6 then
    some ((gI s 15), s)
  else if a1 = 7 then
    if (gZ s 2) = true then
      some ((nI ((gR s 16)).length), s)
    else
      some ((-1), s)
  else if a1 = 8 then
    if (gZ s 2) = true then
      some ((gI s 0), s)
    else
      some ((-1), s)
  else if a1 = 9 then
    some ((gI s 1), s)
  else if a1 = 10 then
    if ((gR s 16)).length < 2 ^ 30 then
      some ((((gR s 16)).foldl (fun x y => x + y) 0), s)
    else none
  else 
  some ((-1), s)
def m203_35  : Nat → Int64 → Int32 → xSt → Option (Bool × xSt)
  | 0, _, _, _ => none
  | n + 1, x1, x4, s =>
    if x4 < 0 then
      some (true, s)
    else
      (xsPut (gR s 0) (gI s 1) (Int8.toInt32 (Int32.toInt8 (Int8.toInt32 (Int32.toInt8 (Int64.toInt32 (x1 >>> ((Int32.toInt64 (8 * x4)) &&& 63)))))))).bind fun u5 =>
      m203_35  n x1 (x4 + (-1)) (sI (sR s 0 u5) 1 ((gI s 1) + 1))
def m203 (l1 : Int64) (a2 : Int32) (s : xSt) : Option (Bool × xSt) :=
  if a2 < 1 then
    some (false, (sI s 0 0))
  else
    if 8 < a2 then
      some (false, (sI s 0 0))
    else
      if ((gI s 1) + a2) ≤ 8192 then
        m203_35  1000000 l1 (a2 - 1) (sI s 0 0)
      else
        some (false, (sI s 0 0))
def m205_15  : Nat → Int32 → xSt → Option (xSt)
  | 0, _, _ => none
  | n + 1, x1, s =>
    if (gI s 7) ≤ x1 then
      some (sI s 9 0)
    else
      (xsGet (gR s 45) x1).bind fun v2 =>
      (xsPut (gR s 46) x1 v2).bind fun u3 =>
      m205_15  n (x1 + 1) (sR s 46 u3)
def m205  (s : xSt) : Option (xSt) :=
  m205_15  1000000 0 (sI (sI s 0 0) 8 (gI s 7))
def m152 (a0 : Int32) (s : xSt) : Option (Bool × xSt) :=
  if a0 < 97 then
    some (false, s)
  else
    if 122 < a0 then
      some (false, s)
    else
      some (true, s)
def m153 (a0 : Int32) (s : xSt) : Option (Bool × xSt) :=
  if a0 < 48 then
    some (false, s)
  else
    if 57 < a0 then
      some (false, s)
    else
      some (true, s)
def m151 (a1 : Int32) (s : xSt) : Option (Bool × xSt) :=
  if (gI s 20) ≤ a1 then
    some (false, s)
  else
    (xsGet (gR s 1) a1).bind fun v2 =>
    (m152 v2 s).bind fun q3 =>
    if q3.1 = true then
      some (true, q3.2)
    else
      (xsGet (gR q3.2 1) a1).bind fun v5 =>
      (m153 v5 q3.2).bind fun q6 =>
      if q6.1 = true then
        some (true, q6.2)
      else
        (xsGet (gR q6.2 1) a1).bind fun v8 =>
        if v8 = 45 then
          some (true, q6.2)
        else
          some (false, q6.2)
def m154 (a1 : Int32) (a2 : Int32) (s : xSt) : Option (xSt) :=
  if (gI s 21) = 0 then
    some (sI (sI s 21 a1) 22 a2)
  else
    some s
def m155_64 (K35 : Bool → Int32 → xSt → Option (xSt)) (x2 : Int32) (y0 : Bool) (s : xSt) : Option (xSt) :=
  (xsGet (gR s 1) x2).bind fun v9 =>
  K35 y0 (x2 + 1) (sJ s 0 ((32 * (gJ s 0)) + (Int32.toInt64 ((v9 - 97) + 1))))
def m155_63 (K35 : Bool → Int32 → xSt → Option (xSt)) (x2 : Int32) (s : xSt) : Option (xSt) :=
  m155_64 K35 x2 false s
def m155_35  : Nat → Bool → Int32 → xSt → Option (xSt)
  | 0, _, _, _ => none
  | n + 1, x1, x2, s =>
    if (gI s 23) ≤ x2 then
      if x1 = true then
        some s
      else
        (m154 1 (gI s 25) s).bind fun q4 =>
        some q4
    else
      if x1 = true then
        (xsGet (gR s 1) x2).bind fun v6 =>
        (m152 v6 s).bind fun q7 =>
        if q7.1 = true then
          m155_64 (m155_35 n) x2 true q7.2
        else
          m155_63 (m155_35 n) x2 q7.2
      else
        m155_63 (m155_35 n) x2 s
def m155_29  (y0 : Bool) (s : xSt) : Option (xSt) :=
  m155_35  1000000 y0 (gI s 25) s
def m155  (s : xSt) : Option (xSt) :=
  if 12 < ((gI s 23) - (gI s 25)) then
    m155_29  false (sJ (sI s 24 2) 0 0)
  else
    m155_29  true (sJ (sI s 24 2) 0 0)
def m156_155  (x3 : Int64) (s : xSt) : Option (xSt) :=
  (m154 1 (gI s 25) s).bind fun q8 =>
  some (sI q8 26 (Int64.toInt32 x3))
def m156_134  (x2 : Bool) (y0 : Int64) (s : xSt) : Option (xSt) :=
  if x2 = true then
    if (lg_cmp y0 (-2147483648)) < 0 then
      m156_155  y0 s
    else
      if (lg_cmp y0 2147483647) ≤ 0 then
        some (sI s 26 (Int64.toInt32 y0))
      else
        m156_155  y0 s
  else
    m156_155  y0 s
def m156_83 (K52 : Int32 → Bool → Int64 → Int32 → xSt → Option (xSt)) (x1 : Int32) (x3 : Int64) (x5 : Int32) (y0 : Bool) (s : xSt) : Option (xSt) :=
  if (lg_cmp x3 99999999999) ≤ 0 then
    (xsGet (gR s 1) x5).bind fun v15 =>
    K52 x1 y0 ((10 * x3) + (Int32.toInt64 (v15 - 48))) (x5 + 1) s
  else
    K52 x1 y0 x3 (x5 + 1) s
def m156_82 (K52 : Int32 → Bool → Int64 → Int32 → xSt → Option (xSt)) (x1 : Int32) (x3 : Int64) (x5 : Int32) (s : xSt) : Option (xSt) :=
  m156_83 K52 x1 x3 x5 false s
def m156_52  : Nat → Int32 → Bool → Int64 → Int32 → xSt → Option (xSt)
  | 0, _, _, _, _, _ => none
  | n + 1, x1, x2, x3, x5, s =>
    if (gI s 23) ≤ x5 then
      if x1 ≤ (gI s 25) then
        m156_134  x2 x3 s
      else
        m156_134  x2 (-x3) s
    else
      if x2 = true then
        (xsGet (gR s 1) x5).bind fun v11 =>
        (m153 v11 s).bind fun q12 =>
        if q12.1 = true then
          m156_83 (m156_52 n) x1 x3 x5 true q12.2
        else
          m156_82 (m156_52 n) x1 x3 x5 q12.2
      else
        m156_82 (m156_52 n) x1 x3 x5 s
def m156_46  (x1 : Int32) (y0 : Bool) (s : xSt) : Option (xSt) :=
  m156_52  1000000 x1 y0 0 x1 s
def m156_32  (y0 : Int32) (s : xSt) : Option (xSt) :=
  if (gI s 23) ≤ y0 then
    m156_46  y0 false s
  else
    m156_46  y0 true s
def m156  (s : xSt) : Option (xSt) :=
  (xsGet (gR s 1) (gI s 25)).bind fun v1 =>
  if v1 = 45 then
    m156_32  ((gI s 25) + 1) (sI s 24 3)
  else
    m156_32  (gI s 25) (sI s 24 3)
def m150_105   (s : xSt) : Option (xSt) :=
  (xsGet (gR s 1) (gI s 23)).bind fun v5 =>
  if v5 = 40 then
    some (sI (sI s 24 0) 23 ((gI s 23) + 1))
  else
    some (sI (sI s 24 1) 23 ((gI s 23) + 1))
def m150_139  : Nat → xSt → Option (xSt)
  | 0, _ => none
  | n + 1, s =>
    (m151 (gI s 23) s).bind fun q9 =>
    if q9.1 = true then
      m150_139  n (sI q9.2 23 ((gI q9.2 23) + 1))
    else
      if (gI q9.2 23) = (gI q9.2 25) then
        (m154 1 (gI q9.2 25) q9.2).bind fun q12 =>
        some q12
      else
        (xsGet (gR q9.2 1) (gI q9.2 25)).bind fun v13 =>
        (m152 v13 q9.2).bind fun q14 =>
        if q14.1 = true then
          (m155  q14.2).bind fun q16 =>
          some q16
        else
          (m156  q14.2).bind fun q17 =>
          some q17
def m150_52   (s : xSt) : Option (xSt) :=
  if (gI s 23) = (gI s 20) then
    some (sI (sI s 25 (gI s 23)) 24 4)
  else
    (xsGet (gR s 1) (gI s 23)).bind fun v3 =>
    if v3 = 40 then
      m150_105  (sI s 25 (gI s 23))
    else
      (xsGet (gR s 1) (gI s 23)).bind fun v7 =>
      if v7 = 41 then
        m150_105  (sI s 25 (gI s 23))
      else
        m150_139  1000000 (sI s 25 (gI s 23))
def m150_0  : Nat → xSt → Option (xSt)
  | 0, _ => none
  | n + 1, s =>
    if (gI s 20) ≤ (gI s 23) then
      m150_52  s
    else
      (xsGet (gR s 1) (gI s 23)).bind fun v18 =>
      if v18 = 32 then
        m150_0  n (sI s 23 ((gI s 23) + 1))
      else
        (xsGet (gR s 1) (gI s 23)).bind fun v20 =>
        if v20 = 10 then
          m150_0  n (sI s 23 ((gI s 23) + 1))
        else
          m150_52  s
def m150  (s : xSt) : Option (xSt) :=
  m150_0  1000000 s
def m158_44   (s : xSt) : Option (Bool × xSt) :=
  if (gI s 21) = 0 then
    some (true, s)
  else
    some (false, s)
def m158_24  (x1 : Bool) (s : xSt) : Option (Bool × xSt) :=
  if (gI s 21) = 0 then
    if x1 = true then
      m158_44  s
    else
      (m154 2 (gI s 25) s).bind fun q7 =>
      m158_44  q7
  else
    m158_44  s
def m158 (b1 : Bool) (s : xSt) : Option (Bool × xSt) :=
  if (gI s 21) = 0 then
    if (gI s 24) = 4 then
      (m154 3 (gI s 20) s).bind fun q3 =>
      m158_24  b1 q3
    else
      m158_24  b1 s
  else
    m158_24  b1 s
def m159_30  : Nat → Nat → Bool → Int32 → xSt → Option (Bool × xSt)
  | 0, _, _, _, _ => none
  | n + 1, x1, x2, x3, s =>
    (xtLen x1).bind fun v4 =>
    if v4 ≤ x3 then
      some (x2, s)
    else
      if x2 = true then
        (xsGet (gR s 1) ((gI s 25) + x3)).bind fun v7 =>
        (xtAt x1 x3).bind fun v8 =>
        if v7 = v8 then
          m159_30  n x1 true (x3 + 1) s
        else
          m159_30  n x1 false (x3 + 1) s
      else
        m159_30  n x1 false (x3 + 1) s
def m159 (t1 : Nat) (s : xSt) : Option (Bool × xSt) :=
  if (gI s 24) = 2 then
    (xtLen t1).bind fun v2 =>
    if ((gI s 23) - (gI s 25)) = v2 then
      m159_30  1000000 t1 true 0 s
    else
      some (false, s)
  else
    some (false, s)
def m161  (s : xSt) : Option (Int32 × xSt) :=
  (m159 14 s).bind fun q1 =>
  if q1.1 = true then
    some (0, q1.2)
  else
    (m159 15 q1.2).bind fun q3 =>
    if q3.1 = true then
      some (1, q3.2)
    else
      (m159 16 q3.2).bind fun q5 =>
      if q5.1 = true then
        some (2, q5.2)
      else
        (m159 17 q5.2).bind fun q7 =>
        if q7.1 = true then
          some (3, q7.2)
        else
          some ((-1), q7.2)
def m163  (s : xSt) : Option (Int32 × xSt) :=
  (m159 18 s).bind fun q1 =>
  if q1.1 = true then
    some (3, q1.2)
  else
    (m159 19 q1.2).bind fun q3 =>
    if q3.1 = true then
      some (4, q3.2)
    else
      (m159 20 q3.2).bind fun q5 =>
      if q5.1 = true then
        some (5, q5.2)
      else
        (m159 21 q5.2).bind fun q7 =>
        if q7.1 = true then
          some (6, q7.2)
        else
          (m159 22 q7.2).bind fun q9 =>
          if q9.1 = true then
            some (7, q9.2)
          else
            (m159 23 q9.2).bind fun q11 =>
            if q11.1 = true then
              some (8, q11.2)
            else
              (m159 24 q11.2).bind fun q13 =>
              if q13.1 = true then
                some (9, q13.2)
              else
                some ((-1), q13.2)
def m162  (s : xSt) : Option (Int32 × xSt) :=
  (m163  s).bind fun q1 =>
  if q1.1 < 0 then
    (m159 25 q1.2).bind fun q3 =>
    if q3.1 = true then
      some (10, q3.2)
    else
      (m159 26 q3.2).bind fun q5 =>
      if q5.1 = true then
        some (11, q5.2)
      else
        (m159 27 q5.2).bind fun q7 =>
        if q7.1 = true then
          some (12, q7.2)
        else
          (m159 28 q7.2).bind fun q9 =>
          if q9.1 = true then
            some (13, q9.2)
          else
            (m159 29 q9.2).bind fun q11 =>
            if q11.1 = true then
              some (14, q11.2)
            else
              (m159 30 q11.2).bind fun q13 =>
              if q13.1 = true then
                some (15, q13.2)
              else
                (m159 16 q13.2).bind fun q15 =>
                if q15.1 = true then
                  some (16, q15.2)
                else
                  (m159 17 q15.2).bind fun q17 =>
                  if q17.1 = true then
                    some (17, q17.2)
                  else
                    some ((-1), q17.2)
  else
    (m163  q1.2).bind fun q19 =>
    some (q19.1, q19.2)
def m164  (s : xSt) : Option (Int32 × xSt) :=
  (m159 31 s).bind fun q1 =>
  if q1.1 = true then
    some (18, q1.2)
  else
    (m159 32 q1.2).bind fun q3 =>
    if q3.1 = true then
      some (19, q3.2)
    else
      (m159 25 q3.2).bind fun q5 =>
      if q5.1 = true then
        some (20, q5.2)
      else
        (m159 26 q5.2).bind fun q7 =>
        if q7.1 = true then
          some (21, q7.2)
        else
          (m159 27 q7.2).bind fun q9 =>
          if q9.1 = true then
            some (22, q9.2)
          else
            (m159 33 q9.2).bind fun q11 =>
            if q11.1 = true then
              some (23, q11.2)
            else
              some ((-1), q11.2)
def m160  (s : xSt) : Option (Bool × xSt) :=
  if (gI s 24) = 2 then
    (m161  s).bind fun q2 =>
    if 0 ≤ q2.1 then
      some (false, q2.2)
    else
      (m162  q2.2).bind fun q4 =>
      if 0 ≤ q4.1 then
        some (false, q4.2)
      else
        (m164  q4.2).bind fun q6 =>
        if 0 ≤ q6.1 then
          some (false, q6.2)
        else
          (m159 12 q6.2).bind fun q8 =>
          if q8.1 = true then
            some (false, q8.2)
          else
            (m159 13 q8.2).bind fun q10 =>
            if q10.1 = true then
              some (false, q10.2)
            else
              (m159 34 q10.2).bind fun q12 =>
              if q12.1 = true then
                some (false, q12.2)
              else
                some (true, q12.2)
  else
    some (false, s)
def m165_227  (y0 : Bool) (s : xSt) : Option (xSt) :=
  (m158 y0 s).bind fun q24 =>
  some q24.2
def m165_191  (x1 : Int32) (y0 : Int32) (y1 : Int32) (s : xSt) : Option (xSt) :=
  (xsPut (gR s 7) y1 y0).bind fun u18 =>
  (xsGet (gR s 4) x1).bind fun v19 =>
  (xsPut (gR s 4) x1 (v19 + 1)).bind fun u20 =>
  if (gI s 21) = 0 then
    (m150  (sR (sR s 7 u18) 4 u20)).bind fun q22 =>
    if (gI q22 24) = 1 then
      m165_227  true q22
    else
      m165_227  false q22
  else
    some (sR (sR s 7 u18) 4 u20)
def m165_154  (x1 : Int32) (y0 : Bool) (s : xSt) : Option (xSt) :=
  (m158 y0 s).bind fun q14 =>
  (xsGet (gR q14.2 4) x1).bind fun v15 =>
  if (gI q14.2 21) ≤ 0 then
    (m161  q14.2).bind fun q17 =>
    m165_191  x1 q17.1 ((8 * x1) + (v15 &&& 7)) q17.2
  else
    m165_191  x1 0 ((8 * x1) + (v15 &&& 7)) q14.2
def m165_149  (x1 : Int32) (s : xSt) : Option (xSt) :=
  m165_154  x1 true s
def m165_98  (x1 : Int32) (y0 : Bool) (s : xSt) : Option (xSt) :=
  (m158 y0 s).bind fun q8 =>
  if (gI q8.2 21) ≤ 0 then
    (xsGet (gR q8.2 4) x1).bind fun v10 =>
    (xlPut (gL q8.2 1) ((8 * x1) + v10) (gJ q8.2 0)).bind fun u11 =>
    (m150  (sL q8.2 1 u11)).bind fun q12 =>
    if 0 < (gI q12 21) then
      m165_149  x1 q12
    else
      (m161  q12).bind fun q25 =>
      if q25.1 < 0 then
        m165_154  x1 false q25.2
      else
        m165_149  x1 q25.2
  else
    some q8.2
def m165_93  (x1 : Int32) (s : xSt) : Option (xSt) :=
  m165_98  x1 true s
def m165_97  (x1 : Int32) (s : xSt) : Option (xSt) :=
  m165_98  x1 false s
def m165_29  : Nat → Int32 → Bool → Int32 → xSt → Option (xSt)
  | 0, _, _, _, _ => none
  | n + 1, x1, x2, x3, s =>
    (xsGet (gR s 4) x1).bind fun v5 =>
    if v5 ≤ x3 then
      if 0 < (gI s 21) then
        m165_93  x1 s
      else
        (m160  s).bind fun q27 =>
        if q27.1 = true then
          if x2 = true then
            m165_97  x1 q27.2
          else
            m165_93  x1 q27.2
        else
          m165_97  x1 q27.2
    else
      if x2 = true then
        m165_29  n x1 true (x3 + 1) s
      else
        (xlGet (gL s 1) ((8 * x1) + x3)).bind fun v31 =>
        if (lg_cmp v31 (gJ s 0)) = 0 then
          m165_29  n x1 true (x3 + 1) s
        else
          m165_29  n x1 false (x3 + 1) s
def m165_17  (x1 : Int32) (y0 : Bool) (s : xSt) : Option (xSt) :=
  (m158 y0 s).bind fun q3 =>
  (m150  q3.2).bind fun q4 =>
  m165_29  1000000 x1 false 0 q4
def m165 (a1 : Int32) (s : xSt) : Option (xSt) :=
  (xsGet (gR s 4) a1).bind fun v1 =>
  if 8 ≤ v1 then
    m165_17  a1 false s
  else
    m165_17  a1 true s
def m167 (a1 : Int32) (a2 : Int32) (s : xSt) : Option (xSt) :=
  (xsPut (gR s 15) (gI s 29) (Int8.toInt32 (Int32.toInt8 (Int8.toInt32 (Int32.toInt8 a1))))).bind fun u1 =>
  (xsPut (gR s 16) (gI s 29) a2).bind fun u2 =>
  some (sI (sR (sR s 15 u1) 16 u2) 29 ((gI s 29) + 1))
def m170 (a1 : Int32) (a2 : Int32) (s : xSt) : Option (Int32 × xSt) :=
  (xsPut (gR s 8) (gI s 28) a1).bind fun u1 =>
  (xsPut (gR s 9) (gI s 28) a2).bind fun u2 =>
  (xsPut (gR s 10) (gI s 28) (gI s 25)).bind fun u3 =>
  (xsPut (gR s 11) (gI s 28) (-1)).bind fun u4 =>
  (xsPut (gR s 12) (gI s 28) (-1)).bind fun u5 =>
  (xlPut (gL s 2) (gI s 28) 0).bind fun u6 =>
  (xlPut (gL s 3) (gI s 28) 0).bind fun u7 =>
  (xsPut (gR s 14) (gI s 28) 0).bind fun u8 =>
  (xsPut (gR s 13) (gI s 28) (gI s 30)).bind fun u9 =>
  some ((gI s 28), (sR (sR (sL (sL (sR (sR (sR (sR (sR (sI s 28 ((gI s 28) + 1)) 8 u1) 9 u2) 10 u3) 11 u4) 12 u5) 2 u6) 3 u7) 14 u8) 13 u9))
def m171 (a1 : Int32) (s : xSt) : Option (xSt) :=
  (xlPut (gL s 2) a1 (gJ s 0)).bind fun u1 =>
  (xsPut (gR s 11) a1 (gI s 25)).bind fun u2 =>
  some (sR (sL s 2 u1) 11 u2)
def m172_18  (x1 : Int32) (x2 : Int32) (y0 : Int32) (s : xSt) : Option (xSt) :=
  (m167 3 x1 s).bind fun q3 =>
  if x2 = 10 ∨ x2 = 20 then
    (m167 y0 x1 q3).bind fun q5 =>
    (m167 y0 x1 q5).bind fun q6 =>
    (m167 1 x1 q6).bind fun q7 =>
    some q7
  else if x2 = 11 ∨ x2 = 21 then
    (m167 8 x1 q3).bind fun q9 =>
    (m167 y0 x1 q9).bind fun q10 =>
    (m167 5 x1 q10).bind fun q11 =>
    some q11
  else if x2 = 12 ∨ x2 = 22 then
    (m167 3 x1 q3).bind fun q13 =>
    (m167 8 x1 q13).bind fun q14 =>
    (m167 y0 x1 q14).bind fun q15 =>
    (m167 6 x1 q15).bind fun q16 =>
    (m167 5 x1 q16).bind fun q17 =>
    (m167 4 x1 q17).bind fun q18 =>
    (m167 y0 x1 q18).bind fun q19 =>
    (m167 1 x1 q19).bind fun q20 =>
    some q20
  else if x2 = 14 ∨ x2 = 15 ∨ x2 = 23 then
    (m167 7 x1 q3).bind fun q22 =>
    (m167 9 x1 q22).bind fun q23 =>
    some q23
  else if x2 = 16 ∨ x2 = 17 then
    (m167 2 x1 q3).bind fun q25 =>
    some q25
  else if x2 = 18 then
    (m167 8 x1 q3).bind fun q27 =>
    (m167 2 x1 q27).bind fun q28 =>
    (m167 5 x1 q28).bind fun q29 =>
    (m167 1 x1 q29).bind fun q30 =>
    some q30
  else if x2 = 19 then
    (m167 1 x1 q3).bind fun q32 =>
    some q32
  else 
  (m167 1 x1 q3).bind fun q33 =>
  (m167 1 x1 q33).bind fun q34 =>
  some q34
def m172 (a1 : Int32) (s : xSt) : Option (xSt) :=
  (xsGet (gR s 8) a1).bind fun v1 =>
  if 18 ≤ v1 then
    m172_18  a1 v1 2 s
  else
    m172_18  a1 v1 1 s
def m169_150  (x3 : Int32) (x4 : Int32) (y0 : Bool) (s : xSt) : Option (xSt) :=
  (m158 y0 s).bind fun q23 =>
  if q23.1 = true then
    (xsPut (gR q23.2 8) x3 x4).bind fun u25 =>
    (m172 x3 (sR q23.2 8 u25)).bind fun q26 =>
    some q26
  else
    some q23.2
def m169_137  (x3 : Int32) (y0 : Int32) (s : xSt) : Option (xSt) :=
  if y0 < 0 then
    m169_150  x3 y0 false s
  else
    m169_150  x3 y0 true s
def m169_94  (x1 : Bool) (x2 : Int32) (y0 : Bool) (s : xSt) : Option (xSt) :=
  (m158 y0 s).bind fun q15 =>
  if q15.1 = true then
    (m170 0 x2 q15.2).bind fun q17 =>
    (m150  q17.2).bind fun q18 =>
    if (gI q18 21) ≤ 0 then
      if x1 = true then
        (m162  q18).bind fun q21 =>
        m169_137  q17.1 q21.1 q21.2
      else
        (m164  q18).bind fun q27 =>
        m169_137  q17.1 q27.1 q27.2
    else
      m169_137  q17.1 (-1) q18
  else
    some q15.2
def m169_81  (x1 : Bool) (x2 : Int32) (s : xSt) : Option (xSt) :=
  if (gI s 24) = 0 then
    m169_94  x1 x2 true s
  else
    m169_94  x1 x2 false s
def m169_58  (x1 : Bool) (x2 : Int32) (s : xSt) : Option (xSt) :=
  if x1 = true then
    (m159 34 s).bind fun q11 =>
    if q11.1 = true then
      (m170 2 x2 q11.2).bind fun q13 =>
      some q13.2
    else
      m169_81  x1 x2 q11.2
  else
    m169_81  x1 x2 s
def m169_32  (x1 : Bool) (x2 : Int32) (s : xSt) : Option (xSt) :=
  if x1 = true then
    (m160  s).bind fun q6 =>
    if q6.1 = true then
      (m170 1 x2 q6.2).bind fun q8 =>
      (m171 q8.1 q8.2).bind fun q9 =>
      some q9
    else
      m169_58  x1 x2 q6.2
  else
    m169_58  x1 x2 s
def m169 (b1 : Bool) (a2 : Int32) (s : xSt) : Option (xSt) :=
  if (gI s 24) = 3 then
    if b1 = true then
      (m170 0 a2 s).bind fun q3 =>
      (xsPut (gR q3.2 14) q3.1 (gI q3.2 26)).bind fun u4 =>
      some (sR q3.2 14 u4)
    else
      m169_32  b1 a2 s
  else
    m169_32  b1 a2 s
def m173_15  (x1 : Int32) (y0 : Bool) (s : xSt) : Option (xSt) :=
  (m158 y0 s).bind fun q2 =>
  if q2.1 = true then
    (m167 10 x1 q2.2).bind fun q4 =>
    (m167 1 x1 q4).bind fun q5 =>
    some q5
  else
    some q2.2
def m173 (a1 : Int32) (s : xSt) : Option (xSt) :=
  if 24 ≤ (gI s 30) then
    m173_15  a1 false s
  else
    m173_15  a1 true s
def m174_15  (y0 : Bool) (s : xSt) : Option (xSt) :=
  (m158 y0 s).bind fun q2 =>
  if q2.1 = true then
    some (sI q2.2 30 ((gI q2.2 30) + 1))
  else
    some q2.2
def m174  (s : xSt) : Option (xSt) :=
  if 24 ≤ (gI s 30) then
    m174_15  false s
  else
    m174_15  true s
def m168_139  (x2 : Int32) (y0 : Bool) (s : xSt) : Option (xSt) :=
  (m169 y0 x2 s).bind fun q12 =>
  some q12
def m168_160  (y0 : Bool) (s : xSt) : Option (xSt) :=
  (m158 y0 s).bind fun q15 =>
  some q15.2
def m168_180  (y0 : Bool) (s : xSt) : Option (xSt) :=
  (m158 y0 s).bind fun q18 =>
  some q18.2
def m168_225  (x2 : Int32) (s : xSt) : Option (xSt) :=
  (m173 x2 s).bind fun q26 =>
  some q26
def m168_267  (x2 : Int32) (y0 : Bool) (s : xSt) : Option (xSt) :=
  (m158 y0 s).bind fun q35 =>
  if q35.1 = true then
    (xlPut (gL q35.2 3) x2 (gJ q35.2 0)).bind fun u37 =>
    (xsPut (gR q35.2 12) x2 (gI q35.2 25)).bind fun u38 =>
    (m174  (sR (sL q35.2 3 u37) 12 u38)).bind fun q39 =>
    some q39
  else
    some q35.2
def m168_266  (x2 : Int32) (s : xSt) : Option (xSt) :=
  m168_267  x2 false s
def m168  (s : xSt) : Option (xSt) :=
  (xsGet (gR s 15) ((gI s 29) - 1)).bind fun v1 =>
  (xsGet (gR s 16) ((gI s 29) - 1)).bind fun v2 =>
  if v1 = 8 then
    (xsGet (gR s 8) v2).bind fun v4 =>
    if v4 = 12 then
      some (sI (sI s 29 ((gI s 29) - 1)) 30 ((gI s 30) - 2))
    else
      (xsGet (gR s 8) v2).bind fun v6 =>
      if v6 = 22 then
        some (sI (sI s 29 ((gI s 29) - 1)) 30 ((gI s 30) - 2))
      else
        some (sI (sI s 29 ((gI s 29) - 1)) 30 ((gI s 30) - 1))
  else
    (m150  (sI s 29 ((gI s 29) - 1))).bind fun q8 =>
    if (gI q8 21) ≤ 0 then
      if v1 = 1 ∨ v1 = 2 then
        if v1 = 1 then
          m168_139  v2 true q8
        else
          m168_139  v2 false q8
      else if v1 = 3 then
        if (gI q8 24) = 1 then
          m168_160  true q8
        else
          m168_160  false q8
      else if v1 = 4 then
        if (gI q8 24) = 0 then
          m168_180  true q8
        else
          m168_180  false q8
      else if v1 = 5 then
        (m160  q8).bind fun q20 =>
        (m158 q20.1 q20.2).bind fun q21 =>
        if q21.1 = true then
          (m171 v2 q21.2).bind fun q23 =>
          (xsGet (gR q23 8) v2).bind fun v24 =>
          if v24 = 11 then
            m168_225  v2 q23
          else
            (xsGet (gR q23 8) v2).bind fun v27 =>
            if v27 = 21 then
              m168_225  v2 q23
            else
              (m174  q23).bind fun q29 =>
              some q29
        else
          some q21.2
      else if v1 = 6 then
        (m160  q8).bind fun q31 =>
        if q31.1 = true then
          (xlGet (gL q31.2 2) v2).bind fun v33 =>
          if (lg_cmp (gJ q31.2 0) v33) = 0 then
            m168_266  v2 q31.2
          else
            m168_267  v2 true q31.2
        else
          m168_266  v2 q31.2
      else if v1 = 7 then
        if (gI q8 24) = 1 then
          some (sI q8 29 ((gI q8 29) - 1))
        else
          (m167 7 v2 q8).bind fun q42 =>
          (m169 true v2 q42).bind fun q43 =>
          some q43
      else 
      (m160  q8).bind fun q44 =>
      (m158 q44.1 q44.2).bind fun q45 =>
      if q45.1 = true then
        (m171 v2 q45.2).bind fun q47 =>
        some q47
      else
        some q45.2
    else
      some q8
def m166_19  : Nat → xSt → Option (xSt)
  | 0, _ => none
  | n + 1, s =>
    if (gI s 29) ≤ 0 then
      some s
    else
      if (gI s 21) = 0 then
        (xsGet (gR s 15) ((gI s 29) - 1)).bind fun v5 =>
        if v5 = 10 then
          m166_19  n (sI (sI s 29 ((gI s 29) - 1)) 30 ((gI s 30) + 1))
        else
          (m168  s).bind fun q7 =>
          m166_19  n q7
      else
        some s
def m166_15  (y0 : Int32) (s : xSt) : Option (xSt) :=
  (m167 y0 (-1) s).bind fun q2 =>
  m166_19  1000000 q2
def m166 (b1 : Bool) (s : xSt) : Option (xSt) :=
  if b1 = true then
    m166_15  1 (sI s 29 0)
  else
    m166_15  2 (sI s 29 0)
def m157_292 (K240 : Int32 → Bool → xSt → Option (xSt)) (x1 : Int32) (y0 : Bool) (s : xSt) : Option (xSt) :=
  if y0 = true then
    if (gI s 21) = 0 then
      (m165 x1 s).bind fun q32 =>
      K240 x1 y0 q32
    else
      K240 x1 y0 s
  else
    K240 x1 y0 s
def m157_276 (K240 : Int32 → Bool → xSt → Option (xSt)) (x1 : Int32) (y0 : Bool) (s : xSt) : Option (xSt) :=
  (m158 y0 s).bind fun q28 =>
  if (gI q28.2 24) = 0 then
    m157_292 K240 x1 true q28.2
  else
    m157_292 K240 x1 false q28.2
def m157_271 (K240 : Int32 → Bool → xSt → Option (xSt)) (x1 : Int32) (s : xSt) : Option (xSt) :=
  m157_276 K240 x1 true s
def m157_455  (y0 : Bool) (s : xSt) : Option (xSt) :=
  (m158 y0 s).bind fun q50 =>
  some (sI q50.2 27 ((gI q50.2 27) + 1))
def m157_430   (s : xSt) : Option (xSt) :=
  if (gI s 21) = 0 then
    (m150  s).bind fun q48 =>
    if (gI q48 24) = 1 then
      m157_455  true q48
    else
      m157_455  false q48
  else
    some (sI s 27 ((gI s 27) + 1))
def m157_427  (y0 : Bool) (s : xSt) : Option (xSt) :=
  (m166 y0 s).bind fun q46 =>
  m157_430  q46
def m157_385  (x1 : Int32) (s : xSt) : Option (xSt) :=
  (xsPut (gR s 5) x1 (gI s 28)).bind fun u41 =>
  (xsGet (gR s 4) x1).bind fun v42 =>
  if (gI s 21) = 0 then
    (xsGet (gR s 2) x1).bind fun v44 =>
    if v44 = 0 then
      m157_427  true (sI (sR s 5 u41) 30 v42)
    else
      m157_427  false (sI (sR s 5 u41) 30 v42)
  else
    m157_430  (sI (sR s 5 u41) 30 v42)
def m157_384  (x1 : Int32) (y0 : Int32) (y1 : Int32) (s : xSt) : Option (xSt) :=
  (xsPut (gR s 3) y1 y0).bind fun u40 =>
  m157_385  x1 (sR s 3 u40)
def m157_360  (x1 : Int32) (y0 : Bool) (s : xSt) : Option (xSt) :=
  (m158 y0 s).bind fun q37 =>
  if (gI q37.2 21) ≤ 0 then
    (m161  q37.2).bind fun q39 =>
    m157_384  x1 q39.1 x1 q39.2
  else
    m157_384  x1 0 x1 q37.2
def m157_355  (x1 : Int32) (s : xSt) : Option (xSt) :=
  m157_360  x1 true s
def m157_359  (x1 : Int32) (s : xSt) : Option (xSt) :=
  m157_360  x1 false s
def m157_312  (x1 : Int32) (s : xSt) : Option (xSt) :=
  if (gI s 21) = 0 then
    (m150  s).bind fun q35 =>
    if 0 < (gI q35 21) then
      m157_355  x1 q35
    else
      (m161  q35).bind fun q51 =>
      if q51.1 < 0 then
        m157_359  x1 q51.2
      else
        (xsGet (gR q51.2 2) x1).bind fun v53 =>
        if v53 = 0 then
          m157_355  x1 q51.2
        else
          (m161  q51.2).bind fun q55 =>
          if 2 ≤ q55.1 then
            m157_359  x1 q55.2
          else
            m157_355  x1 q55.2
  else
    m157_385  x1 s
def m157_240  : Nat → Int32 → Bool → xSt → Option (xSt)
  | 0, _, _, _ => none
  | n + 1, x1, x3, s =>
    if x3 = true then
      if (gI s 21) = 0 then
        (m150  s).bind fun q26 =>
        if (gI q26 24) = 0 then
          m157_271 (m157_240 n) x1 q26
        else
          if (gI q26 24) = 1 then
            m157_271 (m157_240 n) x1 q26
          else
            m157_276 (m157_240 n) x1 false q26
      else
        m157_312  x1 s
    else
      m157_312  x1 s
def m157_238  (x1 : Int32) (s : xSt) : Option (xSt) :=
  m157_240  1000000 x1 true s
def m157_234  (x1 : Int32) (y0 : Bool) (s : xSt) : Option (xSt) :=
  (m158 y0 s).bind fun q23 =>
  m157_238  x1 q23.2
def m157_179  (x1 : Int32) (y0 : Bool) (s : xSt) : Option (xSt) :=
  (m158 y0 s).bind fun q16 =>
  (xlPut (gL q16.2 0) x1 (gJ q16.2 0)).bind fun u17 =>
  (xsPut (gR q16.2 6) x1 (gI q16.2 25)).bind fun u18 =>
  (xsPut (gR q16.2 4) x1 0).bind fun u19 =>
  if (gI q16.2 21) = 0 then
    (m150  (sR (sR (sL q16.2 0 u17) 6 u18) 4 u19)).bind fun q21 =>
    if (gI q21 24) = 0 then
      m157_234  x1 true q21
    else
      m157_234  x1 false q21
  else
    m157_238  x1 (sR (sR (sL q16.2 0 u17) 6 u18) 4 u19)
def m157_174  (x1 : Int32) (s : xSt) : Option (xSt) :=
  m157_179  x1 true s
def m157_178  (x1 : Int32) (s : xSt) : Option (xSt) :=
  m157_179  x1 false s
def m157_120  : Nat → Int32 → Bool → Int32 → xSt → Option (xSt)
  | 0, _, _, _, _ => none
  | n + 1, x1, x2, x3, s =>
    if x1 ≤ x3 then
      if 0 < (gI s 21) then
        m157_174  x1 s
      else
        (m160  s).bind fun q57 =>
        if q57.1 = true then
          if x2 = true then
            m157_178  x1 q57.2
          else
            m157_174  x1 q57.2
        else
          m157_178  x1 q57.2
    else
      if x2 = true then
        m157_120  n x1 true (x3 + 1) s
      else
        (xlGet (gL s 0) x3).bind fun v61 =>
        if (lg_cmp v61 (gJ s 0)) = 0 then
          m157_120  n x1 true (x3 + 1) s
        else
          m157_120  n x1 false (x3 + 1) s
def m157_116  (x1 : Int32) (s : xSt) : Option (xSt) :=
  m157_120  1000000 x1 false 0 s
def m157_104  (x1 : Int32) (y0 : Bool) (y1 : Int32) (s : xSt) : Option (xSt) :=
  (xsPut (gR s 2) y1 (b01 y0)).bind fun u11 =>
  if (gI s 21) = 0 then
    (m150  (sR s 2 u11)).bind fun q13 =>
    m157_116  x1 q13
  else
    m157_116  x1 (sR s 2 u11)
def m157_103  (x1 : Int32) (y0 : Int32) (s : xSt) : Option (xSt) :=
  m157_104  x1 false y0 s
def m157_74  (x1 : Int32) (y0 : Bool) (s : xSt) : Option (xSt) :=
  (m158 y0 s).bind fun q7 =>
  if (gI q7.2 21) = 0 then
    (m159 13 q7.2).bind fun q9 =>
    if q9.1 = true then
      m157_104  x1 true x1 q9.2
    else
      m157_103  x1 x1 q9.2
  else
    m157_103  x1 x1 q7.2
def m157_69  (x1 : Int32) (s : xSt) : Option (xSt) :=
  m157_74  x1 true s
def m157_22  (y0 : Bool) (s : xSt) : Option (xSt) :=
  (m158 y0 s).bind fun q3 =>
  if (gI q3.2 21) ≤ 0 then
    (m150  q3.2).bind fun q5 =>
    if 0 < (gI q5 21) then
      m157_69  (gI q3.2 27) q5
    else
      (m159 12 q5).bind fun q63 =>
      if q63.1 = true then
        m157_69  (gI q3.2 27) q63.2
      else
        (m159 13 q63.2).bind fun q65 =>
        if q65.1 = true then
          m157_69  (gI q3.2 27) q65.2
        else
          m157_74  (gI q3.2 27) false q65.2
  else
    some q3.2
def m157_21   (s : xSt) : Option (xSt) :=
  m157_22  false s
def m157  (s : xSt) : Option (xSt) :=
  if (gI s 24) = 0 then
    if 64 ≤ (gI s 27) then
      m157_21  s
    else
      m157_22  true s
  else
    m157_21  s
def m149_67   (s : xSt) : Option (Int32 × xSt) :=
  if (gI s 21) ≤ 0 then
    some ((gI s 21), s)
  else
    some ((gI s 21), (sI (sI s 27 0) 28 0))
def m149_34  : Nat → xSt → Option (Int32 × xSt)
  | 0, _ => none
  | n + 1, s =>
    if (gI s 21) = 0 then
      if (gI s 24) = 4 then
        m149_67  s
      else
        (m157  s).bind fun q5 =>
        if (gI q5 21) = 0 then
          (m150  q5).bind fun q7 =>
          m149_34  n q7
        else
          m149_34  n q5
    else
      m149_67  s
def m149  (s : xSt) : Option (Int32 × xSt) :=
  (m150  (sI (sI (sI (sI (sI (sI s 19 0) 21 0) 22 (-1)) 27 0) 28 0) 23 0)).bind fun q1 =>
  m149_34  1000000 q1
def m179_36  : Nat → Int32 → xSt → Option (Int32 × xSt)
  | 0, _, _ => none
  | n + 1, x1, s =>
    if x1 < 0 then
      some (x1, s)
    else
      (xsGet (gR s 27) x1).bind fun v3 =>
      (xsGet (gR s 23) x1).bind fun v4 =>
      if v3 = v4 then
        (xsGet (gR s 24) x1).bind fun v6 =>
        m179_36  n v6 s
      else
        some (x1, s)
def m179_35  (y0 : Int32) (s : xSt) : Option (Int32 × xSt) :=
  m179_36  1000000 y0 s
def m179_25   (s : xSt) : Option (Int32 × xSt) :=
  m179_35  (-1) s
def m179  (s : xSt) : Option (Int32 × xSt) :=
  if (gI s 32) = 0 then
    m179_25  s
  else
    (xsGet (gR s 21) ((gI s 32) - 1)).bind fun v7 =>
    if (gI s 33) = v7 then
      m179_25  s
    else
      m179_35  ((gI s 33) - 1) s
def m178  (s : xSt) : Option (Bool × xSt) :=
  if (gI s 32) = 0 then
    some (true, s)
  else
    (xsGet (gR s 21) ((gI s 32) - 1)).bind fun v2 =>
    if (gI s 33) ≤ v2 then
      some (false, s)
    else
      (m179  s).bind fun q4 =>
      if 0 ≤ q4.1 then
        some (false, q4.2)
      else
        some (true, q4.2)
def m188_44  (x1 : Int32) (y0 : Int32) (s : xSt) : Option (Bool × xSt) :=
  (xlGet (gL s 4) y0).bind fun v6 =>
  if (lg_cmp v6 427310) = 0 then
    (xsGet (gR s 19) x1).bind fun v8 =>
    if v8 = 1 then
      (xsGet (gR s 20) (8 * x1)).bind fun v10 =>
      if v10 = 3 then
        (xsGet (gR s 18) x1).bind fun v12 =>
        if v12 = 3 then
          some (true, s)
        else
          some (false, s)
      else
        some (false, s)
    else
      some (false, s)
  else
    some (false, s)
def m188_27  (x1 : Int32) (y0 : Int32) (s : xSt) : Option (Bool × xSt) :=
  (xsGet (gR s 17) y0).bind fun v3 =>
  if v3 = 0 then
    if 0 ≤ x1 then
      m188_44  x1 x1 s
    else
      m188_44  x1 0 s
  else
    some (false, s)
def m188  (s : xSt) : Option (Bool × xSt) :=
  if (gI s 32) ≤ 0 then
    some (false, s)
  else
    if 0 ≤ ((gI s 32) - 1) then
      m188_27  ((gI s 32) - 1) ((gI s 32) - 1) s
    else
      m188_27  ((gI s 32) - 1) 0 s
def m184 (a0 : Int32) (s : xSt) : Option (Bool × xSt) :=
  if a0 = 12 then
    some (true, s)
  else
    if a0 = 22 then
      some (true, s)
    else
      some (false, s)
def m192_30  (x2 : Int32) (x3 : Int32) (s : xSt) : Option (Bool × xSt) :=
  (m184 x3 s).bind fun q4 =>
  if q4.1 = true then
    if x2 = 2 then
      some (true, q4.2)
    else
      some (false, q4.2)
  else
    some (false, q4.2)
def m192_25  (x2 : Int32) (x3 : Int32) (s : xSt) : Option (Bool × xSt) :=
  if x2 = 1 then
    some (true, s)
  else
    m192_30  x2 x3 s
def m192 (a1 : Int32) (a2 : Int32) (s : xSt) : Option (Bool × xSt) :=
  (xsGet (gR s 22) a1).bind fun v1 =>
  if v1 = 11 then
    m192_25  a2 v1 s
  else
    if v1 = 21 then
      m192_25  a2 v1 s
    else
      if v1 = 18 then
        m192_25  a2 v1 s
      else
        m192_30  a2 v1 s
def m191_69 (K14 : Int32 → Int32 → xSt → Option (Int32 × xSt)) (x3 : Int32) (y0 : Int32) (y1 : Int32) (s : xSt) : Option (Int32 × xSt) :=
  (xsGet (gR s 24) x3).bind fun v13 =>
  K14 (y1 + y0) v13 s
def m191_14  : Nat → Int32 → Int32 → xSt → Option (Int32 × xSt)
  | 0, _, _, _ => none
  | n + 1, x2, x3, s =>
    (xsGet (gR s 24) x3).bind fun v3 =>
    if v3 < 0 then
      some (x2, s)
    else
      (xsGet (gR s 24) x3).bind fun v5 =>
      (xsGet (gR s 25) x3).bind fun v6 =>
      (m192 v5 v6 s).bind fun q7 =>
      if q7.1 = true then
        (xsGet (gR q7.2 24) x3).bind fun v9 =>
        (xsGet (gR q7.2 22) v9).bind fun v10 =>
        (m184 v10 q7.2).bind fun q11 =>
        if q11.1 = true then
          m191_69 (m191_14 n) x3 2 x2 q11.2
        else
          m191_69 (m191_14 n) x3 1 x2 q11.2
      else
        m191_69 (m191_14 n) x3 0 x2 q7.2
def m191 (a1 : Int32) (s : xSt) : Option (Int32 × xSt) :=
  (xsGet (gR s 26) a1).bind fun v1 =>
  (xsGet (gR s 19) v1).bind fun v2 =>
  m191_14  1000000 v2 a1 s
def m193_88  : Nat → Int64 → Int32 → Int32 → xSt → Option (Int32 × xSt)
  | 0, _, _, _, _ => none
  | n + 1, x2, x4, x5, s =>
    (xsGet (gR s 19) x4).bind fun v4 =>
    if v4 ≤ x5 then
      some ((-1), s)
    else
      (xlGet (gL s 5) ((8 * x4) + x5)).bind fun v6 =>
      if (lg_cmp v6 x2) = 0 then
        some (((-2) - x5), s)
      else
        m193_88  n x2 x4 (x5 + 1) s
def m193_65 (K3 : Int32 → Int64 → Int32 → xSt → Option (Int32 × xSt)) (x1 : Int32) (x2 : Int64) (x4 : Int32) (s : xSt) : Option (Int32 × xSt) :=
  (xsGet (gR s 24) x4).bind fun v16 =>
  K3 x1 x2 v16 s
def m193_3  : Nat → Int32 → Int64 → Int32 → xSt → Option (Int32 × xSt)
  | 0, _, _, _, _ => none
  | n + 1, x1, x2, x4, s =>
    (xsGet (gR s 24) x4).bind fun v1 =>
    if v1 < 0 then
      (xsGet (gR s 26) x1).bind fun v3 =>
      m193_88  1000000 x2 v3 0 s
    else
      (xsGet (gR s 24) x4).bind fun v8 =>
      (xsGet (gR s 25) x4).bind fun v9 =>
      (m192 v8 v9 s).bind fun q10 =>
      if q10.1 = true then
        (xlGet (gL q10.2 6) v8).bind fun v12 =>
        if (lg_cmp v12 x2) = 0 then
          some (v8, q10.2)
        else
          (xlGet (gL q10.2 7) v8).bind fun v14 =>
          if (lg_cmp v14 x2) = 0 then
            some (v8, q10.2)
          else
            m193_65 (m193_3 n) x1 x2 x4 q10.2
      else
        m193_65 (m193_3 n) x1 x2 x4 q10.2
def m193 (a1 : Int32) (l2 : Int64) (s : xSt) : Option (Int32 × xSt) :=
  m193_3  1000000 a1 l2 a1 s
def m189 (a1 : Int32) (a2 : Int32) (s : xSt) : Option (Int32 × xSt) :=
  if (gI s 34) = 0 then
    some (0, (sI (sI s 34 a1) 35 a2))
  else
    some (0, s)
def m185 (a0 : Int32) (s : xSt) : Option (Int32 × xSt) :=
  if a0 = 14 then
    some ((-1), s)
  else
    if a0 = 15 then
      some ((-1), s)
    else
      if a0 = 23 then
        some ((-1), s)
      else
        if 3 ≤ a0 then
          if a0 = 10 then
            some (3, s)
          else
            if a0 = 12 then
              some (3, s)
            else
              if a0 = 20 then
                some (3, s)
              else
                if a0 = 22 then
                  some (3, s)
                else
                  if a0 = 16 then
                    some (1, s)
                  else
                    if a0 = 17 then
                      some (1, s)
                    else
                      if a0 = 19 then
                        some (1, s)
                      else
                        some (2, s)
        else
          some (0, s)
def m194_105  (x2 : Int32) (y0 : Bool) (s : xSt) : Option (Int32 × xSt) :=
  if y0 = true then
    some (x2, s)
  else
    some ((-1), s)
def m194_104  (x2 : Int32) (s : xSt) : Option (Int32 × xSt) :=
  m194_105  x2 false s
def m194_90  (x1 : Int32) (x2 : Int32) (y0 : Int32) (s : xSt) : Option (Int32 × xSt) :=
  (xsGet (gR s 19) y0).bind fun v10 =>
  (xsGet (gR s 23) x1).bind fun v11 =>
  if v10 = v11 then
    m194_105  x2 true s
  else
    m194_104  x2 s
def m194_74  (x1 : Int32) (x2 : Int32) (y0 : Bool) (y1 : Int32) (s : xSt) : Option (Int32 × xSt) :=
  if y1 = (b01 y0) then
    if 0 ≤ x2 then
      m194_90  x1 x2 x2 s
    else
      m194_90  x1 x2 0 s
  else
    m194_104  x2 s
def m194_57  (x1 : Int32) (x2 : Int32) (y0 : Int32) (s : xSt) : Option (Int32 × xSt) :=
  (xsGet (gR s 17) y0).bind fun v5 =>
  (xsGet (gR s 22) x1).bind fun v6 =>
  if v6 = 23 then
    m194_74  x1 x2 true v5 s
  else
    m194_74  x1 x2 false v5 s
def m194_4  : Nat → Int32 → Int32 → Int32 → xSt → Option (Int32 × xSt)
  | 0, _, _, _, _ => none
  | n + 1, x1, x2, x3, s =>
    if (gI s 32) ≤ x3 then
      if x2 < 0 then
        m194_104  x2 s
      else
        if 0 ≤ x2 then
          m194_57  x1 x2 x2 s
        else
          m194_57  x1 x2 0 s
    else
      (xlGet (gL s 4) x3).bind fun v13 =>
      (xlGet (gL s 6) x1).bind fun v14 =>
      if (lg_cmp v13 v14) = 0 then
        m194_4  n x1 x3 (x3 + 1) s
      else
        m194_4  n x1 x2 (x3 + 1) s
def m194 (a1 : Int32) (s : xSt) : Option (Int32 × xSt) :=
  m194_4  1000000 a1 (-1) 0 s
def m190_56  (x1 : Int32) (y0 : Int32) (s : xSt) : Option (xSt) :=
  (xsPut (gR s 29) x1 (-1)).bind fun u6 =>
  (xsPut (gR s 30) x1 (-1)).bind fun u7 =>
  (xsGet (gR s 22) x1).bind fun v8 =>
  if v8 = 1 then
    (xlGet (gL s 6) x1).bind fun v10 =>
    (m193 x1 v10 (sR (sR (sI s 36 y0) 29 u6) 30 u7)).bind fun q11 =>
    (xsPut (gR q11.2 29) x1 q11.1).bind fun u12 =>
    (xsGet u12 x1).bind fun v13 =>
    if v13 = (-1) then
      (m189 5 x1 (sR q11.2 29 u12)).bind fun q15 =>
      some q15.2
    else
      some (sR q11.2 29 u12)
  else
    (xsGet (gR s 22) x1).bind fun v16 =>
    (m185 v16 (sR (sR (sI s 36 y0) 29 u6) 30 u7)).bind fun q17 =>
    if 0 ≤ q17.1 then
      some q17.2
    else
      (m194 x1 q17.2).bind fun q19 =>
      (xsPut (gR q19.2 30) x1 q19.1).bind fun u20 =>
      (xsGet u20 x1).bind fun v21 =>
      if 0 ≤ v21 then
        some (sR q19.2 30 u20)
      else
        (m189 5 x1 (sR q19.2 30 u20)).bind fun q23 =>
        some q23.2
def m190_37  (x1 : Int32) (y0 : Int32) (y1 : Int32) (s : xSt) : Option (xSt) :=
  if (y1 + y0) ≤ (gI s 36) then
    m190_56  x1 (gI s 36) s
  else
    m190_56  x1 (y1 + y0) s
def m190 (a1 : Int32) (s : xSt) : Option (xSt) :=
  (m191 a1 s).bind fun q1 =>
  (xsGet (gR q1.2 22) a1).bind fun v2 =>
  (m184 v2 q1.2).bind fun q3 =>
  if q3.1 = true then
    m190_37  a1 2 q1.1 q3.2
  else
    (m192 a1 1 q3.2).bind fun q24 =>
    if q24.1 = true then
      m190_37  a1 1 q1.1 q24.2
    else
      m190_37  a1 0 q1.1 q24.2
def m195 (a1 : Int32) (a2 : Int32) (a3 : Int32) (s : xSt) : Option (Bool × xSt) :=
  if a2 = a3 then
    some (true, s)
  else
    (xsGet (gR s 24) a2).bind fun v2 =>
    if a1 ≤ v2 then
      some (false, s)
    else
      some (true, s)
def m199_4  : Nat → Int32 → Int32 → Int32 → xSt → Option (Int32 × xSt)
  | 0, _, _, _, _ => none
  | n + 1, x1, x2, x3, s =>
    (xsGet (gR s 24) x3).bind fun v1 =>
    if v1 = x1 then
      (xsGet (gR s 25) x3).bind fun v3 =>
      if v3 = x2 then
        some (x3, s)
      else
        m199_4  n x1 x2 (x3 + 1) s
    else
      m199_4  n x1 x2 (x3 + 1) s
def m199 (a1 : Int32) (a2 : Int32) (s : xSt) : Option (Int32 × xSt) :=
  m199_4  1000000 a1 a2 (a1 + 1) s
def m198 (a1 : Int32) (s : xSt) : Option (Int32 × xSt) :=
  (xsGet (gR s 29) a1).bind fun v1 =>
  if 0 ≤ v1 then
    (xsGet (gR s 22) v1).bind fun v3 =>
    (m184 v3 s).bind fun q4 =>
    if q4.1 = true then
      (xlGet (gL q4.2 6) v1).bind fun v6 =>
      (xlGet (gL q4.2 6) a1).bind fun v7 =>
      if (lg_cmp v6 v7) = 0 then
        some (0, q4.2)
      else
        some (3, q4.2)
    else
      (m199 v1 0 q4.2).bind fun q9 =>
      (xsGet (gR q9.2 28) q9.1).bind fun v10 =>
      (xsGet (gR q9.2 22) v1).bind fun v11 =>
      if v11 = 18 then
        if v10 = 2 then
          some (0, q9.2)
        else
          some (1, q9.2)
      else
        some (v10, q9.2)
  else
    (xsGet (gR s 26) a1).bind fun v14 =>
    (xsGet (gR s 20) (((8 * v14) - 2) - v1)).bind fun v15 =>
    some (v15, s)
def m197_66  (x1 : Int32) (s : xSt) : Option (Int32 × xSt) :=
  (xsGet (gR s 30) x1).bind fun v9 =>
  (xsGet (gR s 18) v9).bind fun v10 =>
  some (v10, s)
def m197_35  (x1 : Int32) (x2 : Int32) (s : xSt) : Option (Int32 × xSt) :=
  if x2 = 2 then
    some (1, s)
  else
    if x2 = 13 then
      some (1, s)
    else
      if x2 = 14 then
        m197_66  x1 s
      else
        if x2 = 15 then
          m197_66  x1 s
        else
          if x2 = 23 then
            m197_66  x1 s
          else
            if x2 = 16 then
              some (2, s)
            else
              if x2 = 17 then
                some (3, s)
              else
                (xsGet (gR s 23) x1).bind fun v15 =>
                (m199 x1 (v15 - 1) s).bind fun q16 =>
                (xsGet (gR q16.2 28) q16.1).bind fun v17 =>
                some (v17, q16.2)
def m197 (a1 : Int32) (s : xSt) : Option (Int32 × xSt) :=
  (xsGet (gR s 22) a1).bind fun v1 =>
  if v1 = 1 then
    (m198 a1 s).bind fun q3 =>
    some (q3.1, q3.2)
  else
    if v1 = 0 then
      some (0, s)
    else
      if v1 < 3 then
        m197_35  a1 v1 s
      else
        if 9 < v1 then
          m197_35  a1 v1 s
        else
          some (0, s)
def m200_171  (y0 : Int32) (y1 : Int32) (s : xSt) : Option (Bool × xSt) :=
  if y1 = y0 then
    some (true, s)
  else
    some (false, s)
def m200_249  (y0 : Bool) (y1 : Int32) (s : xSt) : Option (Bool × xSt) :=
  if y1 = (b01 y0) then
    some (true, s)
  else
    some (false, s)
def m200 (a1 : Int32) (a2 : Int32) (s : xSt) : Option (Bool × xSt) :=
  (xsGet (gR s 24) a1).bind fun v1 =>
  if 0 ≤ v1 then
    (xsGet (gR s 25) a1).bind fun v3 =>
    (xsGet (gR s 22) v1).bind fun v4 =>
    (m185 v4 s).bind fun q5 =>
    if 0 ≤ q5.1 then
      if 9 < v4 then
        if v4 = 11 ∨ v4 = 21 then
          some (true, q5.2)
        else if v4 = 13 then
          if v3 = 0 then
            m200_171  0 a2 q5.2
          else
            m200_171  3 a2 q5.2
        else if v4 = 16 then
          if a2 = 0 then
            some (true, q5.2)
          else
            some (false, q5.2)
        else if v4 = 17 then
          if a2 = 1 then
            some (true, q5.2)
          else
            some (false, q5.2)
        else if v4 = 18 then
          if 0 < v3 then
            some (true, q5.2)
          else
            if a2 ≤ 1 then
              some (false, q5.2)
            else
              some (true, q5.2)
        else if v4 = 19 then
          if 2 ≤ a2 then
            some (false, q5.2)
          else
            some (true, q5.2)
        else 
        if v3 = 0 then
          (m184 v4 q5.2).bind fun q22 =>
          if q22.1 = true then
            m200_249  true a2 q22.2
          else
            m200_249  false a2 q22.2
        else
          if v3 = 1 then
            some (true, q5.2)
          else
            (m199 v1 1 q5.2).bind fun q26 =>
            (xsGet (gR q26.2 28) q26.1).bind fun v27 =>
            if a2 = v27 then
              some (true, q26.2)
            else
              some (false, q26.2)
      else
        if a2 = 0 then
          some (true, q5.2)
        else
          some (false, q5.2)
    else
      (xsGet (gR q5.2 30) v1).bind fun v30 =>
      (xsGet (gR q5.2 20) ((8 * v30) + v3)).bind fun v31 =>
      if a2 = v31 then
        some (true, q5.2)
      else
        some (false, q5.2)
  else
    (xsGet (gR s 26) a1).bind fun v33 =>
    (xsGet (gR s 18) v33).bind fun v34 =>
    if a2 = v34 then
      some (true, s)
    else
      some (false, s)
def m196 (a1 : Int32) (s : xSt) : Option (xSt) :=
  if (gI s 34) = 0 then
    (m197 a1 s).bind fun q2 =>
    (xsPut (gR q2.2 28) a1 q2.1).bind fun u3 =>
    (xsGet u3 a1).bind fun v4 =>
    (m200 a1 v4 (sR q2.2 28 u3)).bind fun q5 =>
    if q5.1 = true then
      some q5.2
    else
      (m189 6 a1 q5.2).bind fun q7 =>
      some q7.2
  else
    some s
def m187_114   (s : xSt) : Option (Int32 × xSt) :=
  if (gI s 34) = 0 then
    some ((gI s 34), (sZ s 1 true))
  else
    some ((gI s 34), (sZ s 1 false))
def m187_67 (K45 : Int32 → xSt → Option (Int32 × xSt)) : Nat → Int32 → Int32 → xSt → Option (Int32 × xSt)
  | 0, _, _, _ => none
  | n + 1, x1, x2, s =>
    if x2 < 0 then
      K45 (x1 + 1) s
    else
      if (gI s 34) = 0 then
        (m195 x2 (x1 + 1) (gI s 33) s).bind fun q11 =>
        if q11.1 = true then
          (m196 x2 q11.2).bind fun q13 =>
          (xsGet (gR q13 24) x2).bind fun v14 =>
          m187_67 K45 n x1 v14 q13
        else
          K45 (x1 + 1) q11.2
      else
        K45 (x1 + 1) s
def m187_45  : Nat → Int32 → xSt → Option (Int32 × xSt)
  | 0, _, _ => none
  | n + 1, x1, s =>
    if (gI s 33) ≤ x1 then
      m187_114  s
    else
      if (gI s 34) = 0 then
        (m190 x1 s).bind fun q8 =>
        m187_67 (m187_45 n) 1000000 x1 x1 q8
      else
        m187_114  s
def m187_43   (s : xSt) : Option (Int32 × xSt) :=
  m187_45  1000000 0 s
def m187  (s : xSt) : Option (Int32 × xSt) :=
  (m178  (sI s 31 0)).bind fun q1 =>
  if q1.1 = true then
    (m188  (sI (sI (sI q1.2 34 0) 35 (-1)) 36 0)).bind fun q3 =>
    if q3.1 = true then
      m187_43  q3.2
    else
      (m189 4 (-1) q3.2).bind fun q15 =>
      m187_43  q15.2
  else
    some ((-1), q1.2)
def m177_56  : Nat → Bool → Int64 → Int32 → Bool → Int32 → xSt → Option (Int32 × xSt)
  | 0, _, _, _, _, _, _ => none
  | n + 1, x1, x2, x4, x5, x6, s =>
    if (gI s 32) ≤ x6 then
      if x5 = true then
        (xsPut (gR s 17) (gI s 32) ((b01 x1) &&& 1)).bind fun u6 =>
        (xlPut (gL s 4) (gI s 32) x2).bind fun u7 =>
        (xsPut (gR s 18) (gI s 32) x4).bind fun u8 =>
        (xsPut (gR s 19) (gI s 32) 0).bind fun u9 =>
        (xsPut (gR s 21) (gI s 32) (gI s 33)).bind fun u10 =>
        some ((((gI s 32) + 1) - 1), (sZ (sI (sR (sR (sR (sL (sR s 17 u6) 4 u7) 18 u8) 19 u9) 21 u10) 32 ((gI s 32) + 1)) 1 false))
      else
        some ((-1), s)
    else
      if x5 = true then
        (xlGet (gL s 4) x6).bind fun v12 =>
        if (lg_cmp v12 x2) = 0 then
          m177_56  n x1 x2 x4 false (x6 + 1) s
        else
          m177_56  n x1 x2 x4 true (x6 + 1) s
      else
        m177_56  n x1 x2 x4 false (x6 + 1) s
def m177_51  (x1 : Bool) (x2 : Int64) (x4 : Int32) (y0 : Bool) (s : xSt) : Option (Int32 × xSt) :=
  m177_56  1000000 x1 x2 x4 y0 0 s
def m177_50  (x1 : Bool) (x2 : Int64) (x4 : Int32) (s : xSt) : Option (Int32 × xSt) :=
  m177_51  x1 x2 x4 false s
def m177_43  (x1 : Bool) (x2 : Int64) (x4 : Int32) (y0 : Int32) (y1 : Int32) (s : xSt) : Option (Int32 × xSt) :=
  if y0 ≤ y1 then
    m177_50  x1 x2 x4 s
  else
    m177_51  x1 x2 x4 true s
def m177 (b1 : Bool) (l2 : Int64) (a3 : Int32) (s : xSt) : Option (Int32 × xSt) :=
  (m178  (sI s 31 0)).bind fun q1 =>
  if q1.1 = true then
    if 64 ≤ (gI q1.2 32) then
      m177_50  b1 l2 a3 q1.2
    else
      if (lg_cmp l2 0) ≤ 0 then
        m177_50  b1 l2 a3 q1.2
      else
        if a3 < 0 then
          m177_50  b1 l2 a3 q1.2
        else
          if b1 = true then
            m177_43  b1 l2 a3 2 a3 q1.2
          else
            m177_43  b1 l2 a3 4 a3 q1.2
  else
    m177_50  b1 l2 a3 q1.2
def m207_6  : Nat → Int32 → Int32 → Int32 → xSt → Option (Int32 × xSt)
  | 0, _, _, _, _ => none
  | n + 1, x1, x2, x3, s =>
    if (gI s 28) ≤ x3 then
      some (x2, s)
    else
      (xsGet (gR s 9) x3).bind fun v2 =>
      if v2 < x1 then
        some (x2, s)
      else
        (xsGet (gR s 9) x3).bind fun v4 =>
        if v4 = x1 then
          m207_6  n x1 (x2 + 1) (x3 + 1) s
        else
          m207_6  n x1 (x2 + 0) (x3 + 1) s
def m207 (a1 : Int32) (s : xSt) : Option (Int32 × xSt) :=
  m207_6  1000000 a1 0 (a1 + 1) s
def m183 (a0 : Int32) (s : xSt) : Option (Bool × xSt) :=
  if a0 = 1 then
    some (true, s)
  else
    if a0 = 11 then
      some (true, s)
    else
      if a0 = 12 then
        some (true, s)
      else
        if a0 = 14 then
          some (true, s)
        else
          if a0 = 15 then
            some (true, s)
          else
            if a0 = 18 then
              some (true, s)
            else
              if a0 < 21 then
                some (false, s)
              else
                some (true, s)
def m182_77  (x0 : Int32) (x5 : Int32) (y0 : Bool) (s : xSt) : Option (Bool × xSt) :=
  if y0 = true then
    (m185 x0 s).bind fun q7 =>
    if 0 ≤ q7.1 then
      (m185 x0 q7.2).bind fun q9 =>
      if x5 = q9.1 then
        some (true, q9.2)
      else
        some (false, q9.2)
    else
      if x5 < 0 then
        some (false, q7.2)
      else
        some (true, q7.2)
  else
    some (false, s)
def m182_76  (x0 : Int32) (x5 : Int32) (s : xSt) : Option (Bool × xSt) :=
  m182_77  x0 x5 false s
def m182_72  (x0 : Int32) (x5 : Int32) (s : xSt) : Option (Bool × xSt) :=
  m182_77  x0 x5 true s
def m182_44  (x0 : Int32) (x1 : Int64) (x3 : Int64) (x5 : Int32) (s : xSt) : Option (Bool × xSt) :=
  (m184 x0 s).bind fun q12 =>
  if q12.1 = true then
    if (lg_cmp x3 0) ≤ 0 then
      m182_76  x0 x5 q12.2
    else
      if (lg_cmp x3 x1) = 0 then
        m182_76  x0 x5 q12.2
      else
        m182_72  x0 x5 q12.2
  else
    if (lg_cmp x3 0) = 0 then
      m182_72  x0 x5 q12.2
    else
      m182_76  x0 x5 q12.2
def m182_15  (x0 : Int32) (x1 : Int64) (x3 : Int64) (x5 : Int32) (y0 : Bool) (s : xSt) : Option (Bool × xSt) :=
  if y0 = true then
    (m183 x0 s).bind fun q3 =>
    if q3.1 = true then
      if (lg_cmp x1 0) ≤ 0 then
        m182_76  x0 x5 q3.2
      else
        m182_44  x0 x1 x3 x5 q3.2
    else
      if (lg_cmp x1 0) = 0 then
        m182_44  x0 x1 x3 x5 q3.2
      else
        m182_76  x0 x5 q3.2
  else
    m182_76  x0 x5 s
def m182_14  (x0 : Int32) (x1 : Int64) (x3 : Int64) (x5 : Int32) (s : xSt) : Option (Bool × xSt) :=
  m182_15  x0 x1 x3 x5 false s
def m182 (a0 : Int32) (l1 : Int64) (l2 : Int64) (a3 : Int32) (s : xSt) : Option (Bool × xSt) :=
  if a0 < 0 then
    m182_14  a0 l1 l2 a3 s
  else
    if 23 < a0 then
      m182_14  a0 l1 l2 a3 s
    else
      m182_15  a0 l1 l2 a3 true s
def m186 (a0 : Int32) (a1 : Int32) (s : xSt) : Option (Bool × xSt) :=
  if a0 = 16 then
    some (true, s)
  else
    if a0 = 17 then
      some (true, s)
    else
      if a1 ≤ 0 then
        some (false, s)
      else
        if a0 = 18 then
          some (true, s)
        else
          if a0 < 20 then
            some (false, s)
          else
            if 22 < a0 then
              some (false, s)
            else
              some (true, s)
def m181_216  (x7 : Int32) (x9 : Int32) (x11 : Int32) (y0 : Int32) (y1 : Int32) (s : xSt) : Option (Int32 × xSt) :=
  (xsPut (gR s 25) y1 y0).bind fun u23 =>
  (xsPut (gR s 26) x11 x7).bind fun u24 =>
  (xsPut (gR s 27) x11 0).bind fun u25 =>
  if x9 < 0 then
    some (x11, (sZ (sR (sR (sR s 25 u23) 26 u24) 27 u25) 1 false))
  else
    (xsGet u25 x9).bind fun v27 =>
    (xsPut u25 x9 (v27 + 1)).bind fun u28 =>
    some (x11, (sZ (sR (sR (sR s 25 u23) 26 u24) 27 u28) 1 false))
def m181_130  (x1 : Int32) (x2 : Int64) (x4 : Int64) (x6 : Int32) (x7 : Int32) (x9 : Int32) (y0 : Bool) (y1 : Int32) (s : xSt) : Option (Int32 × xSt) :=
  if y1 = (b01 y0) then
    (xsPut (gR s 22) (gI s 33) x1).bind fun u16 =>
    (xlPut (gL s 6) (gI s 33) x2).bind fun u17 =>
    (xlPut (gL s 7) (gI s 33) x4).bind fun u18 =>
    (xsPut (gR s 23) (gI s 33) x6).bind fun u19 =>
    (xsPut (gR s 24) (gI s 33) x9).bind fun u20 =>
    if 0 ≤ x9 then
      (xsGet (gR s 27) x9).bind fun v22 =>
      m181_216  x7 x9 (gI s 33) v22 (gI s 33) (sR (sR (sL (sL (sR (sI s 33 ((gI s 33) + 1)) 22 u16) 6 u17) 7 u18) 23 u19) 24 u20)
    else
      m181_216  x7 x9 (gI s 33) 0 (gI s 33) (sR (sR (sL (sL (sR (sI s 33 ((gI s 33) + 1)) 22 u16) 6 u17) 7 u18) 23 u19) 24 u20)
  else
    some ((-1), s)
def m181_115  (x1 : Int32) (x2 : Int64) (x4 : Int64) (x6 : Int32) (x7 : Int32) (x9 : Int32) (y0 : Int32) (s : xSt) : Option (Int32 × xSt) :=
  if x1 ≤ 17 then
    m181_130  x1 x2 x4 x6 x7 x9 false y0 s
  else
    m181_130  x1 x2 x4 x6 x7 x9 true y0 s
def m181_83  (x1 : Int32) (x2 : Int64) (x4 : Int64) (x6 : Int32) (x7 : Int32) (x9 : Int32) (s : xSt) : Option (Int32 × xSt) :=
  if 0 ≤ x9 then
    (xsGet (gR s 22) x9).bind fun v11 =>
    (xsGet (gR s 27) x9).bind fun v12 =>
    (m186 v11 v12 s).bind fun q13 =>
    m181_115  x1 x2 x4 x6 x7 x9 (b01 q13.1) q13.2
  else
    (xsGet (gR s 17) x7).bind fun v29 =>
    m181_115  x1 x2 x4 x6 x7 x9 v29 s
def m181_63  (x1 : Int32) (x2 : Int64) (x4 : Int64) (x6 : Int32) (x7 : Int32) (y0 : Bool) (s : xSt) : Option (Int32 × xSt) :=
  (m179  s).bind fun q7 =>
  if y0 = true then
    if 0 ≤ q7.1 then
      m181_83  x1 x2 x4 x6 x7 q7.1 q7.2
    else
      some ((-1), q7.2)
  else
    m181_83  x1 x2 x4 x6 x7 q7.1 q7.2
def m181 (a1 : Int32) (l2 : Int64) (l3 : Int64) (a4 : Int32) (s : xSt) : Option (Int32 × xSt) :=
  if (gI s 32) = 0 then
    some ((-1), (sI s 31 0))
  else
    if (gI s 33) = 4096 then
      some ((-1), (sI s 31 0))
    else
      (m182 a1 l2 l3 a4 (sI s 31 0)).bind fun q3 =>
      if q3.1 = true then
        (xsGet (gR q3.2 21) ((gI q3.2 32) - 1)).bind fun v5 =>
        if (gI q3.2 33) ≤ v5 then
          m181_63  a1 l2 l3 a4 ((gI q3.2 32) - 1) false q3.2
        else
          m181_63  a1 l2 l3 a4 ((gI q3.2 32) - 1) true q3.2
      else
        some ((-1), q3.2)
def m180_66  : Nat → Int64 → Int32 → Int32 → Int32 → xSt → Option (Int32 × xSt)
  | 0, _, _, _, _, _ => none
  | n + 1, x1, x3, x4, x5, s =>
    (xsGet (gR s 19) x4).bind fun v9 =>
    if v9 ≤ x5 then
      (xsGet (gR s 19) x4).bind fun v11 =>
      (xlPut (gL s 5) ((8 * x4) + v11) x1).bind fun u12 =>
      (xsGet (gR s 19) x4).bind fun v13 =>
      (xsPut (gR s 20) ((8 * x4) + v13) x3).bind fun u14 =>
      (xsGet (gR s 19) x4).bind fun v15 =>
      (xsPut (gR s 19) x4 (v15 + 1)).bind fun u16 =>
      (xsGet u16 x4).bind fun v17 =>
      some (v17, (sZ (sR (sR (sL s 5 u12) 20 u14) 19 u16) 1 false))
    else
      (xlGet (gL s 5) ((8 * x4) + x5)).bind fun v18 =>
      if (lg_cmp v18 x1) = 0 then
        some ((-1), s)
      else
        m180_66  n x1 x3 x4 (x5 + 1) s
def m180 (l1 : Int64) (a2 : Int32) (s : xSt) : Option (Int32 × xSt) :=
  if (gI s 32) = 0 then
    some ((-1), (sI s 31 0))
  else
    (xsGet (gR s 19) ((gI s 32) - 1)).bind fun v2 =>
    if v2 = 8 then
      some ((-1), (sI s 31 0))
    else
      (xsGet (gR s 21) ((gI s 32) - 1)).bind fun v4 =>
      if v4 < (gI s 33) then
        some ((-1), (sI s 31 0))
      else
        if (lg_cmp l1 0) ≤ 0 then
          some ((-1), (sI s 31 0))
        else
          if a2 < 0 then
            some ((-1), (sI s 31 0))
          else
            if a2 ≤ 3 then
              m180_66  1000000 l1 a2 ((gI s 32) - 1) 0 (sI s 31 0)
            else
              some ((-1), (sI s 31 0))
def m206_167 (K9 : Int32 → xSt → Option (Int32 × xSt)) : Nat → Int32 → Int32 → Int32 → xSt → Option (Int32 × xSt)
  | 0, _, _, _, _ => none
  | n + 1, x1, x3, x4, s =>
    if x3 ≤ x4 then
      K9 (x1 + 1) s
    else
      (xsGet (gR s 8) x4).bind fun v13 =>
      (xlGet (gL s 2) x4).bind fun v14 =>
      (xlGet (gL s 3) x4).bind fun v15 =>
      (m207 x4 s).bind fun q16 =>
      (m181 v13 v14 v15 q16.1 q16.2).bind fun q17 =>
      m206_167 K9 n x1 x3 (x4 + 1) q17.2
def m206_155 (K9 : Int32 → xSt → Option (Int32 × xSt)) (x1 : Int32) (y0 : Int32) (s : xSt) : Option (Int32 × xSt) :=
  (xsGet (gR s 5) x1).bind fun v11 =>
  m206_167 K9 1000000 x1 y0 v11 s
def m206_66 (K9 : Int32 → xSt → Option (Int32 × xSt)) : Nat → Int32 → Int32 → xSt → Option (Int32 × xSt)
  | 0, _, _, _ => none
  | n + 1, x1, x3, s =>
    (xsGet (gR s 4) x1).bind fun v8 =>
    if v8 ≤ x3 then
      if (gI s 27) ≤ (x1 + 1) then
        m206_155 K9 x1 (gI s 28) s
      else
        (xsGet (gR s 5) (x1 + 1)).bind fun v18 =>
        m206_155 K9 x1 v18 s
    else
      (xlGet (gL s 1) ((8 * x1) + x3)).bind fun v19 =>
      (xsGet (gR s 7) ((8 * x1) + x3)).bind fun v20 =>
      (m180 v19 v20 s).bind fun q21 =>
      m206_66 K9 n x1 (x3 + 1) q21.2
def m206_42 (K9 : Int32 → xSt → Option (Int32 × xSt)) (x1 : Int32) (y0 : Bool) (s : xSt) : Option (Int32 × xSt) :=
  (xlGet (gL s 0) x1).bind fun v5 =>
  (xsGet (gR s 3) x1).bind fun v6 =>
  (m177 y0 v5 v6 s).bind fun q7 =>
  m206_66 K9 1000000 x1 0 q7.2
def m206_9  : Nat → Int32 → xSt → Option (Int32 × xSt)
  | 0, _, _ => none
  | n + 1, x1, s =>
    if (gI s 27) ≤ x1 then
      (m187  s).bind fun q2 =>
      some (q2.1, q2.2)
    else
      (xsGet (gR s 2) x1).bind fun v3 =>
      if v3 = 1 then
        m206_42 (m206_9 n) x1 true s
      else
        m206_42 (m206_9 n) x1 false s
def m206  (s : xSt) : Option (Int32 × xSt) :=
  m206_9  1000000 0 (sI (sI (sZ (sI (sI (sI s 31 0) 32 0) 33 0) 1 false) 34 0) 35 (-1))
def m209_97  : Nat → Int32 → xSt → Option (xSt)
  | 0, _, _ => none
  | n + 1, x1, s =>
    if 64 ≤ x1 then
      some s
    else
      (xsGet (gR s 37) x1).bind fun v3 =>
      (xsPut (gR s 44) x1 v3).bind fun u4 =>
      m209_97  n (x1 + 1) (sR s 44 u4)
def m209_10  : Nat → Int32 → xSt → Option (xSt)
  | 0, _, _ => none
  | n + 1, x1, s =>
    if 4200 ≤ x1 then
      m209_97  1000000 0 s
    else
      (xsGet (gR s 31) x1).bind fun v5 =>
      (xsPut (gR s 38) x1 v5).bind fun u6 =>
      (xsGet (gR s 32) x1).bind fun v7 =>
      (xsPut (gR s 39) x1 v7).bind fun u8 =>
      (xsGet (gR s 33) x1).bind fun v9 =>
      (xsPut (gR s 40) x1 v9).bind fun u10 =>
      (xsGet (gR s 34) x1).bind fun v11 =>
      (xsPut (gR s 41) x1 v11).bind fun u12 =>
      (xsGet (gR s 35) x1).bind fun v13 =>
      (xsPut (gR s 42) x1 v13).bind fun u14 =>
      (xsGet (gR s 36) x1).bind fun v15 =>
      (xsPut (gR s 43) x1 v15).bind fun u16 =>
      m209_10  n (x1 + 1) (sR (sR (sR (sR (sR (sR s 38 u6) 39 u8) 40 u10) 41 u12) 42 u14) 43 u16)
def m209  (s : xSt) : Option (xSt) :=
  m209_10  1000000 0 (sI s 6 (gI s 5))
def m210_268 (K52 : Int32 → xSt → Option (xSt)) (x1 : Int32) (y0 : Int32) (y1 : Int32) (s : xSt) : Option (xSt) :=
  (xsPut (gR s 35) y1 y0).bind fun u22 =>
  K52 (x1 + (-1)) (sR s 35 u22)
def m210_267 (K52 : Int32 → xSt → Option (xSt)) (x1 : Int32) (y0 : Bool) (y1 : Int32) (y2 : Int32) (s : xSt) : Option (xSt) :=
  m210_268 K52 x1 (y1 + (b01 y0)) y2 s
def m210_180 (K52 : Int32 → xSt → Option (xSt)) (x1 : Int32) (s : xSt) : Option (xSt) :=
  (xsGet (gR s 13) x1).bind fun v12 =>
  (xsPut (gR s 35) x1 v12).bind fun u13 =>
  (xsGet (gR s 31) x1).bind fun v14 =>
  if v14 = 1 then
    (xsGet (gR s 29) x1).bind fun v16 =>
    if 0 ≤ v16 then
      (xsGet (gR s 13) v16).bind fun v18 =>
      (xlGet (gL s 2) v16).bind fun v19 =>
      (xlGet (gL s 2) x1).bind fun v20 =>
      if (lg_cmp v19 v20) = 0 then
        m210_267 K52 x1 false v18 x1 (sR s 35 u13)
      else
        m210_267 K52 x1 true v18 x1 (sR s 35 u13)
    else
      m210_268 K52 x1 ((-2) - v16) x1 (sR s 35 u13)
  else
    K52 (x1 + (-1)) (sR s 35 u13)
def m210_119 (K52 : Int32 → xSt → Option (xSt)) : Nat → Int32 → Int32 → xSt → Option (xSt)
  | 0, _, _, _ => none
  | n + 1, x1, x2, s =>
    if (gI s 28) ≤ x2 then
      m210_180 K52 x1 s
    else
      (xsGet (gR s 9) x2).bind fun v23 =>
      if v23 = x1 then
        (xsGet (gR s 33) x1).bind fun v25 =>
        (xsPut (gR s 33) x1 (v25 + 1)).bind fun u26 =>
        (xsGet (gR s 32) x1).bind fun v27 =>
        (xsGet (gR s 32) x2).bind fun v28 =>
        (xsPut (gR s 32) x1 (v27 + v28)).bind fun u29 =>
        (xsGet u29 x2).bind fun v30 =>
        m210_119 K52 n x1 (x2 + v30) (sR (sR s 33 u26) 32 u29)
      else
        m210_180 K52 x1 s
def m210_52  : Nat → Int32 → xSt → Option (xSt)
  | 0, _, _ => none
  | n + 1, x1, s =>
    if x1 < 0 then
      some s
    else
      (xsGet (gR s 8) x1).bind fun v3 =>
      (xsPut (gR s 31) x1 v3).bind fun u4 =>
      (xsGet (gR s 14) x1).bind fun v5 =>
      (xsPut (gR s 34) x1 v5).bind fun u6 =>
      (xsGet (gR s 30) x1).bind fun v7 =>
      (xsPut (gR s 36) x1 v7).bind fun u8 =>
      (xsPut (gR s 33) x1 0).bind fun u9 =>
      (xsPut (gR s 32) x1 1).bind fun u10 =>
      m210_119 (m210_52 n) 1000000 x1 (x1 + 1) (sR (sR (sR (sR (sR s 31 u4) 34 u6) 36 u8) 33 u9) 32 u10)
def m210_13  : Nat → Int32 → xSt → Option (xSt)
  | 0, _, _ => none
  | n + 1, x1, s =>
    if (gI s 5) ≤ x1 then
      m210_52  1000000 ((gI s 28) - 1) s
    else
      (xsGet (gR s 5) x1).bind fun v31 =>
      (xsPut (gR s 37) x1 v31).bind fun u32 =>
      m210_13  n (x1 + 1) (sR s 37 u32)
def m210  (s : xSt) : Option (xSt) :=
  m210_13  1000000 0 (sI s 5 (gI s 27))
def m212 (a1 : Int32) (s : xSt) : Option (Int32 × xSt) :=
  (xsPut (gR s 50) ((gI s 13) + 1) a1).bind fun u1 =>
  some (((gI s 13) + 1), (sR (sI s 13 ((gI s 13) + 1)) 50 u1))
def m217 (a1 : Int32) (a2 : Int32) (s : xSt) : Option (xSt) :=
  (xsPut (gR s 52) (gI s 15) a1).bind fun u1 =>
  (xsPut (gR s 53) (gI s 15) a2).bind fun u2 =>
  (xsPut (gR s 54) (gI s 15) (gI s 14)).bind fun u3 =>
  some (sI (sR (sR (sR s 52 u1) 53 u2) 54 u3) 15 ((gI s 15) + 1))
def m218  (s : xSt) : Option (Int32 × xSt) :=
  (xsGet (gR s 55) ((gI s 16) - 1)).bind fun v1 =>
  some (v1, (sI s 16 ((gI s 16) - 1)))
def m216_26  : Nat → Int32 → Int32 → Int32 → xSt → Option (xSt)
  | 0, _, _, _, _ => none
  | n + 1, x1, x3, x4, s =>
    if x4 < 0 then
      (xsGet (gR s 36) x1).bind fun v4 =>
      (xsGet (gR s 37) v4).bind fun v5 =>
      some (sI (sI s 14 x3) 18 v5)
    else
      (m218  s).bind fun q6 =>
      (xsPut (gR q6.2 51) (x3 + x4) q6.1).bind fun u7 =>
      m216_26  n x1 x3 (x4 + (-1)) (sR q6.2 51 u7)
def m216 (a1 : Int32) (s : xSt) : Option (xSt) :=
  (xsGet (gR s 33) a1).bind fun v1 =>
  (m217 a1 v1 s).bind fun q2 =>
  m216_26  1000000 a1 ((gI q2 14) + 24) (v1 - 1) q2
def m220_7  : Nat → Int32 → Int32 → Int32 → xSt → Option (Int32 × xSt)
  | 0, _, _, _, _ => none
  | n + 1, x2, x3, x4, s =>
    if x2 ≤ x4 then
      some (x3, s)
    else
      (xsGet (gR s 32) x3).bind fun v2 =>
      m220_7  n x2 (x3 + v2) (x4 + 1) s
def m220 (a1 : Int32) (a2 : Int32) (s : xSt) : Option (Int32 × xSt) :=
  m220_7  1000000 a2 (a1 + 1) 0 s
def m213 (a1 : Int32) (a2 : Int32) (s : xSt) : Option (Int32 × xSt) :=
  (xsPut (gR s 48) ((gI s 12) + 1) a1).bind fun u1 =>
  (xsPut (gR s 49) ((gI s 12) + 1) a2).bind fun u2 =>
  some (((gI s 12) + 1), (sR (sR (sI s 12 ((gI s 12) + 1)) 48 u1) 49 u2))
def m215 (a1 : Int32) (s : xSt) : Option (xSt) :=
  (xsPut (gR s 55) (gI s 16) a1).bind fun u1 =>
  some (sI (sR s 55 u1) 16 ((gI s 16) + 1))
def m221 (a0 : Int32) (a1 : Int32) (a2 : Int32) (s : xSt) : Option (Int32 × xSt) :=
  if a0 = 3 then
    some ((a1 + a2), s)
  else if a0 = 4 then
    some ((a1 - a2), s)
  else if a0 = 5 then
    some ((a1 * a2), s)
  else if a0 = 6 then
    if a2 = 0 then
      some (0, s)
    else
      if a2 = 0 then none else
      some ((a1 / a2), s)
  else if a0 = 7 then
    if a2 = 0 then
      some (a1, s)
    else
      if a2 = 0 then none else
      some ((a1 - a1 / a2 * a2), s)
  else if a0 = 8 then
    if a2 ≤ a1 then
      some (0, s)
    else
      some (1, s)
  else 
  if a1 = a2 then
    some (1, s)
  else
    some (0, s)
def m219_163  (y0 : Int32) (s : xSt) : Option (xSt) :=
  (m215 y0 s).bind fun q19 =>
  some q19
def m219_102  (x1 : Int32) (x2 : Int32) (x3 : Int32) (s : xSt) : Option (xSt) :=
  if x2 = 0 then
    (m217 x1 1 s).bind fun q13 =>
    (m220 x1 1 q13).bind fun q14 =>
    some (sI q14.2 18 q14.1)
  else
    (m218  s).bind fun q15 =>
    (m218  q15.2).bind fun q16 =>
    if x3 = 13 then
      (m213 q16.1 q15.1 q16.2).bind fun q18 =>
      m219_163  q18.1 q18.2
    else
      (m221 x3 q16.1 q15.1 q16.2).bind fun q20 =>
      m219_163  q20.1 q20.2
def m219_179   (s : xSt) : Option (xSt) :=
  (m218  s).bind fun q23 =>
  (m212 q23.1 q23.2).bind fun q24 =>
  (m215 q24.1 q24.2).bind fun q25 =>
  some q25
def m219_221  (y0 : Int32) (y1 : Int32) (s : xSt) : Option (xSt) :=
  (m220 y1 y0 s).bind fun q30 =>
  some (sI q30.2 18 q30.1)
def m219_206  (x1 : Int32) (s : xSt) : Option (xSt) :=
  (m218  s).bind fun q28 =>
  if q28.1 = 0 then
    m219_221  2 x1 q28.2
  else
    m219_221  1 x1 q28.2
def m219_242  (x1 : Int32) (s : xSt) : Option (xSt) :=
  (xsGet (gR s 35) x1).bind fun v33 =>
  (m218  s).bind fun q34 =>
  (xsPut (gR q34.2 51) ((gI s 14) + v33) q34.1).bind fun u35 =>
  (m220 x1 1 (sR q34.2 51 u35)).bind fun q36 =>
  some (sI q36.2 18 q36.1)
def m219_354  (y0 : Int32) (y1 : Int32) (s : xSt) : Option (xSt) :=
  (m220 y1 y0 s).bind fun q47 =>
  some (sI q47.2 18 q47.1)
def m219_287  (x1 : Int32) (s : xSt) : Option (xSt) :=
  (m218  s).bind fun q39 =>
  (xsGet (gR q39.2 35) x1).bind fun v40 =>
  (xsGet (gR q39.2 48) q39.1).bind fun v41 =>
  (xsPut (gR q39.2 51) ((gI q39.2 14) + v40) v41).bind fun u42 =>
  (xsGet (gR q39.2 35) x1).bind fun v43 =>
  (xsGet (gR q39.2 49) q39.1).bind fun v44 =>
  (xsPut u42 (((gI q39.2 14) + v43) + 1) v44).bind fun u45 =>
  if q39.1 = 0 then
    m219_354  1 x1 (sR q39.2 51 u45)
  else
    m219_354  2 x1 (sR q39.2 51 u45)
def m219_30  (x1 : Int32) (x2 : Int32) (x3 : Int32) (y0 : Bool) (s : xSt) : Option (xSt) :=
  if y0 = true then
    (xsGet (gR s 33) x1).bind fun v4 =>
    if v4 ≤ (x2 + 1) then
      (xsGet (gR s 33) x1).bind fun v6 =>
      if (x2 + 1) = v6 then
        (m216 x1 s).bind fun q8 =>
        some q8
      else
        some s
    else
      (m217 x1 (x2 + 1) s).bind fun q9 =>
      (m220 x1 (x2 + 1) q9).bind fun q10 =>
      some (sI q10.2 18 q10.1)
  else
    if x3 < 10 then
      m219_102  x1 x2 x3 s
    else
      if x3 = 13 then
        m219_102  x1 x2 x3 s
      else
        if x3 = 16 then
          m219_179  s
        else
          if x3 = 17 then
            m219_179  s
          else
            if x3 = 10 then
              m219_206  x1 s
            else
              if x3 = 20 then
                m219_206  x1 s
              else
                if x3 = 11 then
                  m219_242  x1 s
                else
                  if x3 = 21 then
                    m219_242  x1 s
                  else
                    if x3 = 12 then
                      m219_287  x1 s
                    else
                      if x3 = 22 then
                        m219_287  x1 s
                      else
                        if x3 = 18 then
                          (xsGet (gR s 35) x1).bind fun v50 =>
                          (m218  s).bind fun q51 =>
                          (xsGet (gR q51.2 50) q51.1).bind fun v52 =>
                          (xsPut (gR q51.2 51) ((gI s 14) + v50) v52).bind fun u53 =>
                          (m220 x1 1 (sR q51.2 51 u53)).bind fun q54 =>
                          some (sI q54.2 18 q54.1)
                        else
                          some s
def m219_25  (x1 : Int32) (x2 : Int32) (x3 : Int32) (s : xSt) : Option (xSt) :=
  m219_30  x1 x2 x3 true s
def m219 (a1 : Int32) (a2 : Int32) (s : xSt) : Option (xSt) :=
  (xsGet (gR s 31) a1).bind fun v1 =>
  if v1 = 14 then
    m219_25  a1 a2 v1 s
  else
    if v1 = 15 then
      m219_25  a1 a2 v1 s
    else
      if v1 = 23 then
        m219_25  a1 a2 v1 s
      else
        m219_30  a1 a2 v1 false s
def m214_69  (y0 : Int32) (s : xSt) : Option (xSt) :=
  (m215 y0 s).bind fun q10 =>
  some (sI q10 18 (-1))
def m214 (a1 : Int32) (s : xSt) : Option (xSt) :=
  (xsGet (gR s 31) a1).bind fun v1 =>
  if 3 ≤ v1 then
    (xsGet (gR s 33) a1).bind fun v3 =>
    if v3 = 0 then
      (m216 a1 (sI s 17 ((gI s 17) + 1))).bind fun q5 =>
      some q5
    else
      (m217 a1 0 (sI s 17 ((gI s 17) + 1))).bind fun q6 =>
      some (sI q6 18 (a1 + 1))
  else
    (xsGet (gR s 31) a1).bind fun v7 =>
    if v7 = 0 then
      (xsGet (gR s 34) a1).bind fun v9 =>
      m214_69  v9 (sI s 17 ((gI s 17) + 1))
    else
      (xsGet (gR s 31) a1).bind fun v11 =>
      if v11 = 1 then
        (xsGet (gR s 35) a1).bind fun v13 =>
        (xsGet (gR s 51) ((gI s 14) + v13)).bind fun v14 =>
        m214_69  v14 (sI s 17 ((gI s 17) + 1))
      else
        m214_69  0 (sI s 17 ((gI s 17) + 1))
def m211_199   (s : xSt) : Option (Bool × xSt) :=
  if 6000 < (gI s 17) then
    some (false, s)
  else
    some (true, s)
def m211_129 (K105 : xSt → Option (Bool × xSt))  (s : xSt) : Option (Bool × xSt) :=
  if (gI s 18) < 0 then
    (xsGet (gR s 52) ((gI s 15) - 1)).bind fun v9 =>
    (xsGet (gR s 54) ((gI s 15) - 1)).bind fun v10 =>
    (xsGet (gR s 53) ((gI s 15) - 1)).bind fun v11 =>
    (m219 v9 v11 (sI (sI s 15 ((gI s 15) - 1)) 14 v10)).bind fun q12 =>
    K105 q12
  else
    (m214 (gI s 18) s).bind fun q13 =>
    K105 q13
def m211_105  : Nat → xSt → Option (Bool × xSt)
  | 0, _ => none
  | n + 1, s =>
    if 6000 < (gI s 17) then
      m211_199  s
    else
      if 0 ≤ (gI s 18) then
        m211_129 (m211_105 n) s
      else
        if (gI s 15) ≤ 0 then
          m211_199  s
        else
          m211_129 (m211_105 n) s
def m211_69 (K41 : Bool → Int32 → Int32 → xSt → Option (Bool × xSt)) (x2 : Bool) (x3 : Int32) (x4 : Int32) (y0 : Int32) (s : xSt) : Option (Bool × xSt) :=
  (m213 y0 x3 s).bind fun q17 =>
  (m212 q17.1 q17.2).bind fun q18 =>
  K41 x2 q18.1 (x4 + (-1)) q18.2
def m211_41  : Nat → Bool → Int32 → Int32 → xSt → Option (Bool × xSt)
  | 0, _, _, _, _ => none
  | n + 1, x2, x3, x4, s =>
    if x4 < 0 then
      (xsPut (gR s 51) 0 x3).bind fun u3 =>
      (xsGet (gR s 37) ((gI s 5) - 1)).bind fun v4 =>
      m211_105  1000000 (sI (sR s 51 u3) 18 v4)
    else
      if x2 = true then
        (xsGet (gR s 46) x4).bind fun v16 =>
        m211_69 (m211_41 n) x2 x3 x4 v16 s
      else
        (xsGet (gR s 45) x4).bind fun v19 =>
        m211_69 (m211_41 n) x2 x3 x4 v19 s
def m211 (a1 : Int32) (b2 : Bool) (s : xSt) : Option (Bool × xSt) :=
  (m212 0 (sI (sI (sI (sI (sI (sI s 12 0) 13 0) 15 0) 16 0) 17 0) 14 0)).bind fun q1 =>
  m211_41  1000000 b2 q1.1 (a1 - 1) q1.2
def m223_25  : Nat → Int32 → xSt → Option (xSt)
  | 0, _, _ => none
  | n + 1, x1, s =>
    if x1 ≤ 0 then
      some s
    else
      (xsGet (gR s 48) x1).bind fun v4 =>
      (xsPut (gR s 47) (gI s 10) v4).bind fun u5 =>
      (xsGet (gR s 49) x1).bind fun v6 =>
      (xsGet (gR s 50) v6).bind fun v7 =>
      m223_25  n v7 (sI (sR s 47 u5) 10 ((gI s 10) + 1))
def m223  (s : xSt) : Option (xSt) :=
  (xsGet (gR s 55) 0).bind fun v1 =>
  (xsGet (gR s 50) v1).bind fun v2 =>
  m223_25  1000000 v2 (sI (sI s 11 (gI s 17)) 10 0)
def m222_97  : Nat → Int32 → xSt → Option (xSt)
  | 0, _, _ => none
  | n + 1, x1, s =>
    if 64 ≤ x1 then
      some s
    else
      (xsGet (gR s 44) x1).bind fun v3 =>
      (xsPut (gR s 37) x1 v3).bind fun u4 =>
      m222_97  n (x1 + 1) (sR s 37 u4)
def m222_10  : Nat → Int32 → xSt → Option (xSt)
  | 0, _, _ => none
  | n + 1, x1, s =>
    if 4200 ≤ x1 then
      m222_97  1000000 0 s
    else
      (xsGet (gR s 38) x1).bind fun v5 =>
      (xsPut (gR s 31) x1 v5).bind fun u6 =>
      (xsGet (gR s 39) x1).bind fun v7 =>
      (xsPut (gR s 32) x1 v7).bind fun u8 =>
      (xsGet (gR s 40) x1).bind fun v9 =>
      (xsPut (gR s 33) x1 v9).bind fun u10 =>
      (xsGet (gR s 41) x1).bind fun v11 =>
      (xsPut (gR s 34) x1 v11).bind fun u12 =>
      (xsGet (gR s 42) x1).bind fun v13 =>
      (xsPut (gR s 35) x1 v13).bind fun u14 =>
      (xsGet (gR s 43) x1).bind fun v15 =>
      (xsPut (gR s 36) x1 v15).bind fun u16 =>
      m222_10  n (x1 + 1) (sR (sR (sR (sR (sR (sR s 31 u6) 32 u8) 33 u10) 34 u12) 35 u14) 36 u16)
def m222  (s : xSt) : Option (xSt) :=
  m222_10  1000000 0 (sI s 5 (gI s 6))
def m208 (a1 : Int32) (s : xSt) : Option (Int32 × xSt) :=
  if a1 = 4 then
    if (gI s 27) = 0 then
      some ((gI s 20), s)
    else
      (xsGet (gR s 6) ((gI s 27) - 1)).bind fun v3 =>
      some (v3, s)
  else
    if a1 = 5 then
      (xsGet (gR s 11) (gI s 35)).bind fun v5 =>
      some (v5, s)
    else
      (xsGet (gR s 10) (gI s 35)).bind fun v6 =>
      some (v6, s)
def m204_86  (y0 : Int32) (s : xSt) : Option (Int32 × xSt) :=
  if (gI s 2) ≤ 0 then
    (m206  (sI s 3 y0)).bind fun q6 =>
    if q6.1 ≤ 0 then
      (m209  (sI q6.2 2 q6.1)).bind fun q8 =>
      (m210  q8).bind fun q9 =>
      (m211 (gI q9 7) false q9).bind fun q10 =>
      if q10.1 = true then
        (m223  (sZ q10.2 0 true)).bind fun q12 =>
        some (0, q12)
      else
        (m222  q10.2).bind fun q13 =>
        some (7, (sI q13 2 7))
    else
      (m208 q6.1 (sI q6.2 2 q6.1)).bind fun q14 =>
      some ((gI q14.2 2), (sI q14.2 3 q14.1))
  else
    some ((gI s 2), (sI s 3 y0))
def m204_18  : Nat → Int32 → xSt → Option (Int32 × xSt)
  | 0, _, _ => none
  | n + 1, x1, s =>
    if (gI s 1) ≤ x1 then
      (m205  (sI s 1 0)).bind fun q2 =>
      (m149  q2).bind fun q3 =>
      if q3.1 ≤ 0 then
        m204_86  (-1) (sI q3.2 2 q3.1)
      else
        m204_86  (gI q3.2 22) (sI q3.2 2 q3.1)
    else
      (xsGet (gR s 0) x1).bind fun v15 =>
      (xsPut (gR s 1) x1 (Int8.toInt32 (Int32.toInt8 v15))).bind fun u16 =>
      m204_18  n (x1 + 1) (sR s 1 u16)
def m204  (s : xSt) : Option (Int32 × xSt) :=
  m204_18  1000000 0 (sI (sI s 0 0) 20 (gI s 1))
def m224_42  : Nat → Int32 → Int32 → Int32 → xSt → Option (Bool × xSt)
  | 0, _, _, _, _ => none
  | n + 1, x1, x2, x3, s =>
    if x3 ≤ x1 then
      (xsPut (gR s 46) x1 x2).bind fun u6 =>
      some (true, (sI (sI (sR s 46 u6) 8 ((gI s 8) + 1)) 9 ((gI s 9) + 1)))
    else
      (xsGet (gR s 46) (x3 - 1)).bind fun v7 =>
      (xsPut (gR s 46) x3 v7).bind fun u8 =>
      m224_42  n x1 x2 (x3 + (-1)) (sR s 46 u8)
def m224 (a1 : Int32) (a2 : Int32) (s : xSt) : Option (Bool × xSt) :=
  if a1 < 0 then
    some (false, (sI s 0 0))
  else
    if (gI s 8) < a1 then
      some (false, (sI s 0 0))
    else
      if (gI s 8) = 64 then
        some (false, (sI s 0 0))
      else
        if (gI s 9) = 32 then
          some (false, (sI s 0 0))
        else
          m224_42  1000000 a1 a2 (gI s 8) (sI s 0 0)
def m225 (a1 : Int32) (a2 : Int32) (s : xSt) : Option (Bool × xSt) :=
  if a1 < 0 then
    some (false, (sI s 0 0))
  else
    if (gI s 8) ≤ a1 then
      some (false, (sI s 0 0))
    else
      if (gI s 9) = 32 then
        some (false, (sI s 0 0))
      else
        (xsPut (gR s 46) a1 a2).bind fun u4 =>
        some (true, (sI (sR (sI s 0 0) 46 u4) 9 ((gI s 9) + 1)))
def m227 (a1 : Int32) (a2 : Int32) (a3 : Int32) (s : xSt) : Option (Bool × xSt) :=
  if a2 < a3 then
    some (false, s)
  else
    if a1 < 0 then
      some (false, s)
    else
      if ((gI s 8) - a2) < a1 then
        some (false, s)
      else
        if (gI s 8) < a2 then
          some (false, s)
        else
          if 32 ≤ (gI s 9) then
            some (false, s)
          else
            some (true, s)
def m226_19  : Nat → Int32 → Int32 → xSt → Option (Bool × xSt)
  | 0, _, _, _ => none
  | n + 1, x2, x3, s =>
    if (gI s 8) ≤ (x3 + x2) then
      some (true, (sI (sI s 8 ((gI s 8) - x2)) 9 ((gI s 9) + 1)))
    else
      (xsGet (gR s 46) (x3 + x2)).bind fun v4 =>
      (xsPut (gR s 46) x3 v4).bind fun u5 =>
      m226_19  n x2 (x3 + 1) (sR s 46 u5)
def m226 (a1 : Int32) (a2 : Int32) (s : xSt) : Option (Bool × xSt) :=
  (m227 a1 a2 1 (sI s 0 0)).bind fun q1 =>
  if q1.1 = true then
    m226_19  1000000 a2 a1 q1.2
  else
    some (false, q1.2)
def m228_19  : Nat → Int32 → Int32 → Int32 → xSt → Option (Bool × xSt)
  | 0, _, _, _, _ => none
  | n + 1, x1, x2, x3, s =>
    if (x2 / 2) ≤ x3 then
      some (true, (sI s 9 ((gI s 9) + 1)))
    else
      (xsGet (gR s 46) (x1 + x3)).bind fun v5 =>
      (xsGet (gR s 46) (((x1 + x2) - 1) - x3)).bind fun v6 =>
      (xsPut (gR s 46) (x1 + x3) v6).bind fun u7 =>
      (xsPut u7 (((x1 + x2) - 1) - x3) v5).bind fun u8 =>
      m228_19  n x1 x2 (x3 + 1) (sR s 46 u8)
def m228 (a1 : Int32) (a2 : Int32) (s : xSt) : Option (Bool × xSt) :=
  (m227 a1 a2 2 (sI s 0 0)).bind fun q1 =>
  if q1.1 = true then
    m228_19  1000000 a1 a2 0 q1.2
  else
    some (false, q1.2)
def m230_10  : Nat → Int32 → xSt → Option (xSt)
  | 0, _, _ => none
  | n + 1, x1, s =>
    if (gI s 8) ≤ x1 then
      some (sI s 9 0)
    else
      (xsGet (gR s 46) x1).bind fun v2 =>
      (xsPut (gR s 45) x1 v2).bind fun u3 =>
      m230_10  n (x1 + 1) (sR s 45 u3)
def m230  (s : xSt) : Option (xSt) :=
  m230_10  1000000 0 (sI s 7 (gI s 8))
def m229  (s : xSt) : Option (Int32 × xSt) :=
  if (gZ s 0) = true then
    (m211 (gI s 8) true (sI s 0 0)).bind fun q2 =>
    if q2.1 = true then
      (m230  q2.2).bind fun q4 =>
      (m223  q4).bind fun q5 =>
      some ((gI q5 10), (sI q5 4 ((gI q5 4) + 1)))
    else
      some ((-7), q2.2)
  else
    (m230  (sI s 0 0)).bind fun q6 =>
    some ((-1), q6)
def m231_25  (x1 : Int32) (y0 : Bool) (s : xSt) : Option (Int32 × xSt) :=
  if (b01 y0) ≤ 0 then
    (xsGet (gR s 47) x1).bind fun v4 =>
    some (v4, (sI s 0 (b01 y0)))
  else
    some (0, (sI s 0 (b01 y0)))
def m231_24  (x1 : Int32) (s : xSt) : Option (Int32 × xSt) :=
  m231_25  x1 true s
def m231 (a1 : Int32) (s : xSt) : Option (Int32 × xSt) :=
  if (gZ s 0) = true then
    if a1 < 0 then
      m231_24  a1 s
    else
      if (gI s 10) ≤ a1 then
        m231_24  a1 s
      else
        m231_25  a1 false s
  else
    m231_24  a1 s
def m232_29  (x1 : Int32) (x2 : Bool) (y0 : Bool) (s : xSt) : Option (Int32 × xSt) :=
  if (b01 y0) ≤ 0 then
    if x2 = true then
      (xsGet (gR s 46) x1).bind fun v4 =>
      some (v4, (sI s 0 (b01 y0)))
    else
      (xsGet (gR s 45) x1).bind fun v5 =>
      some (v5, (sI s 0 (b01 y0)))
  else
    some (0, (sI s 0 (b01 y0)))
def m232_28  (x1 : Int32) (x2 : Bool) (s : xSt) : Option (Int32 × xSt) :=
  m232_29  x1 x2 true s
def m232_21  (x1 : Int32) (x2 : Bool) (y0 : Int32) (y1 : Int32) (s : xSt) : Option (Int32 × xSt) :=
  if y0 ≤ y1 then
    m232_28  x1 x2 s
  else
    m232_29  x1 x2 false s
def m232 (a1 : Int32) (b2 : Bool) (s : xSt) : Option (Int32 × xSt) :=
  if a1 < 0 then
    m232_28  a1 b2 s
  else
    if b2 = true then
      m232_21  a1 b2 (gI s 8) a1 s
    else
      m232_21  a1 b2 (gI s 7) a1 s
def m234_4  : Nat → Int32 → Int32 → xSt → Option (Int32 × xSt)
  | 0, _, _, _ => none
  | n + 1, x1, x2, s =>
    if (gI s 10) ≤ x2 then
      some (x1, s)
    else
      if (gZ s 0) = true then
        (xsGet (gR s 47) x2).bind fun v3 =>
        m234_4  n (x1 + v3) (x2 + 1) s
      else
        some (x1, s)
def m234  (s : xSt) : Option (Int32 × xSt) :=
  m234_4  1000000 0 0 s
def m233 (a1 : Int32) (s : xSt) : Option (Int32 × xSt) :=
  if a1 = 0 then
    some ((gI s 1), (sI s 0 0))
  else if a1 = 1 then
    some ((gI s 2), (sI s 0 0))
  else if a1 = 2 then
    some ((gI s 3), (sI s 0 0))
  else if a1 = 3 then
    if (gZ s 0) = true then
      some ((gI s 5), (sI s 0 0))
    else
      some (0, (sI s 0 0))
  else if a1 = 4 then
    some ((gI s 7), (sI s 0 0))
  else if a1 = 5 then
    some ((gI s 8), (sI s 0 0))
  else if a1 = 6 then
    some ((gI s 9), (sI s 0 0))
  else if a1 = 7 then
    if (gZ s 0) = true then
      some ((gI s 10), (sI s 0 0))
    else
      some ((-1), (sI s 0 0))
  else if a1 = 8 then
    if (gZ s 0) = true then
      some ((gI s 11), (sI s 0 0))
    else
      some ((-1), (sI s 0 0))
  else if a1 = 9 then
    some ((gI s 4), (sI s 0 0))
  else if a1 = 10 then
    (m234  (sI s 0 0)).bind fun q15 =>
    some (q15.1, q15.2)
  else 
  some ((-1), (sI s 0 0))
