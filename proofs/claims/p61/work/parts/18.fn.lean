/-! printed by wip/whole/tools/emit.py: what each method does, as a function -/
def f_X6_isKind (x0 : Int32) : Option (Int32) :=
  if x0 < 97 then
    some 0
  else
    if 101 < x0 then
      some 0
    else
      some 1
def f_X6_isBay (x0 : Int32) : Option (Int32) :=
  if x0 < 0 then
    some 0
  else
    if 24 ≤ x0 then
      some 0
    else
      some 1
def f_X6_hasBay (x0 : Int32) (x1 : Int32) : Option (Int32) :=
  (f_X6_isBay x1).bind fun r1 =>
  if r1 = 0 then
    some 0
  else
    if ((x0 >>> (x1 &&& 31)) &&& 1) = 0 then
      some 0
    else
      some 1
def f_X3_slotWith_L2 (x1 : Int32) (S : Mem) (k : Option (Int32)) : Nat → Int32 → Option (Int32)
  | 0, _ => none
  | n + 1, x2 =>
    if (S.1 0) ≤ x2 then
      k
    else
      if ib x2 16 = true then
      if (S.2 0 (Int32.toNatClampNeg x2)) = x1 then
        some x2
      else
        f_X3_slotWith_L2 x1 S k n (x2 + 1)
      else none
def f_X3_slotWith (S : Mem) (x1 : Int32) : Option (Int32) :=
  f_X3_slotWith_L2 x1 S
  (
    some (-1)) 40 0
def f_X3_slotAt_L2 (x1 : Int32) (S : Mem) (k : Option (Int32)) : Nat → Int32 → Option (Int32)
  | 0, _ => none
  | n + 1, x2 =>
    if (S.1 0) ≤ x2 then
      k
    else
      if ib x2 16 = true then
      if (S.2 4 (Int32.toNatClampNeg x2)) = x1 then
        some x2
      else
        f_X3_slotAt_L2 x1 S k n (x2 + 1)
      else none
def f_X3_slotAt (S : Mem) (x1 : Int32) : Option (Int32) :=
  f_X3_slotAt_L2 x1 S
  (
    some (-1)) 40 0
def f_X3_valueOf (S : Mem) (x1 : Int32) : Option (Int32) :=
  if ib x1 16 = true then
  if ib x1 16 = true then
  some ((S.2 2 (Int32.toNatClampNeg x1)) * (S.2 3 (Int32.toNatClampNeg x1)))
  else none
  else none
def f_X3_sumOfValues_L4 (S : Mem) (k : Int32 → Option (Int32)) : Nat → Int32 → Int32 → Option (Int32)
  | 0, _, _ => none
  | n + 1, x1, x2 =>
    if (S.1 0) ≤ x2 then
      k x1
    else
      (f_X3_valueOf S x2).bind fun r2 =>
      f_X3_sumOfValues_L4 S k n (x1 + r2) (x2 + 1)
def f_X3_sumOfValues (S : Mem) : Option (Int32) :=
  f_X3_sumOfValues_L4 S
  (fun y4_1 =>
    some y4_1) 40 0 0
def f_X3_quantityOf_L4 (x1 : Int32) (S : Mem) (k : Int32 → Option (Int32)) : Nat → Int32 → Int32 → Option (Int32)
  | 0, _, _ => none
  | n + 1, x2, x3 =>
    if (S.1 0) ≤ x3 then
      k x2
    else
      if ib x3 16 = true then
      if (S.2 1 (Int32.toNatClampNeg x3)) = x1 then
        if ib x3 16 = true then
        f_X3_quantityOf_L4 x1 S k n (x2 + (S.2 2 (Int32.toNatClampNeg x3))) (x3 + 1)
        else none
      else
        f_X3_quantityOf_L4 x1 S k n x2 (x3 + 1)
      else none
def f_X3_quantityOf (S : Mem) (x1 : Int32) : Option (Int32) :=
  f_X3_quantityOf_L4 x1 S
  (fun y5_2 =>
    some y5_2) 40 0 0
def f_X3_countAhead_L11 (x1 : Int32) (x2 : Int32) (S : Mem) (k : Int32 → Option (Int32)) : Nat → Int32 → Int32 → Option (Int32)
  | 0, _, _ => none
  | n + 1, x3, x4 =>
    if (S.1 0) ≤ x4 then
      k x3
    else
      (f_X3_valueOf S x4).bind fun r4 =>
      if x2 < r4 then
        f_X3_countAhead_L11 x1 x2 S k n (x3 + 1) (x4 + 1)
      else
        if r4 = x2 then
          if x1 ≤ x4 then
            f_X3_countAhead_L11 x1 x2 S k n x3 (x4 + 1)
          else
            f_X3_countAhead_L11 x1 x2 S k n (x3 + 1) (x4 + 1)
        else
          f_X3_countAhead_L11 x1 x2 S k n x3 (x4 + 1)
def f_X3_countAhead (S : Mem) (x1 : Int32) : Option (Int32) :=
  (f_X3_valueOf S x1).bind fun r1 =>
  f_X3_countAhead_L11 x1 r1 S
  (fun y9_3 =>
    some y9_3) 40 0 0
def f_X3_slotByValue_L2 (x1 : Int32) (S : Mem) (k : Option (Int32)) : Nat → Int32 → Option (Int32)
  | 0, _ => none
  | n + 1, x2 =>
    if (S.1 0) ≤ x2 then
      k
    else
      (f_X3_countAhead S x2).bind fun r2 =>
      if r2 = x1 then
        some x2
      else
        f_X3_slotByValue_L2 x1 S k n (x2 + 1)
def f_X3_slotByValue (S : Mem) (x1 : Int32) : Option (Int32) :=
  f_X3_slotByValue_L2 x1 S
  (
    some (-1)) 40 0
def f_X3_countSealed_L4 (S : Mem) (k : Int32 → Option (Int32)) : Nat → Int32 → Int32 → Option (Int32)
  | 0, _, _ => none
  | n + 1, x1, x2 =>
    if (S.1 0) ≤ x2 then
      k x1
    else
      if ib x2 16 = true then
      if (S.2 5 (Int32.toNatClampNeg x2)) = 0 then
        f_X3_countSealed_L4 S k n x1 (x2 + 1)
      else
        f_X3_countSealed_L4 S k n (x1 + 1) (x2 + 1)
      else none
def f_X3_countSealed (S : Mem) : Option (Int32) :=
  f_X3_countSealed_L4 S
  (fun y4_1 =>
    some y4_1) 40 0 0
def f_X3_countDamp_L4 (S : Mem) (k : Int32 → Option (Int32)) : Nat → Int32 → Int32 → Option (Int32)
  | 0, _, _ => none
  | n + 1, x1, x2 =>
    if (S.1 0) ≤ x2 then
      k x1
    else
      if ib x2 16 = true then
      if (S.2 6 (Int32.toNatClampNeg x2)) = 0 then
        f_X3_countDamp_L4 S k n x1 (x2 + 1)
      else
        f_X3_countDamp_L4 S k n (x1 + 1) (x2 + 1)
      else none
def f_X3_countDamp (S : Mem) : Option (Int32) :=
  f_X3_countDamp_L4 S
  (fun y4_1 =>
    some y4_1) 40 0 0
def f_X3_append (S : Mem) (x1 : Int32) (x2 : Int32) (x3 : Int32) (x4 : Int32) : Option (Int32 × Mem) :=
  if (S.1 0) < 16 then
    if ib (S.1 0) 16 = true then
    if ib (S.1 0) 16 = true then
    if ib (S.1 0) 16 = true then
    if ib (S.1 0) 16 = true then
    if ib (S.1 0) 16 = true then
    if ib (S.1 0) 16 = true then
    if ib (S.1 0) 16 = true then
    some ((S.1 1), (wrI (wrI (wrA (wrA (wrA (wrA (wrA (wrA (wrA S 0 (S.1 0) (S.1 1)) 1 (S.1 0) (vp_nar .char x1)) 2 (S.1 0) x2) 3 (S.1 0) x3) 4 (S.1 0) x4) 5 (S.1 0) (vp_nar .boolean 1)) 6 (S.1 0) (vp_nar .boolean 0)) 0 ((S.1 0) + 1)) 1 ((S.1 1) + 1)))
    else none
    else none
    else none
    else none
    else none
    else none
    else none
  else
    some ((-4), S)
def f_X3_takeSlot_o (S : Mem) (T : Mem) (x2 : Int32) (x3 : Int32) : Option (Mem) :=
  if ib x2 16 = true then
  if ib x3 16 = true then
  if ib x2 16 = true then
  if ib x3 16 = true then
  if ib x2 16 = true then
  if ib x3 16 = true then
  if ib x2 16 = true then
  if ib x3 16 = true then
  if ib x2 16 = true then
  if ib x3 16 = true then
  if ib x2 16 = true then
  if ib x3 16 = true then
  if ib x2 16 = true then
  if ib x3 16 = true then
  some (wrA (wrA (wrA (wrA (wrA (wrA (wrA S 0 x3 (T.2 0 (Int32.toNatClampNeg x2))) 1 x3 (vp_nar .char (T.2 1 (Int32.toNatClampNeg x2)))) 2 x3 (T.2 2 (Int32.toNatClampNeg x2))) 3 x3 (T.2 3 (Int32.toNatClampNeg x2))) 4 x3 (T.2 4 (Int32.toNatClampNeg x2))) 5 x3 (vp_nar .boolean (T.2 5 (Int32.toNatClampNeg x2)))) 6 x3 (vp_nar .boolean (T.2 6 (Int32.toNatClampNeg x2))))
  else none
  else none
  else none
  else none
  else none
  else none
  else none
  else none
  else none
  else none
  else none
  else none
  else none
  else none
def f_X3_takeSlot_s (S : Mem) (x2 : Int32) (x3 : Int32) : Option (Mem) :=
  if ib x2 16 = true then
  if ib x3 16 = true then
  if ib x2 16 = true then
  if ib x3 16 = true then
  if ib x2 16 = true then
  if ib x3 16 = true then
  if ib x2 16 = true then
  if ib x3 16 = true then
  if ib x2 16 = true then
  if ib x3 16 = true then
  if ib x2 16 = true then
  if ib x3 16 = true then
  if ib x2 16 = true then
  if ib x3 16 = true then
  some (wrA (wrA (wrA (wrA (wrA (wrA (wrA S 0 x3 (S.2 0 (Int32.toNatClampNeg x2))) 1 x3 (vp_nar .char (S.2 1 (Int32.toNatClampNeg x2)))) 2 x3 (S.2 2 (Int32.toNatClampNeg x2))) 3 x3 (S.2 3 (Int32.toNatClampNeg x2))) 4 x3 (S.2 4 (Int32.toNatClampNeg x2))) 5 x3 (vp_nar .boolean (S.2 5 (Int32.toNatClampNeg x2)))) 6 x3 (vp_nar .boolean (S.2 6 (Int32.toNatClampNeg x2))))
  else none
  else none
  else none
  else none
  else none
  else none
  else none
  else none
  else none
  else none
  else none
  else none
  else none
  else none
def f_X3_remove_L2 (k : Mem → Option (Mem)) : Nat → Int32 → Mem → Option (Mem)
  | 0, _, _ => none
  | n + 1, x2, S =>
    if (S.1 0) ≤ (x2 + 1) then
      k S
    else
      (f_X3_takeSlot_s S (x2 + 1) x2).bind fun S_2 =>
      f_X3_remove_L2 k n (x2 + 1) S_2
def f_X3_remove (S : Mem) (x1 : Int32) : Option (Mem) :=
  f_X3_remove_L2
  (fun S_4 =>
    some (wrI S_4 0 ((S_4.1 0) - 1))) 40 x1 S
def f_X3_baysOfDamp_L4 (S : Mem) (k : Int32 → Option (Int32)) : Nat → Int32 → Int32 → Option (Int32)
  | 0, _, _ => none
  | n + 1, x1, x2 =>
    if (S.1 0) ≤ x2 then
      k x1
    else
      if ib x2 16 = true then
      if (S.2 6 (Int32.toNatClampNeg x2)) = 0 then
        f_X3_baysOfDamp_L4 S k n x1 (x2 + 1)
      else
        if ib x2 16 = true then
        f_X3_baysOfDamp_L4 S k n (x1 ||| ((1 : Int32) <<< ((S.2 4 (Int32.toNatClampNeg x2)) &&& 31))) (x2 + 1)
        else none
      else none
def f_X3_baysOfDamp (S : Mem) : Option (Int32) :=
  f_X3_baysOfDamp_L4 S
  (fun y5_1 =>
    some y5_1) 40 0 0
def f_X3_baysOfOpen_L4 (S : Mem) (k : Int32 → Option (Int32)) : Nat → Int32 → Int32 → Option (Int32)
  | 0, _, _ => none
  | n + 1, x1, x2 =>
    if (S.1 0) ≤ x2 then
      k x1
    else
      if ib x2 16 = true then
      if (S.2 5 (Int32.toNatClampNeg x2)) = 0 then
        if ib x2 16 = true then
        f_X3_baysOfOpen_L4 S k n (x1 ||| ((1 : Int32) <<< ((S.2 4 (Int32.toNatClampNeg x2)) &&& 31))) (x2 + 1)
        else none
      else
        f_X3_baysOfOpen_L4 S k n x1 (x2 + 1)
      else none
def f_X3_baysOfOpen (S : Mem) : Option (Int32) :=
  f_X3_baysOfOpen_L4 S
  (fun y5_1 =>
    some y5_1) 40 0 0
def f_X3_spreadFrom_L2 (x1 : Int32) (k : Mem → Option (Mem)) : Nat → Int32 → Mem → Option (Mem)
  | 0, _, _ => none
  | n + 1, x2, S =>
    if (S.1 0) ≤ x2 then
      k S
    else
      if ib x2 16 = true then
      (f_X6_hasBay x1 ((S.2 4 (Int32.toNatClampNeg x2)) - 1)).bind fun r3 =>
      if r3 = 0 then
        (f_X6_hasBay x1 ((S.2 4 (Int32.toNatClampNeg x2)) + 1)).bind fun r9 =>
        if r9 = 0 then
          f_X3_spreadFrom_L2 x1 k n (x2 + 1) S
        else
          if ib x2 16 = true then
          if (S.2 5 (Int32.toNatClampNeg x2)) = 0 then
            if ib x2 16 = true then
            f_X3_spreadFrom_L2 x1 k n (x2 + 1) (wrA S 6 x2 (vp_nar .boolean 1))
            else none
          else
            f_X3_spreadFrom_L2 x1 k n (x2 + 1) S
          else none
      else
        if ib x2 16 = true then
        if (S.2 5 (Int32.toNatClampNeg x2)) = 0 then
          if ib x2 16 = true then
          f_X3_spreadFrom_L2 x1 k n (x2 + 1) (wrA S 6 x2 (vp_nar .boolean 1))
          else none
        else
          f_X3_spreadFrom_L2 x1 k n (x2 + 1) S
        else none
      else none
def f_X3_spreadFrom (S : Mem) (x1 : Int32) : Option (Mem) :=
  f_X3_spreadFrom_L2 x1
  (fun S_15 =>
    some S_15) 40 0 S
def f_X3_reachByStretches_L9 (S : Mem) (k : Int32 → Option (Int32)) : Nat → Int32 → Int32 → Int32 → Int32 → Option (Int32)
  | 0, _, _, _, _ => none
  | n + 1, x1, x2, x3, x4 =>
    if 24 < x4 then
      k x1
    else
      (f_X3_slotAt S x4).bind fun r2 =>
      if r2 < 0 then
        if x3 = 0 then
          f_X3_reachByStretches_L9 S k n (x1 + 0) 0 0 (x4 + 1)
        else
          f_X3_reachByStretches_L9 S k n (x1 + x2) 0 0 (x4 + 1)
      else
        if ib r2 16 = true then
        if (S.2 5 (Int32.toNatClampNeg r2)) = 0 then
          if x3 = 0 then
            if ib r2 16 = true then
            if (S.2 6 (Int32.toNatClampNeg r2)) = 0 then
              f_X3_reachByStretches_L9 S k n x1 (x2 + 1) 0 (x4 + 1)
            else
              f_X3_reachByStretches_L9 S k n x1 (x2 + 1) 1 (x4 + 1)
            else none
          else
            f_X3_reachByStretches_L9 S k n x1 (x2 + 1) 1 (x4 + 1)
        else
          if x3 = 0 then
            f_X3_reachByStretches_L9 S k n (x1 + 0) 0 0 (x4 + 1)
          else
            f_X3_reachByStretches_L9 S k n (x1 + x2) 0 0 (x4 + 1)
        else none
def f_X3_reachByStretches (S : Mem) : Option (Int32) :=
  f_X3_reachByStretches_L9 S
  (fun y12_1 =>
    some y12_1) 40 0 0 0 0
def f_X3_signOfBay (S : Mem) (x1 : Int32) : Option (Int32) :=
  (f_X3_slotAt S x1).bind fun r1 =>
  if 0 ≤ r1 then
    if ib r1 16 = true then
    if (S.2 6 (Int32.toNatClampNeg r1)) = 0 then
      if ib r1 16 = true then
      if ib r1 16 = true then
      if (S.2 5 (Int32.toNatClampNeg r1)) = 0 then
        if vp_nar .char (S.2 1 (Int32.toNatClampNeg r1)) = (S.2 1 (Int32.toNatClampNeg r1)) then
        some (S.2 1 (Int32.toNatClampNeg r1))
        else none
      else
        some (((((S.2 1 (Int32.toNatClampNeg r1)) - 97) + 65).toUInt32 % 65536).toInt32)
      else none
      else none
    else
      some 126
    else none
  else
    some 46
def f_X3_copyFrom_L2 (T : Mem) (k : Mem → Option (Mem)) : Nat → Int32 → Mem → Option (Mem)
  | 0, _, _ => none
  | n + 1, x2, S =>
    if (T.1 0) ≤ x2 then
      k S
    else
      (f_X3_takeSlot_o S T x2 x2).bind fun S_2 =>
      f_X3_copyFrom_L2 T k n (x2 + 1) S_2
def f_X3_copyFrom (S : Mem) (T : Mem) : Option (Mem) :=
  f_X3_copyFrom_L2 T
  (fun S_4 =>
    some (wrI (wrI S_4 0 (T.1 0)) 1 (T.1 1))) 40 0 S
def f_X3_reachByQueue_L16 (x2 : Int32) (x3 : Int32) (S : Mem) (k : Int32 → Mem → Option (Int32 × Mem)) : Nat → Int32 → Int32 → Mem → Option (Int32 × Mem)
  | 0, _, _, _ => none
  | n + 1, x4, x5, B =>
    if 24 ≤ x5 then
      k x4 B
    else
      if 24 ≤ x4 then
        k x4 B
      else
        (f_X6_hasBay x3 x5).bind fun r7 =>
        if r7 = 0 then
          f_X3_reachByQueue_L16 x2 x3 S k n x4 (x5 + 1) B
        else
          if ib x4 24 = true then
          f_X3_reachByQueue_L16 x2 x3 S k n (x4 + 1) (x5 + 1) (wrA B 0 x4 x5)
          else none
def f_X3_reachByQueue_L79 (x2 : Int32) (x5 : Int32) (S : Mem) (k : Int32 → Int32 → Mem → Option (Int32 × Mem)) : Nat → Int32 → Int32 → Int32 → Mem → Option (Int32 × Mem)
  | 0, _, _, _, _ => none
  | n + 1, x3, x4, x6, B =>
    if ib x5 24 = true then
    if ((B.2 0 (Int32.toNatClampNeg x5)) + 1) < x6 then
      k x3 x4 B
    else
      (f_X6_hasBay x2 x6).bind fun r17 =>
      if r17 = 0 then
        f_X3_reachByQueue_L79 x2 x5 S k n x3 x4 (x6 + 2) B
      else
        (f_X6_hasBay x3 x6).bind fun r20 =>
        if r20 = 0 then
          if 24 ≤ x4 then
            f_X3_reachByQueue_L79 x2 x5 S k n x3 x4 (x6 + 2) B
          else
            if ib x4 24 = true then
            f_X3_reachByQueue_L79 x2 x5 S k n (x3 ||| ((1 : Int32) <<< (x6 &&& 31))) (x4 + 1) (x6 + 2) (wrA B 0 x4 x6)
            else none
        else
          f_X3_reachByQueue_L79 x2 x5 S k n x3 x4 (x6 + 2) B
    else none
def f_X3_reachByQueue_L57 (x2 : Int32) (S : Mem) (k : Int32 → Mem → Option (Int32 × Mem)) : Nat → Int32 → Int32 → Int32 → Mem → Option (Int32 × Mem)
  | 0, _, _, _, _ => none
  | n + 1, x3, x4, x5, B =>
    if x4 ≤ x5 then
      k x4 B
    else
      if 24 ≤ x5 then
        k x4 B
      else
        if ib x5 24 = true then
        f_X3_reachByQueue_L79 x2 x5 S
        (fun y25_3 y25_4 B_25 =>
          f_X3_reachByQueue_L57 x2 S k n y25_3 y25_4 (x5 + 1) B_25) 40 x3 x4 ((B.2 0 (Int32.toNatClampNeg x5)) - 1) B
        else none
def f_X3_reachByQueue (S : Mem) (B : Mem) : Option (Int32 × Mem) :=
  (f_X3_baysOfOpen S).bind fun r1 =>
  (f_X3_baysOfDamp S).bind fun r3 =>
  f_X3_reachByQueue_L16 r1 r3 S
  (fun y11_4 B_11 =>
    f_X3_reachByQueue_L57 r1 S
    (fun y26_4 B_26 =>
      some (y26_4, B_26)) 40 r3 y11_4 0 B_11) 40 0 0 B
def f_X5_indexOf_L2 (x1 : Int32) (S : Mem) (k : Option (Int32)) : Nat → Int32 → Option (Int32)
  | 0, _ => none
  | n + 1, x2 =>
    if (S.1 2) ≤ x2 then
      k
    else
      if ib x2 6 = true then
      if (S.2 7 (Int32.toNatClampNeg x2)) = x1 then
        some x2
      else
        f_X5_indexOf_L2 x1 S k n (x2 + 1)
      else none
def f_X5_indexOf (S : Mem) (x1 : Int32) : Option (Int32) :=
  f_X5_indexOf_L2 x1 S
  (
    some (-1)) 40 0
def f_X5_insert_L52 (x1 : Int32) (x2 : Int32) (k : Int32 → Mem → Option (Int32 × Mem)) : Nat → Int32 → Mem → Option (Int32 × Mem)
  | 0, _, _ => none
  | n + 1, x3, S =>
    if x3 ≤ 0 then
      k x3 S
    else
      if ib (x3 - 1) 6 = true then
      if (S.2 7 (Int32.toNatClampNeg (x3 - 1))) ≤ x1 then
        k x3 S
      else
        if ib (x3 - 1) 6 = true then
        if ib x3 6 = true then
        if ib (x3 - 1) 6 = true then
        if ib x3 6 = true then
        f_X5_insert_L52 x1 x2 k n (x3 + (-1)) (wrA (wrA S 7 x3 (S.2 7 (Int32.toNatClampNeg (x3 - 1)))) 8 x3 (S.2 8 (Int32.toNatClampNeg (x3 - 1))))
        else none
        else none
        else none
        else none
      else none
def f_X5_insert (S : Mem) (x1 : Int32) (x2 : Int32) : Option (Int32 × Mem) :=
  if x1 < 0 then
    some ((-3), S)
  else
    if 9999 < x1 then
      some ((-3), S)
    else
      if x2 < 0 then
        some ((-3), S)
      else
        if x2 ≤ 100 then
          (f_X5_indexOf S x1).bind fun r5 =>
          if r5 < 0 then
            if (S.1 2) < 6 then
              f_X5_insert_L52 x1 x2
              (fun y16_3 S_16 =>
                if ib y16_3 6 = true then
                if ib y16_3 6 = true then
                some (((S_16.1 2) + 1), (wrI (wrA (wrA S_16 7 y16_3 x1) 8 y16_3 x2) 2 ((S_16.1 2) + 1)))
                else none
                else none) 40 (S.1 2) S
            else
              some ((-4), S)
          else
            some ((-5), S)
        else
          some ((-3), S)
def f_X5_remove_L22 (x3 : Int32) (k : Mem → Option (Int32 × Mem)) : Nat → Int32 → Mem → Option (Int32 × Mem)
  | 0, _, _ => none
  | n + 1, x4, S =>
    if (S.1 2) ≤ (x4 + 1) then
      k S
    else
      if ib (x4 + 1) 6 = true then
      if ib x4 6 = true then
      if ib (x4 + 1) 6 = true then
      if ib x4 6 = true then
      f_X5_remove_L22 x3 k n (x4 + 1) (wrA (wrA S 7 x4 (S.2 7 (Int32.toNatClampNeg (x4 + 1)))) 8 x4 (S.2 8 (Int32.toNatClampNeg (x4 + 1))))
      else none
      else none
      else none
      else none
def f_X5_remove (S : Mem) (x1 : Int32) : Option (Int32 × Mem) :=
  (f_X5_indexOf S x1).bind fun r1 =>
  if 0 ≤ r1 then
    if ib r1 6 = true then
    f_X5_remove_L22 (S.2 8 (Int32.toNatClampNeg r1))
    (fun S_10 =>
      some ((S.2 8 (Int32.toNatClampNeg r1)), (wrI S_10 2 ((S_10.1 2) - 1)))) 40 r1 S
    else none
  else
    some ((-1), S)
def f_X5_dutyByParts_L4 (x1 : Int32) (S : Mem) (k : Int32 → Option (Int32)) : Nat → Int32 → Int32 → Option (Int32)
  | 0, _, _ => none
  | n + 1, x2, x3 =>
    if (S.1 2) ≤ x3 then
      k x2
    else
      if (S.1 2) ≤ (x3 + 1) then
        if ib x3 6 = true then
        if ib x3 6 = true then
        f_X5_dutyByParts_L4 x1 S k n (x2 + ((if (0 : Int32) < (x1 - (S.2 7 (Int32.toNatClampNeg x3))) then (x1 - (S.2 7 (Int32.toNatClampNeg x3))) else 0) * (S.2 8 (Int32.toNatClampNeg x3)))) (x3 + 1)
        else none
        else none
      else
        if ib (x3 + 1) 6 = true then
        if ib x3 6 = true then
        if ib x3 6 = true then
        f_X5_dutyByParts_L4 x1 S k n (x2 + ((if (0 : Int32) < ((if (S.2 7 (Int32.toNatClampNeg (x3 + 1))) < x1 then (S.2 7 (Int32.toNatClampNeg (x3 + 1))) else x1) - (S.2 7 (Int32.toNatClampNeg x3))) then ((if (S.2 7 (Int32.toNatClampNeg (x3 + 1))) < x1 then (S.2 7 (Int32.toNatClampNeg (x3 + 1))) else x1) - (S.2 7 (Int32.toNatClampNeg x3))) else 0) * (S.2 8 (Int32.toNatClampNeg x3)))) (x3 + 1)
        else none
        else none
        else none
def f_X5_dutyByParts (S : Mem) (x1 : Int32) : Option (Int32) :=
  f_X5_dutyByParts_L4 x1 S
  (fun y8_2 =>
    some (y8_2 / 100)) 40 0 0
def f_X5_dutyByCoins_L13 (x1 : Int32) (x2 : Int32) (x4 : Int32) (S : Mem) (k : Int32 → Option (Int32)) : Nat → Int32 → Option (Int32)
  | 0, _ => none
  | n + 1, x3 =>
    if (S.1 2) ≤ x3 then
      k x3
    else
      if ib x3 6 = true then
      if x4 ≤ (S.2 7 (Int32.toNatClampNeg x3)) then
        k x3
      else
        f_X5_dutyByCoins_L13 x1 x2 x4 S k n (x3 + 1)
      else none
def f_X5_dutyByCoins_L7 (x1 : Int32) (S : Mem) (k : Int32 → Option (Int32)) : Nat → Int32 → Int32 → Int32 → Option (Int32)
  | 0, _, _, _ => none
  | n + 1, x2, x3, x4 =>
    if x1 < x4 then
      k x2
    else
      f_X5_dutyByCoins_L13 x1 x2 x4 S
      (fun y5_3 =>
        if y5_3 ≤ 0 then
          f_X5_dutyByCoins_L7 x1 S k n x2 y5_3 (x4 + 1)
        else
          if ib (y5_3 - 1) 6 = true then
          f_X5_dutyByCoins_L7 x1 S k n (x2 + (S.2 8 (Int32.toNatClampNeg (y5_3 - 1)))) y5_3 (x4 + 1)
          else none) 10001 x3
def f_X5_dutyByCoins (S : Mem) (x1 : Int32) : Option (Int32) :=
  f_X5_dutyByCoins_L7 x1 S
  (fun y8_2 =>
    some (y8_2 / 100)) 10001 0 0 1
def f_X5_copyFrom_L2 (T : Mem) (k : Mem → Option (Mem)) : Nat → Int32 → Mem → Option (Mem)
  | 0, _, _ => none
  | n + 1, x2, S =>
    if (T.1 2) ≤ x2 then
      k S
    else
      if ib x2 6 = true then
      if ib x2 6 = true then
      if ib x2 6 = true then
      if ib x2 6 = true then
      f_X5_copyFrom_L2 T k n (x2 + 1) (wrA (wrA S 7 x2 (T.2 7 (Int32.toNatClampNeg x2))) 8 x2 (T.2 8 (Int32.toNatClampNeg x2)))
      else none
      else none
      else none
      else none
def f_X5_copyFrom (S : Mem) (T : Mem) : Option (Mem) :=
  f_X5_copyFrom_L2 T
  (fun S_6 =>
    some (wrI S_6 2 (T.1 2))) 40 0 S
def f_X0_placeOf_L2 (x1 : Int32) (S : Mem) (k : Option (Int32)) : Nat → Int32 → Option (Int32)
  | 0, _ => none
  | n + 1, x2 =>
    if (S.1 7) ≤ x2 then
      k
    else
      if ib x2 16 = true then
      if (S.2 9 (Int32.toNatClampNeg x2)) = x1 then
        some x2
      else
        f_X0_placeOf_L2 x1 S k n (x2 + 1)
      else none
def f_X0_placeOf (S : Mem) (x1 : Int32) : Option (Int32) :=
  f_X0_placeOf_L2 x1 S
  (
    some (-1)) 40 0
def f_X0_append (S : Mem) (x1 : Int32) : Option (Int32 × Mem) :=
  if 16 ≤ (S.1 7) then
    some ((-4), S)
  else
    (f_X0_placeOf S x1).bind fun r2 =>
    if r2 < 0 then
      if ib (S.1 7) 16 = true then
      some (((S.1 7) + 1), (wrI (wrA S 9 (S.1 7) x1) 7 ((S.1 7) + 1)))
      else none
    else
      some ((-4), S)
def f_X0_remove_L4 (x1 : Int32) (k : Int32 → Mem → Option (Mem)) : Nat → Int32 → Int32 → Mem → Option (Mem)
  | 0, _, _, _ => none
  | n + 1, x2, x3, S =>
    if (S.1 7) ≤ x3 then
      k x2 S
    else
      if ib x3 16 = true then
      if (S.2 9 (Int32.toNatClampNeg x3)) = x1 then
        f_X0_remove_L4 x1 k n x2 (x3 + 1) S
      else
        if ib x3 16 = true then
        if ib x2 16 = true then
        f_X0_remove_L4 x1 k n (x2 + 1) (x3 + 1) (wrA S 9 x2 (S.2 9 (Int32.toNatClampNeg x3)))
        else none
        else none
      else none
def f_X0_remove (S : Mem) (x1 : Int32) : Option (Mem) :=
  f_X0_remove_L4 x1
  (fun y6_2 S_6 =>
    some (wrI S_6 7 y6_2)) 40 0 0 S
def f_X0_copyFrom_L2 (T : Mem) (k : Mem → Option (Mem)) : Nat → Int32 → Mem → Option (Mem)
  | 0, _, _ => none
  | n + 1, x2, S =>
    if (T.1 7) ≤ x2 then
      k S
    else
      if ib x2 16 = true then
      if ib x2 16 = true then
      f_X0_copyFrom_L2 T k n (x2 + 1) (wrA S 9 x2 (T.2 9 (Int32.toNatClampNeg x2)))
      else none
      else none
def f_X0_copyFrom (S : Mem) (T : Mem) : Option (Mem) :=
  f_X0_copyFrom_L2 T
  (fun S_4 =>
    some (wrI S_4 7 (T.1 7))) 40 0 S
def f_X4_copyFrom (S : Mem) (T : Mem) : Option (Mem) :=
  (f_X3_copyFrom S T).bind fun S_1 =>
  (f_X5_copyFrom S_1 T).bind fun S_3 =>
  (f_X0_copyFrom S_3 T).bind fun S_5 =>
  some (wrI (wrI (wrI (wrI S_5 3 (T.1 3)) 4 (T.1 4)) 5 (T.1 5)) 6 (T.1 6))
def f_X4_takeIn (S : Mem) (x1 : Int32) (x2 : Int32) (x3 : Int32) (x4 : Int32) : Option (Int32 × Mem) :=
  (f_X6_isBay x4).bind fun r1 =>
  if r1 = 0 then
    some ((-2), S)
  else
    if x2 < 1 then
      if x3 < 1 then
        (f_X6_isKind x1).bind fun r6 =>
        if r6 = 0 then
          some ((-3), S)
        else
          some ((-3), S)
      else
        if 99 < x3 then
          (f_X6_isKind x1).bind fun r10 =>
          if r10 = 0 then
            some ((-3), S)
          else
            some ((-3), S)
        else
          (f_X6_isKind x1).bind fun r13 =>
          if r13 = 0 then
            some ((-3), S)
          else
            some ((-3), S)
    else
      if 99 < x2 then
        if x3 < 1 then
          (f_X6_isKind x1).bind fun r18 =>
          if r18 = 0 then
            some ((-3), S)
          else
            some ((-3), S)
        else
          if 99 < x3 then
            (f_X6_isKind x1).bind fun r22 =>
            if r22 = 0 then
              some ((-3), S)
            else
              some ((-3), S)
          else
            (f_X6_isKind x1).bind fun r25 =>
            if r25 = 0 then
              some ((-3), S)
            else
              some ((-3), S)
      else
        if x3 < 1 then
          (f_X6_isKind x1).bind fun r29 =>
          if r29 = 0 then
            some ((-3), S)
          else
            some ((-3), S)
        else
          if 99 < x3 then
            (f_X6_isKind x1).bind fun r33 =>
            if r33 = 0 then
              some ((-3), S)
            else
              some ((-3), S)
          else
            (f_X6_isKind x1).bind fun r36 =>
            if r36 = 0 then
              some ((-3), S)
            else
              if (S.1 0) < 16 then
                (f_X3_slotAt S x4).bind fun r40 =>
                if r40 < 0 then
                  (f_X3_append S x1 x2 x3 x4).bind fun (r43, S_44) =>
                  some (r43, S_44)
                else
                  some ((-5), S)
              else
                some ((-4), S)
def f_X4_sealLot (S : Mem) (x1 : Int32) : Option (Int32 × Mem) :=
  (f_X3_slotWith S x1).bind fun r1 =>
  if 0 ≤ r1 then
    if ib r1 16 = true then
    if (S.2 5 (Int32.toNatClampNeg r1)) = 0 then
      if ib r1 16 = true then
      if (S.2 6 (Int32.toNatClampNeg r1)) = 0 then
        if ib r1 16 = true then
        (f_X3_countSealed (wrA S 5 r1 (vp_nar .boolean 1))).bind fun r9 =>
        some (r9, (wrA S 5 r1 (vp_nar .boolean 1)))
        else none
      else
        some ((-5), S)
      else none
    else
      some ((-4), S)
    else none
  else
    some ((-1), S)
def f_X4_openLot (S : Mem) (x1 : Int32) : Option (Int32 × Mem) :=
  (f_X3_slotWith S x1).bind fun r1 =>
  if 0 ≤ r1 then
    if ib r1 16 = true then
    if (S.2 5 (Int32.toNatClampNeg r1)) = 0 then
      some ((-4), S)
    else
      if ib r1 16 = true then
      (f_X3_countSealed (wrA S 5 r1 (vp_nar .boolean 0))).bind fun r7 =>
      some (r7, (wrA S 5 r1 (vp_nar .boolean 0)))
      else none
    else none
  else
    some ((-1), S)
def f_X4_wetLot (S : Mem) (x1 : Int32) : Option (Int32 × Mem) :=
  (f_X3_slotWith S x1).bind fun r1 =>
  if 0 ≤ r1 then
    if ib r1 16 = true then
    if (S.2 5 (Int32.toNatClampNeg r1)) = 0 then
      if ib r1 16 = true then
      if (S.2 6 (Int32.toNatClampNeg r1)) = 0 then
        if ib r1 16 = true then
        (f_X3_countDamp (wrA S 6 r1 (vp_nar .boolean 1))).bind fun r9 =>
        some (r9, (wrA S 6 r1 (vp_nar .boolean 1)))
        else none
      else
        some ((-4), S)
      else none
    else
      some ((-4), S)
    else none
  else
    some ((-1), S)
def f_X4_moveLot (S : Mem) (x1 : Int32) (x2 : Int32) : Option (Int32 × Mem) :=
  (f_X3_slotWith S x1).bind fun r1 =>
  if 0 ≤ r1 then
    (f_X6_isBay x2).bind fun r4 =>
    if r4 = 0 then
      some ((-2), S)
    else
      (f_X3_slotAt S x2).bind fun r7 =>
      if r7 < 0 then
        if ib r1 16 = true then
        if ib r1 16 = true then
        some ((S.2 4 (Int32.toNatClampNeg r1)), (wrA S 4 r1 x2))
        else none
        else none
      else
        some ((-5), S)
  else
    some ((-1), S)
def f_X4_queueLot (S : Mem) (x1 : Int32) : Option (Int32 × Mem) :=
  (f_X3_slotWith S x1).bind fun r1 =>
  if 0 ≤ r1 then
    (f_X0_append S x1).bind fun (r4, S_5) =>
    some (r4, S_5)
  else
    some ((-1), S)
def f_X4_auditFirst (S : Mem) : Option (Int32 × Mem) :=
  if 0 < (S.1 7) then
    if ib 0 16 = true then
    (f_X0_remove S (S.2 9 (Int32.toNatClampNeg 0))).bind fun S_3 =>
    (f_X3_slotWith S_3 (S.2 9 (Int32.toNatClampNeg 0))).bind fun r5 =>
    if r5 < 0 then
      some ((S.2 9 (Int32.toNatClampNeg 0)), S_3)
    else
      if ib r5 16 = true then
      some ((S.2 9 (Int32.toNatClampNeg 0)), (wrA S_3 5 r5 (vp_nar .boolean 0)))
      else none
    else none
  else
    some ((-1), S)
def f_X4_takeCoins (S : Mem) (x1 : Int32) : Option (Int32 × Mem) :=
  if x1 < 1 then
    some ((-3), S)
  else
    if x1 ≤ 999 then
      if ((S.1 3) + x1) ≤ 9999 then
        some (((S.1 3) + x1), (wrI S 3 ((S.1 3) + x1)))
      else
        some ((-4), S)
    else
      some ((-3), S)
def f_X4_dutyOf (S : Mem) (x1 : Int32) : Option (Int32) :=
  if ib x1 16 = true then
  if (S.2 5 (Int32.toNatClampNeg x1)) = 0 then
    (f_X3_valueOf S x1).bind fun r3 =>
    (f_X5_dutyByParts S r3).bind fun r5 =>
    some r5
  else
    some 0
  else none
def f_X4_letLeave (S : Mem) (x1 : Int32) : Option (Mem) :=
  if ib x1 16 = true then
  (f_X0_remove S (S.2 0 (Int32.toNatClampNeg x1))).bind fun S_2 =>
  (f_X3_remove S_2 x1).bind fun S_4 =>
  some S_4
  else none
def f_X4_releaseLot (S : Mem) (x1 : Int32) : Option (Int32 × Mem) :=
  (f_X3_slotWith S x1).bind fun r1 =>
  if 0 ≤ r1 then
    (f_X4_dutyOf S r1).bind fun r4 =>
    if r4 ≤ (S.1 3) then
      (f_X4_letLeave (wrI (wrI S 3 ((S.1 3) - r4)) 4 ((S.1 4) + r4)) r1).bind fun S_7 =>
      some (r4, S_7)
    else
      some ((-5), S)
  else
    some ((-1), S)
def f_X4_letOneDayPass_L26 (x1 : Int32) (k : Mem → Option (Mem)) : Nat → Int32 → Mem → Option (Mem)
  | 0, _, _ => none
  | n + 1, x2, S =>
    if x2 < 0 then
      k S
    else
      if ib x2 16 = true then
      (f_X6_hasBay x1 (S.2 4 (Int32.toNatClampNeg x2))).bind fun r7 =>
      if r7 = 0 then
        f_X4_letOneDayPass_L26 x1 k n (x2 + (-1)) S
      else
        if ib x2 16 = true then
        if ib x2 16 = true then
        if ib x2 16 = true then
        if 0 < ((wrA S 2 x2 ((S.2 2 (Int32.toNatClampNeg x2)) - 1)).2 2 (Int32.toNatClampNeg x2)) then
          f_X4_letOneDayPass_L26 x1 k n (x2 + (-1)) (wrA S 2 x2 ((S.2 2 (Int32.toNatClampNeg x2)) - 1))
        else
          (f_X4_letLeave (wrA S 2 x2 ((S.2 2 (Int32.toNatClampNeg x2)) - 1)) x2).bind fun S_14 =>
          f_X4_letOneDayPass_L26 x1 k n (x2 + (-1)) (wrI S_14 6 ((S_14.1 6) + 1))
        else none
        else none
        else none
      else none
def f_X4_letOneDayPass (S : Mem) : Option (Mem) :=
  (f_X3_baysOfDamp S).bind fun r1 =>
  (f_X3_spreadFrom S r1).bind fun S_3 =>
  f_X4_letOneDayPass_L26 r1
  (fun S_16 =>
    some (wrI S_16 5 ((S_16.1 5) + 1))) 40 ((S_3.1 0) - 1) S_3
def f_X4_letPass_L21 (x1 : Int32) (x2 : Int32) (k : Mem → Option (Int32 × Mem)) : Nat → Int32 → Mem → Option (Int32 × Mem)
  | 0, _, _ => none
  | n + 1, x3, S =>
    if x1 ≤ x3 then
      k S
    else
      (f_X4_letOneDayPass S).bind fun S_4 =>
      f_X4_letPass_L21 x1 x2 k n (x3 + 1) S_4
def f_X4_letPass (S : Mem) (x1 : Int32) : Option (Int32 × Mem) :=
  if x1 < 1 then
    some ((-3), S)
  else
    if x1 ≤ 30 then
      f_X4_letPass_L21 x1 (S.1 6)
      (fun S_6 =>
        some (((S_6.1 6) - (S.1 6)), S_6)) 40 0 S
    else
      some ((-3), S)
def f_X4_dutyInOrderOfIds_L4 (S : Mem) (k : Int32 → Option (Int32)) : Nat → Int32 → Int32 → Option (Int32)
  | 0, _, _ => none
  | n + 1, x1, x2 =>
    if (S.1 0) ≤ x2 then
      k x1
    else
      (f_X4_dutyOf S x2).bind fun r2 =>
      f_X4_dutyInOrderOfIds_L4 S k n (x1 + r2) (x2 + 1)
def f_X4_dutyInOrderOfIds (S : Mem) : Option (Int32) :=
  f_X4_dutyInOrderOfIds_L4 S
  (fun y4_1 =>
    some y4_1) 40 0 0
def f_X4_dutyBayByBay_L4 (S : Mem) (k : Int32 → Option (Int32)) : Nat → Int32 → Int32 → Option (Int32)
  | 0, _, _ => none
  | n + 1, x1, x2 =>
    if 24 ≤ x2 then
      k x1
    else
      (f_X3_slotAt S x2).bind fun r2 =>
      if r2 < 0 then
        f_X4_dutyBayByBay_L4 S k n x1 (x2 + 1)
      else
        (f_X4_dutyOf S r2).bind fun r5 =>
        f_X4_dutyBayByBay_L4 S k n (x1 + r5) (x2 + 1)
def f_X4_dutyBayByBay (S : Mem) : Option (Int32) :=
  f_X4_dutyBayByBay_L4 S
  (fun y7_1 =>
    some y7_1) 40 0 0
def f_X4_dutiesAgree_L2 (S : Mem) (k : Option (Int32)) : Nat → Int32 → Option (Int32)
  | 0, _ => none
  | n + 1, x1 =>
    if (S.1 0) ≤ x1 then
      k
    else
      (f_X3_valueOf S x1).bind fun r2 =>
      (f_X5_dutyByParts S r2).bind fun r4 =>
      (f_X5_dutyByCoins S r2).bind fun r6 =>
      if r4 = r6 then
        f_X4_dutiesAgree_L2 S k n (x1 + 1)
      else
        some 0
def f_X4_dutiesAgree (S : Mem) : Option (Int32) :=
  f_X4_dutiesAgree_L2 S
  (
    some 1) 40 0
def f_X4_sortDutiesInto_L28 (x2 : Int32) (x3 : Int32) (S : Mem) (k : Int32 → Mem → Option (Mem)) : Nat → Int32 → Mem → Option (Mem)
  | 0, _, _ => none
  | n + 1, x4, B =>
    if x4 ≤ 0 then
      k x4 B
    else
      if ib (x4 - 1) 16 = true then
      if (B.2 0 (Int32.toNatClampNeg (x4 - 1))) ≤ x3 then
        k x4 B
      else
        if ib (x4 - 1) 16 = true then
        if ib x4 16 = true then
        f_X4_sortDutiesInto_L28 x2 x3 S k n (x4 + (-1)) (wrA B 0 x4 (B.2 0 (Int32.toNatClampNeg (x4 - 1))))
        else none
        else none
      else none
def f_X4_sortDutiesInto_L2 (S : Mem) (k : Mem → Option (Mem)) : Nat → Int32 → Mem → Option (Mem)
  | 0, _, _ => none
  | n + 1, x2, B =>
    if (S.1 0) ≤ x2 then
      k B
    else
      if 16 ≤ x2 then
        k B
      else
        (f_X4_dutyOf S x2).bind fun r3 =>
        f_X4_sortDutiesInto_L28 x2 r3 S
        (fun y10_4 B_10 =>
          if ib y10_4 16 = true then
          f_X4_sortDutiesInto_L2 S k n (x2 + 1) (wrA B_10 0 y10_4 r3)
          else none) 40 x2 B
def f_X4_sortDutiesInto (S : Mem) (B : Mem) : Option (Mem) :=
  f_X4_sortDutiesInto_L2 S
  (fun B_12 =>
    some B_12) 40 0 B
def f_X4_countReleases_L12 (S : Mem) (B : Mem) (k : Option (Int32 × Mem)) : Nat → Int32 → Int32 → Option (Int32 × Mem)
  | 0, _, _ => none
  | n + 1, x2, x3 =>
    if (S.1 0) ≤ x3 then
      k
    else
      if 16 ≤ x3 then
        k
      else
        if ib x3 16 = true then
        if 0 ≤ (x2 - (B.2 0 (Int32.toNatClampNeg x3))) then
          f_X4_countReleases_L12 S B k n (x2 - (B.2 0 (Int32.toNatClampNeg x3))) (x3 + 1)
        else
          some (x3, B)
        else none
def f_X4_countReleases (S : Mem) (B : Mem) : Option (Int32 × Mem) :=
  (f_X4_sortDutiesInto S B).bind fun B_1 =>
  f_X4_countReleases_L12 S B_1
  (
    some ((S.1 0), B_1)) 40 (S.1 3) 0
def f_X4_perform (S : Mem) (C : Mem) : Option (Int32 × Mem) :=
  if ib 0 3 = true then
  if ib 1 3 = true then
  if ib 2 3 = true then
  if (C.1 2) = 0 then
    (f_X4_takeIn S (C.1 3) (C.2 1 (Int32.toNatClampNeg 0)) (C.2 1 (Int32.toNatClampNeg 1)) (C.2 1 (Int32.toNatClampNeg 2))).bind fun (r5, S_6) =>
    some (r5, S_6)
  else
  if (C.1 2) = 1 then
    (f_X4_sealLot S (C.2 1 (Int32.toNatClampNeg 0))).bind fun (r9, S_10) =>
    some (r9, S_10)
  else
  if (C.1 2) = 2 then
    (f_X4_openLot S (C.2 1 (Int32.toNatClampNeg 0))).bind fun (r13, S_14) =>
    some (r13, S_14)
  else
  if (C.1 2) = 3 then
    (f_X4_wetLot S (C.2 1 (Int32.toNatClampNeg 0))).bind fun (r17, S_18) =>
    some (r17, S_18)
  else
  if (C.1 2) = 4 then
    (f_X4_queueLot S (C.2 1 (Int32.toNatClampNeg 0))).bind fun (r21, S_22) =>
    some (r21, S_22)
  else
  if (C.1 2) = 5 then
    (f_X4_releaseLot S (C.2 1 (Int32.toNatClampNeg 0))).bind fun (r25, S_26) =>
    some (r25, S_26)
  else
  if (C.1 2) = 6 then
    (f_X4_moveLot S (C.2 1 (Int32.toNatClampNeg 0)) (C.2 1 (Int32.toNatClampNeg 1))).bind fun (r29, S_30) =>
    some (r29, S_30)
  else
  if (C.1 2) = 7 then
    (f_X4_auditFirst S).bind fun (r33, S_34) =>
    some (r33, S_34)
  else
  if (C.1 2) = 8 then
    (f_X5_insert S (C.2 1 (Int32.toNatClampNeg 0)) (C.2 1 (Int32.toNatClampNeg 1))).bind fun (r37, S_38) =>
    some (r37, S_38)
  else
  if (C.1 2) = 9 then
    (f_X4_takeCoins S (C.2 1 (Int32.toNatClampNeg 0))).bind fun (r41, S_42) =>
    some (r41, S_42)
  else
  (f_X4_letOneDayPass S).bind fun S_44 =>
  some (0, S_44)
  else none
  else none
  else none
def f_X1_append (C : Mem) (x1 : Int32) : Option (Int32 × Mem) :=
  if (C.1 0) < 60 then
    if ib (C.1 0) 60 = true then
    some (1, (wrI (wrA C 0 (C.1 0) (vp_nar .char x1)) 0 ((C.1 0) + 1)))
    else none
  else
    some (0, C)
def f_X1_clear (C : Mem) : Option (Mem) :=
  some (wrI C 0 0)
def f_X1_rewind (C : Mem) : Option (Mem) :=
  some (wrI C 1 0)
def f_X1_skipSemicolon (C : Mem) : Option (Mem) :=
  some (wrI C 1 ((C.1 1) + 1))
def f_X1_readCharacter (C : Mem) (x1 : Int32) : Option (Int32 × Mem) :=
  if (C.1 1) < (C.1 0) then
    if ib (C.1 1) 60 = true then
    if x1 = 37 then
      (f_X6_isKind (C.2 0 (Int32.toNatClampNeg (C.1 1)))).bind fun r7 =>
      if r7 = 0 then
        some (0, C)
      else
        if x1 = 37 then
          if vp_nar .char (C.2 0 (Int32.toNatClampNeg (C.1 1))) = (C.2 0 (Int32.toNatClampNeg (C.1 1))) then
          some (1, (wrI (wrI C 3 (C.2 0 (Int32.toNatClampNeg (C.1 1)))) 1 ((C.1 1) + 1)))
          else none
        else
          some (1, (wrI C 1 ((C.1 1) + 1)))
    else
      if (C.2 0 (Int32.toNatClampNeg (C.1 1))) = x1 then
        if x1 = 37 then
          if vp_nar .char (C.2 0 (Int32.toNatClampNeg (C.1 1))) = (C.2 0 (Int32.toNatClampNeg (C.1 1))) then
          some (1, (wrI (wrI C 3 (C.2 0 (Int32.toNatClampNeg (C.1 1)))) 1 ((C.1 1) + 1)))
          else none
        else
          some (1, (wrI C 1 ((C.1 1) + 1)))
      else
        some (0, C)
    else none
  else
    some (0, C)
def f_X1_isDigit (x0 : Int32) : Option (Int32) :=
  if x0 < 48 then
    some 0
  else
    if 57 < x0 then
      some 0
    else
      some 1
def f_X1_readNumber_L4 (k : Int32 → Int32 → Mem → Option (Int32 × Mem)) : Nat → Int32 → Int32 → Mem → Option (Int32 × Mem)
  | 0, _, _, _ => none
  | n + 1, x1, x2, C =>
    if 4 ≤ x2 then
      k x1 x2 C
    else
      if (C.1 0) ≤ (C.1 1) then
        k x1 x2 C
      else
        if ib (C.1 1) 60 = true then
        (f_X1_isDigit (C.2 0 (Int32.toNatClampNeg (C.1 1)))).bind fun r4 =>
        if r4 = 0 then
          k x1 x2 C
        else
          if ib (C.1 1) 60 = true then
          f_X1_readNumber_L4 k n ((x1 * 10) + ((C.2 0 (Int32.toNatClampNeg (C.1 1))) - 48)) (x2 + 1) (wrI C 1 ((C.1 1) + 1))
          else none
        else none
def f_X1_readNumber (C : Mem) : Option (Int32 × Mem) :=
  f_X1_readNumber_L4
  (fun y8_1 y8_2 C_8 =>
    if y8_2 = 0 then
      some (0, C_8)
    else
      if (C_8.1 4) < 3 then
        if ib (C_8.1 4) 3 = true then
        some (1, (wrI (wrA C_8 1 (C_8.1 4) y8_1) 4 ((C_8.1 4) + 1)))
        else none
      else
        some (0, C_8)) 40 0 0 C
def f_X1_formOf (x0 : Int32) : Option (Nat) :=
  if x0 = 0 then
    some 0
  else
  if x0 = 1 then
    some 1
  else
  if x0 = 2 then
    some 2
  else
  if x0 = 3 then
    some 3
  else
  if x0 = 4 then
    some 4
  else
  if x0 = 5 then
    some 5
  else
  if x0 = 6 then
    some 6
  else
  if x0 = 7 then
    some 7
  else
  if x0 = 8 then
    some 8
  else
  if x0 = 9 then
    some 9
  else
  some 10
def f_X1_readForm_L7 (u1 : Nat) (k : Mem → Option (Int32 × Mem)) : Nat → Int32 → Mem → Option (Int32 × Mem)
  | 0, _, _ => none
  | n + 1, x2, C =>
    if (sLen u1) ≤ x2 then
      k C
    else
      if ib x2 (lenS.getD u1 0) = true then
      if (sAt u1 x2) = 35 then
        (f_X1_readNumber C).bind fun (r8, C_9) =>
        if r8 = 0 then
          some (0, C_9)
        else
          f_X1_readForm_L7 u1 k n (x2 + 1) C_9
      else
        (f_X1_readCharacter C (sAt u1 x2)).bind fun (r4, C_5) =>
        if r4 = 0 then
          some (0, C_5)
        else
          f_X1_readForm_L7 u1 k n (x2 + 1) C_5
      else none
def f_X1_readForm (C : Mem) (u1 : Nat) : Option (Int32 × Mem) :=
  f_X1_readForm_L7 u1
  (fun C_12 =>
    some (1, C_12)) 40 0 (wrI C 4 0)
def f_X1_readCommand_L9 (x1 : Int32) (k : Int32 → Mem → Option (Int32 × Mem)) : Nat → Int32 → Int32 → Mem → Option (Int32 × Mem)
  | 0, _, _, _ => none
  | n + 1, x2, x3, C =>
    if 11 ≤ x3 then
      k x2 C
    else
      (f_X1_formOf x3).bind fun r2 =>
      (f_X1_readForm (wrI C 1 x1) r2).bind fun (r4, C_5) =>
      if r4 = 0 then
        f_X1_readCommand_L9 x1 k n (if x2 < (C_5.1 1) then (C_5.1 1) else x2) (x3 + 1) C_5
      else
        some (1, (wrI C_5 2 x3))
def f_X1_readCommand (C : Mem) : Option (Int32 × Mem) :=
  f_X1_readCommand_L9 (C.1 1)
  (fun y8_2 C_8 =>
    some (0, (wrI C_8 1 y8_2))) 70 (C.1 1) 0 C
def f_X1_countCommands_L6 (k : Mem → Option (Int32 × Mem)) : Nat → Int32 → Mem → Option (Int32 × Mem)
  | 0, _, _ => none
  | n + 1, x1, C =>
    if 60 < x1 then
      k C
    else
      (f_X1_readCommand C).bind fun (r4, C_5) =>
      if r4 = 0 then
        some ((-1), C_5)
      else
        if (C_5.1 1) < (C_5.1 0) then
          if ib (C_5.1 1) 60 = true then
          if (C_5.2 0 (Int32.toNatClampNeg (C_5.1 1))) = 59 then
            (f_X1_skipSemicolon C_5).bind fun C_11 =>
            f_X1_countCommands_L6 k n (x1 + 1) C_11
          else
            some ((-1), C_5)
          else none
        else
          some (x1, C_5)
def f_X1_countCommands (C : Mem) : Option (Int32 × Mem) :=
  (f_X1_rewind C).bind fun C_1 =>
  f_X1_countCommands_L6
  (fun C_13 =>
    some ((-1), C_13)) 70 1 C_1
def f_X7_thrown (M : Mem) : Option (Int32) :=
  some (M.1 0)
def f_X7_fails (M : Mem) (x1 : Int32) : Option (Int32 × Mem) :=
  some (0, (wrI M 0 x1))
def f_X7_in (x0 : Int32) (x1 : Int32) (x2 : Int32) : Option (Int32) :=
  if x0 < x1 then
    some 0
  else
    if x2 < x0 then
      some 0
    else
      some 1
def f_X7_remembers_L7 (k : Mem → Option (Mem)) : Nat → Int32 → Mem → Option (Mem)
  | 0, _, _ => none
  | n + 1, x1, M =>
    if 148 ≤ x1 then
      k M
    else
      if ib x1 148 = true then
      if ib x1 148 = true then
      f_X7_remembers_L7 k n (x1 + 1) (wrA M 1 x1 (M.2 0 (Int32.toNatClampNeg x1)))
      else none
      else none
def f_X7_remembers (M : Mem) : Option (Mem) :=
  f_X7_remembers_L7
  (fun M_4 =>
    some M_4) 1200 0 (wrI M 0 0)
def f_X7_changed_L55 (x1 : Int32) (k : Mem → Option (Int32 × Mem)) : Nat → Int32 → Mem → Option (Int32 × Mem)
  | 0, _, _ => none
  | n + 1, x2, M =>
    if 148 ≤ x2 then
      k M
    else
      if ib x2 148 = true then
      if ib ((148 * ((M.1 1) - 1)) + x2) 1184 = true then
      f_X7_changed_L55 x1 k n (x2 + 1) (wrA M 3 ((148 * ((M.1 1) - 1)) + x2) (M.2 1 (Int32.toNatClampNeg x2)))
      else none
      else none
def f_X7_changed_L11 (x1 : Int32) (k : Mem → Option (Int32 × Mem)) : Nat → Int32 → Mem → Option (Int32 × Mem)
  | 0, _, _ => none
  | n + 1, x2, M =>
    if 1036 ≤ x2 then
      k M
    else
      if ib (x2 + 148) 1184 = true then
      if ib x2 1184 = true then
      f_X7_changed_L11 x1 k n (x2 + 1) (wrA M 3 x2 (M.2 3 (Int32.toNatClampNeg (x2 + 148))))
      else none
      else none
def f_X7_changed (M : Mem) (x1 : Int32) : Option (Int32 × Mem) :=
  if (M.1 1) = 8 then
    f_X7_changed_L11 x1
    (fun M_9 =>
      f_X7_changed_L55 x1
      (fun M_10 =>
        some (x1, M_10)) 1200 0 M_9) 1200 0 M
  else
    f_X7_changed_L55 x1
    (fun M_5 =>
      some (x1, M_5)) 1200 0 (wrI M 1 ((M.1 1) + 1))
def f_X7_done (M : Mem) (x1 : Int32) : Option (Int32 × Mem) :=
  some (0, (wrI M 7 x1))
def f_X7_ends (M : Mem) (x1 : Int32) : Option (Int32 × Mem) :=
  if x1 = 0 then
    (f_X7_changed M (M.1 7)).bind fun (r5, M_6) =>
    some (r5, M_6)
  else
    (f_X7_fails M x1).bind fun (r2, M_3) =>
    some (r2, M_3)
def f_X7_of (M : Mem) (x1 : Int32) (x2 : Int32) : Option (Int32) :=
  if ib ((8 + (7 * x1)) + x2) 148 = true then
  some (M.2 0 (Int32.toNatClampNeg ((8 + (7 * x1)) + x2)))
  else none
def f_X7_sets (M : Mem) (x1 : Int32) (x2 : Int32) (x3 : Int32) : Option (Mem) :=
  if ib ((8 + (7 * x1)) + x2) 148 = true then
  some (wrA M 0 ((8 + (7 * x1)) + x2) x3)
  else none
def f_X7_placeOf_L2 (x1 : Int32) (M : Mem) (k : Option (Int32)) : Nat → Int32 → Option (Int32)
  | 0, _ => none
  | n + 1, x2 =>
    if ib 1 148 = true then
    if (M.2 0 (Int32.toNatClampNeg 1)) ≤ x2 then
      k
    else
      (f_X7_of M x2 0).bind fun r3 =>
      if r3 = x1 then
        some x2
      else
        f_X7_placeOf_L2 x1 M k n (x2 + 1)
    else none
def f_X7_placeOf (M : Mem) (x1 : Int32) : Option (Int32) :=
  f_X7_placeOf_L2 x1 M
  (
    some (-1)) 40 0
def f_X7_isBay (x0 : Int32) : Option (Int32) :=
  (f_X7_in x0 0 23).bind fun r1 =>
  if vp_nar .boolean r1 = r1 then
  some r1
  else none
def f_X7_isKind (x0 : Int32) : Option (Int32) :=
  (f_X7_in x0 97 101).bind fun r1 =>
  if vp_nar .boolean r1 = r1 then
  some r1
  else none
def f_X7_inside_L2 (x1 : Int32) (M : Mem) (k : Option (Int32)) : Nat → Int32 → Option (Int32)
  | 0, _ => none
  | n + 1, x2 =>
    if ib 1 148 = true then
    if (M.2 0 (Int32.toNatClampNeg 1)) ≤ x2 then
      k
    else
      (f_X7_of M x2 4).bind fun r3 =>
      if r3 = x1 then
        some x2
      else
        f_X7_inside_L2 x1 M k n (x2 + 1)
    else none
def f_X7_inside (M : Mem) (x1 : Int32) : Option (Int32) :=
  f_X7_inside_L2 x1 M
  (
    some (-1)) 40 0
def f_X7_many_L4 (x1 : Int32) (M : Mem) (k : Int32 → Option (Int32)) : Nat → Int32 → Int32 → Option (Int32)
  | 0, _, _ => none
  | n + 1, x2, x3 =>
    if ib 1 148 = true then
    if (M.2 0 (Int32.toNatClampNeg 1)) ≤ x3 then
      k x2
    else
      (f_X7_of M x3 x1).bind fun r3 =>
      f_X7_many_L4 x1 M k n (x2 + r3) (x3 + 1)
    else none
def f_X7_many (M : Mem) (x1 : Int32) : Option (Int32) :=
  f_X7_many_L4 x1 M
  (fun y5_2 =>
    some y5_2) 40 0 0
def f_X7_worth (M : Mem) (x1 : Int32) : Option (Int32) :=
  (f_X7_of M x1 2).bind fun r1 =>
  (f_X7_of M x1 3).bind fun r3 =>
  some (r1 * r3)
def f_X7_charged_L4 (x1 : Int32) (M : Mem) (k : Int32 → Option (Int32)) : Nat → Int32 → Int32 → Option (Int32)
  | 0, _, _ => none
  | n + 1, x2, x3 =>
    if ib 2 148 = true then
    if (M.2 0 (Int32.toNatClampNeg 2)) ≤ x3 then
      k x2
    else
      if ib (120 + (2 * x3)) 148 = true then
      if ib 2 148 = true then
      if (M.2 0 (Int32.toNatClampNeg 2)) ≤ (x3 + 1) then
        if x1 ≤ (M.2 0 (Int32.toNatClampNeg (120 + (2 * x3)))) then
          f_X7_charged_L4 x1 M k n (x2 + 0) (x3 + 1)
        else
          if ib ((120 + (2 * x3)) + 1) 148 = true then
          f_X7_charged_L4 x1 M k n (x2 + ((x1 - (M.2 0 (Int32.toNatClampNeg (120 + (2 * x3))))) * (M.2 0 (Int32.toNatClampNeg ((120 + (2 * x3)) + 1))))) (x3 + 1)
          else none
      else
        if ib ((120 + (2 * x3)) + 2) 148 = true then
        if x1 ≤ (M.2 0 (Int32.toNatClampNeg ((120 + (2 * x3)) + 2))) then
          if x1 ≤ (M.2 0 (Int32.toNatClampNeg (120 + (2 * x3)))) then
            f_X7_charged_L4 x1 M k n (x2 + 0) (x3 + 1)
          else
            if ib ((120 + (2 * x3)) + 1) 148 = true then
            f_X7_charged_L4 x1 M k n (x2 + ((x1 - (M.2 0 (Int32.toNatClampNeg (120 + (2 * x3))))) * (M.2 0 (Int32.toNatClampNeg ((120 + (2 * x3)) + 1))))) (x3 + 1)
            else none
        else
          if ib ((120 + (2 * x3)) + 2) 148 = true then
          if (M.2 0 (Int32.toNatClampNeg ((120 + (2 * x3)) + 2))) ≤ (M.2 0 (Int32.toNatClampNeg (120 + (2 * x3)))) then
            f_X7_charged_L4 x1 M k n (x2 + 0) (x3 + 1)
          else
            if ib ((120 + (2 * x3)) + 1) 148 = true then
            f_X7_charged_L4 x1 M k n (x2 + (((M.2 0 (Int32.toNatClampNeg ((120 + (2 * x3)) + 2))) - (M.2 0 (Int32.toNatClampNeg (120 + (2 * x3))))) * (M.2 0 (Int32.toNatClampNeg ((120 + (2 * x3)) + 1))))) (x3 + 1)
            else none
          else none
        else none
      else none
      else none
    else none
def f_X7_charged (M : Mem) (x1 : Int32) : Option (Int32) :=
  f_X7_charged_L4 x1 M
  (fun y15_2 =>
    some (y15_2 / 100)) 40 0 0
def f_X7_owed (M : Mem) (x1 : Int32) : Option (Int32) :=
  (f_X7_of M x1 5).bind fun r1 =>
  if r1 = 1 then
    some 0
  else
    (f_X7_worth M x1).bind fun r4 =>
    (f_X7_charged M r4).bind fun r6 =>
    some r6
def f_X7_waits_L2 (x1 : Int32) (M : Mem) (k : Option (Int32)) : Nat → Int32 → Option (Int32)
  | 0, _ => none
  | n + 1, x2 =>
    if ib 7 148 = true then
    if (M.2 0 (Int32.toNatClampNeg 7)) ≤ x2 then
      k
    else
      if ib (132 + x2) 148 = true then
      if (M.2 0 (Int32.toNatClampNeg (132 + x2))) = x1 then
        some x2
      else
        f_X7_waits_L2 x1 M k n (x2 + 1)
      else none
    else none
def f_X7_waits (M : Mem) (x1 : Int32) : Option (Int32) :=
  f_X7_waits_L2 x1 M
  (
    some (-1)) 40 0
def f_X7_unqueues_L13 (k : Mem → Option (Mem)) : Nat → Int32 → Mem → Option (Mem)
  | 0, _, _ => none
  | n + 1, x2, M =>
    if ib 7 148 = true then
    if (M.2 0 (Int32.toNatClampNeg 7)) ≤ x2 then
      k M
    else
      if ib ((132 + x2) + 1) 148 = true then
      if ib (132 + x2) 148 = true then
      f_X7_unqueues_L13 k n (x2 + 1) (wrA M 0 (132 + x2) (M.2 0 (Int32.toNatClampNeg ((132 + x2) + 1))))
      else none
      else none
    else none
def f_X7_unqueues (M : Mem) (x1 : Int32) : Option (Mem) :=
  if ib 7 148 = true then
  if ib 7 148 = true then
  f_X7_unqueues_L13
  (fun M_7 =>
    if ib 7 148 = true then
    if ib (132 + (M_7.2 0 (Int32.toNatClampNeg 7))) 148 = true then
    some (wrA M_7 0 (132 + (M_7.2 0 (Int32.toNatClampNeg 7))) 0)
    else none
    else none) 40 x1 (wrA M 0 7 ((M.2 0 (Int32.toNatClampNeg 7)) - 1))
  else none
  else none
def f_X7_leaves_L36 (x3 : Int32) (k : Mem → Option (Mem)) : Nat → Int32 → Mem → Option (Mem)
  | 0, _, _ => none
  | n + 1, x4, M =>
    if (7 * x3) ≤ x4 then
      k M
    else
      if ib ((8 + x4) + 7) 148 = true then
      if ib (8 + x4) 148 = true then
      f_X7_leaves_L36 x3 k n (x4 + 1) (wrA M 0 (8 + x4) (M.2 0 (Int32.toNatClampNeg ((8 + x4) + 7))))
      else none
      else none
def f_X7_leaves_L77 (x3 : Int32) (k : Mem → Option (Mem)) : Nat → Int32 → Mem → Option (Mem)
  | 0, _, _ => none
  | n + 1, x4, M =>
    if 7 ≤ x4 then
      k M
    else
      if ib ((8 + (7 * x3)) + x4) 148 = true then
      f_X7_leaves_L77 x3 k n (x4 + 1) (wrA M 0 ((8 + (7 * x3)) + x4) 0)
      else none
def f_X7_leaves (M : Mem) (x1 : Int32) : Option (Mem) :=
  (f_X7_of M x1 0).bind fun r1 =>
  (f_X7_waits M r1).bind fun r3 =>
  if r3 = (-1) then
    if ib 1 148 = true then
    f_X7_leaves_L36 ((M.2 0 (Int32.toNatClampNeg 1)) - 1)
    (fun M_10 =>
      f_X7_leaves_L77 ((M.2 0 (Int32.toNatClampNeg 1)) - 1)
      (fun M_13 =>
        if ib 1 148 = true then
        some (wrA M_13 0 1 ((M.2 0 (Int32.toNatClampNeg 1)) - 1))
        else none) 1200 0 M_10) 1200 (7 * x1) M
    else none
  else
    (f_X7_unqueues M r3).bind fun M_15 =>
    if ib 1 148 = true then
    f_X7_leaves_L36 ((M_15.2 0 (Int32.toNatClampNeg 1)) - 1)
    (fun M_18 =>
      f_X7_leaves_L77 ((M_15.2 0 (Int32.toNatClampNeg 1)) - 1)
      (fun M_19 =>
        if ib 1 148 = true then
        some (wrA M_19 0 1 ((M_15.2 0 (Int32.toNatClampNeg 1)) - 1))
        else none) 1200 0 M_18) 1200 (7 * x1) M_15
    else none
def f_X7_adds (M : Mem) (x1 : Int32) (x2 : Int32) (x3 : Int32) (x4 : Int32) : Option (Int32 × Mem) :=
  (f_X7_isBay x4).bind fun r1 =>
  if r1 = 0 then
    some (1, M)
  else
    (f_X7_isKind x1).bind fun r4 =>
    if r4 = 0 then
      some (2, M)
    else
      (f_X7_in x2 1 99).bind fun r7 =>
      if r7 = 0 then
        some (2, M)
      else
        (f_X7_in x3 1 99).bind fun r10 =>
        if r10 = 0 then
          some (2, M)
        else
          if ib 1 148 = true then
          if (M.2 0 (Int32.toNatClampNeg 1)) = 16 then
            some (3, M)
          else
            (f_X7_inside M x4).bind fun r15 =>
            if r15 = (-1) then
              if ib 0 148 = true then
              (f_X7_sets M (M.2 0 (Int32.toNatClampNeg 1)) 0 (M.2 0 (Int32.toNatClampNeg 0))).bind fun M_19 =>
              (f_X7_sets M_19 (M.2 0 (Int32.toNatClampNeg 1)) 1 x1).bind fun M_21 =>
              (f_X7_sets M_21 (M.2 0 (Int32.toNatClampNeg 1)) 2 x2).bind fun M_23 =>
              (f_X7_sets M_23 (M.2 0 (Int32.toNatClampNeg 1)) 3 x3).bind fun M_25 =>
              (f_X7_sets M_25 (M.2 0 (Int32.toNatClampNeg 1)) 4 x4).bind fun M_27 =>
              (f_X7_sets M_27 (M.2 0 (Int32.toNatClampNeg 1)) 5 1).bind fun M_29 =>
              (f_X7_sets M_29 (M.2 0 (Int32.toNatClampNeg 1)) 6 0).bind fun M_31 =>
              if ib 1 148 = true then
              if ib 0 148 = true then
              if ib 0 148 = true then
              if ib 0 148 = true then
              (f_X7_done (wrA (wrA M_31 0 1 ((M.2 0 (Int32.toNatClampNeg 1)) + 1)) 0 0 (((wrA M_31 0 1 ((M.2 0 (Int32.toNatClampNeg 1)) + 1)).2 0 (Int32.toNatClampNeg 0)) + 1)) (((wrA (wrA M_31 0 1 ((M.2 0 (Int32.toNatClampNeg 1)) + 1)) 0 0 (((wrA M_31 0 1 ((M.2 0 (Int32.toNatClampNeg 1)) + 1)).2 0 (Int32.toNatClampNeg 0)) + 1)).2 0 (Int32.toNatClampNeg 0)) - 1)).bind fun (r37, M_38) =>
              some (r37, M_38)
              else none
              else none
              else none
              else none
              else none
            else
              some (4, M)
          else none
def f_X7_seals (M : Mem) (x1 : Int32) : Option (Int32 × Mem) :=
  (f_X7_placeOf M x1).bind fun r1 =>
  if r1 = (-1) then
    some (1, M)
  else
    (f_X7_of M r1 5).bind fun r4 =>
    if r4 = 1 then
      some (2, M)
    else
      (f_X7_of M r1 6).bind fun r7 =>
      if r7 = 1 then
        some (3, M)
      else
        (f_X7_sets M r1 5 1).bind fun M_10 =>
        (f_X7_many M_10 5).bind fun r12 =>
        (f_X7_done M_10 r12).bind fun (r14, M_15) =>
        some (r14, M_15)
def f_X7_opens (M : Mem) (x1 : Int32) : Option (Int32 × Mem) :=
  (f_X7_placeOf M x1).bind fun r1 =>
  if r1 = (-1) then
    some (1, M)
  else
    (f_X7_of M r1 5).bind fun r4 =>
    if r4 = 0 then
      some (2, M)
    else
      (f_X7_sets M r1 5 0).bind fun M_7 =>
      (f_X7_many M_7 5).bind fun r9 =>
      (f_X7_done M_7 r9).bind fun (r11, M_12) =>
      some (r11, M_12)
def f_X7_wets (M : Mem) (x1 : Int32) : Option (Int32 × Mem) :=
  (f_X7_placeOf M x1).bind fun r1 =>
  if r1 = (-1) then
    some (1, M)
  else
    (f_X7_of M r1 5).bind fun r4 =>
    if r4 = 1 then
      some (2, M)
    else
      (f_X7_of M r1 6).bind fun r7 =>
      if r7 = 1 then
        some (2, M)
      else
        (f_X7_sets M r1 6 1).bind fun M_10 =>
        (f_X7_many M_10 6).bind fun r12 =>
        (f_X7_done M_10 r12).bind fun (r14, M_15) =>
        some (r14, M_15)
def f_X7_moves (M : Mem) (x1 : Int32) (x2 : Int32) : Option (Int32 × Mem) :=
  (f_X7_placeOf M x1).bind fun r1 =>
  if r1 = (-1) then
    some (1, M)
  else
    (f_X7_isBay x2).bind fun r4 =>
    if r4 = 0 then
      some (2, M)
    else
      (f_X7_inside M x2).bind fun r7 =>
      if r7 = (-1) then
        (f_X7_of M r1 4).bind fun r10 =>
        (f_X7_sets M r1 4 x2).bind fun M_12 =>
        (f_X7_done M_12 r10).bind fun (r14, M_15) =>
        some (r14, M_15)
      else
        some (3, M)
def f_X7_addsStep_L33 (x1 : Int32) (x2 : Int32) (x3 : Int32) (M : Mem) (k : Option (Int32 × Mem)) : Nat → Int32 → Option (Int32 × Mem)
  | 0, _ => none
  | n + 1, x4 =>
    if x3 ≤ x4 then
      k
    else
      if ib (120 + (2 * x4)) 148 = true then
      if (M.2 0 (Int32.toNatClampNeg (120 + (2 * x4)))) = x1 then
        some (2, M)
      else
        f_X7_addsStep_L33 x1 x2 x3 M k n (x4 + 1)
      else none
def f_X7_addsStep_L71 (x1 : Int32) (x2 : Int32) (k : Int32 → Mem → Option (Int32 × Mem)) : Nat → Int32 → Mem → Option (Int32 × Mem)
  | 0, _, _ => none
  | n + 1, x3, M =>
    if x3 ≤ 0 then
      k x3 M
    else
      if ib ((120 + (2 * x3)) - 2) 148 = true then
      if (M.2 0 (Int32.toNatClampNeg ((120 + (2 * x3)) - 2))) ≤ x1 then
        k x3 M
      else
        if ib ((120 + (2 * x3)) - 2) 148 = true then
        if ib (120 + (2 * x3)) 148 = true then
        if ib ((120 + (2 * x3)) - 1) 148 = true then
        if ib ((120 + (2 * x3)) + 1) 148 = true then
        f_X7_addsStep_L71 x1 x2 k n (x3 + (-1)) (wrA (wrA M 0 (120 + (2 * x3)) (M.2 0 (Int32.toNatClampNeg ((120 + (2 * x3)) - 2)))) 0 ((120 + (2 * x3)) + 1) ((wrA M 0 (120 + (2 * x3)) (M.2 0 (Int32.toNatClampNeg ((120 + (2 * x3)) - 2)))).2 0 (Int32.toNatClampNeg ((120 + (2 * x3)) - 1))))
        else none
        else none
        else none
        else none
      else none
def f_X7_addsStep (M : Mem) (x1 : Int32) (x2 : Int32) : Option (Int32 × Mem) :=
  (f_X7_in x1 0 9999).bind fun r1 =>
  if r1 = 0 then
    some (1, M)
  else
    (f_X7_in x2 0 100).bind fun r4 =>
    if r4 = 0 then
      some (1, M)
    else
      if ib 2 148 = true then
      f_X7_addsStep_L33 x1 x2 (M.2 0 (Int32.toNatClampNeg 2)) M
      (
        if (M.2 0 (Int32.toNatClampNeg 2)) = 6 then
          some (3, M)
        else
          f_X7_addsStep_L71 x1 x2
          (fun y20_3 M_20 =>
            if ib (120 + (2 * y20_3)) 148 = true then
            if ib ((120 + (2 * y20_3)) + 1) 148 = true then
            if ib 2 148 = true then
            if ib 2 148 = true then
            if ib 2 148 = true then
            (f_X7_done (wrA (wrA (wrA M_20 0 (120 + (2 * y20_3)) x1) 0 ((120 + (2 * y20_3)) + 1) x2) 0 2 (((wrA (wrA M_20 0 (120 + (2 * y20_3)) x1) 0 ((120 + (2 * y20_3)) + 1) x2).2 0 (Int32.toNatClampNeg 2)) + 1)) ((wrA (wrA (wrA M_20 0 (120 + (2 * y20_3)) x1) 0 ((120 + (2 * y20_3)) + 1) x2) 0 2 (((wrA (wrA M_20 0 (120 + (2 * y20_3)) x1) 0 ((120 + (2 * y20_3)) + 1) x2).2 0 (Int32.toNatClampNeg 2)) + 1)).2 0 (Int32.toNatClampNeg 2))).bind fun (r26, M_27) =>
            some (r26, M_27)
            else none
            else none
            else none
            else none
            else none) 40 (M.2 0 (Int32.toNatClampNeg 2)) M) 40 0
      else none
def f_X7_removesStep_L2 (x1 : Int32) (M : Mem) (k : Int32 → Option (Int32 × Mem)) : Nat → Int32 → Option (Int32 × Mem)
  | 0, _ => none
  | n + 1, x2 =>
    if ib 2 148 = true then
    if (M.2 0 (Int32.toNatClampNeg 2)) ≤ x2 then
      k x2
    else
      if ib (120 + (2 * x2)) 148 = true then
      if (M.2 0 (Int32.toNatClampNeg (120 + (2 * x2)))) = x1 then
        k x2
      else
        f_X7_removesStep_L2 x1 M k n (x2 + 1)
      else none
    else none
def f_X7_removesStep_L74 (x3 : Int32) (k : Mem → Option (Int32 × Mem)) : Nat → Int32 → Mem → Option (Int32 × Mem)
  | 0, _, _ => none
  | n + 1, x4, M =>
    if ib 2 148 = true then
    if (2 * (M.2 0 (Int32.toNatClampNeg 2))) ≤ x4 then
      k M
    else
      if ib ((120 + x4) + 2) 148 = true then
      if ib (120 + x4) 148 = true then
      f_X7_removesStep_L74 x3 k n (x4 + 1) (wrA M 0 (120 + x4) (M.2 0 (Int32.toNatClampNeg ((120 + x4) + 2))))
      else none
      else none
    else none
def f_X7_removesStep (M : Mem) (x1 : Int32) : Option (Int32 × Mem) :=
  f_X7_removesStep_L2 x1 M
  (fun y5_2 =>
    if ib 2 148 = true then
    if y5_2 = (M.2 0 (Int32.toNatClampNeg 2)) then
      some (1, M)
    else
      if ib ((120 + (2 * y5_2)) + 1) 148 = true then
      if ib 2 148 = true then
      if ib 2 148 = true then
      f_X7_removesStep_L74 (M.2 0 (Int32.toNatClampNeg ((120 + (2 * y5_2)) + 1)))
      (fun M_15 =>
        if ib 2 148 = true then
        if ib (120 + (2 * (M_15.2 0 (Int32.toNatClampNeg 2)))) 148 = true then
        if ib 2 148 = true then
        if ib ((120 + (2 * ((wrA M_15 0 (120 + (2 * (M_15.2 0 (Int32.toNatClampNeg 2)))) 0).2 0 (Int32.toNatClampNeg 2)))) + 1) 148 = true then
        (f_X7_done (wrA (wrA M_15 0 (120 + (2 * (M_15.2 0 (Int32.toNatClampNeg 2)))) 0) 0 ((120 + (2 * ((wrA M_15 0 (120 + (2 * (M_15.2 0 (Int32.toNatClampNeg 2)))) 0).2 0 (Int32.toNatClampNeg 2)))) + 1) 0) (M.2 0 (Int32.toNatClampNeg ((120 + (2 * y5_2)) + 1)))).bind fun (r20, M_21) =>
        some (r20, M_21)
        else none
        else none
        else none
        else none) 40 (2 * y5_2) (wrA M 0 2 ((M.2 0 (Int32.toNatClampNeg 2)) - 1))
      else none
      else none
      else none
    else none) 40 0
def f_X7_oneDay_L2 (k : Mem → Option (Int32 × Mem)) : Nat → Int32 → Mem → Option (Int32 × Mem)
  | 0, _, _ => none
  | n + 1, x1, M =>
    if 24 ≤ x1 then
      k M
    else
      if ib x1 24 = true then
      f_X7_oneDay_L2 k n (x1 + 1) (wrA M 8 x1 0)
      else none
def f_X7_oneDay_L23 (k : Mem → Option (Int32 × Mem)) : Nat → Int32 → Mem → Option (Int32 × Mem)
  | 0, _, _ => none
  | n + 1, x1, M =>
    if ib 1 148 = true then
    if (M.2 0 (Int32.toNatClampNeg 1)) ≤ x1 then
      k M
    else
      (f_X7_of M x1 4).bind fun r6 =>
      (f_X7_of M x1 6).bind fun r8 =>
      if ib r6 24 = true then
      f_X7_oneDay_L23 k n (x1 + 1) (wrA M 8 r6 r8)
      else none
    else none
def f_X7_oneDay_L59 (k : Mem → Option (Int32 × Mem)) : Nat → Int32 → Mem → Option (Int32 × Mem)
  | 0, _, _ => none
  | n + 1, x1, M =>
    if ib 1 148 = true then
    if (M.2 0 (Int32.toNatClampNeg 1)) ≤ x1 then
      k M
    else
      (f_X7_of M x1 4).bind fun r14 =>
      if r14 ≤ 0 then
        if 24 ≤ (r14 + 1) then
          (f_X7_of M x1 5).bind fun r18 =>
          if r18 = 0 then
            f_X7_oneDay_L59 k n (x1 + 1) M
          else
            f_X7_oneDay_L59 k n (x1 + 1) M
        else
          if ib (r14 + 1) 24 = true then
          if (M.2 8 (Int32.toNatClampNeg (r14 + 1))) = 1 then
            (f_X7_of M x1 5).bind fun r26 =>
            if r26 = 0 then
              (f_X7_sets M x1 6 1).bind fun M_29 =>
              f_X7_oneDay_L59 k n (x1 + 1) M_29
            else
              f_X7_oneDay_L59 k n (x1 + 1) M
          else
            (f_X7_of M x1 5).bind fun r23 =>
            if r23 = 0 then
              f_X7_oneDay_L59 k n (x1 + 1) M
            else
              f_X7_oneDay_L59 k n (x1 + 1) M
          else none
      else
        if ib (r14 - 1) 24 = true then
        if (M.2 8 (Int32.toNatClampNeg (r14 - 1))) = 1 then
          (f_X7_of M x1 5).bind fun r33 =>
          if r33 = 0 then
            (f_X7_sets M x1 6 1).bind fun M_36 =>
            f_X7_oneDay_L59 k n (x1 + 1) M_36
          else
            f_X7_oneDay_L59 k n (x1 + 1) M
        else
          if 24 ≤ (r14 + 1) then
            (f_X7_of M x1 5).bind fun r39 =>
            if r39 = 0 then
              f_X7_oneDay_L59 k n (x1 + 1) M
            else
              f_X7_oneDay_L59 k n (x1 + 1) M
          else
            if ib (r14 + 1) 24 = true then
            if (M.2 8 (Int32.toNatClampNeg (r14 + 1))) = 1 then
              (f_X7_of M x1 5).bind fun r47 =>
              if r47 = 0 then
                (f_X7_sets M x1 6 1).bind fun M_50 =>
                f_X7_oneDay_L59 k n (x1 + 1) M_50
              else
                f_X7_oneDay_L59 k n (x1 + 1) M
            else
              (f_X7_of M x1 5).bind fun r44 =>
              if r44 = 0 then
                f_X7_oneDay_L59 k n (x1 + 1) M
              else
                f_X7_oneDay_L59 k n (x1 + 1) M
            else none
        else none
    else none
def f_X7_oneDay_L156 (k : Int32 → Mem → Option (Int32 × Mem)) : Nat → Int32 → Int32 → Mem → Option (Int32 × Mem)
  | 0, _, _, _ => none
  | n + 1, x1, x2, M =>
    if x2 < 0 then
      k x1 M
    else
      (f_X7_of M x2 4).bind fun r55 =>
      if ib r55 24 = true then
      if (M.2 8 (Int32.toNatClampNeg r55)) = 0 then
        f_X7_oneDay_L156 k n x1 (x2 + (-1)) M
      else
        (f_X7_of M x2 2).bind fun r59 =>
        (f_X7_sets M x2 2 (r59 - 1)).bind fun M_61 =>
        (f_X7_of M_61 x2 2).bind fun r63 =>
        if r63 ≤ 0 then
          (f_X7_leaves M_61 x2).bind fun M_66 =>
          f_X7_oneDay_L156 k n (x1 + 1) (x2 + (-1)) M_66
        else
          f_X7_oneDay_L156 k n x1 (x2 + (-1)) M_61
      else none
def f_X7_oneDay (M : Mem) : Option (Int32 × Mem) :=
  f_X7_oneDay_L2
  (fun M_3 =>
    f_X7_oneDay_L23
    (fun M_11 =>
      f_X7_oneDay_L59
      (fun M_52 =>
        if ib 1 148 = true then
        f_X7_oneDay_L156
        (fun y68_1 M_68 =>
          if ib 3 148 = true then
          if ib 3 148 = true then
          if ib 6 148 = true then
          if ib 6 148 = true then
          some (y68_1, (wrA (wrA M_68 0 3 ((M_68.2 0 (Int32.toNatClampNeg 3)) + 1)) 0 6 (((wrA M_68 0 3 ((M_68.2 0 (Int32.toNatClampNeg 3)) + 1)).2 0 (Int32.toNatClampNeg 6)) + y68_1)))
          else none
          else none
          else none
          else none) 40 0 ((M_52.2 0 (Int32.toNatClampNeg 1)) - 1) M_52
        else none) 40 0 M_11) 40 0 M_3) 40 0 M
def f_X7_passes_L16 (x1 : Int32) (k : Int32 → Mem → Option (Int32 × Mem)) : Nat → Int32 → Int32 → Mem → Option (Int32 × Mem)
  | 0, _, _, _ => none
  | n + 1, x2, x3, M =>
    if x1 ≤ x3 then
      k x2 M
    else
      (f_X7_oneDay M).bind fun (r5, M_6) =>
      f_X7_passes_L16 x1 k n (x2 + r5) (x3 + 1) M_6
def f_X7_passes (M : Mem) (x1 : Int32) : Option (Int32 × Mem) :=
  (f_X7_in x1 1 30).bind fun r1 =>
  if r1 = 0 then
    some (1, M)
  else
    f_X7_passes_L16 x1
    (fun y8_2 M_8 =>
      (f_X7_done M_8 y8_2).bind fun (r9, M_10) =>
      some (r9, M_10)) 40 0 0 M
def f_X7_joins (M : Mem) (x1 : Int32) : Option (Int32 × Mem) :=
  (f_X7_placeOf M x1).bind fun r1 =>
  if r1 = (-1) then
    some (1, M)
  else
    (f_X7_waits M x1).bind fun r4 =>
    if r4 = (-1) then
      if ib 7 148 = true then
      if ib (132 + (M.2 0 (Int32.toNatClampNeg 7))) 148 = true then
      if ib 7 148 = true then
      if ib 7 148 = true then
      if ib 7 148 = true then
      (f_X7_done (wrA (wrA M 0 (132 + (M.2 0 (Int32.toNatClampNeg 7))) x1) 0 7 (((wrA M 0 (132 + (M.2 0 (Int32.toNatClampNeg 7))) x1).2 0 (Int32.toNatClampNeg 7)) + 1)) ((wrA (wrA M 0 (132 + (M.2 0 (Int32.toNatClampNeg 7))) x1) 0 7 (((wrA M 0 (132 + (M.2 0 (Int32.toNatClampNeg 7))) x1).2 0 (Int32.toNatClampNeg 7)) + 1)).2 0 (Int32.toNatClampNeg 7))).bind fun (r12, M_13) =>
      some (r12, M_13)
      else none
      else none
      else none
      else none
      else none
    else
      some (2, M)
def f_X7_audits (M : Mem) : Option (Int32 × Mem) :=
  if ib 7 148 = true then
  if (M.2 0 (Int32.toNatClampNeg 7)) = 0 then
    some (1, M)
  else
    if ib 132 148 = true then
    (f_X7_unqueues M 0).bind fun M_4 =>
    (f_X7_placeOf M_4 (M.2 0 (Int32.toNatClampNeg 132))).bind fun r6 =>
    (f_X7_sets M_4 r6 5 0).bind fun M_8 =>
    (f_X7_done M_8 (M.2 0 (Int32.toNatClampNeg 132))).bind fun (r10, M_11) =>
    some (r10, M_11)
    else none
  else none
def f_X7_deposits (M : Mem) (x1 : Int32) : Option (Int32 × Mem) :=
  (f_X7_in x1 1 999).bind fun r1 =>
  if r1 = 0 then
    some (1, M)
  else
    if ib 4 148 = true then
    if ((M.2 0 (Int32.toNatClampNeg 4)) + x1) ≤ 9999 then
      if ib 4 148 = true then
      if ib 4 148 = true then
      if ib 4 148 = true then
      (f_X7_done (wrA M 0 4 ((M.2 0 (Int32.toNatClampNeg 4)) + x1)) ((wrA M 0 4 ((M.2 0 (Int32.toNatClampNeg 4)) + x1)).2 0 (Int32.toNatClampNeg 4))).bind fun (r9, M_10) =>
      some (r9, M_10)
      else none
      else none
      else none
    else
      some (2, M)
    else none
def f_X7_releases (M : Mem) (x1 : Int32) : Option (Int32 × Mem) :=
  (f_X7_placeOf M x1).bind fun r1 =>
  if r1 = (-1) then
    some (1, M)
  else
    (f_X7_owed M r1).bind fun r4 =>
    if ib 4 148 = true then
    if r4 ≤ (M.2 0 (Int32.toNatClampNeg 4)) then
      if ib 4 148 = true then
      if ib 4 148 = true then
      if ib 5 148 = true then
      if ib 5 148 = true then
      (f_X7_leaves (wrA (wrA M 0 4 ((M.2 0 (Int32.toNatClampNeg 4)) - r4)) 0 5 (((wrA M 0 4 ((M.2 0 (Int32.toNatClampNeg 4)) - r4)).2 0 (Int32.toNatClampNeg 5)) + r4)) r1).bind fun M_12 =>
      (f_X7_done M_12 r4).bind fun (r14, M_15) =>
      some (r14, M_15)
      else none
      else none
      else none
      else none
    else
      some (2, M)
    else none
def f_X7_addLot (M : Mem) (x1 : Int32) (x2 : Int32) (x3 : Int32) (x4 : Int32) : Option (Int32 × Mem) :=
  (f_X7_remembers M).bind fun M_1 =>
  (f_X7_adds M_1 x1 x2 x3 x4).bind fun (r3, M_4) =>
  (f_X7_ends M_4 r3).bind fun (r6, M_7) =>
  some (r6, M_7)
def f_X7_seal (M : Mem) (x1 : Int32) : Option (Int32 × Mem) :=
  (f_X7_remembers M).bind fun M_1 =>
  (f_X7_seals M_1 x1).bind fun (r3, M_4) =>
  (f_X7_ends M_4 r3).bind fun (r6, M_7) =>
  some (r6, M_7)
def f_X7_open (M : Mem) (x1 : Int32) : Option (Int32 × Mem) :=
  (f_X7_remembers M).bind fun M_1 =>
  (f_X7_opens M_1 x1).bind fun (r3, M_4) =>
  (f_X7_ends M_4 r3).bind fun (r6, M_7) =>
  some (r6, M_7)
def f_X7_wet (M : Mem) (x1 : Int32) : Option (Int32 × Mem) :=
  (f_X7_remembers M).bind fun M_1 =>
  (f_X7_wets M_1 x1).bind fun (r3, M_4) =>
  (f_X7_ends M_4 r3).bind fun (r6, M_7) =>
  some (r6, M_7)
def f_X7_move (M : Mem) (x1 : Int32) (x2 : Int32) : Option (Int32 × Mem) :=
  (f_X7_remembers M).bind fun M_1 =>
  (f_X7_moves M_1 x1 x2).bind fun (r3, M_4) =>
  (f_X7_ends M_4 r3).bind fun (r6, M_7) =>
  some (r6, M_7)
def f_X7_lotCount (M : Mem) : Option (Int32 × Mem) :=
  if ib 1 148 = true then
  some ((M.2 0 (Int32.toNatClampNeg 1)), (wrI M 0 0))
  else none
def f_X7_lot (M : Mem) (x1 : Int32) : Option (Int32 × Mem) :=
  if ib 1 148 = true then
  (f_X7_in x1 0 ((M.2 0 (Int32.toNatClampNeg 1)) - 1)).bind fun r2 =>
  if r2 = 0 then
    some (0, (wrI M 0 1))
  else
    (f_X7_of (wrI M 0 0) x1 0).bind fun r5 =>
    some (r5, (wrI M 0 0))
  else none
def f_X7_asked (M : Mem) (x1 : Int32) (x2 : Int32) : Option (Int32 × Mem) :=
  (f_X7_placeOf M x1).bind fun r1 =>
  if r1 = (-1) then
    some (0, (wrI M 0 1))
  else
    (f_X7_of (wrI M 0 0) r1 x2).bind fun r4 =>
    some (r4, (wrI M 0 0))
def f_X7_kind (M : Mem) (x1 : Int32) : Option (Int32 × Mem) :=
  (f_X7_asked M x1 1).bind fun (r1, M_2) =>
  some (((r1.toUInt32 % 65536).toInt32), M_2)
def f_X7_quantity (M : Mem) (x1 : Int32) : Option (Int32 × Mem) :=
  (f_X7_asked M x1 2).bind fun (r1, M_2) =>
  some (r1, M_2)
def f_X7_price (M : Mem) (x1 : Int32) : Option (Int32 × Mem) :=
  (f_X7_asked M x1 3).bind fun (r1, M_2) =>
  some (r1, M_2)
def f_X7_value (M : Mem) (x1 : Int32) : Option (Int32 × Mem) :=
  (f_X7_asked M x1 2).bind fun (r1, M_2) =>
  (f_X7_asked M_2 x1 3).bind fun (r4, M_5) =>
  some ((r1 * r4), M_5)
def f_X7_bay (M : Mem) (x1 : Int32) : Option (Int32 × Mem) :=
  (f_X7_asked M x1 4).bind fun (r1, M_2) =>
  some (r1, M_2)
def f_X7_isSealed (M : Mem) (x1 : Int32) : Option (Int32 × Mem) :=
  (f_X7_asked M x1 5).bind fun (r1, M_2) =>
  if r1 = 1 then
    some (1, M_2)
  else
    some (0, M_2)
def f_X7_isDamp (M : Mem) (x1 : Int32) : Option (Int32 × Mem) :=
  (f_X7_asked M x1 6).bind fun (r1, M_2) =>
  if r1 = 1 then
    some (1, M_2)
  else
    some (0, M_2)
def f_X7_lotAt (M : Mem) (x1 : Int32) : Option (Int32 × Mem) :=
  (f_X7_isBay x1).bind fun r1 =>
  if r1 = 0 then
    some (0, (wrI M 0 1))
  else
    (f_X7_inside M x1).bind fun r4 =>
    if r4 = (-1) then
      some (0, (wrI M 0 2))
    else
      (f_X7_inside (wrI M 0 0) x1).bind fun r7 =>
      (f_X7_of (wrI M 0 0) r7 0).bind fun r9 =>
      some (r9, (wrI M 0 0))
def f_X7_nextEmptyBay_L27 (M : Mem) (k : Option (Int32 × Mem)) : Nat → Int32 → Option (Int32 × Mem)
  | 0, _ => none
  | n + 1, x2 =>
    if 24 ≤ x2 then
      k
    else
      (f_X7_inside M x2).bind fun r5 =>
      if r5 = (-1) then
        some (x2, M)
      else
        f_X7_nextEmptyBay_L27 M k n (x2 + 1)
def f_X7_nextEmptyBay (M : Mem) (x1 : Int32) : Option (Int32 × Mem) :=
  (f_X7_isBay x1).bind fun r1 =>
  if r1 = 0 then
    some (0, (wrI M 0 1))
  else
    f_X7_nextEmptyBay_L27 (wrI M 0 0)
    (
      (f_X7_fails (wrI M 0 0) 2).bind fun (r9, M_10) =>
      some (r9, M_10)) 40 x1
def f_X7_quantityOfKind_L20 (x1 : Int32) (M : Mem) (k : Int32 → Option (Int32 × Mem)) : Nat → Int32 → Int32 → Option (Int32 × Mem)
  | 0, _, _ => none
  | n + 1, x2, x3 =>
    if ib 1 148 = true then
    if (M.2 0 (Int32.toNatClampNeg 1)) ≤ x3 then
      k x2
    else
      if (M.1 0) = 0 then
        (f_X7_of M x3 1).bind fun r7 =>
        if r7 = x1 then
          (f_X7_of M x3 2).bind fun r10 =>
          f_X7_quantityOfKind_L20 x1 M k n (x2 + r10) (x3 + 1)
        else
          f_X7_quantityOfKind_L20 x1 M k n (x2 + 0) (x3 + 1)
      else
        k x2
    else none
def f_X7_quantityOfKind (M : Mem) (x1 : Int32) : Option (Int32 × Mem) :=
  (f_X7_isKind x1).bind fun r1 =>
  if r1 = 0 then
    f_X7_quantityOfKind_L20 x1 (wrI M 0 1)
    (fun y12_2 =>
      some (y12_2, (wrI M 0 1))) 40 0 0
  else
    f_X7_quantityOfKind_L20 x1 (wrI M 0 0)
    (fun y13_2 =>
      some (y13_2, (wrI M 0 0))) 40 0 0
def f_X7_lotByValue_L22 (x1 : Int32) (x2 : Int32) (M : Mem) (k : Int32 → Option (Int32 × Mem)) : Nat → Int32 → Int32 → Option (Int32 × Mem)
  | 0, _, _ => none
  | n + 1, x3, x4 =>
    if ib 1 148 = true then
    if (M.2 0 (Int32.toNatClampNeg 1)) ≤ x4 then
      k x3
    else
      (f_X7_worth M x4).bind fun r5 =>
      (f_X7_worth M x2).bind fun r7 =>
      if r7 < r5 then
        f_X7_lotByValue_L22 x1 x2 M k n (x3 + 1) (x4 + 1)
      else
        (f_X7_worth M x4).bind fun r10 =>
        (f_X7_worth M x2).bind fun r12 =>
        if r10 = r12 then
          if x2 ≤ x4 then
            f_X7_lotByValue_L22 x1 x2 M k n (x3 + 0) (x4 + 1)
          else
            f_X7_lotByValue_L22 x1 x2 M k n (x3 + 1) (x4 + 1)
        else
          f_X7_lotByValue_L22 x1 x2 M k n (x3 + 0) (x4 + 1)
    else none
def f_X7_lotByValue_L7 (x1 : Int32) (M : Mem) (k : Option (Int32 × Mem)) : Nat → Int32 → Option (Int32 × Mem)
  | 0, _ => none
  | n + 1, x2 =>
    if ib 1 148 = true then
    if (M.2 0 (Int32.toNatClampNeg 1)) ≤ x2 then
      k
    else
      f_X7_lotByValue_L22 x1 x2 M
      (fun y16_3 =>
        if y16_3 = x1 then
          (f_X7_of M x2 0).bind fun r18 =>
          some (r18, M)
        else
          f_X7_lotByValue_L7 x1 M k n (x2 + 1)) 40 0 0
    else none
def f_X7_lotByValue (M : Mem) (x1 : Int32) : Option (Int32 × Mem) :=
  f_X7_lotByValue_L7 x1 (wrI M 0 0)
  (
    (f_X7_fails (wrI M 0 0) 1).bind fun (r21, M_22) =>
    some (r21, M_22)) 40 0
def f_X7_addStep (M : Mem) (x1 : Int32) (x2 : Int32) : Option (Int32 × Mem) :=
  (f_X7_remembers M).bind fun M_1 =>
  (f_X7_addsStep M_1 x1 x2).bind fun (r3, M_4) =>
  (f_X7_ends M_4 r3).bind fun (r6, M_7) =>
  some (r6, M_7)
def f_X7_removeStep (M : Mem) (x1 : Int32) : Option (Int32 × Mem) :=
  (f_X7_remembers M).bind fun M_1 =>
  (f_X7_removesStep M_1 x1).bind fun (r3, M_4) =>
  (f_X7_ends M_4 r3).bind fun (r6, M_7) =>
  some (r6, M_7)
def f_X7_stepCount (M : Mem) : Option (Int32 × Mem) :=
  if ib 2 148 = true then
  some ((M.2 0 (Int32.toNatClampNeg 2)), (wrI M 0 0))
  else none
def f_X7_threshold (M : Mem) (x1 : Int32) : Option (Int32 × Mem) :=
  if ib 2 148 = true then
  (f_X7_in x1 0 ((M.2 0 (Int32.toNatClampNeg 2)) - 1)).bind fun r2 =>
  if r2 = 0 then
    some (0, (wrI M 0 1))
  else
    if ib (120 + (2 * x1)) 148 = true then
    some ((M.2 0 (Int32.toNatClampNeg (120 + (2 * x1)))), (wrI M 0 0))
    else none
  else none
def f_X7_rate (M : Mem) (x1 : Int32) : Option (Int32 × Mem) :=
  if ib 2 148 = true then
  (f_X7_in x1 0 ((M.2 0 (Int32.toNatClampNeg 2)) - 1)).bind fun r2 =>
  if r2 = 0 then
    some (0, (wrI M 0 1))
  else
    if ib ((120 + (2 * x1)) + 1) 148 = true then
    some ((M.2 0 (Int32.toNatClampNeg ((120 + (2 * x1)) + 1))), (wrI M 0 0))
    else none
  else none
def f_X7_dutyOn (M : Mem) (x1 : Int32) : Option (Int32 × Mem) :=
  (f_X7_in x1 0 9999).bind fun r1 =>
  if r1 = 0 then
    some (0, (wrI M 0 1))
  else
    (f_X7_charged (wrI M 0 0) x1).bind fun r4 =>
    some (r4, (wrI M 0 0))
def f_X7_dutyOnByCoins (M : Mem) (x1 : Int32) : Option (Int32 × Mem) :=
  (f_X7_dutyOn M x1).bind fun (r1, M_2) =>
  some (r1, M_2)
def f_X7_duty (M : Mem) (x1 : Int32) : Option (Int32 × Mem) :=
  (f_X7_placeOf M x1).bind fun r1 =>
  if r1 = (-1) then
    some (0, (wrI M 0 1))
  else
    (f_X7_owed (wrI M 0 0) r1).bind fun r4 =>
    some (r4, (wrI M 0 0))
def f_X7_totalDuty_L9 (M : Mem) (k : Int32 → Option (Int32 × Mem)) : Nat → Int32 → Int32 → Option (Int32 × Mem)
  | 0, _, _ => none
  | n + 1, x1, x2 =>
    if ib 1 148 = true then
    if (M.2 0 (Int32.toNatClampNeg 1)) ≤ x2 then
      k x1
    else
      (f_X7_owed M x2).bind fun r3 =>
      f_X7_totalDuty_L9 M k n (x1 + r3) (x2 + 1)
    else none
def f_X7_totalDuty (M : Mem) : Option (Int32 × Mem) :=
  f_X7_totalDuty_L9 (wrI M 0 0)
  (fun y5_1 =>
    some (y5_1, (wrI M 0 0))) 40 0 0
def f_X7_totalDutyByBays (M : Mem) : Option (Int32 × Mem) :=
  (f_X7_totalDuty M).bind fun (r1, M_2) =>
  some (r1, M_2)
def f_X7_passDays (M : Mem) (x1 : Int32) : Option (Int32 × Mem) :=
  (f_X7_remembers M).bind fun M_1 =>
  (f_X7_passes M_1 x1).bind fun (r3, M_4) =>
  (f_X7_ends M_4 r3).bind fun (r6, M_7) =>
  some (r6, M_7)
def f_X7_day (M : Mem) : Option (Int32 × Mem) :=
  if ib 3 148 = true then
  some ((M.2 0 (Int32.toNatClampNeg 3)), (wrI M 0 0))
  else none
def f_X7_dampCount (M : Mem) : Option (Int32 × Mem) :=
  (f_X7_many (wrI M 0 0) 6).bind fun r1 =>
  some (r1, (wrI M 0 0))
def f_X7_dampAfter_L30 (x1 : Int32) (k : Mem → Option (Int32 × Mem)) : Nat → Int32 → Mem → Option (Int32 × Mem)
  | 0, _, _ => none
  | n + 1, x2, M =>
    if 148 ≤ x2 then
      k M
    else
      if ib x2 148 = true then
      if ib x2 148 = true then
      f_X7_dampAfter_L30 x1 k n (x2 + 1) (wrA M 4 x2 (M.2 0 (Int32.toNatClampNeg x2)))
      else none
      else none
def f_X7_dampAfter_L59 (x1 : Int32) (k : Mem → Option (Int32 × Mem)) : Nat → Int32 → Int32 → Mem → Option (Int32 × Mem)
  | 0, _, _, _ => none
  | n + 1, x2, x3, M =>
    if x1 ≤ x3 then
      k M
    else
      (f_X7_oneDay M).bind fun (r9, M_10) =>
      f_X7_dampAfter_L59 x1 k n (x2 + r9) (x3 + 1) M_10
def f_X7_dampAfter_L87 (x3 : Int32) (k : Mem → Option (Int32 × Mem)) : Nat → Int32 → Mem → Option (Int32 × Mem)
  | 0, _, _ => none
  | n + 1, x4, M =>
    if 148 ≤ x4 then
      k M
    else
      if ib x4 148 = true then
      if ib x4 148 = true then
      f_X7_dampAfter_L87 x3 k n (x4 + 1) (wrA M 0 x4 (M.2 4 (Int32.toNatClampNeg x4)))
      else none
      else none
def f_X7_dampAfter (M : Mem) (x1 : Int32) : Option (Int32 × Mem) :=
  (f_X7_in x1 0 30).bind fun r1 =>
  if r1 = 0 then
    some (0, (wrI M 0 1))
  else
    f_X7_dampAfter_L30 x1
    (fun M_7 =>
      f_X7_dampAfter_L59 x1
      (fun M_12 =>
        (f_X7_many M_12 6).bind fun r13 =>
        f_X7_dampAfter_L87 r13
        (fun M_18 =>
          some (r13, M_18)) 1200 0 M_12) 1200 0 0 M_7) 1200 0 (wrI M 0 0)
def f_X7_dampReach_L7 (k : Mem → Option (Int32 × Mem)) : Nat → Int32 → Mem → Option (Int32 × Mem)
  | 0, _, _ => none
  | n + 1, x1, M =>
    if 24 ≤ x1 then
      k M
    else
      if ib x1 24 = true then
      f_X7_dampReach_L7 k n (x1 + 1) (wrA M 9 x1 0)
      else none
def f_X7_dampReach_L28 (k : Mem → Option (Int32 × Mem)) : Nat → Int32 → Mem → Option (Int32 × Mem)
  | 0, _, _ => none
  | n + 1, x1, M =>
    if ib 1 148 = true then
    if (M.2 0 (Int32.toNatClampNeg 1)) ≤ x1 then
      k M
    else
      (f_X7_of M x1 4).bind fun r6 =>
      (f_X7_of M x1 6).bind fun r8 =>
      if ib r6 24 = true then
      f_X7_dampReach_L28 k n (x1 + 1) (wrA M 9 r6 r8)
      else none
    else none
def f_X7_dampReach_L72 (x1 : Int32) (k : Mem → Option (Int32 × Mem)) : Nat → Int32 → Mem → Option (Int32 × Mem)
  | 0, _, _ => none
  | n + 1, x2, M =>
    if ib 1 148 = true then
    if (M.2 0 (Int32.toNatClampNeg 1)) ≤ x2 then
      k M
    else
      (f_X7_of M x2 4).bind fun r15 =>
      (f_X7_of M x2 5).bind fun r17 =>
      if r17 = 0 then
        if r15 ≤ 0 then
          if 24 ≤ (r15 + 1) then
            f_X7_dampReach_L72 x1 k n (x2 + 1) M
          else
            if ib (r15 + 1) 24 = true then
            if (M.2 9 (Int32.toNatClampNeg (r15 + 1))) = 1 then
              if ib r15 24 = true then
              f_X7_dampReach_L72 x1 k n (x2 + 1) (wrA M 9 r15 1)
              else none
            else
              f_X7_dampReach_L72 x1 k n (x2 + 1) M
            else none
        else
          if ib (r15 - 1) 24 = true then
          if (M.2 9 (Int32.toNatClampNeg (r15 - 1))) = 1 then
            if ib r15 24 = true then
            f_X7_dampReach_L72 x1 k n (x2 + 1) (wrA M 9 r15 1)
            else none
          else
            if 24 ≤ (r15 + 1) then
              f_X7_dampReach_L72 x1 k n (x2 + 1) M
            else
              if ib (r15 + 1) 24 = true then
              if (M.2 9 (Int32.toNatClampNeg (r15 + 1))) = 1 then
                if ib r15 24 = true then
                f_X7_dampReach_L72 x1 k n (x2 + 1) (wrA M 9 r15 1)
                else none
              else
                f_X7_dampReach_L72 x1 k n (x2 + 1) M
              else none
          else none
      else
        f_X7_dampReach_L72 x1 k n (x2 + 1) M
    else none
def f_X7_dampReach_L64 (k : Mem → Option (Int32 × Mem)) : Nat → Int32 → Mem → Option (Int32 × Mem)
  | 0, _, _ => none
  | n + 1, x1, M =>
    if 24 ≤ x1 then
      k M
    else
      f_X7_dampReach_L72 x1
      (fun M_32 =>
        f_X7_dampReach_L64 k n (x1 + 1) M_32) 40 0 M
def f_X7_dampReach_L157 (M : Mem) (k : Int32 → Option (Int32 × Mem)) : Nat → Int32 → Int32 → Option (Int32 × Mem)
  | 0, _, _ => none
  | n + 1, x1, x2 =>
    if 24 ≤ x2 then
      k x1
    else
      if ib x2 24 = true then
      f_X7_dampReach_L157 M k n (x1 + (M.2 9 (Int32.toNatClampNeg x2))) (x2 + 1)
      else none
def f_X7_dampReach (M : Mem) : Option (Int32 × Mem) :=
  f_X7_dampReach_L7
  (fun M_3 =>
    f_X7_dampReach_L28
    (fun M_11 =>
      f_X7_dampReach_L64
      (fun M_33 =>
        f_X7_dampReach_L157 M_33
        (fun y36_1 =>
          some (y36_1, M_33)) 40 0 0) 40 0 M_11) 40 0 M_3) 40 0 (wrI M 0 0)
def f_X7_dampReachByStretches (M : Mem) : Option (Int32 × Mem) :=
  (f_X7_dampReach M).bind fun (r1, M_2) =>
  some (r1, M_2)
def f_X7_destroyedCount (M : Mem) : Option (Int32 × Mem) :=
  if ib 6 148 = true then
  some ((M.2 0 (Int32.toNatClampNeg 6)), (wrI M 0 0))
  else none
def f_X7_enqueue (M : Mem) (x1 : Int32) : Option (Int32 × Mem) :=
  (f_X7_remembers M).bind fun M_1 =>
  (f_X7_joins M_1 x1).bind fun (r3, M_4) =>
  (f_X7_ends M_4 r3).bind fun (r6, M_7) =>
  some (r6, M_7)
def f_X7_audit (M : Mem) : Option (Int32 × Mem) :=
  (f_X7_remembers M).bind fun M_1 =>
  (f_X7_audits M_1).bind fun (r3, M_4) =>
  (f_X7_ends M_4 r3).bind fun (r6, M_7) =>
  some (r6, M_7)
def f_X7_queueLength (M : Mem) : Option (Int32 × Mem) :=
  if ib 7 148 = true then
  some ((M.2 0 (Int32.toNatClampNeg 7)), (wrI M 0 0))
  else none
def f_X7_queued (M : Mem) (x1 : Int32) : Option (Int32 × Mem) :=
  if ib 7 148 = true then
  (f_X7_in x1 0 ((M.2 0 (Int32.toNatClampNeg 7)) - 1)).bind fun r2 =>
  if r2 = 0 then
    some (0, (wrI M 0 1))
  else
    if ib (132 + x1) 148 = true then
    some ((M.2 0 (Int32.toNatClampNeg (132 + x1))), (wrI M 0 0))
    else none
  else none
def f_X7_deposit (M : Mem) (x1 : Int32) : Option (Int32 × Mem) :=
  (f_X7_remembers M).bind fun M_1 =>
  (f_X7_deposits M_1 x1).bind fun (r3, M_4) =>
  (f_X7_ends M_4 r3).bind fun (r6, M_7) =>
  some (r6, M_7)
def f_X7_release (M : Mem) (x1 : Int32) : Option (Int32 × Mem) :=
  (f_X7_remembers M).bind fun M_1 =>
  (f_X7_releases M_1 x1).bind fun (r3, M_4) =>
  (f_X7_ends M_4 r3).bind fun (r6, M_7) =>
  some (r6, M_7)
def f_X7_bond (M : Mem) : Option (Int32 × Mem) :=
  if ib 4 148 = true then
  some ((M.2 0 (Int32.toNatClampNeg 4)), (wrI M 0 0))
  else none
def f_X7_collected (M : Mem) : Option (Int32 × Mem) :=
  if ib 5 148 = true then
  some ((M.2 0 (Int32.toNatClampNeg 5)), (wrI M 0 0))
  else none
def f_X7_mostReleases_L16 (x1 : Int32) (x2 : Int32) (k : Mem → Option (Int32 × Mem)) : Nat → Int32 → Mem → Option (Int32 × Mem)
  | 0, _, _ => none
  | n + 1, x3, M =>
    if ib 1 148 = true then
    if (M.2 0 (Int32.toNatClampNeg 1)) ≤ x3 then
      k M
    else
      if ib x3 24 = true then
      f_X7_mostReleases_L16 x1 x2 k n (x3 + 1) (wrA M 9 x3 0)
      else none
    else none
def f_X7_mostReleases_L57 (x1 : Int32) (x2 : Int32) (x3 : Int32) (M : Mem) (k : Int32 → Option (Int32 × Mem)) : Nat → Int32 → Int32 → Option (Int32 × Mem)
  | 0, _, _ => none
  | n + 1, x4, x5 =>
    if ib 1 148 = true then
    if (M.2 0 (Int32.toNatClampNeg 1)) ≤ x5 then
      k x4
    else
      if ib x5 24 = true then
      if (M.2 9 (Int32.toNatClampNeg x5)) = 0 then
        if x4 = (-1) then
          f_X7_mostReleases_L57 x1 x2 x3 M k n x5 (x5 + 1)
        else
          (f_X7_owed M x5).bind fun r13 =>
          (f_X7_owed M x4).bind fun r15 =>
          if r15 ≤ r13 then
            f_X7_mostReleases_L57 x1 x2 x3 M k n x4 (x5 + 1)
          else
            f_X7_mostReleases_L57 x1 x2 x3 M k n x5 (x5 + 1)
      else
        f_X7_mostReleases_L57 x1 x2 x3 M k n x4 (x5 + 1)
      else none
    else none
def f_X7_mostReleases_L41 (k : Int32 → Mem → Option (Int32 × Mem)) : Nat → Int32 → Int32 → Int32 → Mem → Option (Int32 × Mem)
  | 0, _, _, _, _ => none
  | n + 1, x1, x2, x3, M =>
    if ib 1 148 = true then
    if (M.2 0 (Int32.toNatClampNeg 1)) ≤ x3 then
      k x1 M
    else
      f_X7_mostReleases_L57 x1 x2 x3 M
      (fun y18_4 =>
        if ib y18_4 24 = true then
        (f_X7_owed (wrA M 9 y18_4 1) y18_4).bind fun r20 =>
        if r20 ≤ x2 then
          (f_X7_owed (wrA M 9 y18_4 1) y18_4).bind fun r23 =>
          f_X7_mostReleases_L41 k n (x1 + 1) (x2 - r23) (x3 + 1) (wrA M 9 y18_4 1)
        else
          some (x1, (wrA M 9 y18_4 1))
        else none) 40 (-1) 0
    else none
def f_X7_mostReleases (M : Mem) : Option (Int32 × Mem) :=
  if ib 4 148 = true then
  f_X7_mostReleases_L16 0 (M.2 0 (Int32.toNatClampNeg 4))
  (fun M_5 =>
    f_X7_mostReleases_L41
    (fun y25_1 M_25 =>
      some (y25_1, M_25)) 40 0 (M.2 0 (Int32.toNatClampNeg 4)) 0 M_5) 40 0 (wrI M 0 0)
  else none
def f_X7_writes (M : Mem) (x1 : Int32) : Option (Mem) :=
  if ib (M.1 4) 40 = true then
  some (wrI (wrA M 7 (M.1 4) x1) 4 ((M.1 4) + 1))
  else none
def f_X7_writesNumber (M : Mem) (x1 : Int32) : Option (Mem) :=
  if x1 ≤ 9 then
    (f_X7_writes M (48 + (x1 - x1 / 10 * 10))).bind fun M_2 =>
    some M_2
  else
    (f_X7_writes M (48 + (x1 / 10))).bind fun M_4 =>
    (f_X7_writes M_4 (48 + (x1 - x1 / 10 * 10))).bind fun M_6 =>
    some M_6
def f_X7_writeLot (M : Mem) (x1 : Int32) : Option (Int32 × Mem) :=
  (f_X7_placeOf M x1).bind fun r1 =>
  if r1 = (-1) then
    some (0, (wrI M 0 1))
  else
    (f_X7_of (wrI (wrI M 0 0) 4 0) r1 1).bind fun r4 =>
    (f_X7_writes (wrI (wrI M 0 0) 4 0) r4).bind fun M_6 =>
    (f_X7_of M_6 r1 2).bind fun r8 =>
    (f_X7_writesNumber M_6 r8).bind fun M_10 =>
    (f_X7_writes M_10 42).bind fun M_12 =>
    (f_X7_of M_12 r1 3).bind fun r14 =>
    (f_X7_writesNumber M_12 r14).bind fun M_16 =>
    (f_X7_writes M_16 64).bind fun M_18 =>
    (f_X7_of M_18 r1 4).bind fun r20 =>
    (f_X7_writesNumber M_18 r20).bind fun M_22 =>
    (f_X7_of M_22 r1 5).bind fun r24 =>
    if r24 = 1 then
      (f_X7_writes M_22 35).bind fun M_42 =>
      (f_X7_of M_42 r1 6).bind fun r44 =>
      if r44 = 1 then
        (f_X7_writes M_42 126).bind fun M_52 =>
        (f_X7_waits M_52 x1).bind fun r54 =>
        if r54 = (-1) then
          some ((M_52.1 4), M_52)
        else
          (f_X7_writes M_52 63).bind fun M_57 =>
          some ((M_57.1 4), M_57)
      else
        (f_X7_waits M_42 x1).bind fun r47 =>
        if r47 = (-1) then
          some ((M_42.1 4), M_42)
        else
          (f_X7_writes M_42 63).bind fun M_50 =>
          some ((M_50.1 4), M_50)
    else
      (f_X7_of M_22 r1 6).bind fun r27 =>
      if r27 = 1 then
        (f_X7_writes M_22 126).bind fun M_35 =>
        (f_X7_waits M_35 x1).bind fun r37 =>
        if r37 = (-1) then
          some ((M_35.1 4), M_35)
        else
          (f_X7_writes M_35 63).bind fun M_40 =>
          some ((M_40.1 4), M_40)
      else
        (f_X7_waits M_22 x1).bind fun r30 =>
        if r30 = (-1) then
          some ((M_22.1 4), M_22)
        else
          (f_X7_writes M_22 63).bind fun M_33 =>
          some ((M_33.1 4), M_33)
def f_X7_writeBays_L12 (k : Mem → Option (Int32 × Mem)) : Nat → Int32 → Mem → Option (Int32 × Mem)
  | 0, _, _ => none
  | n + 1, x1, M =>
    if 24 ≤ x1 then
      k M
    else
      (f_X7_inside M x1).bind fun r2 =>
      if r2 = (-1) then
        (f_X7_writes M 46).bind fun M_19 =>
        f_X7_writeBays_L12 k n (x1 + 1) M_19
      else
        (f_X7_of M r2 6).bind fun r5 =>
        if r5 = 1 then
          (f_X7_writes M 126).bind fun M_17 =>
          f_X7_writeBays_L12 k n (x1 + 1) M_17
        else
          (f_X7_of M r2 1).bind fun r8 =>
          (f_X7_of M r2 5).bind fun r10 =>
          if r10 = 1 then
            (f_X7_writes M (r8 - 32)).bind fun M_15 =>
            f_X7_writeBays_L12 k n (x1 + 1) M_15
          else
            (f_X7_writes M (r8 - 0)).bind fun M_13 =>
            f_X7_writeBays_L12 k n (x1 + 1) M_13
def f_X7_writeBays (M : Mem) : Option (Int32 × Mem) :=
  f_X7_writeBays_L12
  (fun M_21 =>
    some ((M_21.1 4), M_21)) 40 0 (wrI (wrI M 0 0) 4 0)
def f_X7_outputCharacter (M : Mem) (x1 : Int32) : Option (Int32 × Mem) :=
  (f_X7_in x1 0 ((M.1 4) - 1)).bind fun r1 =>
  if r1 = 0 then
    some (0, (wrI M 0 1))
  else
    if ib x1 40 = true then
    some ((((M.2 7 (Int32.toNatClampNeg x1)).toUInt32 % 65536).toInt32), (wrI M 0 0))
    else none
def f_X7_isConsistent (M : Mem) : Option (Int32 × Mem) :=
  some (1, (wrI M 0 0))
def f_X7_feed (M : Mem) (x1 : Int32) : Option (Int32 × Mem) :=
  if (M.1 3) = 60 then
    some (0, (wrI M 0 1))
  else
    if ib (M.1 3) 60 = true then
    some (((M.1 3) + 1), (wrI (wrA (wrI M 0 0) 5 (M.1 3) x1) 3 ((M.1 3) + 1)))
    else none
def f_X7_here (M : Mem) (x1 : Int32) : Option (Int32) :=
  if (M.1 9) ≤ ((M.1 8) + x1) then
    some (-1)
  else
    if ib ((M.1 8) + x1) 60 = true then
    some (M.2 5 (Int32.toNatClampNeg ((M.1 8) + x1)))
    else none
def f_X7_number_L4 (x1 : Int32) (k : Int32 → Int32 → Mem → Option (Mem)) : Nat → Int32 → Int32 → Mem → Option (Mem)
  | 0, _, _, _ => none
  | n + 1, x2, x3, M =>
    if (M.1 11) = 0 then
      if 4 ≤ x3 then
        k x2 x3 M
      else
        (f_X7_here M 0).bind fun r3 =>
        (f_X7_in r3 48 57).bind fun r5 =>
        if r5 = 0 then
          k x2 x3 M
        else
          (f_X7_here M 0).bind fun r8 =>
          f_X7_number_L4 x1 k n (((10 * x2) + r8) - 48) (x3 + 1) (wrI M 8 ((M.1 8) + 1))
    else
      k x2 x3 M
def f_X7_number (M : Mem) (x1 : Int32) : Option (Mem) :=
  f_X7_number_L4 x1
  (fun y10_2 y10_3 M_10 =>
    if (M_10.1 11) = 0 then
      if y10_3 = 0 then
        if ib ((5 * (M_10.1 10)) + x1) 300 = true then
        some (wrA (wrI M_10 11 1) 6 ((5 * (M_10.1 10)) + x1) y10_2)
        else none
      else
        if ib ((5 * (M_10.1 10)) + x1) 300 = true then
        some (wrA (wrI M_10 11 0) 6 ((5 * (M_10.1 10)) + x1) y10_2)
        else none
    else
      if ib ((5 * (M_10.1 10)) + x1) 300 = true then
      some (wrA (wrI M_10 11 1) 6 ((5 * (M_10.1 10)) + x1) y10_2)
      else none) 40 0 0 M
def f_X7_says_L2 (u1 : Nat) (k : Mem → Option (Mem)) : Nat → Int32 → Mem → Option (Mem)
  | 0, _, _ => none
  | n + 1, x2, M =>
    if (sLen u1) ≤ x2 then
      k M
    else
      if (M.1 11) = 0 then
        (f_X7_here M 0).bind fun r3 =>
        if ib x2 (lenS.getD u1 0) = true then
        if r3 = (sAt u1 x2) then
          f_X7_says_L2 u1 k n (x2 + 1) (wrI (wrI M 11 0) 8 ((M.1 8) + 1))
        else
          f_X7_says_L2 u1 k n (x2 + 1) (wrI (wrI M 11 1) 8 ((M.1 8) + 0))
        else none
      else
        k M
def f_X7_says (M : Mem) (u1 : Nat) : Option (Mem) :=
  f_X7_says_L2 u1
  (fun M_7 =>
    some M_7) 40 0 M
def f_X7_readsLot (M : Mem) : Option (Mem) :=
  if ib (5 * (M.1 10)) 300 = true then
  (f_X7_says (wrA M 6 (5 * (M.1 10)) 108) 11).bind fun M_2 =>
  if (M_2.1 11) = 0 then
    (f_X7_here M_2 0).bind fun r16 =>
    (f_X7_isKind r16).bind fun r18 =>
    if r18 = 0 then
      if ib ((5 * (M_2.1 10)) + 4) 300 = true then
      (f_X7_number (wrI (wrA (wrI M_2 11 1) 6 ((5 * (M_2.1 10)) + 4) 0) 8 ((M_2.1 8) + 0)) 1).bind fun M_35 =>
      (f_X7_says M_35 12).bind fun M_37 =>
      (f_X7_number M_37 2).bind fun M_39 =>
      (f_X7_says M_39 13).bind fun M_41 =>
      (f_X7_number M_41 3).bind fun M_43 =>
      some M_43
      else none
    else
      (f_X7_here (wrI M_2 11 0) 0).bind fun r21 =>
      if ib ((5 * (M_2.1 10)) + 4) 300 = true then
      (f_X7_number (wrI (wrA (wrI M_2 11 0) 6 ((5 * (M_2.1 10)) + 4) r21) 8 ((M_2.1 8) + 1)) 1).bind fun M_24 =>
      (f_X7_says M_24 12).bind fun M_26 =>
      (f_X7_number M_26 2).bind fun M_28 =>
      (f_X7_says M_28 13).bind fun M_30 =>
      (f_X7_number M_30 3).bind fun M_32 =>
      some M_32
      else none
  else
    if ib ((5 * (M_2.1 10)) + 4) 300 = true then
    (f_X7_number (wrI (wrA (wrI M_2 11 1) 6 ((5 * (M_2.1 10)) + 4) 0) 8 ((M_2.1 8) + 0)) 1).bind fun M_6 =>
    (f_X7_says M_6 12).bind fun M_8 =>
    (f_X7_number M_8 2).bind fun M_10 =>
    (f_X7_says M_10 13).bind fun M_12 =>
    (f_X7_number M_12 3).bind fun M_14 =>
    some M_14
    else none
  else none
def f_X7_one (M : Mem) (u2 : Nat) (x1 : Int32) : Option (Mem) :=
  if ib (5 * (M.1 10)) 300 = true then
  (f_X7_says (wrA M 6 (5 * (M.1 10)) x1) u2).bind fun M_2 =>
  (f_X7_number M_2 1).bind fun M_4 =>
  some M_4
  else none
def f_X7_two (M : Mem) (u2 : Nat) (u3 : Nat) (x1 : Int32) : Option (Mem) :=
  (f_X7_one M u2 x1).bind fun M_1 =>
  (f_X7_says M_1 u3).bind fun M_3 =>
  (f_X7_number M_3 2).bind fun M_5 =>
  some M_5
def f_X7_readsOne (M : Mem) : Option (Mem) :=
  (f_X7_here M 0).bind fun r1 =>
  if ib (5 * (M.1 10)) 300 = true then
  if r1 = 97 then
    (f_X7_says (wrA M 6 (5 * (M.1 10)) r1) 7).bind fun M_5 =>
    some (wrI M_5 10 ((M_5.1 10) + 1))
  else
  if r1 = 98 then
    (f_X7_one (wrA M 6 (5 * (M.1 10)) r1) 22 98).bind fun M_8 =>
    some (wrI M_8 10 ((M_8.1 10) + 1))
  else
  if r1 = 99 then
    some (wrI (wrI (wrA M 6 (5 * (M.1 10)) r1) 11 1) 10 ((M.1 10) + 1))
  else
  if r1 = 100 then
    (f_X7_says (wrA M 6 (5 * (M.1 10)) r1) 10).bind fun M_12 =>
    some (wrI M_12 10 ((M_12.1 10) + 1))
  else
  if r1 = 101 then
    some (wrI (wrI (wrA M 6 (5 * (M.1 10)) r1) 11 1) 10 ((M.1 10) + 1))
  else
  if r1 = 102 then
    some (wrI (wrI (wrA M 6 (5 * (M.1 10)) r1) 11 1) 10 ((M.1 10) + 1))
  else
  if r1 = 103 then
    some (wrI (wrI (wrA M 6 (5 * (M.1 10)) r1) 11 1) 10 ((M.1 10) + 1))
  else
  if r1 = 104 then
    some (wrI (wrI (wrA M 6 (5 * (M.1 10)) r1) 11 1) 10 ((M.1 10) + 1))
  else
  if r1 = 105 then
    some (wrI (wrI (wrA M 6 (5 * (M.1 10)) r1) 11 1) 10 ((M.1 10) + 1))
  else
  if r1 = 106 then
    some (wrI (wrI (wrA M 6 (5 * (M.1 10)) r1) 11 1) 10 ((M.1 10) + 1))
  else
  if r1 = 107 then
    some (wrI (wrI (wrA M 6 (5 * (M.1 10)) r1) 11 1) 10 ((M.1 10) + 1))
  else
  if r1 = 108 then
    (f_X7_readsLot (wrA M 6 (5 * (M.1 10)) r1)).bind fun M_22 =>
    some (wrI M_22 10 ((M_22.1 10) + 1))
  else
  if r1 = 109 then
    (f_X7_two (wrA M 6 (5 * (M.1 10)) r1) 21 13 109).bind fun M_25 =>
    some (wrI M_25 10 ((M_25.1 10) + 1))
  else
  if r1 = 110 then
    some (wrI (wrI (wrA M 6 (5 * (M.1 10)) r1) 11 1) 10 ((M.1 10) + 1))
  else
  if r1 = 111 then
    (f_X7_one (wrA M 6 (5 * (M.1 10)) r1) 17 111).bind fun M_29 =>
    some (wrI M_29 10 ((M_29.1 10) + 1))
  else
  if r1 = 112 then
    some (wrI (wrI (wrA M 6 (5 * (M.1 10)) r1) 11 1) 10 ((M.1 10) + 1))
  else
  if r1 = 113 then
    (f_X7_one (wrA M 6 (5 * (M.1 10)) r1) 19 113).bind fun M_33 =>
    some (wrI M_33 10 ((M_33.1 10) + 1))
  else
  if r1 = 114 then
    (f_X7_one (wrA M 6 (5 * (M.1 10)) r1) 20 114).bind fun M_36 =>
    some (wrI M_36 10 ((M_36.1 10) + 1))
  else
  if r1 = 115 then
    (f_X7_here (wrA M 6 (5 * (M.1 10)) r1) 1).bind fun r39 =>
    if r39 = 116 then
      (f_X7_two (wrA M 6 (5 * (M.1 10)) r1) 14 15 116).bind fun M_44 =>
      some (wrI M_44 10 ((M_44.1 10) + 1))
    else
      (f_X7_one (wrA M 6 (5 * (M.1 10)) r1) 16 115).bind fun M_42 =>
      some (wrI M_42 10 ((M_42.1 10) + 1))
  else
  if r1 = 116 then
    some (wrI (wrI (wrA M 6 (5 * (M.1 10)) r1) 11 1) 10 ((M.1 10) + 1))
  else
  if r1 = 117 then
    some (wrI (wrI (wrA M 6 (5 * (M.1 10)) r1) 11 1) 10 ((M.1 10) + 1))
  else
  if r1 = 118 then
    some (wrI (wrI (wrA M 6 (5 * (M.1 10)) r1) 11 1) 10 ((M.1 10) + 1))
  else
  if r1 = 119 then
    (f_X7_one (wrA M 6 (5 * (M.1 10)) r1) 18 119).bind fun M_50 =>
    some (wrI M_50 10 ((M_50.1 10) + 1))
  else
  some (wrI (wrI (wrA M 6 (5 * (M.1 10)) r1) 11 1) 10 ((M.1 10) + 1))
  else none
def f_X7_does (M : Mem) (x1 : Int32) : Option (Int32 × Mem) :=
  if ib ((5 * x1) + 1) 300 = true then
  if ib ((5 * x1) + 2) 300 = true then
  if ib (5 * x1) 300 = true then
  if (M.2 6 (Int32.toNatClampNeg (5 * x1))) = 97 then
    (f_X7_audits M).bind fun (r5, M_6) =>
    some (r5, M_6)
  else
  if (M.2 6 (Int32.toNatClampNeg (5 * x1))) = 98 then
    (f_X7_deposits M (M.2 6 (Int32.toNatClampNeg ((5 * x1) + 1)))).bind fun (r9, M_10) =>
    some (r9, M_10)
  else
  if (M.2 6 (Int32.toNatClampNeg (5 * x1))) = 99 then
    (f_X7_passes M 1).bind fun (r13, M_14) =>
    some (r13, M_14)
  else
  if (M.2 6 (Int32.toNatClampNeg (5 * x1))) = 100 then
    (f_X7_passes M 1).bind fun (r17, M_18) =>
    some (r17, M_18)
  else
  if (M.2 6 (Int32.toNatClampNeg (5 * x1))) = 101 then
    (f_X7_passes M 1).bind fun (r21, M_22) =>
    some (r21, M_22)
  else
  if (M.2 6 (Int32.toNatClampNeg (5 * x1))) = 102 then
    (f_X7_passes M 1).bind fun (r25, M_26) =>
    some (r25, M_26)
  else
  if (M.2 6 (Int32.toNatClampNeg (5 * x1))) = 103 then
    (f_X7_passes M 1).bind fun (r29, M_30) =>
    some (r29, M_30)
  else
  if (M.2 6 (Int32.toNatClampNeg (5 * x1))) = 104 then
    (f_X7_passes M 1).bind fun (r33, M_34) =>
    some (r33, M_34)
  else
  if (M.2 6 (Int32.toNatClampNeg (5 * x1))) = 105 then
    (f_X7_passes M 1).bind fun (r37, M_38) =>
    some (r37, M_38)
  else
  if (M.2 6 (Int32.toNatClampNeg (5 * x1))) = 106 then
    (f_X7_passes M 1).bind fun (r41, M_42) =>
    some (r41, M_42)
  else
  if (M.2 6 (Int32.toNatClampNeg (5 * x1))) = 107 then
    (f_X7_passes M 1).bind fun (r45, M_46) =>
    some (r45, M_46)
  else
  if (M.2 6 (Int32.toNatClampNeg (5 * x1))) = 108 then
    if ib ((5 * x1) + 4) 300 = true then
    if ib ((5 * x1) + 3) 300 = true then
    (f_X7_adds M (M.2 6 (Int32.toNatClampNeg ((5 * x1) + 4))) (M.2 6 (Int32.toNatClampNeg ((5 * x1) + 1))) (M.2 6 (Int32.toNatClampNeg ((5 * x1) + 2))) (M.2 6 (Int32.toNatClampNeg ((5 * x1) + 3)))).bind fun (r51, M_52) =>
    some (r51, M_52)
    else none
    else none
  else
  if (M.2 6 (Int32.toNatClampNeg (5 * x1))) = 109 then
    (f_X7_moves M (M.2 6 (Int32.toNatClampNeg ((5 * x1) + 1))) (M.2 6 (Int32.toNatClampNeg ((5 * x1) + 2)))).bind fun (r55, M_56) =>
    some (r55, M_56)
  else
  if (M.2 6 (Int32.toNatClampNeg (5 * x1))) = 110 then
    (f_X7_passes M 1).bind fun (r59, M_60) =>
    some (r59, M_60)
  else
  if (M.2 6 (Int32.toNatClampNeg (5 * x1))) = 111 then
    (f_X7_opens M (M.2 6 (Int32.toNatClampNeg ((5 * x1) + 1)))).bind fun (r63, M_64) =>
    some (r63, M_64)
  else
  if (M.2 6 (Int32.toNatClampNeg (5 * x1))) = 112 then
    (f_X7_passes M 1).bind fun (r67, M_68) =>
    some (r67, M_68)
  else
  if (M.2 6 (Int32.toNatClampNeg (5 * x1))) = 113 then
    (f_X7_joins M (M.2 6 (Int32.toNatClampNeg ((5 * x1) + 1)))).bind fun (r71, M_72) =>
    some (r71, M_72)
  else
  if (M.2 6 (Int32.toNatClampNeg (5 * x1))) = 114 then
    (f_X7_releases M (M.2 6 (Int32.toNatClampNeg ((5 * x1) + 1)))).bind fun (r75, M_76) =>
    some (r75, M_76)
  else
  if (M.2 6 (Int32.toNatClampNeg (5 * x1))) = 115 then
    (f_X7_seals M (M.2 6 (Int32.toNatClampNeg ((5 * x1) + 1)))).bind fun (r79, M_80) =>
    some (r79, M_80)
  else
  if (M.2 6 (Int32.toNatClampNeg (5 * x1))) = 116 then
    (f_X7_addsStep M (M.2 6 (Int32.toNatClampNeg ((5 * x1) + 1))) (M.2 6 (Int32.toNatClampNeg ((5 * x1) + 2)))).bind fun (r83, M_84) =>
    some (r83, M_84)
  else
  if (M.2 6 (Int32.toNatClampNeg (5 * x1))) = 117 then
    (f_X7_passes M 1).bind fun (r87, M_88) =>
    some (r87, M_88)
  else
  if (M.2 6 (Int32.toNatClampNeg (5 * x1))) = 118 then
    (f_X7_passes M 1).bind fun (r91, M_92) =>
    some (r91, M_92)
  else
  if (M.2 6 (Int32.toNatClampNeg (5 * x1))) = 119 then
    (f_X7_wets M (M.2 6 (Int32.toNatClampNeg ((5 * x1) + 1)))).bind fun (r95, M_96) =>
    some (r95, M_96)
  else
  (f_X7_passes M 1).bind fun (r98, M_99) =>
  some (r98, M_99)
  else none
  else none
  else none
def f_X7_execute_L36 (k : Mem → Option (Int32 × Mem)) : Nat → Mem → Option (Int32 × Mem)
  | 0, _ => none
  | n + 1, M =>
    if (M.1 11) = 0 then
      (f_X7_here M 0).bind fun r6 =>
      if r6 = 59 then
        (f_X7_readsOne (wrI M 8 ((M.1 8) + 1))).bind fun M_9 =>
        f_X7_execute_L36 k n M_9
      else
        k M
    else
      k M
def f_X7_execute_L125 (x1 : Int32) (k : Mem → Option (Int32 × Mem)) : Nat → Int32 → Mem → Option (Int32 × Mem)
  | 0, _, _ => none
  | n + 1, x2, M =>
    if 148 ≤ x2 then
      k M
    else
      if ib x2 148 = true then
      if ib x2 148 = true then
      f_X7_execute_L125 x1 k n (x2 + 1) (wrA M 0 x2 (M.2 1 (Int32.toNatClampNeg x2)))
      else none
      else none
def f_X7_execute_L104 (k : Mem → Option (Int32 × Mem)) : Nat → Int32 → Mem → Option (Int32 × Mem)
  | 0, _, _ => none
  | n + 1, x1, M =>
    if (M.1 10) ≤ x1 then
      k M
    else
      (f_X7_does M x1).bind fun (r18, M_19) =>
      if r18 = 0 then
        f_X7_execute_L104 k n (x1 + 1) M_19
      else
        f_X7_execute_L125 x1
        (fun M_25 =>
          (f_X7_fails (wrI M_25 6 x1) 2).bind fun (r26, M_27) =>
          some (r26, M_27)) 1200 0 M_19
def f_X7_execute (M : Mem) : Option (Int32 × Mem) :=
  (f_X7_remembers M).bind fun M_1 =>
  (f_X7_readsOne (wrI (wrI (wrI (wrI (wrI M_1 8 0) 9 (M_1.1 3)) 3 0) 10 0) 11 0)).bind fun M_3 =>
  f_X7_execute_L36
  (fun M_11 =>
    if (M_11.1 11) = 0 then
      if (M_11.1 9) ≤ (M_11.1 8) then
        f_X7_execute_L104
        (fun M_29 =>
          (f_X7_changed M_29 (M_29.1 10)).bind fun (r30, M_31) =>
          some (r30, M_31)) 1200 0 M_11
      else
        (f_X7_fails (wrI M_11 5 (M_11.1 8)) 1).bind fun (r33, M_34) =>
        some (r33, M_34)
    else
      (f_X7_fails (wrI M_11 5 (M_11.1 8)) 1).bind fun (r13, M_14) =>
      some (r13, M_14)) 1200 M_3
def f_X7_errorPosition (M : Mem) : Option (Int32 × Mem) :=
  if (M.1 5) = (-1) then
    (f_X7_fails (wrI M 0 0) 1).bind fun (r2, M_3) =>
    some (r2, M_3)
  else
    some ((M.1 5), (wrI M 0 0))
def f_X7_failedCommand (M : Mem) : Option (Int32 × Mem) :=
  if (M.1 6) = (-1) then
    (f_X7_fails (wrI M 0 0) 1).bind fun (r2, M_3) =>
    some (r2, M_3)
  else
    some ((M.1 6), (wrI M 0 0))
def f_X7_undo_L30 (k : Mem → Option (Int32 × Mem)) : Nat → Int32 → Mem → Option (Int32 × Mem)
  | 0, _, _ => none
  | n + 1, x1, M =>
    if 148 ≤ x1 then
      k M
    else
      if ib ((148 * (M.1 1)) + x1) 1184 = true then
      if ib x1 148 = true then
      f_X7_undo_L30 k n (x1 + 1) (wrA M 0 x1 (M.2 3 (Int32.toNatClampNeg ((148 * (M.1 1)) + x1))))
      else none
      else none
def f_X7_undo (M : Mem) : Option (Int32 × Mem) :=
  if (M.1 1) = 0 then
    (f_X7_fails (wrI M 0 0) 1).bind fun (r6, M_7) =>
    some (r6, M_7)
  else
    f_X7_undo_L30
    (fun M_5 =>
      some ((M_5.1 1), M_5)) 1200 0 (wrI (wrI M 0 0) 1 ((M.1 1) - 1))
def f_X7_undoCount (M : Mem) : Option (Int32 × Mem) :=
  some ((M.1 1), (wrI M 0 0))
def f_X7_save_L7 (k : Mem → Option (Int32 × Mem)) : Nat → Int32 → Mem → Option (Int32 × Mem)
  | 0, _, _ => none
  | n + 1, x1, M =>
    if 148 ≤ x1 then
      k M
    else
      if ib x1 148 = true then
      if ib x1 148 = true then
      f_X7_save_L7 k n (x1 + 1) (wrA M 2 x1 (M.2 0 (Int32.toNatClampNeg x1)))
      else none
      else none
def f_X7_save (M : Mem) : Option (Int32 × Mem) :=
  f_X7_save_L7
  (fun M_4 =>
    if ib 1 148 = true then
    some ((M_4.2 0 (Int32.toNatClampNeg 1)), (wrI M_4 2 1))
    else none) 1200 0 (wrI M 0 0)
def f_X7_restore_L20 (k : Mem → Option (Int32 × Mem)) : Nat → Int32 → Mem → Option (Int32 × Mem)
  | 0, _, _ => none
  | n + 1, x1, M =>
    if 148 ≤ x1 then
      k M
    else
      if ib x1 148 = true then
      if ib x1 148 = true then
      f_X7_restore_L20 k n (x1 + 1) (wrA M 0 x1 (M.2 2 (Int32.toNatClampNeg x1)))
      else none
      else none
def f_X7_restore (M : Mem) : Option (Int32 × Mem) :=
  if (M.1 2) = 0 then
    (f_X7_fails (wrI M 0 0) 1).bind fun (r7, M_8) =>
    some (r7, M_8)
  else
    f_X7_restore_L20
    (fun M_5 =>
      if ib 1 148 = true then
      some ((M_5.2 0 (Int32.toNatClampNeg 1)), (wrI M_5 1 0))
      else none) 1200 0 (wrI M 0 0)
theorem lt_X1_formOf {x0 : Int32} {r : Nat} (h : f_X1_formOf x0 = some r) : r < 11 := by
  unfold f_X1_formOf at h
  (repeat' split at h) <;> (cases h; decide)
