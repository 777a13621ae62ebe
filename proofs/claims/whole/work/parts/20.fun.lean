noncomputable def lJ7_fill_53178_5 (v1 : Int32) (v3 : Int32) (a0 : Nat) (n0 : Nat) : Nat → Int32 → goMI → Option (goMI)
  | 0, _, _ => none
  | n + 1, v2, M =>
    if v2 < v3 then
    Option.bind (goWr M a0 n0 v2 v1) fun M14 =>
    lJ7_fill_53178_5 v1 v3 a0 n0 n (v2 + 1) M14
    else
    some M
noncomputable def fJ7_fill_53178 (N : Nat) (M : goMI) (a0 n0 : Nat) (v1 : Int32) : Option (goMI) :=
  goNm (Int32.ofNat n0) fun x11 =>
  Option.bind (lJ7_fill_53178_5 v1 x11 a0 n0 N 0 M) fun M17 =>
  some M17
noncomputable def fX1_clear (N : Nat) (M : goMI) : Option (goMI) :=
  Option.bind (fJ7_fill_53178 N M 4 26 0) fun M11 =>
  Option.bind (goWr M11 4 26 25 63) fun M13 =>
  goNm (goWI M13 3 3 0) fun M15 =>
  goNm (goWI M15 3 4 0) fun M17 =>
  goNm (goWI M17 3 5 ((M17 3 5) + 1)) fun M19 =>
  some M19
noncomputable def fX12_bit (v0 : Int32) (v1 : Int32) : Int32 :=
  ((v0 >>> (v1 &&& 31)) &&& 1)
noncomputable def fX1_turn (M : goMI) (v1 : Int32) (v2 : Int32) : Option (goMI) :=
  Option.bind (goRd M 4 26 v1) fun x11 =>
  Option.bind (goWr M 4 26 v1 (x11 ^^^ (1 <<< (v2 &&& 31)))) fun M13 =>
  if v1 = 25 then
  some M13
  else
  goNm (goWI M13 3 5 ((M13 3 5) + 1)) fun M16 =>
  some M16
noncomputable def fX1_change (M : goMI) (v1 : Int32) (v2 : Int32) (v3 : Int32) : Option (Int32 × goMI) :=
  Option.bind (goRd M 4 26 v1) fun x11 =>
  goNm (α := Int32) (if v3 = 0 then
  0
  else
  1) fun x13 =>
  if (fX12_bit x11 v2) = x13 then
  some (5, M)
  else
  Option.bind (if (M 3 3) = 16 then
  Option.bind (goCp M 5 16 1 5 16 0 15) fun M22 =>
  goNm (goWI M22 3 3 ((M22 3 3) - 1)) fun M24 =>
  some M24
  else
  some M) fun M18 =>
  Option.bind (goWr M18 5 16 (M18 3 3) ((v1 * 16) + v2)) fun M26 =>
  goNm (goWI M26 3 3 ((M26 3 3) + 1)) fun M28 =>
  Option.bind (fX1_turn M28 v1 v2) fun M30 =>
  some (0, M30)
noncomputable def fX1_takeBack (M : goMI) : Option (Int32 × goMI) :=
  if (M 3 3) ≤ 0 then
  some (0, M)
  else
  goNm (goWI M 3 3 ((M 3 3) - 1)) fun M12 =>
  Option.bind (goRd M12 5 16 (M12 3 3)) fun x14 =>
  Option.bind (goRd M12 5 16 (M12 3 3)) fun x16 =>
  Option.bind (fX1_turn M12 (x14 / 16) (x16 - x16 / 16 * 16)) fun M18 =>
  some (1, M18)
noncomputable def fX1_keep (M : goMI) : Option (Int32 × goMI) :=
  if 3 ≤ (M 3 4) then
  some ((-1), M)
  else
  Option.bind (goCp M 4 26 0 6 78 ((M 3 4) * 26) 26) fun M12 =>
  goNm (goWI M12 3 4 ((M12 3 4) + 1)) fun M14 =>
  some (((M14 3 4) - 1), M14)
noncomputable def fX12_within (v0 : Int32) (v1 : Int32) : Int32 :=
  if 0 ≤ v0 then
  if v0 < v1 then
  1
  else
  0
  else
  0
noncomputable def fX1_restore (M : goMI) (v1 : Int32) : Option (Int32 × goMI) :=
  if (fX12_within v1 (M 3 4)) = 0 then
  some (0, M)
  else
  Option.bind (goCp M 6 78 (v1 * 26) 4 26 0 26) fun M12 =>
  goNm (goWI M12 3 3 0) fun M14 =>
  goNm (goWI M14 3 5 ((M14 3 5) + 1)) fun M16 =>
  some (1, M16)
noncomputable def fJ6_bitCount_0f7a4 (v0 : Int32) : Int32 :=
  goNm (v0 - (((Int32.toUInt32 v0 >>> (Int32.toUInt32 1 &&& Int32.toUInt32 31)).toInt32) &&& 1431655765)) fun x11 =>
  goNm ((x11 &&& 858993459) + (((Int32.toUInt32 x11 >>> (Int32.toUInt32 2 &&& Int32.toUInt32 31)).toInt32) &&& 858993459)) fun x13 =>
  goNm ((x13 + ((Int32.toUInt32 x13 >>> (Int32.toUInt32 4 &&& Int32.toUInt32 31)).toInt32)) &&& 252645135) fun x15 =>
  goNm (x15 + ((Int32.toUInt32 x15 >>> (Int32.toUInt32 8 &&& Int32.toUInt32 31)).toInt32)) fun x17 =>
  goNm (x17 + ((Int32.toUInt32 x17 >>> (Int32.toUInt32 16 &&& Int32.toUInt32 31)).toInt32)) fun x19 =>
  (x19 &&& 63)
noncomputable def lX1_countPut_4 (v1 : Int32) (M : goMI) : Nat → Int32 → Int32 → Option (Int32)
  | 0, _, _ => none
  | n + 1, v2, v3 =>
    if v3 < 12 then
    Option.bind (goRd M 4 26 (v1 + v3)) fun x12 =>
    goNm (v2 + (fJ6_bitCount_0f7a4 x12)) fun x14 =>
    lX1_countPut_4 v1 M n x14 (v3 + 1)
    else
    some v2
noncomputable def fX1_countPut (N : Nat) (M : goMI) (v1 : Int32) : Option (Int32) :=
  Option.bind (lX1_countPut_4 v1 M N 0 0) fun x17 =>
  some x17
noncomputable def lX1_spot_5 (v1 : Int32) (v2 : Int32) (M : goMI) : Nat → Int32 → Int32 → Option (Int32)
  | 0, _, _ => none
  | n + 1, v3, v4 =>
    if v4 < 96 then
    Option.bind (goRd M 4 26 (v1 + (v4 - v4 / 12 * 12))) fun x12 =>
    if (fX12_bit x12 (v4 / 12)) = 1 then
    if v3 = v2 then
    some v4
    else
    lX1_spot_5 v1 v2 M n (v3 + 1) (v4 + 1)
    else
    lX1_spot_5 v1 v2 M n v3 (v4 + 1)
    else
    some (-1)
noncomputable def fX1_spot (N : Nat) (M : goMI) (v1 : Int32) (v2 : Int32) : Option (Int32) :=
  lX1_spot_5 v1 v2 M N 0 0
noncomputable def lX2_weigh_34 : Nat → Int64 → Int32 → Option (Int64)
  | 0, _, _ => none
  | n + 1, w2, v4 =>
    if 0 < v4 then
    goNm (w2 * 10) fun x19 =>
    lX2_weigh_34 n x19 (v4 + (-1))
    else
    some w2
noncomputable def lX2_weigh_63 (v1 : Int32) (w2 : Int64) (a0 : Nat) : Nat → Int32 → goMI → goML → Option (goMI × goML)
  | 0, _, _, _ => none
  | n + 1, v4, M, L =>
    if v4 < (M a0 0) then
    goB2 (if (fX12_bit v1 v4) = 1 then
    Option.bind (goRd M (a0 + 1) 6 v4) fun x31 =>
    Option.bind (goRd M (a0 + 2) 6 v4) fun x33 =>
    Option.bind (goRdL L (a0 + 3) 64 (v1 &&& ((1 <<< (v4 &&& 31)) ^^^ (-1)))) fun x35 =>
    goNm (((Int32.toInt64 x31) * w2) + ((Int32.toInt64 (10 - x33)) * x35)) fun x37 =>
    Option.bind (goRdL L (a0 + 3) 64 v1) fun x39 =>
    if (lg_cmp x39 (-1)) = 0 then
    Option.bind (goWrL L (a0 + 3) 64 v1 x37) fun L42 =>
    Option.bind (goWr M (a0 + 4) 64 v1 v4) fun M44 =>
    some (M44, L42)
    else
    Option.bind (goRdL L (a0 + 3) 64 v1) fun x46 =>
    if (lg_cmp x37 x46) < 0 then
    Option.bind (goWrL L (a0 + 3) 64 v1 x37) fun L49 =>
    Option.bind (goWr M (a0 + 4) 64 v1 v4) fun M51 =>
    some (M51, L49)
    else
    some (M, L)
    else
    some (M, L)) fun M26 L27 =>
    lX2_weigh_63 v1 w2 a0 n (v4 + 1) M26 L27
    else
    some (M, L)
noncomputable def lX2_weigh_16 (N : Nat) (a0 : Nat) : Nat → Int32 → goMI → goML → Option (goMI × goML)
  | 0, _, _, _ => none
  | n + 1, v1, M, L =>
    if v1 < (1 <<< ((M a0 0) &&& 31)) then
    goNm (fJ6_bitCount_0f7a4 v1) fun x16 =>
    Option.bind (lX2_weigh_34 N 1 x16) fun x22 =>
    Option.bind (goWrL L (a0 + 3) 64 v1 (-1)) fun L23 =>
    goB2 (lX2_weigh_63 v1 x22 a0 N 0 M L23) fun M54 L55 =>
    lX2_weigh_16 N a0 n (v1 + 1) M54 L55
    else
    some (M, L)
noncomputable def fX2_weigh (N : Nat) (M : goMI) (L : goML) (a0 : Nat) : Option (goMI × goML) :=
  Option.bind (goWrL L (a0 + 3) 64 0 0) fun L11 =>
  Option.bind (goWr M (a0 + 4) 64 0 0) fun M13 =>
  goB2 (lX2_weigh_16 N a0 N 1 M13 L11) fun M57 L58 =>
  some (M57, L58)
noncomputable def fX2_leastCosts (N : Nat) (M : goMI) (L : goML) (a0 : Nat) : Option (Int64 × goMI × goML) :=
  goB2 (fX2_weigh N M L a0) fun M11 L12 =>
  Option.bind (goRdL L12 (a0 + 3) 64 ((1 <<< ((M11 a0 0) &&& 31)) - 1)) fun x14 =>
  some (x14, M11, L12)
noncomputable def lX2_inBestOrder_15 (v1 : Int32) (M : goMI) (a0 : Nat) : Nat → Int32 → Int32 → Option (Int32)
  | 0, _, _ => none
  | n + 1, v2, v3 =>
    if v3 < v1 then
    Option.bind (goRd M (a0 + 4) 64 v2) fun x17 =>
    goNm (v2 &&& ((1 <<< (x17 &&& 31)) ^^^ (-1))) fun x19 =>
    lX2_inBestOrder_15 v1 M a0 n x19 (v3 + 1)
    else
    some v2
noncomputable def fX2_inBestOrder (N : Nat) (M : goMI) (L : goML) (a0 : Nat) (v1 : Int32) : Option (Int32 × goMI × goML) :=
  goB2 (fX2_weigh N M L a0) fun M11 L12 =>
  goNm ((1 <<< ((M11 a0 0) &&& 31)) - 1) fun x14 =>
  Option.bind (lX2_inBestOrder_15 v1 M11 a0 N x14 0) fun x22 =>
  Option.bind (goRd M11 (a0 + 4) 64 x22) fun x23 =>
  some (x23, M11, L12)
noncomputable def lX3_openPaths_10 (R : goMR) (a0 : Nat) : Nat → Int32 → goMI → Option (goMI)
  | 0, _, _ => none
  | n + 1, v1, M =>
    if v1 < (M (goRr R a0 1) 3) then
    Option.bind (goRd M 4 26 24) fun x14 =>
    Option.bind (if (fX12_bit x14 v1) = 0 then
    Option.bind (goRd M ((goRr R a0 1) + 3) 14 v1) fun x20 =>
    Option.bind (goRd M (a0 + 3) 8 x20) fun x22 =>
    Option.bind (goRd M ((goRr R a0 1) + 4) 14 v1) fun x24 =>
    Option.bind (goWr M (a0 + 3) 8 x20 (x22 ||| (1 <<< (x24 &&& 31)))) fun M26 =>
    Option.bind (goRd M26 ((goRr R a0 1) + 4) 14 v1) fun x28 =>
    Option.bind (goRd M26 (a0 + 3) 8 x28) fun x30 =>
    Option.bind (goRd M26 ((goRr R a0 1) + 3) 14 v1) fun x32 =>
    Option.bind (goWr M26 (a0 + 3) 8 x28 (x30 ||| (1 <<< (x32 &&& 31)))) fun M34 =>
    some M34
    else
    some M) fun M16 =>
    lX3_openPaths_10 R a0 n (v1 + 1) M16
    else
    some M
noncomputable def fX3_openPaths (N : Nat) (M : goMI) (R : goMR) (a0 : Nat) : Option (goMI) :=
  Option.bind (fJ7_fill_53178 N M (a0 + 3) 8 0) fun M11 =>
  Option.bind (lX3_openPaths_10 R a0 N 0 M11) fun M37 =>
  some M37
noncomputable def fX6_storyIn (M : goMI) (a0 : Nat) (v1 : Int32) (v2 : Int32) : Option (Int32) :=
  Option.bind (goRd M (a0 + 5) 4 v2) fun x11 =>
  if 0 < x11 then
  Option.bind (goRd M (a0 + 6) 4 v2) fun x14 =>
  if x14 ≤ 0 then
  some (-2)
  else
  Option.bind (goRd M (a0 + 6) 4 v2) fun x17 =>
  Option.bind (goNz x17) fun _ =>
  Option.bind (goRd M (a0 + 5) 4 v2) fun x21 =>
  Option.bind (goNz x21) fun _ =>
  some ((v1 / x17) - (v1 / x17) / x21 * x21)
  else
  some (-2)
noncomputable def fX5_minds (M : goMI) (a0 : Nat) (v1 : Int32) (v2 : Int32) : Option (Int32) :=
  Option.bind (goRd M (a0 + 1) 6 v1) fun x11 =>
  if x11 = 1 then
  some 1
  else
  Option.bind (goRd M (a0 + 1) 6 v1) fun x14 =>
  if x14 = 2 then
  some 0
  else
  Option.bind (goRd M (a0 + 5) 6 v1) fun x17 =>
  if (fX12_bit x17 v2) = 1 then
  some 1
  else
  some 0
noncomputable def fX6_toldPlace (M : goMI) (a0 : Nat) (v1 : Int32) (v2 : Int32) (v3 : Int32) : Option (Int32) :=
  Option.bind (goRd M (a0 + 7) 144 ((((v1 * 3) + v2) * 12) + v3)) fun x11 =>
  some x11
noncomputable def lX3_fearPerson_3 (v1 : Int32) (v2 : Int32) (v3 : Int32) (R : goMR) (a0 : Nat) : Nat → Int32 → goMI → Option (goMI)
  | 0, _, _ => none
  | n + 1, v4, M =>
    if v4 < (M (goRr R a0 1) 0) then
    Option.bind (goRd M (a0 + 4) 72 ((v1 * 12) + v4)) fun x12 =>
    Option.bind (fX6_toldPlace M (goRr R a0 1) v2 v3 v4) fun x14 =>
    Option.bind (goWr M (a0 + 4) 72 ((v1 * 12) + v4) (x12 ||| (1 <<< (x14 &&& 31)))) fun M16 =>
    lX3_fearPerson_3 v1 v2 v3 R a0 n (v4 + 1) M16
    else
    some M
noncomputable def fX3_fearPerson (N : Nat) (M : goMI) (R : goMR) (a0 : Nat) (v1 : Int32) (v2 : Int32) (v3 : Int32) : Option (goMI) :=
  Option.bind (lX3_fearPerson_3 v1 v2 v3 R a0 N 0 M) fun M19 =>
  some M19
noncomputable def lX3_prepare_120 (N : Nat) (v2 : Int32) (v3 : Int32) (R : goMR) (a0 : Nat) : Nat → Int32 → goMI → Option (goMI)
  | 0, _, _ => none
  | n + 1, v4, M =>
    if v4 < (M ((goRr R a0 1) + 9) 0) then
    Option.bind (if 0 ≤ v3 then
    Option.bind (fX5_minds M ((goRr R a0 1) + 9) v4 v2) fun x35 =>
    if x35 = 0 then
    some M
    else
    Option.bind (fX3_fearPerson N M R a0 v4 v2 v3) fun M38 =>
    some M38
    else
    some M) fun M31 =>
    lX3_prepare_120 N v2 v3 R a0 n (v4 + 1) M31
    else
    some M
noncomputable def lX3_prepare_96 (N : Nat) (v1 : Int32) (R : goMR) (a0 : Nat) : Nat → Int32 → goMI → Option (goMI)
  | 0, _, _ => none
  | n + 1, v2, M =>
    if v2 < (M (goRr R a0 1) 4) then
    Option.bind (fX6_storyIn M (goRr R a0 1) v1 v2) fun x28 =>
    Option.bind (lX3_prepare_120 N v2 x28 R a0 N 0 M) fun M41 =>
    lX3_prepare_96 N v1 R a0 n (v2 + 1) M41
    else
    some M
noncomputable def fX3_prepare (N : Nat) (M : goMI) (R : goMR) (a0 : Nat) (v1 : Int32) : Option (goMI) :=
  Option.bind (goCp M 4 26 0 (a0 + 2) 24 0 24) fun M11 =>
  Option.bind (fJ7_fill_53178 N M11 (a0 + 7) 24 0) fun M13 =>
  Option.bind (fJ7_fill_53178 N M13 (a0 + 8) 192 0) fun M15 =>
  Option.bind (fJ7_fill_53178 N M15 (a0 + 9) 6 0) fun M17 =>
  Option.bind (goCp M17 ((goRr R a0 1) + 1) 8 0 (a0 + 1) 14 0 8) fun M19 =>
  Option.bind (goCp M19 ((goRr R a0 1) + 12) 6 0 (a0 + 1) 14 8 6) fun M21 =>
  Option.bind (fX3_openPaths N M21 R a0) fun M23 =>
  Option.bind (fJ7_fill_53178 N M23 (a0 + 4) 72 0) fun M25 =>
  Option.bind (lX3_prepare_96 N v1 R a0 N 0 M25) fun M43 =>
  some M43
noncomputable def fX3_followsMother (M : goMI) (R : goMR) (a0 : Nat) (v1 : Int32) (v2 : Int32) : Option (Int32) :=
  Option.bind (goRd M ((goRr R a0 1) + 11) 6 v1) fun x11 =>
  if 0 ≤ x11 then
  Option.bind (goRd M (a0 + 3) 8 v2) fun x14 =>
  Option.bind (goRd M (a0 + 1) 14 (8 + x11)) fun x16 =>
  if (fX12_bit x14 x16) = 1 then
  some 1
  else
  some 0
  else
  some 0
noncomputable def lX3_worth_19 (v1 : Int32) (v3 : Int32) (M : goMI) (R : goMR) (a0 : Nat) : Nat → Int32 → Option (Int32)
  | 0, _ => none
  | n + 1, v4 =>
    Option.bind (goRd M ((goRr R a0 1) + 16) 6 v1) fun x14 =>
    if v4 < x14 then
    Option.bind (goRd M (a0 + 1) 14 v3) fun x17 =>
    Option.bind (goRd M ((goRr R a0 1) + 15) 24 ((v1 * 4) + v4)) fun x19 =>
    if 0 < ((x17 >>> ((4 * x19) &&& 31)) &&& 15) then
    some (1 + v4)
    else
    lX3_worth_19 v1 v3 M R a0 n (v4 + 1)
    else
    some 9
noncomputable def fX3_worth (N : Nat) (M : goMI) (R : goMR) (a0 : Nat) (v1 : Int32) (v2 : Int32) (v3 : Int32) : Option (Int32) :=
  Option.bind (goRd M (a0 + 2) 24 v2) fun x11 =>
  if ((x11 >>> (v3 &&& 31)) &&& 1) = 1 then
  some 0
  else
  lX3_worth_19 v1 v3 M R a0 N 0
noncomputable def lX3_best_13 (N : Nat) (v1 : Int32) (v2 : Int32) (v3 : Int32) (M : goMI) (R : goMR) (a0 : Nat) : Nat → Int32 → Int32 → Int32 → Option (Int32)
  | 0, _, _, _ => none
  | n + 1, v6, v7, v8 =>
    if v8 < (M (goRr R a0 1) 2) then
    goB2 (if (fX12_bit v3 v8) = 1 then
    Option.bind (fX3_worth N M R a0 v1 v2 v8) fun x19 =>
    if x19 < v7 then
    some (v8, x19)
    else
    some (v6, v7)
    else
    some (v6, v7)) fun x14 x15 =>
    lX3_best_13 N v1 v2 v3 M R a0 n x14 x15 (v8 + 1)
    else
    some v6
noncomputable def fX3_best (N : Nat) (M : goMI) (R : goMR) (a0 : Nat) (v1 : Int32) (v2 : Int32) (v3 : Int32) (v4 : Int32) (v5 : Int32) : Option (Int32) :=
  goNm (v5 + 1) fun x11 =>
  Option.bind (lX3_best_13 N v1 v2 v3 M R a0 N v4 x11 0) fun x23 =>
  some x23
noncomputable def fX12_countOf (v0 : Int32) (v1 : Int32) : Int32 :=
  ((v0 >>> ((4 * v1) &&& 31)) &&& 15)
noncomputable def fX3_eat (M : goMI) (R : goMR) (a0 : Nat) (v1 : Int32) (v2 : Int32) (v3 : Int32) (v4 : Int32) : Option (goMI) :=
  Option.bind (goRd M ((goRr R a0 1) + 10) 6 v1) fun x11 =>
  Option.bind (if x11 = 2 then
  Option.bind (goRd M (a0 + 1) 14 v3) fun x17 =>
  if 1 < (fX12_countOf x17 v4) then
  some 2
  else
  some 1
  else
  some 1) fun x13 =>
  Option.bind (goRd M (a0 + 1) 14 v3) fun x20 =>
  Option.bind (goWr M (a0 + 1) 14 v3 (x20 - (x13 <<< ((4 * v4) &&& 31)))) fun M22 =>
  Option.bind (goRd M22 (a0 + 7) 24 ((v1 * 4) + v4)) fun x24 =>
  Option.bind (goWr M22 (a0 + 7) 24 ((v1 * 4) + v4) (x24 + x13)) fun M26 =>
  Option.bind (goWr M26 (a0 + 6) 72 ((v1 * 12) + v2) ((x13 * 4) + v4)) fun M28 =>
  some M28
noncomputable def fX3_turn (N : Nat) (M : goMI) (R : goMR) (a0 : Nat) (v1 : Int32) (v2 : Int32) : Option (goMI) :=
  Option.bind (goRd M (a0 + 1) 14 (8 + v1)) fun x11 =>
  Option.bind (goRd M (a0 + 4) 72 ((v1 * 12) + v2)) fun x13 =>
  Option.bind (goRd M ((goRr R a0 1) + 10) 6 v1) fun x15 =>
  Option.bind (if x15 = 2 then
  some x13
  else
  Option.bind (goRd M (a0 + 2) 24 (12 + v2)) fun x21 =>
  goNm (x13 ||| x21) fun x23 =>
  some x23) fun x17 =>
  Option.bind (goRd M (a0 + 3) 8 x11) fun x25 =>
  goNm (x25 &&& (x17 ^^^ (-1))) fun x27 =>
  Option.bind (goWr M (a0 + 6) 72 ((v1 * 12) + v2) 0) fun M29 =>
  Option.bind (fX3_followsMother M29 R a0 v1 x11) fun x31 =>
  goB2 (if x31 = 0 then
  if (fX12_bit x17 x11) = 1 then
  Option.bind (fX3_best N M29 R a0 v1 v2 x27 x11 9) fun x58 =>
  Option.bind (goRd M29 (a0 + 9) 6 v1) fun x60 =>
  goNm (α := Int32) (if x58 = x11 then
  0
  else
  1) fun x62 =>
  Option.bind (goWr M29 (a0 + 9) 6 v1 (x60 + x62)) fun M66 =>
  some (x58, M66)
  else
  Option.bind (goRd M29 (a0 + 2) 24 v2) fun x39 =>
  if (fX12_bit x39 x11) = 0 then
  Option.bind (goRd M29 (a0 + 2) 24 v2) fun x42 =>
  goNm (x27 &&& x42) fun x44 =>
  Option.bind (fX3_worth N M29 R a0 v1 v2 x11) fun x46 =>
  if x44 = 0 then
  if x46 < 9 then
  Option.bind (goRd M29 ((goRr R a0 1) + 15) 24 (((v1 * 4) + x46) - 1)) fun x52 =>
  Option.bind (fX3_eat M29 R a0 v1 v2 x11 x52) fun M54 =>
  some (x11, M54)
  else
  Option.bind (fX3_best N M29 R a0 v1 v2 x27 x11 8) fun x50 =>
  some (x50, M29)
  else
  Option.bind (fX3_best N M29 R a0 v1 v2 x44 x11 0) fun x56 =>
  some (x56, M29)
  else
  some (x11, M29)
  else
  Option.bind (goRd M29 ((goRr R a0 1) + 11) 6 v1) fun x68 =>
  Option.bind (goRd M29 (a0 + 1) 14 (8 + x68)) fun x70 =>
  some (x70, M29)) fun x33 M34 =>
  Option.bind (goWr M34 (a0 + 1) 14 (8 + v1) x33) fun M72 =>
  Option.bind (goWr M72 (a0 + 5) 72 ((v1 * 12) + v2) x33) fun M74 =>
  some M74
noncomputable def fX3_drop (M : goMI) (a0 : Nat) (v1 : Int32) (v2 : Int32) : Option (goMI) :=
  if 2 ≤ v2 then
  Option.bind (goRd M (a0 + 6) 72 (((v1 * 12) + v2) - 2)) fun x12 =>
  Option.bind (goRd M (a0 + 1) 14 (8 + v1)) fun x14 =>
  Option.bind (goRd M (a0 + 8) 192 ((((v1 * 4) + (x12 - x12 / 4 * 4)) * 8) + x14)) fun x16 =>
  Option.bind (goWr M (a0 + 8) 192 ((((v1 * 4) + (x12 - x12 / 4 * 4)) * 8) + x14) (x16 + (x12 / 4))) fun M18 =>
  some M18
  else
  some M
noncomputable def lX3_play_16 (N : Nat) (v3 : Int32) (R : goMR) (a0 : Nat) : Nat → Int32 → goMI → Option (goMI)
  | 0, _, _ => none
  | n + 1, v4, M =>
    if v4 < (M ((goRr R a0 1) + 9) 0) then
    Option.bind (fX3_turn N M R a0 v4 v3) fun M14 =>
    Option.bind (fX3_drop M14 a0 v4 v3) fun M16 =>
    lX3_play_16 N v3 R a0 n (v4 + 1) M16
    else
    some M
noncomputable def lX3_play_2 (N : Nat) (v2 : Int32) (R : goMR) (a0 : Nat) : Nat → Int32 → goMI → Option (goMI)
  | 0, _, _ => none
  | n + 1, v3, M =>
    if v3 ≤ v2 then
    if v3 < 12 then
    Option.bind (lX3_play_16 N v3 R a0 N 0 M) fun M19 =>
    lX3_play_2 N v2 R a0 n (v3 + 1) M19
    else
    some M
    else
    some M
noncomputable def fX3_play (N : Nat) (M : goMI) (R : goMR) (a0 : Nat) (v1 : Int32) (v2 : Int32) : Option (goMI) :=
  Option.bind (lX3_play_2 N v2 R a0 N v1 M) fun M21 =>
  some M21
noncomputable def fX3_shows (M : goMI) (R : goMR) (a0 : Nat) (v1 : Int32) : Option (Int32) :=
  Option.bind (goRd M ((goRr R a0 1) + 18) 10 v1) fun x11 =>
  Option.bind (goRd M ((goRr R a0 1) + 19) 10 v1) fun x13 =>
  Option.bind (goRd M ((goRr R a0 1) + 20) 10 v1) fun x15 =>
  Option.bind (goRd M ((goRr R a0 1) + 17) 10 v1) fun x17 =>
  if x17 = 0 then
  Option.bind (goRd M (a0 + 8) 192 ((((x11 * 4) + x15) * 8) + x13)) fun x33 =>
  if 0 < x33 then
  some 1
  else
  some 0
  else
  Option.bind (goRd M (a0 + 5) 72 ((x11 * 12) + x15)) fun x20 =>
  goNm (α := Int32) (if x20 = x13 then
  1
  else
  0) fun x22 =>
  Option.bind (goRd M ((goRr R a0 1) + 17) 10 v1) fun x26 =>
  goNm (α := Int32) (if x26 = 1 then
  1
  else
  0) fun x28 =>
  if x22 = x28 then
  some 1
  else
  some 0
noncomputable def lX3_giveCheese_18 (v1 : Int32) (v2 : Int32) (M : goMI) (R : goMR) (a0 : Nat) : Nat → Int32 → Int32 → Option (Int32)
  | 0, _, _ => none
  | n + 1, v3, v4 =>
    if v4 < (M ((goRr R a0 1) + 9) 0) then
    Option.bind (goRd M (a0 + 7) 24 ((v4 * 4) + v2)) fun x13 =>
    goNm (v3 + ((fX12_bit v1 v4) * x13)) fun x15 =>
    lX3_giveCheese_18 v1 v2 M R a0 n x15 (v4 + 1)
    else
    some v3
noncomputable def lX3_giveCheese_2 (N : Nat) (v1 : Int32) (M : goMI) (R : goMR) (a0 : Nat) : Nat → Int32 → Option (Int32)
  | 0, _ => none
  | n + 1, v2 =>
    if v2 < (M (goRr R a0 1) 1) then
    Option.bind (lX3_giveCheese_18 v1 v2 M R a0 N 0 0) fun x18 =>
    Option.bind (goRd M ((goRr R a0 1) + 8) 4 v2) fun x19 =>
    if x18 = x19 then
    lX3_giveCheese_2 N v1 M R a0 n (v2 + 1)
    else
    some 0
    else
    some 1
noncomputable def fX3_giveCheese (N : Nat) (M : goMI) (R : goMR) (a0 : Nat) (v1 : Int32) : Option (Int32) :=
  lX3_giveCheese_2 N v1 M R a0 N 0
noncomputable def lX3_countMilkers_4 (N : Nat) (M : goMI) (R : goMR) (a0 : Nat) : Nat → Int32 → Int32 → Option (Int32)
  | 0, _, _ => none
  | n + 1, v1, v2 =>
    if v2 < (1 <<< ((M ((goRr R a0 1) + 9) 0) &&& 31)) then
    Option.bind (fX3_giveCheese N M R a0 v2) fun x12 =>
    goNm (α := Int32) (if x12 = 0 then
    v1
    else
    (v1 + 1)) fun x14 =>
    lX3_countMilkers_4 N M R a0 n x14 (v2 + 1)
    else
    some v1
noncomputable def fX3_countMilkers (N : Nat) (M : goMI) (R : goMR) (a0 : Nat) : Option (Int32) :=
  Option.bind (lX3_countMilkers_4 N M R a0 N 0 0) fun x19 =>
  some x19
noncomputable def lX3_leastMilkers_2 (N : Nat) (M : goMI) (R : goMR) (a0 : Nat) : Nat → Int32 → Option (Int32)
  | 0, _ => none
  | n + 1, v1 =>
    if v1 < (1 <<< ((M ((goRr R a0 1) + 9) 0) &&& 31)) then
    Option.bind (fX3_giveCheese N M R a0 v1) fun x12 =>
    if x12 = 0 then
    lX3_leastMilkers_2 N M R a0 n (v1 + 1)
    else
    some v1
    else
    some (-2)
noncomputable def fX3_leastMilkers (N : Nat) (M : goMI) (R : goMR) (a0 : Nat) : Option (Int32) :=
  lX3_leastMilkers_2 N M R a0 N 0
noncomputable def fX4_use (R : goMR) (a1 : Nat) : Option (Unit) :=
  some ()
noncomputable def fX4_dayOf (N : Nat) (M : goMI) (R : goMR) (v1 : Int32) : Option (goMI) :=
  Option.bind (if (M 74 7) = (M 3 5) then
  if (M 74 8) = v1 then
  some M
  else
  Option.bind (fX3_prepare N M R 78 v1) fun M24 =>
  Option.bind (fX3_play N M24 R 78 0 ((M24 (goRr R 74 2) 0) - 1)) fun M26 =>
  goNm (goWI M26 74 7 (M26 3 5)) fun M28 =>
  goNm (goWI M28 74 8 v1) fun M30 =>
  some M30
  else
  Option.bind (fX3_prepare N M R 78 v1) fun M15 =>
  Option.bind (fX3_play N M15 R 78 0 ((M15 (goRr R 74 2) 0) - 1)) fun M17 =>
  goNm (goWI M17 74 7 (M17 3 5)) fun M19 =>
  goNm (goWI M19 74 8 v1) fun M21 =>
  some M21) fun M11 =>
  some M11
noncomputable def lX4_freshened_42 (v1 : Int32) (R : goMR) : Nat → Int32 → goMI → Option (goMI)
  | 0, _, _ => none
  | n + 1, v2, M =>
    if v2 < (M ((goRr R 74 2) + 9) 1) then
    Option.bind (goRd M 75 81 v1) fun x18 =>
    Option.bind (fX3_shows M R 78 v2) fun x20 =>
    goNm (α := Int32) (if x20 = 0 then
    0
    else
    (1 <<< (v2 &&& 31))) fun x22 =>
    Option.bind (goWr M 75 81 v1 (x18 ||| x22)) fun M26 =>
    lX4_freshened_42 v1 R n (v2 + 1) M26
    else
    some M
noncomputable def lX4_freshened_91 (v1 : Int32) : Nat → Int32 → goMI → Option (goMI)
  | 0, _, _ => none
  | n + 1, v2, M =>
    if v2 < 72 then
    Option.bind (goRd M 83 72 v2) fun x31 =>
    Option.bind (goWrB M 76 5832 ((v1 * 72) + v2) (Int8.toInt32 (Int32.toInt8 x31))) fun M33 =>
    lX4_freshened_91 v1 n (v2 + 1) M33
    else
    some M
noncomputable def lX4_freshened_2 (N : Nat) (R : goMR) : Nat → Int32 → goMI → Option (goMI)
  | 0, _, _ => none
  | n + 1, v1, M =>
    if v1 < (M (goRr R 74 2) 5) then
    if (M 74 6) = (M 3 5) then
    some M
    else
    Option.bind (fX4_dayOf N M R v1) fun M13 =>
    Option.bind (goWr M13 75 81 v1 0) fun M15 =>
    Option.bind (lX4_freshened_42 v1 R N 0 M15) fun M29 =>
    Option.bind (lX4_freshened_91 v1 N 0 M29) fun M36 =>
    lX4_freshened_2 N R n (v1 + 1) M36
    else
    some M
noncomputable def fX4_freshened (N : Nat) (M : goMI) (R : goMR) : Option (goMI) :=
  Option.bind (lX4_freshened_2 N R N 0 M) fun M38 =>
  goNm (goWI M38 74 6 (M38 3 5)) fun M39 =>
  some M39
noncomputable def lX5_cluesOf_4 (v1 : Int32) (M : goMI) (a0 : Nat) : Nat → Int32 → Int32 → Option (Int32)
  | 0, _, _ => none
  | n + 1, v2, v3 =>
    if v3 < (M a0 1) then
    Option.bind (goRd M (a0 + 9) 10 v3) fun x12 =>
    goNm (v2 ||| ((fX12_bit v1 x12) <<< (v3 &&& 31))) fun x14 =>
    lX5_cluesOf_4 v1 M a0 n x14 (v3 + 1)
    else
    some v2
noncomputable def fX5_cluesOf (N : Nat) (M : goMI) (a0 : Nat) (v1 : Int32) : Option (Int32) :=
  Option.bind (lX5_cluesOf_4 v1 M a0 N 0 0) fun x17 =>
  some x17
noncomputable def fX4_heardClues (N : Nat) (M : goMI) (R : goMR) : Option (Int32) :=
  Option.bind (goRd M 4 26 25) fun x11 =>
  Option.bind (fX5_cluesOf N M ((goRr R 74 2) + 9) x11) fun x13 =>
  some x13
noncomputable def fX4_bears (M : goMI) (v1 : Int32) (v2 : Int32) : Option (Int32) :=
  Option.bind (goRd M 75 81 v1) fun x11 =>
  if (v2 &&& (x11 ^^^ (-1))) = 0 then
  some 1
  else
  some 0
noncomputable def lX4_howManyFit_9 (v1 : Int32) (M : goMI) (R : goMR) : Nat → Int32 → Int32 → Option (Int32)
  | 0, _, _ => none
  | n + 1, v2, v3 =>
    if v3 < (M (goRr R 74 2) 5) then
    Option.bind (fX4_bears M v3 v1) fun x14 =>
    goNm (α := Int32) (if x14 = 0 then
    0
    else
    1) fun x16 =>
    goNm (v2 + x16) fun x20 =>
    lX4_howManyFit_9 v1 M R n x20 (v3 + 1)
    else
    some v2
noncomputable def fX4_howManyFit (N : Nat) (M : goMI) (R : goMR) : Option (Int32) :=
  Option.bind (fX4_heardClues N M R) fun x11 =>
  Option.bind (lX4_howManyFit_9 x11 M R N 0 0) fun x23 =>
  some x23
noncomputable def lX4_fitting_10 (v1 : Int32) (v2 : Int32) (M : goMI) (R : goMR) : Nat → Int32 → Int32 → Option (Int32)
  | 0, _, _ => none
  | n + 1, v3, v4 =>
    if v4 < (M (goRr R 74 2) 5) then
    Option.bind (fX4_bears M v4 v2) fun x14 =>
    if x14 = 0 then
    lX4_fitting_10 v1 v2 M R n v3 (v4 + 1)
    else
    if v3 = v1 then
    some v4
    else
    lX4_fitting_10 v1 v2 M R n (v3 + 1) (v4 + 1)
    else
    some (-1)
noncomputable def fX4_fitting (N : Nat) (M : goMI) (R : goMR) (v1 : Int32) : Option (Int32) :=
  Option.bind (fX4_heardClues N M R) fun x11 =>
  lX4_fitting_10 v1 x11 M R N 0 0
noncomputable def fX6_placeIn (M : goMI) (a0 : Nat) (v1 : Int32) (v2 : Int32) (v3 : Int32) : Option (Int32) :=
  Option.bind (fX6_storyIn M a0 v1 v2) fun x11 =>
  if x11 < 0 then
  some (-1)
  else
  Option.bind (fX6_toldPlace M a0 v2 x11 v3) fun x14 =>
  some x14
noncomputable def lX4_somewhere_11 (v1 : Int32) (v2 : Int32) (v3 : Int32) (M : goMI) (R : goMR) : Nat → Int32 → Int32 → Option (Int32)
  | 0, _, _ => none
  | n + 1, v4, v5 =>
    if v5 < (M (goRr R 74 2) 5) then
    Option.bind (fX6_placeIn M (goRr R 74 2) v5 v1 v2) fun x14 =>
    Option.bind (if 0 ≤ x14 then
    Option.bind (fX4_bears M v5 v3) fun x20 =>
    if x20 = 0 then
    some v4
    else
    goNm (v4 ||| (1 <<< (x14 &&& 31))) fun x23 =>
    some x23
    else
    some v4) fun x16 =>
    lX4_somewhere_11 v1 v2 v3 M R n x16 (v5 + 1)
    else
    some v4
noncomputable def fX4_somewhere (N : Nat) (M : goMI) (R : goMR) (v1 : Int32) (v2 : Int32) : Option (Int32) :=
  Option.bind (fX4_heardClues N M R) fun x11 =>
  Option.bind (lX4_somewhere_11 v1 v2 x11 M R N 0 0) fun x26 =>
  some x26
noncomputable def lX4_everywhere_10 (v3 : Int32) (M : goMI) (R : goMR) : Nat → Int32 → Option (Int32)
  | 0, _ => none
  | n + 1, v4 =>
    if v4 < (M (goRr R 74 2) 2) then
    if v3 = (1 <<< (v4 &&& 31)) then
    some v4
    else
    lX4_everywhere_10 v3 M R n (v4 + 1)
    else
    some (-2)
noncomputable def fX4_everywhere (N : Nat) (M : goMI) (R : goMR) (v1 : Int32) (v2 : Int32) : Option (Int32) :=
  Option.bind (fX4_somewhere N M R v1 v2) fun x11 =>
  lX4_everywhere_10 x11 M R N 0
noncomputable def lX4_untold_22 (v1 : Int32) (v2 : Int32) (M : goMI) (R : goMR) : Nat → Int32 → Int32 → Option (Int32)
  | 0, _, _ => none
  | n + 1, v3, v4 =>
    if v4 < (M (goRr R 74 2) 5) then
    Option.bind (fX6_storyIn M (goRr R 74 2) v4 v1) fun x18 =>
    Option.bind (if 0 ≤ x18 then
    Option.bind (fX4_bears M v4 v2) fun x24 =>
    if x24 = 0 then
    some v3
    else
    goNm (v3 &&& ((1 <<< (x18 &&& 31)) ^^^ (-1))) fun x27 =>
    some x27
    else
    some v3) fun x20 =>
    lX4_untold_22 v1 v2 M R n x20 (v4 + 1)
    else
    some v3
noncomputable def fX4_untold (N : Nat) (M : goMI) (R : goMR) (v1 : Int32) : Option (Int32) :=
  Option.bind (fX4_heardClues N M R) fun x11 =>
  Option.bind (goRd M ((goRr R 74 2) + 5) 4 v1) fun x13 =>
  goNm ((1 <<< (x13 &&& 31)) - 1) fun x15 =>
  Option.bind (lX4_untold_22 v1 x11 M R N x15 0) fun x30 =>
  some x30
noncomputable def lX4_anyBears_2 (v1 : Int32) (M : goMI) (R : goMR) : Nat → Int32 → Option (Int32)
  | 0, _ => none
  | n + 1, v2 =>
    if v2 < (M (goRr R 74 2) 5) then
    Option.bind (fX4_bears M v2 v1) fun x12 =>
    if x12 = 0 then
    lX4_anyBears_2 v1 M R n (v2 + 1)
    else
    some 1
    else
    some 0
noncomputable def fX4_anyBears (N : Nat) (M : goMI) (R : goMR) (v1 : Int32) : Option (Int32) :=
  lX4_anyBears_2 v1 M R N 0
noncomputable def lX4_fewestFalse_8 (N : Nat) (M : goMI) (R : goMR) : Nat → Int32 → Int32 → Int32 → Option (Int32)
  | 0, _, _, _ => none
  | n + 1, v1, v2, v3 =>
    if v3 < (1 <<< ((M ((goRr R 74 2) + 9) 0) &&& 31)) then
    Option.bind (goRd M 4 26 25) fun x12 =>
    Option.bind (fX5_cluesOf N M ((goRr R 74 2) + 9) (x12 &&& (v3 ^^^ (-1)))) fun x14 =>
    goB2 (if (fJ6_bitCount_0f7a4 v3) < v2 then
    Option.bind (fX4_anyBears N M R x14) fun x21 =>
    if x21 = 0 then
    some (v1, v2)
    else
    goNm (fJ6_bitCount_0f7a4 v3) fun x24 =>
    some (v3, x24)
    else
    some (v1, v2)) fun x16 x17 =>
    lX4_fewestFalse_8 N M R n x16 x17 (v3 + 1)
    else
    some v1
noncomputable def fX4_fewestFalse (N : Nat) (M : goMI) (R : goMR) : Option (Int32) :=
  Option.bind (lX4_fewestFalse_8 N M R N (-2) 7 0) fun x27 =>
  some x27
noncomputable def lX4_oddsOf_4 (N : Nat) (v1 : Int32) (M : goMI) (R : goMR) : Nat → Int32 → Int32 → Option (Int32)
  | 0, _, _ => none
  | n + 1, v2, v3 =>
    if v3 < (M ((goRr R 74 2) + 9) 0) then
    Option.bind (goRd M 4 26 25) fun x12 =>
    Option.bind (fX5_cluesOf N M ((goRr R 74 2) + 9) (x12 &&& (1 <<< (v3 &&& 31)))) fun x14 =>
    Option.bind (if x14 = 0 then
    some v2
    else
    Option.bind (fX4_bears M v1 x14) fun x20 =>
    Option.bind (if x20 = 0 then
    Option.bind (goRd M ((goRr R 74 2) + 13) 6 v3) fun x26 =>
    some (10 - x26)
    else
    Option.bind (goRd M ((goRr R 74 2) + 13) 6 v3) fun x28 =>
    some x28) fun x22 =>
    goNm (v2 * x22) fun x30 =>
    some x30) fun x16 =>
    lX4_oddsOf_4 N v1 M R n x16 (v3 + 1)
    else
    some v2
noncomputable def fX4_oddsOf (N : Nat) (M : goMI) (R : goMR) (v1 : Int32) : Option (Int32) :=
  Option.bind (lX4_oddsOf_4 N v1 M R N 1 0) fun x33 =>
  some x33
noncomputable def lX4_greatestOdds_6 (N : Nat) (M : goMI) (R : goMR) : Nat → Int32 → Int32 → Int32 → Option (Int32)
  | 0, _, _, _ => none
  | n + 1, v1, v2, v3 =>
    if v3 < (M (goRr R 74 2) 5) then
    Option.bind (fX4_oddsOf N M R v3) fun x12 =>
    goB2 (if v2 < x12 then
    some (v3, x12)
    else
    some (v1, v2)) fun x14 x15 =>
    lX4_greatestOdds_6 N M R n x14 x15 (v3 + 1)
    else
    some v1
noncomputable def fX4_greatestOdds (N : Nat) (M : goMI) (R : goMR) : Option (Int32) :=
  Option.bind (lX4_greatestOdds_6 N M R N 0 0 0) fun x20 =>
  some x20
noncomputable def lX4_prove_19 (v2 : Int32) (v3 : Int32) (v4 : Int32) (v5 : Int32) (M : goMI) (R : goMR) : Nat → Int32 → Int32 → Option (Int32)
  | 0, _, _ => none
  | n + 1, v6, v7 =>
    if v7 < (M (goRr R 74 2) 5) then
    Option.bind (fX4_bears M v7 v5) fun x16 =>
    if x16 = 0 then
    lX4_prove_19 v2 v3 v4 v5 M R n v6 (v7 + 1)
    else
    Option.bind (fX6_placeIn M (goRr R 74 2) v7 v2 v4) fun x19 =>
    if x19 = v3 then
    lX4_prove_19 v2 v3 v4 v5 M R n 1 (v7 + 1)
    else
    some 0
    else
    Option.bind (goZr v6) fun x14 =>
    some x14
noncomputable def fX4_prove (N : Nat) (M : goMI) (R : goMR) (v1 : Int32) (v2 : Int32) (v3 : Int32) (v4 : Int32) : Option (Int32) :=
  Option.bind (fX5_cluesOf N M ((goRr R 74 2) + 9) v1) fun x11 =>
  lX4_prove_19 v2 v3 v4 x11 M R N 0 0
noncomputable def lX4_fewestProving_11 (N : Nat) (v1 : Int32) (v2 : Int32) (v3 : Int32) (M : goMI) (R : goMR) : Nat → Int32 → Int32 → Int32 → Option (Int32)
  | 0, _, _, _ => none
  | n + 1, v4, v5, v6 =>
    if v6 < (1 <<< ((M ((goRr R 74 2) + 9) 0) &&& 31)) then
    goB2 (if (fJ6_bitCount_0f7a4 v6) < v5 then
    Option.bind (fX4_prove N M R v6 v1 v2 v3) fun x17 =>
    if x17 = 0 then
    some (v4, v5)
    else
    goNm (fJ6_bitCount_0f7a4 v6) fun x20 =>
    some (v6, x20)
    else
    some (v4, v5)) fun x12 x13 =>
    lX4_fewestProving_11 N v1 v2 v3 M R n x12 x13 (v6 + 1)
    else
    some v4
noncomputable def fX4_fewestProving (N : Nat) (M : goMI) (R : goMR) (v1 : Int32) (v2 : Int32) (v3 : Int32) : Option (Int32) :=
  Option.bind (lX4_fewestProving_11 N v1 v2 v3 M R N (-2) 7 0) fun x23 =>
  some x23
noncomputable def lX4_mostLeft_19 (v1 : Int32) (v2 : Int32) (v3 : Int32) (R : goMR) : Nat → Int32 → Int32 → goMI → Option (Int32 × goMI)
  | 0, _, _, _ => none
  | n + 1, v4, v5, M =>
    if v5 < (M (goRr R 74 2) 5) then
    Option.bind (fX4_bears M v5 v3) fun x16 =>
    goB2 (if x16 = 0 then
    some (v4, M)
    else
    Option.bind (goRd M 76 5832 (((v5 * 72) + (v1 * 12)) + v2)) fun x23 =>
    Option.bind (goRd M 77 8 x23) fun x25 =>
    Option.bind (goWr M 77 8 x23 (x25 + 1)) fun M27 =>
    Option.bind (goRd M27 77 8 x23) fun x29 =>
    goNm (goMax v4 x29) fun x31 =>
    some (x31, M27)) fun x18 M19 =>
    lX4_mostLeft_19 v1 v2 v3 R n x18 (v5 + 1) M19
    else
    some (v4, M)
noncomputable def fX4_mostLeft (N : Nat) (M : goMI) (R : goMR) (v1 : Int32) (v2 : Int32) : Option (Int32 × goMI) :=
  Option.bind (fX4_heardClues N M R) fun x11 =>
  Option.bind (fJ7_fill_53178 N M 77 8 0) fun M13 =>
  goB2 (lX4_mostLeft_19 v1 v2 x11 R N 0 0 M13) fun x34 M35 =>
  some (x34, M35)
noncomputable def lX4_question_47 (N : Nat) (v1 : Int32) (R : goMR) : Nat → Int32 → goMI → Option (goMI)
  | 0, _, _ => none
  | n + 1, v2, M =>
    if v2 < (M (goRr R 74 2) 0) then
    goB2 (fX4_mostLeft N M R v1 v2) fun x19 M20 =>
    Option.bind (if x19 < (M20 74 11) then
    goNm (goWI M20 74 11 x19) fun M26 =>
    goNm (goWI M26 74 9 v1) fun M28 =>
    goNm (goWI M28 74 10 v2) fun M30 =>
    some M30
    else
    some M20) fun M22 =>
    lX4_question_47 N v1 R n (v2 + 1) M22
    else
    some M
noncomputable def lX4_question_31 (N : Nat) (R : goMR) : Nat → Int32 → goMI → Option (goMI)
  | 0, _, _ => none
  | n + 1, v1, M =>
    if v1 < (M ((goRr R 74 2) + 9) 0) then
    Option.bind (lX4_question_47 N v1 R N 0 M) fun M33 =>
    lX4_question_31 N R n (v1 + 1) M33
    else
    some M
noncomputable def fX4_question (N : Nat) (M : goMI) (R : goMR) : Option (Int32 × goMI) :=
  if (M ((goRr R 74 2) + 9) 0) = 0 then
  some (0, M)
  else
  Option.bind (fX4_howManyFit N M R) fun x12 =>
  if x12 < 2 then
  some (0, M)
  else
  goNm (goWI M 74 11 82) fun M15 =>
  Option.bind (lX4_question_31 N R N 0 M15) fun M35 =>
  some (1, M35)
noncomputable def fX5_clear (N : Nat) (M : goMI) (a0 : Nat) : Option (goMI) :=
  goNm (goWI M a0 0 0) fun M11 =>
  goNm (goWI M11 a0 1 0) fun M13 =>
  Option.bind (fJ7_fill_53178 N M13 (a0 + 5) 6 0) fun M15 =>
  some M15
noncomputable def fX5_addClue (M : goMI) (a0 : Nat) (v1 : Int32) (v2 : Int32) (v3 : Int32) (v4 : Int32) : Option (goMI) :=
  if (M a0 1) < 10 then
  Option.bind (goWr M (a0 + 8) 10 (M a0 1) v1) fun M12 =>
  Option.bind (goWr M12 (a0 + 9) 10 (M12 a0 1) v2) fun M14 =>
  Option.bind (goWr M14 (a0 + 10) 10 (M14 a0 1) v3) fun M16 =>
  Option.bind (goWr M16 (a0 + 11) 10 (M16 a0 1) v4) fun M18 =>
  goNm (goWI M18 a0 1 ((M18 a0 1) + 1)) fun M20 =>
  some M20
  else
  some M
noncomputable def fX7_clear (M : goMI) (a0 : Nat) : Option (goMI) :=
  goNm (goWI M a0 0 0) fun M11 =>
  goNm (goWI M11 a0 1 0) fun M13 =>
  goNm (goWI M13 a0 2 0) fun M15 =>
  goNm (goWI M15 a0 3 0) fun M17 =>
  some M17
noncomputable def fX6_clear (N : Nat) (M : goMI) (a0 : Nat) : Option (goMI) :=
  goNm (goWI M a0 0 0) fun M11 =>
  goNm (goWI M11 a0 1 0) fun M13 =>
  goNm (goWI M13 a0 2 0) fun M15 =>
  goNm (goWI M15 a0 3 0) fun M17 =>
  goNm (goWI M17 a0 4 0) fun M19 =>
  goNm (goWI M19 a0 5 0) fun M21 =>
  goNm (goWI M21 a0 6 0) fun M23 =>
  Option.bind (fJ7_fill_53178 N M23 (a0 + 1) 8 0) fun M25 =>
  Option.bind (fJ7_fill_53178 N M25 (a0 + 2) 8 0) fun M27 =>
  Option.bind (fJ7_fill_53178 N M27 (a0 + 5) 4 0) fun M29 =>
  Option.bind (fX5_clear N M29 (a0 + 9)) fun M31 =>
  Option.bind (fX7_clear M31 (a0 + 21)) fun M33 =>
  goNm (goWI M33 (a0 + 25) 0 0) fun M35 =>
  some M35
noncomputable def fX6_addPath (M : goMI) (a0 : Nat) (v1 : Int32) (v2 : Int32) : Option (goMI) :=
  if (M a0 3) < 14 then
  Option.bind (goWr M (a0 + 3) 14 (M a0 3) v1) fun M12 =>
  Option.bind (goWr M12 (a0 + 4) 14 (M12 a0 3) v2) fun M14 =>
  goNm (goWI M14 a0 3 ((M14 a0 3) + 1)) fun M16 =>
  Option.bind (goRd M16 (a0 + 2) 8 v1) fun x18 =>
  Option.bind (goWr M16 (a0 + 2) 8 v1 (x18 ||| (1 <<< (v2 &&& 31)))) fun M20 =>
  Option.bind (goRd M20 (a0 + 2) 8 v2) fun x22 =>
  Option.bind (goWr M20 (a0 + 2) 8 v2 (x22 ||| (1 <<< (v1 &&& 31)))) fun M24 =>
  some M24
  else
  some M
noncomputable def lX6_tellFrom_18 (v3 : Int32) (v4 : Int32) (a0 : Nat) : Nat → Int32 → goMI → Option (goMI)
  | 0, _, _ => none
  | n + 1, v5, M =>
    if v5 < 12 then
    Option.bind (goWr M (a0 + 7) 144 (v4 + v5) v3) fun M16 =>
    lX6_tellFrom_18 v3 v4 a0 n (v5 + 1) M16
    else
    some M
noncomputable def fX6_tellFrom (N : Nat) (M : goMI) (a0 : Nat) (v1 : Int32) (v2 : Int32) (v3 : Int32) : Option (goMI) :=
  Option.bind (goRd M (a0 + 5) 4 v1) fun x11 =>
  goNm (((v1 * 3) + x11) * 12) fun x13 =>
  Option.bind (lX6_tellFrom_18 v3 x13 a0 N v2 M) fun M19 =>
  some M19
noncomputable def lX6_countCases_12 (a0 : Nat) : Nat → Int32 → goMI → Option (goMI)
  | 0, _, _ => none
  | n + 1, v1, M =>
    if 0 ≤ v1 then
    Option.bind (goWr M (a0 + 6) 4 v1 (M a0 5)) fun M16 =>
    Option.bind (goRd M16 (a0 + 5) 4 v1) fun x18 =>
    Option.bind (if 0 < x18 then
    Option.bind (goRd M16 (a0 + 5) 4 v1) fun x24 =>
    goNm (goWI M16 a0 5 ((M16 a0 5) * x24)) fun M26 =>
    some M26
    else
    some M16) fun M20 =>
    lX6_countCases_12 a0 n (v1 + (-1)) M20
    else
    some M
noncomputable def fX6_countCases (N : Nat) (M : goMI) (a0 : Nat) : Option (goMI) :=
  goNm (goWI M a0 5 1) fun M11 =>
  goNm ((M11 a0 4) - 1) fun x13 =>
  Option.bind (lX6_countCases_12 a0 N x13 M11) fun M29 =>
  some M29
noncomputable def lX7_addRule_32 (v3 : Int32) (a0 : Nat) (a2 : Nat) (n2 : Nat) : Nat → Int32 → goMI → Option (goMI)
  | 0, _, _ => none
  | n + 1, v4, M =>
    if v4 < v3 then
    Option.bind (goRd M (a0 + 2) 8 (M a0 2)) fun x17 =>
    Option.bind (goRd M a2 n2 v4) fun x19 =>
    Option.bind (goWr M (a0 + 2) 8 (M a0 2) (x17 ||| (1 <<< (x19 &&& 31)))) fun M21 =>
    lX7_addRule_32 v3 a0 a2 n2 n (v4 + 1) M21
    else
    some M
noncomputable def fX7_addRule (N : Nat) (M : goMI) (a0 : Nat) (v1 : Int32) (a2 n2 : Nat) (v3 : Int32) : Option (goMI) :=
  if (M a0 2) < 8 then
  Option.bind (goWr M (a0 + 1) 8 (M a0 2) v1) fun M12 =>
  Option.bind (goWr M12 (a0 + 2) 8 (M12 a0 2) 0) fun M14 =>
  Option.bind (lX7_addRule_32 v3 a0 a2 n2 N 0 M14) fun M24 =>
  goNm (goWI M24 a0 2 ((M24 a0 2) + 1)) fun M25 =>
  some M25
  else
  some M
noncomputable def fX7_setProof (M : goMI) (a0 : Nat) (a1 n1 : Nat) (v2 : Int32) : Option (goMI) :=
  goNm (goWI M a0 3 v2) fun M11 =>
  Option.bind (goCp M11 a1 n1 0 (a0 + 3) 8 0 v2) fun M13 =>
  some M13
noncomputable def lX7_known_17 (v2 : Int32) (M : goMI) (a0 : Nat) : Nat → Int32 → Int32 → Option (Int32)
  | 0, _, _ => none
  | n + 1, v3, v5 =>
    if v5 < (M a0 2) then
    Option.bind (if v5 = v2 then
    some v3
    else
    Option.bind (goRd M (a0 + 2) 8 v5) fun x17 =>
    if (x17 &&& (v3 ^^^ (-1))) = 0 then
    Option.bind (goRd M (a0 + 1) 8 v5) fun x20 =>
    goNm (v3 ||| (1 <<< (x20 &&& 31))) fun x22 =>
    some x22
    else
    some v3) fun x13 =>
    lX7_known_17 v2 M a0 n x13 (v5 + 1)
    else
    some v3
noncomputable def lX7_known_5 (N : Nat) (v2 : Int32) (M : goMI) (a0 : Nat) : Nat → Int32 → Int32 → Option (Int32)
  | 0, _, _ => none
  | n + 1, v3, v4 =>
    if v4 < (M a0 0) then
    Option.bind (lX7_known_17 v2 M a0 N v3 0) fun x25 =>
    lX7_known_5 N v2 M a0 n x25 (v4 + 1)
    else
    some v3
noncomputable def fX7_known (N : Nat) (M : goMI) (a0 : Nat) (v1 : Int32) (v2 : Int32) : Option (Int32) :=
  Option.bind (lX7_known_5 N v2 M a0 N v1 0) fun x27 =>
  some x27
noncomputable def lX7_isRight_16 (v1 : Int32) (v2 : Int32) (M : goMI) (a0 : Nat) : Nat → Int32 → Option (Int32)
  | 0, _ => none
  | n + 1, v3 =>
    if v3 < (M a0 2) then
    Option.bind (goRd M (a0 + 1) 8 v3) fun x13 =>
    if x13 = v1 then
    Option.bind (goRd M (a0 + 2) 8 v3) fun x16 =>
    if (x16 &&& (v2 ^^^ (-1))) = 0 then
    some 1
    else
    lX7_isRight_16 v1 v2 M a0 n (v3 + 1)
    else
    lX7_isRight_16 v1 v2 M a0 n (v3 + 1)
    else
    some 0
noncomputable def fX7_isRight (N : Nat) (M : goMI) (a0 : Nat) (v1 : Int32) (v2 : Int32) : Option (Int32) :=
  if (fX12_bit (M a0 1) v1) = 1 then
  some 1
  else
  lX7_isRight_16 v1 v2 M a0 N 0
noncomputable def lX7_firstWrongStep_4 (N : Nat) (M : goMI) (a0 : Nat) : Nat → Int32 → Int32 → Option (Int32)
  | 0, _, _ => none
  | n + 1, v1, v2 =>
    if v2 < (M a0 3) then
    Option.bind (goRd M (a0 + 3) 8 v2) fun x12 =>
    Option.bind (fX7_isRight N M a0 x12 v1) fun x14 =>
    if x14 = 0 then
    some v2
    else
    Option.bind (goRd M (a0 + 3) 8 v2) fun x17 =>
    goNm (v1 ||| (1 <<< (x17 &&& 31))) fun x19 =>
    lX7_firstWrongStep_4 N M a0 n x19 (v2 + 1)
    else
    some (-2)
noncomputable def fX7_firstWrongStep (N : Nat) (M : goMI) (a0 : Nat) : Option (Int32) :=
  lX7_firstWrongStep_4 N M a0 N 0 0
noncomputable def lX7_neededRules_23 (N : Nat) (v1 : Int32) (M : goMI) (a0 : Nat) : Nat → Int32 → Int32 → Option (Int32)
  | 0, _, _ => none
  | n + 1, v2, v3 =>
    if v3 < (M a0 2) then
    Option.bind (fX7_known N M a0 (M a0 1) v3) fun x15 =>
    Option.bind (if (fX12_bit x15 v1) = 0 then
    goNm (v2 ||| (1 <<< (v3 &&& 31))) fun x21 =>
    some x21
    else
    some v2) fun x17 =>
    lX7_neededRules_23 N v1 M a0 n x17 (v3 + 1)
    else
    some v2
noncomputable def fX7_neededRules (N : Nat) (M : goMI) (a0 : Nat) (v1 : Int32) : Option (Int32) :=
  Option.bind (fX7_known N M a0 (M a0 1) (-1)) fun x11 =>
  if (fX12_bit x11 v1) = 0 then
  some (-2)
  else
  Option.bind (lX7_neededRules_23 N v1 M a0 N 0 0) fun x24 =>
  some x24
noncomputable def lX7_fewestFacts_9 (N : Nat) (v1 : Int32) (M : goMI) (a0 : Nat) : Nat → Int32 → Int32 → Int32 → Option (Int32)
  | 0, _, _, _ => none
  | n + 1, v2, v3, v4 =>
    if v4 < (1 <<< ((M a0 0) &&& 31)) then
    goNm (fJ6_bitCount_0f7a4 v4) fun x12 =>
    goB2 (if (v4 &&& ((M a0 1) ^^^ (-1))) = 0 then
    if x12 < v3 then
    Option.bind (fX7_known N M a0 v4 (-1)) fun x20 =>
    if (fX12_bit x20 v1) = 1 then
    some (v4, x12)
    else
    some (v2, v3)
    else
    some (v2, v3)
    else
    some (v2, v3)) fun x14 x15 =>
    lX7_fewestFacts_9 N v1 M a0 n x14 x15 (v4 + 1)
    else
    some v2
noncomputable def fX7_fewestFacts (N : Nat) (M : goMI) (a0 : Nat) (v1 : Int32) : Option (Int32) :=
  Option.bind (lX7_fewestFacts_9 N v1 M a0 N (-2) 9 0) fun x24 =>
  some x24
noncomputable def fX8_use (R : goMR) (a1 : Nat) : Option (Unit) :=
  some ()
noncomputable def fX8_save (M : goMI) (a1 n1 : Nat) (v2 : Int32) : Option (goMI) :=
  Option.bind (goCp M 93 14 0 a1 n1 (v2 * 14) 14) fun M11 =>
  some M11
noncomputable def lX8_playSaving_3 (N : Nat) (v3 : Int32) (R : goMR) (a1 : Nat) (n1 : Nat) : Nat → Int32 → goMI → Option (goMI)
  | 0, _, _ => none
  | n + 1, v4, M =>
    if v4 ≤ v3 then
    Option.bind (fX3_play N M R 92 v4 v4) fun M12 =>
    Option.bind (fX8_save M12 a1 n1 (v4 + 1)) fun M14 =>
    lX8_playSaving_3 N v3 R a1 n1 n (v4 + 1) M14
    else
    some M
noncomputable def fX8_playSaving (N : Nat) (M : goMI) (R : goMR) (a1 n1 : Nat) (v2 : Int32) (v3 : Int32) : Option (goMI) :=
  Option.bind (lX8_playSaving_3 N v3 R a1 n1 N v2 M) fun M17 =>
  some M17
noncomputable def fX8_isThere (M : goMI) : Option (Int32) :=
  Option.bind (goRd M 93 14 (8 + (M 88 4))) fun x11 =>
  if x11 = (M 88 5) then
  some 1
  else
  some 0
noncomputable def fX8_isFree (M : goMI) (v1 : Int32) : Option (Int32) :=
  if (v1 - v1 / 12 * 12) ≤ (M 88 6) then
  Option.bind (goRd M 94 24 ((M 88 7) + (v1 - v1 / 12 * 12))) fun x12 =>
  if (fX12_bit x12 (v1 / 12)) = 0 then
  some 1
  else
  some 0
  else
  some 0
noncomputable def fX8_turn (M : goMI) (v1 : Int32) : Option (goMI) :=
  Option.bind (goRd M 94 24 ((M 88 7) + (v1 - v1 / 12 * 12))) fun x11 =>
  Option.bind (goWr M 94 24 ((M 88 7) + (v1 - v1 / 12 * 12)) (x11 ^^^ (1 <<< ((v1 / 12) &&& 31)))) fun M13 =>
  some M13
noncomputable def fX8_load (M : goMI) (a1 n1 : Nat) (v2 : Int32) : Option (goMI) :=
  Option.bind (goCp M a1 n1 (v2 * 14) 93 14 0 14) fun M11 =>
  some M11
noncomputable def lX8_isAs_2 (v2 : Int32) (M : goMI) (a1 : Nat) (n1 : Nat) : Nat → Int32 → Option (Int32)
  | 0, _ => none
  | n + 1, v3 =>
    if v3 < 14 then
    Option.bind (goRd M 93 14 v3) fun x12 =>
    Option.bind (goRd M a1 n1 ((v2 * 14) + v3)) fun x14 =>
    if x12 = x14 then
    lX8_isAs_2 v2 M a1 n1 n (v3 + 1)
    else
    some 0
    else
    some 1
noncomputable def fX8_isAs (N : Nat) (M : goMI) (a1 n1 : Nat) (v2 : Int32) : Option (Int32) :=
  lX8_isAs_2 v2 M a1 n1 N 0
noncomputable def fX8_changes (N : Nat) (M : goMI) (R : goMR) (v1 : Int32) (a2 n2 : Nat) : Option (Int32 × goMI) :=
  goNm (v1 - v1 / 12 * 12) fun x11 =>
  Option.bind (fX8_turn M v1) fun M13 =>
  Option.bind (fX8_load M13 a2 n2 x11) fun M15 =>
  Option.bind (fX3_play N M15 R 92 x11 x11) fun M17 =>
  Option.bind (fX8_isAs N M17 a2 n2 (x11 + 1)) fun x19 =>
  goNm (α := Int32) (if x19 = 0 then
  1
  else
  0) fun x21 =>
  Option.bind (if x21 = 0 then
  some M17
  else
  Option.bind (fX3_play N M17 R 92 (x11 + 1) (M17 88 6)) fun M29 =>
  some M29) fun M25 =>
  Option.bind (fX8_turn M25 v1) fun M31 =>
  Option.bind (goZr x21) fun x33 =>
  some (x33, M31)
noncomputable def lX8_findOne_2 (N : Nat) (R : goMR) : Nat → Int32 → goMI → Option (Int32 × goMI)
  | 0, _, _ => none
  | n + 1, v1, M =>
    if v1 < ((M (goRr R 92 1) 2) * 12) then
    Option.bind (goWrZ M 91 96 v1 1) fun M12 =>
    Option.bind (fX8_isFree M12 v1) fun x14 =>
    if x14 = 0 then
    lX8_findOne_2 N R n (v1 + 1) M12
    else
    goB2 (fX8_changes N M12 R v1 89 182) fun x17 M18 =>
    if x17 = 0 then
    lX8_findOne_2 N R n (v1 + 1) M18
    else
    Option.bind (goWrZ M18 91 96 v1 0) fun M21 =>
    Option.bind (fX8_isThere M21) fun x23 =>
    if x23 = 0 then
    lX8_findOne_2 N R n (v1 + 1) M21
    else
    goNm (goWI M21 88 8 v1) fun M26 =>
    some (1, M26)
    else
    some (0, M)
noncomputable def fX8_findOne (N : Nat) (M : goMI) (R : goMR) : Option (Int32 × goMI) :=
  lX8_findOne_2 N R N 0 M
noncomputable def fX8_isSooner (M : goMI) (v1 : Int32) (v2 : Int32) : Int32 :=
  goNm (goMin v1 v2) fun x11 =>
  if (M 88 8) ≤ x11 then
  if x11 = (M 88 8) then
  if (goMax v1 v2) < (M 88 9) then
  1
  else
  0
  else
  0
  else
  1
noncomputable def lX8_findLater_59 (N : Nat) (v1 : Int32) (v2 : Int32) (v3 : Int32) (R : goMR) : Nat → Int32 → goMI → Option (goMI)
  | 0, _, _ => none
  | n + 1, v4, M =>
    if v4 < ((M (goRr R 92 1) 2) * 12) then
    goNm (v4 - v4 / 12 * 12) fun x28 =>
    goNm (α := Int32) (if v2 < x28 then
    if v3 < x28 then
    if x28 = v2 then
    if v1 < v4 then
    1
    else
    0
    else
    0
    else
    1
    else
    if x28 = v2 then
    if v1 < v4 then
    1
    else
    0
    else
    0) fun x30 =>
    Option.bind (if x30 = 0 then
    some M
    else
    if (fX8_isSooner M v1 v4) = 0 then
    some M
    else
    Option.bind (fX8_isFree M v4) fun x44 =>
    if x44 = 0 then
    some M
    else
    goB2 (fX8_changes N M R v4 90 182) fun x47 M48 =>
    if x47 = 0 then
    some M48
    else
    Option.bind (fX8_isThere M48) fun x51 =>
    if x51 = 0 then
    some M48
    else
    goNm (goWI M48 88 8 (goMin v1 v4)) fun M54 =>
    goNm (goWI M54 88 9 (goMax v1 v4)) fun M56 =>
    some M56) fun M39 =>
    lX8_findLater_59 N v1 v2 v3 R n (v4 + 1) M39
    else
    some M
noncomputable def fX8_findLater (N : Nat) (M : goMI) (R : goMR) (v1 : Int32) : Option (goMI) :=
  goNm (v1 - v1 / 12 * 12) fun x11 =>
  Option.bind (goRd M 91 96 v1) fun x13 =>
  goNm (α := Int32) (if x13 = 0 then
  (M 88 6)
  else
  x11) fun x15 =>
  Option.bind (fX8_turn M v1) fun M19 =>
  Option.bind (fX8_load M19 89 182 x11) fun M21 =>
  Option.bind (fX8_save M21 90 182 x11) fun M23 =>
  Option.bind (fX8_playSaving N M23 R 90 182 x11 x15) fun M25 =>
  Option.bind (lX8_findLater_59 N v1 x11 x15 R N 0 M25) fun M59 =>
  Option.bind (fX8_turn M59 v1) fun M60 =>
  some M60
noncomputable def lX8_fewest_85 (N : Nat) (R : goMR) : Nat → Int32 → goMI → Option (goMI)
  | 0, _, _ => none
  | n + 1, v6, M =>
    if v6 < ((M (goRr R 92 1) 2) * 12) then
    Option.bind (fX8_isFree M v6) fun x37 =>
    Option.bind (if x37 = 0 then
    some M
    else
    Option.bind (fX8_findLater N M R v6) fun M43 =>
    some M43) fun M39 =>
    lX8_fewest_85 N R n (v6 + 1) M39
    else
    some M
noncomputable def fX8_fewest (N : Nat) (M : goMI) (R : goMR) (v1 : Int32) (v2 : Int32) (v3 : Int32) (v4 : Int32) (v5 : Int32) : Option (Int32 × goMI) :=
  goNm (goWI M 88 4 v2) fun M11 =>
  goNm (goWI M11 88 5 v3) fun M13 =>
  goNm (goWI M13 88 6 v4) fun M15 =>
  goNm (goWI M15 88 7 v5) fun M17 =>
  Option.bind (fX3_prepare N M17 R 92 v1) fun M19 =>
  Option.bind (fX8_save M19 89 182 0) fun M21 =>
  Option.bind (fX8_playSaving N M21 R 89 182 0 (M21 88 6)) fun M23 =>
  Option.bind (fX8_isThere M23) fun x25 =>
  if x25 = 0 then
  goB2 (fX8_findOne N M23 R) fun x28 M29 =>
  if x28 = 0 then
  goNm (goWI M29 88 8 96) fun M32 =>
  goNm (goWI M32 88 9 96) fun M34 =>
  Option.bind (lX8_fewest_85 N R N 0 M34) fun M46 =>
  if (M46 88 8) < 96 then
  some (2, M46)
  else
  some ((-2), M46)
  else
  some (1, M29)
  else
  some (0, M23)
noncomputable def fX11_isLetter (v0 : Int32) : Int32 :=
  if 97 ≤ v0 then
  if v0 ≤ 122 then
  1
  else
  0
  else
  0
noncomputable def lX11_readWord_5 : Nat → goMI → goML → Option (goMI × goML)
  | 0, _, _ => none
  | n + 1, M, L =>
    if (M 1 3) < (M 1 2) then
    Option.bind (goRd M 2 1200 (M 1 3)) fun x14 =>
    if (fX11_isLetter x14) = 0 then
    some (M, L)
    else
    Option.bind (goRd M 2 1200 (M 1 3)) fun x17 =>
    goNm (goWL L 1 7 (((((L 1 7) * 32) + (Int32.toInt64 x17)) - 97) + 1)) fun L19 =>
    goNm (goWI M 1 3 ((M 1 3) + 1)) fun M21 =>
    lX11_readWord_5 n M21 L19
    else
    some (M, L)
noncomputable def fX11_readWord (N : Nat) (M : goMI) (L : goML) : Option (goMI × goML) :=
  goNm (goWL L 1 7 0) fun L11 =>
  goB2 (lX11_readWord_5 N M L11) fun M24 L25 =>
  goNm (goWI M24 1 6 ((M24 1 3) - (M24 1 5))) fun M26 =>
  goNm (α := Int32) (if (M26 1 6) ≤ 8 then
  1
  else
  5) fun x28 =>
  goNm (goWI M26 1 4 x28) fun M32 =>
  some (M32, L25)
noncomputable def fX11_isDigit (v0 : Int32) : Int32 :=
  if 48 ≤ v0 then
  if v0 ≤ 57 then
  1
  else
  0
  else
  0
noncomputable def lX11_readWhole_5 : Nat → goMI → Option (goMI)
  | 0, _ => none
  | n + 1, M =>
    if (M 1 3) < (M 1 2) then
    Option.bind (goRd M 2 1200 (M 1 3)) fun x14 =>
    if (fX11_isDigit x14) = 0 then
    some M
    else
    Option.bind (goRd M 2 1200 (M 1 3)) fun x17 =>
    goNm (goWI M 1 8 ((((M 1 8) * 10) + x17) - 48)) fun M19 =>
    goNm (goWI M19 1 3 ((M19 1 3) + 1)) fun M21 =>
    lX11_readWhole_5 n M21
    else
    some M
noncomputable def fX11_readWhole (N : Nat) (M : goMI) : Option (goMI) :=
  goNm (goWI M 1 8 0) fun M11 =>
  Option.bind (lX11_readWhole_5 N M11) fun M24 =>
  goNm (α := Int32) (if ((M24 1 3) - (M24 1 5)) ≤ 3 then
  2
  else
  5) fun x25 =>
  goNm (goWI M24 1 4 x25) fun M29 =>
  some M29
noncomputable def lX11_advance_0 : Nat → goMI → Option (goMI)
  | 0, _ => none
  | n + 1, M =>
    if (M 1 3) < (M 1 2) then
    Option.bind (goRd M 2 1200 (M 1 3)) fun x12 =>
    if x12 = 32 then
    goNm (goWI M 1 3 ((M 1 3) + 1)) fun M15 =>
    lX11_advance_0 n M15
    else
    some M
    else
    some M
noncomputable def fX11_advance (N : Nat) (M : goMI) (L : goML) : Option (goMI × goML) :=
  Option.bind (lX11_advance_0 N M) fun M18 =>
  goNm (goWI M18 1 5 (M18 1 3)) fun M19 =>
  if (M19 1 2) ≤ (M19 1 3) then
  goNm (goWI M19 1 4 0) fun M40 =>
  some (M40, L)
  else
  Option.bind (goRd M19 2 1200 (M19 1 3)) fun x22 =>
  if (fX11_isLetter x22) = 0 then
  if (fX11_isDigit x22) = 0 then
  goNm (α := Int32) (if x22 = 59 then
  3
  else
  if x22 = 44 then
  4
  else
  5) fun x26 =>
  goNm (goWI M19 1 4 x26) fun M31 =>
  goNm (goWI M31 1 3 ((M31 1 3) + 1)) fun M33 =>
  some (M33, L)
  else
  Option.bind (fX11_readWhole N M19) fun M35 =>
  some (M35, L)
  else
  goB2 (fX11_readWord N M19 L) fun M37 L38 =>
  some (M37, L38)
noncomputable def fX11_rewind (N : Nat) (M : goMI) (L : goML) (v1 : Int32) : Option (goMI × goML) :=
  goNm (goWI M 1 2 (goMin v1 (M 1 1))) fun M11 =>
  goNm (goWI M11 1 3 0) fun M13 =>
  goB2 (fX11_advance N M13 L) fun M15 L16 =>
  some (M15, L16)
noncomputable def lX9_reservedHere_2 (M : goMI) (L : goML) : Nat → Int32 → Option (Nat)
  | 0, _ => none
  | n + 1, v1 =>
    if v1 < 18 then
    if (M 1 4) = 1 then
    Option.bind (goRdL L 73 18 v1) fun x13 =>
    if (lg_cmp (L 1 7) x13) = 0 then
    Option.bind (goRa v1) fun x16 =>
    some x16
    else
    lX9_reservedHere_2 M L n (v1 + 1)
    else
    lX9_reservedHere_2 M L n (v1 + 1)
    else
    some 1000017
noncomputable def fX9_reservedHere (N : Nat) (M : goMI) (L : goML) : Option (Nat) :=
  lX9_reservedHere_2 M L N 0
noncomputable def fX9_fail (M : goMI) (v1 : Int32) : Option (Int32 × goMI) :=
  goNm (goWI M 67 10 v1) fun M11 =>
  goNm (goWI M11 67 11 (M11 1 5)) fun M13 =>
  some (0, M13)
noncomputable def lX11_codeOf_4 (a0 : Nat) : Nat → Int64 → Int32 → Option (Int64)
  | 0, _, _ => none
  | n + 1, w1, v3 =>
    Option.bind (goSl a0) fun x11 =>
    if v3 < x11 then
    Option.bind (goSc a0 v3) fun x14 =>
    goNm ((((w1 * 32) + (Int32.toInt64 x14)) - 97) + 1) fun x16 =>
    lX11_codeOf_4 a0 n x16 (v3 + 1)
    else
    some w1
noncomputable def fX11_codeOf (N : Nat) (a0 : Nat) : Option (Int64) :=
  Option.bind (lX11_codeOf_4 a0 N 0 0) fun x19 =>
  some x19
noncomputable def fX11_spells (N : Nat) (M : goMI) (L : goML) (a1 : Nat) : Option (Int32) :=
  if (M 1 4) = 1 then
  Option.bind (fX11_codeOf N a1) fun x12 =>
  if (lg_cmp (L 1 7) x12) = 0 then
  some 1
  else
  some 0
  else
  some 0
noncomputable def fX9_word (N : Nat) (M : goMI) (L : goML) (a1 : Nat) : Option (Int32 × goMI × goML) :=
  Option.bind (fX11_spells N M L a1) fun x11 =>
  if x11 = 0 then
  goB2 (fX9_fail M 1) fun x17 M18 =>
  Option.bind (goZr x17) fun x20 =>
  some (x20, M18, L)
  else
  goB2 (fX11_advance N M L) fun M14 L15 =>
  some (1, M14, L15)
noncomputable def fX9_wholeIn (M : goMI) (v1 : Int32) (v2 : Int32) : Option (Int32 × goMI) :=
  if (M 1 4) = 2 then
  if v1 ≤ (M 1 8) then
  if v2 < (M 1 8) then
  goB2 (fX9_fail M 4) fun x18 M19 =>
  if x18 = 0 then
  some (0, M19)
  else
  some (1, M19)
  else
  some (1, M)
  else
  goB2 (fX9_fail M 4) fun x13 M14 =>
  if x13 = 0 then
  some (0, M14)
  else
  some (1, M14)
  else
  goB2 (fX9_fail M 1) fun x22 M23 =>
  Option.bind (goZr x22) fun x25 =>
  some (x25, M23)
noncomputable def fX9_hillLine (N : Nat) (M : goMI) (L : goML) (R : goMR) : Option (Int32 × goMI × goML) :=
  goB3 (fX9_word N M L 1000100) fun x11 M12 L13 =>
  if x11 = 0 then
  some (0, M12, L13)
  else
  goB2 (fX9_wholeIn M12 2 12) fun x16 M17 =>
  if x16 = 0 then
  some (0, M17, L13)
  else
  goNm (goWI M17 (goRr R 67 7) 0 (M17 1 8)) fun M20 =>
  goB2 (fX11_advance N M20 L13) fun M22 L23 =>
  goB3 (fX9_word N M22 L23 1000101) fun x25 M26 L27 =>
  if x25 = 0 then
  some (0, M26, L27)
  else
  goB2 (fX9_wholeIn M26 1 4) fun x30 M31 =>
  if x30 = 0 then
  some (0, M31, L27)
  else
  goNm (goWI M31 (goRr R 67 7) 1 (M31 1 8)) fun M34 =>
  goB2 (fX11_advance N M34 L27) fun M36 L37 =>
  some (1, M36, L37)
noncomputable def lX9_find_2 (M : goMI) (L : goML) : Nat → Int32 → Option (Int32)
  | 0, _ => none
  | n + 1, v1 =>
    if v1 < (M 67 8) then
    Option.bind (goRdL L 68 32 v1) fun x12 =>
    if (lg_cmp x12 (L 1 7)) = 0 then
    some v1
    else
    lX9_find_2 M L n (v1 + 1)
    else
    some (-1)
noncomputable def fX9_find (N : Nat) (M : goMI) (L : goML) : Option (Int32) :=
  lX9_find_2 M L N 0
noncomputable def fX9_freshName (N : Nat) (M : goMI) (L : goML) : Option (Int32 × goMI × goML) :=
  if (M 1 4) = 1 then
  Option.bind (fX9_reservedHere N M L) fun x17 =>
  Option.bind (goEc x17) fun _ =>
  if x17 = 1000017 then
  Option.bind (fX9_find N M L) fun x21 =>
  if 0 ≤ x21 then
  goB2 (fX9_fail M 3) fun x29 M30 =>
  Option.bind (goZr x29) fun x32 =>
  some (x32, M30, L)
  else
  goNm (goWL L 67 9 (L 1 7)) fun L24 =>
  goB2 (fX11_advance N M L24) fun M26 L27 =>
  some (1, M26, L27)
  else
  goB2 (fX9_fail M 1) fun x34 M35 =>
  Option.bind (goZr x34) fun x37 =>
  some (x37, M35, L)
  else
  goB2 (fX9_fail M 1) fun x12 M13 =>
  Option.bind (goZr x12) fun x15 =>
  some (x15, M13, L)
noncomputable def fX9_partIn (N : Nat) (M : goMI) (L : goML) (v1 : Int32) (v2 : Int32) : Option (Int32 × goMI × goML) :=
  if 0 < v1 then
  if (M 1 4) = 4 then
  goB2 (fX11_advance N M L) fun M18 L19 =>
  goB2 (fX9_wholeIn M18 0 v2) fun x21 M22 =>
  Option.bind (goZr x21) fun x24 =>
  some (x24, M22, L19)
  else
  goB2 (fX9_fail M 1) fun x26 M27 =>
  Option.bind (goZr x26) fun x29 =>
  some (x29, M27, L)
  else
  goB2 (fX9_wholeIn M 0 v2) fun x12 M13 =>
  Option.bind (goZr x12) fun x15 =>
  some (x15, M13, L)
noncomputable def fX9_tell (M : goMI) (L : goML) (v1 : Int32) (v2 : Int32) : Option (Int32 × goMI × goML) :=
  goB2 (if (M 67 8) < 32 then
  Option.bind (goWrL L 68 32 (M 67 8) (L 67 9)) fun L16 =>
  Option.bind (goWr M 69 32 (M 67 8) v1) fun M18 =>
  Option.bind (goWr M18 70 32 (M18 67 8) v2) fun M20 =>
  goNm (goWI M20 67 8 ((M20 67 8) + 1)) fun M22 =>
  some (M22, L16)
  else
  some (M, L)) fun M11 L12 =>
  some (1, M11, L12)
noncomputable def lX9_placeLine_25 (N : Nat) (v1 : Int32) (R : goMR) : Nat → Int32 → goMI → goML → Option (Int32 × goMI × goML)
  | 0, _, _, _ => none
  | n + 1, v2, M, L =>
    if v2 < (M (goRr R 67 7) 1) then
    goB3 (fX9_partIn N M L v2 9) fun x28 M29 L30 =>
    if x28 = 0 then
    some (0, M29, L30)
    else
    Option.bind (goRd M29 ((goRr R 67 7) + 1) 8 v1) fun x33 =>
    Option.bind (goWr M29 ((goRr R 67 7) + 1) 8 v1 (x33 ||| ((M29 1 8) <<< ((4 * v2) &&& 31)))) fun M35 =>
    goB2 (fX11_advance N M35 L30) fun M37 L38 =>
    lX9_placeLine_25 N v1 R n (v2 + 1) M37 L38
    else
    goNm (goWI M (goRr R 67 7) 2 ((M (goRr R 67 7) 2) + 1)) fun M20 =>
    goB3 (fX9_tell M20 L 0 v1) fun x22 M23 L24 =>
    Option.bind (goZr x22) fun x26 =>
    some (x26, M23, L24)
noncomputable def fX9_placeLine (N : Nat) (M : goMI) (L : goML) (R : goMR) : Option (Int32 × goMI × goML) :=
  goNm (M (goRr R 67 7) 2) fun x11 =>
  if x11 < 8 then
  goB3 (fX9_freshName N M L) fun x14 M15 L16 =>
  if x14 = 0 then
  some (0, M15, L16)
  else
  lX9_placeLine_25 N x11 R N 0 M15 L16
  else
  some (0, M, L)
noncomputable def fX9_named (N : Nat) (M : goMI) (L : goML) (v1 : Int32) : Option (Int32 × goMI) :=
  if (M 1 4) = 1 then
  Option.bind (fX9_reservedHere N M L) fun x15 =>
  Option.bind (goEc x15) fun _ =>
  if x15 = 1000017 then
  Option.bind (fX9_find N M L) fun x19 =>
  if 0 ≤ x19 then
  Option.bind (goRd M 69 32 x19) fun x25 =>
  if x25 = v1 then
  Option.bind (goRd M 70 32 x19) fun x28 =>
  some (x28, M)
  else
  goB2 (fX9_fail M 2) fun x30 M31 =>
  some ((-1), M31)
  else
  goB2 (fX9_fail M 2) fun x22 M23 =>
  some ((-1), M23)
  else
  goB2 (fX9_fail M 1) fun x33 M34 =>
  some ((-1), M34)
  else
  goB2 (fX9_fail M 1) fun x12 M13 =>
  some ((-1), M13)
noncomputable def fX9_pathLine (N : Nat) (M : goMI) (L : goML) (R : goMR) : Option (Int32 × goMI × goML) :=
  goB2 (fX9_named N M L 0) fun x11 M12 =>
  if x11 < 0 then
  some (0, M12, L)
  else
  goB2 (fX11_advance N M12 L) fun M15 L16 =>
  goB2 (fX9_named N M15 L16 0) fun x18 M19 =>
  if x18 < 0 then
  some (0, M19, L16)
  else
  if x18 = x11 then
  goB2 (fX9_fail M19 3) fun x23 M24 =>
  Option.bind (goZr x23) fun x26 =>
  some (x26, M24, L16)
  else
  Option.bind (goRd M19 ((goRr R 67 7) + 2) 8 x11) fun x28 =>
  if (fX12_bit x28 x18) = 1 then
  goB2 (fX9_fail M19 3) fun x36 M37 =>
  Option.bind (goZr x36) fun x39 =>
  some (x39, M37, L16)
  else
  Option.bind (fX6_addPath M19 (goRr R 67 7) x11 x18) fun M31 =>
  goB2 (fX11_advance N M31 L16) fun M33 L34 =>
  some (1, M33, L34)
noncomputable def fX9_personLine (N : Nat) (M : goMI) (L : goML) (R : goMR) : Option (Int32 × goMI × goML) :=
  goB3 (fX9_freshName N M L) fun x11 M12 L13 =>
  if x11 = 0 then
  some (0, M12, L13)
  else
  goNm (goWI M12 (goRr R 67 7) 4 ((M12 (goRr R 67 7) 4) + 1)) fun M16 =>
  goB3 (fX9_tell M16 L13 1 ((M16 (goRr R 67 7) 4) - 1)) fun x18 M19 L20 =>
  Option.bind (goZr x18) fun x22 =>
  some (x22, M19, L20)
noncomputable def lX9_storyLine_40 (N : Nat) (v1 : Int32) (R : goMR) : Nat → Int32 → goMI → goML → Option (Int32 × goMI × goML)
  | 0, _, _, _ => none
  | n + 1, v2, M, L =>
    if v2 ≤ (M (goRr R 67 7) 0) then
    if 0 < v2 then
    if (M 1 4) = 4 then
    goB2 (fX11_advance N M L) fun M43 L44 =>
    goB2 (fX9_named N M43 L44 0) fun x46 M47 =>
    if x46 < 0 then
    some (0, M47, L44)
    else
    if (M47 (goRr R 67 7) 0) ≤ v2 then
    goB2 (fX9_fail M47 5) fun x56 M57 =>
    Option.bind (goZr x56) fun x59 =>
    some (x59, M57, L44)
    else
    Option.bind (fX6_tellFrom N M47 (goRr R 67 7) v1 v2 x46) fun M51 =>
    goB2 (fX11_advance N M51 L44) fun M53 L54 =>
    lX9_storyLine_40 N v1 R n (v2 + 1) M53 L54
    else
    Option.bind (goRd M ((goRr R 67 7) + 5) 4 v1) fun x61 =>
    Option.bind (goWr M ((goRr R 67 7) + 5) 4 v1 (x61 + 1)) fun M63 =>
    some (1, M63, L)
    else
    goB2 (fX9_named N M L 0) fun x27 M28 =>
    if x27 < 0 then
    some (0, M28, L)
    else
    if (M28 (goRr R 67 7) 0) ≤ v2 then
    goB2 (fX9_fail M28 5) fun x37 M38 =>
    Option.bind (goZr x37) fun x40 =>
    some (x40, M38, L)
    else
    Option.bind (fX6_tellFrom N M28 (goRr R 67 7) v1 v2 x27) fun M32 =>
    goB2 (fX11_advance N M32 L) fun M34 L35 =>
    lX9_storyLine_40 N v1 R n (v2 + 1) M34 L35
    else
    Option.bind (goRd M ((goRr R 67 7) + 5) 4 v1) fun x22 =>
    Option.bind (goWr M ((goRr R 67 7) + 5) 4 v1 (x22 + 1)) fun M24 =>
    some (1, M24, L)
noncomputable def fX9_storyLine (N : Nat) (M : goMI) (L : goML) (R : goMR) : Option (Int32 × goMI × goML) :=
  goB2 (fX9_named N M L 1) fun x11 M12 =>
  if x11 < 0 then
  some (0, M12, L)
  else
  Option.bind (goRd M12 ((goRr R 67 7) + 5) 4 x11) fun x15 =>
  if 3 ≤ x15 then
  goB2 (fX9_fail M12 5) fun x65 M66 =>
  Option.bind (goZr x65) fun x68 =>
  some (x68, M66, L)
  else
  goB2 (fX11_advance N M12 L) fun M18 L19 =>
  lX9_storyLine_40 N x11 R N 0 M18 L19
noncomputable def fX9_kindOf (N : Nat) (M : goMI) (L : goML) (R : goMR) (v1 : Int32) : Option (Int32 × goMI × goML) :=
  Option.bind (goWr M ((goRr R 67 7) + 11) 6 v1 (-2)) fun M11 =>
  Option.bind (fX11_spells N M11 L 1000105) fun x13 =>
  if x13 = 0 then
  Option.bind (fX11_spells N M11 L 1000106) fun x16 =>
  if x16 = 0 then
  Option.bind (fX11_spells N M11 L 1000107) fun x19 =>
  if x19 = 0 then
  Option.bind (fX11_spells N M11 L 1000108) fun x22 =>
  if x22 = 0 then
  goB2 (fX9_fail M11 1) fun x25 M26 =>
  Option.bind (goZr x25) fun x28 =>
  some (x28, M26, L)
  else
  Option.bind (goWr M11 ((goRr R 67 7) + 10) 6 v1 3) fun M30 =>
  goB2 (fX11_advance N M30 L) fun M32 L33 =>
  goB2 (fX9_named N M32 L33 2) fun x35 M36 =>
  Option.bind (goWr M36 ((goRr R 67 7) + 11) 6 v1 x35) fun M38 =>
  Option.bind (goRd M38 ((goRr R 67 7) + 11) 6 v1) fun x40 =>
  if x40 < 0 then
  some (0, M38, L33)
  else
  goB2 (fX11_advance N M38 L33) fun M43 L44 =>
  some (1, M43, L44)
  else
  Option.bind (goWr M11 ((goRr R 67 7) + 10) 6 v1 2) fun M46 =>
  goB2 (fX11_advance N M46 L) fun M48 L49 =>
  some (1, M48, L49)
  else
  Option.bind (goWr M11 ((goRr R 67 7) + 10) 6 v1 1) fun M51 =>
  goB2 (fX11_advance N M51 L) fun M53 L54 =>
  some (1, M53, L54)
  else
  Option.bind (goWr M11 ((goRr R 67 7) + 10) 6 v1 0) fun M56 =>
  goB2 (fX11_advance N M56 L) fun M58 L59 =>
  some (1, M58, L59)
noncomputable def fX11_plantAt (M : goMI) (v1 : Int32) : Option (Int32) :=
  Option.bind (goRd M 2 1200 ((M 1 5) + v1)) fun x11 =>
  some (x11 - 97)
noncomputable def lX9_orderOf_21 (N : Nat) (v1 : Int32) (L : goML) (R : goMR) : Nat → Int32 → Int32 → goMI → Option (Int32 × goMI × goML)
  | 0, _, _, _ => none
  | n + 1, v2, v3, M =>
    if v3 < (M 1 6) then
    Option.bind (fX11_plantAt M v3) fun x18 =>
    if (fX12_within x18 (M (goRr R 67 7) 1)) = 0 then
    goB2 (fX9_fail M 7) fun x21 M22 =>
    Option.bind (goZr x21) fun x24 =>
    some (x24, M22, L)
    else
    if (fX12_bit v2 x18) = 1 then
    goB2 (fX9_fail M 7) fun x31 M32 =>
    Option.bind (goZr x31) fun x34 =>
    some (x34, M32, L)
    else
    goNm (v2 ||| (1 <<< (x18 &&& 31))) fun x27 =>
    Option.bind (goWr M ((goRr R 67 7) + 15) 24 ((v1 * 4) + v3) x18) fun M29 =>
    lX9_orderOf_21 N v1 L R n x27 (v3 + 1) M29
    else
    Option.bind (goWr M ((goRr R 67 7) + 16) 6 v1 (M 1 6)) fun M13 =>
    goB2 (fX11_advance N M13 L) fun M15 L16 =>
    some (1, M15, L16)
noncomputable def fX9_orderOf (N : Nat) (M : goMI) (L : goML) (R : goMR) (v1 : Int32) : Option (Int32 × goMI × goML) :=
  if (M 1 4) = 1 then
  lX9_orderOf_21 N v1 L R N 0 0 M
  else
  goB2 (fX9_fail M 1) fun x36 M37 =>
  Option.bind (goZr x36) fun x39 =>
  some (x39, M37, L)
noncomputable def fX9_goatLine (N : Nat) (M : goMI) (L : goML) (R : goMR) : Option (Int32 × goMI × goML) :=
  goNm (M ((goRr R 67 7) + 9) 0) fun x11 =>
  if x11 < 6 then
  goB3 (fX9_freshName N M L) fun x14 M15 L16 =>
  if x14 = 0 then
  some (0, M15, L16)
  else
  goB3 (fX9_kindOf N M15 L16 R x11) fun x19 M20 L21 =>
  if x19 = 0 then
  some (0, M20, L21)
  else
  goB3 (fX9_word N M20 L21 1000102) fun x24 M25 L26 =>
  if x24 = 0 then
  some (0, M25, L26)
  else
  goB3 (fX9_orderOf N M25 L26 R x11) fun x29 M30 L31 =>
  if x29 = 0 then
  some (0, M30, L31)
  else
  goB3 (fX9_word N M30 L31 1000103) fun x34 M35 L36 =>
  if x34 = 0 then
  some (0, M35, L36)
  else
  goB2 (fX9_named N M35 L36 0) fun x39 M40 =>
  Option.bind (goWr M40 ((goRr R 67 7) + 12) 6 x11 x39) fun M42 =>
  Option.bind (goRd M42 ((goRr R 67 7) + 12) 6 x11) fun x44 =>
  if x44 < 0 then
  some (0, M42, L36)
  else
  goB2 (fX11_advance N M42 L36) fun M47 L48 =>
  goB3 (fX9_word N M47 L48 1000104) fun x50 M51 L52 =>
  if x50 = 0 then
  some (0, M51, L52)
  else
  goB2 (fX9_wholeIn M51 1 9) fun x55 M56 =>
  if x55 = 0 then
  some (0, M56, L52)
  else
  Option.bind (goWr M56 ((goRr R 67 7) + 13) 6 x11 (M56 1 8)) fun M59 =>
  goB2 (fX11_advance N M59 L52) fun M61 L62 =>
  goNm (goWI M61 ((goRr R 67 7) + 9) 0 ((M61 ((goRr R 67 7) + 9) 0) + 1)) fun M64 =>
  goB3 (fX9_tell M64 L62 2 x11) fun x66 M67 L68 =>
  Option.bind (goZr x66) fun x70 =>
  some (x70, M67, L68)
  else
  some (0, M, L)
noncomputable def fX9_fearLine (N : Nat) (M : goMI) (L : goML) (R : goMR) : Option (Int32 × goMI × goML) :=
  goB2 (fX9_named N M L 2) fun x11 M12 =>
  if x11 < 0 then
  some (0, M12, L)
  else
  goB2 (fX11_advance N M12 L) fun M15 L16 =>
  goB2 (fX9_named N M15 L16 1) fun x18 M19 =>
  if x18 < 0 then
  some (0, M19, L16)
  else
  Option.bind (goRd M19 ((goRr R 67 7) + 14) 6 x11) fun x22 =>
  if (fX12_bit x22 x18) = 1 then
  goB2 (fX9_fail M19 3) fun x32 M33 =>
  Option.bind (goZr x32) fun x35 =>
  some (x35, M33, L16)
  else
  Option.bind (goRd M19 ((goRr R 67 7) + 14) 6 x11) fun x25 =>
  Option.bind (goWr M19 ((goRr R 67 7) + 14) 6 x11 (x25 ||| (1 <<< (x18 &&& 31)))) fun M27 =>
  goB2 (fX11_advance N M27 L16) fun M29 L30 =>
  some (1, M29, L30)
noncomputable def fX9_foundLine (N : Nat) (M : goMI) (L : goML) (R : goMR) : Option (Int32 × goMI × goML) :=
  goB2 (fX9_named N M L 2) fun x11 M12 =>
  if x11 < 0 then
  some (0, M12, L)
  else
  goB2 (fX11_advance N M12 L) fun M15 L16 =>
  if (M15 1 4) = 1 then
  Option.bind (fX11_plantAt M15 0) fun x19 =>
  if (M15 1 6) = 1 then
  if (fX12_within x19 (M15 (goRr R 67 7) 1)) = 0 then
  goB2 (fX9_fail M15 7) fun x40 M41 =>
  Option.bind (goZr x40) fun x43 =>
  some (x43, M41, L16)
  else
  goB2 (fX11_advance N M15 L16) fun M28 L29 =>
  goB2 (fX9_named N M28 L29 0) fun x31 M32 =>
  if x31 < 0 then
  some (0, M32, L29)
  else
  goB2 (fX11_advance N M32 L29) fun M35 L36 =>
  Option.bind (fX5_addClue M35 ((goRr R 67 7) + 9) 0 x11 x31 x19) fun M38 =>
  some (1, M38, L36)
  else
  goB2 (fX9_fail M15 7) fun x22 M23 =>
  Option.bind (goZr x22) fun x25 =>
  some (x25, M23, L16)
  else
  goB2 (fX9_fail M15 1) fun x45 M46 =>
  Option.bind (goZr x45) fun x48 =>
  some (x48, M46, L16)
noncomputable def fX9_seenLine (N : Nat) (M : goMI) (L : goML) (R : goMR) (v1 : Int32) : Option (Int32 × goMI × goML) :=
  goB2 (fX9_named N M L 2) fun x11 M12 =>
  if x11 < 0 then
  some (0, M12, L)
  else
  goB2 (fX11_advance N M12 L) fun M15 L16 =>
  goB2 (fX9_named N M15 L16 0) fun x18 M19 =>
  if x18 < 0 then
  some (0, M19, L16)
  else
  goB2 (fX11_advance N M19 L16) fun M22 L23 =>
  goB2 (fX9_wholeIn M22 0 ((M22 (goRr R 67 7) 0) - 1)) fun x25 M26 =>
  if x25 = 0 then
  some (0, M26, L23)
  else
  Option.bind (fX5_addClue M26 ((goRr R 67 7) + 9) v1 x11 x18 (M26 1 8)) fun M29 =>
  goB2 (fX11_advance N M29 L23) fun M31 L32 =>
  some (1, M31, L32)
noncomputable def fX9_factLine (N : Nat) (M : goMI) (L : goML) (R : goMR) : Option (Int32 × goMI × goML) :=
  goB3 (fX9_freshName N M L) fun x11 M12 L13 =>
  if x11 = 0 then
  some (0, M12, L13)
  else
  goNm (goWI M12 ((goRr R 67 7) + 21) 0 ((M12 ((goRr R 67 7) + 21) 0) + 1)) fun M16 =>
  goB3 (fX9_tell M16 L13 3 ((M16 ((goRr R 67 7) + 21) 0) - 1)) fun x18 M19 L20 =>
  Option.bind (goZr x18) fun x22 =>
  some (x22, M19, L20)
noncomputable def fX9_holdsLine (N : Nat) (M : goMI) (L : goML) (R : goMR) : Option (Int32 × goMI × goML) :=
  goB2 (fX9_named N M L 3) fun x11 M12 =>
  if x11 < 0 then
  some (0, M12, L)
  else
  if (fX12_bit (M12 ((goRr R 67 7) + 21) 1) x11) = 1 then
  goB2 (fX9_fail M12 3) fun x21 M22 =>
  Option.bind (goZr x21) fun x24 =>
  some (x24, M22, L)
  else
  goNm (goWI M12 ((goRr R 67 7) + 21) 1 ((M12 ((goRr R 67 7) + 21) 1) ||| (1 <<< (x11 &&& 31)))) fun M16 =>
  goB2 (fX11_advance N M16 L) fun M18 L19 =>
  some (1, M18, L19)
noncomputable def lX9_factList_5 (N : Nat) (v1 : Int32) (v2 : Int32) : Nat → Int32 → Int32 → goMI → goML → Option (Int32 × goMI × goML)
  | 0, _, _, _, _ => none
  | n + 1, v3, v4, M, L =>
    if v4 ≤ v1 then
    if 0 < v4 then
    if (M 1 4) = 4 then
    goB2 (fX11_advance N M L) fun M45 L46 =>
    goB2 (fX9_named N M45 L46 3) fun x48 M49 =>
    if x48 < 0 then
    some (0, M49, L46)
    else
    if v2 = 0 then
    if v1 ≤ v4 then
    goB2 (fX9_fail M49 5) fun x61 M62 =>
    some (0, M62, L46)
    else
    goNm (v3 ||| (1 <<< (x48 &&& 31))) fun x54 =>
    Option.bind (goWr M49 72 8 v4 x48) fun M56 =>
    goB2 (fX11_advance N M56 L46) fun M58 L59 =>
    lX9_factList_5 N v1 v2 n x54 (v4 + 1) M58 L59
    else
    if (fX12_bit v3 x48) = 1 then
    goB2 (fX9_fail M49 3) fun x76 M77 =>
    some (0, M77, L46)
    else
    if v1 ≤ v4 then
    goB2 (fX9_fail M49 5) fun x73 M74 =>
    some (0, M74, L46)
    else
    goNm (v3 ||| (1 <<< (x48 &&& 31))) fun x66 =>
    Option.bind (goWr M49 72 8 v4 x48) fun M68 =>
    goB2 (fX11_advance N M68 L46) fun M70 L71 =>
    lX9_factList_5 N v1 v2 n x66 (v4 + 1) M70 L71
    else
    some (v4, M, L)
    else
    goB2 (fX9_named N M L 3) fun x13 M14 =>
    if x13 < 0 then
    some (0, M14, L)
    else
    if v2 = 0 then
    if v1 ≤ v4 then
    goB2 (fX9_fail M14 5) fun x26 M27 =>
    some (0, M27, L)
    else
    goNm (v3 ||| (1 <<< (x13 &&& 31))) fun x19 =>
    Option.bind (goWr M14 72 8 v4 x13) fun M21 =>
    goB2 (fX11_advance N M21 L) fun M23 L24 =>
    lX9_factList_5 N v1 v2 n x19 (v4 + 1) M23 L24
    else
    if (fX12_bit v3 x13) = 1 then
    goB2 (fX9_fail M14 3) fun x41 M42 =>
    some (0, M42, L)
    else
    if v1 ≤ v4 then
    goB2 (fX9_fail M14 5) fun x38 M39 =>
    some (0, M39, L)
    else
    goNm (v3 ||| (1 <<< (x13 &&& 31))) fun x31 =>
    Option.bind (goWr M14 72 8 v4 x13) fun M33 =>
    goB2 (fX11_advance N M33 L) fun M35 L36 =>
    lX9_factList_5 N v1 v2 n x31 (v4 + 1) M35 L36
    else
    some (0, M, L)
noncomputable def fX9_factList (N : Nat) (M : goMI) (L : goML) (v1 : Int32) (v2 : Int32) : Option (Int32 × goMI × goML) :=
  lX9_factList_5 N v1 v2 N 0 0 M L
noncomputable def fX9_ruleLine (N : Nat) (M : goMI) (L : goML) (R : goMR) : Option (Int32 × goMI × goML) :=
  goB2 (fX9_named N M L 3) fun x11 M12 =>
  if x11 < 0 then
  some (0, M12, L)
  else
  goB2 (fX11_advance N M12 L) fun M15 L16 =>
  goB3 (fX9_word N M15 L16 1000109) fun x18 M19 L20 =>
  if x18 = 0 then
  some (0, M19, L20)
  else
  goB3 (fX9_factList N M19 L20 3 1) fun x23 M24 L25 =>
  if x23 < 1 then
  some (0, M24, L25)
  else
  Option.bind (fX7_addRule N M24 ((goRr R 67 7) + 21) x11 72 8 x23) fun M28 =>
  some (1, M28, L25)
noncomputable def fX9_proofLine (N : Nat) (M : goMI) (L : goML) (R : goMR) : Option (Int32 × goMI × goML) :=
  goB3 (fX9_factList N M L 8 0) fun x11 M12 L13 =>
  if x11 < 1 then
  some (0, M12, L13)
  else
  Option.bind (fX7_setProof M12 ((goRr R 67 7) + 21) 72 8 x11) fun M16 =>
  some (1, M16, L13)
noncomputable def fX9_courtLine (N : Nat) (M : goMI) (L : goML) (R : goMR) : Option (Int32 × goMI × goML) :=
  if (M ((goRr R 67 7) + 25) 0) < 6 then
  goB3 (fX9_freshName N M L) fun x12 M13 L14 =>
  if x12 = 0 then
  some (0, M13, L14)
  else
  goB3 (fX9_word N M13 L14 1000110) fun x17 M18 L19 =>
  if x17 = 0 then
  some (0, M18, L19)
  else
  goB2 (fX9_wholeIn M18 0 99) fun x22 M23 =>
  if x22 = 0 then
  some (0, M23, L19)
  else
  Option.bind (goWr M23 ((goRr R 67 7) + 26) 6 (M23 ((goRr R 67 7) + 25) 0) (M23 1 8)) fun M26 =>
  goB2 (fX11_advance N M26 L19) fun M28 L29 =>
  goB3 (fX9_word N M28 L29 1000111) fun x31 M32 L33 =>
  if x31 = 0 then
  some (0, M32, L33)
  else
  goB2 (fX9_wholeIn M32 1 9) fun x36 M37 =>
  if x36 = 0 then
  some (0, M37, L33)
  else
  Option.bind (goWr M37 ((goRr R 67 7) + 27) 6 (M37 ((goRr R 67 7) + 25) 0) (M37 1 8)) fun M40 =>
  goB2 (fX11_advance N M40 L33) fun M42 L43 =>
  goNm (goWI M42 ((goRr R 67 7) + 25) 0 ((M42 ((goRr R 67 7) + 25) 0) + 1)) fun M45 =>
  goB3 (fX9_tell M45 L43 4 ((M45 ((goRr R 67 7) + 25) 0) - 1)) fun x47 M48 L49 =>
  Option.bind (goZr x47) fun x51 =>
  some (x51, M48, L49)
  else
  some (0, M, L)
noncomputable def lX9_cheeseLine_2 (N : Nat) (R : goMR) : Nat → Int32 → goMI → goML → Option (Int32 × goMI × goML)
  | 0, _, _, _ => none
  | n + 1, v1, M, L =>
    if v1 < (M (goRr R 67 7) 1) then
    goB3 (fX9_partIn N M L v1 99) fun x14 M15 L16 =>
    if x14 = 0 then
    some (0, M15, L16)
    else
    Option.bind (goWr M15 ((goRr R 67 7) + 8) 4 v1 (M15 1 8)) fun M19 =>
    goB2 (fX11_advance N M19 L16) fun M21 L22 =>
    lX9_cheeseLine_2 N R n (v1 + 1) M21 L22
    else
    goNm (goWI M (goRr R 67 7) 6 1) fun M12 =>
    some (1, M12, L)
noncomputable def fX9_cheeseLine (N : Nat) (M : goMI) (L : goML) (R : goMR) : Option (Int32 × goMI × goML) :=
  lX9_cheeseLine_2 N R N 0 M L
noncomputable def fX9_line (N : Nat) (M : goMI) (L : goML) (R : goMR) : Option (Int32 × goMI × goML) :=
  Option.bind (fX9_reservedHere N M L) fun x11 =>
  Option.bind (goEr x11) fun x13 =>
  if x13 = 0 then
  goB2 (fX9_fail M 1) fun x314 M315 =>
  Option.bind (goZr x314) fun x317 =>
  some (x317, M315, L)
  else
  Option.bind (goEc x11) fun _ =>
  if x11 = 1000000 then
  Option.bind (goEg x11) fun x18 =>
  Option.bind (goRd M 71 15 x18) fun x20 =>
  Option.bind (goEr x11) fun x22 =>
  if x22 ≤ x20 then
  Option.bind (goEr x11) fun x150 =>
  goNm (α := Int32) (if x150 = 1 then
  3
  else
  5) fun x152 =>
  goB2 (fX9_fail M x152) fun x156 M157 =>
  Option.bind (goZr x156) fun x159 =>
  some (x159, M157, L)
  else
  Option.bind (goEg x11) fun x25 =>
  Option.bind (goRd M 71 15 x25) fun x27 =>
  Option.bind (goWr M 71 15 x25 (x27 + 1)) fun M29 =>
  goB2 (fX11_advance N M29 L) fun M31 L32 =>
  Option.bind (goEo x11) fun x34 =>
  Option.bind (goSm x34) fun x36 =>
  if x36 = 1 then
  goB3 (fX9_hillLine N M31 L32 R) fun x40 M41 L42 =>
  Option.bind (goZr x40) fun x44 =>
  some (x44, M41, L42)
  else
  if x36 = 2 then
  goB3 (fX9_placeLine N M31 L32 R) fun x47 M48 L49 =>
  Option.bind (goZr x47) fun x51 =>
  some (x51, M48, L49)
  else
  if x36 = 3 then
  goB3 (fX9_pathLine N M31 L32 R) fun x54 M55 L56 =>
  Option.bind (goZr x54) fun x58 =>
  some (x58, M55, L56)
  else
  if x36 = 4 then
  goB3 (fX9_personLine N M31 L32 R) fun x61 M62 L63 =>
  Option.bind (goZr x61) fun x65 =>
  some (x65, M62, L63)
  else
  if x36 = 5 then
  goB3 (fX9_storyLine N M31 L32 R) fun x68 M69 L70 =>
  Option.bind (goZr x68) fun x72 =>
  some (x72, M69, L70)
  else
  if x36 = 6 then
  goB3 (fX9_goatLine N M31 L32 R) fun x75 M76 L77 =>
  Option.bind (goZr x75) fun x79 =>
  some (x79, M76, L77)
  else
  if x36 = 7 then
  goB3 (fX9_fearLine N M31 L32 R) fun x82 M83 L84 =>
  Option.bind (goZr x82) fun x86 =>
  some (x86, M83, L84)
  else
  if x36 = 8 then
  goB3 (fX9_foundLine N M31 L32 R) fun x89 M90 L91 =>
  Option.bind (goZr x89) fun x93 =>
  some (x93, M90, L91)
  else
  if x36 = 9 then
  goB3 (fX9_seenLine N M31 L32 R 1) fun x96 M97 L98 =>
  Option.bind (goZr x96) fun x100 =>
  some (x100, M97, L98)
  else
  if x36 = 10 then
  goB3 (fX9_seenLine N M31 L32 R 2) fun x103 M104 L105 =>
  Option.bind (goZr x103) fun x107 =>
  some (x107, M104, L105)
  else
  if x36 = 11 then
  goB3 (fX9_factLine N M31 L32 R) fun x110 M111 L112 =>
  Option.bind (goZr x110) fun x114 =>
  some (x114, M111, L112)
  else
  if x36 = 12 then
  goB3 (fX9_holdsLine N M31 L32 R) fun x117 M118 L119 =>
  Option.bind (goZr x117) fun x121 =>
  some (x121, M118, L119)
  else
  if x36 = 13 then
  goB3 (fX9_ruleLine N M31 L32 R) fun x124 M125 L126 =>
  Option.bind (goZr x124) fun x128 =>
  some (x128, M125, L126)
  else
  if x36 = 14 then
  goB3 (fX9_proofLine N M31 L32 R) fun x131 M132 L133 =>
  Option.bind (goZr x131) fun x135 =>
  some (x135, M132, L133)
  else
  if x36 = 15 then
  goB3 (fX9_courtLine N M31 L32 R) fun x138 M139 L140 =>
  Option.bind (goZr x138) fun x142 =>
  some (x142, M139, L140)
  else
  goB3 (fX9_cheeseLine N M31 L32 R) fun x144 M145 L146 =>
  Option.bind (goZr x144) fun x148 =>
  some (x148, M145, L146)
  else
  Option.bind (goEg 1000000) fun x161 =>
  Option.bind (goRd M 71 15 x161) fun x163 =>
  if x163 = 0 then
  goB2 (fX9_fail M 6) fun x309 M310 =>
  Option.bind (goZr x309) fun x312 =>
  some (x312, M310, L)
  else
  Option.bind (goEg x11) fun x166 =>
  Option.bind (goRd M 71 15 x166) fun x168 =>
  Option.bind (goEr x11) fun x170 =>
  if x170 ≤ x168 then
  Option.bind (goEr x11) fun x298 =>
  goNm (α := Int32) (if x298 = 1 then
  3
  else
  5) fun x300 =>
  goB2 (fX9_fail M x300) fun x304 M305 =>
  Option.bind (goZr x304) fun x307 =>
  some (x307, M305, L)
  else
  Option.bind (goEg x11) fun x173 =>
  Option.bind (goRd M 71 15 x173) fun x175 =>
  Option.bind (goWr M 71 15 x173 (x175 + 1)) fun M177 =>
  goB2 (fX11_advance N M177 L) fun M179 L180 =>
  Option.bind (goEo x11) fun x182 =>
  Option.bind (goSm x182) fun x184 =>
  if x184 = 1 then
  goB3 (fX9_hillLine N M179 L180 R) fun x188 M189 L190 =>
  Option.bind (goZr x188) fun x192 =>
  some (x192, M189, L190)
  else
  if x184 = 2 then
  goB3 (fX9_placeLine N M179 L180 R) fun x195 M196 L197 =>
  Option.bind (goZr x195) fun x199 =>
  some (x199, M196, L197)
  else
  if x184 = 3 then
  goB3 (fX9_pathLine N M179 L180 R) fun x202 M203 L204 =>
  Option.bind (goZr x202) fun x206 =>
  some (x206, M203, L204)
  else
  if x184 = 4 then
  goB3 (fX9_personLine N M179 L180 R) fun x209 M210 L211 =>
  Option.bind (goZr x209) fun x213 =>
  some (x213, M210, L211)
  else
  if x184 = 5 then
  goB3 (fX9_storyLine N M179 L180 R) fun x216 M217 L218 =>
  Option.bind (goZr x216) fun x220 =>
  some (x220, M217, L218)
  else
  if x184 = 6 then
  goB3 (fX9_goatLine N M179 L180 R) fun x223 M224 L225 =>
  Option.bind (goZr x223) fun x227 =>
  some (x227, M224, L225)
  else
  if x184 = 7 then
  goB3 (fX9_fearLine N M179 L180 R) fun x230 M231 L232 =>
  Option.bind (goZr x230) fun x234 =>
  some (x234, M231, L232)
  else
  if x184 = 8 then
  goB3 (fX9_foundLine N M179 L180 R) fun x237 M238 L239 =>
  Option.bind (goZr x237) fun x241 =>
  some (x241, M238, L239)
  else
  if x184 = 9 then
  goB3 (fX9_seenLine N M179 L180 R 1) fun x244 M245 L246 =>
  Option.bind (goZr x244) fun x248 =>
  some (x248, M245, L246)
  else
  if x184 = 10 then
  goB3 (fX9_seenLine N M179 L180 R 2) fun x251 M252 L253 =>
  Option.bind (goZr x251) fun x255 =>
  some (x255, M252, L253)
  else
  if x184 = 11 then
  goB3 (fX9_factLine N M179 L180 R) fun x258 M259 L260 =>
  Option.bind (goZr x258) fun x262 =>
  some (x262, M259, L260)
  else
  if x184 = 12 then
  goB3 (fX9_holdsLine N M179 L180 R) fun x265 M266 L267 =>
  Option.bind (goZr x265) fun x269 =>
  some (x269, M266, L267)
  else
  if x184 = 13 then
  goB3 (fX9_ruleLine N M179 L180 R) fun x272 M273 L274 =>
  Option.bind (goZr x272) fun x276 =>
  some (x276, M273, L274)
  else
  if x184 = 14 then
  goB3 (fX9_proofLine N M179 L180 R) fun x279 M280 L281 =>
  Option.bind (goZr x279) fun x283 =>
  some (x283, M280, L281)
  else
  if x184 = 15 then
  goB3 (fX9_courtLine N M179 L180 R) fun x286 M287 L288 =>
  Option.bind (goZr x286) fun x290 =>
  some (x290, M287, L288)
  else
  goB3 (fX9_cheeseLine N M179 L180 R) fun x292 M293 L294 =>
  Option.bind (goZr x292) fun x296 =>
  some (x296, M293, L294)
noncomputable def lX9_read_43 (N : Nat) (R : goMR) : Nat → Int32 → Int32 → goMI → goML → Option (goMI × goML)
  | 0, _, _, _, _ => none
  | n + 1, v3, v4, M, L =>
    if v4 < 1200 then
    if v3 = 0 then
    some (M, L)
    else
    goB3 (if (M 1 4) = 0 then
    some (0, M, L)
    else
    if (M 1 4) = 3 then
    goB2 (fX11_advance N M L) fun M38 L39 =>
    goB3 (fX9_line N M38 L39 R) fun x41 M42 L43 =>
    some (x41, M42, L43)
    else
    goB2 (fX9_fail M 1) fun x35 M36 =>
    some (x35, M36, L)) fun x28 M29 L30 =>
    lX9_read_43 N R n x28 (v4 + 1) M29 L30
    else
    some (M, L)
noncomputable def fX9_read (N : Nat) (M : goMI) (L : goML) (R : goMR) (a1 : Nat) (v2 : Int32) : Option (Int32 × goMI × goML) :=
  Option.bind (fX6_clear N M a1) fun M11 =>
  goNm (goWI M11 67 8 0) fun M13 =>
  goNm (goWI M13 67 10 0) fun M15 =>
  Option.bind (fJ7_fill_53178 N M15 71 15 0) fun M17 =>
  goB2 (fX11_rewind N M17 L v2) fun M19 L20 =>
  goB3 (fX9_line N M19 L20 (goWR R 67 7 (some a1))) fun x22 M23 L24 =>
  goB2 (lX9_read_43 N (goWR R 67 7 (some a1)) N x22 0 M23 L24) fun M46 L47 =>
  Option.bind (if (M46 67 10) = 0 then
  if (M46 a1 2) = 0 then
  goB2 (fX9_fail M46 6) fun x53 M54 =>
  some M54
  else
  some M46
  else
  some M46) fun M48 =>
  Option.bind (if (M48 67 10) = 0 then
  Option.bind (fX6_countCases N M48 a1) fun M60 =>
  some M60
  else
  some M48) fun M56 =>
  some ((M56 67 10), M56, L47)
noncomputable def lX11_add_3 (v1 : Int32) : Nat → Int32 → goMI → Option (goMI)
  | 0, _, _ => none
  | n + 1, v2, M =>
    if 0 ≤ v2 then
    Option.bind (if (M 1 1) < 1200 then
    Option.bind (goWrB M 2 1200 (M 1 1) (Int8.toInt32 (Int32.toInt8 ((Int32.toUInt32 v1 >>> (Int32.toUInt32 v2 &&& Int32.toUInt32 31)).toInt32)))) fun M16 =>
    goNm (goWI M16 1 1 ((M16 1 1) + 1)) fun M18 =>
    some M18
    else
    some M) fun M12 =>
    lX11_add_3 v1 n (v2 + (-8)) M12
    else
    some M
noncomputable def fX11_add (N : Nat) (M : goMI) (v1 : Int32) : Option (goMI) :=
  Option.bind (lX11_add_3 v1 N 24 M) fun M21 =>
  some M21
noncomputable def fX12_feed (N : Nat) (M : goMI) (v1 : Int32) (v2 : Int32) (v3 : Int32) (v4 : Int32) (v5 : Int32) : Option (Int32 × goMI) :=
  if 1200 < ((M 1 1) + 20) then
  some ((-1), M)
  else
  Option.bind (fX11_add N M v1) fun M12 =>
  Option.bind (fX11_add N M12 v2) fun M14 =>
  Option.bind (fX11_add N M14 v3) fun M16 =>
  Option.bind (fX11_add N M16 v4) fun M18 =>
  Option.bind (fX11_add N M18 v5) fun M20 =>
  some ((M20 1 1), M20)
noncomputable def fX12_refuse (M : goMI) (v1 : Int32) : Option (Int32 × goMI) :=
  goNm (goWI M 0 8 v1) fun M11 =>
  some ((-1), M11)
noncomputable def fX12_answer (M : goMI) (v1 : Int32) : Option (Int32 × goMI) :=
  goNm (goWI M 0 8 0) fun M11 =>
  some (v1, M11)
noncomputable def fX12_hill (N : Nat) (M : goMI) (L : goML) (R : goMR) (v1 : Int32) : Option (Int32 × goMI × goML × goMR) :=
  if 0 ≤ v1 then
  if (M 1 1) < v1 then
  goB2 (fX12_refuse M 2) fun x41 M42 =>
  some (x41, M42, L, R)
  else
  goB3 (fX9_read N M L R (goRr R 0 6) v1) fun x17 M18 L19 =>
  goNm (goWI M18 0 7 x17) fun M21 =>
  goNm (goWI M21 1 1 0) fun M23 =>
  if (M23 0 7) = 0 then
  Option.bind (fX1_clear N M23) fun M28 =>
  Option.bind (fX4_use (goWR (goWR (rX9_read R (goRr R 0 6)) 0 5 (some (goRr (rX9_read R (goRr R 0 6)) 0 6))) 0 6 (some (goRr (rX9_read R (goRr R 0 6)) 0 5))) (goRr (goWR (goWR (rX9_read R (goRr R 0 6)) 0 5 (some (goRr (rX9_read R (goRr R 0 6)) 0 6))) 0 6 (some (goRr (rX9_read R (goRr R 0 6)) 0 5))) 0 5)) fun _ =>
  Option.bind (fX8_use (rX4_use (goWR (goWR (rX9_read R (goRr R 0 6)) 0 5 (some (goRr (rX9_read R (goRr R 0 6)) 0 6))) 0 6 (some (goRr (rX9_read R (goRr R 0 6)) 0 5))) (goRr (goWR (goWR (rX9_read R (goRr R 0 6)) 0 5 (some (goRr (rX9_read R (goRr R 0 6)) 0 6))) 0 6 (some (goRr (rX9_read R (goRr R 0 6)) 0 5))) 0 5)) (goRr (rX4_use (goWR (goWR (rX9_read R (goRr R 0 6)) 0 5 (some (goRr (rX9_read R (goRr R 0 6)) 0 6))) 0 6 (some (goRr (rX9_read R (goRr R 0 6)) 0 5))) (goRr (goWR (goWR (rX9_read R (goRr R 0 6)) 0 5 (some (goRr (rX9_read R (goRr R 0 6)) 0 6))) 0 6 (some (goRr (rX9_read R (goRr R 0 6)) 0 5))) 0 5)) 0 5)) fun _ =>
  goB2 (fX12_answer M28 (M28 (goRr (rX8_use (rX4_use (goWR (goWR (rX9_read R (goRr R 0 6)) 0 5 (some (goRr (rX9_read R (goRr R 0 6)) 0 6))) 0 6 (some (goRr (rX9_read R (goRr R 0 6)) 0 5))) (goRr (goWR (goWR (rX9_read R (goRr R 0 6)) 0 5 (some (goRr (rX9_read R (goRr R 0 6)) 0 6))) 0 6 (some (goRr (rX9_read R (goRr R 0 6)) 0 5))) 0 5)) (goRr (rX4_use (goWR (goWR (rX9_read R (goRr R 0 6)) 0 5 (some (goRr (rX9_read R (goRr R 0 6)) 0 6))) 0 6 (some (goRr (rX9_read R (goRr R 0 6)) 0 5))) (goRr (goWR (goWR (rX9_read R (goRr R 0 6)) 0 5 (some (goRr (rX9_read R (goRr R 0 6)) 0 6))) 0 6 (some (goRr (rX9_read R (goRr R 0 6)) 0 5))) 0 5)) 0 5)) 0 5) 5)) fun x35 M36 =>
  some (x35, M36, L19, (rX8_use (rX4_use (goWR (goWR (rX9_read R (goRr R 0 6)) 0 5 (some (goRr (rX9_read R (goRr R 0 6)) 0 6))) 0 6 (some (goRr (rX9_read R (goRr R 0 6)) 0 5))) (goRr (goWR (goWR (rX9_read R (goRr R 0 6)) 0 5 (some (goRr (rX9_read R (goRr R 0 6)) 0 6))) 0 6 (some (goRr (rX9_read R (goRr R 0 6)) 0 5))) 0 5)) (goRr (rX4_use (goWR (goWR (rX9_read R (goRr R 0 6)) 0 5 (some (goRr (rX9_read R (goRr R 0 6)) 0 6))) 0 6 (some (goRr (rX9_read R (goRr R 0 6)) 0 5))) (goRr (goWR (goWR (rX9_read R (goRr R 0 6)) 0 5 (some (goRr (rX9_read R (goRr R 0 6)) 0 6))) 0 6 (some (goRr (rX9_read R (goRr R 0 6)) 0 5))) 0 5)) 0 5)))
  else
  goB2 (fX12_refuse M23 4) fun x38 M39 =>
  some (x38, M39, L19, (rX9_read R (goRr R 0 6)))
  else
  goB2 (fX12_refuse M 2) fun x12 M13 =>
  some (x12, M13, L, R)
noncomputable def fX12_fault (M : goMI) : Int32 :=
  (M 0 7)
noncomputable def fX12_where (M : goMI) : Int32 :=
  if (M 0 8) = 4 then
  (M 67 11)
  else
  (-1)
noncomputable def fX12_isPlace (M : goMI) (R : goMR) (v1 : Int32) : Int32 :=
  (fX12_within v1 (M (goRr R 0 5) 2))
noncomputable def fX12_isPlant (M : goMI) (R : goMR) (v1 : Int32) : Int32 :=
  (fX12_within v1 (M (goRr R 0 5) 1))
noncomputable def fX12_plants (M : goMI) (R : goMR) (v1 : Int32) (v2 : Int32) : Option (Int32 × goMI) :=
  if (fX12_isPlace M R v1) = 0 then
  goB2 (fX12_refuse M 1) fun x12 M13 =>
  some (x12, M13)
  else
  if (fX12_isPlant M R v2) = 0 then
  goB2 (fX12_refuse M 1) fun x21 M22 =>
  some (x21, M22)
  else
  Option.bind (goRd M ((goRr R 0 5) + 1) 8 v1) fun x16 =>
  goB2 (fX12_answer M (fX12_countOf x16 v2)) fun x18 M19 =>
  some (x18, M19)
noncomputable def fX12_near (M : goMI) (R : goMR) (v1 : Int32) : Option (Int32 × goMI) :=
  if (fX12_isPlace M R v1) = 0 then
  goB2 (fX12_refuse M 1) fun x12 M13 =>
  some (x12, M13)
  else
  Option.bind (goRd M ((goRr R 0 5) + 2) 8 v1) fun x15 =>
  goB2 (fX12_answer M x15) fun x17 M18 =>
  some (x17, M18)
noncomputable def fX12_isGoat (M : goMI) (R : goMR) (v1 : Int32) : Int32 :=
  (fX12_within v1 (M ((goRr R 0 5) + 9) 0))
noncomputable def fX12_goat (N : Nat) (M : goMI) (R : goMR) (v1 : Int32) (v2 : Int32) : Option (Int32 × goMI) :=
  if (fX12_isGoat M R v1) = 0 then
  goB2 (fX12_refuse M 1) fun x58 M59 =>
  some (x58, M59)
  else
  if v2 = 0 then
  Option.bind (goRd M ((goRr R 0 5) + 10) 6 v1) fun x14 =>
  goB2 (fX12_answer M x14) fun x16 M17 =>
  some (x16, M17)
  else
  if v2 = 1 then
  Option.bind (goRd M ((goRr R 0 5) + 11) 6 v1) fun x20 =>
  goB2 (fX12_answer M x20) fun x22 M23 =>
  some (x22, M23)
  else
  if v2 = 2 then
  Option.bind (goRd M ((goRr R 0 5) + 12) 6 v1) fun x26 =>
  goB2 (fX12_answer M x26) fun x28 M29 =>
  some (x28, M29)
  else
  if v2 = 3 then
  Option.bind (goRd M ((goRr R 0 5) + 13) 6 v1) fun x32 =>
  goB2 (fX12_answer M x32) fun x34 M35 =>
  some (x34, M35)
  else
  if v2 = 4 then
  Option.bind (goRd M ((goRr R 0 5) + 14) 6 v1) fun x38 =>
  goB2 (fX12_answer M x38) fun x40 M41 =>
  some (x40, M41)
  else
  if v2 = 5 then
  Option.bind (fX5_cluesOf N M ((goRr R 0 5) + 9) (1 <<< (v1 &&& 31))) fun x44 =>
  goB2 (fX12_answer M (fJ6_bitCount_0f7a4 x44)) fun x46 M47 =>
  some (x46, M47)
  else
  if v2 = 6 then
  Option.bind (goRd M 4 26 25) fun x50 =>
  goB2 (fX12_answer M (fX12_bit x50 v1)) fun x52 M53 =>
  some (x52, M53)
  else
  goB2 (fX12_refuse M 1) fun x55 M56 =>
  some (x55, M56)
noncomputable def fX12_likes (M : goMI) (R : goMR) (v1 : Int32) (v2 : Int32) : Option (Int32 × goMI) :=
  if (fX12_isGoat M R v1) = 0 then
  goB2 (fX12_refuse M 1) fun x12 M13 =>
  some (x12, M13)
  else
  Option.bind (goRd M ((goRr R 0 5) + 16) 6 v1) fun x15 =>
  if (fX12_within v2 x15) = 0 then
  goB2 (fX12_refuse M 1) fun x23 M24 =>
  some (x23, M24)
  else
  Option.bind (goRd M ((goRr R 0 5) + 15) 24 ((v1 * 4) + v2)) fun x18 =>
  goB2 (fX12_answer M x18) fun x20 M21 =>
  some (x20, M21)
noncomputable def fX12_clue (M : goMI) (R : goMR) (v1 : Int32) (v2 : Int32) : Option (Int32 × goMI) :=
  if (fX12_within v1 (M ((goRr R 0 5) + 9) 1)) = 0 then
  goB2 (fX12_refuse M 1) fun x40 M41 =>
  some (x40, M41)
  else
  if v2 = 0 then
  Option.bind (goRd M ((goRr R 0 5) + 17) 10 v1) fun x14 =>
  goB2 (fX12_answer M x14) fun x16 M17 =>
  some (x16, M17)
  else
  if v2 = 1 then
  Option.bind (goRd M ((goRr R 0 5) + 18) 10 v1) fun x20 =>
  goB2 (fX12_answer M x20) fun x22 M23 =>
  some (x22, M23)
  else
  if v2 = 2 then
  Option.bind (goRd M ((goRr R 0 5) + 19) 10 v1) fun x26 =>
  goB2 (fX12_answer M x26) fun x28 M29 =>
  some (x28, M29)
  else
  if v2 = 3 then
  Option.bind (goRd M ((goRr R 0 5) + 20) 10 v1) fun x32 =>
  goB2 (fX12_answer M x32) fun x34 M35 =>
  some (x34, M35)
  else
  goB2 (fX12_refuse M 1) fun x37 M38 =>
  some (x37, M38)
noncomputable def fX12_isPerson (M : goMI) (R : goMR) (v1 : Int32) : Int32 :=
  (fX12_within v1 (M (goRr R 0 5) 4))
noncomputable def fX12_isHour (M : goMI) (R : goMR) (v1 : Int32) : Int32 :=
  (fX12_within v1 (M (goRr R 0 5) 0))
noncomputable def fX12_story (M : goMI) (R : goMR) (v1 : Int32) (v2 : Int32) (v3 : Int32) : Option (Int32 × goMI) :=
  if (fX12_isPerson M R v1) = 0 then
  goB2 (fX12_refuse M 1) fun x12 M13 =>
  some (x12, M13)
  else
  Option.bind (goRd M ((goRr R 0 5) + 5) 4 v1) fun x15 =>
  if (fX12_within v2 x15) = 0 then
  goB2 (fX12_refuse M 1) fun x27 M28 =>
  some (x27, M28)
  else
  if (fX12_isHour M R v3) = 0 then
  goB2 (fX12_refuse M 2) fun x19 M20 =>
  some (x19, M20)
  else
  Option.bind (fX6_toldPlace M (goRr R 0 5) v1 v2 v3) fun x22 =>
  goB2 (fX12_answer M x22) fun x24 M25 =>
  some (x24, M25)
noncomputable def fX12_stories (M : goMI) (R : goMR) (v1 : Int32) : Option (Int32 × goMI) :=
  if (fX12_isPerson M R v1) = 0 then
  goB2 (fX12_refuse M 1) fun x12 M13 =>
  some (x12, M13)
  else
  Option.bind (goRd M ((goRr R 0 5) + 5) 4 v1) fun x15 =>
  goB2 (fX12_answer M x15) fun x17 M18 =>
  some (x17, M18)
noncomputable def fX12_isCase (M : goMI) (R : goMR) (v1 : Int32) : Int32 :=
  (fX12_within v1 (M (goRr R 0 5) 5))
noncomputable def fX12_caseOf (M : goMI) (R : goMR) (v1 : Int32) (v2 : Int32) : Option (Int32 × goMI) :=
  if (fX12_isCase M R v1) = 0 then
  goB2 (fX12_refuse M 1) fun x12 M13 =>
  some (x12, M13)
  else
  if (fX12_isPerson M R v2) = 0 then
  goB2 (fX12_refuse M 1) fun x16 M17 =>
  some (x16, M17)
  else
  Option.bind (fX6_storyIn M (goRr R 0 5) v1 v2) fun x19 =>
  goB2 (fX12_answer M x19) fun x21 M22 =>
  some (x21, M22)
noncomputable def fX12_at (N : Nat) (M : goMI) (R : goMR) (v1 : Int32) (v2 : Int32) (v3 : Int32) : Option (Int32 × goMI) :=
  if (fX12_isCase M R v1) = 0 then
  goB2 (fX12_refuse M 1) fun x12 M13 =>
  some (x12, M13)
  else
  if (fX12_isGoat M R v2) = 0 then
  goB2 (fX12_refuse M 1) fun x27 M28 =>
  some (x27, M28)
  else
  if (fX12_isHour M R v3) = 0 then
  goB2 (fX12_refuse M 2) fun x17 M18 =>
  some (x17, M18)
  else
  Option.bind (fX4_dayOf N M R v1) fun M20 =>
  Option.bind (goRd M20 83 72 ((v2 * 12) + v3)) fun x22 =>
  goB2 (fX12_answer M20 x22) fun x24 M25 =>
  some (x24, M25)
noncomputable def fX12_ate (N : Nat) (M : goMI) (R : goMR) (v1 : Int32) (v2 : Int32) (v3 : Int32) : Option (Int32 × goMI) :=
  if (fX12_isCase M R v1) = 0 then
  goB2 (fX12_refuse M 1) fun x12 M13 =>
  some (x12, M13)
  else
  if (fX12_isGoat M R v2) = 0 then
  goB2 (fX12_refuse M 1) fun x16 M17 =>
  some (x16, M17)
  else
  if (fX12_isPlant M R v3) = 0 then
  goB2 (fX12_refuse M 1) fun x27 M28 =>
  some (x27, M28)
  else
  Option.bind (fX4_dayOf N M R v1) fun M20 =>
  Option.bind (goRd M20 85 24 ((v2 * 4) + v3)) fun x22 =>
  goB2 (fX12_answer M20 x22) fun x24 M25 =>
  some (x24, M25)
noncomputable def fX12_drops (N : Nat) (M : goMI) (R : goMR) (v1 : Int32) (v2 : Int32) (v3 : Int32) (v4 : Int32) : Option (Int32 × goMI) :=
  if (fX12_isCase M R v1) = 0 then
  goB2 (fX12_refuse M 1) fun x12 M13 =>
  some (x12, M13)
  else
  if (fX12_isGoat M R v2) = 0 then
  goB2 (fX12_refuse M 1) fun x16 M17 =>
  some (x16, M17)
  else
  if (fX12_isPlant M R v3) = 0 then
  goB2 (fX12_refuse M 1) fun x20 M21 =>
  some (x20, M21)
  else
  if (fX12_isPlace M R v4) = 0 then
  goB2 (fX12_refuse M 1) fun x31 M32 =>
  some (x31, M32)
  else
  Option.bind (fX4_dayOf N M R v1) fun M24 =>
  Option.bind (goRd M24 86 192 ((((v2 * 4) + v3) * 8) + v4)) fun x26 =>
  goB2 (fX12_answer M24 x26) fun x28 M29 =>
  some (x28, M29)
noncomputable def fX12_flees (N : Nat) (M : goMI) (R : goMR) (v1 : Int32) (v2 : Int32) : Option (Int32 × goMI) :=
  if (fX12_isCase M R v1) = 0 then
  goB2 (fX12_refuse M 1) fun x12 M13 =>
  some (x12, M13)
  else
  if (fX12_isGoat M R v2) = 0 then
  goB2 (fX12_refuse M 1) fun x16 M17 =>
  some (x16, M17)
  else
  Option.bind (fX4_dayOf N M R v1) fun M19 =>
  Option.bind (goRd M19 87 6 v2) fun x21 =>
  goB2 (fX12_answer M19 x21) fun x23 M24 =>
  some (x23, M24)
noncomputable def fX12_left (N : Nat) (M : goMI) (R : goMR) (v1 : Int32) (v2 : Int32) (v3 : Int32) : Option (Int32 × goMI) :=
  if (fX12_isCase M R v1) = 0 then
  goB2 (fX12_refuse M 1) fun x12 M13 =>
  some (x12, M13)
  else
  if (fX12_isPlace M R v2) = 0 then
  goB2 (fX12_refuse M 1) fun x16 M17 =>
  some (x16, M17)
  else
  if (fX12_isPlant M R v3) = 0 then
  goB2 (fX12_refuse M 1) fun x27 M28 =>
  some (x27, M28)
  else
  Option.bind (fX4_dayOf N M R v1) fun M20 =>
  Option.bind (goRd M20 79 14 v2) fun x22 =>
  goB2 (fX12_answer M20 (fX12_countOf x22 v3)) fun x24 M25 =>
  some (x24, M25)
noncomputable def lX12_met_46 (v1 : Int32) (v2 : Int32) (v3 : Int32) (M : goMI) (R : goMR) : Nat → Int32 → Int32 → Option (Int32)
  | 0, _, _ => none
  | n + 1, v5, v6 =>
    if v6 < (M (goRr R 0 5) 0) then
    Option.bind (goRd M 83 72 ((v2 * 12) + v6)) fun x23 =>
    Option.bind (fX6_placeIn M (goRr R 0 5) v1 v3 v6) fun x25 =>
    goNm (α := Int32) (if x23 = x25 then
    (v5 + 1)
    else
    v5) fun x27 =>
    lX12_met_46 v1 v2 v3 M R n x27 (v6 + 1)
    else
    some v5
noncomputable def fX12_met (N : Nat) (M : goMI) (R : goMR) (v1 : Int32) (v2 : Int32) (v3 : Int32) : Option (Int32 × goMI) :=
  if (fX12_isCase M R v1) = 0 then
  goB2 (fX12_refuse M 1) fun x12 M13 =>
  some (x12, M13)
  else
  if (fX12_isGoat M R v2) = 0 then
  goB2 (fX12_refuse M 1) fun x16 M17 =>
  some (x16, M17)
  else
  if (fX12_isPerson M R v3) = 0 then
  goB2 (fX12_refuse M 1) fun x36 M37 =>
  some (x36, M37)
  else
  Option.bind (fX4_dayOf N M R v1) fun M20 =>
  Option.bind (lX12_met_46 v1 v2 v3 M20 R N 0 0) fun x32 =>
  goB2 (fX12_answer M20 x32) fun x33 M34 =>
  some (x33, M34)
noncomputable def fX12_isTrue (N : Nat) (M : goMI) (R : goMR) (v1 : Int32) (v2 : Int32) : Option (Int32 × goMI) :=
  if (fX12_isCase M R v1) = 0 then
  goB2 (fX12_refuse M 1) fun x12 M13 =>
  some (x12, M13)
  else
  if (fX12_within v2 (M ((goRr R 0 5) + 9) 1)) = 0 then
  goB2 (fX12_refuse M 1) fun x27 M28 =>
  some (x27, M28)
  else
  Option.bind (fX4_dayOf N M R v1) fun M16 =>
  Option.bind (fX3_shows M16 R 78 v2) fun x18 =>
  goNm (α := Int32) (if x18 = 0 then
  0
  else
  1) fun x20 =>
  goB2 (fX12_answer M16 x20) fun x24 M25 =>
  some (x24, M25)
noncomputable def fX12_isHill (M : goMI) (R : goMR) : Int32 :=
  if 0 < (M (goRr R 0 5) 5) then
  1
  else
  0
noncomputable def fX12_fits (N : Nat) (M : goMI) (R : goMR) : Option (Int32 × goMI) :=
  if (fX12_isHill M R) = 0 then
  goB2 (fX12_refuse M 1) fun x12 M13 =>
  some (x12, M13)
  else
  Option.bind (fX4_freshened N M R) fun M15 =>
  Option.bind (fX4_howManyFit N M15 R) fun x17 =>
  goB2 (fX12_answer M15 x17) fun x19 M20 =>
  some (x19, M20)
noncomputable def fX12_fit (N : Nat) (M : goMI) (R : goMR) (v1 : Int32) : Option (Int32 × goMI) :=
  Option.bind (fX4_freshened N M R) fun M11 =>
  Option.bind (fX4_fitting N M11 R v1) fun x13 =>
  if 0 ≤ x13 then
  goB2 (fX12_answer M11 x13) fun x19 M20 =>
  some (x19, M20)
  else
  goB2 (fX12_refuse M11 1) fun x16 M17 =>
  some (x16, M17)
noncomputable def fX12_could (N : Nat) (M : goMI) (R : goMR) (v1 : Int32) (v2 : Int32) : Option (Int32 × goMI) :=
  if (fX12_isPerson M R v1) = 0 then
  goB2 (fX12_refuse M 1) fun x23 M24 =>
  some (x23, M24)
  else
  if (fX12_isHour M R v2) = 0 then
  goB2 (fX12_refuse M 2) fun x13 M14 =>
  some (x13, M14)
  else
  Option.bind (fX4_freshened N M R) fun M16 =>
  Option.bind (fX4_somewhere N M16 R v1 v2) fun x18 =>
  goB2 (fX12_answer M16 x18) fun x20 M21 =>
  some (x20, M21)
noncomputable def fX12_surely (N : Nat) (M : goMI) (R : goMR) (v1 : Int32) (v2 : Int32) : Option (Int32 × goMI) :=
  if (fX12_isPerson M R v1) = 0 then
  goB2 (fX12_refuse M 1) fun x23 M24 =>
  some (x23, M24)
  else
  if (fX12_isHour M R v2) = 0 then
  goB2 (fX12_refuse M 2) fun x13 M14 =>
  some (x13, M14)
  else
  Option.bind (fX4_freshened N M R) fun M16 =>
  Option.bind (fX4_everywhere N M16 R v1 v2) fun x18 =>
  goB2 (fX12_answer M16 x18) fun x20 M21 =>
  some (x20, M21)
noncomputable def fX12_lies (N : Nat) (M : goMI) (R : goMR) (v1 : Int32) : Option (Int32 × goMI) :=
  if (fX12_isPerson M R v1) = 0 then
  goB2 (fX12_refuse M 1) fun x12 M13 =>
  some (x12, M13)
  else
  Option.bind (fX4_freshened N M R) fun M15 =>
  Option.bind (fX4_untold N M15 R v1) fun x17 =>
  goB2 (fX12_answer M15 x17) fun x19 M20 =>
  some (x19, M20)
noncomputable def fX12_falseOnes (N : Nat) (M : goMI) (R : goMR) : Option (Int32 × goMI) :=
  if (fX12_isHill M R) = 0 then
  goB2 (fX12_refuse M 1) fun x12 M13 =>
  some (x12, M13)
  else
  Option.bind (fX4_freshened N M R) fun M15 =>
  Option.bind (fX4_fewestFalse N M15 R) fun x17 =>
  goB2 (fX12_answer M15 x17) fun x19 M20 =>
  some (x19, M20)
noncomputable def fX12_odds (N : Nat) (M : goMI) (R : goMR) (v1 : Int32) : Option (Int32 × goMI) :=
  if (fX12_isCase M R v1) = 0 then
  goB2 (fX12_refuse M 1) fun x12 M13 =>
  some (x12, M13)
  else
  Option.bind (fX4_freshened N M R) fun M15 =>
  Option.bind (fX4_oddsOf N M15 R v1) fun x17 =>
  goB2 (fX12_answer M15 x17) fun x19 M20 =>
  some (x19, M20)
noncomputable def fX12_likeliest (N : Nat) (M : goMI) (R : goMR) : Option (Int32 × goMI) :=
  if (fX12_isHill M R) = 0 then
  goB2 (fX12_refuse M 1) fun x12 M13 =>
  some (x12, M13)
  else
  Option.bind (fX4_freshened N M R) fun M15 =>
  Option.bind (fX4_greatestOdds N M15 R) fun x17 =>
  goB2 (fX12_answer M15 x17) fun x19 M20 =>
  some (x19, M20)
noncomputable def fX12_proved (N : Nat) (M : goMI) (R : goMR) (v1 : Int32) (v2 : Int32) (v3 : Int32) : Option (Int32 × goMI) :=
  if (fX12_isPerson M R v1) = 0 then
  goB2 (fX12_refuse M 1) fun x12 M13 =>
  some (x12, M13)
  else
  if (fX12_isPlace M R v2) = 0 then
  goB2 (fX12_refuse M 1) fun x27 M28 =>
  some (x27, M28)
  else
  if (fX12_isHour M R v3) = 0 then
  goB2 (fX12_refuse M 2) fun x17 M18 =>
  some (x17, M18)
  else
  Option.bind (fX4_freshened N M R) fun M20 =>
  Option.bind (fX4_fewestProving N M20 R v1 v2 v3) fun x22 =>
  goB2 (fX12_answer M20 x22) fun x24 M25 =>
  some (x24, M25)
noncomputable def fX12_ask (N : Nat) (M : goMI) (R : goMR) : Option (Int32 × goMI) :=
  if (fX12_isHill M R) = 0 then
  goB2 (fX12_refuse M 1) fun x24 M25 =>
  some (x24, M25)
  else
  Option.bind (fX4_freshened N M R) fun M12 =>
  goB2 (fX4_question N M12 R) fun x14 M15 =>
  if x14 = 0 then
  goB2 (fX12_refuse M15 6) fun x18 M19 =>
  some (x18, M19)
  else
  goB2 (fX12_answer M15 (((M15 74 9) * 100) + (M15 74 10))) fun x21 M22 =>
  some (x21, M22)
noncomputable def fX12_askMost (N : Nat) (M : goMI) (R : goMR) : Option (Int32 × goMI) :=
  if (fX12_isHill M R) = 0 then
  goB2 (fX12_refuse M 1) fun x24 M25 =>
  some (x24, M25)
  else
  Option.bind (fX4_freshened N M R) fun M12 =>
  goB2 (fX4_question N M12 R) fun x14 M15 =>
  if x14 = 0 then
  goB2 (fX12_refuse M15 6) fun x18 M19 =>
  some (x18, M19)
  else
  goB2 (fX12_answer M15 (M15 74 11)) fun x21 M22 =>
  some (x21, M22)
noncomputable def fX12_whyNoQuest (M : goMI) (R : goMR) (v1 : Int32) (v2 : Int32) (v3 : Int32) (v4 : Int32) : Int32 :=
  if (fX12_isCase M R v1) = 0 then
  1
  else
  if (fX12_isGoat M R v2) = 0 then
  1
  else
  if (fX12_isPlace M R v3) = 0 then
  1
  else
  if (fX12_isHour M R v4) = 0 then
  2
  else
  0
noncomputable def fX12_led (N : Nat) (M : goMI) (R : goMR) (v1 : Int32) (v2 : Int32) (v3 : Int32) (v4 : Int32) : Option (Int32 × goMI) :=
  goNm (fX12_whyNoQuest M R v1 v2 v3 v4) fun x11 =>
  if x11 = 0 then
  goB2 (fX8_fewest N M R v1 v2 v3 v4 0) fun x17 M18 =>
  goB2 (fX12_answer M18 x17) fun x20 M21 =>
  some (x20, M21)
  else
  goB2 (fX12_refuse M x11) fun x14 M15 =>
  some (x14, M15)
noncomputable def fX12_spotCode (v0 : Int32) : Int32 :=
  (((v0 / 12) * 100) + (v0 - v0 / 12 * 12))
noncomputable def fX12_ledAt (N : Nat) (M : goMI) (R : goMR) (v1 : Int32) (v2 : Int32) (v3 : Int32) (v4 : Int32) (v5 : Int32) : Option (Int32 × goMI) :=
  goNm (fX12_whyNoQuest M R v1 v2 v3 v4) fun x11 =>
  if x11 = 0 then
  goB2 (fX8_fewest N M R v1 v2 v3 v4 0) fun x14 M15 =>
  if (fX12_within v5 x14) = 0 then
  goB2 (fX12_refuse M15 1) fun x25 M26 =>
  some (x25, M26)
  else
  goNm (α := Int32) (if v5 = 0 then
  (M15 88 8)
  else
  (M15 88 9)) fun x18 =>
  goB2 (fX12_answer M15 (fX12_spotCode x18)) fun x22 M23 =>
  some (x22, M23)
  else
  goB2 (fX12_refuse M x11) fun x28 M29 =>
  some (x28, M29)
noncomputable def fX12_scared (N : Nat) (M : goMI) (R : goMR) (v1 : Int32) (v2 : Int32) (v3 : Int32) (v4 : Int32) : Option (Int32 × goMI) :=
  goNm (fX12_whyNoQuest M R v1 v2 v3 v4) fun x11 =>
  if x11 = 0 then
  goB2 (fX8_fewest N M R v1 v2 v3 v4 12) fun x17 M18 =>
  goB2 (fX12_answer M18 x17) fun x20 M21 =>
  some (x20, M21)
  else
  goB2 (fX12_refuse M x11) fun x14 M15 =>
  some (x14, M15)
noncomputable def fX12_isFact (M : goMI) (R : goMR) (v1 : Int32) : Int32 :=
  (fX12_within v1 (M ((goRr R 0 5) + 21) 0))
noncomputable def fX12_follows (N : Nat) (M : goMI) (R : goMR) (v1 : Int32) : Option (Int32 × goMI) :=
  if (fX12_isFact M R v1) = 0 then
  goB2 (fX12_refuse M 1) fun x12 M13 =>
  some (x12, M13)
  else
  Option.bind (fX7_known N M ((goRr R 0 5) + 21) (M ((goRr R 0 5) + 21) 1) (-1)) fun x15 =>
  goB2 (fX12_answer M (fX12_bit x15 v1)) fun x17 M18 =>
  some (x17, M18)
noncomputable def fX12_step (N : Nat) (M : goMI) (R : goMR) : Option (Int32 × goMI) :=
  if (fX12_isHill M R) = 0 then
  goB2 (fX12_refuse M 1) fun x21 M22 =>
  some (x21, M22)
  else
  if 0 < (M ((goRr R 0 5) + 21) 3) then
  Option.bind (fX7_firstWrongStep N M ((goRr R 0 5) + 21)) fun x16 =>
  goB2 (fX12_answer M x16) fun x18 M19 =>
  some (x18, M19)
  else
  goB2 (fX12_refuse M 6) fun x13 M14 =>
  some (x13, M14)
noncomputable def fX12_needs (N : Nat) (M : goMI) (R : goMR) (v1 : Int32) : Option (Int32 × goMI) :=
  if (fX12_isFact M R v1) = 0 then
  goB2 (fX12_refuse M 1) fun x12 M13 =>
  some (x12, M13)
  else
  Option.bind (fX7_neededRules N M ((goRr R 0 5) + 21) v1) fun x15 =>
  goB2 (fX12_answer M x15) fun x17 M18 =>
  some (x17, M18)
noncomputable def fX12_enough (N : Nat) (M : goMI) (R : goMR) (v1 : Int32) : Option (Int32 × goMI) :=
  if (fX12_isFact M R v1) = 0 then
  goB2 (fX12_refuse M 1) fun x12 M13 =>
  some (x12, M13)
  else
  Option.bind (fX7_fewestFacts N M ((goRr R 0 5) + 21) v1) fun x15 =>
  goB2 (fX12_answer M x15) fun x17 M18 =>
  some (x17, M18)
noncomputable def fX12_cheese (N : Nat) (M : goMI) (R : goMR) (v1 : Int32) : Option (Int32 × goMI) :=
  if (fX12_isCase M R v1) = 0 then
  goB2 (fX12_refuse M 1) fun x23 M24 =>
  some (x23, M24)
  else
  if (M (goRr R 0 5) 6) = 0 then
  goB2 (fX12_refuse M 6) fun x13 M14 =>
  some (x13, M14)
  else
  Option.bind (fX4_dayOf N M R v1) fun M16 =>
  Option.bind (fX3_countMilkers N M16 R 78) fun x18 =>
  goB2 (fX12_answer M16 x18) fun x20 M21 =>
  some (x20, M21)
noncomputable def fX12_cheeseOf (N : Nat) (M : goMI) (R : goMR) (v1 : Int32) : Option (Int32 × goMI) :=
  if (fX12_isCase M R v1) = 0 then
  goB2 (fX12_refuse M 1) fun x23 M24 =>
  some (x23, M24)
  else
  if (M (goRr R 0 5) 6) = 0 then
  goB2 (fX12_refuse M 6) fun x13 M14 =>
  some (x13, M14)
  else
  Option.bind (fX4_dayOf N M R v1) fun M16 =>
  Option.bind (fX3_leastMilkers N M16 R 78) fun x18 =>
  goB2 (fX12_answer M16 x18) fun x20 M21 =>
  some (x20, M21)
noncomputable def fX12_appeals (N : Nat) (M : goMI) (L : goML) (R : goMR) : Option (Int64 × goMI × goML) :=
  if (fX12_isHill M R) = 0 then
  goB2 (fX12_refuse M 1) fun x18 M19 =>
  some ((Int32.toInt64 x18), M19, L)
  else
  goNm (goWI M 0 8 0) fun M12 =>
  goB3 (fX2_leastCosts N M12 L ((goRr R 0 5) + 25)) fun x14 M15 L16 =>
  some (x14, M15, L16)
noncomputable def fX12_appealAt (N : Nat) (M : goMI) (L : goML) (R : goMR) (v1 : Int32) : Option (Int32 × goMI × goML) :=
  if (fX12_within v1 (M ((goRr R 0 5) + 25) 0)) = 0 then
  goB2 (fX12_refuse M 1) fun x12 M13 =>
  some (x12, M13, L)
  else
  goB3 (fX2_inBestOrder N M L ((goRr R 0 5) + 25) v1) fun x15 M16 L17 =>
  goB2 (fX12_answer M16 x15) fun x19 M20 =>
  some (x19, M20, L17)
noncomputable def fX12_putOrTake (N : Nat) (M : goMI) (R : goMR) (v1 : Int32) (v2 : Int32) (v3 : Int32) (v4 : Int32) : Option (Int32 × goMI) :=
  if (fX12_isPlace M R v2) = 0 then
  some (1, M)
  else
  if (fX12_isHour M R v3) = 0 then
  some (2, M)
  else
  if v4 = 0 then
  goB2 (fX1_change M (v1 + v3) v2 v4) fun x14 M15 =>
  some (x14, M15)
  else
  Option.bind (goRd M 4 26 (v1 + v3)) fun x17 =>
  if (fX12_bit x17 v2) = 0 then
  Option.bind (fX1_countPut N M v1) fun x23 =>
  if 4 ≤ x23 then
  some (3, M)
  else
  goB2 (fX1_change M (v1 + v3) v2 v4) fun x26 M27 =>
  some (x26, M27)
  else
  goB2 (fX1_change M (v1 + v3) v2 v4) fun x20 M21 =>
  some (x20, M21)
noncomputable def fX12_done (M : goMI) (v1 : Int32) : Option (Int32 × goMI) :=
  goNm (goWI M 0 8 v1) fun M11 =>
  if v1 = 0 then
  some (1, M11)
  else
  some (0, M11)
noncomputable def fX12_salt (N : Nat) (M : goMI) (R : goMR) (v1 : Int32) (v2 : Int32) (v3 : Int32) : Option (Int32 × goMI) :=
  goB2 (fX12_putOrTake N M R 0 v1 v2 v3) fun x11 M12 =>
  goB2 (fX12_done M12 x11) fun x14 M15 =>
  Option.bind (goZr x14) fun x17 =>
  some (x17, M15)
noncomputable def fX12_dog (N : Nat) (M : goMI) (R : goMR) (v1 : Int32) (v2 : Int32) (v3 : Int32) : Option (Int32 × goMI) :=
  goB2 (fX12_putOrTake N M R 12 v1 v2 v3) fun x11 M12 =>
  goB2 (fX12_done M12 x11) fun x14 M15 =>
  Option.bind (goZr x14) fun x17 =>
  some (x17, M15)
noncomputable def fX12_hedge (M : goMI) (R : goMR) (v1 : Int32) (v2 : Int32) : Option (Int32 × goMI) :=
  goB2 (if (fX12_within v1 (M (goRr R 0 5) 3)) = 0 then
  some (1, M)
  else
  goB2 (fX1_change M 24 v1 v2) fun x16 M17 =>
  some (x16, M17)) fun x11 M12 =>
  goB2 (fX12_done M12 x11) fun x19 M20 =>
  Option.bind (goZr x19) fun x22 =>
  some (x22, M20)
noncomputable def fX12_hear (M : goMI) (R : goMR) (v1 : Int32) (v2 : Int32) : Option (Int32 × goMI) :=
  goB2 (if (fX12_isGoat M R v1) = 0 then
  some (1, M)
  else
  goB2 (fX1_change M 25 v1 v2) fun x16 M17 =>
  some (x16, M17)) fun x11 M12 =>
  goB2 (fX12_done M12 x11) fun x19 M20 =>
  Option.bind (goZr x19) fun x22 =>
  some (x22, M20)
noncomputable def fX12_undo (M : goMI) : Option (Int32 × goMI) :=
  goB2 (fX1_takeBack M) fun x11 M12 =>
  goNm (α := Int32) (if x11 = 0 then
  6
  else
  0) fun x14 =>
  goB2 (fX12_done M12 x14) fun x18 M19 =>
  Option.bind (goZr x18) fun x21 =>
  some (x21, M19)
noncomputable def fX12_mark (M : goMI) (R : goMR) : Option (Int32 × goMI) :=
  if (fX12_isHill M R) = 0 then
  goB2 (fX12_refuse M 1) fun x22 M23 =>
  some (x22, M23)
  else
  goB2 (fX1_keep M) fun x12 M13 =>
  if 0 ≤ x12 then
  goB2 (fX12_answer M13 x12) fun x19 M20 =>
  some (x19, M20)
  else
  goB2 (fX12_refuse M13 3) fun x16 M17 =>
  some (x16, M17)
noncomputable def fX12_back (M : goMI) (v1 : Int32) : Option (Int32 × goMI) :=
  goB2 (fX1_restore M v1) fun x11 M12 =>
  goNm (α := Int32) (if x11 = 0 then
  1
  else
  0) fun x14 =>
  goB2 (fX12_done M12 x14) fun x18 M19 =>
  Option.bind (goZr x18) fun x21 =>
  some (x21, M19)
noncomputable def fX12_size (M : goMI) (R : goMR) (v1 : Int32) : Int32 :=
  if v1 = 0 then
  (M (goRr R 0 5) 0)
  else
  if v1 = 1 then
  (M (goRr R 0 5) 1)
  else
  if v1 = 2 then
  (M (goRr R 0 5) 2)
  else
  if v1 = 3 then
  (M (goRr R 0 5) 3)
  else
  if v1 = 4 then
  (M (goRr R 0 5) 4)
  else
  if v1 = 5 then
  (M ((goRr R 0 5) + 9) 0)
  else
  if v1 = 6 then
  (M ((goRr R 0 5) + 9) 1)
  else
  if v1 = 7 then
  (M ((goRr R 0 5) + 21) 0)
  else
  if v1 = 8 then
  (M ((goRr R 0 5) + 21) 2)
  else
  if v1 = 9 then
  (M ((goRr R 0 5) + 21) 3)
  else
  if v1 = 10 then
  (M ((goRr R 0 5) + 25) 0)
  else
  if v1 = 11 then
  (M (goRr R 0 5) 5)
  else
  if v1 = 12 then
  (M 3 3)
  else
  if v1 = 13 then
  (M 3 4)
  else
  if v1 = 14 then
  (M 1 1)
  else
  (-1)
noncomputable def fX12_trouble (M : goMI) : Int32 :=
  (M 0 8)
noncomputable def lX13_find_2 (w1 : Int64) (M : goMI) (L : goML) (a0 : Nat) : Nat → Int32 → Option (Int32)
  | 0, _ => none
  | n + 1, v3 =>
    if v3 < (M a0 12) then
    Option.bind (goRdL L (a0 + 23) 40 v3) fun x12 =>
    if (lg_cmp x12 w1) = 0 then
    some v3
    else
    lX13_find_2 w1 M L a0 n (v3 + 1)
    else
    some (-1)
noncomputable def fX13_find (N : Nat) (M : goMI) (L : goML) (a0 : Nat) (w1 : Int64) : Option (Int32) :=
  lX13_find_2 w1 M L a0 N 0
noncomputable def lX13_path_2 (v1 : Int32) (v2 : Int32) (M : goMI) (a0 : Nat) : Nat → Int32 → Option (Int32)
  | 0, _ => none
  | n + 1, v3 =>
    if v3 < (M a0 3) then
    Option.bind (goRd M (a0 + 2) 14 v3) fun x12 =>
    if x12 = v1 then
    Option.bind (goRd M (a0 + 3) 14 v3) fun x21 =>
    if x21 = v2 then
    some v3
    else
    Option.bind (goRd M (a0 + 2) 14 v3) fun x24 =>
    if x24 = v2 then
    Option.bind (goRd M (a0 + 3) 14 v3) fun x27 =>
    if x27 = v1 then
    some v3
    else
    lX13_path_2 v1 v2 M a0 n (v3 + 1)
    else
    lX13_path_2 v1 v2 M a0 n (v3 + 1)
    else
    Option.bind (goRd M (a0 + 2) 14 v3) fun x15 =>
    if x15 = v2 then
    Option.bind (goRd M (a0 + 3) 14 v3) fun x18 =>
    if x18 = v1 then
    some v3
    else
    lX13_path_2 v1 v2 M a0 n (v3 + 1)
    else
    lX13_path_2 v1 v2 M a0 n (v3 + 1)
    else
    some (-1)
noncomputable def fX13_path (N : Nat) (M : goMI) (a0 : Nat) (v1 : Int32) (v2 : Int32) : Option (Int32) :=
  lX13_path_2 v1 v2 M a0 N 0
noncomputable def lX13_cases_4 (M : goMI) (a0 : Nat) : Nat → Int32 → Int32 → Option (Int32)
  | 0, _, _ => none
  | n + 1, v1, v2 =>
    if v2 < (M a0 4) then
    Option.bind (goRd M (a0 + 4) 4 v2) fun x12 =>
    Option.bind (if 0 < x12 then
    Option.bind (goRd M (a0 + 4) 4 v2) fun x18 =>
    some x18
    else
    some 1) fun x14 =>
    goNm (v1 * x14) fun x20 =>
    lX13_cases_4 M a0 n x20 (v2 + 1)
    else
    some v1
noncomputable def fX13_cases (N : Nat) (M : goMI) (a0 : Nat) : Option (Int32) :=
  Option.bind (lX13_cases_4 M a0 N 1 0) fun x23 =>
  some x23
noncomputable def lX13_storyOf_19 (M : goMI) (a0 : Nat) : Nat → Int32 → Int32 → Option (Int32)
  | 0, _, _ => none
  | n + 1, v3, v4 =>
    if v4 < (M a0 4) then
    Option.bind (goRd M (a0 + 4) 4 v4) fun x17 =>
    Option.bind (if 0 < x17 then
    Option.bind (goRd M (a0 + 4) 4 v4) fun x23 =>
    some x23
    else
    some 1) fun x19 =>
    goNm (v3 * x19) fun x25 =>
    lX13_storyOf_19 M a0 n x25 (v4 + 1)
    else
    some v3
noncomputable def fX13_storyOf (N : Nat) (M : goMI) (a0 : Nat) (v1 : Int32) (v2 : Int32) : Option (Int32) :=
  Option.bind (goRd M (a0 + 4) 4 v2) fun x11 =>
  if x11 = 0 then
  some (-2)
  else
  goNm (v2 + 1) fun x14 =>
  Option.bind (lX13_storyOf_19 M a0 N 1 x14) fun x28 =>
  Option.bind (goNz x28) fun _ =>
  Option.bind (goRd M (a0 + 4) 4 v2) fun x31 =>
  Option.bind (goNz x31) fun _ =>
  some ((v1 / x28) - (v1 / x28) / x31 * x31)
noncomputable def fX13_place (M : goMI) (a0 : Nat) (v1 : Int32) (v2 : Int32) (v3 : Int32) : Option (Int32) :=
  Option.bind (goRd M (a0 + 5) 144 ((((3 * v1) + v2) * 12) + v3)) fun x11 =>
  some x11
noncomputable def fX13_placeIn (N : Nat) (M : goMI) (a0 : Nat) (v1 : Int32) (v2 : Int32) (v3 : Int32) : Option (Int32) :=
  Option.bind (goRd M (a0 + 4) 4 v2) fun x11 =>
  if x11 = 0 then
  some (-2)
  else
  Option.bind (fX13_storyOf N M a0 v1 v2) fun x14 =>
  Option.bind (fX13_place M a0 v2 x14 v3) fun x16 =>
  some x16
noncomputable def fX14_thrown (M : goMI) : Int32 :=
  (M 102 0)
noncomputable def fX14_refused (M : goMI) (v1 : Int32) : Option (Int32 × goMI) :=
  goNm (goWI M 102 1 v1) fun M11 =>
  goNm (goWI M11 102 2 (-1)) fun M13 =>
  some ((-1), M13)
noncomputable def fX14_denied (M : goMI) (v1 : Int32) : Option (Int32 × goMI) :=
  goB2 (fX14_refused M v1) fun x11 M12 =>
  some (0, M12)
noncomputable def fX14_good (M : goMI) (v1 : Int32) : Option (Int32 × goMI) :=
  goNm (goWI M 102 1 0) fun M11 =>
  goNm (goWI M11 102 2 (-1)) fun M13 =>
  some (v1, M13)
noncomputable def fX14_granted (M : goMI) : Option (Int32 × goMI) :=
  goB2 (fX14_good M 0) fun x11 M12 =>
  some (1, M12)
noncomputable def fX14_within (v0 : Int32) (v1 : Int32) (v2 : Int32) : Int32 :=
  if v1 ≤ v0 then
  if v0 ≤ v2 then
  1
  else
  0
  else
  0
noncomputable def fX14_bit (v0 : Int32) (v1 : Int32) : Int32 :=
  if ((v0 >>> (v1 &&& 31)) &&& 1) = 1 then
  1
  else
  0
noncomputable def lX14_bits_4 : Nat → Int32 → Int32 → Option (Int32)
  | 0, _, _ => none
  | n + 1, v1, v2 =>
    if v2 = 0 then
    some v1
    else
    goNm (v2 &&& (v2 - 1)) fun x12 =>
    lX14_bits_4 n (v1 + 1) x12
noncomputable def fX14_bits (N : Nat) (v0 : Int32) : Option (Int32) :=
  Option.bind (lX14_bits_4 N 0 v0) fun x15 =>
  some x15
noncomputable def fX14_byteAt (M : goMI) (v1 : Int32) : Option (Int32) :=
  if v1 < (M 102 7) then
  Option.bind (goRd M 103 1200 v1) fun x12 =>
  some (x12 &&& 255)
  else
  some (-1)
noncomputable def fX14_isLetter (v0 : Int32) : Int32 :=
  if 97 ≤ v0 then
  if v0 ≤ 122 then
  1
  else
  0
  else
  0
noncomputable def fX14_isDigit (v0 : Int32) : Int32 :=
  if 48 ≤ v0 then
  if v0 ≤ 57 then
  1
  else
  0
  else
  0
noncomputable def lX14_wordOf_4 (a0 : Nat) : Nat → Int64 → Int32 → Option (Int64)
  | 0, _, _ => none
  | n + 1, w1, v3 =>
    Option.bind (goSl a0) fun x11 =>
    if v3 < x11 then
    Option.bind (goSc a0 v3) fun x14 =>
    goNm ((32 * w1) + (Int32.toInt64 ((x14 - 97) + 1))) fun x16 =>
    lX14_wordOf_4 a0 n x16 (v3 + 1)
    else
    some w1
noncomputable def fX14_wordOf (N : Nat) (a0 : Nat) : Option (Int64) :=
  Option.bind (lX14_wordOf_4 a0 N 0 0) fun x19 =>
  some x19
noncomputable def lX14_goesOn_9 : Nat → goMI → Option (goMI)
  | 0, _ => none
  | n + 1, M =>
    Option.bind (fX14_byteAt M (M 102 8)) fun x12 =>
    if x12 = 32 then
    goNm (goWI M 102 8 ((M 102 8) + 1)) fun M15 =>
    lX14_goesOn_9 n M15
    else
    some M
noncomputable def lX14_goesOn_195 : Nat → Int32 → goMI → Option (Int32 × goMI)
  | 0, _, _ => none
  | n + 1, v2, M =>
    Option.bind (fX14_byteAt M (M 102 8)) fun x46 =>
    if (fX14_isDigit x46) = 0 then
    some (v2, M)
    else
    Option.bind (if v2 < 3 then
    Option.bind (fX14_byteAt M (M 102 8)) fun x53 =>
    goNm (goWI M 102 12 (((10 * (M 102 12)) + x53) - 48)) fun M55 =>
    some M55
    else
    some M) fun M49 =>
    goNm (goWI M49 102 8 ((M49 102 8) + 1)) fun M57 =>
    lX14_goesOn_195 n (v2 + 1) M57
noncomputable def lX14_goesOn_89 : Nat → Int32 → goMI → goML → Option (Int32 × goMI × goML)
  | 0, _, _, _ => none
  | n + 1, v2, M, L =>
    Option.bind (fX14_byteAt M (M 102 8)) fun x67 =>
    if (fX14_isLetter x67) = 0 then
    some (v2, M, L)
    else
    goB2 (if v2 < 8 then
    Option.bind (fX14_byteAt M (M 102 8)) fun x75 =>
    Option.bind (goWr M 104 8 v2 x75) fun M77 =>
    Option.bind (goRd M77 104 8 v2) fun x79 =>
    goNm (goWL L 102 17 ((32 * (L 102 17)) + (Int32.toInt64 ((x79 - 97) + 1)))) fun L81 =>
    some (M77, L81)
    else
    some (M, L)) fun M70 L71 =>
    goNm (goWI M70 102 8 ((M70 102 8) + 1)) fun M83 =>
    lX14_goesOn_89 n (v2 + 1) M83 L71
noncomputable def fX14_goesOn (N : Nat) (M : goMI) (L : goML) : Option (goMI × goML) :=
  if (M 102 9) = 5 then
  some (M, L)
  else
  Option.bind (lX14_goesOn_9 N M) fun M18 =>
  goNm (goWI M18 102 10 (M18 102 8)) fun M19 =>
  goNm (goWI M19 102 9 0) fun M21 =>
  goNm (goWI M21 102 11 0) fun M23 =>
  Option.bind (fX14_byteAt M23 (M23 102 8)) fun x25 =>
  if x25 = (-1) then
  goNm (goWI M23 102 9 1) fun M94 =>
  some (M94, L)
  else
  if (fX14_isLetter x25) = 0 then
  if (fX14_isDigit x25) = 0 then
  if x25 = 59 then
  goNm (goWI M23 102 9 4) fun M31 =>
  goNm (goWI M31 102 11 x25) fun M33 =>
  goNm (goWI M33 102 8 ((M33 102 8) + 1)) fun M35 =>
  some (M35, L)
  else
  if x25 = 44 then
  goNm (goWI M23 102 9 4) fun M38 =>
  goNm (goWI M38 102 11 x25) fun M40 =>
  goNm (goWI M40 102 8 ((M40 102 8) + 1)) fun M42 =>
  some (M42, L)
  else
  some (M23, L)
  else
  goNm (goWI M23 102 12 0) fun M44 =>
  goB2 (lX14_goesOn_195 N 0 M44) fun x60 M61 =>
  if x60 ≤ 3 then
  goNm (goWI M61 102 9 3) fun M63 =>
  some (M63, L)
  else
  some (M61, L)
  else
  goNm (goWL L 102 17 0) fun L65 =>
  goB3 (lX14_goesOn_89 N 0 M23 L65) fun x86 M87 L88 =>
  goNm (goWI M87 102 13 x86) fun M89 =>
  if x86 ≤ 8 then
  goNm (goWI M89 102 9 2) fun M92 =>
  some (M92, L88)
  else
  some (M89, L88)
noncomputable def fX14_flaw (M : goMI) (v1 : Int32) : Option (goMI) :=
  if (M 102 9) = 5 then
  some M
  else
  goNm (goWI M 102 14 v1) fun M12 =>
  goNm (goWI M12 102 15 (M12 102 10)) fun M14 =>
  goNm (goWI M14 102 9 5) fun M16 =>
  some M16
noncomputable def fX14_isWord (N : Nat) (M : goMI) (L : goML) (a1 : Nat) : Option (Int32) :=
  if (M 102 9) = 2 then
  Option.bind (fX14_wordOf N a1) fun x12 =>
  if (lg_cmp (L 102 17) x12) = 0 then
  some 1
  else
  some 0
  else
  some 0
noncomputable def fX14_eatsSign (N : Nat) (M : goMI) (L : goML) (v1 : Int32) : Option (Int32 × goMI × goML) :=
  goNm (α := Int32) (if (M 102 9) = 4 then
  if (M 102 11) = v1 then
  1
  else
  0
  else
  0) fun x11 =>
  goB2 (if x11 = 0 then
  some (M, L)
  else
  goB2 (fX14_goesOn N M L) fun M21 L22 =>
  some (M21, L22)) fun M16 L17 =>
  Option.bind (goZr x11) fun x24 =>
  some (x24, M16, L17)
noncomputable def fX14_wants (N : Nat) (M : goMI) (L : goML) (a1 : Nat) : Option (goMI × goML) :=
  Option.bind (fX14_isWord N M L a1) fun x11 =>
  Option.bind (if x11 = 0 then
  Option.bind (fX14_flaw M 1) fun M17 =>
  some M17
  else
  some M) fun M13 =>
  goB2 (fX14_goesOn N M13 L) fun M19 L20 =>
  some (M19, L20)
noncomputable def fX14_needsSign (N : Nat) (M : goMI) (L : goML) (v1 : Int32) : Option (goMI × goML) :=
  Option.bind (if (M 102 9) = 4 then
  if (M 102 11) = v1 then
  some M
  else
  Option.bind (fX14_flaw M 1) fun M18 =>
  some M18
  else
  Option.bind (fX14_flaw M 1) fun M15 =>
  some M15) fun M11 =>
  goB2 (fX14_goesOn N M11 L) fun M20 L21 =>
  some (M20, L21)
noncomputable def fX14_readWhole (N : Nat) (M : goMI) (L : goML) (v1 : Int32) (v2 : Int32) : Option (Int32 × goMI × goML) :=
  Option.bind (if (M 102 9) = 3 then
  if (fX14_within (M 102 12) v1 v2) = 0 then
  Option.bind (fX14_flaw M 4) fun M16 =>
  some M16
  else
  some M
  else
  Option.bind (fX14_flaw M 1) fun M18 =>
  some M18) fun M11 =>
  goNm (α := Int32) (if (M11 102 9) = 5 then
  v1
  else
  (M11 102 12)) fun x20 =>
  goB2 (fX14_goesOn N M11 L) fun M24 L25 =>
  some (x20, M24, L25)
noncomputable def fX14_readPart (N : Nat) (M : goMI) (L : goML) (a1 : Nat) (v2 : Int32) (v3 : Int32) : Option (Int32 × goMI × goML) :=
  goB2 (fX14_wants N M L a1) fun M11 L12 =>
  goB3 (fX14_readWhole N M11 L12 v2 v3) fun x14 M15 L16 =>
  some (x14, M15, L16)
noncomputable def fX14_isName (N : Nat) (M : goMI) (L : goML) : Option (Int32) :=
  if (M 102 9) = 2 then
  Option.bind (fX14_isWord N M L 1000130) fun x12 =>
  if x12 = 0 then
  Option.bind (fX14_isWord N M L 1000131) fun x15 =>
  if x15 = 0 then
  Option.bind (fX14_isWord N M L 1000132) fun x18 =>
  if x18 = 0 then
  Option.bind (fX14_isWord N M L 1000133) fun x21 =>
  if x21 = 0 then
  Option.bind (fX14_isWord N M L 1000134) fun x24 =>
  if x24 = 0 then
  Option.bind (fX14_isWord N M L 1000135) fun x27 =>
  if x27 = 0 then
  Option.bind (fX14_isWord N M L 1000136) fun x30 =>
  if x30 = 0 then
  Option.bind (fX14_isWord N M L 1000137) fun x33 =>
  if x33 = 0 then
  Option.bind (fX14_isWord N M L 1000138) fun x36 =>
  if x36 = 0 then
  Option.bind (fX14_isWord N M L 1000139) fun x39 =>
  if x39 = 0 then
  Option.bind (fX14_isWord N M L 1000140) fun x42 =>
  if x42 = 0 then
  Option.bind (fX14_isWord N M L 1000141) fun x45 =>
  if x45 = 0 then
  Option.bind (fX14_isWord N M L 1000142) fun x48 =>
  if x48 = 0 then
  Option.bind (fX14_isWord N M L 1000143) fun x51 =>
  if x51 = 0 then
  Option.bind (fX14_isWord N M L 1000144) fun x54 =>
  if x54 = 0 then
  Option.bind (fX14_isWord N M L 1000145) fun x57 =>
  if x57 = 0 then
  Option.bind (fX14_isWord N M L 1000146) fun x60 =>
  if x60 = 0 then
  some 1
  else
  some 0
  else
  some 0
  else
  some 0
  else
  some 0
  else
  some 0
  else
  some 0
  else
  some 0
  else
  some 0
  else
  some 0
  else
  some 0
  else
  some 0
  else
  some 0
  else
  some 0
  else
  some 0
  else
  some 0
  else
  some 0
  else
  some 0
  else
  some 0
noncomputable def fX14_begins (N : Nat) (M : goMI) (L : goML) (R : goMR) (v1 : Int32) (v2 : Int32) : Option (goMI × goML) :=
  Option.bind (if v1 = v2 then
  Option.bind (fX14_flaw M 5) fun M15 =>
  some M15
  else
  some M) fun M11 =>
  Option.bind (R 102 4) fun b17 =>
  Option.bind (if (M11 b17 0) = 0 then
  Option.bind (fX14_flaw M11 6) fun M23 =>
  some M23
  else
  some M11) fun M19 =>
  goB2 (fX14_goesOn N M19 L) fun M25 L26 =>
  some (M25, L26)
noncomputable def fX14_beginsOnce (N : Nat) (M : goMI) (L : goML) (R : goMR) (v1 : Int32) : Option (goMI × goML) :=
  Option.bind (if v1 = 0 then
  some M
  else
  Option.bind (fX14_flaw M 3) fun M15 =>
  some M15) fun M11 =>
  goB2 (fX14_begins N M11 L R 0 1) fun M17 L18 =>
  some (M17, L18)
noncomputable def fX14_readFresh (N : Nat) (M : goMI) (L : goML) (R : goMR) : Option (Int64 × goMI × goML) :=
  Option.bind (fX14_isName N M L) fun x11 =>
  Option.bind (if x11 = 0 then
  Option.bind (fX14_flaw M 1) fun M17 =>
  some M17
  else
  some M) fun M13 =>
  Option.bind (R 102 4) fun b19 =>
  Option.bind (fX13_find N M13 L b19 (L 102 17)) fun x21 =>
  Option.bind (if x21 = (-1) then
  some M13
  else
  Option.bind (fX14_flaw M13 3) fun M27 =>
  some M27) fun M23 =>
  goNm (L 102 17) fun x29 =>
  goB2 (fX14_goesOn N M23 L) fun M31 L32 =>
  some (x29, M31, L32)
noncomputable def fX14_names (M : goMI) (L : goML) (R : goMR) (w1 : Int64) (v3 : Int32) (v4 : Int32) : Option (goMI × goML) :=
  Option.bind (R 102 4) fun b11 =>
  Option.bind (R 102 4) fun b13 =>
  Option.bind (goWrL L (b11 + 23) 40 (M b13 12) w1) fun L15 =>
  Option.bind (R 102 4) fun b17 =>
  Option.bind (R 102 4) fun b19 =>
  Option.bind (goWr M (b17 + 24) 40 (M b19 12) v3) fun M21 =>
  Option.bind (R 102 4) fun b23 =>
  Option.bind (R 102 4) fun b25 =>
  Option.bind (goWr M21 (b23 + 25) 40 (M21 b25 12) v4) fun M27 =>
  Option.bind (R 102 4) fun b29 =>
  goNm (goWI M27 b29 12 ((M27 b29 12) + 1)) fun M31 =>
  some (M31, L15)
noncomputable def fX14_known (N : Nat) (M : goMI) (L : goML) (R : goMR) (v1 : Int32) : Option (Int32 × goMI) :=
  Option.bind (fX14_isName N M L) fun x11 =>
  Option.bind (if x11 = 0 then
  Option.bind (fX14_flaw M 1) fun M17 =>
  some M17
  else
  some M) fun M13 =>
  Option.bind (R 102 4) fun b19 =>
  Option.bind (fX13_find N M13 L b19 (L 102 17)) fun x21 =>
  Option.bind (if x21 = (-1) then
  Option.bind (fX14_flaw M13 2) fun M27 =>
  some M27
  else
  Option.bind (R 102 4) fun b29 =>
  Option.bind (goRd M13 (b29 + 24) 40 x21) fun x31 =>
  if x31 = v1 then
  some M13
  else
  Option.bind (fX14_flaw M13 2) fun M34 =>
  some M34) fun M23 =>
  if (M23 102 9) = 5 then
  some (0, M23)
  else
  Option.bind (R 102 4) fun b37 =>
  Option.bind (goRd M23 (b37 + 25) 40 x21) fun x39 =>
  some (x39, M23)
noncomputable def fX14_readKnown (N : Nat) (M : goMI) (L : goML) (R : goMR) (v1 : Int32) : Option (Int32 × goMI × goML) :=
  goB2 (fX14_known N M L R v1) fun x11 M12 =>
  goB2 (fX14_goesOn N M12 L) fun M14 L15 =>
  some (x11, M14, L15)
noncomputable def lX14_readPlants_3 (N : Nat) (v2 : Int32) (v3 : Int32) (R : goMR) (a1 : Nat) (n1 : Nat) : Nat → Int32 → goMI → goML → Option (goMI × goML)
  | 0, _, _, _ => none
  | n + 1, v4, M, L =>
    Option.bind (R 102 4) fun b11 =>
    if v4 < (M b11 1) then
    if (M 102 9) = 5 then
    some (M, L)
    else
    goB2 (if 0 < v4 then
    goB2 (fX14_needsSign N M L 44) fun M20 L21 =>
    some (M20, L21)
    else
    some (M, L)) fun M15 L16 =>
    goB3 (fX14_readWhole N M15 L16 0 v3) fun x23 M24 L25 =>
    Option.bind (goWr M24 a1 n1 (v2 + v4) x23) fun M27 =>
    lX14_readPlants_3 N v2 v3 R a1 n1 n (v4 + 1) M27 L25
    else
    some (M, L)
noncomputable def fX14_readPlants (N : Nat) (M : goMI) (L : goML) (R : goMR) (a1 n1 : Nat) (v2 : Int32) (v3 : Int32) : Option (goMI × goML) :=
  goB2 (lX14_readPlants_3 N v2 v3 R a1 n1 N 0 M L) fun M30 L31 =>
  some (M30, L31)
noncomputable def fX14_readHill (N : Nat) (M : goMI) (L : goML) (R : goMR) : Option (goMI × goML) :=
  Option.bind (R 102 4) fun b11 =>
  Option.bind (if 0 < (M b11 0) then
  Option.bind (fX14_flaw M 3) fun M17 =>
  some M17
  else
  some M) fun M13 =>
  goB2 (fX14_goesOn N M13 L) fun M19 L20 =>
  goB3 (fX14_readPart N M19 L20 1000147 2 12) fun x22 M23 L24 =>
  goB3 (fX14_readPart N M23 L24 1000148 1 4) fun x26 M27 L28 =>
  if (M27 102 9) = 5 then
  some (M27, L28)
  else
  Option.bind (R 102 4) fun b31 =>
  goNm (goWI M27 b31 0 x22) fun M33 =>
  Option.bind (R 102 4) fun b35 =>
  goNm (goWI M33 b35 1 x26) fun M37 =>
  some (M37, L28)
noncomputable def fX14_readPlace (N : Nat) (M : goMI) (L : goML) (R : goMR) : Option (goMI × goML) :=
  Option.bind (R 102 4) fun b11 =>
  goB2 (fX14_begins N M L R (M b11 2) 8) fun M13 L14 =>
  goB3 (fX14_readFresh N M13 L14 R) fun x16 M17 L18 =>
  Option.bind (R 102 4) fun b20 =>
  Option.bind (R 102 4) fun b22 =>
  Option.bind (if (M17 b22 2) < 8 then
  Option.bind (R 102 4) fun b28 =>
  some (M17 b28 2)
  else
  some 0) fun x24 =>
  goB2 (fX14_readPlants N M17 L18 R (b20 + 1) 32 (4 * x24) 9) fun M30 L31 =>
  if (M30 102 9) = 5 then
  some (M30, L31)
  else
  Option.bind (R 102 4) fun b34 =>
  goB2 (fX14_names M30 L31 R x16 0 (M30 b34 2)) fun M36 L37 =>
  Option.bind (R 102 4) fun b39 =>
  goNm (goWI M36 b39 2 ((M36 b39 2) + 1)) fun M41 =>
  some (M41, L37)
noncomputable def fX14_readPath (N : Nat) (M : goMI) (L : goML) (R : goMR) : Option (goMI × goML) :=
  Option.bind (R 102 4) fun b11 =>
  goB2 (fX14_begins N M L R (M b11 3) 14) fun M13 L14 =>
  goB3 (fX14_readKnown N M13 L14 R 0) fun x16 M17 L18 =>
  goB2 (fX14_known N M17 L18 R 0) fun x20 M21 =>
  Option.bind (if (M21 102 9) = 5 then
  some M21
  else
  if x16 = x20 then
  Option.bind (fX14_flaw M21 3) fun M28 =>
  some M28
  else
  Option.bind (R 102 4) fun b30 =>
  Option.bind (fX13_path N M21 b30 x16 x20) fun x32 =>
  if x32 = (-1) then
  some M21
  else
  Option.bind (fX14_flaw M21 3) fun M35 =>
  some M35) fun M23 =>
  goB2 (fX14_goesOn N M23 L18) fun M37 L38 =>
  if (M37 102 9) = 5 then
  some (M37, L38)
  else
  Option.bind (R 102 4) fun b41 =>
  Option.bind (R 102 4) fun b43 =>
  Option.bind (goWr M37 (b41 + 2) 14 (M37 b43 3) x16) fun M45 =>
  Option.bind (R 102 4) fun b47 =>
  Option.bind (R 102 4) fun b49 =>
  Option.bind (goWr M45 (b47 + 3) 14 (M45 b49 3) x20) fun M51 =>
  Option.bind (R 102 4) fun b53 =>
  goNm (goWI M51 b53 3 ((M51 b53 3) + 1)) fun M55 =>
  some (M55, L38)
noncomputable def fX14_readPerson (N : Nat) (M : goMI) (L : goML) (R : goMR) : Option (goMI × goML) :=
  Option.bind (R 102 4) fun b11 =>
  goB2 (fX14_begins N M L R (M b11 4) 4) fun M13 L14 =>
  goB3 (fX14_readFresh N M13 L14 R) fun x16 M17 L18 =>
  if (M17 102 9) = 5 then
  some (M17, L18)
  else
  Option.bind (R 102 4) fun b21 =>
  goB2 (fX14_names M17 L18 R x16 1 (M17 b21 4)) fun M23 L24 =>
  Option.bind (R 102 4) fun b26 =>
  goNm (goWI M23 b26 4 ((M23 b26 4) + 1)) fun M28 =>
  some (M28, L24)
noncomputable def lX14_readStory_120 (v2 : Int32) (v5 : Int32) (R : goMR) : Nat → Int32 → goMI → Option (goMI)
  | 0, _, _ => none
  | n + 1, v6, M =>
    if v6 < 12 then
    Option.bind (R 102 4) fun b64 =>
    Option.bind (goWr M (b64 + 5) 144 (v2 + v6) v5) fun M66 =>
    lX14_readStory_120 v2 v5 R n (v6 + 1) M66
    else
    some M
noncomputable def lX14_readStory_76 (N : Nat) (v1 : Int32) (v2 : Int32) (R : goMR) : Nat → Int32 → Int32 → goMI → goML → Option (goMI × goML)
  | 0, _, _, _, _ => none
  | n + 1, v3, v4, M, L =>
    if v4 = 0 then
    Option.bind (R 102 4) fun b42 =>
    Option.bind (goRd M (b42 + 4) 4 v1) fun x44 =>
    Option.bind (goWr M (b42 + 4) 4 v1 (x44 + 1)) fun M46 =>
    some (M46, L)
    else
    goB2 (fX14_known N M L R 0) fun x48 M49 =>
    Option.bind (R 102 4) fun b51 =>
    Option.bind (if v3 = (M49 b51 0) then
    Option.bind (fX14_flaw M49 5) fun M57 =>
    some M57
    else
    some M49) fun M53 =>
    goB2 (fX14_goesOn N M53 L) fun M59 L60 =>
    if (M59 102 9) = 5 then
    some (M59, L60)
    else
    Option.bind (lX14_readStory_120 v2 x48 R N v3 M59) fun M69 =>
    goB3 (fX14_eatsSign N M69 L60 44) fun x70 M71 L72 =>
    lX14_readStory_76 N v1 v2 R n (v3 + 1) x70 M71 L72
noncomputable def fX14_readStory (N : Nat) (M : goMI) (L : goML) (R : goMR) : Option (goMI × goML) :=
  goB2 (fX14_begins N M L R 0 1) fun M11 L12 =>
  goB2 (fX14_known N M11 L12 R 1) fun x14 M15 =>
  Option.bind (if (M15 102 9) = 5 then
  some M15
  else
  Option.bind (R 102 4) fun b21 =>
  Option.bind (goRd M15 (b21 + 4) 4 x14) fun x23 =>
  if x23 = 3 then
  Option.bind (fX14_flaw M15 5) fun M26 =>
  some M26
  else
  some M15) fun M17 =>
  goB2 (fX14_goesOn N M17 L12) fun M28 L29 =>
  Option.bind (if (M28 102 9) = 5 then
  some 0
  else
  Option.bind (R 102 4) fun b35 =>
  Option.bind (goRd M28 (b35 + 4) 4 x14) fun x37 =>
  some x37) fun x31 =>
  goNm (((3 * x14) + x31) * 12) fun x39 =>
  lX14_readStory_76 N x14 x39 R N 0 1 M28 L29
noncomputable def lX14_readGoat_206 (v7 : Int32) (M : goMI) : Nat → Int32 → Int32 → Option (Int32)
  | 0, _, _ => none
  | n + 1, v8, v9 =>
    if v9 < v7 then
    Option.bind (if v8 = 0 then
    some 0
    else
    Option.bind (goRd M 104 8 v9) fun x86 =>
    Option.bind (goRd M 104 8 v7) fun x88 =>
    if x86 = x88 then
    some 0
    else
    some 1) fun x82 =>
    lX14_readGoat_206 v7 M n x82 (v9 + 1)
    else
    some v8
noncomputable def lX14_readGoat_161 (N : Nat) (v5 : Int32) (R : goMR) : Nat → Int32 → goMI → Option (goMI)
  | 0, _, _ => none
  | n + 1, v7, M =>
    if (M 102 9) = 5 then
    some M
    else
    if v7 < (M 102 13) then
    Option.bind (goRd M 104 8 v7) fun x75 =>
    Option.bind (R 102 4) fun b77 =>
    goNm (fX14_within (x75 - 97) 0 ((M b77 1) - 1)) fun x79 =>
    Option.bind (lX14_readGoat_206 v7 M N x79 0) fun x92 =>
    Option.bind (if x92 = 0 then
    Option.bind (fX14_flaw M 7) fun M97 =>
    some M97
    else
    Option.bind (R 102 4) fun b99 =>
    Option.bind (goRd M 104 8 v7) fun x101 =>
    Option.bind (goWr M (b99 + 9) 24 ((4 * v5) + v7) (x101 - 97)) fun M103 =>
    some M103) fun M93 =>
    lX14_readGoat_161 N v5 R n (v7 + 1) M93
    else
    some M
noncomputable def fX14_readGoat (N : Nat) (M : goMI) (L : goML) (R : goMR) : Option (goMI × goML) :=
  Option.bind (R 102 4) fun b11 =>
  goB2 (fX14_begins N M L R (M b11 5) 6) fun M13 L14 =>
  goB3 (fX14_readFresh N M13 L14 R) fun x16 M17 L18 =>
  Option.bind (fX14_isWord N M17 L18 1000149) fun x20 =>
  Option.bind (if x20 = 0 then
  Option.bind (fX14_isWord N M17 L18 1000150) fun x26 =>
  if x26 = 0 then
  Option.bind (fX14_isWord N M17 L18 1000151) fun x29 =>
  if x29 = 0 then
  Option.bind (fX14_isWord N M17 L18 1000152) fun x32 =>
  if x32 = 0 then
  some (-1)
  else
  some 3
  else
  some 2
  else
  some 1
  else
  some 0) fun x22 =>
  Option.bind (if x22 = (-1) then
  Option.bind (fX14_flaw M17 1) fun M39 =>
  some M39
  else
  some M17) fun M35 =>
  goB2 (fX14_goesOn N M35 L18) fun M41 L42 =>
  goB3 (if x22 = 3 then
  goB3 (fX14_readKnown N M41 L42 R 2) fun x50 M51 L52 =>
  some (x50, M51, L52)
  else
  some ((-2), M41, L42)) fun x44 M45 L46 =>
  goB2 (fX14_wants N M45 L46 1000153) fun M54 L55 =>
  Option.bind (if (M54 102 9) = 2 then
  some M54
  else
  Option.bind (fX14_flaw M54 1) fun M61 =>
  some M61) fun M57 =>
  Option.bind (R 102 4) fun b63 =>
  Option.bind (if (M57 b63 5) < 6 then
  Option.bind (R 102 4) fun b69 =>
  some (M57 b69 5)
  else
  some 0) fun x65 =>
  goNm (M57 102 13) fun x71 =>
  Option.bind (lX14_readGoat_161 N x65 R N 0 M57) fun M106 =>
  goB2 (fX14_goesOn N M106 L55) fun M107 L108 =>
  goB2 (fX14_wants N M107 L108 1000154) fun M110 L111 =>
  goB3 (fX14_readKnown N M110 L111 R 0) fun x113 M114 L115 =>
  goB3 (fX14_readPart N M114 L115 1000155 1 9) fun x117 M118 L119 =>
  if (M118 102 9) = 5 then
  some (M118, L119)
  else
  goB2 (fX14_names M118 L119 R x16 2 x65) fun M122 L123 =>
  Option.bind (R 102 4) fun b125 =>
  Option.bind (goWr M122 (b125 + 6) 6 x65 x22) fun M127 =>
  Option.bind (R 102 4) fun b129 =>
  Option.bind (goWr M127 (b129 + 7) 6 x65 x44) fun M131 =>
  Option.bind (R 102 4) fun b133 =>
  Option.bind (goWr M131 (b133 + 8) 6 x65 x71) fun M135 =>
  Option.bind (R 102 4) fun b137 =>
  Option.bind (goWr M135 (b137 + 10) 6 x65 x113) fun M139 =>
  Option.bind (R 102 4) fun b141 =>
  Option.bind (goWr M139 (b141 + 11) 6 x65 x117) fun M143 =>
  Option.bind (R 102 4) fun b145 =>
  goNm (goWI M143 b145 5 ((M143 b145 5) + 1)) fun M147 =>
  some (M147, L123)
noncomputable def fX14_readFears (N : Nat) (M : goMI) (L : goML) (R : goMR) : Option (goMI × goML) :=
  Option.bind (R 102 4) fun b11 =>
  goB2 (fX14_begins N M L R (M b11 6) 8) fun M13 L14 =>
  goB3 (fX14_readKnown N M13 L14 R 2) fun x16 M17 L18 =>
  goB2 (fX14_known N M17 L18 R 1) fun x20 M21 =>
  Option.bind (if (M21 102 9) = 5 then
  some M21
  else
  Option.bind (R 102 4) fun b27 =>
  Option.bind (goRd M21 (b27 + 12) 6 x16) fun x29 =>
  if (fX14_bit x29 x20) = 0 then
  some M21
  else
  Option.bind (fX14_flaw M21 3) fun M32 =>
  some M32) fun M23 =>
  goB2 (fX14_goesOn N M23 L18) fun M34 L35 =>
  if (M34 102 9) = 5 then
  some (M34, L35)
  else
  Option.bind (R 102 4) fun b38 =>
  Option.bind (goRd M34 (b38 + 12) 6 x16) fun x40 =>
  Option.bind (goWr M34 (b38 + 12) 6 x16 (x40 ||| (1 <<< (x20 &&& 31)))) fun M42 =>
  Option.bind (R 102 4) fun b44 =>
  goNm (goWI M42 b44 6 ((M42 b44 6) + 1)) fun M46 =>
  some (M46, L35)
noncomputable def fX14_readPlant (N : Nat) (M : goMI) (L : goML) (R : goMR) : Option (Int32 × goMI × goML) :=
  Option.bind (if (M 102 9) = 2 then
  some M
  else
  Option.bind (fX14_flaw M 1) fun M15 =>
  some M15) fun M11 =>
  Option.bind (if (M11 102 9) = 5 then
  some 0
  else
  Option.bind (goRd M11 104 8 0) fun x21 =>
  some (x21 - 97)) fun x17 =>
  Option.bind (if (M11 102 9) = 5 then
  some M11
  else
  if (M11 102 13) = 1 then
  Option.bind (R 102 4) fun b30 =>
  if (fX14_within x17 0 ((M11 b30 1) - 1)) = 0 then
  Option.bind (fX14_flaw M11 7) fun M33 =>
  some M33
  else
  some M11
  else
  Option.bind (fX14_flaw M11 7) fun M28 =>
  some M28) fun M23 =>
  goB2 (fX14_goesOn N M23 L) fun M35 L36 =>
  some (x17, M35, L36)
noncomputable def fX14_readClue (N : Nat) (M : goMI) (L : goML) (R : goMR) (v1 : Int32) : Option (goMI × goML) :=
  Option.bind (R 102 4) fun b11 =>
  goB2 (fX14_begins N M L R (M b11 7) 10) fun M13 L14 =>
  goB3 (fX14_readKnown N M13 L14 R 2) fun x16 M17 L18 =>
  goB3 (if v1 = 0 then
  goB3 (fX14_readPlant N M17 L18 R) fun x26 M27 L28 =>
  some (x26, M27, L28)
  else
  some (0, M17, L18)) fun x20 M21 L22 =>
  goB3 (fX14_readKnown N M21 L22 R 0) fun x30 M31 L32 =>
  goB3 (if v1 = 0 then
  some (x20, M31, L32)
  else
  Option.bind (R 102 4) fun b40 =>
  goB3 (fX14_readWhole N M31 L32 0 ((M31 b40 0) - 1)) fun x42 M43 L44 =>
  some (x42, M43, L44)) fun x34 M35 L36 =>
  if (M35 102 9) = 5 then
  some (M35, L36)
  else
  Option.bind (R 102 4) fun b47 =>
  goNm (M35 b47 7) fun x49 =>
  Option.bind (R 102 4) fun b51 =>
  Option.bind (goWr M35 (b51 + 13) 10 x49 v1) fun M53 =>
  Option.bind (R 102 4) fun b55 =>
  Option.bind (goWr M53 (b55 + 14) 10 x49 x16) fun M57 =>
  Option.bind (R 102 4) fun b59 =>
  Option.bind (goWr M57 (b59 + 15) 10 x49 x30) fun M61 =>
  Option.bind (R 102 4) fun b63 =>
  Option.bind (goWr M61 (b63 + 16) 10 x49 x34) fun M65 =>
  Option.bind (R 102 4) fun b67 =>
  goNm (goWI M65 b67 7 ((M65 b67 7) + 1)) fun M69 =>
  some (M69, L36)
noncomputable def fX14_readFact (N : Nat) (M : goMI) (L : goML) (R : goMR) : Option (goMI × goML) :=
  Option.bind (R 102 4) fun b11 =>
  goB2 (fX14_begins N M L R (M b11 8) 8) fun M13 L14 =>
  goB3 (fX14_readFresh N M13 L14 R) fun x16 M17 L18 =>
  if (M17 102 9) = 5 then
  some (M17, L18)
  else
  Option.bind (R 102 4) fun b21 =>
  goB2 (fX14_names M17 L18 R x16 3 (M17 b21 8)) fun M23 L24 =>
  Option.bind (R 102 4) fun b26 =>
  goNm (goWI M23 b26 8 ((M23 b26 8) + 1)) fun M28 =>
  some (M28, L24)
noncomputable def fX14_readHolds (N : Nat) (M : goMI) (L : goML) (R : goMR) : Option (goMI × goML) :=
  goB2 (fX14_begins N M L R 0 1) fun M11 L12 =>
  goB2 (fX14_known N M11 L12 R 3) fun x14 M15 =>
  Option.bind (if (M15 102 9) = 5 then
  some M15
  else
  Option.bind (R 102 4) fun b21 =>
  if (fX14_bit (M15 b21 13) x14) = 0 then
  some M15
  else
  Option.bind (fX14_flaw M15 3) fun M24 =>
  some M24) fun M17 =>
  goB2 (fX14_goesOn N M17 L12) fun M26 L27 =>
  if (M26 102 9) = 5 then
  some (M26, L27)
  else
  Option.bind (R 102 4) fun b30 =>
  goNm (goWI M26 b30 13 ((M26 b30 13) ||| (1 <<< (x14 &&& 31)))) fun M32 =>
  some (M32, L27)
noncomputable def lX14_readRule_29 (N : Nat) (v1 : Int32) (R : goMR) : Nat → Int32 → Int32 → goMI → goML → Option (goMI × goML)
  | 0, _, _, _, _ => none
  | n + 1, v2, v3, M, L =>
    if v3 = 0 then
    Option.bind (R 102 4) fun b24 =>
    Option.bind (R 102 4) fun b26 =>
    Option.bind (goWr M (b24 + 17) 8 (M b26 9) v1) fun M28 =>
    Option.bind (R 102 4) fun b30 =>
    Option.bind (R 102 4) fun b32 =>
    Option.bind (goWr M28 (b30 + 18) 8 (M28 b32 9) v2) fun M34 =>
    Option.bind (R 102 4) fun b36 =>
    goNm (goWI M34 b36 9 ((M34 b36 9) + 1)) fun M38 =>
    some (M38, L)
    else
    goB2 (fX14_known N M L R 3) fun x40 M41 =>
    Option.bind (if (M41 102 9) = 5 then
    some M41
    else
    if (fX14_bit v2 x40) = 0 then
    some M41
    else
    Option.bind (fX14_flaw M41 3) fun M48 =>
    some M48) fun M43 =>
    Option.bind (if (M43 102 9) = 5 then
    some M43
    else
    Option.bind (fX14_bits N v2) fun x54 =>
    if x54 = 3 then
    Option.bind (fX14_flaw M43 5) fun M57 =>
    some M57
    else
    some M43) fun M50 =>
    goB2 (fX14_goesOn N M50 L) fun M59 L60 =>
    if (M59 102 9) = 5 then
    some (M59, L60)
    else
    goNm (v2 ||| (1 <<< (x40 &&& 31))) fun x63 =>
    goB3 (fX14_eatsSign N M59 L60 44) fun x65 M66 L67 =>
    lX14_readRule_29 N v1 R n x63 x65 M66 L67
noncomputable def fX14_readRule (N : Nat) (M : goMI) (L : goML) (R : goMR) : Option (goMI × goML) :=
  Option.bind (R 102 4) fun b11 =>
  goB2 (fX14_begins N M L R (M b11 9) 8) fun M13 L14 =>
  goB3 (fX14_readKnown N M13 L14 R 3) fun x16 M17 L18 =>
  goB2 (fX14_wants N M17 L18 1000146) fun M20 L21 =>
  lX14_readRule_29 N x16 R N 0 1 M20 L21
noncomputable def lX14_readProof_13 (N : Nat) (R : goMR) : Nat → Int32 → goMI → goML → Option (goMI × goML)
  | 0, _, _, _ => none
  | n + 1, v1, M, L =>
    if v1 = 0 then
    Option.bind (R 102 4) fun b17 =>
    goNm (goWI M b17 14 1) fun M19 =>
    some (M19, L)
    else
    goB2 (fX14_known N M L R 3) fun x21 M22 =>
    Option.bind (R 102 4) fun b24 =>
    Option.bind (if (M22 b24 10) = 8 then
    Option.bind (fX14_flaw M22 5) fun M30 =>
    some M30
    else
    some M22) fun M26 =>
    goB2 (fX14_goesOn N M26 L) fun M32 L33 =>
    if (M32 102 9) = 5 then
    some (M32, L33)
    else
    Option.bind (R 102 4) fun b36 =>
    Option.bind (R 102 4) fun b38 =>
    Option.bind (goWr M32 (b36 + 19) 8 (M32 b38 10) x21) fun M40 =>
    Option.bind (R 102 4) fun b42 =>
    goNm (goWI M40 b42 10 ((M40 b42 10) + 1)) fun M44 =>
    goB3 (fX14_eatsSign N M44 L33 44) fun x46 M47 L48 =>
    lX14_readProof_13 N R n x46 M47 L48
noncomputable def fX14_readProof (N : Nat) (M : goMI) (L : goML) (R : goMR) : Option (goMI × goML) :=
  Option.bind (R 102 4) fun b11 =>
  goB2 (fX14_beginsOnce N M L R (M b11 14)) fun M13 L14 =>
  lX14_readProof_13 N R N 1 M13 L14
noncomputable def fX14_readCourt (N : Nat) (M : goMI) (L : goML) (R : goMR) : Option (goMI × goML) :=
  Option.bind (R 102 4) fun b11 =>
  goB2 (fX14_begins N M L R (M b11 11) 6) fun M13 L14 =>
  goB3 (fX14_readFresh N M13 L14 R) fun x16 M17 L18 =>
  goB3 (fX14_readPart N M17 L18 1000156 0 99) fun x20 M21 L22 =>
  goB3 (fX14_readPart N M21 L22 1000157 1 9) fun x24 M25 L26 =>
  if (M25 102 9) = 5 then
  some (M25, L26)
  else
  Option.bind (R 102 4) fun b29 =>
  goB2 (fX14_names M25 L26 R x16 4 (M25 b29 11)) fun M31 L32 =>
  Option.bind (R 102 4) fun b34 =>
  Option.bind (R 102 4) fun b36 =>
  Option.bind (goWr M31 (b34 + 20) 6 (M31 b36 11) x20) fun M38 =>
  Option.bind (R 102 4) fun b40 =>
  Option.bind (R 102 4) fun b42 =>
  Option.bind (goWr M38 (b40 + 21) 6 (M38 b42 11) x24) fun M44 =>
  Option.bind (R 102 4) fun b46 =>
  goNm (goWI M44 b46 11 ((M44 b46 11) + 1)) fun M48 =>
  some (M48, L32)
noncomputable def fX14_readCheese (N : Nat) (M : goMI) (L : goML) (R : goMR) : Option (goMI × goML) :=
  Option.bind (R 102 4) fun b11 =>
  goB2 (fX14_beginsOnce N M L R (M b11 15)) fun M13 L14 =>
  Option.bind (R 102 4) fun b16 =>
  goB2 (fX14_readPlants N M13 L14 R (b16 + 22) 4 0 99) fun M18 L19 =>
  if (M18 102 9) = 5 then
  some (M18, L19)
  else
  Option.bind (R 102 4) fun b22 =>
  goNm (goWI M18 b22 15 1) fun M24 =>
  some (M24, L19)
noncomputable def fX14_readLine (N : Nat) (M : goMI) (L : goML) (R : goMR) : Option (goMI × goML) :=
  Option.bind (fX14_isWord N M L 1000130) fun x11 =>
  if x11 = 0 then
  Option.bind (fX14_isWord N M L 1000131) fun x14 =>
  if x14 = 0 then
  Option.bind (fX14_isWord N M L 1000132) fun x17 =>
  if x17 = 0 then
  Option.bind (fX14_isWord N M L 1000133) fun x20 =>
  if x20 = 0 then
  Option.bind (fX14_isWord N M L 1000134) fun x23 =>
  if x23 = 0 then
  Option.bind (fX14_isWord N M L 1000135) fun x26 =>
  if x26 = 0 then
  Option.bind (fX14_isWord N M L 1000136) fun x29 =>
  if x29 = 0 then
  Option.bind (fX14_isWord N M L 1000137) fun x32 =>
  if x32 = 0 then
  Option.bind (fX14_isWord N M L 1000138) fun x35 =>
  if x35 = 0 then
  Option.bind (fX14_isWord N M L 1000139) fun x38 =>
  if x38 = 0 then
  Option.bind (fX14_isWord N M L 1000140) fun x41 =>
  if x41 = 0 then
  Option.bind (fX14_isWord N M L 1000141) fun x44 =>
  if x44 = 0 then
  Option.bind (fX14_isWord N M L 1000142) fun x47 =>
  if x47 = 0 then
  Option.bind (fX14_isWord N M L 1000143) fun x50 =>
  if x50 = 0 then
  Option.bind (fX14_isWord N M L 1000144) fun x53 =>
  if x53 = 0 then
  Option.bind (fX14_isWord N M L 1000145) fun x56 =>
  if x56 = 0 then
  Option.bind (fX14_flaw M 1) fun M59 =>
  some (M59, L)
  else
  goB2 (fX14_readCheese N M L R) fun M61 L62 =>
  some (M61, L62)
  else
  goB2 (fX14_readCourt N M L R) fun M64 L65 =>
  some (M64, L65)
  else
  goB2 (fX14_readProof N M L R) fun M67 L68 =>
  some (M67, L68)
  else
  goB2 (fX14_readRule N M L R) fun M70 L71 =>
  some (M70, L71)
  else
  goB2 (fX14_readHolds N M L R) fun M73 L74 =>
  some (M73, L74)
  else
  goB2 (fX14_readFact N M L R) fun M76 L77 =>
  some (M76, L77)
  else
  goB2 (fX14_readClue N M L R 2) fun M79 L80 =>
  some (M79, L80)
  else
  goB2 (fX14_readClue N M L R 1) fun M82 L83 =>
  some (M82, L83)
  else
  goB2 (fX14_readClue N M L R 0) fun M85 L86 =>
  some (M85, L86)
  else
  goB2 (fX14_readFears N M L R) fun M88 L89 =>
  some (M88, L89)
  else
  goB2 (fX14_readGoat N M L R) fun M91 L92 =>
  some (M91, L92)
  else
  goB2 (fX14_readStory N M L R) fun M94 L95 =>
  some (M94, L95)
  else
  goB2 (fX14_readPerson N M L R) fun M97 L98 =>
  some (M97, L98)
  else
  goB2 (fX14_readPath N M L R) fun M100 L101 =>
  some (M100, L101)
  else
  goB2 (fX14_readPlace N M L R) fun M103 L104 =>
  some (M103, L104)
  else
  goB2 (fX14_readHill N M L R) fun M106 L107 =>
  some (M106, L107)
noncomputable def lX14_readAll_2 (N : Nat) (R : goMR) : Nat → Int32 → goMI → goML → Option (goMI × goML)
  | 0, _, _, _ => none
  | n + 1, v1, M, L =>
    if v1 = 0 then
    some (M, L)
    else
    goB2 (fX14_readLine N M L R) fun M12 L13 =>
    goB3 (fX14_eatsSign N M12 L13 59) fun x15 M16 L17 =>
    lX14_readAll_2 N R n x15 M16 L17
noncomputable def fX14_readAll (N : Nat) (M : goMI) (L : goML) (R : goMR) : Option (goMI × goML) :=
  goB2 (lX14_readAll_2 N R N 1 M L) fun M20 L21 =>
  Option.bind (if (M20 102 9) = 1 then
  some M20
  else
  Option.bind (fX14_flaw M20 1) fun M26 =>
  some M26) fun M22 =>
  Option.bind (R 102 4) fun b28 =>
  if (M22 b28 2) = 0 then
  Option.bind (fX14_flaw M22 6) fun M31 =>
  some (M31, L21)
  else
  some (M22, L21)
noncomputable def lX14_feed_23 (v1 : Int32) (v2 : Int32) (v3 : Int32) (v4 : Int32) (v5 : Int32) : Nat → Int32 → goMI → Option (goMI)
  | 0, _, _ => none
  | n + 1, v6, M =>
    if v6 < 20 then
    goNm (α := Int32) (if v6 < 4 then
    v1
    else
    if v6 < 8 then
    v2
    else
    if v6 < 12 then
    v3
    else
    if v6 < 16 then
    v4
    else
    v5) fun x15 =>
    Option.bind (goWrB M 103 1200 (M 102 6) (Int8.toInt32 (Int32.toInt8 (x15 >>> ((24 - (8 * (v6 - v6 / 4 * 4))) &&& 31))))) fun M22 =>
    goNm (goWI M22 102 6 ((M22 102 6) + 1)) fun M24 =>
    lX14_feed_23 v1 v2 v3 v4 v5 n (v6 + 1) M24
    else
    some M
noncomputable def fX14_feed (N : Nat) (M : goMI) (v1 : Int32) (v2 : Int32) (v3 : Int32) (v4 : Int32) (v5 : Int32) : Option (Int32 × goMI) :=
  goNm (goWI M 102 0 0) fun M11 =>
  if 1200 < ((M11 102 6) + 20) then
  some ((-1), M11)
  else
  Option.bind (lX14_feed_23 v1 v2 v3 v4 v5 N 0 M11) fun M27 =>
  some ((M27 102 6), M27)
noncomputable def lX14_hill_99 : Nat → Int32 → goMI → Option (goMI)
  | 0, _, _ => none
  | n + 1, v2, M =>
    if v2 < 18 then
    Option.bind (goWr M 105 18 v2 0) fun M42 =>
    lX14_hill_99 n (v2 + 1) M42
    else
    some M
noncomputable def fX14_hill (N : Nat) (M : goMI) (L : goML) (R : goMR) (g : Nat) (v1 : Int32) : Option (Int32 × goMI × goML × goMR × Bool) :=
  goNm (goWI M 102 0 0) fun M11 =>
  if 0 ≤ v1 then
  if (M11 102 6) < v1 then
  goB2 (fX14_refused M11 2) fun x63 M64 =>
  some (x63, M64, L, R, false)
  else
  goNm (goWI M11 102 7 v1) fun M18 =>
  goNm (goWI M18 102 6 0) fun M20 =>
  goNm (goWI M20 102 8 0) fun M22 =>
  goNm (goWI M22 102 14 0) fun M24 =>
  goNm (goClr M24 g) fun M26 =>
  goNm (goClL L g) fun L27 =>
  goNm (goWI M26 102 9 0) fun M30 =>
  goB2 (fX14_goesOn N M30 L27) fun M32 L33 =>
  goB2 (fX14_readAll N M32 L33 (goNewR R g)) fun M35 L36 =>
  if 0 < (M35 102 14) then
  goNm (goWI M35 102 1 4) fun M59 =>
  goNm (goWI M59 102 2 (M59 102 15)) fun M61 =>
  some ((-1), M61, L36, (goNewR R g), true)
  else
  Option.bind ((goNewR R g) 102 4) fun b39 =>
  Option.bind (lX14_hill_99 N 0 M35) fun M45 =>
  Option.bind (goWr M45 105 18 17 63) fun M46 =>
  goNm (goWI M46 102 21 0) fun M48 =>
  goNm (goWI M48 102 22 0) fun M50 =>
  Option.bind ((goWR (goNewR R g) 102 3 (some b39)) 102 3) fun b52 =>
  Option.bind (fX13_cases N M50 b52) fun x54 =>
  goB2 (fX14_good M50 x54) fun x56 M57 =>
  some (x56, M57, L36, (goWR (goNewR R g) 102 3 (some b39)), true)
  else
  goB2 (fX14_refused M11 2) fun x14 M15 =>
  some (x14, M15, L, R, false)
noncomputable def fX14_fault (M : goMI) : Option (Int32 × goMI) :=
  goNm (goWI M 102 0 0) fun M11 =>
  some ((M11 102 14), M11)
noncomputable def fX14_where (M : goMI) : Option (Int32 × goMI) :=
  goNm (goWI M 102 0 0) fun M11 =>
  some ((M11 102 2), M11)
noncomputable def fX14_isHeard (M : goMI) (v1 : Int32) : Option (Int32) :=
  Option.bind (goRd M 105 18 17) fun x11 =>
  Option.bind (goZr (fX14_bit x11 v1)) fun x13 =>
  some x13
noncomputable def lX14_fears_37 (N : Nat) (v1 : Int32) (v2 : Int32) (v3 : Int32) (v4 : Int32) (M : goMI) (R : goMR) : Nat → Int32 → Option (Int32)
  | 0, _ => none
  | n + 1, v5 =>
    Option.bind (R 102 3) fun b19 =>
    if v5 < (M b19 4) then
    Option.bind (R 102 3) fun b22 =>
    Option.bind (fX13_placeIn N M b22 v1 v5 v4) fun x24 =>
    if x24 = v3 then
    Option.bind (R 102 3) fun b27 =>
    Option.bind (goRd M (b27 + 6) 6 v2) fun x29 =>
    if x29 = 1 then
    some 1
    else
    Option.bind (R 102 3) fun b32 =>
    Option.bind (goRd M (b32 + 12) 6 v2) fun x34 =>
    if (fX14_bit x34 v5) = 0 then
    lX14_fears_37 N v1 v2 v3 v4 M R n (v5 + 1)
    else
    some 1
    else
    lX14_fears_37 N v1 v2 v3 v4 M R n (v5 + 1)
    else
    some 0
noncomputable def fX14_fears (N : Nat) (M : goMI) (R : goMR) (v1 : Int32) (v2 : Int32) (v3 : Int32) (v4 : Int32) : Option (Int32) :=
  Option.bind (R 102 3) fun b11 =>
  Option.bind (goRd M (b11 + 6) 6 v2) fun x13 =>
  if x13 = 2 then
  some 0
  else
  Option.bind (goRd M 105 18 (8 + v3)) fun x16 =>
  if (fX14_bit x16 v4) = 0 then
  lX14_fears_37 N v1 v2 v3 v4 M R N 0
  else
  some 1
noncomputable def lX14_plantAt_2 (v1 : Int32) (v2 : Int32) (M : goMI) (R : goMR) : Nat → Int32 → Option (Int32)
  | 0, _ => none
  | n + 1, v3 =>
    Option.bind (R 102 3) fun b11 =>
    Option.bind (goRd M (b11 + 8) 6 v1) fun x13 =>
    if v3 < x13 then
    Option.bind (R 102 3) fun b16 =>
    Option.bind (goRd M (b16 + 9) 24 ((4 * v1) + v3)) fun x18 =>
    Option.bind (goRd M 111 32 ((4 * v2) + x18)) fun x20 =>
    if 0 < x20 then
    Option.bind (R 102 3) fun b23 =>
    Option.bind (goRd M (b23 + 9) 24 ((4 * v1) + v3)) fun x25 =>
    some x25
    else
    lX14_plantAt_2 v1 v2 M R n (v3 + 1)
    else
    some (-1)
noncomputable def fX14_plantAt (N : Nat) (M : goMI) (R : goMR) (v1 : Int32) (v2 : Int32) : Option (Int32) :=
  lX14_plantAt_2 v1 v2 M R N 0
noncomputable def lX14_worth_20 (v1 : Int32) (v2 : Int32) (M : goMI) (R : goMR) : Nat → Int32 → Option (Int32)
  | 0, _ => none
  | n + 1, v4 =>
    Option.bind (R 102 3) fun b14 =>
    Option.bind (goRd M (b14 + 8) 6 v1) fun x16 =>
    if v4 < x16 then
    Option.bind (R 102 3) fun b19 =>
    Option.bind (goRd M (b19 + 9) 24 ((4 * v1) + v4)) fun x21 =>
    Option.bind (goRd M 111 32 ((4 * v2) + x21)) fun x23 =>
    if 0 < x23 then
    some (v4 + 1)
    else
    lX14_worth_20 v1 v2 M R n (v4 + 1)
    else
    some 9
noncomputable def fX14_worth (N : Nat) (M : goMI) (R : goMR) (v1 : Int32) (v2 : Int32) (v3 : Int32) : Option (Int32) :=
  Option.bind (goRd M 105 18 (0 + v2)) fun x11 =>
  if (fX14_bit x11 v3) = 0 then
  lX14_worth_20 v1 v2 M R N 0
  else
  some 0
noncomputable def fX14_isOpen (N : Nat) (M : goMI) (R : goMR) (v1 : Int32) (v2 : Int32) : Option (Int32) :=
  Option.bind (R 102 3) fun b11 =>
  Option.bind (fX13_path N M b11 v1 v2) fun x13 =>
  if x13 = (-1) then
  some 0
  else
  Option.bind (goRd M 105 18 16) fun x16 =>
  if (fX14_bit x16 x13) = 0 then
  some 1
  else
  some 0
noncomputable def lX14_bestFor_6 (N : Nat) (v1 : Int32) (v2 : Int32) (v3 : Int32) (M : goMI) (R : goMR) : Nat → Int32 → Int32 → Option (Int32)
  | 0, _, _ => none
  | n + 1, v4, v5 =>
    Option.bind (R 102 3) fun b11 =>
    if v5 < (M b11 2) then
    Option.bind (goRd M 113 6 v2) fun x14 =>
    Option.bind (fX14_isOpen N M R x14 v5) fun x16 =>
    Option.bind (if x16 = 0 then
    some v4
    else
    Option.bind (fX14_fears N M R v1 v2 v5 v3) fun x22 =>
    if x22 = 0 then
    if v4 = (-1) then
    some v5
    else
    Option.bind (fX14_worth N M R v2 v5 v3) fun x26 =>
    Option.bind (fX14_worth N M R v2 v4 v3) fun x28 =>
    if x26 < x28 then
    some v5
    else
    some v4
    else
    some v4) fun x18 =>
    lX14_bestFor_6 N v1 v2 v3 M R n x18 (v5 + 1)
    else
    some v4
noncomputable def fX14_bestFor (N : Nat) (M : goMI) (R : goMR) (v1 : Int32) (v2 : Int32) (v3 : Int32) : Option (Int32) :=
  Option.bind (lX14_bestFor_6 N v1 v2 v3 M R N (-1) 0) fun x32 =>
  some x32
noncomputable def fX14_eats (N : Nat) (M : goMI) (R : goMR) (v1 : Int32) (v2 : Int32) : Option (goMI) :=
  Option.bind (goRd M 113 6 v1) fun x11 =>
  Option.bind (fX14_plantAt N M R v1 x11) fun x13 =>
  Option.bind (goRd M 113 6 v1) fun x15 =>
  Option.bind (goRd M 111 32 ((4 * x15) + x13)) fun x17 =>
  Option.bind (R 102 3) fun b19 =>
  Option.bind (goRd M (b19 + 6) 6 v1) fun x21 =>
  goNm (α := Int32) (if x21 = 2 then
  if 1 < x17 then
  2
  else
  1
  else
  1) fun x23 =>
  Option.bind (goRd M 113 6 v1) fun x28 =>
  Option.bind (goRd M 111 32 ((4 * x28) + x13)) fun x30 =>
  Option.bind (goWr M 111 32 ((4 * x28) + x13) (x30 - x23)) fun M32 =>
  Option.bind (goWr M32 109 72 ((12 * v1) + v2) x13) fun M34 =>
  Option.bind (goWr M34 110 72 ((12 * v1) + v2) x23) fun M36 =>
  some M36
noncomputable def fX14_goatGoes (N : Nat) (M : goMI) (R : goMR) (v1 : Int32) (v2 : Int32) (v3 : Int32) : Option (goMI) :=
  Option.bind (R 102 3) fun b11 =>
  Option.bind (goRd M (b11 + 7) 6 v2) fun x13 =>
  if x13 = (-2) then
  Option.bind (fX14_bestFor N M R v1 v2 v3) fun x16 =>
  Option.bind (goRd M 113 6 v2) fun x18 =>
  Option.bind (fX14_fears N M R v1 v2 x18 v3) fun x20 =>
  if x20 = 0 then
  Option.bind (goRd M 113 6 v2) fun x23 =>
  Option.bind (fX14_worth N M R v2 x23 v3) fun x25 =>
  if x25 = 0 then
  some M
  else
  if x16 = (-1) then
  if x25 < 9 then
  Option.bind (fX14_eats N M R v2 v3) fun M36 =>
  some M36
  else
  if x16 = (-1) then
  some M
  else
  Option.bind (fX14_worth N M R v2 x16 v3) fun x31 =>
  if x31 < 9 then
  Option.bind (goWr M 113 6 v2 x16) fun M34 =>
  some M34
  else
  some M
  else
  Option.bind (fX14_worth N M R v2 x16 v3) fun x38 =>
  if x38 = 0 then
  Option.bind (goWr M 113 6 v2 x16) fun M50 =>
  some M50
  else
  if x25 < 9 then
  Option.bind (fX14_eats N M R v2 v3) fun M48 =>
  some M48
  else
  if x16 = (-1) then
  some M
  else
  Option.bind (fX14_worth N M R v2 x16 v3) fun x43 =>
  if x43 < 9 then
  Option.bind (goWr M 113 6 v2 x16) fun M46 =>
  some M46
  else
  some M
  else
  if x16 = (-1) then
  some M
  else
  Option.bind (goWr M 113 6 v2 x16) fun M53 =>
  Option.bind (goRd M53 112 6 v2) fun x55 =>
  Option.bind (goWr M53 112 6 v2 (x55 + 1)) fun M57 =>
  some M57
  else
  Option.bind (goRd M 113 6 x13) fun x59 =>
  Option.bind (goRd M 113 6 v2) fun x61 =>
  if x59 = x61 then
  Option.bind (fX14_bestFor N M R v1 v2 v3) fun x64 =>
  Option.bind (goRd M 113 6 v2) fun x66 =>
  Option.bind (fX14_fears N M R v1 v2 x66 v3) fun x68 =>
  if x68 = 0 then
  Option.bind (goRd M 113 6 v2) fun x71 =>
  Option.bind (fX14_worth N M R v2 x71 v3) fun x73 =>
  if x73 = 0 then
  some M
  else
  if x64 = (-1) then
  if x73 < 9 then
  Option.bind (fX14_eats N M R v2 v3) fun M84 =>
  some M84
  else
  if x64 = (-1) then
  some M
  else
  Option.bind (fX14_worth N M R v2 x64 v3) fun x79 =>
  if x79 < 9 then
  Option.bind (goWr M 113 6 v2 x64) fun M82 =>
  some M82
  else
  some M
  else
  Option.bind (fX14_worth N M R v2 x64 v3) fun x86 =>
  if x86 = 0 then
  Option.bind (goWr M 113 6 v2 x64) fun M98 =>
  some M98
  else
  if x73 < 9 then
  Option.bind (fX14_eats N M R v2 v3) fun M96 =>
  some M96
  else
  if x64 = (-1) then
  some M
  else
  Option.bind (fX14_worth N M R v2 x64 v3) fun x91 =>
  if x91 < 9 then
  Option.bind (goWr M 113 6 v2 x64) fun M94 =>
  some M94
  else
  some M
  else
  if x64 = (-1) then
  some M
  else
  Option.bind (goWr M 113 6 v2 x64) fun M101 =>
  Option.bind (goRd M101 112 6 v2) fun x103 =>
  Option.bind (goWr M101 112 6 v2 (x103 + 1)) fun M105 =>
  some M105
  else
  Option.bind (goRd M 113 6 v2) fun x107 =>
  Option.bind (goRd M 113 6 x13) fun x109 =>
  Option.bind (fX14_isOpen N M R x107 x109) fun x111 =>
  if x111 = 0 then
  Option.bind (fX14_bestFor N M R v1 v2 v3) fun x114 =>
  Option.bind (goRd M 113 6 v2) fun x116 =>
  Option.bind (fX14_fears N M R v1 v2 x116 v3) fun x118 =>
  if x118 = 0 then
  Option.bind (goRd M 113 6 v2) fun x121 =>
  Option.bind (fX14_worth N M R v2 x121 v3) fun x123 =>
  if x123 = 0 then
  some M
  else
  if x114 = (-1) then
  if x123 < 9 then
  Option.bind (fX14_eats N M R v2 v3) fun M134 =>
  some M134
  else
  if x114 = (-1) then
  some M
  else
  Option.bind (fX14_worth N M R v2 x114 v3) fun x129 =>
  if x129 < 9 then
  Option.bind (goWr M 113 6 v2 x114) fun M132 =>
  some M132
  else
  some M
  else
  Option.bind (fX14_worth N M R v2 x114 v3) fun x136 =>
  if x136 = 0 then
  Option.bind (goWr M 113 6 v2 x114) fun M148 =>
  some M148
  else
  if x123 < 9 then
  Option.bind (fX14_eats N M R v2 v3) fun M146 =>
  some M146
  else
  if x114 = (-1) then
  some M
  else
  Option.bind (fX14_worth N M R v2 x114 v3) fun x141 =>
  if x141 < 9 then
  Option.bind (goWr M 113 6 v2 x114) fun M144 =>
  some M144
  else
  some M
  else
  if x114 = (-1) then
  some M
  else
  Option.bind (goWr M 113 6 v2 x114) fun M151 =>
  Option.bind (goRd M151 112 6 v2) fun x153 =>
  Option.bind (goWr M151 112 6 v2 (x153 + 1)) fun M155 =>
  some M155
  else
  Option.bind (goRd M 113 6 x13) fun x157 =>
  Option.bind (goWr M 113 6 v2 x157) fun M159 =>
  some M159
noncomputable def lX14_day_2 (R : goMR) : Nat → Int32 → goMI → Option (goMI)
  | 0, _, _ => none
  | n + 1, v2, M =>
    if v2 < 32 then
    Option.bind (R 102 3) fun b12 =>
    Option.bind (goRd M (b12 + 1) 32 v2) fun x14 =>
    Option.bind (goWr M 111 32 v2 x14) fun M16 =>
    lX14_day_2 R n (v2 + 1) M16
    else
    some M
noncomputable def lX14_day_61 (v2 : Int32) : Nat → Int32 → goMI → Option (goMI)
  | 0, _, _ => none
  | n + 1, v3, M =>
    if v3 < 12 then
    Option.bind (goWr M 110 72 ((12 * v2) + v3) 0) fun M30 =>
    lX14_day_61 v2 n (v3 + 1) M30
    else
    some M
noncomputable def lX14_day_31 (N : Nat) (R : goMR) : Nat → Int32 → goMI → Option (goMI)
  | 0, _, _ => none
  | n + 1, v2, M =>
    if v2 < 6 then
    Option.bind (goWr M 112 6 v2 0) fun M21 =>
    Option.bind (R 102 3) fun b23 =>
    Option.bind (goRd M21 (b23 + 10) 6 v2) fun x25 =>
    Option.bind (goWr M21 113 6 v2 x25) fun M27 =>
    Option.bind (lX14_day_61 v2 N 0 M27) fun M33 =>
    lX14_day_31 N R n (v2 + 1) M33
    else
    some M
noncomputable def lX14_day_106 (N : Nat) (v1 : Int32) (v2 : Int32) (R : goMR) : Nat → Int32 → goMI → Option (goMI)
  | 0, _, _ => none
  | n + 1, v3, M =>
    Option.bind (R 102 3) fun b39 =>
    if v3 < (M b39 5) then
    Option.bind (fX14_goatGoes N M R v1 v3 v2) fun M42 =>
    Option.bind (goRd M42 113 6 v3) fun x44 =>
    Option.bind (goWr M42 108 72 ((12 * v3) + v2) x44) fun M46 =>
    lX14_day_106 N v1 v2 R n (v3 + 1) M46
    else
    some M
noncomputable def lX14_day_93 (N : Nat) (v1 : Int32) (R : goMR) : Nat → Int32 → goMI → Option (goMI)
  | 0, _, _ => none
  | n + 1, v2, M =>
    Option.bind (R 102 3) fun b36 =>
    if v2 < (M b36 0) then
    Option.bind (lX14_day_106 N v1 v2 R N 0 M) fun M49 =>
    lX14_day_93 N v1 R n (v2 + 1) M49
    else
    some M
noncomputable def fX14_day (N : Nat) (M : goMI) (R : goMR) (v1 : Int32) : Option (goMI) :=
  Option.bind (lX14_day_2 R N 0 M) fun M19 =>
  Option.bind (lX14_day_31 N R N 0 M19) fun M35 =>
  Option.bind (lX14_day_93 N v1 R N 0 M35) fun M51 =>
  some M51
noncomputable def lX14_dropped_6 (v1 : Int32) (v2 : Int32) (v3 : Int32) (M : goMI) (R : goMR) : Nat → Int32 → Int32 → Option (Int32)
  | 0, _, _ => none
  | n + 1, v4, v5 =>
    Option.bind (R 102 3) fun b11 =>
    if (v5 + 2) < (M b11 0) then
    Option.bind (goRd M 110 72 ((12 * v1) + v5)) fun x14 =>
    Option.bind (if 0 < x14 then
    Option.bind (goRd M 109 72 ((12 * v1) + v5)) fun x20 =>
    if x20 = v2 then
    Option.bind (goRd M 108 72 (((12 * v1) + v5) + 2)) fun x23 =>
    if x23 = v3 then
    Option.bind (goRd M 110 72 ((12 * v1) + v5)) fun x26 =>
    some x26
    else
    some 0
    else
    some 0
    else
    some 0) fun x16 =>
    goNm (v4 + x16) fun x28 =>
    lX14_dropped_6 v1 v2 v3 M R n x28 (v5 + 1)
    else
    some v4
noncomputable def fX14_dropped (N : Nat) (M : goMI) (R : goMR) (v1 : Int32) (v2 : Int32) (v3 : Int32) : Option (Int32) :=
  Option.bind (lX14_dropped_6 v1 v2 v3 M R N 0 0) fun x31 =>
  some x31
noncomputable def lX14_ateOf_5 (v1 : Int32) (v2 : Int32) (M : goMI) (R : goMR) : Nat → Int32 → Int32 → Option (Int32)
  | 0, _, _ => none
  | n + 1, v3, v4 =>
    Option.bind (R 102 3) fun b11 =>
    if v4 < (M b11 0) then
    Option.bind (goRd M 110 72 ((12 * v1) + v4)) fun x14 =>
    Option.bind (if 0 < x14 then
    Option.bind (goRd M 109 72 ((12 * v1) + v4)) fun x20 =>
    if x20 = v2 then
    Option.bind (goRd M 110 72 ((12 * v1) + v4)) fun x23 =>
    some x23
    else
    some 0
    else
    some 0) fun x16 =>
    goNm (v3 + x16) fun x25 =>
    lX14_ateOf_5 v1 v2 M R n x25 (v4 + 1)
    else
    some v3
noncomputable def fX14_ateOf (N : Nat) (M : goMI) (R : goMR) (v1 : Int32) (v2 : Int32) : Option (Int32) :=
  Option.bind (lX14_ateOf_5 v1 v2 M R N 0 0) fun x28 =>
  some x28
noncomputable def fX14_holdsNow (N : Nat) (M : goMI) (R : goMR) (v1 : Int32) : Option (Int32) :=
  Option.bind (R 102 3) fun b11 =>
  Option.bind (goRd M (b11 + 14) 10 v1) fun x13 =>
  Option.bind (R 102 3) fun b15 =>
  Option.bind (goRd M (b15 + 13) 10 v1) fun x17 =>
  if x17 = 0 then
  Option.bind (R 102 3) fun b43 =>
  Option.bind (goRd M (b43 + 16) 10 v1) fun x45 =>
  Option.bind (R 102 3) fun b47 =>
  Option.bind (goRd M (b47 + 15) 10 v1) fun x49 =>
  Option.bind (fX14_dropped N M R x13 x45 x49) fun x51 =>
  if 0 < x51 then
  some 1
  else
  some 0
  else
  Option.bind (R 102 3) fun b20 =>
  Option.bind (goRd M (b20 + 16) 10 v1) fun x22 =>
  Option.bind (goRd M 108 72 ((12 * x13) + x22)) fun x24 =>
  Option.bind (R 102 3) fun b26 =>
  Option.bind (goRd M (b26 + 15) 10 v1) fun x28 =>
  goNm (α := Int32) (if x24 = x28 then
  1
  else
  0) fun x30 =>
  Option.bind (R 102 3) fun b34 =>
  Option.bind (goRd M (b34 + 13) 10 v1) fun x36 =>
  goNm (α := Int32) (if x36 = 1 then
  1
  else
  0) fun x38 =>
  if x30 = x38 then
  some 1
  else
  some 0
noncomputable def lX14_laysHonest_28 (N : Nat) (v1 : Int32) (R : goMR) : Nat → Int32 → goMI → Option (goMI)
  | 0, _, _ => none
  | n + 1, v2, M =>
    Option.bind (R 102 3) fun b20 =>
    if v2 < (M b20 7) then
    Option.bind (fX14_holdsNow N M R v2) fun x23 =>
    Option.bind (if x23 = 0 then
    Option.bind (goRd M 114 81 v1) fun x29 =>
    Option.bind (R 102 3) fun b31 =>
    Option.bind (goRd M (b31 + 14) 10 v2) fun x33 =>
    Option.bind (goWr M 114 81 v1 (x29 &&& ((1 <<< (x33 &&& 31)) ^^^ (-1)))) fun M35 =>
    some M35
    else
    some M) fun M25 =>
    lX14_laysHonest_28 N v1 R n (v2 + 1) M25
    else
    some M
noncomputable def lX14_laysHonest_2 (N : Nat) (R : goMR) : Nat → Int32 → goMI → Option (goMI)
  | 0, _, _ => none
  | n + 1, v1, M =>
    Option.bind (R 102 3) fun b11 =>
    Option.bind (fX13_cases N M b11) fun x13 =>
    if v1 < x13 then
    Option.bind (fX14_day N M R v1) fun M16 =>
    Option.bind (goWr M16 114 81 v1 63) fun M18 =>
    Option.bind (lX14_laysHonest_28 N v1 R N 0 M18) fun M38 =>
    lX14_laysHonest_2 N R n (v1 + 1) M38
    else
    some M
noncomputable def fX14_laysHonest (N : Nat) (M : goMI) (R : goMR) : Option (goMI) :=
  Option.bind (lX14_laysHonest_2 N R N 0 M) fun M40 =>
  some M40
noncomputable def fX14_areTrue (M : goMI) (v1 : Int32) (v2 : Int32) : Option (Int32) :=
  Option.bind (goRd M 114 81 v1) fun x11 =>
  if (v2 &&& (x11 ^^^ (-1))) = 0 then
  some 1
  else
  some 0
noncomputable def fX14_allGoats (M : goMI) (R : goMR) : Option (Int32) :=
  Option.bind (R 102 3) fun b11 =>
  some ((1 <<< ((M b11 5) &&& 31)) - 1)
noncomputable def fX14_heard (M : goMI) (R : goMR) : Option (Int32) :=
  Option.bind (goRd M 105 18 17) fun x11 =>
  Option.bind (fX14_allGoats M R) fun x13 =>
  some (x11 &&& x13)
noncomputable def fX14_isPlace (M : goMI) (R : goMR) (v1 : Int32) : Option (Int32) :=
  if R 102 3 = none then
  some 0
  else
  if 0 ≤ v1 then
  Option.bind (R 102 3) fun b13 =>
  if v1 < (M b13 2) then
  some 1
  else
  some 0
  else
  some 0
noncomputable def fX14_isPlant (M : goMI) (R : goMR) (v1 : Int32) : Option (Int32) :=
  if R 102 3 = none then
  some 0
  else
  if 0 ≤ v1 then
  Option.bind (R 102 3) fun b13 =>
  if v1 < (M b13 1) then
  some 1
  else
  some 0
  else
  some 0
noncomputable def fX14_isPerson (M : goMI) (R : goMR) (v1 : Int32) : Option (Int32) :=
  if R 102 3 = none then
  some 0
  else
  if 0 ≤ v1 then
  Option.bind (R 102 3) fun b13 =>
  if v1 < (M b13 4) then
  some 1
  else
  some 0
  else
  some 0
noncomputable def fX14_isGoat (M : goMI) (R : goMR) (v1 : Int32) : Option (Int32) :=
  if R 102 3 = none then
  some 0
  else
  if 0 ≤ v1 then
  Option.bind (R 102 3) fun b13 =>
  if v1 < (M b13 5) then
  some 1
  else
  some 0
  else
  some 0
noncomputable def fX14_isClue (M : goMI) (R : goMR) (v1 : Int32) : Option (Int32) :=
  if R 102 3 = none then
  some 0
  else
  if 0 ≤ v1 then
  Option.bind (R 102 3) fun b13 =>
  if v1 < (M b13 7) then
  some 1
  else
  some 0
  else
  some 0
noncomputable def fX14_isCase (N : Nat) (M : goMI) (R : goMR) (v1 : Int32) : Option (Int32) :=
  if R 102 3 = none then
  some 0
  else
  if 0 ≤ v1 then
  Option.bind (R 102 3) fun b13 =>
  Option.bind (fX13_cases N M b13) fun x15 =>
  if v1 < x15 then
  some 1
  else
  some 0
  else
  some 0
noncomputable def fX14_isFact (M : goMI) (R : goMR) (v1 : Int32) : Option (Int32) :=
  if R 102 3 = none then
  some 0
  else
  if 0 ≤ v1 then
  Option.bind (R 102 3) fun b13 =>
  if v1 < (M b13 8) then
  some 1
  else
  some 0
  else
  some 0
noncomputable def fX14_isHour (M : goMI) (R : goMR) (v1 : Int32) : Option (Int32) :=
  if 0 ≤ v1 then
  Option.bind (R 102 3) fun b12 =>
  if v1 < (M b12 0) then
  some 1
  else
  some 0
  else
  some 0
noncomputable def fX14_plants (M : goMI) (R : goMR) (v1 : Int32) (v2 : Int32) : Option (Int32 × goMI) :=
  goNm (goWI M 102 0 0) fun M11 =>
  Option.bind (fX14_isPlace M11 R v1) fun x13 =>
  if x13 = 0 then
  goB2 (fX14_refused M11 1) fun x16 M17 =>
  some (x16, M17)
  else
  Option.bind (fX14_isPlant M11 R v2) fun x19 =>
  if x19 = 0 then
  goB2 (fX14_refused M11 1) fun x22 M23 =>
  some (x22, M23)
  else
  Option.bind (R 102 3) fun b25 =>
  Option.bind (goRd M11 (b25 + 1) 32 ((4 * v1) + v2)) fun x27 =>
  goB2 (fX14_good M11 x27) fun x29 M30 =>
  some (x29, M30)
noncomputable def lX14_near_23 (N : Nat) (v1 : Int32) (M : goMI) (R : goMR) : Nat → Int32 → Int32 → Option (Int32)
  | 0, _, _ => none
  | n + 1, v2, v3 =>
    Option.bind (R 102 3) fun b16 =>
    if v3 < (M b16 2) then
    Option.bind (R 102 3) fun b19 =>
    Option.bind (fX13_path N M b19 v1 v3) fun x21 =>
    goNm (α := Int32) (if x21 = (-1) then
    0
    else
    (1 <<< (v3 &&& 31))) fun x23 =>
    goNm (v2 ||| x23) fun x27 =>
    lX14_near_23 N v1 M R n x27 (v3 + 1)
    else
    some v2
noncomputable def fX14_near (N : Nat) (M : goMI) (R : goMR) (v1 : Int32) : Option (Int32 × goMI) :=
  goNm (goWI M 102 0 0) fun M11 =>
  Option.bind (fX14_isPlace M11 R v1) fun x13 =>
  if x13 = 0 then
  goB2 (fX14_refused M11 1) fun x34 M35 =>
  some (x34, M35)
  else
  Option.bind (lX14_near_23 N v1 M11 R N 0 0) fun x30 =>
  goB2 (fX14_good M11 x30) fun x31 M32 =>
  some (x31, M32)
noncomputable def lX14_goat_34 (v1 : Int32) (M : goMI) (R : goMR) : Nat → Int32 → Int32 → Option (Int32)
  | 0, _, _ => none
  | n + 1, v3, v4 =>
    Option.bind (R 102 3) fun b20 =>
    if v4 < (M b20 7) then
    Option.bind (R 102 3) fun b23 =>
    Option.bind (goRd M (b23 + 14) 10 v4) fun x25 =>
    goNm (α := Int32) (if x25 = v1 then
    1
    else
    0) fun x27 =>
    goNm (v3 + x27) fun x31 =>
    lX14_goat_34 v1 M R n x31 (v4 + 1)
    else
    some v3
noncomputable def fX14_goat (N : Nat) (M : goMI) (R : goMR) (v1 : Int32) (v2 : Int32) : Option (Int32 × goMI) :=
  goNm (goWI M 102 0 0) fun M11 =>
  Option.bind (fX14_isGoat M11 R v1) fun x13 =>
  if x13 = 0 then
  goB2 (fX14_refused M11 1) fun x16 M17 =>
  some (x16, M17)
  else
  if (fX14_within v2 0 6) = 0 then
  goB2 (fX14_refused M11 1) fun x89 M90 =>
  some (x89, M90)
  else
  Option.bind (lX14_goat_34 v1 M11 R N 0 0) fun x34 =>
  if v2 = 0 then
  Option.bind (R 102 3) fun b37 =>
  Option.bind (goRd M11 (b37 + 6) 6 v1) fun x39 =>
  goB2 (fX14_good M11 x39) fun x41 M42 =>
  some (x41, M42)
  else
  if v2 = 1 then
  Option.bind (R 102 3) fun b45 =>
  Option.bind (goRd M11 (b45 + 7) 6 v1) fun x47 =>
  goB2 (fX14_good M11 x47) fun x49 M50 =>
  some (x49, M50)
  else
  if v2 = 2 then
  Option.bind (R 102 3) fun b53 =>
  Option.bind (goRd M11 (b53 + 10) 6 v1) fun x55 =>
  goB2 (fX14_good M11 x55) fun x57 M58 =>
  some (x57, M58)
  else
  if v2 = 3 then
  Option.bind (R 102 3) fun b61 =>
  Option.bind (goRd M11 (b61 + 11) 6 v1) fun x63 =>
  goB2 (fX14_good M11 x63) fun x65 M66 =>
  some (x65, M66)
  else
  if v2 = 4 then
  Option.bind (R 102 3) fun b69 =>
  Option.bind (goRd M11 (b69 + 12) 6 v1) fun x71 =>
  goB2 (fX14_good M11 x71) fun x73 M74 =>
  some (x73, M74)
  else
  if v2 = 5 then
  goB2 (fX14_good M11 x34) fun x77 M78 =>
  some (x77, M78)
  else
  Option.bind (fX14_isHeard M11 v1) fun x80 =>
  goNm (α := Int32) (if x80 = 0 then
  0
  else
  1) fun x82 =>
  goB2 (fX14_good M11 x82) fun x86 M87 =>
  some (x86, M87)
noncomputable def fX14_likes (M : goMI) (R : goMR) (v1 : Int32) (v2 : Int32) : Option (Int32 × goMI) :=
  goNm (goWI M 102 0 0) fun M11 =>
  Option.bind (fX14_isGoat M11 R v1) fun x13 =>
  if x13 = 0 then
  goB2 (fX14_refused M11 1) fun x16 M17 =>
  some (x16, M17)
  else
  if 0 ≤ v2 then
  Option.bind (R 102 3) fun b23 =>
  Option.bind (goRd M11 (b23 + 8) 6 v1) fun x25 =>
  if v2 < x25 then
  Option.bind (R 102 3) fun b31 =>
  Option.bind (goRd M11 (b31 + 9) 24 ((4 * v1) + v2)) fun x33 =>
  goB2 (fX14_good M11 x33) fun x35 M36 =>
  some (x35, M36)
  else
  goB2 (fX14_refused M11 1) fun x28 M29 =>
  some (x28, M29)
  else
  goB2 (fX14_refused M11 1) fun x20 M21 =>
  some (x20, M21)
noncomputable def fX14_clue (M : goMI) (R : goMR) (v1 : Int32) (v2 : Int32) : Option (Int32 × goMI) :=
  goNm (goWI M 102 0 0) fun M11 =>
  Option.bind (fX14_isClue M11 R v1) fun x13 =>
  if x13 = 0 then
  goB2 (fX14_refused M11 1) fun x16 M17 =>
  some (x16, M17)
  else
  if (fX14_within v2 0 3) = 0 then
  goB2 (fX14_refused M11 1) fun x45 M46 =>
  some (x45, M46)
  else
  Option.bind (if v2 = 0 then
  Option.bind (R 102 3) fun b38 =>
  Option.bind (goRd M11 (b38 + 13) 10 v1) fun x40 =>
  some x40
  else
  if v2 = 1 then
  Option.bind (R 102 3) fun b34 =>
  Option.bind (goRd M11 (b34 + 14) 10 v1) fun x36 =>
  some x36
  else
  if v2 = 2 then
  Option.bind (R 102 3) fun b30 =>
  Option.bind (goRd M11 (b30 + 15) 10 v1) fun x32 =>
  some x32
  else
  Option.bind (R 102 3) fun b26 =>
  Option.bind (goRd M11 (b26 + 16) 10 v1) fun x28 =>
  some x28) fun x20 =>
  goB2 (fX14_good M11 x20) fun x42 M43 =>
  some (x42, M43)
noncomputable def fX14_story (M : goMI) (R : goMR) (v1 : Int32) (v2 : Int32) (v3 : Int32) : Option (Int32 × goMI) :=
  goNm (goWI M 102 0 0) fun M11 =>
  Option.bind (fX14_isPerson M11 R v1) fun x13 =>
  if x13 = 0 then
  goB2 (fX14_refused M11 1) fun x16 M17 =>
  some (x16, M17)
  else
  if 0 ≤ v2 then
  Option.bind (R 102 3) fun b23 =>
  Option.bind (goRd M11 (b23 + 4) 4 v1) fun x25 =>
  if x25 ≤ v2 then
  goB2 (fX14_refused M11 1) fun x41 M42 =>
  some (x41, M42)
  else
  Option.bind (fX14_isHour M11 R v3) fun x28 =>
  if x28 = 0 then
  goB2 (fX14_refused M11 2) fun x31 M32 =>
  some (x31, M32)
  else
  Option.bind (R 102 3) fun b34 =>
  Option.bind (fX13_place M11 b34 v1 v2 v3) fun x36 =>
  goB2 (fX14_good M11 x36) fun x38 M39 =>
  some (x38, M39)
  else
  goB2 (fX14_refused M11 1) fun x20 M21 =>
  some (x20, M21)
noncomputable def fX14_stories (M : goMI) (R : goMR) (v1 : Int32) : Option (Int32 × goMI) :=
  goNm (goWI M 102 0 0) fun M11 =>
  Option.bind (fX14_isPerson M11 R v1) fun x13 =>
  if x13 = 0 then
  goB2 (fX14_refused M11 1) fun x16 M17 =>
  some (x16, M17)
  else
  Option.bind (R 102 3) fun b19 =>
  Option.bind (goRd M11 (b19 + 4) 4 v1) fun x21 =>
  goB2 (fX14_good M11 x21) fun x23 M24 =>
  some (x23, M24)
noncomputable def fX14_caseOf (N : Nat) (M : goMI) (R : goMR) (v1 : Int32) (v2 : Int32) : Option (Int32 × goMI) :=
  goNm (goWI M 102 0 0) fun M11 =>
  Option.bind (fX14_isCase N M11 R v1) fun x13 =>
  if x13 = 0 then
  goB2 (fX14_refused M11 1) fun x16 M17 =>
  some (x16, M17)
  else
  Option.bind (fX14_isPerson M11 R v2) fun x19 =>
  if x19 = 0 then
  goB2 (fX14_refused M11 1) fun x22 M23 =>
  some (x22, M23)
  else
  Option.bind (R 102 3) fun b25 =>
  Option.bind (fX13_storyOf N M11 b25 v1 v2) fun x27 =>
  goB2 (fX14_good M11 x27) fun x29 M30 =>
  some (x29, M30)
noncomputable def fX14_at (N : Nat) (M : goMI) (R : goMR) (v1 : Int32) (v2 : Int32) (v3 : Int32) : Option (Int32 × goMI) :=
  goNm (goWI M 102 0 0) fun M11 =>
  Option.bind (fX14_isCase N M11 R v1) fun x13 =>
  if x13 = 0 then
  goB2 (fX14_refused M11 1) fun x16 M17 =>
  some (x16, M17)
  else
  Option.bind (fX14_isGoat M11 R v2) fun x19 =>
  if x19 = 0 then
  goB2 (fX14_refused M11 1) fun x35 M36 =>
  some (x35, M36)
  else
  Option.bind (fX14_isHour M11 R v3) fun x22 =>
  if x22 = 0 then
  goB2 (fX14_refused M11 2) fun x32 M33 =>
  some (x32, M33)
  else
  Option.bind (fX14_day N M11 R v1) fun M25 =>
  Option.bind (goRd M25 108 72 ((12 * v2) + v3)) fun x27 =>
  goB2 (fX14_good M25 x27) fun x29 M30 =>
  some (x29, M30)
noncomputable def fX14_ate (N : Nat) (M : goMI) (R : goMR) (v1 : Int32) (v2 : Int32) (v3 : Int32) : Option (Int32 × goMI) :=
  goNm (goWI M 102 0 0) fun M11 =>
  Option.bind (fX14_isCase N M11 R v1) fun x13 =>
  if x13 = 0 then
  goB2 (fX14_refused M11 1) fun x16 M17 =>
  some (x16, M17)
  else
  Option.bind (fX14_isGoat M11 R v2) fun x19 =>
  if x19 = 0 then
  goB2 (fX14_refused M11 1) fun x22 M23 =>
  some (x22, M23)
  else
  Option.bind (fX14_isPlant M11 R v3) fun x25 =>
  if x25 = 0 then
  goB2 (fX14_refused M11 1) fun x35 M36 =>
  some (x35, M36)
  else
  Option.bind (fX14_day N M11 R v1) fun M28 =>
  Option.bind (fX14_ateOf N M28 R v2 v3) fun x30 =>
  goB2 (fX14_good M28 x30) fun x32 M33 =>
  some (x32, M33)
noncomputable def fX14_drops (N : Nat) (M : goMI) (R : goMR) (v1 : Int32) (v2 : Int32) (v3 : Int32) (v4 : Int32) : Option (Int32 × goMI) :=
  goNm (goWI M 102 0 0) fun M11 =>
  Option.bind (fX14_isCase N M11 R v1) fun x13 =>
  if x13 = 0 then
  goB2 (fX14_refused M11 1) fun x16 M17 =>
  some (x16, M17)
  else
  Option.bind (fX14_isGoat M11 R v2) fun x19 =>
  if x19 = 0 then
  goB2 (fX14_refused M11 1) fun x22 M23 =>
  some (x22, M23)
  else
  Option.bind (fX14_isPlant M11 R v3) fun x25 =>
  if x25 = 0 then
  goB2 (fX14_refused M11 1) fun x28 M29 =>
  some (x28, M29)
  else
  Option.bind (fX14_isPlace M11 R v4) fun x31 =>
  if x31 = 0 then
  goB2 (fX14_refused M11 1) fun x41 M42 =>
  some (x41, M42)
  else
  Option.bind (fX14_day N M11 R v1) fun M34 =>
  Option.bind (fX14_dropped N M34 R v2 v3 v4) fun x36 =>
  goB2 (fX14_good M34 x36) fun x38 M39 =>
  some (x38, M39)
noncomputable def fX14_flees (N : Nat) (M : goMI) (R : goMR) (v1 : Int32) (v2 : Int32) : Option (Int32 × goMI) :=
  goNm (goWI M 102 0 0) fun M11 =>
  Option.bind (fX14_isCase N M11 R v1) fun x13 =>
  if x13 = 0 then
  goB2 (fX14_refused M11 1) fun x16 M17 =>
  some (x16, M17)
  else
  Option.bind (fX14_isGoat M11 R v2) fun x19 =>
  if x19 = 0 then
  goB2 (fX14_refused M11 1) fun x29 M30 =>
  some (x29, M30)
  else
  Option.bind (fX14_day N M11 R v1) fun M22 =>
  Option.bind (goRd M22 112 6 v2) fun x24 =>
  goB2 (fX14_good M22 x24) fun x26 M27 =>
  some (x26, M27)
noncomputable def fX14_left (N : Nat) (M : goMI) (R : goMR) (v1 : Int32) (v2 : Int32) (v3 : Int32) : Option (Int32 × goMI) :=
  goNm (goWI M 102 0 0) fun M11 =>
  Option.bind (fX14_isCase N M11 R v1) fun x13 =>
  if x13 = 0 then
  goB2 (fX14_refused M11 1) fun x16 M17 =>
  some (x16, M17)
  else
  Option.bind (fX14_isPlace M11 R v2) fun x19 =>
  if x19 = 0 then
  goB2 (fX14_refused M11 1) fun x22 M23 =>
  some (x22, M23)
  else
  Option.bind (fX14_isPlant M11 R v3) fun x25 =>
  if x25 = 0 then
  goB2 (fX14_refused M11 1) fun x35 M36 =>
  some (x35, M36)
  else
  Option.bind (fX14_day N M11 R v1) fun M28 =>
  Option.bind (goRd M28 111 32 ((4 * v2) + v3)) fun x30 =>
  goB2 (fX14_good M28 x30) fun x32 M33 =>
  some (x32, M33)
noncomputable def lX14_met_46 (N : Nat) (v1 : Int32) (v2 : Int32) (v3 : Int32) (M : goMI) (R : goMR) : Nat → Int32 → Int32 → Option (Int32)
  | 0, _, _ => none
  | n + 1, v4, v5 =>
    Option.bind (R 102 3) fun b30 =>
    if v5 < (M b30 0) then
    Option.bind (R 102 3) fun b33 =>
    Option.bind (fX13_placeIn N M b33 v1 v3 v5) fun x35 =>
    Option.bind (goRd M 108 72 ((12 * v2) + v5)) fun x37 =>
    goNm (α := Int32) (if x35 = x37 then
    1
    else
    0) fun x39 =>
    goNm (v4 + x39) fun x43 =>
    lX14_met_46 N v1 v2 v3 M R n x43 (v5 + 1)
    else
    some v4
noncomputable def fX14_met (N : Nat) (M : goMI) (R : goMR) (v1 : Int32) (v2 : Int32) (v3 : Int32) : Option (Int32 × goMI) :=
  goNm (goWI M 102 0 0) fun M11 =>
  Option.bind (fX14_isCase N M11 R v1) fun x13 =>
  if x13 = 0 then
  goB2 (fX14_refused M11 1) fun x16 M17 =>
  some (x16, M17)
  else
  Option.bind (fX14_isGoat M11 R v2) fun x19 =>
  if x19 = 0 then
  goB2 (fX14_refused M11 1) fun x22 M23 =>
  some (x22, M23)
  else
  Option.bind (fX14_isPerson M11 R v3) fun x25 =>
  if x25 = 0 then
  goB2 (fX14_refused M11 1) fun x50 M51 =>
  some (x50, M51)
  else
  Option.bind (fX14_day N M11 R v1) fun M28 =>
  Option.bind (lX14_met_46 N v1 v2 v3 M28 R N 0 0) fun x46 =>
  goB2 (fX14_good M28 x46) fun x47 M48 =>
  some (x47, M48)
noncomputable def fX14_isTrue (N : Nat) (M : goMI) (R : goMR) (v1 : Int32) (v2 : Int32) : Option (Int32 × goMI) :=
  goNm (goWI M 102 0 0) fun M11 =>
  Option.bind (fX14_isCase N M11 R v1) fun x13 =>
  if x13 = 0 then
  goB2 (fX14_refused M11 1) fun x16 M17 =>
  some (x16, M17)
  else
  Option.bind (fX14_isClue M11 R v2) fun x19 =>
  if x19 = 0 then
  goB2 (fX14_refused M11 1) fun x33 M34 =>
  some (x33, M34)
  else
  Option.bind (fX14_day N M11 R v1) fun M22 =>
  Option.bind (fX14_holdsNow N M22 R v2) fun x24 =>
  goNm (α := Int32) (if x24 = 0 then
  0
  else
  1) fun x26 =>
  goB2 (fX14_good M22 x26) fun x30 M31 =>
  some (x30, M31)
noncomputable def lX14_fits_26 (N : Nat) (M : goMI) (R : goMR) : Nat → Int32 → Int32 → Option (Int32)
  | 0, _, _ => none
  | n + 1, v1, v2 =>
    Option.bind (R 102 3) fun b16 =>
    Option.bind (fX13_cases N M b16) fun x18 =>
    if v2 < x18 then
    Option.bind (fX14_heard M R) fun x21 =>
    Option.bind (fX14_areTrue M v2 x21) fun x23 =>
    goNm (α := Int32) (if x23 = 0 then
    0
    else
    1) fun x25 =>
    goNm (v1 + x25) fun x29 =>
    lX14_fits_26 N M R n x29 (v2 + 1)
    else
    some v1
noncomputable def fX14_fits (N : Nat) (M : goMI) (R : goMR) : Option (Int32 × goMI) :=
  goNm (goWI M 102 0 0) fun M11 =>
  if R 102 3 = none then
  goB2 (fX14_refused M11 1) fun x36 M37 =>
  some (x36, M37)
  else
  Option.bind (fX14_laysHonest N M11 R) fun M14 =>
  Option.bind (lX14_fits_26 N M14 R N 0 0) fun x32 =>
  goB2 (fX14_good M14 x32) fun x33 M34 =>
  some (x33, M34)
noncomputable def lX14_fit_26 (N : Nat) (v1 : Int32) (M : goMI) (R : goMR) : Nat → Int32 → Int32 → Option (Int32 × goMI)
  | 0, _, _ => none
  | n + 1, v2, v3 =>
    Option.bind (R 102 3) fun b16 =>
    Option.bind (fX13_cases N M b16) fun x18 =>
    if v3 < x18 then
    Option.bind (fX14_heard M R) fun x24 =>
    Option.bind (fX14_areTrue M v3 x24) fun x26 =>
    if x26 = 0 then
    lX14_fit_26 N v1 M R n v2 (v3 + 1)
    else
    if v2 = v1 then
    goB2 (fX14_good M v3) fun x30 M31 =>
    some (x30, M31)
    else
    lX14_fit_26 N v1 M R n (v2 + 1) (v3 + 1)
    else
    goB2 (fX14_refused M 1) fun x21 M22 =>
    some (x21, M22)
noncomputable def fX14_fit (N : Nat) (M : goMI) (R : goMR) (v1 : Int32) : Option (Int32 × goMI) :=
  goNm (goWI M 102 0 0) fun M11 =>
  if R 102 3 = none then
  goB2 (fX14_refused M11 1) fun x33 M34 =>
  some (x33, M34)
  else
  Option.bind (fX14_laysHonest N M11 R) fun M14 =>
  lX14_fit_26 N v1 M14 R N 0 0
noncomputable def lX14_couldBe_6 (N : Nat) (v1 : Int32) (v2 : Int32) (v3 : Int32) (M : goMI) (R : goMR) : Nat → Int32 → Int32 → Option (Int32)
  | 0, _, _ => none
  | n + 1, v4, v5 =>
    Option.bind (R 102 3) fun b11 =>
    Option.bind (fX13_cases N M b11) fun x13 =>
    if v5 < x13 then
    Option.bind (R 102 3) fun b16 =>
    Option.bind (goRd M (b16 + 4) 4 v1) fun x18 =>
    Option.bind (if 0 < x18 then
    Option.bind (fX14_areTrue M v5 v3) fun x24 =>
    if x24 = 0 then
    some v4
    else
    Option.bind (R 102 3) fun b27 =>
    Option.bind (fX13_placeIn N M b27 v5 v1 v2) fun x29 =>
    goNm (v4 ||| (1 <<< (x29 &&& 31))) fun x31 =>
    some x31
    else
    some v4) fun x20 =>
    lX14_couldBe_6 N v1 v2 v3 M R n x20 (v5 + 1)
    else
    some v4
noncomputable def fX14_couldBe (N : Nat) (M : goMI) (R : goMR) (v1 : Int32) (v2 : Int32) (v3 : Int32) : Option (Int32) :=
  Option.bind (lX14_couldBe_6 N v1 v2 v3 M R N 0 0) fun x34 =>
  some x34
noncomputable def fX14_refusesPerson (M : goMI) (R : goMR) (v1 : Int32) (v2 : Int32) : Option (Int32) :=
  Option.bind (fX14_isPerson M R v1) fun x11 =>
  if x11 = 0 then
  some 1
  else
  Option.bind (fX14_isHour M R v2) fun x14 =>
  if x14 = 0 then
  some 2
  else
  some 0
noncomputable def fX14_could (N : Nat) (M : goMI) (R : goMR) (v1 : Int32) (v2 : Int32) : Option (Int32 × goMI) :=
  goNm (goWI M 102 0 0) fun M11 =>
  Option.bind (fX14_refusesPerson M11 R v1 v2) fun x13 =>
  if 0 < x13 then
  goB2 (fX14_refused M11 x13) fun x25 M26 =>
  some (x25, M26)
  else
  Option.bind (fX14_laysHonest N M11 R) fun M16 =>
  Option.bind (fX14_heard M16 R) fun x18 =>
  Option.bind (fX14_couldBe N M16 R v1 v2 x18) fun x20 =>
  goB2 (fX14_good M16 x20) fun x22 M23 =>
  some (x22, M23)
noncomputable def lX14_surely_41 (v4 : Int32) (M : goMI) (R : goMR) : Nat → Int32 → Option (Int32 × goMI)
  | 0, _ => none
  | n + 1, v5 =>
    Option.bind (R 102 3) fun b22 =>
    if v5 < (M b22 2) then
    if v4 = (1 <<< (v5 &&& 31)) then
    goB2 (fX14_good M v5) fun x29 M30 =>
    some (x29, M30)
    else
    lX14_surely_41 v4 M R n (v5 + 1)
    else
    goB2 (fX14_good M (-2)) fun x25 M26 =>
    some (x25, M26)
noncomputable def fX14_surely (N : Nat) (M : goMI) (R : goMR) (v1 : Int32) (v2 : Int32) : Option (Int32 × goMI) :=
  goNm (goWI M 102 0 0) fun M11 =>
  Option.bind (fX14_refusesPerson M11 R v1 v2) fun x13 =>
  if 0 < x13 then
  goB2 (fX14_refused M11 x13) fun x32 M33 =>
  some (x32, M33)
  else
  Option.bind (fX14_laysHonest N M11 R) fun M16 =>
  Option.bind (fX14_heard M16 R) fun x18 =>
  Option.bind (fX14_couldBe N M16 R v1 v2 x18) fun x20 =>
  lX14_surely_41 x20 M16 R N 0
noncomputable def lX14_lies_39 (N : Nat) (v1 : Int32) (M : goMI) (R : goMR) : Nat → Int32 → Int32 → Option (Int32)
  | 0, _, _ => none
  | n + 1, v2, v3 =>
    Option.bind (R 102 3) fun b24 =>
    Option.bind (fX13_cases N M b24) fun x26 =>
    if v3 < x26 then
    Option.bind (R 102 3) fun b29 =>
    Option.bind (goRd M (b29 + 4) 4 v1) fun x31 =>
    Option.bind (if 0 < x31 then
    Option.bind (fX14_heard M R) fun x37 =>
    Option.bind (fX14_areTrue M v3 x37) fun x39 =>
    if x39 = 0 then
    some v2
    else
    Option.bind (R 102 3) fun b42 =>
    Option.bind (fX13_storyOf N M b42 v3 v1) fun x44 =>
    goNm (v2 &&& ((1 <<< (x44 &&& 31)) ^^^ (-1))) fun x46 =>
    some x46
    else
    some v2) fun x33 =>
    lX14_lies_39 N v1 M R n x33 (v3 + 1)
    else
    some v2
noncomputable def fX14_lies (N : Nat) (M : goMI) (R : goMR) (v1 : Int32) : Option (Int32 × goMI) :=
  goNm (goWI M 102 0 0) fun M11 =>
  Option.bind (fX14_isPerson M11 R v1) fun x13 =>
  if x13 = 0 then
  goB2 (fX14_refused M11 1) fun x53 M54 =>
  some (x53, M54)
  else
  Option.bind (fX14_laysHonest N M11 R) fun M16 =>
  Option.bind (R 102 3) fun b18 =>
  Option.bind (goRd M16 (b18 + 4) 4 v1) fun x20 =>
  goNm ((1 <<< (x20 &&& 31)) - 1) fun x22 =>
  Option.bind (lX14_lies_39 N v1 M16 R N x22 0) fun x49 =>
  goB2 (fX14_good M16 x49) fun x50 M51 =>
  some (x50, M51)
noncomputable def lX14_anyFits_2 (N : Nat) (v1 : Int32) (M : goMI) (R : goMR) : Nat → Int32 → Option (Int32)
  | 0, _ => none
  | n + 1, v2 =>
    Option.bind (R 102 3) fun b11 =>
    Option.bind (fX13_cases N M b11) fun x13 =>
    if v2 < x13 then
    Option.bind (fX14_areTrue M v2 v1) fun x16 =>
    if x16 = 0 then
    lX14_anyFits_2 N v1 M R n (v2 + 1)
    else
    some 1
    else
    some 0
noncomputable def fX14_anyFits (N : Nat) (M : goMI) (R : goMR) (v1 : Int32) : Option (Int32) :=
  lX14_anyFits_2 N v1 M R N 0
noncomputable def lX14_falseOnes_27 (N : Nat) (M : goMI) (R : goMR) : Nat → Int32 → Int32 → Option (Int32)
  | 0, _, _ => none
  | n + 1, v1, v2 =>
    Option.bind (fX14_allGoats M R) fun x16 =>
    if v2 ≤ x16 then
    Option.bind (fX14_heard M R) fun x19 =>
    Option.bind (if (v2 &&& (x19 ^^^ (-1))) = 0 then
    if v1 = (-2) then
    Option.bind (fX14_heard M R) fun x26 =>
    Option.bind (fX14_anyFits N M R (x26 &&& (v2 ^^^ (-1)))) fun x28 =>
    if x28 = 0 then
    some v1
    else
    some v2
    else
    Option.bind (fX14_bits N v2) fun x31 =>
    Option.bind (fX14_bits N v1) fun x33 =>
    if x31 < x33 then
    Option.bind (fX14_heard M R) fun x36 =>
    Option.bind (fX14_anyFits N M R (x36 &&& (v2 ^^^ (-1)))) fun x38 =>
    if x38 = 0 then
    some v1
    else
    some v2
    else
    some v1
    else
    some v1) fun x21 =>
    lX14_falseOnes_27 N M R n x21 (v2 + 1)
    else
    some v1
noncomputable def fX14_falseOnes (N : Nat) (M : goMI) (R : goMR) : Option (Int32 × goMI) :=
  goNm (goWI M 102 0 0) fun M11 =>
  if R 102 3 = none then
  goB2 (fX14_refused M11 1) fun x46 M47 =>
  some (x46, M47)
  else
  Option.bind (fX14_laysHonest N M11 R) fun M14 =>
  Option.bind (lX14_falseOnes_27 N M14 R N (-2) 0) fun x42 =>
  goB2 (fX14_good M14 x42) fun x43 M44 =>
  some (x43, M44)
noncomputable def lX14_oddsOf_21 (v3 : Int32) (M : goMI) (R : goMR) : Nat → Int32 → Int32 → Option (Int32)
  | 0, _, _ => none
  | n + 1, v4, v5 =>
    Option.bind (R 102 3) fun b14 =>
    if v5 < (M b14 7) then
    Option.bind (if v4 = 0 then
    Option.bind (R 102 3) fun b21 =>
    Option.bind (goRd M (b21 + 14) 10 v5) fun x23 =>
    if x23 = v3 then
    some 1
    else
    some 0
    else
    some 1) fun x17 =>
    lX14_oddsOf_21 v3 M R n x17 (v5 + 1)
    else
    some v4
noncomputable def lX14_oddsOf_4 (N : Nat) (v1 : Int32) (M : goMI) (R : goMR) : Nat → Int32 → Int32 → Option (Int32)
  | 0, _, _ => none
  | n + 1, v2, v3 =>
    Option.bind (R 102 3) fun b11 =>
    if v3 < (M b11 5) then
    Option.bind (lX14_oddsOf_21 v3 M R N 0 0) fun x27 =>
    Option.bind (if x27 = 0 then
    some v2
    else
    Option.bind (fX14_isHeard M v3) fun x32 =>
    if x32 = 0 then
    some v2
    else
    Option.bind (goRd M 114 81 v1) fun x35 =>
    Option.bind (if (fX14_bit x35 v3) = 0 then
    Option.bind (R 102 3) fun b41 =>
    Option.bind (goRd M (b41 + 11) 6 v3) fun x43 =>
    some (10 - x43)
    else
    Option.bind (R 102 3) fun b45 =>
    Option.bind (goRd M (b45 + 11) 6 v3) fun x47 =>
    some x47) fun x37 =>
    goNm (v2 * x37) fun x49 =>
    some x49) fun x28 =>
    lX14_oddsOf_4 N v1 M R n x28 (v3 + 1)
    else
    some v2
noncomputable def fX14_oddsOf (N : Nat) (M : goMI) (R : goMR) (v1 : Int32) : Option (Int32) :=
  Option.bind (lX14_oddsOf_4 N v1 M R N 1 0) fun x52 =>
  some x52
noncomputable def fX14_odds (N : Nat) (M : goMI) (R : goMR) (v1 : Int32) : Option (Int32 × goMI) :=
  goNm (goWI M 102 0 0) fun M11 =>
  Option.bind (fX14_isCase N M11 R v1) fun x13 =>
  if x13 = 0 then
  goB2 (fX14_refused M11 1) fun x23 M24 =>
  some (x23, M24)
  else
  Option.bind (fX14_laysHonest N M11 R) fun M16 =>
  Option.bind (fX14_oddsOf N M16 R v1) fun x18 =>
  goB2 (fX14_good M16 x18) fun x20 M21 =>
  some (x20, M21)
noncomputable def lX14_likeliest_26 (N : Nat) (M : goMI) (R : goMR) : Nat → Int32 → Int32 → Option (Int32)
  | 0, _, _ => none
  | n + 1, v1, v2 =>
    Option.bind (R 102 3) fun b16 =>
    Option.bind (fX13_cases N M b16) fun x18 =>
    if v2 < x18 then
    Option.bind (fX14_oddsOf N M R v2) fun x21 =>
    Option.bind (fX14_oddsOf N M R v1) fun x23 =>
    Option.bind (if x23 < x21 then
    some v2
    else
    some v1) fun x25 =>
    lX14_likeliest_26 N M R n x25 (v2 + 1)
    else
    some v1
noncomputable def fX14_likeliest (N : Nat) (M : goMI) (R : goMR) : Option (Int32 × goMI) :=
  goNm (goWI M 102 0 0) fun M11 =>
  if R 102 3 = none then
  goB2 (fX14_refused M11 1) fun x34 M35 =>
  some (x34, M35)
  else
  Option.bind (fX14_laysHonest N M11 R) fun M14 =>
  Option.bind (lX14_likeliest_26 N M14 R N 0 1) fun x30 =>
  goB2 (fX14_good M14 x30) fun x31 M32 =>
  some (x31, M32)
noncomputable def lX14_proved_50 (N : Nat) (v1 : Int32) (v2 : Int32) (v3 : Int32) (M : goMI) (R : goMR) : Nat → Int32 → Int32 → Option (Int32)
  | 0, _, _ => none
  | n + 1, v5, v6 =>
    Option.bind (fX14_allGoats M R) fun x21 =>
    if v6 ≤ x21 then
    Option.bind (if v5 = (-2) then
    Option.bind (fX14_couldBe N M R v1 v3 v6) fun x28 =>
    if x28 = (1 <<< (v2 &&& 31)) then
    some v6
    else
    some v5
    else
    Option.bind (fX14_bits N v6) fun x31 =>
    Option.bind (fX14_bits N v5) fun x33 =>
    if x31 < x33 then
    Option.bind (fX14_couldBe N M R v1 v3 v6) fun x36 =>
    if x36 = (1 <<< (v2 &&& 31)) then
    some v6
    else
    some v5
    else
    some v5) fun x24 =>
    lX14_proved_50 N v1 v2 v3 M R n x24 (v6 + 1)
    else
    some v5
noncomputable def fX14_proved (N : Nat) (M : goMI) (R : goMR) (v1 : Int32) (v2 : Int32) (v3 : Int32) : Option (Int32 × goMI) :=
  goNm (goWI M 102 0 0) fun M11 =>
  Option.bind (fX14_isPlace M11 R v2) fun x13 =>
  if x13 = 0 then
  goB2 (fX14_refused M11 1) fun x47 M48 =>
  some (x47, M48)
  else
  Option.bind (fX14_refusesPerson M11 R v1 v3) fun x16 =>
  if 0 < x16 then
  goB2 (fX14_refused M11 x16) fun x44 M45 =>
  some (x44, M45)
  else
  Option.bind (fX14_laysHonest N M11 R) fun M19 =>
  Option.bind (lX14_proved_50 N v1 v2 v3 M19 R N (-2) 0) fun x40 =>
  goB2 (fX14_good M19 x40) fun x41 M42 =>
  some (x41, M42)
noncomputable def lX14_asks_50 (v1 : Int32) : Nat → Int32 → goMI → Option (goMI)
  | 0, _, _ => none
  | n + 1, v3, M =>
    if v3 < 72 then
    Option.bind (goRd M 108 72 v3) fun x31 =>
    Option.bind (goWr M 116 5832 (((v1 * 6) * 12) + v3) x31) fun M33 =>
    lX14_asks_50 v1 n (v3 + 1) M33
    else
    some M
noncomputable def lX14_asks_17 (N : Nat) (R : goMR) : Nat → Int32 → Int32 → goMI → Option (Int32 × goMI)
  | 0, _, _, _ => none
  | n + 1, v1, v2, M =>
    Option.bind (R 102 3) fun b14 =>
    Option.bind (fX13_cases N M b14) fun x16 =>
    if v2 < x16 then
    Option.bind (fX14_heard M R) fun x19 =>
    Option.bind (fX14_areTrue M v2 x19) fun x21 =>
    goB2 (if x21 = 0 then
    some (v1, M)
    else
    Option.bind (fX14_day N M R v2) fun M28 =>
    Option.bind (lX14_asks_50 v1 N 0 M28) fun M36 =>
    some ((v1 + 1), M36)) fun x23 M24 =>
    lX14_asks_17 N R n x23 (v2 + 1) M24
    else
    some (v1, M)
noncomputable def lX14_asks_147 : Nat → Int32 → goMI → Option (goMI)
  | 0, _, _ => none
  | n + 1, v5, M =>
    if v5 < 8 then
    Option.bind (goWr M 117 8 v5 0) fun M53 =>
    lX14_asks_147 n (v5 + 1) M53
    else
    some M
noncomputable def lX14_asks_171 (v1 : Int32) (v2 : Int32) (v3 : Int32) : Nat → Int32 → Int32 → goMI → Option (Int32 × goMI)
  | 0, _, _, _ => none
  | n + 1, v4, v5, M =>
    if v5 < v1 then
    Option.bind (goRd M 116 5832 ((((v5 * 6) * 12) + (12 * v2)) + v3)) fun x58 =>
    Option.bind (goRd M 117 8 x58) fun x60 =>
    Option.bind (goWr M 117 8 x58 (x60 + 1)) fun M62 =>
    Option.bind (goRd M62 117 8 x58) fun x64 =>
    Option.bind (if v4 < x64 then
    Option.bind (goRd M62 117 8 x58) fun x70 =>
    some x70
    else
    some v4) fun x66 =>
    lX14_asks_171 v1 v2 v3 n x66 (v5 + 1) M62
    else
    some (v4, M)
noncomputable def lX14_asks_130 (N : Nat) (v1 : Int32) (v2 : Int32) (R : goMR) : Nat → Int32 → goMI → Option (goMI)
  | 0, _, _ => none
  | n + 1, v3, M =>
    Option.bind (R 102 3) fun b49 =>
    if v3 < (M b49 0) then
    Option.bind (lX14_asks_147 N 0 M) fun M56 =>
    goB2 (lX14_asks_171 v1 v2 v3 N 0 0 M56) fun x73 M74 =>
    Option.bind (if (M74 102 31) ≤ x73 then
    some M74
    else
    goNm (goWI M74 102 31 x73) fun M79 =>
    goNm (goWI M79 102 30 ((100 * v2) + v3)) fun M81 =>
    some M81) fun M75 =>
    lX14_asks_130 N v1 v2 R n (v3 + 1) M75
    else
    some M
noncomputable def lX14_asks_117 (N : Nat) (v1 : Int32) (R : goMR) : Nat → Int32 → goMI → Option (goMI)
  | 0, _, _ => none
  | n + 1, v2, M =>
    Option.bind (R 102 3) fun b46 =>
    if v2 < (M b46 5) then
    Option.bind (lX14_asks_130 N v1 v2 R N 0 M) fun M84 =>
    lX14_asks_117 N v1 R n (v2 + 1) M84
    else
    some M
noncomputable def fX14_asks (N : Nat) (M : goMI) (R : goMR) : Option (Int32 × goMI) :=
  if R 102 3 = none then
  some (1, M)
  else
  Option.bind (fX14_laysHonest N M R) fun M12 =>
  goB2 (lX14_asks_17 N R N 0 0 M12) fun x38 M39 =>
  if 2 ≤ x38 then
  Option.bind (R 102 3) fun b41 =>
  if (M39 b41 5) = 0 then
  some (6, M39)
  else
  goNm (goWI M39 102 31 82) fun M44 =>
  Option.bind (lX14_asks_117 N x38 R N 0 M44) fun M86 =>
  some (0, M86)
  else
  some (6, M39)
noncomputable def fX14_ask (N : Nat) (M : goMI) (R : goMR) : Option (Int32 × goMI) :=
  goNm (goWI M 102 0 0) fun M11 =>
  goB2 (fX14_asks N M11 R) fun x13 M14 =>
  if 0 < x13 then
  goB2 (fX14_refused M14 x13) fun x20 M21 =>
  some (x20, M21)
  else
  goB2 (fX14_good M14 (M14 102 30)) fun x17 M18 =>
  some (x17, M18)
noncomputable def fX14_askMost (N : Nat) (M : goMI) (R : goMR) : Option (Int32 × goMI) :=
  goNm (goWI M 102 0 0) fun M11 =>
  goB2 (fX14_asks N M11 R) fun x13 M14 =>
  if 0 < x13 then
  goB2 (fX14_refused M14 x13) fun x20 M21 =>
  some (x20, M21)
  else
  goB2 (fX14_good M14 (M14 102 31)) fun x17 M18 =>
  some (x17, M18)
noncomputable def fX14_turn (M : goMI) (v1 : Int32) (v2 : Int32) : Option (goMI) :=
  Option.bind (goRd M 105 18 (v1 + (v2 / 12))) fun x11 =>
  Option.bind (goWr M 105 18 (v1 + (v2 / 12)) (x11 ^^^ (1 <<< ((v2 - v2 / 12 * 12) &&& 31)))) fun M13 =>
  some M13
noncomputable def fX14_isThere (N : Nat) (M : goMI) (R : goMR) (v1 : Int32) (v2 : Int32) (v3 : Int32) (v4 : Int32) : Option (Int32 × goMI) :=
  Option.bind (fX14_day N M R v1) fun M11 =>
  Option.bind (goRd M11 108 72 ((12 * v2) + v4)) fun x13 =>
  if x13 = v3 then
  some (1, M11)
  else
  some (0, M11)
noncomputable def fX14_isSpot (M : goMI) (R : goMR) (v1 : Int32) (v2 : Int32) : Option (Int32) :=
  Option.bind (R 102 3) fun b11 =>
  if (v2 - v2 / 12 * 12) < (M b11 0) then
  Option.bind (R 102 3) fun b14 =>
  if (v2 / 12) < (M b14 2) then
  Option.bind (goRd M 105 18 (v1 + (v2 / 12))) fun x17 =>
  if (fX14_bit x17 (v2 - v2 / 12 * 12)) = 0 then
  some 1
  else
  some 0
  else
  some 0
  else
  some 0
noncomputable def lX14_fewest_99 (k : goMI → Option (Int32 × goMI)) (N : Nat) (v1 : Int32) (v2 : Int32) (v3 : Int32) (v4 : Int32) (v5 : Int32) (v6 : Int32) (R : goMR) : Nat → Int32 → goMI → Option (Int32 × goMI)
  | 0, _, _ => none
  | n + 1, v7, M =>
    if v7 < 96 then
    Option.bind (fX14_isSpot M R v1 v6) fun x20 =>
    if x20 = 0 then
    lX14_fewest_99 k N v1 v2 v3 v4 v5 v6 R n (v7 + 1) M
    else
    Option.bind (fX14_isSpot M R v1 v7) fun x23 =>
    if x23 = 0 then
    lX14_fewest_99 k N v1 v2 v3 v4 v5 v6 R n (v7 + 1) M
    else
    Option.bind (fX14_turn M v1 v6) fun M26 =>
    Option.bind (fX14_turn M26 v1 v7) fun M28 =>
    goB2 (fX14_isThere N M28 R v2 v3 v4 v5) fun x30 M31 =>
    Option.bind (fX14_turn M31 v1 v7) fun M33 =>
    Option.bind (fX14_turn M33 v1 v6) fun M35 =>
    goNm (goWI M35 102 35 v6) fun M37 =>
    goNm (goWI M37 102 36 v7) fun M39 =>
    if x30 = 0 then
    lX14_fewest_99 k N v1 v2 v3 v4 v5 v6 R n (v7 + 1) M39
    else
    some (2, M39)
    else
    k M
noncomputable def lX14_fewest_86 (N : Nat) (v1 : Int32) (v2 : Int32) (v3 : Int32) (v4 : Int32) (v5 : Int32) (R : goMR) : Nat → Int32 → goMI → Option (Int32 × goMI)
  | 0, _, _ => none
  | n + 1, v6, M =>
    if v6 < 96 then
    goNm (v6 + 1) fun x17 =>
    lX14_fewest_99 (fun M43 =>
    lX14_fewest_86 N v1 v2 v3 v4 v5 R n (v6 + 1) M43) N v1 v2 v3 v4 v5 v6 R N x17 M
    else
    some ((-2), M)
noncomputable def lX14_fewest_18 (N : Nat) (v1 : Int32) (v2 : Int32) (v3 : Int32) (v4 : Int32) (v5 : Int32) (R : goMR) : Nat → Int32 → goMI → Option (Int32 × goMI)
  | 0, _, _ => none
  | n + 1, v6, M =>
    if v6 < 96 then
    Option.bind (fX14_isSpot M R v1 v6) fun x44 =>
    if x44 = 0 then
    lX14_fewest_18 N v1 v2 v3 v4 v5 R n (v6 + 1) M
    else
    Option.bind (fX14_turn M v1 v6) fun M47 =>
    goB2 (fX14_isThere N M47 R v2 v3 v4 v5) fun x49 M50 =>
    Option.bind (fX14_turn M50 v1 v6) fun M52 =>
    goNm (goWI M52 102 35 v6) fun M54 =>
    if x49 = 0 then
    lX14_fewest_18 N v1 v2 v3 v4 v5 R n (v6 + 1) M54
    else
    some (1, M54)
    else
    lX14_fewest_86 N v1 v2 v3 v4 v5 R N 0 M
noncomputable def fX14_fewest (N : Nat) (M : goMI) (R : goMR) (v1 : Int32) (v2 : Int32) (v3 : Int32) (v4 : Int32) (v5 : Int32) : Option (Int32 × goMI) :=
  goB2 (fX14_isThere N M R v2 v3 v4 v5) fun x11 M12 =>
  if x11 = 0 then
  lX14_fewest_18 N v1 v2 v3 v4 v5 R N 0 M12
  else
  some (0, M12)
noncomputable def fX14_refusesLed (N : Nat) (M : goMI) (R : goMR) (v1 : Int32) (v2 : Int32) (v3 : Int32) (v4 : Int32) : Option (Int32) :=
  Option.bind (fX14_isCase N M R v1) fun x11 =>
  if x11 = 0 then
  some 1
  else
  Option.bind (fX14_isGoat M R v2) fun x14 =>
  if x14 = 0 then
  some 1
  else
  Option.bind (fX14_isPlace M R v3) fun x17 =>
  if x17 = 0 then
  some 1
  else
  Option.bind (fX14_isHour M R v4) fun x20 =>
  if x20 = 0 then
  some 2
  else
  some 0
noncomputable def fX14_led (N : Nat) (M : goMI) (R : goMR) (v1 : Int32) (v2 : Int32) (v3 : Int32) (v4 : Int32) : Option (Int32 × goMI) :=
  goNm (goWI M 102 0 0) fun M11 =>
  Option.bind (fX14_refusesLed N M11 R v1 v2 v3 v4) fun x13 =>
  if 0 < x13 then
  goB2 (fX14_refused M11 x13) fun x22 M23 =>
  some (x22, M23)
  else
  goB2 (fX14_fewest N M11 R 0 v1 v2 v3 v4) fun x16 M17 =>
  goB2 (fX14_good M17 x16) fun x19 M20 =>
  some (x19, M20)
noncomputable def fX14_ledAt (N : Nat) (M : goMI) (R : goMR) (v1 : Int32) (v2 : Int32) (v3 : Int32) (v4 : Int32) (v5 : Int32) : Option (Int32 × goMI) :=
  goNm (goWI M 102 0 0) fun M11 =>
  Option.bind (fX14_refusesLed N M11 R v1 v2 v3 v4) fun x13 =>
  if 0 < x13 then
  goB2 (fX14_refused M11 x13) fun x34 M35 =>
  some (x34, M35)
  else
  goB2 (fX14_fewest N M11 R 0 v1 v2 v3 v4) fun x16 M17 =>
  if 0 ≤ v5 then
  if x16 ≤ v5 then
  goB2 (fX14_refused M17 1) fun x31 M32 =>
  some (x31, M32)
  else
  goNm (α := Int32) (if v5 = 0 then
  (M17 102 35)
  else
  (M17 102 36)) fun x24 =>
  goB2 (fX14_good M17 ((100 * (x24 / 12)) + (x24 - x24 / 12 * 12))) fun x28 M29 =>
  some (x28, M29)
  else
  goB2 (fX14_refused M17 1) fun x20 M21 =>
  some (x20, M21)
noncomputable def fX14_scared (N : Nat) (M : goMI) (R : goMR) (v1 : Int32) (v2 : Int32) (v3 : Int32) (v4 : Int32) : Option (Int32 × goMI) :=
  goNm (goWI M 102 0 0) fun M11 =>
  Option.bind (fX14_refusesLed N M11 R v1 v2 v3 v4) fun x13 =>
  if 0 < x13 then
  goB2 (fX14_refused M11 x13) fun x22 M23 =>
  some (x22, M23)
  else
  goB2 (fX14_fewest N M11 R 8 v1 v2 v3 v4) fun x16 M17 =>
  goB2 (fX14_good M17 x16) fun x19 M20 =>
  some (x19, M20)
noncomputable def lX14_following_16 (v2 : Int32) (M : goMI) (R : goMR) : Nat → Int32 → Int32 → Option (Int32)
  | 0, _, _ => none
  | n + 1, v3, v6 =>
    Option.bind (R 102 3) fun b12 =>
    if v6 < (M b12 9) then
    Option.bind (if v6 = v2 then
    some v3
    else
    Option.bind (R 102 3) fun b19 =>
    Option.bind (goRd M (b19 + 18) 8 v6) fun x21 =>
    if (x21 &&& (v3 ^^^ (-1))) = 0 then
    Option.bind (R 102 3) fun b24 =>
    Option.bind (goRd M (b24 + 17) 8 v6) fun x26 =>
    goNm (v3 ||| (1 <<< (x26 &&& 31))) fun x28 =>
    some x28
    else
    some v3) fun x15 =>
    lX14_following_16 v2 M R n x15 (v6 + 1)
    else
    some v3
noncomputable def lX14_following_5 (N : Nat) (v2 : Int32) (M : goMI) (R : goMR) : Nat → Int32 → Int32 → Option (Int32)
  | 0, _, _ => none
  | n + 1, v3, v4 =>
    if v4 = 0 then
    some v3
    else
    Option.bind (lX14_following_16 v2 M R N v3 0) fun x31 =>
    goNm (α := Int32) (if x31 = v3 then
    0
    else
    1) fun x32 =>
    lX14_following_5 N v2 M R n x31 x32
noncomputable def fX14_following (N : Nat) (M : goMI) (R : goMR) (v1 : Int32) (v2 : Int32) : Option (Int32) :=
  Option.bind (lX14_following_5 N v2 M R N v1 1) fun x37 =>
  some x37
noncomputable def fX14_followsNow (N : Nat) (M : goMI) (R : goMR) (v1 : Int32) : Option (Int32) :=
  Option.bind (R 102 3) fun b11 =>
  Option.bind (fX14_following N M R (M b11 13) (-1)) fun x13 =>
  Option.bind (goZr (fX14_bit x13 v1)) fun x15 =>
  some x15
noncomputable def fX14_follows (N : Nat) (M : goMI) (R : goMR) (v1 : Int32) : Option (Int32 × goMI) :=
  goNm (goWI M 102 0 0) fun M11 =>
  Option.bind (fX14_isFact M11 R v1) fun x13 =>
  if x13 = 0 then
  goB2 (fX14_refused M11 1) fun x16 M17 =>
  some (x16, M17)
  else
  Option.bind (fX14_followsNow N M11 R v1) fun x19 =>
  goNm (α := Int32) (if x19 = 0 then
  0
  else
  1) fun x21 =>
  goB2 (fX14_good M11 x21) fun x25 M26 =>
  some (x25, M26)
noncomputable def lX14_step_73 (v1 : Int32) (v2 : Int32) (M : goMI) (R : goMR) : Nat → Int32 → Int32 → Option (Int32)
  | 0, _, _ => none
  | n + 1, v3, v4 =>
    Option.bind (R 102 3) fun b31 =>
    if v4 < (M b31 9) then
    Option.bind (if v3 = 0 then
    Option.bind (R 102 3) fun b38 =>
    Option.bind (goRd M (b38 + 17) 8 v4) fun x40 =>
    Option.bind (R 102 3) fun b42 =>
    Option.bind (goRd M (b42 + 19) 8 v2) fun x44 =>
    if x40 = x44 then
    Option.bind (R 102 3) fun b47 =>
    Option.bind (goRd M (b47 + 18) 8 v4) fun x49 =>
    if (x49 &&& (v1 ^^^ (-1))) = 0 then
    some 1
    else
    some 0
    else
    some 0
    else
    some 1) fun x34 =>
    lX14_step_73 v1 v2 M R n x34 (v4 + 1)
    else
    some v3
noncomputable def lX14_step_39 (N : Nat) (M : goMI) (R : goMR) : Nat → Int32 → Int32 → Option (Int32 × goMI)
  | 0, _, _ => none
  | n + 1, v1, v2 =>
    Option.bind (R 102 3) fun b17 =>
    if v2 < (M b17 10) then
    Option.bind (R 102 3) fun b23 =>
    Option.bind (R 102 3) fun b25 =>
    Option.bind (goRd M (b25 + 19) 8 v2) fun x27 =>
    goNm (fX14_bit (M b23 13) x27) fun x29 =>
    Option.bind (lX14_step_73 v1 v2 M R N x29 0) fun x53 =>
    if x53 = 0 then
    goB2 (fX14_good M v2) fun x61 M62 =>
    some (x61, M62)
    else
    Option.bind (R 102 3) fun b55 =>
    Option.bind (goRd M (b55 + 19) 8 v2) fun x57 =>
    goNm (v1 ||| (1 <<< (x57 &&& 31))) fun x59 =>
    lX14_step_39 N M R n x59 (v2 + 1)
    else
    goB2 (fX14_good M (-2)) fun x20 M21 =>
    some (x20, M21)
noncomputable def fX14_step (N : Nat) (M : goMI) (R : goMR) : Option (Int32 × goMI) :=
  goNm (goWI M 102 0 0) fun M11 =>
  if R 102 3 = none then
  goB2 (fX14_refused M11 1) fun x67 M68 =>
  some (x67, M68)
  else
  Option.bind (R 102 3) fun b14 =>
  if (M11 b14 14) = 0 then
  goB2 (fX14_refused M11 6) fun x64 M65 =>
  some (x64, M65)
  else
  lX14_step_39 N M11 R N 0 0
noncomputable def lX14_needs_38 (N : Nat) (v1 : Int32) (M : goMI) (R : goMR) : Nat → Int32 → Int32 → Option (Int32)
  | 0, _, _ => none
  | n + 1, v2, v3 =>
    Option.bind (R 102 3) fun b19 =>
    if v3 < (M b19 9) then
    Option.bind (R 102 3) fun b22 =>
    Option.bind (fX14_following N M R (M b22 13) v3) fun x24 =>
    goNm (α := Int32) (if (fX14_bit x24 v1) = 0 then
    (1 <<< (v3 &&& 31))
    else
    0) fun x26 =>
    goNm (v2 ||| x26) fun x30 =>
    lX14_needs_38 N v1 M R n x30 (v3 + 1)
    else
    some v2
noncomputable def fX14_needs (N : Nat) (M : goMI) (R : goMR) (v1 : Int32) : Option (Int32 × goMI) :=
  goNm (goWI M 102 0 0) fun M11 =>
  Option.bind (fX14_isFact M11 R v1) fun x13 =>
  if x13 = 0 then
  goB2 (fX14_refused M11 1) fun x40 M41 =>
  some (x40, M41)
  else
  Option.bind (fX14_followsNow N M11 R v1) fun x16 =>
  if x16 = 0 then
  goB2 (fX14_good M11 (-2)) fun x37 M38 =>
  some (x37, M38)
  else
  Option.bind (lX14_needs_38 N v1 M11 R N 0 0) fun x33 =>
  goB2 (fX14_good M11 x33) fun x34 M35 =>
  some (x34, M35)
noncomputable def lX14_enough_24 (N : Nat) (v1 : Int32) (M : goMI) (R : goMR) : Nat → Int32 → Int32 → Option (Int32)
  | 0, _, _ => none
  | n + 1, v2, v3 =>
    Option.bind (R 102 3) fun b16 =>
    if v3 < (1 <<< ((M b16 8) &&& 31)) then
    Option.bind (R 102 3) fun b19 =>
    Option.bind (if (v3 &&& ((M b19 13) ^^^ (-1))) = 0 then
    if v2 = (-2) then
    Option.bind (fX14_following N M R v3 (-1)) fun x26 =>
    if (fX14_bit x26 v1) = 0 then
    some v2
    else
    some v3
    else
    Option.bind (fX14_bits N v3) fun x29 =>
    Option.bind (fX14_bits N v2) fun x31 =>
    if x29 < x31 then
    Option.bind (fX14_following N M R v3 (-1)) fun x34 =>
    if (fX14_bit x34 v1) = 0 then
    some v2
    else
    some v3
    else
    some v2
    else
    some v2) fun x21 =>
    lX14_enough_24 N v1 M R n x21 (v3 + 1)
    else
    some v2
noncomputable def fX14_enough (N : Nat) (M : goMI) (R : goMR) (v1 : Int32) : Option (Int32 × goMI) :=
  goNm (goWI M 102 0 0) fun M11 =>
  Option.bind (fX14_isFact M11 R v1) fun x13 =>
  if x13 = 0 then
  goB2 (fX14_refused M11 1) fun x42 M43 =>
  some (x42, M43)
  else
  Option.bind (lX14_enough_24 N v1 M11 R N (-2) 0) fun x38 =>
  goB2 (fX14_good M11 x38) fun x39 M40 =>
  some (x39, M40)
noncomputable def lX14_isCheese_18 (N : Nat) (v1 : Int32) (v2 : Int32) (M : goMI) (R : goMR) : Nat → Int32 → Int32 → Option (Int32)
  | 0, _, _ => none
  | n + 1, v3, v4 =>
    Option.bind (R 102 3) fun b14 =>
    if v4 < (M b14 5) then
    Option.bind (if (fX14_bit v1 v4) = 0 then
    some 0
    else
    Option.bind (fX14_ateOf N M R v4 v2) fun x21 =>
    some x21) fun x17 =>
    goNm (v3 + x17) fun x23 =>
    lX14_isCheese_18 N v1 v2 M R n x23 (v4 + 1)
    else
    some v3
noncomputable def lX14_isCheese_2 (N : Nat) (v1 : Int32) (M : goMI) (R : goMR) : Nat → Int32 → Option (Int32)
  | 0, _ => none
  | n + 1, v2 =>
    Option.bind (R 102 3) fun b11 =>
    if v2 < (M b11 1) then
    Option.bind (lX14_isCheese_18 N v1 v2 M R N 0 0) fun x26 =>
    Option.bind (R 102 3) fun b27 =>
    Option.bind (goRd M (b27 + 22) 4 v2) fun x29 =>
    if x26 = x29 then
    lX14_isCheese_2 N v1 M R n (v2 + 1)
    else
    some 0
    else
    some 1
noncomputable def fX14_isCheese (N : Nat) (M : goMI) (R : goMR) (v1 : Int32) : Option (Int32) :=
  lX14_isCheese_2 N v1 M R N 0
noncomputable def fX14_refusesCheese (N : Nat) (M : goMI) (R : goMR) (v1 : Int32) : Option (Int32) :=
  Option.bind (fX14_isCase N M R v1) fun x11 =>
  if x11 = 0 then
  some 1
  else
  Option.bind (R 102 3) fun b14 =>
  if (M b14 15) = 0 then
  some 6
  else
  some 0
noncomputable def lX14_cheese_31 (N : Nat) (M : goMI) (R : goMR) : Nat → Int32 → Int32 → Option (Int32)
  | 0, _, _ => none
  | n + 1, v3, v4 =>
    Option.bind (fX14_allGoats M R) fun x18 =>
    if v4 ≤ x18 then
    Option.bind (fX14_isCheese N M R v4) fun x21 =>
    goNm (α := Int32) (if x21 = 0 then
    0
    else
    1) fun x23 =>
    goNm (v3 + x23) fun x27 =>
    lX14_cheese_31 N M R n x27 (v4 + 1)
    else
    some v3
noncomputable def fX14_cheese (N : Nat) (M : goMI) (R : goMR) (v1 : Int32) : Option (Int32 × goMI) :=
  goNm (goWI M 102 0 0) fun M11 =>
  Option.bind (fX14_refusesCheese N M11 R v1) fun x13 =>
  if 0 < x13 then
  goB2 (fX14_refused M11 x13) fun x34 M35 =>
  some (x34, M35)
  else
  Option.bind (fX14_day N M11 R v1) fun M16 =>
  Option.bind (lX14_cheese_31 N M16 R N 0 0) fun x30 =>
  goB2 (fX14_good M16 x30) fun x31 M32 =>
  some (x31, M32)
noncomputable def lX14_cheeseOf_28 (N : Nat) (M : goMI) (R : goMR) : Nat → Int32 → Option (Int32 × goMI)
  | 0, _ => none
  | n + 1, v3 =>
    Option.bind (fX14_allGoats M R) fun x18 =>
    if v3 ≤ x18 then
    Option.bind (fX14_isCheese N M R v3) fun x24 =>
    if x24 = 0 then
    lX14_cheeseOf_28 N M R n (v3 + 1)
    else
    goB2 (fX14_good M v3) fun x27 M28 =>
    some (x27, M28)
    else
    goB2 (fX14_good M (-2)) fun x21 M22 =>
    some (x21, M22)
noncomputable def fX14_cheeseOf (N : Nat) (M : goMI) (R : goMR) (v1 : Int32) : Option (Int32 × goMI) :=
  goNm (goWI M 102 0 0) fun M11 =>
  Option.bind (fX14_refusesCheese N M11 R v1) fun x13 =>
  if 0 < x13 then
  goB2 (fX14_refused M11 x13) fun x30 M31 =>
  some (x30, M31)
  else
  Option.bind (fX14_day N M11 R v1) fun M16 =>
  lX14_cheeseOf_28 N M16 R N 0
noncomputable def lX14_meanOf_35 (v3 : Int32) (M : goMI) (R : goMR) : Nat → Int64 → Int32 → Option (Int64)
  | 0, _, _ => none
  | n + 1, w4, v6 =>
    Option.bind (R 102 3) fun b22 =>
    if v6 < (M b22 11) then
    Option.bind (if v6 < v3 then
    Option.bind (R 102 3) fun b29 =>
    Option.bind (goRd M 118 6 v6) fun x31 =>
    Option.bind (goRd M (b29 + 21) 6 x31) fun x33 =>
    some (Int32.toInt64 (10 - x33))
    else
    some 10) fun x25 =>
    goNm (w4 * x25) fun x35 =>
    lX14_meanOf_35 v3 M R n x35 (v6 + 1)
    else
    some w4
noncomputable def lX14_meanOf_4 (N : Nat) (M : goMI) (R : goMR) : Nat → Int64 → Int32 → Option (Int64)
  | 0, _, _ => none
  | n + 1, w1, v3 =>
    Option.bind (R 102 3) fun b11 =>
    if v3 < (M b11 11) then
    Option.bind (R 102 3) fun b14 =>
    Option.bind (goRd M 118 6 v3) fun x16 =>
    Option.bind (goRd M (b14 + 20) 6 x16) fun x18 =>
    goNm (Int32.toInt64 x18) fun x20 =>
    Option.bind (lX14_meanOf_35 v3 M R N x20 0) fun x38 =>
    goNm (w1 + x38) fun x39 =>
    lX14_meanOf_4 N M R n x39 (v3 + 1)
    else
    some w1
noncomputable def fX14_meanOf (N : Nat) (M : goMI) (R : goMR) : Option (Int64) :=
  Option.bind (lX14_meanOf_4 N M R N 0 0) fun x42 =>
  some x42
noncomputable def fX14_swaps (M : goMI) (v1 : Int32) (v2 : Int32) : Option (goMI) :=
  Option.bind (goRd M 118 6 v1) fun x11 =>
  Option.bind (goRd M 118 6 v2) fun x13 =>
  Option.bind (goWr M 118 6 v1 x13) fun M15 =>
  Option.bind (goWr M15 118 6 v2 x11) fun M17 =>
  some M17
noncomputable def lX14_turns_4 (M : goMI) : Nat → Int32 → Option (Int32)
  | 0, _ => none
  | n + 1, v2 =>
    if 0 ≤ v2 then
    Option.bind (goRd M 118 6 v2) fun x14 =>
    Option.bind (goRd M 118 6 (v2 + 1)) fun x16 =>
    if x16 < x14 then
    lX14_turns_4 M n (v2 + (-1))
    else
    some v2
    else
    some v2
noncomputable def lX14_turns_41 (v2 : Int32) (M : goMI) : Nat → Int32 → Option (Int32)
  | 0, _ => none
  | n + 1, v3 =>
    Option.bind (goRd M 118 6 v3) fun x24 =>
    Option.bind (goRd M 118 6 v2) fun x26 =>
    if x24 < x26 then
    lX14_turns_41 v2 M n (v3 + (-1))
    else
    some v3
noncomputable def lX14_turns_78 : Nat → Int32 → Int32 → goMI → Option (goMI)
  | 0, _, _, _ => none
  | n + 1, v4, v5, M =>
    if v4 < v5 then
    Option.bind (fX14_swaps M v4 v5) fun M38 =>
    lX14_turns_78 n (v4 + 1) (v5 + (-1)) M38
    else
    some M
noncomputable def fX14_turns (N : Nat) (M : goMI) (v1 : Int32) : Option (Int32 × goMI) :=
  goNm (v1 - 2) fun x11 =>
  Option.bind (lX14_turns_4 M N x11) fun x20 =>
  if x20 < 0 then
  some (0, M)
  else
  goNm (v1 - 1) fun x22 =>
  Option.bind (lX14_turns_41 x20 M N x22) fun x30 =>
  Option.bind (fX14_swaps M x20 x30) fun M31 =>
  goNm (x20 + 1) fun x33 =>
  goNm (v1 - 1) fun x35 =>
  Option.bind (lX14_turns_78 N x33 x35 M31) fun M41 =>
  some (1, M41)
noncomputable def lX14_leastMean_2 : Nat → Int32 → goMI → Option (goMI)
  | 0, _, _ => none
  | n + 1, v1, M =>
    if v1 < 6 then
    Option.bind (goWr M 118 6 v1 v1) fun M12 =>
    lX14_leastMean_2 n (v1 + 1) M12
    else
    some M
noncomputable def lX14_leastMean_56 : Nat → Int32 → goMI → Option (goMI)
  | 0, _, _ => none
  | n + 1, v6, M =>
    if v6 < 6 then
    Option.bind (goRd M 118 6 v6) fun x25 =>
    Option.bind (goWr M 119 6 v6 x25) fun M27 =>
    lX14_leastMean_56 n (v6 + 1) M27
    else
    some M
noncomputable def lX14_leastMean_27 (N : Nat) (R : goMR) : Nat → Int64 → Int32 → goMI → Option (Int64 × goMI)
  | 0, _, _, _ => none
  | n + 1, w1, v3, M =>
    if v3 = 0 then
    some (w1, M)
    else
    Option.bind (fX14_meanOf N M R) fun x17 =>
    goB2 (if 0 ≤ (lg_cmp w1 0) then
    if (lg_cmp x17 w1) < 0 then
    Option.bind (lX14_leastMean_56 N 0 M) fun M38 =>
    some (x17, M38)
    else
    some (w1, M)
    else
    Option.bind (lX14_leastMean_56 N 0 M) fun M30 =>
    some (x17, M30)) fun x19 M20 =>
    Option.bind (R 102 3) fun b39 =>
    goB2 (fX14_turns N M20 (M20 b39 11)) fun x41 M42 =>
    lX14_leastMean_27 N R n x19 x41 M42
noncomputable def fX14_leastMean (N : Nat) (M : goMI) (R : goMR) : Option (Int64 × goMI) :=
  Option.bind (lX14_leastMean_2 N 0 M) fun M15 =>
  goB2 (lX14_leastMean_27 N R N (-1) 1 M15) fun x45 M46 =>
  some (x45, M46)
noncomputable def fX14_appeals (N : Nat) (M : goMI) (R : goMR) : Option (Int64 × goMI) :=
  goNm (goWI M 102 0 0) fun M11 =>
  if R 102 3 = none then
  goB2 (fX14_refused M11 1) fun x20 M21 =>
  some ((Int32.toInt64 x20), M21)
  else
  goB2 (fX14_good M11 0) fun x14 M15 =>
  goB2 (fX14_leastMean N M15 R) fun x17 M18 =>
  some (x17, M18)
noncomputable def fX14_appealAt (N : Nat) (M : goMI) (R : goMR) (v1 : Int32) : Option (Int32 × goMI) :=
  goNm (goWI M 102 0 0) fun M11 =>
  if R 102 3 = none then
  goB2 (fX14_refused M11 1) fun x14 M15 =>
  some (x14, M15)
  else
  if 0 ≤ v1 then
  Option.bind (R 102 3) fun b21 =>
  if (M11 b21 11) ≤ v1 then
  goB2 (fX14_refused M11 1) fun x32 M33 =>
  some (x32, M33)
  else
  goB2 (fX14_leastMean N M11 R) fun x24 M25 =>
  Option.bind (goRd M25 119 6 v1) fun x27 =>
  goB2 (fX14_good M25 x27) fun x29 M30 =>
  some (x29, M30)
  else
  goB2 (fX14_refused M11 1) fun x18 M19 =>
  some (x18, M19)
noncomputable def lX14_keeps_11 : Nat → Int32 → goMI → Option (goMI)
  | 0, _, _ => none
  | n + 1, v1, M =>
    if v1 < 270 then
    Option.bind (goRd M 106 288 (v1 + 18)) fun x16 =>
    Option.bind (goWr M 106 288 v1 x16) fun M18 =>
    lX14_keeps_11 n (v1 + 1) M18
    else
    some M
noncomputable def lX14_keeps_51 : Nat → Int32 → goMI → Option (goMI)
  | 0, _, _ => none
  | n + 1, v1, M =>
    if v1 < 18 then
    Option.bind (goRd M 105 18 v1) fun x25 =>
    Option.bind (goWr M 106 288 ((18 * (M 102 21)) + v1) x25) fun M27 =>
    lX14_keeps_51 n (v1 + 1) M27
    else
    some M
noncomputable def fX14_keeps (N : Nat) (M : goMI) : Option (goMI) :=
  Option.bind (if (M 102 21) = 16 then
  Option.bind (lX14_keeps_11 N 0 M) fun M21 =>
  goNm (goWI M21 102 21 ((M21 102 21) - 1)) fun M22 =>
  some M22
  else
  some M) fun M11 =>
  Option.bind (lX14_keeps_51 N 0 M11) fun M30 =>
  goNm (goWI M30 102 21 ((M30 102 21) + 1)) fun M31 =>
  some M31
noncomputable def lX14_spots_4 (N : Nat) (v1 : Int32) (M : goMI) : Nat → Int32 → Int32 → Option (Int32)
  | 0, _, _ => none
  | n + 1, v2, v3 =>
    if v3 < 8 then
    Option.bind (goRd M 105 18 (v1 + v3)) fun x12 =>
    Option.bind (fX14_bits N x12) fun x14 =>
    goNm (v2 + x14) fun x16 =>
    lX14_spots_4 N v1 M n x16 (v3 + 1)
    else
    some v2
noncomputable def fX14_spots (N : Nat) (M : goMI) (v1 : Int32) : Option (Int32) :=
  Option.bind (lX14_spots_4 N v1 M N 0 0) fun x19 =>
  some x19
noncomputable def fX14_puts (N : Nat) (M : goMI) (R : goMR) (v1 : Int32) (v2 : Int32) (v3 : Int32) (v4 : Int32) : Option (Int32 × goMI) :=
  Option.bind (fX14_isPlace M R v2) fun x11 =>
  if x11 = 0 then
  goB2 (fX14_denied M 1) fun x61 M62 =>
  Option.bind (goZr x61) fun x64 =>
  some (x64, M62)
  else
  Option.bind (fX14_isHour M R v3) fun x14 =>
  if x14 = 0 then
  goB2 (fX14_denied M 2) fun x56 M57 =>
  Option.bind (goZr x56) fun x59 =>
  some (x59, M57)
  else
  Option.bind (goRd M 105 18 (v1 + v2)) fun x17 =>
  if (fX14_bit x17 v3) = v4 then
  goB2 (fX14_denied M 5) fun x51 M52 =>
  Option.bind (goZr x51) fun x54 =>
  some (x54, M52)
  else
  if v4 = 0 then
  Option.bind (fX14_keeps N M) fun M21 =>
  Option.bind (goRd M21 105 18 (v1 + v2)) fun x23 =>
  Option.bind (goWr M21 105 18 (v1 + v2) (x23 ^^^ (1 <<< (v3 &&& 31)))) fun M25 =>
  goB2 (fX14_granted M25) fun x27 M28 =>
  Option.bind (goZr x27) fun x30 =>
  some (x30, M28)
  else
  Option.bind (fX14_spots N M v1) fun x32 =>
  if x32 = 4 then
  goB2 (fX14_denied M 3) fun x46 M47 =>
  Option.bind (goZr x46) fun x49 =>
  some (x49, M47)
  else
  Option.bind (fX14_keeps N M) fun M35 =>
  Option.bind (goRd M35 105 18 (v1 + v2)) fun x37 =>
  Option.bind (goWr M35 105 18 (v1 + v2) (x37 ^^^ (1 <<< (v3 &&& 31)))) fun M39 =>
  goB2 (fX14_granted M39) fun x41 M42 =>
  Option.bind (goZr x41) fun x44 =>
  some (x44, M42)
noncomputable def fX14_salt (N : Nat) (M : goMI) (R : goMR) (v1 : Int32) (v2 : Int32) (v3 : Int32) : Option (Int32 × goMI) :=
  goNm (goWI M 102 0 0) fun M11 =>
  goB2 (fX14_puts N M11 R 0 v1 v2 v3) fun x13 M14 =>
  Option.bind (goZr x13) fun x16 =>
  some (x16, M14)
noncomputable def fX14_dog (N : Nat) (M : goMI) (R : goMR) (v1 : Int32) (v2 : Int32) (v3 : Int32) : Option (Int32 × goMI) :=
  goNm (goWI M 102 0 0) fun M11 =>
  goB2 (fX14_puts N M11 R 8 v1 v2 v3) fun x13 M14 =>
  Option.bind (goZr x13) fun x16 =>
  some (x16, M14)
noncomputable def fX14_hedge (N : Nat) (M : goMI) (R : goMR) (v1 : Int32) (v2 : Int32) : Option (Int32 × goMI) :=
  goNm (goWI M 102 0 0) fun M11 =>
  if R 102 3 = none then
  goB2 (fX14_denied M11 1) fun x14 M15 =>
  Option.bind (goZr x14) fun x17 =>
  some (x17, M15)
  else
  if 0 ≤ v1 then
  Option.bind (R 102 3) fun b25 =>
  if (M11 b25 3) ≤ v1 then
  goB2 (fX14_denied M11 1) fun x47 M48 =>
  Option.bind (goZr x47) fun x50 =>
  some (x50, M48)
  else
  Option.bind (goRd M11 105 18 16) fun x28 =>
  if (fX14_bit x28 v1) = v2 then
  goB2 (fX14_denied M11 5) fun x42 M43 =>
  Option.bind (goZr x42) fun x45 =>
  some (x45, M43)
  else
  Option.bind (fX14_keeps N M11) fun M31 =>
  Option.bind (goRd M31 105 18 16) fun x33 =>
  Option.bind (goWr M31 105 18 16 (x33 ^^^ (1 <<< (v1 &&& 31)))) fun M35 =>
  goB2 (fX14_granted M35) fun x37 M38 =>
  Option.bind (goZr x37) fun x40 =>
  some (x40, M38)
  else
  goB2 (fX14_denied M11 1) fun x20 M21 =>
  Option.bind (goZr x20) fun x23 =>
  some (x23, M21)
noncomputable def fX14_hear (N : Nat) (M : goMI) (R : goMR) (v1 : Int32) (v2 : Int32) : Option (Int32 × goMI) :=
  goNm (goWI M 102 0 0) fun M11 =>
  Option.bind (fX14_isGoat M11 R v1) fun x13 =>
  if x13 = 0 then
  goB2 (fX14_denied M11 1) fun x35 M36 =>
  Option.bind (goZr x35) fun x38 =>
  some (x38, M36)
  else
  Option.bind (fX14_isHeard M11 v1) fun x16 =>
  if x16 = v2 then
  goB2 (fX14_denied M11 5) fun x30 M31 =>
  Option.bind (goZr x30) fun x33 =>
  some (x33, M31)
  else
  Option.bind (fX14_keeps N M11) fun M19 =>
  Option.bind (goRd M19 105 18 17) fun x21 =>
  Option.bind (goWr M19 105 18 17 (x21 ^^^ (1 <<< (v1 &&& 31)))) fun M23 =>
  goB2 (fX14_granted M23) fun x25 M26 =>
  Option.bind (goZr x25) fun x28 =>
  some (x28, M26)
noncomputable def lX14_undo_38 : Nat → Int32 → goMI → Option (goMI)
  | 0, _, _ => none
  | n + 1, v1, M =>
    if v1 < 18 then
    Option.bind (goRd M 106 288 ((18 * (M 102 21)) + v1)) fun x23 =>
    Option.bind (goWr M 105 18 v1 x23) fun M25 =>
    lX14_undo_38 n (v1 + 1) M25
    else
    some M
noncomputable def fX14_undo (N : Nat) (M : goMI) (R : goMR) : Option (Int32 × goMI) :=
  goNm (goWI M 102 0 0) fun M11 =>
  if R 102 3 = none then
  goB2 (fX14_denied M11 6) fun x14 M15 =>
  Option.bind (goZr x14) fun x17 =>
  some (x17, M15)
  else
  if (M11 102 21) = 0 then
  goB2 (fX14_denied M11 6) fun x34 M35 =>
  Option.bind (goZr x34) fun x37 =>
  some (x37, M35)
  else
  goNm (goWI M11 102 21 ((M11 102 21) - 1)) fun M20 =>
  Option.bind (lX14_undo_38 N 0 M20) fun M28 =>
  goB2 (fX14_granted M28) fun x29 M30 =>
  Option.bind (goZr x29) fun x32 =>
  some (x32, M30)
noncomputable def lX14_mark_34 : Nat → Int32 → goMI → Option (goMI)
  | 0, _, _ => none
  | n + 1, v1, M =>
    if v1 < 18 then
    Option.bind (goRd M 105 18 v1) fun x16 =>
    Option.bind (goWr M 107 54 ((18 * (M 102 22)) + v1) x16) fun M18 =>
    lX14_mark_34 n (v1 + 1) M18
    else
    some M
noncomputable def fX14_mark (N : Nat) (M : goMI) (R : goMR) : Option (Int32 × goMI) :=
  goNm (goWI M 102 0 0) fun M11 =>
  if R 102 3 = none then
  goB2 (fX14_refused M11 1) fun x30 M31 =>
  some (x30, M31)
  else
  if (M11 102 22) = 3 then
  goB2 (fX14_refused M11 3) fun x27 M28 =>
  some (x27, M28)
  else
  Option.bind (lX14_mark_34 N 0 M11) fun M21 =>
  goNm (goWI M21 102 22 ((M21 102 22) + 1)) fun M22 =>
  goB2 (fX14_good M22 ((M22 102 22) - 1)) fun x24 M25 =>
  some (x24, M25)
noncomputable def lX14_back_32 (v1 : Int32) : Nat → Int32 → goMI → Option (goMI)
  | 0, _, _ => none
  | n + 1, v2, M =>
    if v2 < 18 then
    Option.bind (goRd M 107 54 ((18 * v1) + v2)) fun x27 =>
    Option.bind (goWr M 105 18 v2 x27) fun M29 =>
    lX14_back_32 v1 n (v2 + 1) M29
    else
    some M
noncomputable def fX14_back (N : Nat) (M : goMI) (R : goMR) (v1 : Int32) : Option (Int32 × goMI) :=
  goNm (goWI M 102 0 0) fun M11 =>
  if R 102 3 = none then
  goB2 (fX14_denied M11 1) fun x14 M15 =>
  Option.bind (goZr x14) fun x17 =>
  some (x17, M15)
  else
  if 0 ≤ v1 then
  if (M11 102 22) ≤ v1 then
  goB2 (fX14_denied M11 1) fun x40 M41 =>
  Option.bind (goZr x40) fun x43 =>
  some (x43, M41)
  else
  Option.bind (lX14_back_32 v1 N 0 M11) fun M32 =>
  goNm (goWI M32 102 21 0) fun M33 =>
  goB2 (fX14_granted M33) fun x35 M36 =>
  Option.bind (goZr x35) fun x38 =>
  some (x38, M36)
  else
  goB2 (fX14_denied M11 1) fun x20 M21 =>
  Option.bind (goZr x20) fun x23 =>
  some (x23, M21)
noncomputable def lX14_put_10 (v1 : Int32) (v2 : Int32) (M : goMI) (R : goMR) : Nat → Int32 → Int32 → Option (Int32 × goMI)
  | 0, _, _ => none
  | n + 1, v3, v4 =>
    if R 102 3 = none then
    goNm (goWI M 102 0 1) fun M14 =>
    some (0, M14)
    else
    if v4 < 96 then
    goNm (α := Int32) (if v2 = 0 then
    0
    else
    8) fun x19 =>
    Option.bind (goRd M 105 18 (x19 + (v4 / 12))) fun x23 =>
    if (fX14_bit x23 (v4 - v4 / 12 * 12)) = 0 then
    lX14_put_10 v1 v2 M R n v3 (v4 + 1)
    else
    if v3 = v1 then
    some (((100 * (v4 / 12)) + (v4 - v4 / 12 * 12)), M)
    else
    lX14_put_10 v1 v2 M R n (v3 + 1) (v4 + 1)
    else
    goNm (goWI M 102 0 1) fun M17 =>
    some (0, M17)
noncomputable def fX14_put (N : Nat) (M : goMI) (R : goMR) (v1 : Int32) (v2 : Int32) : Option (Int32 × goMI) :=
  goNm (goWI M 102 0 0) fun M11 =>
  lX14_put_10 v1 v2 M11 R N 0 0
noncomputable def fX14_size (N : Nat) (M : goMI) (R : goMR) (v1 : Int32) : Option (Int32 × goMI) :=
  goNm (goWI M 102 0 0) fun M11 =>
  if v1 = 14 then
  some ((M11 102 6), M11)
  else
  if (fX14_within v1 0 13) = 0 then
  some ((-1), M11)
  else
  if R 102 3 = none then
  some (0, M11)
  else
  if v1 = 0 then
  Option.bind (R 102 3) fun b18 =>
  some ((M11 b18 0), M11)
  else
  if v1 = 1 then
  Option.bind (R 102 3) fun b21 =>
  some ((M11 b21 1), M11)
  else
  if v1 = 2 then
  Option.bind (R 102 3) fun b24 =>
  some ((M11 b24 2), M11)
  else
  if v1 = 3 then
  Option.bind (R 102 3) fun b27 =>
  some ((M11 b27 3), M11)
  else
  if v1 = 4 then
  Option.bind (R 102 3) fun b30 =>
  some ((M11 b30 4), M11)
  else
  if v1 = 5 then
  Option.bind (R 102 3) fun b33 =>
  some ((M11 b33 5), M11)
  else
  if v1 = 6 then
  Option.bind (R 102 3) fun b36 =>
  some ((M11 b36 7), M11)
  else
  if v1 = 7 then
  Option.bind (R 102 3) fun b39 =>
  some ((M11 b39 8), M11)
  else
  if v1 = 8 then
  Option.bind (R 102 3) fun b42 =>
  some ((M11 b42 9), M11)
  else
  if v1 = 9 then
  Option.bind (R 102 3) fun b45 =>
  some ((M11 b45 10), M11)
  else
  if v1 = 10 then
  Option.bind (R 102 3) fun b48 =>
  some ((M11 b48 11), M11)
  else
  if v1 = 11 then
  Option.bind (R 102 3) fun b51 =>
  Option.bind (fX13_cases N M11 b51) fun x53 =>
  some (x53, M11)
  else
  if v1 = 12 then
  some ((M11 102 21), M11)
  else
  some ((M11 102 22), M11)
noncomputable def fX14_trouble (M : goMI) : Option (Int32 × goMI) :=
  goNm (goWI M 102 0 0) fun M11 =>
  some ((M11 102 1), M11)
