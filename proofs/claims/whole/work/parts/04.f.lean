def f_J6_bitCount_0f7a4 (x0 : Int32) : Option (Int32 × Unit) :=
  lt (x0 - (((x0.toUInt32 >>> ((1 : Int32).toUInt32 &&& Int32.toUInt32 31)).toInt32) &&& (1431655765 : Int32))) (fun v9 => lt ((v9 &&& (858993459 : Int32)) + (((v9.toUInt32 >>> ((2 : Int32).toUInt32 &&& Int32.toUInt32 31)).toInt32) &&& (858993459 : Int32))) (fun v23 => lt ((v23 + ((v23.toUInt32 >>> ((4 : Int32).toUInt32 &&& Int32.toUInt32 31)).toInt32)) &&& (252645135 : Int32)) (fun v33 => lt (v33 + ((v33.toUInt32 >>> ((8 : Int32).toUInt32 &&& Int32.toUInt32 31)).toInt32)) (fun v40 => lt (v40 + ((v40.toUInt32 >>> ((16 : Int32).toUInt32 &&& Int32.toUInt32 31)).toInt32)) (fun v47 => some (v47 &&& (63 : Int32), ()))))))
def f_X0_add (S_t : G) (x1 : Int32) : Option (Unit × G) :=
  if (96 : Int32) ≤ (S_t.1 2) then (some ((), S_t)) else (if ck (S_t.1 2) 96 = true then (lt (pA S_t 0 (S_t.1 2).toNatClampNeg x1) (fun g18 => lt (pF g18 2 ((g18.1 2) + (1 : Int32))) (fun g26 => some ((), g26)))) else none)
def f_X0_forget (S_t : G) : Option (Unit × G) :=
  lt (pF S_t 2 (0 : Int32)) (fun g2 => some ((), g2))
def f_X0_digitsBehind (x0 : Int32) : Option (Int32 × Unit) :=
  if x0 = (98 : Int32) then (some ((3 : Int32), ())) else (if x0 = (100 : Int32) then (some ((2 : Int32), ())) else (if x0 = (101 : Int32) then (some ((1 : Int32), ())) else (if x0 = (103 : Int32) then (some ((2 : Int32), ())) else (if x0 = (112 : Int32) then (some ((3 : Int32), ())) else (if x0 = (115 : Int32) then (some ((3 : Int32), ())) else (some ((0 : Int32), ())))))))
def f_J0_isLatin1_aae02 : Option (Int32 × Unit) :=
  if (1 : Int32) = 0 then (some ((0 : Int32), ())) else (if (0 : Int32) = 0 then (some ((1 : Int32), ())) else (some ((0 : Int32), ())))
def f_J0_coder_7d493 : Option (Int32 × Unit) :=
  if (1 : Int32) = 0 then (some ((1 : Int32), ())) else (some ((0 : Int32), ()))
def f_J0_length_8abf5 : Option (Int32 × Unit) :=
  bd (f_J0_coder_7d493) (fun r6 u6 => some ((6 : Int32) >>> (r6 &&& 31), ()))
def f_J1_canEncode_9a6ad (x0 : Int32) : Option (Int32 × Unit) :=
  if x0 < 0 then (some ((0 : Int32), ())) else (if (255 : Int32) < x0 then (some ((0 : Int32), ())) else (some ((1 : Int32), ())))
def b_J1_indexOfChar_4cfef_7 (k7 : Int32 → Int32 → Int32 → Option (Int32 × Unit)) (l3 : Int32) (l4 : Int32) (l5 : Int32) : Option (Int32 × Unit) :=
  if l3 ≤ l5 then (some ((-1 : Int32), ())) else (if ck l5 6 = true then (if ([(112 : Int32), 99, 119, 100, 108, 111].getD l5.toNatClampNeg 0) = l4 then (some (l5, ())) else (k7 l3 l4 (l5 + (1 : Int32)))) else none)
def f_J1_indexOfChar_4cfef_7 : Nat → Int32 → Int32 → Int32 → Option (Int32 × Unit)
  | 0 => fun _ _ _ => none
  | n + 1 => b_J1_indexOfChar_4cfef_7 (f_J1_indexOfChar_4cfef_7 n)
def f_J1_indexOfChar_4cfef (x1 : Int32) (x2 : Int32) (x3 : Int32) : Option (Int32 × Unit) :=
  f_J1_indexOfChar_4cfef_7 1000 x3 x1.toInt8.toInt32 x2
def f_J1_indexOf_4cfef (x1 : Int32) (x2 : Int32) (x3 : Int32) : Option (Int32 × Unit) :=
  bd (f_J1_canEncode_9a6ad x1) (fun r1 u1 => if r1 = 0 then (some ((-1 : Int32), ())) else (lt (if x2 < (0 : Int32) then (0 : Int32) else x2) (fun v14 => lt (if (6 : Int32) < x3 then (6 : Int32) else x3) (fun v21 => if v14 < v21 then (bd (f_J1_indexOfChar_4cfef x1 v14 v21) (fun r33 u33 => some (r33, ()))) else (some ((-1 : Int32), ()))))))
def f_J0_indexOf_7cf53 (x1 : Int32) (x2 : Int32) : Option (Int32 × Unit) :=
  bd (f_J0_isLatin1_aae02) (fun r1 u1 => if r1 = 0 then (bd (f_J0_length_8abf5) (fun r30 u30 => none)) else (bd (f_J0_length_8abf5) (fun r14 u14 => bd (f_J1_indexOf_4cfef x1 x2 r14) (fun r17 u17 => some (r17, ())))))
def f_J0_indexOf_0f7a4 (x1 : Int32) : Option (Int32 × Unit) :=
  bd (f_J0_indexOf_7cf53 x1 (0 : Int32)) (fun r3 u3 => some (r3, ()))
def f_X0_kindBy (x0 : Int32) : Option (Int32 × Unit) :=
  bd (f_J0_indexOf_0f7a4 ((x0.toUInt32 % 65536).toInt32)) (fun r4 u4 => some (r4, ()))
def b_X0_faultOfForm_9 (k9 : G → Int32 → Int32 → Int32 → Int32 → Option (Int32 × G)) (S_t : G) (l1 : Int32) (l2 : Int32) (l3 : Int32) (l4 : Int32) : Option (Int32 × G) :=
  if (S_t.1 2) ≤ l4 then (if l1 = 0 then (if (S_t.1 2) = 0 then (some (S_t.1 2, S_t)) else (some ((-9 : Int32), S_t))) else (some (S_t.1 2, S_t))) else (if ck l4 96 = true then (if l1 = 0 then (bd (f_X0_digitsBehind (S_t.2 0 l4.toNatClampNeg)) (fun r33 u33 => if r33 = 0 then (some (l4, S_t)) else (if (S_t.2 0 l4.toNatClampNeg) = (112 : Int32) then (k9 S_t (1 : Int32) (1 : Int32) r33 (l4 + (1 : Int32))) else (k9 S_t (1 : Int32) (0 : Int32) r33 (l4 + (1 : Int32)))))) else (if l2 = 0 then (if l3 ≤ 0 then (if (S_t.2 0 l4.toNatClampNeg) = (59 : Int32) then (k9 S_t (0 : Int32) l2 l3 (l4 + (1 : Int32))) else (some (l4, S_t))) else (if (S_t.2 0 l4.toNatClampNeg) < (48 : Int32) then (some (l4, S_t)) else (if (S_t.2 0 l4.toNatClampNeg) ≤ (57 : Int32) then (k9 S_t l1 l2 (l3 + (-1 : Int32)) (l4 + (1 : Int32))) else (some (l4, S_t))))) else (bd (f_X0_kindBy (S_t.2 0 l4.toNatClampNeg)) (fun r68 u68 => if 0 ≤ r68 then (k9 S_t l1 (0 : Int32) l3 (l4 + (1 : Int32))) else (some (l4, S_t)))))) else none)
def f_X0_faultOfForm_9 : Nat → G → Int32 → Int32 → Int32 → Int32 → Option (Int32 × G)
  | 0 => fun _ _ _ _ _ => none
  | n + 1 => b_X0_faultOfForm_9 (f_X0_faultOfForm_9 n)
def f_X0_faultOfForm (S_t : G) : Option (Int32 × G) :=
  f_X0_faultOfForm_9 1000 S_t (0 : Int32) (0 : Int32) (0 : Int32) (0 : Int32)
def f_X4_become (S_t : G) (S_p1 : G) : Option (Unit × G × G) :=
  lt (pF S_t 0 (S_p1.1 0)) (fun g5 => lt (pC g5 1 (va_cpy (S_p1.2 1) (g5.2 1) 0 0 6)) (fun g20 => lt (pC g20 2 (va_cpy (S_p1.2 2) (g20.2 2) 0 0 6)) (fun g35 => lt (pF g35 3 (S_p1.1 3)) (fun g43 => lt (pC g43 4 (va_cpy (S_p1.2 4) (g43.2 4) 0 0 8)) (fun g58 => lt (pC g58 5 (va_cpy (S_p1.2 5) (g58.2 5) 0 0 8)) (fun g73 => lt (pC g73 6 (va_cpy (S_p1.2 6) (g73.2 6) 0 0 8)) (fun g88 => lt (pC g88 7 (va_cpy (S_p1.2 7) (g88.2 7) 0 0 8)) (fun g103 => lt (pF g103 8 (S_p1.1 8)) (fun g111 => lt (pF g111 9 (S_p1.1 9)) (fun g119 => some ((), (g119, S_p1))))))))))))
def f_X0_signAt (S_t : G) (x1 : Int32) : Option (Int32 × G) :=
  if x1 < 0 then (some ((48 : Int32), S_t)) else (if (S_t.1 2) ≤ x1 then (some ((48 : Int32), S_t)) else (if ck x1 96 = true then (some (S_t.2 0 x1.toNatClampNeg, S_t)) else none))
def b_X0_number_5 (k5 : G → Int32 → Int32 → Int32 → Int32 → Option (Int32 × G)) (S_t : G) (l1 : Int32) (l2 : Int32) (l3 : Int32) (l4 : Int32) : Option (Int32 × G) :=
  if l2 ≤ l4 then (some (l3, S_t)) else (bd (f_X0_signAt S_t (l1 + l4)) (fun r20 u20 => lt ((((10 : Int32) * l3) + r20) - (48 : Int32)) (fun v27 => k5 u20 l1 l2 v27 (l4 + (1 : Int32)))))
def f_X0_number_5 : Nat → G → Int32 → Int32 → Int32 → Int32 → Option (Int32 × G)
  | 0 => fun _ _ _ _ _ => none
  | n + 1 => b_X0_number_5 (f_X0_number_5 n)
def f_X0_number (S_t : G) (x1 : Int32) (x2 : Int32) : Option (Int32 × G) :=
  f_X0_number_5 1000 S_t x1 x2 (0 : Int32) (0 : Int32)
def f_X4_addBell (S_t : G) (x1 : Int32) (x2 : Int32) : Option (Int32 × G) :=
  if (6 : Int32) ≤ (S_t.1 0) then (some ((0 : Int32), S_t)) else (if (24 : Int32) ≤ x1 then (some ((0 : Int32), S_t)) else (if (1 : Int32) ≤ x2 then (if ck (S_t.1 0) 6 = true then (lt (pA S_t 1 (S_t.1 0).toNatClampNeg x1) (fun g31 => if ck (g31.1 0) 6 = true then (lt (pA g31 2 (g31.1 0).toNatClampNeg x2) (fun g41 => lt (pF g41 0 ((g41.1 0) + (1 : Int32))) (fun g49 => some ((1 : Int32), g49)))) else none)) else none) else (some ((0 : Int32), S_t))))
def f_X4_addPerson (S_t : G) (x1 : Int32) (x2 : Int32) (x3 : Int32) : Option (Int32 × G) :=
  if (S_t.1 3) < (8 : Int32) then (if ck (S_t.1 3) 8 = true then (lt (pA S_t 4 (S_t.1 3).toNatClampNeg x1) (fun g20 => if ck (g20.1 3) 8 = true then (lt (pA g20 5 (g20.1 3).toNatClampNeg x2) (fun g30 => if ck (g30.1 3) 8 = true then (lt (pA g30 6 (g30.1 3).toNatClampNeg x3) (fun g40 => if ck (g40.1 3) 8 = true then (lt (pA g40 7 (g40.1 3).toNatClampNeg (0 : Int32)) (fun g50 => lt (pF g50 3 ((g50.1 3) + (1 : Int32))) (fun g58 => some ((1 : Int32), g58)))) else none)) else none)) else none)) else none) else (some ((0 : Int32), S_t))
def f_X0_stateAway (S_t : G) (S_t_1 : G) (x1 : Int32) (x2 : Int32) : Option (Int32 × G × G) :=
  if x1 < (S_t_1.1 3) then (if ck x1 8 = true then (lt (pA S_t_1 7 x1.toNatClampNeg x2) (fun g22 => some ((1 : Int32), (S_t, g22)))) else none) else (some ((0 : Int32), (S_t, S_t_1)))
def f_X0_stateSlept (S_t : G) (S_t_1 : G) (x1 : Int32) (x2 : Int32) : Option (Int32 × G × G) :=
  if x1 < (S_t_1.1 3) then (if ck x1 8 = true then (lt (pA S_t_1 6 x1.toNatClampNeg x2) (fun g22 => some ((1 : Int32), (S_t, g22)))) else none) else (some ((0 : Int32), (S_t, S_t_1)))
def f_X0_stateBeds (S_t : G) (S_t_1 : G) (x1 : Int32) : Option (Int32 × G × G) :=
  if x1 < (1 : Int32) then (some ((0 : Int32), (S_t, S_t_1))) else (if x1 ≤ (8 : Int32) then (lt (pF S_t_1 9 x1) (fun g18 => some ((1 : Int32), (S_t, g18)))) else (some ((0 : Int32), (S_t, S_t_1))))
def b_X4_daysTillReturn_4 (k4 : G → Int32 → Int32 → Option (Int32 × G)) (S_t : G) (l2 : Int32) (l3 : Int32) : Option (Int32 × G) :=
  if (S_t.1 3) ≤ l3 then (some (l2, S_t)) else (if ck l3 8 = true then (if (S_t.2 7 l3.toNatClampNeg) ≤ 0 then (k4 S_t l2 (l3 + (1 : Int32))) else (if ck l3 8 = true then (if l2 ≤ (S_t.2 7 l3.toNatClampNeg) then (k4 S_t l2 (l3 + (1 : Int32))) else (if ck l3 8 = true then (k4 S_t (S_t.2 7 l3.toNatClampNeg) (l3 + (1 : Int32))) else none)) else none)) else none)
def f_X4_daysTillReturn_4 : Nat → G → Int32 → Int32 → Option (Int32 × G)
  | 0 => fun _ _ _ => none
  | n + 1 => b_X4_daysTillReturn_4 (f_X4_daysTillReturn_4 n)
def f_X4_daysTillReturn (S_t : G) (x1 : Int32) : Option (Int32 × G) :=
  f_X4_daysTillReturn_4 1000 S_t x1 (0 : Int32)
def b_X4_passAlike_17 (k17 : G → Int32 → Int32 → Int32 → Option (Unit × G)) (S_t : G) (l1 : Int32) (l2 : Int32) (l3 : Int32) : Option (Unit × G) :=
  if (S_t.1 3) ≤ l3 then (some ((), S_t)) else (if ck l3 8 = true then (if (S_t.2 7 l3.toNatClampNeg) ≤ 0 then (if l2 ≤ 0 then (if ck l3 8 = true then (if ck l3 8 = true then (lt (pA S_t 6 l3.toNatClampNeg (if (0 : Int32) < ((S_t.2 6 l3.toNatClampNeg) - l1) then ((S_t.2 6 l3.toNatClampNeg) - l1) else (0 : Int32))) (fun g113 => k17 g113 l1 l2 (l3 + (1 : Int32)))) else none) else none) else (if ck l3 8 = true then (if ck l3 8 = true then (lt (pA S_t 6 l3.toNatClampNeg (if ((S_t.2 6 l3.toNatClampNeg) + l1) < (99 : Int32) then ((S_t.2 6 l3.toNatClampNeg) + l1) else (99 : Int32))) (fun g89 => k17 g89 l1 (l2 + (-1 : Int32)) (l3 + (1 : Int32)))) else none) else none)) else (if ck l3 8 = true then (if ck l3 8 = true then (lt (pA S_t 6 l3.toNatClampNeg (if (0 : Int32) < ((S_t.2 6 l3.toNatClampNeg) - ((2 : Int32) * l1)) then ((S_t.2 6 l3.toNatClampNeg) - ((2 : Int32) * l1)) else (0 : Int32))) (fun g53 => if ck l3 8 = true then (if ck l3 8 = true then (lt (pA g53 7 l3.toNatClampNeg ((g53.2 7 l3.toNatClampNeg) - l1)) (fun g63 => k17 g63 l1 l2 (l3 + (1 : Int32)))) else none) else none)) else none) else none)) else none)
def f_X4_passAlike_17 : Nat → G → Int32 → Int32 → Int32 → Option (Unit × G)
  | 0 => fun _ _ _ _ => none
  | n + 1 => b_X4_passAlike_17 (f_X4_passAlike_17 n)
def f_X4_passAlike (S_t : G) (x1 : Int32) : Option (Unit × G) :=
  lt (pF S_t 8 ((S_t.1 8) + x1)) (fun g7 => f_X4_passAlike_17 1000 g7 x1 (g7.1 9) (0 : Int32))
def b_X4_pass_4 (k4 : G → Int32 → Int32 → Int32 → Option (Unit × G)) (S_t : G) (l1 : Int32) (l2 : Int32) (l3 : Int32) : Option (Unit × G) :=
  if l1 ≤ l3 then (some ((), S_t)) else (if l2 ≤ 0 then (some ((), S_t)) else (bd (f_X4_daysTillReturn S_t l2) (fun r15 u15 => bd (f_X4_passAlike u15 r15) (fun r23 u23 => k4 u23 l1 (l2 - r15) (l3 + (1 : Int32))))))
def f_X4_pass_4 : Nat → G → Int32 → Int32 → Int32 → Option (Unit × G)
  | 0 => fun _ _ _ _ => none
  | n + 1 => b_X4_pass_4 (f_X4_pass_4 n)
def f_X4_pass (S_t : G) (x1 : Int32) : Option (Unit × G) :=
  f_X4_pass_4 1000 S_t x1 x1 (0 : Int32)
def f_X0_stateDays (S_t : G) (S_t_1 : G) (x1 : Int32) : Option (Int32 × G × G) :=
  if x1 < (1 : Int32) then (some ((0 : Int32), (S_t, S_t_1))) else (if (60 : Int32) < x1 then (some ((0 : Int32), (S_t, S_t_1))) else (if x1 ≤ ((999 : Int32) - (S_t_1.1 8)) then (bd (f_X4_pass S_t_1 x1) (fun r33 u33 => some ((1 : Int32), (S_t, u33)))) else (some ((0 : Int32), (S_t, S_t_1)))))
def f_X0_state (S_t : G) (S_t_1 : G) (x1 : Int32) : Option (Int32 × G × G) :=
  bd (f_X0_signAt S_t x1) (fun r2 u2 => if r2 = (98 : Int32) then (bd (f_X0_number u2 (x1 + (1 : Int32)) (2 : Int32)) (fun r65 u65 => bd (f_X0_number u65 (x1 + (3 : Int32)) (1 : Int32)) (fun r73 u73 => bd (f_X4_addBell S_t_1 r65 r73) (fun r76 u76 => if zb r76 = true then some (r76, (u73, u76)) else none)))) else (if r2 = (101 : Int32) then (bd (f_X0_number u2 (x1 + (1 : Int32)) (1 : Int32)) (fun r162 u162 => bd (f_X0_stateBeds u162 S_t_1 r162) (fun r165 u165 => if zb r165 = true then some (r165, (u165.1, u165.2)) else none))) else (if r2 = (103 : Int32) then (bd (f_X0_number u2 (x1 + (1 : Int32)) (1 : Int32)) (fun r120 u120 => bd (f_X0_number u120 (x1 + (2 : Int32)) (1 : Int32)) (fun r128 u128 => bd (f_X0_stateAway u128 S_t_1 r120 r128) (fun r131 u131 => if zb r131 = true then some (r131, (u131.1, u131.2)) else none)))) else (if r2 = (112 : Int32) then (bd (f_X0_signAt u2 (x1 + (1 : Int32))) (fun r88 u88 => bd (f_X0_kindBy r88) (fun r91 u91 => bd (f_X0_number u88 (x1 + (2 : Int32)) (1 : Int32)) (fun r99 u99 => bd (f_X0_number u99 (x1 + (3 : Int32)) (2 : Int32)) (fun r107 u107 => bd (f_X4_addPerson S_t_1 r91 r99 r107) (fun r110 u110 => if zb r110 = true then some (r110, (u107, u110)) else none)))))) else (if r2 = (115 : Int32) then (bd (f_X0_number u2 (x1 + (1 : Int32)) (1 : Int32)) (fun r141 u141 => bd (f_X0_number u141 (x1 + (2 : Int32)) (2 : Int32)) (fun r149 u149 => bd (f_X0_stateSlept u149 S_t_1 r141 r149) (fun r152 u152 => if zb r152 = true then some (r152, (u152.1, u152.2)) else none)))) else (bd (f_X0_number u2 (x1 + (1 : Int32)) (2 : Int32)) (fun r175 u175 => bd (f_X0_stateDays u175 S_t_1 r175) (fun r178 u178 => if zb r178 = true then some (r178, (u178.1, u178.2)) else none))))))))
def f_X0_tell_56 (k28 : G → G → G → Int32 → Int32 → Option (Int32 × G × G × G)) (S_t : G) (S_t_1 : G) (S_p1 : G) (l3 : Int32) (l4 : Int32) : Option (Int32 × G × G × G) :=
  bd (f_X0_state S_t S_t_1 l4) (fun r59 u59 => if r59 = 0 then (some ((-2000 : Int32) - l4, (u59.1, u59.2, S_p1))) else (k28 u59.1 u59.2 S_p1 (l3 + (1 : Int32)) (l4 + (1 : Int32))))
def b_X0_tell_28 (k28 : G → G → G → Int32 → Int32 → Option (Int32 × G × G × G)) (S_t : G) (S_t_1 : G) (S_p1 : G) (l3 : Int32) (l4 : Int32) : Option (Int32 × G × G × G) :=
  if (S_t.1 2) ≤ l4 then (bd (f_X4_become S_p1 S_t_1) (fun r86 u86 => some (l3, (S_t, u86.2, u86.1)))) else (if l4 = 0 then (f_X0_tell_56 k28 S_t S_t_1 S_p1 l3 l4) else (if ck (l4 - (1 : Int32)) 96 = true then (if (S_t.2 0 (l4 - (1 : Int32)).toNatClampNeg) = (59 : Int32) then (f_X0_tell_56 k28 S_t S_t_1 S_p1 l3 l4) else (k28 S_t S_t_1 S_p1 l3 (l4 + (1 : Int32)))) else none))
def f_X0_tell_28 : Nat → G → G → G → Int32 → Int32 → Option (Int32 × G × G × G)
  | 0 => fun _ _ _ _ _ => none
  | n + 1 => b_X0_tell_28 (f_X0_tell_28 n)
def f_X0_tell (S_t : G) (S_t_1 : G) (S_p1 : G) : Option (Int32 × G × G × G) :=
  bd (f_X0_faultOfForm S_t) (fun r1 u1 => if r1 < 0 then (bd (f_X4_become S_t_1 S_p1) (fun r20 u20 => f_X0_tell_28 1000 u1 u20.1 u20.2 (0 : Int32) (0 : Int32))) else (some ((-1000 : Int32) - r1, (u1, S_t_1, S_p1))))
def f_X1_after (S_t_0 : G) (S_p1 : G) (x2 : Int32) : Option (Unit × G × G) :=
  bd (f_X4_become S_t_0 S_p1) (fun r5 u5 => bd (f_X4_pass u5.1 x2) (fun r13 u13 => some ((), (u13, u5.2))))
def f_X4_nightsOf (S_t : G) (x1 : Int32) : Option (Int32 × G) :=
  if ck x1 8 = true then (if (S_t.2 4 x1.toNatClampNeg) = (1 : Int32) then (some ((0 : Int32), S_t)) else (if (S_t.2 4 x1.toNatClampNeg) = (2 : Int32) then (if ck x1 8 = true then (some ((9 : Int32) + (S_t.2 5 x1.toNatClampNeg), S_t)) else none) else (if (S_t.2 4 x1.toNatClampNeg) = (3 : Int32) then (if ck x1 8 = true then (some ((2 : Int32) * ((9 : Int32) + (S_t.2 5 x1.toNatClampNeg)), S_t)) else none) else (if (S_t.2 4 x1.toNatClampNeg) = (5 : Int32) then (some ((0 : Int32), S_t)) else (some ((9 : Int32), S_t)))))) else none
def f_X4_hearsIt (S_t : G) (x1 : Int32) (x2 : Int32) : Option (Int32 × G) :=
  if ck x1 8 = true then (if (S_t.2 7 x1.toNatClampNeg) ≤ 0 then (if ck x1 8 = true then (bd (f_X4_nightsOf S_t x1) (fun r19 u19 => if (S_t.2 6 x1.toNatClampNeg) < r19 then (some ((1 : Int32), u19)) else (if ck x1 8 = true then (if (u19.2 4 x1.toNatClampNeg) = (5 : Int32) then (if ck x2 6 = true then (if (u19.2 1 x2.toNatClampNeg) = (4 : Int32) then (some ((1 : Int32), u19)) else (some ((0 : Int32), u19))) else none) else (some ((0 : Int32), u19))) else none))) else none) else (some ((0 : Int32), S_t))) else none
def b_X4_hearsSome_2 (k2 : G → Int32 → Int32 → Option (Int32 × G)) (S_t : G) (l1 : Int32) (l2 : Int32) : Option (Int32 × G) :=
  if (S_t.1 0) ≤ l2 then (some ((0 : Int32), S_t)) else (bd (f_X4_hearsIt S_t l1 l2) (fun r13 u13 => if r13 = 0 then (k2 u13 l1 (l2 + (1 : Int32))) else (some ((1 : Int32), u13))))
def f_X4_hearsSome_2 : Nat → G → Int32 → Int32 → Option (Int32 × G)
  | 0 => fun _ _ _ => none
  | n + 1 => b_X4_hearsSome_2 (f_X4_hearsSome_2 n)
def f_X4_hearsSome (S_t : G) (x1 : Int32) : Option (Int32 × G) :=
  f_X4_hearsSome_2 1000 S_t x1 (0 : Int32)
def b_X1_deafAfter_10 (k10 : G → G → Int32 → Int32 → Option (Int32 × G × G)) (S_t_0 : G) (S_p1 : G) (l2 : Int32) (l3 : Int32) : Option (Int32 × G × G) :=
  if (99 : Int32) < l3 then (some ((-9 : Int32), (S_t_0, S_p1))) else (bd (f_X4_hearsSome S_t_0 l2) (fun r21 u21 => if r21 = 0 then (some (l3, (u21, S_p1))) else (bd (f_X4_pass u21 (1 : Int32)) (fun r34 u34 => k10 u34 S_p1 l2 (l3 + (1 : Int32))))))
def f_X1_deafAfter_10 : Nat → G → G → Int32 → Int32 → Option (Int32 × G × G)
  | 0 => fun _ _ _ _ => none
  | n + 1 => b_X1_deafAfter_10 (f_X1_deafAfter_10 n)
def f_X1_deafAfter (S_t_0 : G) (S_p1 : G) (x2 : Int32) : Option (Int32 × G × G) :=
  bd (f_X4_become S_t_0 S_p1) (fun r5 u5 => f_X1_deafAfter_10 1000 u5.1 u5.2 x2 (0 : Int32))
def b_X4_hearersOf_4 (k4 : G → Int32 → Int32 → Int32 → Option (Int32 × G)) (S_t : G) (l1 : Int32) (l2 : Int32) (l3 : Int32) : Option (Int32 × G) :=
  if (S_t.1 3) ≤ l3 then (some (l2, S_t)) else (bd (f_X4_hearsIt S_t l3 l1) (fun r15 u15 => if r15 = 0 then (k4 u15 l1 l2 (l3 + (1 : Int32))) else (lt (l2 ||| ((1 : Int32) <<< (l3 &&& 31))) (fun v26 => k4 u15 l1 v26 (l3 + (1 : Int32))))))
def f_X4_hearersOf_4 : Nat → G → Int32 → Int32 → Int32 → Option (Int32 × G)
  | 0 => fun _ _ _ _ => none
  | n + 1 => b_X4_hearersOf_4 (f_X4_hearersOf_4 n)
def f_X4_hearersOf (S_t : G) (x1 : Int32) : Option (Int32 × G) :=
  f_X4_hearersOf_4 1000 S_t x1 (0 : Int32) (0 : Int32)
def b_X4_silentBells_4 (k4 : G → Int32 → Int32 → Option (Int32 × G)) (S_t : G) (l1 : Int32) (l2 : Int32) : Option (Int32 × G) :=
  if (S_t.1 0) ≤ l2 then (some (l1, S_t)) else (bd (f_X4_hearersOf S_t l2) (fun r14 u14 => if r14 = 0 then (lt (l1 ||| ((1 : Int32) <<< (l2 &&& 31))) (fun v25 => k4 u14 v25 (l2 + (1 : Int32)))) else (k4 u14 l1 (l2 + (1 : Int32)))))
def f_X4_silentBells_4 : Nat → G → Int32 → Int32 → Option (Int32 × G)
  | 0 => fun _ _ _ => none
  | n + 1 => b_X4_silentBells_4 (f_X4_silentBells_4 n)
def f_X4_silentBells (S_t : G) : Option (Int32 × G) :=
  f_X4_silentBells_4 1000 S_t (0 : Int32) (0 : Int32)
def b_X6_leastBit_2 (k2 : Int32 → Int32 → Option (Int32 × Unit)) (l0 : Int32) (l1 : Int32) : Option (Int32 × Unit) :=
  if (8 : Int32) ≤ l1 then (some ((-9 : Int32), ())) else (if ((l0 >>> (l1 &&& 31)) &&& (1 : Int32)) = 0 then (k2 l0 (l1 + (1 : Int32))) else (some (l1, ())))
def f_X6_leastBit_2 : Nat → Int32 → Int32 → Option (Int32 × Unit)
  | 0 => fun _ _ => none
  | n + 1 => b_X6_leastBit_2 (f_X6_leastBit_2 n)
def f_X6_leastBit (x0 : Int32) : Option (Int32 × Unit) :=
  f_X6_leastBit_2 1000 x0 (0 : Int32)
def b_X1_firstLost_19 (k19 : G → G → Int32 → Int32 → Int32 → Option (Int32 × G × G)) (S_t_0 : G) (S_p1 : G) (l2 : Int32) (l3 : Int32) (l4 : Int32) : Option (Int32 × G × G) :=
  if (99 : Int32) < l4 then (some ((-9 : Int32), (S_t_0, S_p1))) else (bd (f_X4_pass S_t_0 (1 : Int32)) (fun r31 u31 => bd (f_X4_silentBells u31) (fun r38 u38 => if (r38 &&& (l3 ^^^ (-1 : Int32))) = 0 then (k19 u38 S_p1 l2 l3 (l4 + (1 : Int32))) else (if l2 = 0 then (some (l4, (u38, S_p1))) else (bd (f_X6_leastBit (r38 &&& (l3 ^^^ (-1 : Int32)))) (fun r58 u58 => some (r58, (u38, S_p1))))))))
def f_X1_firstLost_19 : Nat → G → G → Int32 → Int32 → Int32 → Option (Int32 × G × G)
  | 0 => fun _ _ _ _ _ => none
  | n + 1 => b_X1_firstLost_19 (f_X1_firstLost_19 n)
def f_X1_firstLost (S_t_0 : G) (S_p1 : G) (x2 : Int32) : Option (Int32 × G × G) :=
  bd (f_X4_become S_t_0 S_p1) (fun r5 u5 => bd (f_X4_silentBells u5.1) (fun r12 u12 => f_X1_firstLost_19 1000 u12 u5.2 x2 r12 (1 : Int32)))
def f_X4_isRinging (S_t : G) (x1 : Int32) : Option (Int32 × G) :=
  if ck x1 6 = true then (if (S_t.2 2 x1.toNatClampNeg) ≤ 0 then (some ((0 : Int32), S_t)) else (if ck x1 6 = true then (if S_t.2 2 x1.toNatClampNeg = 0 then none else if ((S_t.1 8) - (S_t.1 8) / (S_t.2 2 x1.toNatClampNeg) * (S_t.2 2 x1.toNatClampNeg)) = 0 then (some ((1 : Int32), S_t)) else (some ((0 : Int32), S_t))) else none)) else none
def f_X4_hoursLater (S_t : G) (x1 : Int32) : Option (Int32 × G) :=
  if ck x1 8 = true then (if (S_t.2 4 x1.toNatClampNeg) = (3 : Int32) then (some ((1 : Int32), S_t)) else (if (S_t.2 4 x1.toNatClampNeg) = (4 : Int32) then (if ck x1 8 = true then (some (S_t.2 5 x1.toNatClampNeg, S_t)) else none) else (some ((0 : Int32), S_t)))) else none
def b_X4_saidOf_52 (k52 : G → Int32 → Int64 → Int32 → Int32 → Int32 → Option (Int32 × G)) (S_t : G) (l1 : Int32) (l3 : Int64) (l5 : Int32) (l6 : Int32) (l7 : Int32) : Option (Int32 × G) :=
  if (9 : Int32) < l7 then (some (l5, S_t)) else (lt (((l3 >>> (((4 : Int32) * l7).toInt64 &&& 63)).toInt32) &&& (15 : Int32)) (fun v69 => if ck l1 6 = true then (if (24 : Int32) = 0 then none else lt (((S_t.2 1 l1.toNatClampNeg) + l7) - ((S_t.2 1 l1.toNatClampNeg) + l7) / (24 : Int32) * (24 : Int32)) (fun v83 => if l6 < v69 then (k52 S_t l1 l3 v83 v69 (l7 + (1 : Int32))) else (if v69 = l6 then (if l5 ≤ v83 then (k52 S_t l1 l3 l5 l6 (l7 + (1 : Int32))) else (k52 S_t l1 l3 v83 v69 (l7 + (1 : Int32)))) else (k52 S_t l1 l3 l5 l6 (l7 + (1 : Int32)))))) else none))
def f_X4_saidOf_52 : Nat → G → Int32 → Int64 → Int32 → Int32 → Int32 → Option (Int32 × G)
  | 0 => fun _ _ _ _ _ _ => none
  | n + 1 => b_X4_saidOf_52 (f_X4_saidOf_52 n)
def b_X4_saidOf_5 (k5 : G → Int32 → Int32 → Int64 → Int32 → Option (Int32 × G)) (S_t : G) (l1 : Int32) (l2 : Int32) (l3 : Int64) (l5 : Int32) : Option (Int32 × G) :=
  if (S_t.1 3) ≤ l5 then (f_X4_saidOf_52 1000 S_t l1 l3 (-9 : Int32) (0 : Int32) (0 : Int32)) else (if ((l2 >>> (l5 &&& 31)) &&& (1 : Int32)) = 0 then (k5 S_t l1 l2 l3 (l5 + (1 : Int32))) else (bd (f_X4_hoursLater S_t l5) (fun r29 u29 => lt (l3 + ((1 : Int64) <<< (((4 : Int32) * r29).toInt64 &&& 63))) (fun v35 => k5 u29 l1 l2 v35 (l5 + (1 : Int32))))))
def f_X4_saidOf_5 : Nat → G → Int32 → Int32 → Int64 → Int32 → Option (Int32 × G)
  | 0 => fun _ _ _ _ _ => none
  | n + 1 => b_X4_saidOf_5 (f_X4_saidOf_5 n)
def f_X4_saidOf (S_t : G) (x1 : Int32) (x2 : Int32) : Option (Int32 × G) :=
  f_X4_saidOf_5 1000 S_t x1 x2 (0 : Int64) (0 : Int32)
def b_X4_passCountingRight_20 (k6 : G → Int32 → Int32 → Int32 → Int32 → Int32 → Option (Int32 × G)) (k20 : G → Int32 → Int32 → Int32 → Int32 → Int32 → Int32 → Option (Int32 × G)) (S_t : G) (l1 : Int32) (l2 : Int32) (l3 : Int32) (l4 : Int32) (l5 : Int32) (l6 : Int32) : Option (Int32 × G) :=
  if l2 ≤ l6 then (k6 S_t l1 l2 l3 l4 (l5 + (1 : Int32))) else (bd (f_X4_isRinging S_t l6) (fun r29 u29 => if r29 = 0 then (k20 u29 l1 l2 l3 l4 l5 (l6 + (1 : Int32))) else (bd (f_X4_hearersOf u29 l6) (fun r41 u41 => bd (f_X4_saidOf u41 l6 r41) (fun r44 u44 => if ck l6 6 = true then (if r44 = (u44.2 1 l6.toNatClampNeg) then (k20 u44 l1 l2 l3 (l4 + (1 : Int32)) l5 (l6 + (1 : Int32))) else (k20 u44 l1 l2 l3 l4 l5 (l6 + (1 : Int32)))) else none)))))
def f_X4_passCountingRight_20 (k6 : G → Int32 → Int32 → Int32 → Int32 → Int32 → Option (Int32 × G)) : Nat → G → Int32 → Int32 → Int32 → Int32 → Int32 → Int32 → Option (Int32 × G)
  | 0 => fun _ _ _ _ _ _ _ => none
  | n + 1 => b_X4_passCountingRight_20 k6 (f_X4_passCountingRight_20 k6 n)
def b_X4_passCountingRight_6 (k6 : G → Int32 → Int32 → Int32 → Int32 → Int32 → Option (Int32 × G)) (S_t : G) (l1 : Int32) (l2 : Int32) (l3 : Int32) (l4 : Int32) (l5 : Int32) : Option (Int32 × G) :=
  if l3 < l5 then (some (l4, S_t)) else (bd (f_X4_pass S_t (1 : Int32)) (fun r14 u14 => f_X4_passCountingRight_20 k6 1000 u14 l1 l2 l3 l4 l5 l1))
def f_X4_passCountingRight_6 : Nat → G → Int32 → Int32 → Int32 → Int32 → Int32 → Option (Int32 × G)
  | 0 => fun _ _ _ _ _ _ => none
  | n + 1 => b_X4_passCountingRight_6 (f_X4_passCountingRight_6 n)
def f_X4_passCountingRight (S_t : G) (x1 : Int32) (x2 : Int32) (x3 : Int32) : Option (Int32 × G) :=
  f_X4_passCountingRight_6 1000 S_t x1 x2 x3 (0 : Int32) (1 : Int32)
def f_X1_rightDays (S_t_0 : G) (S_p1 : G) (x2 : Int32) (x3 : Int32) : Option (Int32 × G × G) :=
  bd (f_X4_become S_t_0 S_p1) (fun r5 u5 => bd (f_X4_passCountingRight u5.1 x2 (x2 + (1 : Int32)) x3) (fun r17 u17 => some (r17, (u17, u5.2))))
def b_X1_unheardDays_14 (k14 : G → G → Int32 → Int32 → Int32 → Int32 → Option (Int32 × G × G)) (S_t_0 : G) (S_p1 : G) (l2 : Int32) (l3 : Int32) (l4 : Int32) (l5 : Int32) : Option (Int32 × G × G) :=
  if l3 < l5 then (some (l4, (S_t_0, S_p1))) else (bd (f_X4_pass S_t_0 (1 : Int32)) (fun r25 u25 => bd (f_X4_isRinging u25 l2) (fun r33 u33 => if r33 = 0 then (k14 u33 S_p1 l2 l3 l4 (l5 + (1 : Int32))) else (bd (f_X4_hearersOf u33 l2) (fun r44 u44 => if r44 = 0 then (k14 u44 S_p1 l2 l3 (l4 + (1 : Int32)) (l5 + (1 : Int32))) else (k14 u44 S_p1 l2 l3 l4 (l5 + (1 : Int32))))))))
def f_X1_unheardDays_14 : Nat → G → G → Int32 → Int32 → Int32 → Int32 → Option (Int32 × G × G)
  | 0 => fun _ _ _ _ _ _ => none
  | n + 1 => b_X1_unheardDays_14 (f_X1_unheardDays_14 n)
def f_X1_unheardDays (S_t_0 : G) (S_p1 : G) (x2 : Int32) (x3 : Int32) : Option (Int32 × G × G) :=
  bd (f_X4_become S_t_0 S_p1) (fun r5 u5 => f_X1_unheardDays_14 1000 u5.1 u5.2 x2 x3 (0 : Int32) (1 : Int32))
def f_X1_longestRight_110 (S_t_0 : G) (S_p1 : G) (l3 : Int32) : Option (Int32 × G × G) :=
  bd (f_X6_leastBit l3) (fun r111 u111 => some (r111, (S_t_0, S_p1)))
def b_X1_longestRight_66 (k66 : G → G → Int32 → Int32 → Int32 → Option (Int32 × G × G)) (S_t_0 : G) (S_p1 : G) (l2 : Int32) (l3 : Int32) (l4 : Int32) : Option (Int32 × G × G) :=
  if (99 : Int32) < l4 then (f_X1_longestRight_110 S_t_0 S_p1 l3) else (bd (f_X4_pass S_t_0 (1 : Int32)) (fun r78 u78 => bd (f_X4_hearersOf u78 l2) (fun r87 u87 => if (l3 &&& r87) = 0 then (f_X1_longestRight_110 u87 S_p1 l3) else (k66 u87 S_p1 l2 (l3 &&& r87) (l4 + (1 : Int32))))))
def f_X1_longestRight_66 : Nat → G → G → Int32 → Int32 → Int32 → Option (Int32 × G × G)
  | 0 => fun _ _ _ _ _ => none
  | n + 1 => b_X1_longestRight_66 (f_X1_longestRight_66 n)
def b_X1_longestRight_13 (k13 : G → G → Int32 → Int32 → Int32 → Option (Int32 × G × G)) (S_t_0 : G) (S_p1 : G) (l2 : Int32) (l3 : Int32) (l4 : Int32) : Option (Int32 × G × G) :=
  if (S_t_0.1 3) ≤ l4 then (f_X1_longestRight_66 1000 S_t_0 S_p1 l2 l3 (1 : Int32)) else (bd (f_X4_hearsIt S_t_0 l4 l2) (fun r32 u32 => if r32 = 0 then (k13 u32 S_p1 l2 l3 (l4 + (1 : Int32))) else (bd (f_X4_hoursLater u32 l4) (fun r44 u44 => if r44 = 0 then (lt (l3 ||| ((1 : Int32) <<< (l4 &&& 31))) (fun v56 => k13 u44 S_p1 l2 v56 (l4 + (1 : Int32)))) else (k13 u44 S_p1 l2 l3 (l4 + (1 : Int32)))))))
def f_X1_longestRight_13 : Nat → G → G → Int32 → Int32 → Int32 → Option (Int32 × G × G)
  | 0 => fun _ _ _ _ _ => none
  | n + 1 => b_X1_longestRight_13 (f_X1_longestRight_13 n)
def f_X1_longestRight (S_t_0 : G) (S_p1 : G) (x2 : Int32) : Option (Int32 × G × G) :=
  bd (f_X4_become S_t_0 S_p1) (fun r5 u5 => f_X1_longestRight_13 1000 u5.1 u5.2 x2 (0 : Int32) (0 : Int32))
def b_X4_hearersOfSome_4 (k4 : G → Int32 → Int32 → Option (Int32 × G)) (S_t : G) (l1 : Int32) (l2 : Int32) : Option (Int32 × G) :=
  if (S_t.1 3) ≤ l2 then (some (l1, S_t)) else (bd (f_X4_hearsSome S_t l2) (fun r14 u14 => if r14 = 0 then (k4 u14 l1 (l2 + (1 : Int32))) else (lt (l1 ||| ((1 : Int32) <<< (l2 &&& 31))) (fun v25 => k4 u14 v25 (l2 + (1 : Int32))))))
def f_X4_hearersOfSome_4 : Nat → G → Int32 → Int32 → Option (Int32 × G)
  | 0 => fun _ _ _ => none
  | n + 1 => b_X4_hearersOfSome_4 (f_X4_hearersOfSome_4 n)
def f_X4_hearersOfSome (S_t : G) : Option (Int32 × G) :=
  f_X4_hearersOfSome_4 1000 S_t (0 : Int32) (0 : Int32)
def f_X1_lastDeaf_60 (S_t_0 : G) (S_p1 : G) (l2 : Int32) : Option (Int32 × G × G) :=
  bd (f_X6_leastBit l2) (fun r61 u61 => some (r61, (S_t_0, S_p1)))
def b_X1_lastDeaf_18 (k18 : G → G → Int32 → Int32 → Option (Int32 × G × G)) (S_t_0 : G) (S_p1 : G) (l2 : Int32) (l3 : Int32) : Option (Int32 × G × G) :=
  if (99 : Int32) < l3 then (f_X1_lastDeaf_60 S_t_0 S_p1 l2) else (bd (f_X4_pass S_t_0 (1 : Int32)) (fun r29 u29 => bd (f_X4_hearersOfSome u29) (fun r37 u37 => if (l2 &&& r37) = 0 then (f_X1_lastDeaf_60 u37 S_p1 l2) else (k18 u37 S_p1 (l2 &&& r37) (l3 + (1 : Int32))))))
def f_X1_lastDeaf_18 : Nat → G → G → Int32 → Int32 → Option (Int32 × G × G)
  | 0 => fun _ _ _ _ => none
  | n + 1 => b_X1_lastDeaf_18 (f_X1_lastDeaf_18 n)
def f_X1_lastDeaf (S_t_0 : G) (S_p1 : G) : Option (Int32 × G × G) :=
  bd (f_X4_become S_t_0 S_p1) (fun r5 u5 => bd (f_X4_hearersOfSome u5.1) (fun r12 u12 => f_X1_lastDeaf_18 1000 u12 u5.2 r12 (1 : Int32)))
def b_X6_power_5 (k5 : Int32 → Int32 → Int64 → Int32 → Option (Int64 × Unit)) (l0 : Int32) (l1 : Int32) (l2 : Int64) (l4 : Int32) : Option (Int64 × Unit) :=
  if l1 ≤ l4 then (some (l2, ())) else (k5 l0 l1 (l2 * l0.toInt64) (l4 + (1 : Int32)))
def f_X6_power_5 : Nat → Int32 → Int32 → Int64 → Int32 → Option (Int64 × Unit)
  | 0 => fun _ _ _ _ => none
  | n + 1 => b_X6_power_5 (f_X6_power_5 n)
def f_X6_power (x0 : Int32) (x1 : Int32) : Option (Int64 × Unit) :=
  f_X6_power_5 1000 x0 x1 (1 : Int64) (0 : Int32)
def f_X1_clearWays_51 (k17 : G → G → Int32 → Int32 → Int32 → Int64 → Int64 → Int32 → Option (Int64 × G × G)) (S_t_0 : G) (S_p1 : G) (l2 : Int32) (l3 : Int32) (l4 : Int32) (l5 : Int64) (l7 : Int64) (l9 : Int32) : Option (Int64 × G × G) :=
  if (l9 + (1 : Int32)).toInt64 = 0 then none else lt ((l7 * ((l3 - l9).toInt64)) / ((l9 + (1 : Int32)).toInt64)) (fun v65 => bd (f_X4_pass S_t_0 (1 : Int32)) (fun r72 u72 => k17 u72 S_p1 l2 l3 l4 l5 v65 (l9 + (1 : Int32))))
def b_X1_clearWays_17 (k17 : G → G → Int32 → Int32 → Int32 → Int64 → Int64 → Int32 → Option (Int64 × G × G)) (S_t_0 : G) (S_p1 : G) (l2 : Int32) (l3 : Int32) (l4 : Int32) (l5 : Int64) (l7 : Int64) (l9 : Int32) : Option (Int64 × G × G) :=
  if l3 < l9 then (some (l5, (S_t_0, S_p1))) else (bd (f_X4_hearersOf S_t_0 l2) (fun r28 u28 => if r28 = 0 then (f_X1_clearWays_51 k17 u28 S_p1 l2 l3 l4 l5 l7 l9) else (bd (f_X6_power (l4 - (1 : Int32)) l9) (fun r44 u44 => f_X1_clearWays_51 k17 u28 S_p1 l2 l3 l4 (l5 + (l7 * r44)) l7 l9))))
def f_X1_clearWays_17 : Nat → G → G → Int32 → Int32 → Int32 → Int64 → Int64 → Int32 → Option (Int64 × G × G)
  | 0 => fun _ _ _ _ _ _ _ _ => none
  | n + 1 => b_X1_clearWays_17 (f_X1_clearWays_17 n)
def f_X1_clearWays (S_t_0 : G) (S_p1 : G) (x2 : Int32) (x3 : Int32) (x4 : Int32) : Option (Int64 × G × G) :=
  bd (f_X4_become S_t_0 S_p1) (fun r5 u5 => f_X1_clearWays_17 1000 u5.1 u5.2 x2 x3 x4 (0 : Int64) (1 : Int64) (0 : Int32))
def f_X4_makeKind (S_t : G) (x1 : Int32) (x2 : Int32) (x3 : Int32) : Option (Unit × G) :=
  if ck x1 8 = true then (lt (pA S_t 4 x1.toNatClampNeg x2) (fun g6 => if ck x1 8 = true then (lt (pA g6 5 x1.toNatClampNeg x3) (fun g13 => some ((), g13))) else none)) else none
def f_X4_hourBy (S_t : G) (x1 : Int32) (x2 : Int32) : Option (Int32 × G) :=
  if ck x2 6 = true then (bd (f_X4_hoursLater S_t x1) (fun r8 u8 => if (24 : Int32) = 0 then none else some (((S_t.2 1 x2.toNatClampNeg) + r8) - ((S_t.2 1 x2.toNatClampNeg) + r8) / (24 : Int32) * (24 : Int32), u8))) else none
def f_X1_wordOn (S_t_0 : G) (x1 : Int32) (x2 : Int32) : Option (Int32 × G) :=
  bd (f_X4_hearsIt S_t_0 x1 x2) (fun r6 u6 => if r6 = 0 then (some ((99 : Int32), u6)) else (bd (f_X4_hourBy u6 x1 x2) (fun r18 u18 => some (r18, u18))))
def f_X2_at (S_t : G) (x1 : Int32) : Option (Int32 × G) :=
  if x1 < 0 then (some ((-9 : Int32), S_t)) else (if (S_t.1 1) ≤ x1 then (some ((-9 : Int32), S_t)) else (if ck x1 16 = true then (some (S_t.2 0 x1.toNatClampNeg, S_t)) else none))
def b_X1_kindsBy_28 (k15 : G → G → G → Int32 → Int32 → Int32 → Int32 → Option (Int32 × G × G × G)) (k28 : G → G → G → Int32 → Int32 → Int32 → Int32 → Int32 → Option (Int32 × G × G × G)) (S_t_0 : G) (S_p1 : G) (S_p4 : G) (l2 : Int32) (l3 : Int32) (l5 : Int32) (l6 : Int32) (l7 : Int32) : Option (Int32 × G × G × G) :=
  if (6 : Int32) ≤ l7 then (bd (f_X4_pass S_t_0 (1 : Int32)) (fun r89 u89 => k15 u89 S_p1 S_p4 l2 l3 l5 (l6 + (1 : Int32)))) else (if ck l2 8 = true then (bd (f_X4_makeKind S_t_0 l2 l7 (S_p1.2 5 l2.toNatClampNeg)) (fun r48 u48 => bd (f_X1_wordOn u48 l2 l3) (fun r54 u54 => bd (f_X2_at S_p4 l6) (fun r61 u61 => if r54 = r61 then (k28 u54 S_p1 u61 l2 l3 l5 l6 (l7 + (1 : Int32))) else (lt (l5 &&& (((1 : Int32) <<< (l7 &&& 31)) ^^^ (-1 : Int32))) (fun v76 => k28 u54 S_p1 u61 l2 l3 v76 l6 (l7 + (1 : Int32)))))))) else none)
def f_X1_kindsBy_28 (k15 : G → G → G → Int32 → Int32 → Int32 → Int32 → Option (Int32 × G × G × G)) : Nat → G → G → G → Int32 → Int32 → Int32 → Int32 → Int32 → Option (Int32 × G × G × G)
  | 0 => fun _ _ _ _ _ _ _ _ => none
  | n + 1 => b_X1_kindsBy_28 k15 (f_X1_kindsBy_28 k15 n)
def b_X1_kindsBy_15 (k15 : G → G → G → Int32 → Int32 → Int32 → Int32 → Option (Int32 × G × G × G)) (S_t_0 : G) (S_p1 : G) (S_p4 : G) (l2 : Int32) (l3 : Int32) (l5 : Int32) (l6 : Int32) : Option (Int32 × G × G × G) :=
  if (S_p4.1 1) ≤ l6 then (some (l5, (S_t_0, S_p1, S_p4))) else (f_X1_kindsBy_28 k15 1000 S_t_0 S_p1 S_p4 l2 l3 l5 l6 (0 : Int32))
def f_X1_kindsBy_15 : Nat → G → G → G → Int32 → Int32 → Int32 → Int32 → Option (Int32 × G × G × G)
  | 0 => fun _ _ _ _ _ _ _ => none
  | n + 1 => b_X1_kindsBy_15 (f_X1_kindsBy_15 n)
def f_X1_kindsBy (S_t_0 : G) (S_p1 : G) (S_p4 : G) (x2 : Int32) (x3 : Int32) : Option (Int32 × G × G × G) :=
  bd (f_X4_become S_t_0 S_p1) (fun r5 u5 => f_X1_kindsBy_15 1000 u5.1 u5.2 S_p4 x2 x3 (63 : Int32) (0 : Int32))
def b_X1_figuresBy_29 (k16 : G → G → G → Int32 → Int32 → Int32 → Int32 → Option (Int32 × G × G × G)) (k29 : G → G → G → Int32 → Int32 → Int32 → Int32 → Int32 → Option (Int32 × G × G × G)) (S_t_0 : G) (S_p1 : G) (S_p4 : G) (l2 : Int32) (l3 : Int32) (l5 : Int32) (l6 : Int32) (l7 : Int32) : Option (Int32 × G × G × G) :=
  if (9 : Int32) < l7 then (bd (f_X4_pass S_t_0 (1 : Int32)) (fun r90 u90 => k16 u90 S_p1 S_p4 l2 l3 l5 (l6 + (1 : Int32)))) else (if ck l2 8 = true then (bd (f_X4_makeKind S_t_0 l2 (S_p1.2 4 l2.toNatClampNeg) l7) (fun r49 u49 => bd (f_X1_wordOn u49 l2 l3) (fun r55 u55 => bd (f_X2_at S_p4 l6) (fun r62 u62 => if r55 = r62 then (k29 u55 S_p1 u62 l2 l3 l5 l6 (l7 + (1 : Int32))) else (lt (l5 &&& (((1 : Int32) <<< (l7 &&& 31)) ^^^ (-1 : Int32))) (fun v77 => k29 u55 S_p1 u62 l2 l3 v77 l6 (l7 + (1 : Int32)))))))) else none)
def f_X1_figuresBy_29 (k16 : G → G → G → Int32 → Int32 → Int32 → Int32 → Option (Int32 × G × G × G)) : Nat → G → G → G → Int32 → Int32 → Int32 → Int32 → Int32 → Option (Int32 × G × G × G)
  | 0 => fun _ _ _ _ _ _ _ _ => none
  | n + 1 => b_X1_figuresBy_29 k16 (f_X1_figuresBy_29 k16 n)
def b_X1_figuresBy_16 (k16 : G → G → G → Int32 → Int32 → Int32 → Int32 → Option (Int32 × G × G × G)) (S_t_0 : G) (S_p1 : G) (S_p4 : G) (l2 : Int32) (l3 : Int32) (l5 : Int32) (l6 : Int32) : Option (Int32 × G × G × G) :=
  if (S_p4.1 1) ≤ l6 then (some (l5, (S_t_0, S_p1, S_p4))) else (f_X1_figuresBy_29 k16 1000 S_t_0 S_p1 S_p4 l2 l3 l5 l6 (0 : Int32))
def f_X1_figuresBy_16 : Nat → G → G → G → Int32 → Int32 → Int32 → Int32 → Option (Int32 × G × G × G)
  | 0 => fun _ _ _ _ _ _ _ => none
  | n + 1 => b_X1_figuresBy_16 (f_X1_figuresBy_16 n)
def f_X1_figuresBy (S_t_0 : G) (S_p1 : G) (S_p4 : G) (x2 : Int32) (x3 : Int32) : Option (Int32 × G × G × G) :=
  bd (f_X4_become S_t_0 S_p1) (fun r5 u5 => f_X1_figuresBy_16 1000 u5.1 u5.2 S_p4 x2 x3 (1023 : Int32) (0 : Int32))
def b_X1_firstUntrue_10 (k10 : G → G → G → Int32 → Option (Int32 × G × G × G)) (S_t_0 : G) (S_p1 : G) (S_p2 : G) (l3 : Int32) : Option (Int32 × G × G × G) :=
  if (S_p2.1 1) ≤ l3 then (some ((-9 : Int32), (S_t_0, S_p1, S_p2))) else (bd (f_X4_hearersOfSome S_t_0) (fun r22 u22 => bd (f_J6_bitCount_0f7a4 r22) (fun r25 u25 => bd (f_X2_at S_p2 l3) (fun r30 u30 => if r25 = r30 then (bd (f_X4_pass u22 (1 : Int32)) (fun r43 u43 => k10 u43 S_p1 u30 (l3 + (1 : Int32)))) else (some (l3, (u22, S_p1, u30)))))))
def f_X1_firstUntrue_10 : Nat → G → G → G → Int32 → Option (Int32 × G × G × G)
  | 0 => fun _ _ _ _ => none
  | n + 1 => b_X1_firstUntrue_10 (f_X1_firstUntrue_10 n)
def f_X1_firstUntrue (S_t_0 : G) (S_p1 : G) (S_p2 : G) : Option (Int32 × G × G × G) :=
  bd (f_X4_become S_t_0 S_p1) (fun r5 u5 => f_X1_firstUntrue_10 1000 u5.1 u5.2 S_p2 (0 : Int32))
def b_X4_allSlept_4 (k4 : G → Int32 → Int32 → Option (Int32 × G)) (S_t : G) (l1 : Int32) (l2 : Int32) : Option (Int32 × G) :=
  if (S_t.1 3) ≤ l2 then (some (l1, S_t)) else (if ck l2 8 = true then (lt (l1 + (S_t.2 6 l2.toNatClampNeg)) (fun v20 => k4 S_t v20 (l2 + (1 : Int32)))) else none)
def f_X4_allSlept_4 : Nat → G → Int32 → Int32 → Option (Int32 × G)
  | 0 => fun _ _ _ => none
  | n + 1 => b_X4_allSlept_4 (f_X4_allSlept_4 n)
def f_X4_allSlept (S_t : G) : Option (Int32 × G) :=
  f_X4_allSlept_4 1000 S_t (0 : Int32) (0 : Int32)
def b_X1_townsByLot_26 (k9 : G → G → Int32 → Int32 → Int32 → Int32 → Int32 → Option (Int32 × G × G)) (k26 : G → G → Int32 → Int32 → Int32 → Int32 → Int32 → Int32 → Option (Int32 × G × G)) (S_t_0 : G) (S_p1 : G) (l2 : Int32) (l4 : Int32) (l5 : Int32) (l6 : Int32) (l7 : Int32) (l8 : Int32) : Option (Int32 × G × G) :=
  if (S_t_0.1 3) ≤ l8 then (bd (f_X4_pass S_t_0 (10 : Int32)) (fun r82 u82 => if l4 = 0 then (bd (f_X4_allSlept u82) (fun r109 u109 => k9 u109 S_p1 l2 l4 l5 (l6 + r109) (l7 + (1 : Int32)))) else (bd (f_X4_hearersOfSome u82) (fun r96 u96 => bd (f_J6_bitCount_0f7a4 r96) (fun r99 u99 => k9 u96 S_p1 l2 l4 l5 (l6 + r99) (l7 + (1 : Int32))))))) else (lt ((l5 * (1664525 : Int32)) + (1013904223 : Int32)) (fun v46 => if (256 : Int32) = 0 then none else if (20 : Int32) = 0 then none else if ck l8 8 = true then (lt (pA S_t_0 6 l8.toNatClampNeg (((v46 &&& (2147483647 : Int32)) / (256 : Int32)) - ((v46 &&& (2147483647 : Int32)) / (256 : Int32)) / (20 : Int32) * (20 : Int32))) (fun g69 => k26 g69 S_p1 l2 l4 v46 l6 l7 (l8 + (1 : Int32)))) else none))
def f_X1_townsByLot_26 (k9 : G → G → Int32 → Int32 → Int32 → Int32 → Int32 → Option (Int32 × G × G)) : Nat → G → G → Int32 → Int32 → Int32 → Int32 → Int32 → Int32 → Option (Int32 × G × G)
  | 0 => fun _ _ _ _ _ _ _ _ => none
  | n + 1 => b_X1_townsByLot_26 k9 (f_X1_townsByLot_26 k9 n)
def b_X1_townsByLot_9 (k9 : G → G → Int32 → Int32 → Int32 → Int32 → Int32 → Option (Int32 × G × G)) (S_t_0 : G) (S_p1 : G) (l2 : Int32) (l4 : Int32) (l5 : Int32) (l6 : Int32) (l7 : Int32) : Option (Int32 × G × G) :=
  if l2 ≤ l7 then (some (l6, (S_t_0, S_p1))) else (bd (f_X4_become S_t_0 S_p1) (fun r20 u20 => f_X1_townsByLot_26 k9 1000 u20.1 u20.2 l2 l4 l5 l6 l7 (0 : Int32)))
def f_X1_townsByLot_9 : Nat → G → G → Int32 → Int32 → Int32 → Int32 → Int32 → Option (Int32 × G × G)
  | 0 => fun _ _ _ _ _ _ _ => none
  | n + 1 => b_X1_townsByLot_9 (f_X1_townsByLot_9 n)
def f_X1_townsByLot (S_t_0 : G) (S_p1 : G) (x2 : Int32) (x3 : Int32) (x4 : Int32) : Option (Int32 × G × G) :=
  f_X1_townsByLot_9 1000 S_t_0 S_p1 x2 x4 x3 (0 : Int32) (0 : Int32)
def f_X2_add (S_t : G) (x1 : Int32) : Option (Unit × G) :=
  if (16 : Int32) ≤ (S_t.1 1) then (some ((), S_t)) else (if ck (S_t.1 1) 16 = true then (lt (pA S_t 0 (S_t.1 1).toNatClampNeg x1) (fun g18 => lt (pF g18 1 ((g18.1 1) + (1 : Int32))) (fun g26 => some ((), g26)))) else none)
def f_X2_forget (S_t : G) : Option (Unit × G) :=
  lt (pF S_t 1 (0 : Int32)) (fun g2 => some ((), g2))
def b_X3_whomToSend_30 (k30 : G → G → G → Int32 → Int32 → Int32 → Int32 → Int32 → Int32 → Option (Int32 × G × G × G)) (S_t : G) (S_t_0 : G) (S_p1 : G) (l2 : Int32) (l3 : Int32) (l4 : Int32) (l5 : Int32) (l6 : Int32) (l7 : Int32) : Option (Int32 × G × G × G) :=
  if (S_p1.1 3) ≤ l7 then (some (l6, (S_t, S_t_0, S_p1))) else (bd (f_X4_become S_t_0 S_p1) (fun r44 u44 => if ck l7 8 = true then (lt (pA u44.1 7 l7.toNatClampNeg l3) (fun g57 => bd (f_X4_passCountingRight g57 l2 (l2 + (1 : Int32)) l4) (fun r68 u68 => if r68 ≤ l5 then (k30 S_t u68 u44.2 l2 l3 l4 l5 l6 (l7 + (1 : Int32))) else (k30 S_t u68 u44.2 l2 l3 l4 r68 l7 (l7 + (1 : Int32)))))) else none))
def f_X3_whomToSend_30 : Nat → G → G → G → Int32 → Int32 → Int32 → Int32 → Int32 → Int32 → Option (Int32 × G × G × G)
  | 0 => fun _ _ _ _ _ _ _ _ _ => none
  | n + 1 => b_X3_whomToSend_30 (f_X3_whomToSend_30 n)
def f_X3_whomToSend (S_t : G) (S_t_0 : G) (S_p1 : G) (x2 : Int32) (x3 : Int32) (x4 : Int32) : Option (Int32 × G × G × G) :=
  bd (f_X4_become S_t_0 S_p1) (fun r5 u5 => bd (f_X4_passCountingRight u5.1 x2 (x2 + (1 : Int32)) x4) (fun r18 u18 => f_X3_whomToSend_30 1000 S_t u18 u5.2 x2 x3 x4 r18 (-9 : Int32) (0 : Int32)))
def b_X3_bestNights_30 (k30 : G → G → G → Int32 → Int32 → Int32 → Int32 → Int32 → Option (Int32 × G × G × G)) (S_t : G) (S_t_0 : G) (S_p1 : G) (l2 : Int32) (l3 : Int32) (l4 : Int32) (l5 : Int32) (l6 : Int32) : Option (Int32 × G × G × G) :=
  if (9 : Int32) < l6 then (some (l5, (S_t, S_t_0, S_p1))) else (bd (f_X4_become S_t_0 S_p1) (fun r42 u42 => if ck l2 8 = true then (lt (pA u42.1 7 l2.toNatClampNeg l6) (fun g55 => bd (f_X4_passCountingRight g55 (0 : Int32) (u42.2.1 0) l3) (fun r66 u66 => if r66 ≤ l4 then (k30 S_t u66 u42.2 l2 l3 l4 l5 (l6 + (1 : Int32))) else (k30 S_t u66 u42.2 l2 l3 r66 l6 (l6 + (1 : Int32)))))) else none))
def f_X3_bestNights_30 : Nat → G → G → G → Int32 → Int32 → Int32 → Int32 → Int32 → Option (Int32 × G × G × G)
  | 0 => fun _ _ _ _ _ _ _ _ => none
  | n + 1 => b_X3_bestNights_30 (f_X3_bestNights_30 n)
def f_X3_bestNights (S_t : G) (S_t_0 : G) (S_p1 : G) (x2 : Int32) (x3 : Int32) : Option (Int32 × G × G × G) :=
  bd (f_X4_become S_t_0 S_p1) (fun r5 u5 => bd (f_X4_passCountingRight u5.1 (0 : Int32) (u5.2.1 0) x3) (fun r18 u18 => f_X3_bestNights_30 1000 S_t u18 u5.2 x2 x3 r18 (-9 : Int32) (1 : Int32)))
def b_X3_isAllHeardWithout_11 (k11 : G → G → G → Int32 → Int32 → Int32 → Option (Int32 × G × G × G)) (S_t : G) (S_t_0 : G) (S_p1 : G) (l2 : Int32) (l3 : Int32) (l4 : Int32) : Option (Int32 × G × G × G) :=
  if (S_p1.1 3) ≤ l4 then (bd (f_X4_pass S_t_0 l3) (fun r51 u51 => bd (f_X4_silentBells u51) (fun r58 u58 => if r58 = 0 then (some ((1 : Int32), (S_t, u58, S_p1))) else (some ((0 : Int32), (S_t, u58, S_p1)))))) else (if ((l2 >>> (l4 &&& 31)) &&& (1 : Int32)) = 0 then (k11 S_t S_t_0 S_p1 l2 l3 (l4 + (1 : Int32))) else (if ck l4 8 = true then (lt (pA S_t_0 7 l4.toNatClampNeg (5 : Int32)) (fun g39 => k11 S_t g39 S_p1 l2 l3 (l4 + (1 : Int32)))) else none))
def f_X3_isAllHeardWithout_11 : Nat → G → G → G → Int32 → Int32 → Int32 → Option (Int32 × G × G × G)
  | 0 => fun _ _ _ _ _ _ => none
  | n + 1 => b_X3_isAllHeardWithout_11 (f_X3_isAllHeardWithout_11 n)
def f_X3_isAllHeardWithout (S_t : G) (S_t_0 : G) (S_p1 : G) (x2 : Int32) (x3 : Int32) : Option (Int32 × G × G × G) :=
  bd (f_X4_become S_t_0 S_p1) (fun r5 u5 => f_X3_isAllHeardWithout_11 1000 S_t u5.1 u5.2 x2 x3 (0 : Int32))
def b_X3_fewestToSend_10 (k10 : G → G → G → Int32 → Int32 → Int32 → Int32 → Option (Int32 × G × G × G)) (S_t : G) (S_t_0 : G) (S_p1 : G) (l2 : Int32) (l3 : Int32) (l4 : Int32) (l5 : Int32) : Option (Int32 × G × G × G) :=
  if ((1 : Int32) <<< ((S_p1.1 3) &&& 31)) ≤ l5 then (some (l3, (S_t, S_t_0, S_p1))) else (bd (f_J6_bitCount_0f7a4 l5) (fun r23 u23 => if l4 ≤ r23 then (k10 S_t S_t_0 S_p1 l2 l3 l4 (l5 + (1 : Int32))) else (bd (f_X3_isAllHeardWithout S_t S_t_0 S_p1 l5 l2) (fun r36 u36 => if r36 = 0 then (k10 u36.1 u36.2.1 u36.2.2 l2 l3 l4 (l5 + (1 : Int32))) else (bd (f_J6_bitCount_0f7a4 l5) (fun r44 u44 => k10 u36.1 u36.2.1 u36.2.2 l2 l5 r44 (l5 + (1 : Int32))))))))
def f_X3_fewestToSend_10 : Nat → G → G → G → Int32 → Int32 → Int32 → Int32 → Option (Int32 × G × G × G)
  | 0 => fun _ _ _ _ _ _ _ => none
  | n + 1 => b_X3_fewestToSend_10 (f_X3_fewestToSend_10 n)
def f_X3_fewestToSend (S_t : G) (S_t_0 : G) (S_p1 : G) (x2 : Int32) : Option (Int32 × G × G × G) :=
  f_X3_fewestToSend_10 1000 S_t S_t_0 S_p1 x2 (-9 : Int32) (9 : Int32) (0 : Int32)
def b_X3_fewestBeds_2 (k2 : G → G → G → Int32 → Int32 → Option (Int32 × G × G × G)) (S_t : G) (S_t_0 : G) (S_p1 : G) (l2 : Int32) (l3 : Int32) : Option (Int32 × G × G × G) :=
  if (8 : Int32) < l3 then (some ((-9 : Int32), (S_t, S_t_0, S_p1))) else (bd (f_X4_become S_t_0 S_p1) (fun r13 u13 => lt (pF u13.1 9 l3) (fun g21 => bd (f_X4_pass g21 l2) (fun r29 u29 => bd (f_X4_silentBells u29) (fun r36 u36 => if r36 = 0 then (some (l3, (S_t, u36, u13.2))) else (k2 S_t u36 u13.2 l2 (l3 + (1 : Int32))))))))
def f_X3_fewestBeds_2 : Nat → G → G → G → Int32 → Int32 → Option (Int32 × G × G × G)
  | 0 => fun _ _ _ _ _ => none
  | n + 1 => b_X3_fewestBeds_2 (f_X3_fewestBeds_2 n)
def f_X3_fewestBeds (S_t : G) (S_t_0 : G) (S_p1 : G) (x2 : Int32) : Option (Int32 × G × G × G) :=
  f_X3_fewestBeds_2 1000 S_t S_t_0 S_p1 x2 (1 : Int32)
def b_X3_daysHeard_5 (k5 : G → G → Int32 → Int32 → Int32 → Int32 → Option (Int32 × G × G)) (S_t : G) (S_t_0 : G) (l1 : Int32) (l2 : Int32) (l3 : Int32) (l4 : Int32) : Option (Int32 × G × G) :=
  if (20 : Int32) < l4 then (some (l3, (S_t, S_t_0))) else (bd (f_X4_pass S_t_0 (1 : Int32)) (fun r17 u17 => bd (f_X4_hearsIt u17 l1 l2) (fun r26 u26 => if r26 = 0 then (k5 S_t u26 l1 l2 l3 (l4 + (1 : Int32))) else (k5 S_t u26 l1 l2 (l3 + (1 : Int32)) (l4 + (1 : Int32))))))
def f_X3_daysHeard_5 : Nat → G → G → Int32 → Int32 → Int32 → Int32 → Option (Int32 × G × G)
  | 0 => fun _ _ _ _ _ _ => none
  | n + 1 => b_X3_daysHeard_5 (f_X3_daysHeard_5 n)
def f_X3_daysHeard (S_t : G) (S_t_0 : G) (x1 : Int32) (x2 : Int32) : Option (Int32 × G × G) :=
  f_X3_daysHeard_5 1000 S_t S_t_0 x1 x2 (0 : Int32) (1 : Int32)
def f_X3_daysUnheardBySending (S_t : G) (S_t_0 : G) (S_p1 : G) (x2 : Int32) (x3 : Int32) (x4 : Int32) : Option (Int32 × G × G × G) :=
  bd (f_X4_become S_t_0 S_p1) (fun r5 u5 => bd (f_X3_daysHeard S_t u5.1 x2 x4) (fun r12 u12 => bd (f_X4_become u12.2 u5.2) (fun r22 u22 => if ck x2 8 = true then (lt (pA u22.1 7 x2.toNatClampNeg x3) (fun g34 => bd (f_X3_daysHeard u12.1 g34 x2 x4) (fun r41 u41 => some (r12 - r41, (u41.1, u41.2, u22.2))))) else none)))
def b_X3_settledPair_81 (k81 : G → G → G → Int32 → Option (Int32 × G × G × G)) (S_t : G) (S_t_0 : G) (S_p1 : G) (l5 : Int32) : Option (Int32 × G × G × G) :=
  if (4 : Int32) ≤ l5 then (some ((-9 : Int32), (S_t, S_t_0, S_p1))) else (if ck l5 4 = true then (if ck (l5 ^^^ (2 : Int32)) 4 = true then (if (S_t.2 1 l5.toNatClampNeg) < (S_t.2 1 (l5 ^^^ (2 : Int32)).toNatClampNeg) then (k81 S_t S_t_0 S_p1 (l5 + (1 : Int32))) else (if ck l5 4 = true then (if ck (l5 ^^^ (1 : Int32)) 4 = true then (if (S_t.2 1 (l5 ^^^ (1 : Int32)).toNatClampNeg) < (S_t.2 1 l5.toNatClampNeg) then (k81 S_t S_t_0 S_p1 (l5 + (1 : Int32))) else (if (2 : Int32) = 0 then none else if (2 : Int32) = 0 then none else some (((10 : Int32) * (l5 / (2 : Int32))) + (l5 - l5 / (2 : Int32) * (2 : Int32)), (S_t, S_t_0, S_p1)))) else none) else none)) else none) else none)
def f_X3_settledPair_81 : Nat → G → G → G → Int32 → Option (Int32 × G × G × G)
  | 0 => fun _ _ _ _ => none
  | n + 1 => b_X3_settledPair_81 (f_X3_settledPair_81 n)
def f_X3_settledPair_51 (k3 : G → G → G → Int32 → Int32 → Int32 → Int32 → Option (Int32 × G × G × G)) (S_t : G) (S_t_0 : G) (S_p1 : G) (l2 : Int32) (l3 : Int32) (l4 : Int32) (l5 : Int32) : Option (Int32 × G × G × G) :=
  bd (f_X4_passCountingRight S_t_0 (0 : Int32) (S_p1.1 0) l4) (fun r68 u68 => if ck l5 4 = true then (lt (pA S_t 1 l5.toNatClampNeg r68) (fun g71 => k3 g71 u68 S_p1 l2 l3 l4 (l5 + (1 : Int32)))) else none)
def f_X3_settledPair_33 (k3 : G → G → G → Int32 → Int32 → Int32 → Int32 → Option (Int32 × G × G × G)) (S_t : G) (S_t_0 : G) (S_p1 : G) (l2 : Int32) (l3 : Int32) (l4 : Int32) (l5 : Int32) : Option (Int32 × G × G × G) :=
  if (2 : Int32) = 0 then none else if (l5 - l5 / (2 : Int32) * (2 : Int32)) = (1 : Int32) then (bd (f_X4_makeKind S_t_0 l3 (4 : Int32) (5 : Int32)) (fun r48 u48 => f_X3_settledPair_51 k3 S_t u48 S_p1 l2 l3 l4 l5)) else (f_X3_settledPair_51 k3 S_t S_t_0 S_p1 l2 l3 l4 l5)
def b_X3_settledPair_3 (k3 : G → G → G → Int32 → Int32 → Int32 → Int32 → Option (Int32 × G × G × G)) (S_t : G) (S_t_0 : G) (S_p1 : G) (l2 : Int32) (l3 : Int32) (l4 : Int32) (l5 : Int32) : Option (Int32 × G × G × G) :=
  if (4 : Int32) ≤ l5 then (f_X3_settledPair_81 1000 S_t S_t_0 S_p1 (0 : Int32)) else (bd (f_X4_become S_t_0 S_p1) (fun r14 u14 => if l5 < (2 : Int32) then (f_X3_settledPair_33 k3 S_t u14.1 u14.2 l2 l3 l4 l5) else (bd (f_X4_makeKind u14.1 l2 (4 : Int32) (5 : Int32)) (fun r30 u30 => f_X3_settledPair_33 k3 S_t u30 u14.2 l2 l3 l4 l5))))
def f_X3_settledPair_3 : Nat → G → G → G → Int32 → Int32 → Int32 → Int32 → Option (Int32 × G × G × G)
  | 0 => fun _ _ _ _ _ _ _ => none
  | n + 1 => b_X3_settledPair_3 (f_X3_settledPair_3 n)
def f_X3_settledPair (S_t : G) (S_t_0 : G) (S_p1 : G) (x2 : Int32) (x3 : Int32) (x4 : Int32) : Option (Int32 × G × G × G) :=
  f_X3_settledPair_3 1000 S_t S_t_0 S_p1 x2 x3 x4 (0 : Int32)
def f_X4_daysTillRinging (S_t : G) (x1 : Int32) : Option (Int32 × G) :=
  if ck x1 6 = true then (if (S_t.2 2 x1.toNatClampNeg) ≤ 0 then (some ((-9 : Int32), S_t)) else (if ck x1 6 = true then (if ck x1 6 = true then (if S_t.2 2 x1.toNatClampNeg = 0 then none else some ((S_t.2 2 x1.toNatClampNeg) - ((S_t.1 8) - (S_t.1 8) / (S_t.2 2 x1.toNatClampNeg) * (S_t.2 2 x1.toNatClampNeg)), S_t)) else none) else none)) else none
def b_X4_allRingOn_2 (k2 : G → Int32 → Int32 → Option (Int32 × G)) (S_t : G) (l1 : Int32) (l2 : Int32) : Option (Int32 × G) :=
  if (S_t.1 0) ≤ l2 then (some ((1 : Int32), S_t)) else (if ck l2 6 = true then (if (S_t.2 2 l2.toNatClampNeg) < (1 : Int32) then (some ((0 : Int32), S_t)) else (if ck l2 6 = true then (if S_t.2 2 l2.toNatClampNeg = 0 then none else if (l1 - l1 / (S_t.2 2 l2.toNatClampNeg) * (S_t.2 2 l2.toNatClampNeg)) = 0 then (k2 S_t l1 (l2 + (1 : Int32))) else (some ((0 : Int32), S_t))) else none)) else none)
def f_X4_allRingOn_2 : Nat → G → Int32 → Int32 → Option (Int32 × G)
  | 0 => fun _ _ _ => none
  | n + 1 => b_X4_allRingOn_2 (f_X4_allRingOn_2 n)
def f_X4_allRingOn (S_t : G) (x1 : Int32) : Option (Int32 × G) :=
  f_X4_allRingOn_2 1000 S_t x1 (0 : Int32)
def b_X4_daysTillAllRing_12 (k12 : G → Int32 → Option (Int32 × G)) (S_t : G) (l1 : Int32) : Option (Int32 × G) :=
  if (99 : Int32) < l1 then (some ((-9 : Int32), S_t)) else (bd (f_X4_allRingOn S_t ((S_t.1 8) + l1)) (fun r25 u25 => if r25 = 0 then (k12 u25 (l1 + (1 : Int32))) else (some (l1, u25))))
def f_X4_daysTillAllRing_12 : Nat → G → Int32 → Option (Int32 × G)
  | 0 => fun _ _ => none
  | n + 1 => b_X4_daysTillAllRing_12 (f_X4_daysTillAllRing_12 n)
def f_X4_daysTillAllRing (S_t : G) : Option (Int32 × G) :=
  if (S_t.1 0) = 0 then (some ((-9 : Int32), S_t)) else (f_X4_daysTillAllRing_12 1000 S_t (1 : Int32))
def b_X5_rightBells_20 (k20 : G → G → Int32 → Int32 → Int32 → Option (Int32 × G × G)) (S_t : G) (S_p1 : G) (l3 : Int32) (l4 : Int32) (l5 : Int32) : Option (Int32 × G × G) :=
  if (S_p1.1 0) ≤ l5 then (some (l4, (S_t, S_p1))) else (bd (f_X4_hearersOf S_p1 l5) (fun r35 u35 => bd (f_X4_saidOf u35 l5 (r35 &&& l3)) (fun r40 u40 => if ck l5 6 = true then (if r40 = (u40.2 1 l5.toNatClampNeg) then (k20 S_t u40 l3 (l4 + (1 : Int32)) (l5 + (1 : Int32))) else (k20 S_t u40 l3 l4 (l5 + (1 : Int32)))) else none)))
def f_X5_rightBells_20 : Nat → G → G → Int32 → Int32 → Int32 → Option (Int32 × G × G)
  | 0 => fun _ _ _ _ _ => none
  | n + 1 => b_X5_rightBells_20 (f_X5_rightBells_20 n)
def f_X5_rightBells (S_t : G) (S_p1 : G) (x2 : Int32) : Option (Int32 × G × G) :=
  if x2 < 0 then (f_X5_rightBells_20 1000 S_t S_p1 (-1 : Int32) (0 : Int32) (0 : Int32)) else (lt (((1 : Int32) <<< (x2 &&& 31)) ^^^ (-1 : Int32)) (fun v13 => f_X5_rightBells_20 1000 S_t S_p1 v13 (0 : Int32) (0 : Int32)))
def f_X5_wrongBells (S_t : G) (S_p1 : G) : Option (Int32 × G × G) :=
  bd (f_X4_silentBells S_p1) (fun r5 u5 => bd (f_J6_bitCount_0f7a4 r5) (fun r8 u8 => bd (f_X5_rightBells S_t u5 (-9 : Int32)) (fun r16 u16 => some (((S_p1.1 0) - r8) - r16, (u16.1, u16.2)))))
def b_X5_whomToLeaveOut_14 (k14 : G → G → Int32 → Int32 → Int32 → Option (Int32 × G × G)) (S_t : G) (S_p1 : G) (l2 : Int32) (l3 : Int32) (l4 : Int32) : Option (Int32 × G × G) :=
  if (S_p1.1 3) ≤ l4 then (some (l2, (S_t, S_p1))) else (bd (f_X5_rightBells S_t S_p1 l4) (fun r27 u27 => if r27 ≤ l3 then (k14 u27.1 u27.2 l2 l3 (l4 + (1 : Int32))) else (k14 u27.1 u27.2 l4 r27 (l4 + (1 : Int32)))))
def f_X5_whomToLeaveOut_14 : Nat → G → G → Int32 → Int32 → Int32 → Option (Int32 × G × G)
  | 0 => fun _ _ _ _ _ => none
  | n + 1 => b_X5_whomToLeaveOut_14 (f_X5_whomToLeaveOut_14 n)
def f_X5_whomToLeaveOut (S_t : G) (S_p1 : G) : Option (Int32 × G × G) :=
  bd (f_X5_rightBells S_t S_p1 (-9 : Int32)) (fun r7 u7 => f_X5_whomToLeaveOut_14 1000 u7.1 u7.2 (-9 : Int32) r7 (0 : Int32))
def b_X5_doClash_17 (k17 : G → Int32 → Int32 → Int32 → Option (Int32 × G)) (S_p0 : G) (l1 : Int32) (l2 : Int32) (l3 : Int32) : Option (Int32 × G) :=
  if (S_p0.1 0) ≤ l3 then (some ((0 : Int32), S_p0)) else (bd (f_X4_hearsIt S_p0 l1 l3) (fun r28 u28 => if r28 = 0 then (k17 u28 l1 l2 (l3 + (1 : Int32))) else (bd (f_X4_hearsIt u28 l2 l3) (fun r37 u37 => if r37 = 0 then (k17 u37 l1 l2 (l3 + (1 : Int32))) else (some ((1 : Int32), u37))))))
def f_X5_doClash_17 : Nat → G → Int32 → Int32 → Int32 → Option (Int32 × G)
  | 0 => fun _ _ _ _ => none
  | n + 1 => b_X5_doClash_17 (f_X5_doClash_17 n)
def f_X5_doClash (S_p0 : G) (x1 : Int32) (x2 : Int32) : Option (Int32 × G) :=
  bd (f_X4_hoursLater S_p0 x1) (fun r2 u2 => bd (f_X4_hoursLater u2 x2) (fun r7 u7 => if r2 = r7 then (some ((0 : Int32), u7)) else (f_X5_doClash_17 1000 u7 x1 x2 (0 : Int32))))
def b_X5_clashes_17 (k4 : G → G → Int32 → Int32 → Option (Int32 × G × G)) (k17 : G → G → Int32 → Int32 → Int32 → Option (Int32 × G × G)) (S_t : G) (S_p1 : G) (l2 : Int32) (l3 : Int32) (l4 : Int32) : Option (Int32 × G × G) :=
  if (S_p1.1 3) ≤ l4 then (k4 S_t S_p1 l2 (l3 + (1 : Int32))) else (bd (f_X5_doClash S_p1 l3 l4) (fun r30 u30 => if r30 = 0 then (k17 S_t u30 l2 l3 (l4 + (1 : Int32))) else (k17 S_t u30 (l2 + (1 : Int32)) l3 (l4 + (1 : Int32)))))
def f_X5_clashes_17 (k4 : G → G → Int32 → Int32 → Option (Int32 × G × G)) : Nat → G → G → Int32 → Int32 → Int32 → Option (Int32 × G × G)
  | 0 => fun _ _ _ _ _ => none
  | n + 1 => b_X5_clashes_17 k4 (f_X5_clashes_17 k4 n)
def b_X5_clashes_4 (k4 : G → G → Int32 → Int32 → Option (Int32 × G × G)) (S_t : G) (S_p1 : G) (l2 : Int32) (l3 : Int32) : Option (Int32 × G × G) :=
  if (S_p1.1 3) ≤ l3 then (some (l2, (S_t, S_p1))) else (f_X5_clashes_17 k4 1000 S_t S_p1 l2 l3 (l3 + (1 : Int32)))
def f_X5_clashes_4 : Nat → G → G → Int32 → Int32 → Option (Int32 × G × G)
  | 0 => fun _ _ _ _ => none
  | n + 1 => b_X5_clashes_4 (f_X5_clashes_4 n)
def f_X5_clashes (S_t : G) (S_p1 : G) : Option (Int32 × G × G) :=
  f_X5_clashes_4 1000 S_t S_p1 (0 : Int32) (0 : Int32)
def b_X5_firstClash_14 (k2 : G → G → Int32 → Option (Int32 × G × G)) (k14 : G → G → Int32 → Int32 → Option (Int32 × G × G)) (S_t : G) (S_p1 : G) (l2 : Int32) (l3 : Int32) : Option (Int32 × G × G) :=
  if (S_p1.1 3) ≤ l3 then (k2 S_t S_p1 (l2 + (1 : Int32))) else (bd (f_X5_doClash S_p1 l2 l3) (fun r25 u25 => if r25 = 0 then (k14 S_t u25 l2 (l3 + (1 : Int32))) else (some (((10 : Int32) * l2) + l3, (S_t, u25)))))
def f_X5_firstClash_14 (k2 : G → G → Int32 → Option (Int32 × G × G)) : Nat → G → G → Int32 → Int32 → Option (Int32 × G × G)
  | 0 => fun _ _ _ _ => none
  | n + 1 => b_X5_firstClash_14 k2 (f_X5_firstClash_14 k2 n)
def b_X5_firstClash_2 (k2 : G → G → Int32 → Option (Int32 × G × G)) (S_t : G) (S_p1 : G) (l2 : Int32) : Option (Int32 × G × G) :=
  if (S_p1.1 3) ≤ l2 then (some ((-9 : Int32), (S_t, S_p1))) else (f_X5_firstClash_14 k2 1000 S_t S_p1 l2 (l2 + (1 : Int32)))
def f_X5_firstClash_2 : Nat → G → G → Int32 → Option (Int32 × G × G)
  | 0 => fun _ _ _ => none
  | n + 1 => b_X5_firstClash_2 (f_X5_firstClash_2 n)
def f_X5_firstClash (S_t : G) (S_p1 : G) : Option (Int32 × G × G) :=
  f_X5_firstClash_2 1000 S_t S_p1 (0 : Int32)
def b_X5_findFoes_19 (k2 : G → G → Int32 → Option (Unit × G × G)) (k19 : G → G → Int32 → Int32 → Option (Unit × G × G)) (S_t : G) (S_p1 : G) (l2 : Int32) (l3 : Int32) : Option (Unit × G × G) :=
  if (S_p1.1 3) ≤ l3 then (k2 S_t S_p1 (l2 + (1 : Int32))) else (bd (f_X5_doClash S_p1 l2 l3) (fun r30 u30 => if r30 = 0 then (k19 S_t u30 l2 (l3 + (1 : Int32))) else (if ck l2 8 = true then (if ck l2 8 = true then (lt (pA S_t 0 l2.toNatClampNeg ((S_t.2 0 l2.toNatClampNeg) ||| ((1 : Int32) <<< (l3 &&& 31)))) (fun g47 => k19 g47 u30 l2 (l3 + (1 : Int32)))) else none) else none)))
def f_X5_findFoes_19 (k2 : G → G → Int32 → Option (Unit × G × G)) : Nat → G → G → Int32 → Int32 → Option (Unit × G × G)
  | 0 => fun _ _ _ _ => none
  | n + 1 => b_X5_findFoes_19 k2 (f_X5_findFoes_19 k2 n)
def b_X5_findFoes_2 (k2 : G → G → Int32 → Option (Unit × G × G)) (S_t : G) (S_p1 : G) (l2 : Int32) : Option (Unit × G × G) :=
  if (S_p1.1 3) ≤ l2 then (some ((), (S_t, S_p1))) else (if ck l2 8 = true then (lt (pA S_t 0 l2.toNatClampNeg (0 : Int32)) (fun g16 => f_X5_findFoes_19 k2 1000 g16 S_p1 l2 (0 : Int32))) else none)
def f_X5_findFoes_2 : Nat → G → G → Int32 → Option (Unit × G × G)
  | 0 => fun _ _ _ => none
  | n + 1 => b_X5_findFoes_2 (f_X5_findFoes_2 n)
def f_X5_findFoes (S_t : G) (S_p1 : G) : Option (Unit × G × G) :=
  f_X5_findFoes_2 1000 S_t S_p1 (0 : Int32)
def b_X5_isPeaceful_2 (k2 : G → Int32 → Int32 → Option (Int32 × G)) (S_t : G) (l1 : Int32) (l2 : Int32) : Option (Int32 × G) :=
  if (8 : Int32) ≤ l2 then (some ((1 : Int32), S_t)) else (if ((l1 >>> (l2 &&& 31)) &&& (1 : Int32)) = 0 then (k2 S_t l1 (l2 + (1 : Int32))) else (if ck l2 8 = true then (if ((S_t.2 0 l2.toNatClampNeg) &&& l1) = 0 then (k2 S_t l1 (l2 + (1 : Int32))) else (some ((0 : Int32), S_t))) else none))
def f_X5_isPeaceful_2 : Nat → G → Int32 → Int32 → Option (Int32 × G)
  | 0 => fun _ _ _ => none
  | n + 1 => b_X5_isPeaceful_2 (f_X5_isPeaceful_2 n)
def f_X5_isPeaceful (S_t : G) (x1 : Int32) : Option (Int32 × G) :=
  f_X5_isPeaceful_2 1000 S_t x1 (0 : Int32)
def b_X5_mostAgreed_15 (k15 : G → G → Int32 → Int32 → Int32 → Option (Int32 × G × G)) (S_t : G) (S_p1 : G) (l2 : Int32) (l3 : Int32) (l4 : Int32) : Option (Int32 × G × G) :=
  if ((1 : Int32) <<< ((S_p1.1 3) &&& 31)) ≤ l4 then (some (l3, (S_t, S_p1))) else (if (l4 &&& (l2 ^^^ (-1 : Int32))) = 0 then (bd (f_J6_bitCount_0f7a4 l4) (fun r37 u37 => bd (f_J6_bitCount_0f7a4 l3) (fun r41 u41 => if r37 ≤ r41 then (k15 S_t S_p1 l2 l3 (l4 + (1 : Int32))) else (bd (f_X5_isPeaceful S_t l4) (fun r50 u50 => if r50 = 0 then (k15 u50 S_p1 l2 l3 (l4 + (1 : Int32))) else (k15 u50 S_p1 l2 l4 (l4 + (1 : Int32)))))))) else (k15 S_t S_p1 l2 l3 (l4 + (1 : Int32))))
def f_X5_mostAgreed_15 : Nat → G → G → Int32 → Int32 → Int32 → Option (Int32 × G × G)
  | 0 => fun _ _ _ _ _ => none
  | n + 1 => b_X5_mostAgreed_15 (f_X5_mostAgreed_15 n)
def f_X5_mostAgreed (S_t : G) (S_p1 : G) : Option (Int32 × G × G) :=
  bd (f_X5_findFoes S_t S_p1) (fun r2 u2 => bd (f_X4_hearersOfSome u2.2) (fun r6 u6 => f_X5_mostAgreed_15 1000 u2.1 u6 r6 (0 : Int32) (1 : Int32)))
def b_X5_hoursSaid_15 (k4 : G → G → Int32 → Int32 → Option (Int32 × G × G)) (k15 : G → G → Int32 → Int32 → Int32 → Option (Int32 × G × G)) (S_t : G) (S_p1 : G) (l2 : Int32) (l3 : Int32) (l4 : Int32) : Option (Int32 × G × G) :=
  if (S_p1.1 3) ≤ l4 then (k4 S_t S_p1 l2 (l3 + (1 : Int32))) else (bd (f_X4_hearsIt S_p1 l4 l3) (fun r28 u28 => if r28 = 0 then (k15 S_t u28 l2 l3 (l4 + (1 : Int32))) else (bd (f_X4_hourBy u28 l4 l3) (fun r40 u40 => lt (l2 ||| ((1 : Int32) <<< (r40 &&& 31))) (fun v45 => k15 S_t u40 v45 l3 (l4 + (1 : Int32)))))))
def f_X5_hoursSaid_15 (k4 : G → G → Int32 → Int32 → Option (Int32 × G × G)) : Nat → G → G → Int32 → Int32 → Int32 → Option (Int32 × G × G)
  | 0 => fun _ _ _ _ _ => none
  | n + 1 => b_X5_hoursSaid_15 k4 (f_X5_hoursSaid_15 k4 n)
def b_X5_hoursSaid_4 (k4 : G → G → Int32 → Int32 → Option (Int32 × G × G)) (S_t : G) (S_p1 : G) (l2 : Int32) (l3 : Int32) : Option (Int32 × G × G) :=
  if (S_p1.1 0) ≤ l3 then (some (l2, (S_t, S_p1))) else (f_X5_hoursSaid_15 k4 1000 S_t S_p1 l2 l3 (0 : Int32))
def f_X5_hoursSaid_4 : Nat → G → G → Int32 → Int32 → Option (Int32 × G × G)
  | 0 => fun _ _ _ _ => none
  | n + 1 => b_X5_hoursSaid_4 (f_X5_hoursSaid_4 n)
def f_X5_hoursSaid (S_t : G) (S_p1 : G) : Option (Int32 × G × G) :=
  f_X5_hoursSaid_4 1000 S_t S_p1 (0 : Int32) (0 : Int32)
def f_X6_range (x0 : Int32) (x1 : Int32) (x2 : Int32) : Option (Int32 × Unit) :=
  if x1 ≤ x0 then (if x0 ≤ x2 then (some ((0 : Int32), ())) else (some ((-6 : Int32), ()))) else (some ((-4 : Int32), ()))
def f_X6_first (x0 : Int32) (x1 : Int32) : Option (Int32 × Unit) :=
  if x0 = 0 then (some (x1, ())) else (some (x0, ()))
def f_X6_refused (S_t : G) (x1 : Int32) : Option (Int32 × G) :=
  if 0 ≤ x1 then (some (x1, S_t)) else (if x1 < (-6 : Int32) then (some (x1, S_t)) else (if ck (-x1) 7 = true then (if ck (-x1) 7 = true then (lt (pA S_t 8 (-x1).toNatClampNeg ((S_t.2 8 (-x1).toNatClampNeg) + (1 : Int32))) (fun g20 => some (x1, g20))) else none) else none))
def f_X6_letter_26 (S_t : G) (S_t_3 : G) (l1 : Int32) (s0 : Int32) (s1 : Int32) : Option (Int32 × G × G) :=
  bd (f_X6_first s0 s1) (fun r26 u26 => if r26 = 0 then (bd (f_X0_add S_t_3 l1) (fun r45 u45 => some (u45.1 2, (S_t, u45)))) else (bd (f_X6_refused S_t r26) (fun r36 u36 => some (r36, (u36, S_t_3)))))
def f_X6_letter (S_t : G) (S_t_3 : G) (x1 : Int32) : Option (Int32 × G × G) :=
  bd (f_X6_range x1 (0 : Int32) (255 : Int32)) (fun r5 u5 => if (96 : Int32) ≤ (S_t_3.1 2) then (f_X6_letter_26 S_t S_t_3 x1 r5 (-6 : Int32)) else (f_X6_letter_26 S_t S_t_3 x1 r5 (0 : Int32)))
def f_X6_town (S_t : G) (S_t_0 : G) (S_t_3 : G) (S_t_3_1 : G) : Option (Int32 × G × G × G × G) :=
  bd (f_X0_tell S_t_3 S_t_3_1 S_t_0) (fun r8 u8 => bd (f_X0_forget u8.1) (fun r16 u16 => some (r8, (S_t, u8.2.2, u16, u8.2.1))))
def f_X6_noBell (S_t : G) (S_t_0 : G) (x1 : Int32) : Option (Int32 × G × G) :=
  if x1 < 0 then (some ((-1 : Int32), (S_t, S_t_0))) else (if (S_t_0.1 0) ≤ x1 then (some ((-1 : Int32), (S_t, S_t_0))) else (some ((0 : Int32), (S_t, S_t_0))))
def f_X6_choice (x0 : Int32) (x1 : Int32) : Option (Int32 × Unit) :=
  if x0 < 0 then (some ((-2 : Int32), ())) else (if x1 ≤ x0 then (some ((-2 : Int32), ())) else (some ((0 : Int32), ())))
def f_X6_bell (S_t : G) (S_t_0 : G) (x1 : Int32) (x2 : Int32) : Option (Int32 × G × G) :=
  bd (f_X6_noBell S_t S_t_0 x1) (fun r2 u2 => bd (f_X6_choice x2 (4 : Int32)) (fun r7 u7 => bd (f_X6_first r2 r7) (fun r10 u10 => if r10 = 0 then (if x2 = (0 : Int32) then (if ck x1 6 = true then (some (u2.2.2 1 x1.toNatClampNeg, (u2.1, u2.2))) else none) else (if x2 = (1 : Int32) then (if ck x1 6 = true then (some (u2.2.2 2 x1.toNatClampNeg, (u2.1, u2.2))) else none) else (if x2 = (2 : Int32) then (bd (f_X4_hearersOf u2.2 x1) (fun r77 u77 => some (r77, (u2.1, u77)))) else (bd (f_X4_hearersOf u2.2 x1) (fun r91 u91 => bd (f_X4_saidOf u91 x1 r91) (fun r94 u94 => some (r94, (u2.1, u94)))))))) else (bd (f_X6_refused u2.1 r10) (fun r20 u20 => some (r20, (u20, u2.2)))))))
def f_X6_noPerson (S_t : G) (S_t_0 : G) (x1 : Int32) : Option (Int32 × G × G) :=
  if x1 < 0 then (some ((-1 : Int32), (S_t, S_t_0))) else (if (S_t_0.1 3) ≤ x1 then (some ((-1 : Int32), (S_t, S_t_0))) else (some ((0 : Int32), (S_t, S_t_0))))
def f_X6_person (S_t : G) (S_t_0 : G) (x1 : Int32) (x2 : Int32) : Option (Int32 × G × G) :=
  bd (f_X6_noPerson S_t S_t_0 x1) (fun r2 u2 => bd (f_X6_choice x2 (5 : Int32)) (fun r7 u7 => bd (f_X6_first r2 r7) (fun r10 u10 => if r10 = 0 then (if x2 = (0 : Int32) then (if ck x1 8 = true then (some (u2.2.2 4 x1.toNatClampNeg, (u2.1, u2.2))) else none) else (if x2 = (1 : Int32) then (if ck x1 8 = true then (some (u2.2.2 5 x1.toNatClampNeg, (u2.1, u2.2))) else none) else (if x2 = (2 : Int32) then (if ck x1 8 = true then (some (u2.2.2 6 x1.toNatClampNeg, (u2.1, u2.2))) else none) else (if x2 = (3 : Int32) then (if ck x1 8 = true then (some (u2.2.2 7 x1.toNatClampNeg, (u2.1, u2.2))) else none) else (bd (f_X4_nightsOf u2.2 x1) (fun r101 u101 => some (r101, (u2.1, u101)))))))) else (bd (f_X6_refused u2.1 r10) (fun r20 u20 => some (r20, (u20, u2.2)))))))
def f_X6_says (S_t : G) (S_t_0 : G) (x1 : Int32) (x2 : Int32) : Option (Int32 × G × G) :=
  bd (f_X6_noPerson S_t S_t_0 x1) (fun r2 u2 => bd (f_X6_noBell u2.1 u2.2 x2) (fun r7 u7 => bd (f_X6_first r2 r7) (fun r10 u10 => if r10 = 0 then (bd (f_X4_hearsIt u7.2 x1 x2) (fun r30 u30 => if r30 = 0 then (some ((-9 : Int32), (u7.1, u30))) else (bd (f_X4_hourBy u30 x1 x2) (fun r42 u42 => some (r42, (u7.1, u42)))))) else (bd (f_X6_refused u7.1 r10) (fun r20 u20 => some (r20, (u20, u7.2)))))))
def f_X6_goes (S_t : G) (S_t_0 : G) (x1 : Int32) (x2 : Int32) : Option (Int32 × G × G) :=
  bd (f_X6_noPerson S_t S_t_0 x1) (fun r2 u2 => bd (f_X6_range x2 (0 : Int32) (9 : Int32)) (fun r9 u9 => bd (f_X6_first r2 r9) (fun r12 u12 => if r12 = 0 then (if ck x1 8 = true then (if ck x1 8 = true then (lt (pA u2.2 7 x1.toNatClampNeg x2) (fun g46 => some (u2.2.2 7 x1.toNatClampNeg, (u2.1, g46)))) else none) else none) else (bd (f_X6_refused u2.1 r12) (fun r22 u22 => some (r22, (u22, u2.2)))))))
def f_X6_sleeps (S_t : G) (S_t_0 : G) (x1 : Int32) (x2 : Int32) : Option (Int32 × G × G) :=
  bd (f_X6_noPerson S_t S_t_0 x1) (fun r2 u2 => bd (f_X6_range x2 (0 : Int32) (99 : Int32)) (fun r9 u9 => bd (f_X6_first r2 r9) (fun r12 u12 => if r12 = 0 then (if ck x1 8 = true then (if ck x1 8 = true then (lt (pA u2.2 6 x1.toNatClampNeg x2) (fun g46 => some (u2.2.2 6 x1.toNatClampNeg, (u2.1, g46)))) else none) else none) else (bd (f_X6_refused u2.1 r12) (fun r22 u22 => some (r22, (u22, u2.2)))))))
def f_X6_beds (S_t : G) (S_t_0 : G) (x1 : Int32) : Option (Int32 × G × G) :=
  bd (f_X6_range x1 (1 : Int32) (8 : Int32)) (fun r4 u4 => if r4 = 0 then (lt (pF S_t_0 9 x1) (fun g31 => some (S_t_0.1 9, (S_t, g31)))) else (bd (f_X6_refused S_t r4) (fun r14 u14 => some (r14, (u14, S_t_0)))))
def f_X6_turn (S_t : G) (S_t_0 : G) (x1 : Int32) (x2 : Int32) (x3 : Int32) : Option (Int32 × G × G) :=
  bd (f_X6_noPerson S_t S_t_0 x1) (fun r2 u2 => bd (f_X6_choice x2 (6 : Int32)) (fun r8 u8 => bd (f_X6_first r2 r8) (fun r11 u11 => bd (f_X6_range x3 (0 : Int32) (9 : Int32)) (fun r22 u22 => bd (f_X6_first r11 r22) (fun r25 u25 => if r25 = 0 then (if ck x1 8 = true then (if ck x1 8 = true then (lt (((10 : Int32) * (u2.2.2 4 x1.toNatClampNeg)) + (u2.2.2 5 x1.toNatClampNeg)) (fun v64 => bd (f_X4_makeKind u2.2 x1 x2 x3) (fun r73 u73 => some (v64, (u2.1, u73))))) else none) else none) else (bd (f_X6_refused u2.1 r25) (fun r38 u38 => some (r38, (u38, u2.2)))))))))
def f_X6_days_30 (S_t : G) (S_t_0 : G) (l1 : Int32) (s0 : Int32) (s1 : Int32) : Option (Int32 × G × G) :=
  bd (f_X6_first s0 s1) (fun r30 u30 => if r30 = 0 then (bd (f_X4_pass S_t_0 l1) (fun r49 u49 => bd (f_X4_hearersOfSome u49) (fun r56 u56 => bd (f_J6_bitCount_0f7a4 r56) (fun r59 u59 => some (r59, (S_t, u56)))))) else (bd (f_X6_refused S_t r30) (fun r40 u40 => some (r40, (u40, S_t_0)))))
def f_X6_days (S_t : G) (S_t_0 : G) (x1 : Int32) : Option (Int32 × G × G) :=
  bd (f_X6_range x1 (1 : Int32) (60 : Int32)) (fun r4 u4 => if ((999 : Int32) - (S_t_0.1 8)) < x1 then (f_X6_days_30 S_t S_t_0 x1 r4 (-6 : Int32)) else (f_X6_days_30 S_t S_t_0 x1 r4 (0 : Int32)))
def f_X6_personThen (S_t : G) (S_t_0 : G) (S_t_6_0 : G) (x1 : Int32) (x2 : Int32) (x3 : Int32) : Option (Int32 × G × G × G) :=
  bd (f_X6_noPerson S_t S_t_0 x1) (fun r2 u2 => bd (f_X6_range x2 (0 : Int32) (99 : Int32)) (fun r9 u9 => bd (f_X6_first r2 r9) (fun r12 u12 => bd (f_X6_choice x3 (2 : Int32)) (fun r21 u21 => bd (f_X6_first r12 r21) (fun r24 u24 => if r24 = 0 then (bd (f_X1_after S_t_6_0 u2.2 x2) (fun r50 u50 => if x3 = 0 then (if ck x1 8 = true then (some (u50.1.2 6 x1.toNatClampNeg, (u2.1, u50.2, u50.1))) else none) else (if ck x1 8 = true then (some (u50.1.2 7 x1.toNatClampNeg, (u2.1, u50.2, u50.1))) else none))) else (bd (f_X6_refused u2.1 r24) (fun r37 u37 => some (r37, (u37, u2.2, S_t_6_0)))))))))
def f_X6_bellThen (S_t : G) (S_t_0 : G) (S_t_6_0 : G) (x1 : Int32) (x2 : Int32) (x3 : Int32) : Option (Int32 × G × G × G) :=
  bd (f_X6_noBell S_t S_t_0 x1) (fun r2 u2 => bd (f_X6_range x2 (0 : Int32) (99 : Int32)) (fun r9 u9 => bd (f_X6_first r2 r9) (fun r12 u12 => bd (f_X6_choice x3 (2 : Int32)) (fun r21 u21 => bd (f_X6_first r12 r21) (fun r24 u24 => if r24 = 0 then (bd (f_X1_after S_t_6_0 u2.2 x2) (fun r50 u50 => bd (f_X4_hearersOf u50.1 x1) (fun r58 u58 => if x3 = 0 then (some (r58, (u2.1, u50.2, u58))) else (bd (f_X4_isRinging u58 x1) (fun r73 u73 => if r73 = 0 then (some ((-9 : Int32), (u2.1, u50.2, u73))) else (bd (f_X4_saidOf u73 x1 r58) (fun r84 u84 => some (r84, (u2.1, u50.2, u84))))))))) else (bd (f_X6_refused u2.1 r24) (fun r37 u37 => some (r37, (u37, u2.2, S_t_6_0)))))))))
def f_X6_deaf (S_t : G) (S_t_0 : G) (S_t_6_0 : G) (x1 : Int32) : Option (Int32 × G × G × G) :=
  bd (f_X6_noPerson S_t S_t_0 x1) (fun r2 u2 => if r2 = 0 then (bd (f_X1_deafAfter S_t_6_0 u2.2 x1) (fun r25 u25 => some (r25, (u2.1, u25.2, u25.1)))) else (bd (f_X6_refused u2.1 r2) (fun r12 u12 => some (r12, (u12, u2.2, S_t_6_0)))))
def f_X6_lost_33 (S_t : G) (S_t_0 : G) (S_t_6_0 : G) (s2 : Int32) : Option (Int32 × G × G × G) :=
  bd (f_X1_firstLost S_t_6_0 S_t_0 s2) (fun r33 u33 => some (r33, (S_t, u33.2, u33.1)))
def f_X6_lost (S_t : G) (S_t_0 : G) (S_t_6_0 : G) (x1 : Int32) : Option (Int32 × G × G × G) :=
  bd (f_X6_choice x1 (2 : Int32)) (fun r2 u2 => if r2 = 0 then (if x1 = 0 then (f_X6_lost_33 S_t S_t_0 S_t_6_0 (1 : Int32)) else (f_X6_lost_33 S_t S_t_0 S_t_6_0 (0 : Int32))) else (bd (f_X6_refused S_t r2) (fun r12 u12 => some (r12, (u12, S_t_0, S_t_6_0)))))
def f_X6_rings (S_t : G) (S_t_0 : G) (S_t_6_0 : G) (x1 : Int32) (x2 : Int32) (x3 : Int32) : Option (Int32 × G × G × G) :=
  bd (f_X6_noBell S_t S_t_0 x1) (fun r2 u2 => bd (f_X6_range x2 (1 : Int32) (40 : Int32)) (fun r9 u9 => bd (f_X6_first r2 r9) (fun r12 u12 => bd (f_X6_choice x3 (2 : Int32)) (fun r21 u21 => bd (f_X6_first r12 r21) (fun r24 u24 => if r24 = 0 then (if x3 = 0 then (bd (f_X1_rightDays S_t_6_0 u2.2 x1 x2) (fun r55 u55 => some (r55, (u2.1, u55.2, u55.1)))) else (bd (f_X1_unheardDays S_t_6_0 u2.2 x1 x2) (fun r71 u71 => some (r71, (u2.1, u71.2, u71.1))))) else (bd (f_X6_refused u2.1 r24) (fun r37 u37 => some (r37, (u37, u2.2, S_t_6_0)))))))))
def f_X6_bothRanges (x0 : Int32) (x1 : Int32) (x2 : Int32) (x3 : Int32) : Option (Int32 × Unit) :=
  if x0 < (1 : Int32) then (some ((-4 : Int32), ())) else (if (1 : Int32) ≤ x2 then (if x1 < x0 then (some ((-6 : Int32), ())) else (if x2 ≤ x3 then (some ((0 : Int32), ())) else (some ((-6 : Int32), ())))) else (some ((-4 : Int32), ())))
def f_X6_send (S_t : G) (S_t_0 : G) (S_t_7 : G) (S_t_7_0 : G) (x1 : Int32) (x2 : Int32) (x3 : Int32) : Option (Int32 × G × G × G × G) :=
  bd (f_X6_noBell S_t S_t_0 x1) (fun r2 u2 => bd (f_X6_bothRanges x2 (9 : Int32) x3 (40 : Int32)) (fun r11 u11 => bd (f_X6_first r2 r11) (fun r14 u14 => if r14 = 0 then (bd (f_X3_whomToSend S_t_7 S_t_7_0 u2.2 x1 x2 x3) (fun r42 u42 => some (r42, (u2.1, u42.2.2, u42.1, u42.2.1)))) else (bd (f_X6_refused u2.1 r14) (fun r27 u27 => some (r27, (u27, u2.2, S_t_7, S_t_7_0)))))))
def f_X6_nightsFor (S_t : G) (S_t_0 : G) (S_t_7 : G) (S_t_7_0 : G) (x1 : Int32) (x2 : Int32) : Option (Int32 × G × G × G × G) :=
  bd (f_X6_noPerson S_t S_t_0 x1) (fun r2 u2 => bd (f_X6_range x2 (1 : Int32) (40 : Int32)) (fun r9 u9 => bd (f_X6_first r2 r9) (fun r12 u12 => if r12 = 0 then (bd (f_X3_bestNights S_t_7 S_t_7_0 u2.2 x1 x2) (fun r36 u36 => some (r36, (u2.1, u36.2.2, u36.1, u36.2.1)))) else (bd (f_X6_refused u2.1 r12) (fun r22 u22 => some (r22, (u22, u2.2, S_t_7, S_t_7_0)))))))
def f_X6_fewest (S_t : G) (S_t_0 : G) (S_t_7 : G) (S_t_7_0 : G) (x1 : Int32) : Option (Int32 × G × G × G × G) :=
  bd (f_X6_range x1 (0 : Int32) (40 : Int32)) (fun r4 u4 => if r4 = 0 then (bd (f_X3_fewestToSend S_t_7 S_t_7_0 S_t_0 x1) (fun r27 u27 => some (r27, (S_t, u27.2.2, u27.1, u27.2.1)))) else (bd (f_X6_refused S_t r4) (fun r14 u14 => some (r14, (u14, S_t_0, S_t_7, S_t_7_0)))))
def f_X6_ask (S_t : G) (S_t_0 : G) (S_t_6_0 : G) (x1 : Int32) : Option (Int32 × G × G × G) :=
  bd (f_X6_noBell S_t S_t_0 x1) (fun r2 u2 => if r2 = 0 then (bd (f_X1_longestRight S_t_6_0 u2.2 x1) (fun r25 u25 => some (r25, (u2.1, u25.2, u25.1)))) else (bd (f_X6_refused u2.1 r2) (fun r12 u12 => some (r12, (u12, u2.2, S_t_6_0)))))
def f_X6_leave (S_t : G) (S_t_0 : G) (S_t_5 : G) : Option (Int32 × G × G × G) :=
  bd (f_X5_whomToLeaveOut S_t_5 S_t_0) (fun r8 u8 => some (r8, (S_t, u8.2, u8.1)))
def f_X6_right (S_t : G) (S_t_0 : G) (S_t_5 : G) (S_t_6_0 : G) (x1 : Int32) : Option (Int32 × G × G × G × G) :=
  bd (f_X6_choice x1 (3 : Int32)) (fun r2 u2 => if r2 = 0 then (if x1 = (0 : Int32) then (bd (f_X5_rightBells S_t_5 S_t_0 (-9 : Int32)) (fun r54 u54 => some (r54, (S_t, u54.2, u54.1, S_t_6_0)))) else (if x1 = (1 : Int32) then (bd (f_X5_wrongBells S_t_5 S_t_0) (fun r66 u66 => some (r66, (S_t, u66.2, u66.1, S_t_6_0)))) else (bd (f_X1_lastDeaf S_t_6_0 S_t_0) (fun r78 u78 => some (r78, (S_t, u78.2, S_t_5, u78.1)))))) else (bd (f_X6_refused S_t r2) (fun r12 u12 => some (r12, (u12, S_t_0, S_t_5, S_t_6_0)))))
def f_X6_clash (S_t : G) (S_t_0 : G) (S_t_5 : G) (x1 : Int32) : Option (Int32 × G × G × G) :=
  bd (f_X6_choice x1 (2 : Int32)) (fun r2 u2 => if r2 = 0 then (if x1 = 0 then (bd (f_X5_clashes S_t_5 S_t_0) (fun r28 u28 => some (r28, (S_t, u28.2, u28.1)))) else (bd (f_X5_firstClash S_t_5 S_t_0) (fun r42 u42 => some (r42, (S_t, u42.2, u42.1))))) else (bd (f_X6_refused S_t r2) (fun r12 u12 => some (r12, (u12, S_t_0, S_t_5)))))
def f_X6_agreed (S_t : G) (S_t_0 : G) (S_t_5 : G) (x1 : Int32) : Option (Int32 × G × G × G) :=
  bd (f_X6_choice x1 (2 : Int32)) (fun r2 u2 => if r2 = 0 then (bd (f_X5_mostAgreed S_t_5 S_t_0) (fun r24 u24 => if x1 = 0 then (bd (f_J6_bitCount_0f7a4 r24) (fun r33 u33 => some (r33, (S_t, u24.2, u24.1)))) else (some (r24, (S_t, u24.2, u24.1))))) else (bd (f_X6_refused S_t r2) (fun r12 u12 => some (r12, (u12, S_t_0, S_t_5)))))
def f_X6_hours (S_t : G) (S_t_0 : G) (S_t_5 : G) (x1 : Int32) : Option (Int32 × G × G × G) :=
  bd (f_X6_choice x1 (2 : Int32)) (fun r2 u2 => if r2 = 0 then (if x1 = 0 then (bd (f_X5_hoursSaid S_t_5 S_t_0) (fun r28 u28 => some (r28, (S_t, u28.2, u28.1)))) else (bd (f_X4_silentBells S_t_0) (fun r38 u38 => some (r38, (S_t, u38, S_t_5))))) else (bd (f_X6_refused S_t r2) (fun r12 u12 => some (r12, (u12, S_t_0, S_t_5)))))
def f_X6_bedsFor (S_t : G) (S_t_0 : G) (S_t_7 : G) (S_t_7_0 : G) (x1 : Int32) : Option (Int32 × G × G × G × G) :=
  bd (f_X6_range x1 (0 : Int32) (40 : Int32)) (fun r4 u4 => if r4 = 0 then (bd (f_X3_fewestBeds S_t_7 S_t_7_0 S_t_0 x1) (fun r27 u27 => some (r27, (S_t, u27.2.2, u27.1, u27.2.1)))) else (bd (f_X6_refused S_t r4) (fun r14 u14 => some (r14, (u14, S_t_0, S_t_7, S_t_7_0)))))
def f_X6_next (S_t : G) (S_t_0 : G) (x1 : Int32) : Option (Int32 × G × G) :=
  bd (f_X6_noBell S_t S_t_0 x1) (fun r2 u2 => if r2 = 0 then (bd (f_X4_daysTillRinging u2.2 x1) (fun r21 u21 => some (r21, (u2.1, u21)))) else (bd (f_X6_refused u2.1 r2) (fun r12 u12 => some (r12, (u12, u2.2)))))
def f_X6_together (S_t : G) (S_t_0 : G) : Option (Int32 × G × G) :=
  bd (f_X4_daysTillAllRing S_t_0) (fun r4 u4 => some (r4, (S_t, u4)))
def f_X6_cost (S_t : G) (S_t_0 : G) (S_t_7 : G) (S_t_7_0 : G) (x1 : Int32) (x2 : Int32) (x3 : Int32) : Option (Int32 × G × G × G × G) :=
  bd (f_X6_noPerson S_t S_t_0 x1) (fun r2 u2 => bd (f_X6_noBell u2.1 u2.2 x3) (fun r7 u7 => bd (f_X6_first r2 r7) (fun r10 u10 => bd (f_X6_range x2 (1 : Int32) (9 : Int32)) (fun r21 u21 => bd (f_X6_first r10 r21) (fun r24 u24 => if r24 = 0 then (bd (f_X3_daysUnheardBySending S_t_7 S_t_7_0 u7.2 x1 x2 x3) (fun r55 u55 => some (r55, (u7.1, u55.2.2, u55.1, u55.2.1)))) else (bd (f_X6_refused u7.1 r24) (fun r39 u39 => some ((1000000000 : Int32) - r39, (u39, u7.2, S_t_7, S_t_7_0)))))))))
def f_X6_two_27 (S_t : G) (S_t_0 : G) (S_t_7 : G) (S_t_7_0 : G) (l1 : Int32) (l2 : Int32) (l3 : Int32) (s0 : Int32) (s1 : Int32) : Option (Int32 × G × G × G × G) :=
  bd (f_X6_first s0 s1) (fun r27 u27 => bd (f_X6_range l3 (1 : Int32) (20 : Int32)) (fun r38 u38 => bd (f_X6_first r27 r38) (fun r41 u41 => if r41 = 0 then (bd (f_X3_settledPair S_t_7 S_t_7_0 S_t_0 l1 l2 l3) (fun r69 u69 => some (r69, (S_t, u69.2.2, u69.1, u69.2.1)))) else (bd (f_X6_refused S_t r41) (fun r54 u54 => some (r54, (u54, S_t_0, S_t_7, S_t_7_0)))))))
def f_X6_two (S_t : G) (S_t_0 : G) (S_t_7 : G) (S_t_7_0 : G) (x1 : Int32) (x2 : Int32) (x3 : Int32) : Option (Int32 × G × G × G × G) :=
  bd (f_X6_noPerson S_t S_t_0 x1) (fun r2 u2 => bd (f_X6_noPerson u2.1 u2.2 x2) (fun r7 u7 => bd (f_X6_first r2 r7) (fun r10 u10 => if x1 = x2 then (f_X6_two_27 u7.1 u7.2 S_t_7 S_t_7_0 x1 x2 x3 r10 (-1 : Int32)) else (f_X6_two_27 u7.1 u7.2 S_t_7 S_t_7_0 x1 x2 x3 r10 (0 : Int32)))))
def b_X6_commonDivisor_9 (k9 : Int64 → Int64 → Int32 → Option (Int64 × Unit)) (l4 : Int64) (l6 : Int64) (l8 : Int32) : Option (Int64 × Unit) :=
  if (100 : Int32) ≤ l8 then (some (l4, ())) else (if (lg_cmp l6 (0 : Int64)) = 0 then (some (l4, ())) else (if l6 = 0 then none else k9 l6 (l4 - l4 / l6 * l6) (l8 + (1 : Int32))))
def f_X6_commonDivisor_9 : Nat → Int64 → Int64 → Int32 → Option (Int64 × Unit)
  | 0 => fun _ _ _ => none
  | n + 1 => b_X6_commonDivisor_9 (f_X6_commonDivisor_9 n)
def f_X6_commonDivisor (x0 : Int64) (x2 : Int64) : Option (Int64 × Unit) :=
  f_X6_commonDivisor_9 1000 x0 x2 (0 : Int32)
def f_X6_partOf (x0 : Int64) (x2 : Int64) (x4 : Int32) : Option (Int64 × Unit) :=
  bd (f_X6_commonDivisor x0 x2) (fun r2 u2 => if 0 ≤ (lg_cmp r2 (1 : Int64)) then (if x4 = 0 then (if r2 = 0 then none else some (x0 / r2, ())) else (if r2 = 0 then none else some (x2 / r2, ()))) else (some ((0 : Int64), ())))
def f_X6_fog_45 (S_t : G) (S_t_0 : G) (S_t_6_0 : G) (l1 : Int32) (l2 : Int32) (l3 : Int32) (l4 : Int32) (s0 : Int32) (s1 : Int32) : Option (Int64 × G × G × G) :=
  bd (f_X6_first s0 s1) (fun r45 u45 => bd (f_X6_choice l4 (2 : Int32)) (fun r55 u55 => bd (f_X6_first r45 r55) (fun r58 u58 => if r58 = 0 then (bd (f_X1_clearWays S_t_6_0 S_t_0 l1 l2 l3) (fun r91 u91 => bd (f_X6_power l3 l2) (fun r96 u96 => bd (f_X6_partOf r91 r96 l4) (fun r101 u101 => some (r101, (S_t, u91.2, u91.1)))))) else (bd (f_X6_refused S_t r58) (fun r74 u74 => some ((4000000000000000000 : Int64) - r74.toInt64, (u74, S_t_0, S_t_6_0)))))))
def f_X6_fog_39 (S_t : G) (S_t_0 : G) (S_t_6_0 : G) (l1 : Int32) (l2 : Int32) (l3 : Int32) (l4 : Int32) (s0 : Int32) : Option (Int64 × G × G × G) :=
  f_X6_fog_45 S_t S_t_0 S_t_6_0 l1 l2 l3 l4 s0 (-6 : Int32)
def f_X6_fog_20 (S_t : G) (S_t_0 : G) (S_t_6_0 : G) (l1 : Int32) (l2 : Int32) (l3 : Int32) (l4 : Int32) (s0 : Int32) (s1 : Int32) : Option (Int64 × G × G × G) :=
  bd (f_X6_first s0 s1) (fun r20 u20 => if (7 : Int32) < l2 then (f_X6_fog_39 S_t S_t_0 S_t_6_0 l1 l2 l3 l4 r20) else (if l3 ≤ (20 : Int32) then (f_X6_fog_45 S_t S_t_0 S_t_6_0 l1 l2 l3 l4 r20 (0 : Int32)) else (f_X6_fog_39 S_t S_t_0 S_t_6_0 l1 l2 l3 l4 r20)))
def f_X6_fog_14 (S_t : G) (S_t_0 : G) (S_t_6_0 : G) (l1 : Int32) (l2 : Int32) (l3 : Int32) (l4 : Int32) (s0 : Int32) : Option (Int64 × G × G × G) :=
  f_X6_fog_20 S_t S_t_0 S_t_6_0 l1 l2 l3 l4 s0 (-4 : Int32)
def f_X6_fog (S_t : G) (S_t_0 : G) (S_t_6_0 : G) (x1 : Int32) (x2 : Int32) (x3 : Int32) (x4 : Int32) : Option (Int64 × G × G × G) :=
  bd (f_X6_noBell S_t S_t_0 x1) (fun r2 u2 => if x2 < 0 then (f_X6_fog_14 u2.1 u2.2 S_t_6_0 x1 x2 x3 x4 r2) else (if (2 : Int32) ≤ x3 then (f_X6_fog_20 u2.1 u2.2 S_t_6_0 x1 x2 x3 x4 r2 (0 : Int32)) else (f_X6_fog_14 u2.1 u2.2 S_t_6_0 x1 x2 x3 x4 r2)))
def f_X6_mean (S_t : G) (S_t_0 : G) (x1 : Int32) : Option (Int64 × G × G) :=
  bd (f_X6_choice x1 (2 : Int32)) (fun r2 u2 => if r2 = 0 then (bd (f_X4_allSlept S_t_0) (fun r25 u25 => bd (f_X6_partOf r25.toInt64 ((if (1 : Int32) < (u25.1 3) then (u25.1 3) else (1 : Int32)).toInt64) x1) (fun r42 u42 => some (r42, (S_t, u25))))) else (bd (f_X6_refused S_t r2) (fun r15 u15 => some ((4000000000000000000 : Int64) - r15.toInt64, (u15, S_t_0)))))
def f_X6_whatIs (S_t : G) (S_t_0 : G) (S_t_4 : G) (S_t_6_0 : G) (x1 : Int32) (x2 : Int32) (x3 : Int32) : Option (Int32 × G × G × G × G) :=
  bd (f_X6_noPerson S_t S_t_0 x1) (fun r2 u2 => bd (f_X6_noBell u2.1 u2.2 x2) (fun r7 u7 => bd (f_X6_first r2 r7) (fun r10 u10 => bd (f_X6_choice x3 (2 : Int32)) (fun r19 u19 => bd (f_X6_first r10 r19) (fun r22 u22 => if r22 = 0 then (if x3 = 0 then (bd (f_X1_kindsBy S_t_6_0 u7.2 S_t_4 x1 x2) (fun r57 u57 => some (r57, (u7.1, u57.2.1, u57.2.2, u57.1)))) else (bd (f_X1_figuresBy S_t_6_0 u7.2 S_t_4 x1 x2) (fun r77 u77 => some (r77, (u7.1, u77.2.1, u77.2.2, u77.1))))) else (bd (f_X6_refused u7.1 r22) (fun r35 u35 => some (r35, (u35, u7.2, S_t_4, S_t_6_0)))))))))
def f_X6_row_25 (S_t : G) (S_t_4 : G) (l1 : Int32) (s0 : Int32) (s1 : Int32) : Option (Int32 × G × G) :=
  bd (f_X6_first s0 s1) (fun r25 u25 => if r25 = 0 then (bd (f_X2_add S_t_4 l1) (fun r44 u44 => some (u44.1 1, (S_t, u44)))) else (bd (f_X6_refused S_t r25) (fun r35 u35 => some (r35, (u35, S_t_4)))))
def f_X6_row (S_t : G) (S_t_4 : G) (x1 : Int32) : Option (Int32 × G × G) :=
  bd (f_X6_range x1 (0 : Int32) (99 : Int32)) (fun r4 u4 => if (16 : Int32) ≤ (S_t_4.1 1) then (f_X6_row_25 S_t S_t_4 x1 r4 (-6 : Int32)) else (f_X6_row_25 S_t S_t_4 x1 r4 (0 : Int32)))
def f_X6_judge (S_t : G) (S_t_0 : G) (S_t_4 : G) (S_t_6_0 : G) : Option (Int32 × G × G × G × G) :=
  bd (f_X1_firstUntrue S_t_6_0 S_t_0 S_t_4) (fun r12 u12 => bd (f_X2_forget u12.2.2) (fun r20 u20 => some (r12, (S_t, u12.2.1, u20, u12.1))))
def f_X6_clear (S_t : G) (S_t_4 : G) : Option (Int32 × G × G) :=
  bd (f_X2_forget S_t_4) (fun r12 u12 => some (S_t_4.1 1, (S_t, u12)))
def f_X6_lots_48 (S_t : G) (S_t_0 : G) (S_t_6_0 : G) (s2 : Int32) (s3 : Int32) (s4 : Int32) : Option (Int32 × G × G × G) :=
  bd (f_X1_townsByLot S_t_6_0 S_t_0 s2 s3 s4) (fun r48 u48 => some (r48, (S_t, u48.2, u48.1)))
def f_X6_lots (S_t : G) (S_t_0 : G) (S_t_6_0 : G) (x1 : Int32) (x2 : Int32) (x3 : Int32) : Option (Int32 × G × G × G) :=
  bd (f_X6_range x1 (1 : Int32) (20 : Int32)) (fun r4 u4 => bd (f_X6_choice x3 (2 : Int32)) (fun r9 u9 => bd (f_X6_first r4 r9) (fun r12 u12 => if r12 = 0 then (if x3 = 0 then (f_X6_lots_48 S_t S_t_0 S_t_6_0 x1 x2 (1 : Int32)) else (f_X6_lots_48 S_t S_t_0 S_t_6_0 x1 x2 (0 : Int32))) else (bd (f_X6_refused S_t r12) (fun r25 u25 => some (r25, (u25, S_t_0, S_t_6_0)))))))
def f_X6_image (S_t : G) (S_t_0 : G) (S_t_1 : G) : Option (Int32 × G × G × G) :=
  bd (f_X4_become S_t_1 S_t_0) (fun r8 u8 => lt (pF S_t 2 (1 : Int32)) (fun g13 => some (u8.2.1 8, (g13, u8.2, u8.1))))
def f_X6_on (S_t : G) (S_t_0 : G) (S_t_1 : G) : Option (Int32 × G × G × G) :=
  if (S_t.1 2) = 0 then (bd (f_X6_refused S_t (-3 : Int32)) (fun r10 u10 => some (r10, (u10, S_t_0, S_t_1)))) else (bd (f_X4_become S_t_0 S_t_1) (fun r22 u22 => some (u22.1.1 8, (S_t, u22.1, u22.2))))
def f_X6_count (S_t : G) (S_t_0 : G) (S_t_3 : G) (S_t_4 : G) (x1 : Int32) : Option (Int32 × G × G × G × G) :=
  if x1 = (0 : Int32) then (some (S_t_0.1 0, (S_t, S_t_0, S_t_3, S_t_4))) else (if x1 = (1 : Int32) then (some (S_t_0.1 3, (S_t, S_t_0, S_t_3, S_t_4))) else (if x1 = (2 : Int32) then (some (S_t_0.1 8, (S_t, S_t_0, S_t_3, S_t_4))) else (if x1 = (3 : Int32) then (some (S_t_0.1 9, (S_t, S_t_0, S_t_3, S_t_4))) else (if x1 = (4 : Int32) then (bd (f_X4_hearersOfSome S_t_0) (fun r84 u84 => bd (f_J6_bitCount_0f7a4 r84) (fun r87 u87 => some (r87, (S_t, u84, S_t_3, S_t_4))))) else (if x1 = (5 : Int32) then (bd (f_X4_allSlept S_t_0) (fun r95 u95 => some (r95, (S_t, u95, S_t_3, S_t_4)))) else (if x1 = (6 : Int32) then (some (S_t_4.1 1, (S_t, S_t_0, S_t_3, S_t_4))) else (if x1 = (7 : Int32) then (some (S_t_3.1 2, (S_t, S_t_0, S_t_3, S_t_4))) else (if x1 ≤ (10 : Int32) then (some ((-9 : Int32), (S_t, S_t_0, S_t_3, S_t_4))) else (if (16 : Int32) < x1 then (some ((-9 : Int32), (S_t, S_t_0, S_t_3, S_t_4))) else (if ck (x1 - (10 : Int32)) 7 = true then (some (S_t.2 8 (x1 - (10 : Int32)).toNatClampNeg, (S_t, S_t_0, S_t_3, S_t_4))) else none))))))))))
def f_X7_no (S_t : G) (x1 : Int32) : Option (Int32 × G) :=
  if ck (-x1) 7 = true then (if ck (-x1) 7 = true then (lt (pA S_t 0 (-x1).toNatClampNeg ((S_t.2 0 (-x1).toNatClampNeg) + (1 : Int32))) (fun g10 => some (x1, g10))) else none) else none
def f_X7_lower (S_t : G) (x1 : Int32) : Option (Int32 × G) :=
  if ck (-x1) 7 = true then (if ck (-x1) 7 = true then (lt (pA S_t 0 (-x1).toNatClampNeg ((S_t.2 0 (-x1).toNatClampNeg) + (1 : Int32))) (fun g10 => some ((1000000000 : Int32) - x1, g10))) else none) else none
def f_X7_lowest (S_t : G) (x1 : Int32) : Option (Int64 × G) :=
  if ck (-x1) 7 = true then (if ck (-x1) 7 = true then (lt (pA S_t 0 (-x1).toNatClampNeg ((S_t.2 0 (-x1).toNatClampNeg) + (1 : Int32))) (fun g10 => some ((4000000000000000000 : Int64) - x1.toInt64, g10))) else none) else none
def f_X7_isIn (x0 : Int32) (x1 : Int32) (x2 : Int32) : Option (Int32 × Unit) :=
  if x0 < x1 then (some ((0 : Int32), ())) else (if x2 < x0 then (some ((0 : Int32), ())) else (some ((1 : Int32), ())))
def f_X7_bound (x0 : Int32) (x1 : Int32) (x2 : Int32) : Option (Int32 × Unit) :=
  if x1 ≤ x0 then (if x0 ≤ x2 then (some ((0 : Int32), ())) else (some ((-6 : Int32), ()))) else (some ((-4 : Int32), ()))
def f_X7_held (x0 : Int32) (x1 : Int32) (x2 : Int32) : Option (Int32 × Unit) :=
  if x1 ≤ x0 then (if x0 ≤ x2 then (some (x0, ())) else (some (x2, ()))) else (some (x1, ()))
def f_X7_has (x0 : Int32) (x1 : Int32) : Option (Int32 × Unit) :=
  if ((x0 >>> (x1 &&& 31)) &&& (1 : Int32)) = (1 : Int32) then (some ((1 : Int32), ())) else (some ((0 : Int32), ()))
def b_X7_bits_4 (k4 : Int32 → Int32 → Int32 → Option (Int32 × Unit)) (l0 : Int32) (l1 : Int32) (l2 : Int32) : Option (Int32 × Unit) :=
  if (31 : Int32) ≤ l2 then (some (l1, ())) else (lt (l1 + ((l0 >>> (l2 &&& 31)) &&& (1 : Int32))) (fun v17 => k4 l0 v17 (l2 + (1 : Int32))))
def f_X7_bits_4 : Nat → Int32 → Int32 → Int32 → Option (Int32 × Unit)
  | 0 => fun _ _ _ => none
  | n + 1 => b_X7_bits_4 (f_X7_bits_4 n)
def f_X7_bits (x0 : Int32) : Option (Int32 × Unit) :=
  f_X7_bits_4 1000 x0 (0 : Int32) (0 : Int32)
def f_X7_isBell (S_t : G) (x1 : Int32) : Option (Int32 × G) :=
  if x1 < 0 then (some ((0 : Int32), S_t)) else (if (S_t.1 7) ≤ x1 then (some ((0 : Int32), S_t)) else (some ((1 : Int32), S_t)))
def f_X7_isOne (S_t : G) (x1 : Int32) : Option (Int32 × G) :=
  if x1 < 0 then (some ((0 : Int32), S_t)) else (if (S_t.1 8) ≤ x1 then (some ((0 : Int32), S_t)) else (some ((1 : Int32), S_t)))
def f_X7_letter_25 (S_t : G) (l1 : Int32) (l2 : Int32) : Option (Int32 × G) :=
  if l2 = 0 then (if ck (S_t.1 16) 96 = true then (lt (pA S_t 12 (S_t.1 16).toNatClampNeg l1) (fun g44 => lt (pF g44 16 ((g44.1 16) + (1 : Int32))) (fun g52 => some (g52.1 16, g52)))) else none) else (bd (f_X7_no S_t l2) (fun r31 u31 => some (r31, u31)))
def f_X7_letter (S_t : G) (x1 : Int32) : Option (Int32 × G) :=
  bd (f_X7_bound x1 (0 : Int32) (255 : Int32)) (fun r5 u5 => if r5 = 0 then (if (S_t.1 16) = (96 : Int32) then (f_X7_letter_25 S_t x1 (-6 : Int32)) else (f_X7_letter_25 S_t x1 r5)) else (f_X7_letter_25 S_t x1 r5))
def f_X7_nextLetter (S_t : G) : Option (Int32 × G) :=
  if (S_t.1 16) ≤ (S_t.1 17) then (some ((-1 : Int32), S_t)) else (if ck (S_t.1 17) 96 = true then (some (S_t.2 12 (S_t.1 17).toNatClampNeg, S_t)) else none)
def b_X7_readsDigits_5 (k5 : G → Int32 → Int32 → Int32 → Int32 → Option (Int32 × G)) (S_t : G) (l1 : Int32) (l2 : Int32) (l3 : Int32) (l4 : Int32) : Option (Int32 × G) :=
  if l2 ≤ l4 then (if ck l1 144 = true then (lt (pA S_t 15 l1.toNatClampNeg l3) (fun g62 => some ((1 : Int32), g62))) else none) else (bd (f_X7_nextLetter S_t) (fun r12 u12 => bd (f_X7_isIn r12 (48 : Int32) (57 : Int32)) (fun r19 u19 => if r19 = 0 then (some ((0 : Int32), u12)) else (bd (f_X7_nextLetter u12) (fun r32 u32 => lt ((((10 : Int32) * l3) + r32) - (48 : Int32)) (fun v39 => lt (pF u32 17 ((u32.1 17) + (1 : Int32))) (fun g47 => k5 g47 l1 l2 v39 (l4 + (1 : Int32)))))))))
def f_X7_readsDigits_5 : Nat → G → Int32 → Int32 → Int32 → Int32 → Option (Int32 × G)
  | 0 => fun _ _ _ _ _ => none
  | n + 1 => b_X7_readsDigits_5 (f_X7_readsDigits_5 n)
def f_X7_readsDigits (S_t : G) (x1 : Int32) (x2 : Int32) : Option (Int32 × G) :=
  f_X7_readsDigits_5 1000 S_t x1 x2 (0 : Int32) (0 : Int32)
def f_X7_kindOf (x0 : Int32) : Option (Int32 × Unit) :=
  if x0 = (112 : Int32) then (some ((0 : Int32), ())) else (if x0 = (99 : Int32) then (some ((1 : Int32), ())) else (if x0 = (119 : Int32) then (some ((2 : Int32), ())) else (if x0 = (100 : Int32) then (some ((3 : Int32), ())) else (if x0 = (108 : Int32) then (some ((4 : Int32), ())) else (if x0 = (111 : Int32) then (some ((5 : Int32), ())) else (some ((-1 : Int32), ())))))))
def f_X7_readsOne (S_t : G) (x1 : Int32) : Option (Int32 × G) :=
  bd (f_X7_nextLetter S_t) (fun r6 u6 => bd (f_X7_kindOf r6) (fun r9 u9 => if ck x1 144 = true then (lt (pA u6 15 x1.toNatClampNeg r9) (fun g12 => if ck x1 144 = true then (if 0 ≤ (g12.2 15 x1.toNatClampNeg) then (lt (pF g12 17 ((g12.1 17) + (1 : Int32))) (fun g31 => bd (f_X7_readsDigits g31 (x1 + (1 : Int32)) (1 : Int32)) (fun r39 u39 => if r39 = 0 then (some ((0 : Int32), u39)) else (bd (f_X7_readsDigits u39 (x1 + (2 : Int32)) (2 : Int32)) (fun r50 u50 => if r50 = 0 then (some ((0 : Int32), u50)) else (some ((1 : Int32), u50))))))) else (some ((0 : Int32), g12))) else none)) else none))
def f_X7_readsAll (S_t : G) (x1 : Int32) (x2 : Int32) : Option (Int32 × G) :=
  if x1 = (98 : Int32) then (bd (f_X7_readsDigits S_t x2 (2 : Int32)) (fun r55 u55 => if r55 = 0 then (some ((0 : Int32), u55)) else (bd (f_X7_readsDigits u55 (x2 + (1 : Int32)) (1 : Int32)) (fun r66 u66 => if r66 = 0 then (some ((0 : Int32), u66)) else (some ((1 : Int32), u66)))))) else (if x1 = (101 : Int32) then (bd (f_X7_readsDigits S_t x2 (1 : Int32)) (fun r139 u139 => if zb r139 = true then some (r139, u139) else none)) else (if x1 = (103 : Int32) then (bd (f_X7_readsDigits S_t x2 (1 : Int32)) (fun r87 u87 => if r87 = 0 then (some ((0 : Int32), u87)) else (bd (f_X7_readsDigits u87 (x2 + (1 : Int32)) (1 : Int32)) (fun r98 u98 => if r98 = 0 then (some ((0 : Int32), u98)) else (some ((1 : Int32), u98)))))) else (if x1 = (112 : Int32) then (bd (f_X7_readsOne S_t x2) (fun r80 u80 => if zb r80 = true then some (r80, u80) else none)) else (if x1 = (115 : Int32) then (bd (f_X7_readsDigits S_t x2 (1 : Int32)) (fun r113 u113 => if r113 = 0 then (some ((0 : Int32), u113)) else (bd (f_X7_readsDigits u113 (x2 + (1 : Int32)) (2 : Int32)) (fun r124 u124 => if r124 = 0 then (some ((0 : Int32), u124)) else (some ((1 : Int32), u124)))))) else (bd (f_X7_readsDigits S_t x2 (2 : Int32)) (fun r146 u146 => if zb r146 = true then some (r146, u146) else none))))))
def f_X7_statement_43 (S_t : G) (l1 : Int32) : Option (Int32 × G) :=
  if ck (S_t.1 18) 48 = true then (lt (pA S_t 13 (S_t.1 18).toNatClampNeg l1) (fun g52 => if ck (g52.1 18) 48 = true then (lt (pA g52 14 (g52.1 18).toNatClampNeg (g52.1 17)) (fun g65 => lt (pF g65 17 ((g65.1 17) + (1 : Int32))) (fun g73 => bd (f_X7_readsAll g73 l1 ((3 : Int32) * (g73.1 18))) (fun r84 u84 => if r84 = 0 then (some ((0 : Int32), u84)) else (bd (f_X7_nextLetter u84) (fun r91 u91 => if r91 = (59 : Int32) then (lt (pF u91 17 ((u91.1 17) + (1 : Int32))) (fun g108 => some ((1 : Int32), g108))) else (some ((0 : Int32), u91)))))))) else none)) else none
def f_X7_statement (S_t : G) : Option (Int32 × G) :=
  bd (f_X7_nextLetter S_t) (fun r1 u1 => if r1 = (98 : Int32) then (f_X7_statement_43 u1 r1) else (if r1 = (112 : Int32) then (f_X7_statement_43 u1 r1) else (if r1 = (103 : Int32) then (f_X7_statement_43 u1 r1) else (if r1 = (115 : Int32) then (f_X7_statement_43 u1 r1) else (if r1 = (101 : Int32) then (f_X7_statement_43 u1 r1) else (if r1 = (100 : Int32) then (f_X7_statement_43 u1 r1) else (some ((0 : Int32), u1))))))))
def f_X7_comesBell (S_t : G) (x1 : Int32) (x2 : Int32) : Option (Int32 × G) :=
  if (24 : Int32) ≤ x1 then (some ((0 : Int32), S_t)) else (if x2 = 0 then (some ((0 : Int32), S_t)) else (if (S_t.1 7) = (6 : Int32) then (some ((0 : Int32), S_t)) else (if ck (S_t.1 7) 6 = true then (lt (pA S_t 1 (S_t.1 7).toNatClampNeg x1) (fun g30 => if ck (g30.1 7) 6 = true then (lt (pA g30 2 (g30.1 7).toNatClampNeg x2) (fun g40 => lt (pF g40 7 ((g40.1 7) + (1 : Int32))) (fun g48 => some ((1 : Int32), g48)))) else none)) else none)))
def f_X7_comesOne (S_t : G) (x1 : Int32) (x2 : Int32) (x3 : Int32) : Option (Int32 × G) :=
  if (S_t.1 8) = (8 : Int32) then (some ((0 : Int32), S_t)) else (if ck (S_t.1 8) 8 = true then (lt (pA S_t 3 (S_t.1 8).toNatClampNeg x1) (fun g20 => if ck (g20.1 8) 8 = true then (lt (pA g20 4 (g20.1 8).toNatClampNeg x2) (fun g30 => if ck (g30.1 8) 8 = true then (lt (pA g30 5 (g30.1 8).toNatClampNeg x3) (fun g40 => if ck (g40.1 8) 8 = true then (lt (pA g40 6 (g40.1 8).toNatClampNeg (0 : Int32)) (fun g50 => lt (pF g50 8 ((g50.1 8) + (1 : Int32))) (fun g58 => some ((1 : Int32), g58)))) else none)) else none)) else none)) else none)
def f_X7_sleepsOne_74 (S_t : G) (s1 : Int32) (s2 : Int32) : Option (Unit × G) :=
  bd (f_X7_held s2 (0 : Int32) (99 : Int32)) (fun r77 u77 => if ck s1 8 = true then (lt (pA S_t 5 s1.toNatClampNeg r77) (fun g80 => some ((), g80))) else none)
def f_X7_sleepsOne (S_t : G) (x1 : Int32) (x2 : Int32) : Option (Unit × G) :=
  if ck x1 8 = true then (if (S_t.2 6 x1.toNatClampNeg) ≤ 0 then (if (S_t.1 10) ≤ x2 then (if ck x1 8 = true then (f_X7_sleepsOne_74 S_t x1 ((S_t.2 5 x1.toNatClampNeg) - (1 : Int32))) else none) else (if ck x1 8 = true then (f_X7_sleepsOne_74 S_t x1 ((S_t.2 5 x1.toNatClampNeg) + (1 : Int32))) else none)) else (if ck x1 8 = true then (if ck x1 8 = true then (lt (pA S_t 6 x1.toNatClampNeg ((S_t.2 6 x1.toNatClampNeg) - (1 : Int32))) (fun g18 => if ck x1 8 = true then (bd (f_X7_held ((g18.2 5 x1.toNatClampNeg) - (2 : Int32)) (0 : Int32) (99 : Int32)) (fun r35 u35 => if ck x1 8 = true then (lt (pA g18 5 x1.toNatClampNeg r35) (fun g38 => some ((), g38))) else none)) else none)) else none) else none)) else none
def f_X7_goesDay_40 (k14 : G → Int32 → Int32 → Int32 → Option (Unit × G)) (S_t : G) (l1 : Int32) (l2 : Int32) (l3 : Int32) (s0 : Int32) : Option (Unit × G) :=
  bd (f_X7_sleepsOne S_t l3 l2) (fun r45 u45 => k14 u45 l1 (l2 + s0) (l3 + (1 : Int32)))
def b_X7_goesDay_14 (k14 : G → Int32 → Int32 → Int32 → Option (Unit × G)) (S_t : G) (l1 : Int32) (l2 : Int32) (l3 : Int32) : Option (Unit × G) :=
  if (S_t.1 8) ≤ l3 then (some ((), S_t)) else (if l1 = 0 then (if ck l3 8 = true then (if (S_t.2 6 l3.toNatClampNeg) = 0 then (f_X7_goesDay_40 k14 S_t l1 l2 l3 (1 : Int32)) else (f_X7_goesDay_40 k14 S_t l1 l2 l3 (0 : Int32))) else none) else (some ((), S_t)))
def f_X7_goesDay_14 : Nat → G → Int32 → Int32 → Int32 → Option (Unit × G)
  | 0 => fun _ _ _ _ => none
  | n + 1 => b_X7_goesDay_14 (f_X7_goesDay_14 n)
def f_X7_goesDay (S_t : G) (x1 : Int32) : Option (Unit × G) :=
  lt (pF S_t 9 ((S_t.1 9) + (1 : Int32))) (fun g7 => f_X7_goesDay_14 1000 g7 x1 (0 : Int32) (0 : Int32))
def b_X7_goesOn_2 (k2 : G → Int32 → Int32 → Option (Unit × G)) (S_t : G) (l1 : Int32) (l2 : Int32) : Option (Unit × G) :=
  if l1 ≤ l2 then (some ((), S_t)) else (bd (f_X7_goesDay S_t (0 : Int32)) (fun r9 u9 => k2 u9 l1 (l2 + (1 : Int32))))
def f_X7_goesOn_2 : Nat → G → Int32 → Int32 → Option (Unit × G)
  | 0 => fun _ _ _ => none
  | n + 1 => b_X7_goesOn_2 (f_X7_goesOn_2 n)
def f_X7_goesOn (S_t : G) (x1 : Int32) : Option (Unit × G) :=
  f_X7_goesOn_2 1000 S_t x1 (0 : Int32)
def f_X7_comesDays (S_t : G) (x1 : Int32) : Option (Int32 × G) :=
  bd (f_X7_isIn x1 (1 : Int32) (60 : Int32)) (fun r4 u4 => if r4 = 0 then (some ((0 : Int32), S_t)) else (if ((S_t.1 9) + x1) ≤ (999 : Int32) then (bd (f_X7_goesOn S_t x1) (fun r26 u26 => some ((1 : Int32), u26))) else (some ((0 : Int32), S_t))))
def f_X7_comes (S_t : G) (x1 : Int32) : Option (Int32 × G) :=
  if ck x1 48 = true then (if (S_t.2 13 x1.toNatClampNeg) = (98 : Int32) then (if ck ((3 : Int32) * x1) 144 = true then (if ck (((3 : Int32) * x1) + (1 : Int32)) 144 = true then (bd (f_X7_comesBell S_t (S_t.2 15 ((3 : Int32) * x1).toNatClampNeg) (S_t.2 15 (((3 : Int32) * x1) + (1 : Int32)).toNatClampNeg)) (fun r75 u75 => if zb r75 = true then some (r75, u75) else none)) else none) else none) else (if (S_t.2 13 x1.toNatClampNeg) = (101 : Int32) then (if ck ((3 : Int32) * x1) 144 = true then (lt (pF S_t 10 (S_t.2 15 ((3 : Int32) * x1).toNatClampNeg)) (fun g185 => bd (f_X7_isIn (g185.1 10) (1 : Int32) (8 : Int32)) (fun r195 u195 => if zb r195 = true then some (r195, g185) else none))) else none) else (if (S_t.2 13 x1.toNatClampNeg) = (103 : Int32) then (if ck ((3 : Int32) * x1) 144 = true then (bd (f_X7_isOne S_t (S_t.2 15 ((3 : Int32) * x1).toNatClampNeg)) (fun r113 u113 => if r113 = 0 then (some ((0 : Int32), u113)) else (if ck ((3 : Int32) * x1) 144 = true then (if ck (((3 : Int32) * x1) + (1 : Int32)) 144 = true then (if ck (u113.2 15 ((3 : Int32) * x1).toNatClampNeg) 8 = true then (lt (pA u113 6 (u113.2 15 ((3 : Int32) * x1).toNatClampNeg).toNatClampNeg (u113.2 15 (((3 : Int32) * x1) + (1 : Int32)).toNatClampNeg)) (fun g139 => some ((1 : Int32), g139))) else none) else none) else none))) else none) else (if (S_t.2 13 x1.toNatClampNeg) = (112 : Int32) then (if ck ((3 : Int32) * x1) 144 = true then (if ck (((3 : Int32) * x1) + (1 : Int32)) 144 = true then (if ck (((3 : Int32) * x1) + (2 : Int32)) 144 = true then (bd (f_X7_comesOne S_t (S_t.2 15 ((3 : Int32) * x1).toNatClampNeg) (S_t.2 15 (((3 : Int32) * x1) + (1 : Int32)).toNatClampNeg) (S_t.2 15 (((3 : Int32) * x1) + (2 : Int32)).toNatClampNeg)) (fun r102 u102 => if zb r102 = true then some (r102, u102) else none)) else none) else none) else none) else (if (S_t.2 13 x1.toNatClampNeg) = (115 : Int32) then (if ck ((3 : Int32) * x1) 144 = true then (bd (f_X7_isOne S_t (S_t.2 15 ((3 : Int32) * x1).toNatClampNeg)) (fun r149 u149 => if r149 = 0 then (some ((0 : Int32), u149)) else (if ck ((3 : Int32) * x1) 144 = true then (if ck (((3 : Int32) * x1) + (1 : Int32)) 144 = true then (if ck (u149.2 15 ((3 : Int32) * x1).toNatClampNeg) 8 = true then (lt (pA u149 5 (u149.2 15 ((3 : Int32) * x1).toNatClampNeg).toNatClampNeg (u149.2 15 (((3 : Int32) * x1) + (1 : Int32)).toNatClampNeg)) (fun g175 => some ((1 : Int32), g175))) else none) else none) else none))) else none) else (if ck ((3 : Int32) * x1) 144 = true then (bd (f_X7_comesDays S_t (S_t.2 15 ((3 : Int32) * x1).toNatClampNeg)) (fun r206 u206 => if zb r206 = true then some (r206, u206) else none)) else none)))))) else none
def f_X7_passes_s1_42 (k2 : G → Int32 → Option (Unit × G)) (S_t : G) (l2 : Int32) : Option (Unit × G) :=
  lt (pF S_t 22 ((S_t.1 22) + (1 : Int32))) (fun g49 => k2 g49 (l2 + (1 : Int32)))
def b_X7_passes_s1_2 (k2 : G → Int32 → Option (Unit × G)) (S_t : G) (l2 : Int32) : Option (Unit × G) :=
  if (6 : Int32) ≤ l2 then (some ((), S_t)) else (if (S_t.1 21) = 0 then (if ck (S_t.1 22) 144 = true then (if ck l2 6 = true then (lt (pA S_t 1 l2.toNatClampNeg (S_t.2 19 (S_t.1 22).toNatClampNeg)) (fun g41 => f_X7_passes_s1_42 k2 g41 l2)) else none) else none) else (if ck l2 6 = true then (if ck (S_t.1 22) 144 = true then (lt (pA S_t 19 (S_t.1 22).toNatClampNeg (S_t.2 1 l2.toNatClampNeg)) (fun g26 => f_X7_passes_s1_42 k2 g26 l2)) else none) else none))
def f_X7_passes_s1_2 : Nat → G → Int32 → Option (Unit × G)
  | 0 => fun _ _ => none
  | n + 1 => b_X7_passes_s1_2 (f_X7_passes_s1_2 n)
def f_X7_passes_s1 (S_t : G) : Option (Unit × G) :=
  f_X7_passes_s1_2 1000 S_t (0 : Int32)
def f_X7_passes_s2_42 (k2 : G → Int32 → Option (Unit × G)) (S_t : G) (l2 : Int32) : Option (Unit × G) :=
  lt (pF S_t 22 ((S_t.1 22) + (1 : Int32))) (fun g49 => k2 g49 (l2 + (1 : Int32)))
def b_X7_passes_s2_2 (k2 : G → Int32 → Option (Unit × G)) (S_t : G) (l2 : Int32) : Option (Unit × G) :=
  if (6 : Int32) ≤ l2 then (some ((), S_t)) else (if (S_t.1 21) = 0 then (if ck (S_t.1 22) 144 = true then (if ck l2 6 = true then (lt (pA S_t 2 l2.toNatClampNeg (S_t.2 19 (S_t.1 22).toNatClampNeg)) (fun g41 => f_X7_passes_s2_42 k2 g41 l2)) else none) else none) else (if ck l2 6 = true then (if ck (S_t.1 22) 144 = true then (lt (pA S_t 19 (S_t.1 22).toNatClampNeg (S_t.2 2 l2.toNatClampNeg)) (fun g26 => f_X7_passes_s2_42 k2 g26 l2)) else none) else none))
def f_X7_passes_s2_2 : Nat → G → Int32 → Option (Unit × G)
  | 0 => fun _ _ => none
  | n + 1 => b_X7_passes_s2_2 (f_X7_passes_s2_2 n)
def f_X7_passes_s2 (S_t : G) : Option (Unit × G) :=
  f_X7_passes_s2_2 1000 S_t (0 : Int32)
def f_X7_passes_s3_42 (k2 : G → Int32 → Option (Unit × G)) (S_t : G) (l2 : Int32) : Option (Unit × G) :=
  lt (pF S_t 22 ((S_t.1 22) + (1 : Int32))) (fun g49 => k2 g49 (l2 + (1 : Int32)))
def b_X7_passes_s3_2 (k2 : G → Int32 → Option (Unit × G)) (S_t : G) (l2 : Int32) : Option (Unit × G) :=
  if (8 : Int32) ≤ l2 then (some ((), S_t)) else (if (S_t.1 21) = 0 then (if ck (S_t.1 22) 144 = true then (if ck l2 8 = true then (lt (pA S_t 3 l2.toNatClampNeg (S_t.2 19 (S_t.1 22).toNatClampNeg)) (fun g41 => f_X7_passes_s3_42 k2 g41 l2)) else none) else none) else (if ck l2 8 = true then (if ck (S_t.1 22) 144 = true then (lt (pA S_t 19 (S_t.1 22).toNatClampNeg (S_t.2 3 l2.toNatClampNeg)) (fun g26 => f_X7_passes_s3_42 k2 g26 l2)) else none) else none))
def f_X7_passes_s3_2 : Nat → G → Int32 → Option (Unit × G)
  | 0 => fun _ _ => none
  | n + 1 => b_X7_passes_s3_2 (f_X7_passes_s3_2 n)
def f_X7_passes_s3 (S_t : G) : Option (Unit × G) :=
  f_X7_passes_s3_2 1000 S_t (0 : Int32)
def f_X7_passes_s4_42 (k2 : G → Int32 → Option (Unit × G)) (S_t : G) (l2 : Int32) : Option (Unit × G) :=
  lt (pF S_t 22 ((S_t.1 22) + (1 : Int32))) (fun g49 => k2 g49 (l2 + (1 : Int32)))
def b_X7_passes_s4_2 (k2 : G → Int32 → Option (Unit × G)) (S_t : G) (l2 : Int32) : Option (Unit × G) :=
  if (8 : Int32) ≤ l2 then (some ((), S_t)) else (if (S_t.1 21) = 0 then (if ck (S_t.1 22) 144 = true then (if ck l2 8 = true then (lt (pA S_t 4 l2.toNatClampNeg (S_t.2 19 (S_t.1 22).toNatClampNeg)) (fun g41 => f_X7_passes_s4_42 k2 g41 l2)) else none) else none) else (if ck l2 8 = true then (if ck (S_t.1 22) 144 = true then (lt (pA S_t 19 (S_t.1 22).toNatClampNeg (S_t.2 4 l2.toNatClampNeg)) (fun g26 => f_X7_passes_s4_42 k2 g26 l2)) else none) else none))
def f_X7_passes_s4_2 : Nat → G → Int32 → Option (Unit × G)
  | 0 => fun _ _ => none
  | n + 1 => b_X7_passes_s4_2 (f_X7_passes_s4_2 n)
def f_X7_passes_s4 (S_t : G) : Option (Unit × G) :=
  f_X7_passes_s4_2 1000 S_t (0 : Int32)
def f_X7_passes_s5_42 (k2 : G → Int32 → Option (Unit × G)) (S_t : G) (l2 : Int32) : Option (Unit × G) :=
  lt (pF S_t 22 ((S_t.1 22) + (1 : Int32))) (fun g49 => k2 g49 (l2 + (1 : Int32)))
def b_X7_passes_s5_2 (k2 : G → Int32 → Option (Unit × G)) (S_t : G) (l2 : Int32) : Option (Unit × G) :=
  if (8 : Int32) ≤ l2 then (some ((), S_t)) else (if (S_t.1 21) = 0 then (if ck (S_t.1 22) 144 = true then (if ck l2 8 = true then (lt (pA S_t 5 l2.toNatClampNeg (S_t.2 19 (S_t.1 22).toNatClampNeg)) (fun g41 => f_X7_passes_s5_42 k2 g41 l2)) else none) else none) else (if ck l2 8 = true then (if ck (S_t.1 22) 144 = true then (lt (pA S_t 19 (S_t.1 22).toNatClampNeg (S_t.2 5 l2.toNatClampNeg)) (fun g26 => f_X7_passes_s5_42 k2 g26 l2)) else none) else none))
def f_X7_passes_s5_2 : Nat → G → Int32 → Option (Unit × G)
  | 0 => fun _ _ => none
  | n + 1 => b_X7_passes_s5_2 (f_X7_passes_s5_2 n)
def f_X7_passes_s5 (S_t : G) : Option (Unit × G) :=
  f_X7_passes_s5_2 1000 S_t (0 : Int32)
def f_X7_passes_s6_42 (k2 : G → Int32 → Option (Unit × G)) (S_t : G) (l2 : Int32) : Option (Unit × G) :=
  lt (pF S_t 22 ((S_t.1 22) + (1 : Int32))) (fun g49 => k2 g49 (l2 + (1 : Int32)))
def b_X7_passes_s6_2 (k2 : G → Int32 → Option (Unit × G)) (S_t : G) (l2 : Int32) : Option (Unit × G) :=
  if (8 : Int32) ≤ l2 then (some ((), S_t)) else (if (S_t.1 21) = 0 then (if ck (S_t.1 22) 144 = true then (if ck l2 8 = true then (lt (pA S_t 6 l2.toNatClampNeg (S_t.2 19 (S_t.1 22).toNatClampNeg)) (fun g41 => f_X7_passes_s6_42 k2 g41 l2)) else none) else none) else (if ck l2 8 = true then (if ck (S_t.1 22) 144 = true then (lt (pA S_t 19 (S_t.1 22).toNatClampNeg (S_t.2 6 l2.toNatClampNeg)) (fun g26 => f_X7_passes_s6_42 k2 g26 l2)) else none) else none))
def f_X7_passes_s6_2 : Nat → G → Int32 → Option (Unit × G)
  | 0 => fun _ _ => none
  | n + 1 => b_X7_passes_s6_2 (f_X7_passes_s6_2 n)
def f_X7_passes_s6 (S_t : G) : Option (Unit × G) :=
  f_X7_passes_s6_2 1000 S_t (0 : Int32)
def f_X7_passOne_38 (S_t : G) (l2 : Int32) : Option (Int32 × G) :=
  lt (pF S_t 22 ((S_t.1 22) + (1 : Int32))) (fun g45 => some (l2, g45))
def f_X7_passOne_20 (S_t : G) (l1 : Int32) (s0 : Int32) : Option (Int32 × G) :=
  if (S_t.1 21) = 0 then (f_X7_passOne_38 S_t s0) else (if ck (S_t.1 22) 144 = true then (lt (pA S_t 19 (S_t.1 22).toNatClampNeg l1) (fun g37 => f_X7_passOne_38 g37 s0)) else none)
def f_X7_passOne (S_t : G) (x1 : Int32) : Option (Int32 × G) :=
  if (S_t.1 21) = 0 then (if ck (S_t.1 22) 144 = true then (f_X7_passOne_20 S_t x1 (S_t.2 19 (S_t.1 22).toNatClampNeg)) else none) else (f_X7_passOne_20 S_t x1 x1)
def f_X7_passesAll (S_t : G) (x1 : Int32) (x2 : Int32) : Option (Unit × G) :=
  lt (pF S_t 22 ((48 : Int32) * x1)) (fun g5 => if zb x2 = true then (lt (pF g5 21 x2) (fun g10 => bd (f_X7_passes_s1 g10) (fun r18 u18 => bd (f_X7_passes_s2 u18) (fun r26 u26 => bd (f_X7_passes_s3 u26) (fun r34 u34 => bd (f_X7_passes_s4 u34) (fun r42 u42 => bd (f_X7_passes_s5 u42) (fun r50 u50 => bd (f_X7_passes_s6 u50) (fun r58 u58 => bd (f_X7_passOne u58 (u58.1 7)) (fun r67 u67 => lt (pF u67 7 r67) (fun g70 => bd (f_X7_passOne g70 (g70.1 8)) (fun r79 u79 => lt (pF u79 8 r79) (fun g82 => bd (f_X7_passOne g82 (g82.1 9)) (fun r91 u91 => lt (pF u91 9 r91) (fun g94 => bd (f_X7_passOne g94 (g94.1 10)) (fun r103 u103 => lt (pF u103 10 r103) (fun g106 => some ((), g106))))))))))))))))) else none)
def b_X7_town_86 (k86 : G → Int32 → Option (Int32 × G)) (S_t : G) (l2 : Int32) : Option (Int32 × G) :=
  if (S_t.1 18) ≤ l2 then (some (S_t.1 18, S_t)) else (bd (f_X7_comes S_t l2) (fun r96 u96 => if r96 = 0 then (bd (f_X7_passesAll u96 (1 : Int32) (0 : Int32)) (fun r108 u108 => if ck l2 48 = true then (some ((-2000 : Int32) - (u108.2 14 l2.toNatClampNeg), u108)) else none)) else (k86 u96 (l2 + (1 : Int32)))))
def f_X7_town_86 : Nat → G → Int32 → Option (Int32 × G)
  | 0 => fun _ _ => none
  | n + 1 => b_X7_town_86 (f_X7_town_86 n)
def f_X7_town_60 (S_t : G) (l1 : Int32) : Option (Int32 × G) :=
  lt (pF S_t 16 (0 : Int32)) (fun g62 => if l1 = 0 then (some ((-1000 : Int32) - (g62.1 17), g62)) else (bd (f_X7_passesAll g62 (1 : Int32) (1 : Int32)) (fun r81 u81 => f_X7_town_86 1000 u81 (0 : Int32))))
def f_X7_town_34 (k12 : G → Int32 → Option (Int32 × G)) (S_t : G) : Option (Int32 × G) :=
  bd (f_X7_statement S_t) (fun r35 u35 => if r35 = 0 then (lt (pF u35 18 ((u35.1 18) + (0 : Int32))) (fun g54 => k12 g54 r35)) else (lt (pF u35 18 ((u35.1 18) + (1 : Int32))) (fun g54 => k12 g54 r35)))
def b_X7_town_12 (k12 : G → Int32 → Option (Int32 × G)) (S_t : G) (l1 : Int32) : Option (Int32 × G) :=
  if l1 = 0 then (f_X7_town_60 S_t l1) else (if (S_t.1 17) < (S_t.1 16) then (f_X7_town_34 k12 S_t) else (if (S_t.1 18) = 0 then (f_X7_town_34 k12 S_t) else (f_X7_town_60 S_t l1)))
def f_X7_town_12 : Nat → G → Int32 → Option (Int32 × G)
  | 0 => fun _ _ => none
  | n + 1 => b_X7_town_12 (f_X7_town_12 n)
def f_X7_town (S_t : G) : Option (Int32 × G) :=
  lt (pF S_t 17 (0 : Int32)) (fun g2 => lt (pF g2 18 (0 : Int32)) (fun g7 => f_X7_town_12 1000 g7 (1 : Int32)))
def f_X7_thinks (S_t : G) : Option (Unit × G) :=
  bd (f_X7_passesAll S_t (2 : Int32) (1 : Int32)) (fun r3 u3 => some ((), u3))
def f_X7_forgets (S_t : G) : Option (Unit × G) :=
  bd (f_X7_passesAll S_t (2 : Int32) (0 : Int32)) (fun r3 u3 => some ((), u3))
def f_X7_changes (S_t : G) : Option (Unit × G) :=
  bd (f_X7_passesAll S_t (1 : Int32) (1 : Int32)) (fun r3 u3 => some ((), u3))
def f_X7_changesBack (S_t : G) : Option (Unit × G) :=
  bd (f_X7_passesAll S_t (1 : Int32) (0 : Int32)) (fun r3 u3 => some ((), u3))
def f_X7_image (S_t : G) : Option (Int32 × G) :=
  lt (pF S_t 20 (1 : Int32)) (fun g2 => bd (f_X7_passesAll g2 (0 : Int32) (1 : Int32)) (fun r8 u8 => some (u8.1 9, u8)))
def f_X7_on (S_t : G) : Option (Int32 × G) :=
  if (S_t.1 20) = 0 then (bd (f_X7_no S_t (-3 : Int32)) (fun r10 u10 => some (r10, u10))) else (bd (f_X7_passesAll S_t (0 : Int32) (0 : Int32)) (fun r17 u17 => some (u17.1 9, u17)))
def f_X7_nightsOf (S_t : G) (x1 : Int32) : Option (Int32 × G) :=
  if ck x1 8 = true then (if (S_t.2 3 x1.toNatClampNeg) = (1 : Int32) then (some ((0 : Int32), S_t)) else (if (S_t.2 3 x1.toNatClampNeg) = (2 : Int32) then (if ck x1 8 = true then (some ((9 : Int32) + (S_t.2 4 x1.toNatClampNeg), S_t)) else none) else (if (S_t.2 3 x1.toNatClampNeg) = (3 : Int32) then (if ck x1 8 = true then (some ((2 : Int32) * ((9 : Int32) + (S_t.2 4 x1.toNatClampNeg)), S_t)) else none) else (if (S_t.2 3 x1.toNatClampNeg) = (5 : Int32) then (some ((0 : Int32), S_t)) else (some ((9 : Int32), S_t)))))) else none
def f_X7_hears (S_t : G) (x1 : Int32) (x2 : Int32) : Option (Int32 × G) :=
  if x1 = (S_t.1 11) then (some ((0 : Int32), S_t)) else (if ck x1 8 = true then (if (S_t.2 6 x1.toNatClampNeg) ≤ 0 then (if ck x1 8 = true then (bd (f_X7_nightsOf S_t x1) (fun r27 u27 => if (S_t.2 5 x1.toNatClampNeg) < r27 then (some ((1 : Int32), u27)) else (if ck x1 8 = true then (if (u27.2 3 x1.toNatClampNeg) = (5 : Int32) then (if ck x2 6 = true then (if (u27.2 1 x2.toNatClampNeg) = (4 : Int32) then (some ((1 : Int32), u27)) else (some ((0 : Int32), u27))) else none) else (some ((0 : Int32), u27))) else none))) else none) else (some ((0 : Int32), S_t))) else none)
def f_X7_saysOf (S_t : G) (x1 : Int32) (x2 : Int32) : Option (Int32 × G) :=
  bd (f_X7_hears S_t x1 x2) (fun r3 u3 => if r3 = 0 then (some ((-9 : Int32), u3)) else (if ck x1 8 = true then (if (u3.2 3 x1.toNatClampNeg) = (3 : Int32) then (if ck x2 6 = true then (if (24 : Int32) = 0 then none else some (((u3.2 1 x2.toNatClampNeg) + (1 : Int32)) - ((u3.2 1 x2.toNatClampNeg) + (1 : Int32)) / (24 : Int32) * (24 : Int32), u3)) else none) else (if ck x1 8 = true then (if (u3.2 3 x1.toNatClampNeg) = (4 : Int32) then (if ck x2 6 = true then (if ck x1 8 = true then (if (24 : Int32) = 0 then none else some (((u3.2 1 x2.toNatClampNeg) + (u3.2 4 x1.toNatClampNeg)) - ((u3.2 1 x2.toNatClampNeg) + (u3.2 4 x1.toNatClampNeg)) / (24 : Int32) * (24 : Int32), u3)) else none) else none) else (if ck x2 6 = true then (some (u3.2 1 x2.toNatClampNeg, u3)) else none)) else none)) else none))
def b_X7_hearers_4 (k4 : G → Int32 → Int32 → Int32 → Option (Int32 × G)) (S_t : G) (l1 : Int32) (l2 : Int32) (l3 : Int32) : Option (Int32 × G) :=
  if (S_t.1 8) ≤ l3 then (some (l2, S_t)) else (bd (f_X7_hears S_t l3 l1) (fun r16 u16 => if r16 = 0 then (k4 u16 l1 (l2 ||| (0 : Int32)) (l3 + (1 : Int32))) else (lt (l2 ||| ((1 : Int32) <<< (l3 &&& 31))) (fun v30 => k4 u16 l1 v30 (l3 + (1 : Int32))))))
def f_X7_hearers_4 : Nat → G → Int32 → Int32 → Int32 → Option (Int32 × G)
  | 0 => fun _ _ _ _ => none
  | n + 1 => b_X7_hearers_4 (f_X7_hearers_4 n)
def f_X7_hearers (S_t : G) (x1 : Int32) : Option (Int32 × G) :=
  f_X7_hearers_4 1000 S_t x1 (0 : Int32) (0 : Int32)
def b_X7_manySay_5 (k5 : G → Int32 → Int32 → Int32 → Int32 → Option (Int32 × G)) (S_t : G) (l1 : Int32) (l2 : Int32) (l3 : Int32) (l4 : Int32) : Option (Int32 × G) :=
  if (S_t.1 8) ≤ l4 then (some (l3, S_t)) else (bd (f_X7_saysOf S_t l4 l1) (fun r19 u19 => if r19 = l2 then (k5 u19 l1 l2 (l3 + (1 : Int32)) (l4 + (1 : Int32))) else (k5 u19 l1 l2 (l3 + (0 : Int32)) (l4 + (1 : Int32)))))
def f_X7_manySay_5 : Nat → G → Int32 → Int32 → Int32 → Int32 → Option (Int32 × G)
  | 0 => fun _ _ _ _ _ => none
  | n + 1 => b_X7_manySay_5 (f_X7_manySay_5 n)
def f_X7_manySay (S_t : G) (x1 : Int32) (x2 : Int32) : Option (Int32 × G) :=
  f_X7_manySay_5 1000 S_t x1 x2 (0 : Int32) (0 : Int32)
def b_X7_saidOf_4 (k4 : G → Int32 → Int32 → Int32 → Option (Int32 × G)) (S_t : G) (l1 : Int32) (l2 : Int32) (l3 : Int32) : Option (Int32 × G) :=
  if (24 : Int32) ≤ l3 then (bd (f_X7_hearers S_t l1) (fun r39 u39 => if r39 = 0 then (some ((-9 : Int32), u39)) else (some (l2, u39)))) else (bd (f_X7_manySay S_t l1 l3) (fun r13 u13 => bd (f_X7_manySay u13 l1 l2) (fun r19 u19 => if r13 ≤ r19 then (k4 u19 l1 l2 (l3 + (1 : Int32))) else (k4 u19 l1 l3 (l3 + (1 : Int32))))))
def f_X7_saidOf_4 : Nat → G → Int32 → Int32 → Int32 → Option (Int32 × G)
  | 0 => fun _ _ _ _ => none
  | n + 1 => b_X7_saidOf_4 (f_X7_saidOf_4 n)
def f_X7_saidOf (S_t : G) (x1 : Int32) : Option (Int32 × G) :=
  f_X7_saidOf_4 1000 S_t x1 (0 : Int32) (1 : Int32)
def f_X7_isTrue (S_t : G) (x1 : Int32) : Option (Int32 × G) :=
  bd (f_X7_saidOf S_t x1) (fun r2 u2 => if ck x1 6 = true then (if r2 = (u2.2 1 x1.toNatClampNeg) then (some ((1 : Int32), u2)) else (some ((0 : Int32), u2))) else none)
def f_X7_ringsNow (S_t : G) (x1 : Int32) : Option (Int32 × G) :=
  if ck x1 6 = true then (if S_t.2 2 x1.toNatClampNeg = 0 then none else if ((S_t.1 9) - (S_t.1 9) / (S_t.2 2 x1.toNatClampNeg) * (S_t.2 2 x1.toNatClampNeg)) = 0 then (some ((1 : Int32), S_t)) else (some ((0 : Int32), S_t))) else none
def b_X7_hearsSome_2 (k2 : G → Int32 → Int32 → Option (Int32 × G)) (S_t : G) (l1 : Int32) (l2 : Int32) : Option (Int32 × G) :=
  if (S_t.1 7) ≤ l2 then (some ((0 : Int32), S_t)) else (bd (f_X7_hears S_t l1 l2) (fun r13 u13 => if r13 = 0 then (k2 u13 l1 (l2 + (1 : Int32))) else (some ((1 : Int32), u13))))
def f_X7_hearsSome_2 : Nat → G → Int32 → Int32 → Option (Int32 × G)
  | 0 => fun _ _ _ => none
  | n + 1 => b_X7_hearsSome_2 (f_X7_hearsSome_2 n)
def f_X7_hearsSome (S_t : G) (x1 : Int32) : Option (Int32 × G) :=
  f_X7_hearsSome_2 1000 S_t x1 (0 : Int32)
def b_X7_manyHear_4 (k4 : G → Int32 → Int32 → Option (Int32 × G)) (S_t : G) (l1 : Int32) (l2 : Int32) : Option (Int32 × G) :=
  if (S_t.1 8) ≤ l2 then (some (l1, S_t)) else (bd (f_X7_hearsSome S_t l2) (fun r15 u15 => if r15 = 0 then (k4 u15 (l1 + (0 : Int32)) (l2 + (1 : Int32))) else (k4 u15 (l1 + (1 : Int32)) (l2 + (1 : Int32)))))
def f_X7_manyHear_4 : Nat → G → Int32 → Int32 → Option (Int32 × G)
  | 0 => fun _ _ _ => none
  | n + 1 => b_X7_manyHear_4 (f_X7_manyHear_4 n)
def f_X7_manyHear (S_t : G) : Option (Int32 × G) :=
  f_X7_manyHear_4 1000 S_t (0 : Int32) (0 : Int32)
def f_X7_bell (S_t : G) (x1 : Int32) (x2 : Int32) : Option (Int32 × G) :=
  bd (f_X7_isBell S_t x1) (fun r2 u2 => if r2 = 0 then (bd (f_X7_no u2 (-1 : Int32)) (fun r10 u10 => some (r10, u10))) else (if x2 = (0 : Int32) then (if ck x1 6 = true then (some (u2.2 1 x1.toNatClampNeg, u2)) else none) else (if x2 = (1 : Int32) then (if ck x1 6 = true then (some (u2.2 2 x1.toNatClampNeg, u2)) else none) else (if x2 = (2 : Int32) then (bd (f_X7_hearers u2 x1) (fun r60 u60 => some (r60, u60))) else (if x2 = (3 : Int32) then (bd (f_X7_saidOf u2 x1) (fun r66 u66 => some (r66, u66))) else (bd (f_X7_no u2 (-2 : Int32)) (fun r73 u73 => some (r73, u73))))))))
def f_X7_person (S_t : G) (x1 : Int32) (x2 : Int32) : Option (Int32 × G) :=
  bd (f_X7_isOne S_t x1) (fun r2 u2 => if r2 = 0 then (bd (f_X7_no u2 (-1 : Int32)) (fun r10 u10 => some (r10, u10))) else (if x2 = (0 : Int32) then (if ck x1 8 = true then (some (u2.2 3 x1.toNatClampNeg, u2)) else none) else (if x2 = (1 : Int32) then (if ck x1 8 = true then (some (u2.2 4 x1.toNatClampNeg, u2)) else none) else (if x2 = (2 : Int32) then (if ck x1 8 = true then (some (u2.2 5 x1.toNatClampNeg, u2)) else none) else (if x2 = (3 : Int32) then (if ck x1 8 = true then (some (u2.2 6 x1.toNatClampNeg, u2)) else none) else (if x2 = (4 : Int32) then (bd (f_X7_nightsOf u2 x1) (fun r78 u78 => some (r78, u78))) else (bd (f_X7_no u2 (-2 : Int32)) (fun r85 u85 => some (r85, u85)))))))))
def f_X7_says_25 (S_t : G) : Option (Int32 × G) :=
  bd (f_X7_no S_t (-1 : Int32)) (fun r27 u27 => some (r27, u27))
def f_X7_says (S_t : G) (x1 : Int32) (x2 : Int32) : Option (Int32 × G) :=
  bd (f_X7_isOne S_t x1) (fun r2 u2 => if r2 = 0 then (f_X7_says_25 u2) else (bd (f_X7_isBell u2 x2) (fun r10 u10 => if r10 = 0 then (f_X7_says_25 u10) else (bd (f_X7_saysOf u10 x1 x2) (fun r19 u19 => some (r19, u19))))))
def f_X7_becomes_s6_19 (S_t : G) (l2 : Int32) (l3 : Int32) (s0 : Int32) : Option (Int32 × G) :=
  if s0 = 0 then (if ck l2 8 = true then (if ck l2 8 = true then (lt (pA S_t 6 l2.toNatClampNeg l3) (fun g41 => some (S_t.2 6 l2.toNatClampNeg, g41))) else none) else none) else (bd (f_X7_no S_t s0) (fun r29 u29 => some (r29, u29)))
def f_X7_becomes_s6 (S_t : G) (x2 : Int32) (x3 : Int32) (x4 : Int32) : Option (Int32 × G) :=
  bd (f_X7_isOne S_t x2) (fun r2 u2 => if r2 = 0 then (f_X7_becomes_s6_19 u2 x2 x3 (-1 : Int32)) else (bd (f_X7_bound x3 (0 : Int32) x4) (fun r16 u16 => f_X7_becomes_s6_19 u2 x2 x3 r16)))
def f_X7_becomes_s5_19 (S_t : G) (l2 : Int32) (l3 : Int32) (s0 : Int32) : Option (Int32 × G) :=
  if s0 = 0 then (if ck l2 8 = true then (if ck l2 8 = true then (lt (pA S_t 5 l2.toNatClampNeg l3) (fun g41 => some (S_t.2 5 l2.toNatClampNeg, g41))) else none) else none) else (bd (f_X7_no S_t s0) (fun r29 u29 => some (r29, u29)))
def f_X7_becomes_s5 (S_t : G) (x2 : Int32) (x3 : Int32) (x4 : Int32) : Option (Int32 × G) :=
  bd (f_X7_isOne S_t x2) (fun r2 u2 => if r2 = 0 then (f_X7_becomes_s5_19 u2 x2 x3 (-1 : Int32)) else (bd (f_X7_bound x3 (0 : Int32) x4) (fun r16 u16 => f_X7_becomes_s5_19 u2 x2 x3 r16)))
def f_X7_goes (S_t : G) (x1 : Int32) (x2 : Int32) : Option (Int32 × G) :=
  bd (f_X7_becomes_s6 S_t x1 x2 (9 : Int32)) (fun r9 u9 => some (r9, u9))
def f_X7_sleeps (S_t : G) (x1 : Int32) (x2 : Int32) : Option (Int32 × G) :=
  bd (f_X7_becomes_s5 S_t x1 x2 (99 : Int32)) (fun r9 u9 => some (r9, u9))
def f_X7_beds (S_t : G) (x1 : Int32) : Option (Int32 × G) :=
  bd (f_X7_bound x1 (1 : Int32) (8 : Int32)) (fun r4 u4 => if r4 = 0 then (lt (pF S_t 10 x1) (fun g25 => some (S_t.1 10, g25))) else (bd (f_X7_no S_t r4) (fun r14 u14 => some (r14, u14))))
def f_X7_turn_33 (S_t : G) (l1 : Int32) (l2 : Int32) (l3 : Int32) (s0 : Int32) : Option (Int32 × G) :=
  if s0 = 0 then (if ck l1 8 = true then (if ck l1 8 = true then (lt (((10 : Int32) * (S_t.2 3 l1.toNatClampNeg)) + (S_t.2 4 l1.toNatClampNeg)) (fun v63 => if ck l1 8 = true then (lt (pA S_t 3 l1.toNatClampNeg l2) (fun g71 => if ck l1 8 = true then (lt (pA g71 4 l1.toNatClampNeg l3) (fun g78 => some (v63, g78))) else none)) else none)) else none) else none) else (bd (f_X7_no S_t s0) (fun r43 u43 => some (r43, u43)))
def f_X7_turn (S_t : G) (x1 : Int32) (x2 : Int32) (x3 : Int32) : Option (Int32 × G) :=
  bd (f_X7_isOne S_t x1) (fun r2 u2 => if r2 = 0 then (f_X7_turn_33 u2 x1 x2 x3 (-1 : Int32)) else (bd (f_X7_isIn x2 (0 : Int32) (5 : Int32)) (fun r15 u15 => if r15 = 0 then (f_X7_turn_33 u2 x1 x2 x3 (-2 : Int32)) else (bd (f_X7_bound x3 (0 : Int32) (9 : Int32)) (fun r30 u30 => f_X7_turn_33 u2 x1 x2 x3 r30)))))
def f_X7_days_27 (S_t : G) (l1 : Int32) (l2 : Int32) : Option (Int32 × G) :=
  if l2 = 0 then (bd (f_X7_goesOn S_t l1) (fun r39 u39 => bd (f_X7_manyHear u39) (fun r43 u43 => some (r43, u43)))) else (bd (f_X7_no S_t l2) (fun r33 u33 => some (r33, u33)))
def f_X7_days (S_t : G) (x1 : Int32) : Option (Int32 × G) :=
  bd (f_X7_bound x1 (1 : Int32) (60 : Int32)) (fun r4 u4 => if r4 = 0 then (if ((S_t.1 9) + x1) ≤ (999 : Int32) then (f_X7_days_27 S_t x1 r4) else (f_X7_days_27 S_t x1 (-6 : Int32))) else (f_X7_days_27 S_t x1 r4))
def f_X7_notDays (x0 : Int32) : Option (Int32 × Unit) :=
  bd (f_X7_bound x0 (0 : Int32) (99 : Int32)) (fun r4 u4 => some (r4, ()))
def f_X7_personThen_76 (S_t : G) (s0 : Int32) : Option (Int32 × G) :=
  bd (f_X7_forgets S_t) (fun r79 u79 => some (s0, u79))
def f_X7_personThen_36 (S_t : G) (l1 : Int32) (l2 : Int32) (l3 : Int32) (l4 : Int32) : Option (Int32 × G) :=
  if l4 = 0 then (bd (f_X7_thinks S_t) (fun r49 u49 => bd (f_X7_goesOn u49 l2) (fun r54 u54 => if l3 = 0 then (if ck l1 8 = true then (f_X7_personThen_76 u54 (u54.2 5 l1.toNatClampNeg)) else none) else (if ck l1 8 = true then (f_X7_personThen_76 u54 (u54.2 6 l1.toNatClampNeg)) else none)))) else (bd (f_X7_no S_t l4) (fun r44 u44 => some (r44, u44)))
def f_X7_personThen_16 (S_t : G) (l1 : Int32) (l2 : Int32) (l3 : Int32) (s0 : Int32) : Option (Int32 × G) :=
  if s0 = 0 then (bd (f_X7_isIn l3 (0 : Int32) (1 : Int32)) (fun r26 u26 => if r26 = 0 then (f_X7_personThen_36 S_t l1 l2 l3 (-2 : Int32)) else (f_X7_personThen_36 S_t l1 l2 l3 s0))) else (f_X7_personThen_36 S_t l1 l2 l3 s0)
def f_X7_personThen (S_t : G) (x1 : Int32) (x2 : Int32) (x3 : Int32) : Option (Int32 × G) :=
  bd (f_X7_isOne S_t x1) (fun r2 u2 => if r2 = 0 then (f_X7_personThen_16 u2 x1 x2 x3 (-1 : Int32)) else (bd (f_X7_notDays x2) (fun r13 u13 => f_X7_personThen_16 u2 x1 x2 x3 r13)))
def f_X7_bellThen_87 (S_t : G) (s0 : Int32) : Option (Int32 × G) :=
  bd (f_X7_forgets S_t) (fun r90 u90 => some (s0, u90))
def f_X7_bellThen_36 (S_t : G) (l1 : Int32) (l2 : Int32) (l3 : Int32) (l4 : Int32) : Option (Int32 × G) :=
  if l4 = 0 then (bd (f_X7_thinks S_t) (fun r49 u49 => bd (f_X7_goesOn u49 l2) (fun r54 u54 => if l3 = 0 then (bd (f_X7_hearers u54 l1) (fun r63 u63 => f_X7_bellThen_87 u63 r63)) else (bd (f_X7_ringsNow u54 l1) (fun r71 u71 => if r71 = 0 then (f_X7_bellThen_87 u71 (-9 : Int32)) else (bd (f_X7_saidOf u71 l1) (fun r79 u79 => f_X7_bellThen_87 u79 r79))))))) else (bd (f_X7_no S_t l4) (fun r44 u44 => some (r44, u44)))
def f_X7_bellThen_16 (S_t : G) (l1 : Int32) (l2 : Int32) (l3 : Int32) (s0 : Int32) : Option (Int32 × G) :=
  if s0 = 0 then (bd (f_X7_isIn l3 (0 : Int32) (1 : Int32)) (fun r26 u26 => if r26 = 0 then (f_X7_bellThen_36 S_t l1 l2 l3 (-2 : Int32)) else (f_X7_bellThen_36 S_t l1 l2 l3 s0))) else (f_X7_bellThen_36 S_t l1 l2 l3 s0)
def f_X7_bellThen (S_t : G) (x1 : Int32) (x2 : Int32) (x3 : Int32) : Option (Int32 × G) :=
  bd (f_X7_isBell S_t x1) (fun r2 u2 => if r2 = 0 then (f_X7_bellThen_16 u2 x1 x2 x3 (-1 : Int32)) else (bd (f_X7_notDays x2) (fun r13 u13 => f_X7_bellThen_16 u2 x1 x2 x3 r13)))
def f_X7_deafAt_45 (S_t : G) (l2 : Int32) : Option (Int32 × G) :=
  bd (f_X7_forgets S_t) (fun r46 u46 => some (l2, u46))
def f_X7_deafAt_33 (k9 : G → Int32 → Int32 → Int32 → Option (Int32 × G)) (S_t : G) (l1 : Int32) (l3 : Int32) (s0 : Int32) : Option (Int32 × G) :=
  bd (f_X7_goesDay S_t (0 : Int32)) (fun r36 u36 => k9 u36 l1 s0 (l3 + (1 : Int32)))
def b_X7_deafAt_9 (k9 : G → Int32 → Int32 → Int32 → Option (Int32 × G)) (S_t : G) (l1 : Int32) (l2 : Int32) (l3 : Int32) : Option (Int32 × G) :=
  if (99 : Int32) < l3 then (f_X7_deafAt_45 S_t l2) else (if 0 ≤ l2 then (f_X7_deafAt_45 S_t l2) else (bd (f_X7_hearsSome S_t l1) (fun r21 u21 => if r21 = 0 then (f_X7_deafAt_33 k9 u21 l1 l3 l3) else (f_X7_deafAt_33 k9 u21 l1 l3 (-9 : Int32)))))
def f_X7_deafAt_9 : Nat → G → Int32 → Int32 → Int32 → Option (Int32 × G)
  | 0 => fun _ _ _ _ => none
  | n + 1 => b_X7_deafAt_9 (f_X7_deafAt_9 n)
def f_X7_deafAt (S_t : G) (x1 : Int32) : Option (Int32 × G) :=
  bd (f_X7_thinks S_t) (fun r1 u1 => f_X7_deafAt_9 1000 u1 x1 (-9 : Int32) (0 : Int32))
def f_X7_deaf (S_t : G) (x1 : Int32) : Option (Int32 × G) :=
  bd (f_X7_isOne S_t x1) (fun r2 u2 => if r2 = 0 then (bd (f_X7_no u2 (-1 : Int32)) (fun r18 u18 => some (r18, u18))) else (bd (f_X7_deafAt u2 x1) (fun r10 u10 => some (r10, u10))))
def f_X7_lostAt_56 (S_t : G) (l2 : Int32) : Option (Int32 × G) :=
  bd (f_X7_forgets S_t) (fun r57 u57 => some (l2, u57))
def f_X7_lostAt_44 (k20 : G → Int32 → Int32 → Int32 → Option (Int32 × G)) (S_t : G) (l1 : Int32) (l3 : Int32) (s0 : Int32) : Option (Int32 × G) :=
  bd (f_X7_goesDay S_t (0 : Int32)) (fun r47 u47 => k20 u47 l1 s0 (l3 + (1 : Int32)))
def b_X7_lostAt_20 (k20 : G → Int32 → Int32 → Int32 → Option (Int32 × G)) (S_t : G) (l1 : Int32) (l2 : Int32) (l3 : Int32) : Option (Int32 × G) :=
  if (99 : Int32) < l3 then (f_X7_lostAt_56 S_t l2) else (if 0 ≤ l2 then (f_X7_lostAt_56 S_t l2) else (bd (f_X7_hearers S_t l1) (fun r32 u32 => if r32 = 0 then (f_X7_lostAt_44 k20 u32 l1 l3 l3) else (f_X7_lostAt_44 k20 u32 l1 l3 (-9 : Int32)))))
def f_X7_lostAt_20 : Nat → G → Int32 → Int32 → Int32 → Option (Int32 × G)
  | 0 => fun _ _ _ _ => none
  | n + 1 => b_X7_lostAt_20 (f_X7_lostAt_20 n)
def f_X7_lostAt (S_t : G) (x1 : Int32) : Option (Int32 × G) :=
  bd (f_X7_hearers S_t x1) (fun r2 u2 => if r2 = 0 then (some ((-9 : Int32), u2)) else (bd (f_X7_thinks u2) (fun r12 u12 => f_X7_lostAt_20 1000 u12 x1 (-9 : Int32) (0 : Int32))))
def b_X7_lost_25 (k25 : G → Int32 → Int32 → Int32 → Int32 → Option (Int32 × G)) (S_t : G) (l1 : Int32) (l2 : Int32) (l3 : Int32) (l4 : Int32) : Option (Int32 × G) :=
  if (S_t.1 7) ≤ l4 then (if l1 = 0 then (some (l2, S_t)) else (some (l3, S_t))) else (bd (f_X7_lostAt S_t l4) (fun r37 u37 => if r37 < 0 then (k25 u37 l1 l2 l3 (l4 + (1 : Int32))) else (if l2 < 0 then (k25 u37 l1 l4 r37 (l4 + (1 : Int32))) else (if r37 < l3 then (k25 u37 l1 l4 r37 (l4 + (1 : Int32))) else (k25 u37 l1 l2 l3 (l4 + (1 : Int32)))))))
def f_X7_lost_25 : Nat → G → Int32 → Int32 → Int32 → Int32 → Option (Int32 × G)
  | 0 => fun _ _ _ _ _ => none
  | n + 1 => b_X7_lost_25 (f_X7_lost_25 n)
def f_X7_lost (S_t : G) (x1 : Int32) : Option (Int32 × G) :=
  bd (f_X7_isIn x1 (0 : Int32) (1 : Int32)) (fun r3 u3 => if r3 = 0 then (bd (f_X7_no S_t (-2 : Int32)) (fun r12 u12 => some (r12, u12))) else (f_X7_lost_25 1000 S_t x1 (-9 : Int32) (-9 : Int32) (0 : Int32)))
def b_X7_ringing_10 (k10 : G → Int32 → Int32 → Int32 → Int32 → Int32 → Option (Int32 × G)) (S_t : G) (l1 : Int32) (l2 : Int32) (l3 : Int32) (l4 : Int32) (l5 : Int32) : Option (Int32 × G) :=
  if l2 ≤ l5 then (bd (f_X7_forgets S_t) (fun r69 u69 => some (l4, u69))) else (bd (f_X7_goesDay S_t (0 : Int32)) (fun r18 u18 => bd (f_X7_ringsNow u18 l1) (fun r23 u23 => if r23 = 0 then (k10 u23 l1 l2 l3 l4 (l5 + (1 : Int32))) else (if l3 = 0 then (bd (f_X7_hearers u23 l1) (fun r48 u48 => if r48 = 0 then (k10 u48 l1 l2 l3 (l4 + (1 : Int32)) (l5 + (1 : Int32))) else (k10 u48 l1 l2 l3 (l4 + (0 : Int32)) (l5 + (1 : Int32))))) else (bd (f_X7_isTrue u23 l1) (fun r37 u37 => if r37 = 0 then (k10 u37 l1 l2 l3 (l4 + (0 : Int32)) (l5 + (1 : Int32))) else (k10 u37 l1 l2 l3 (l4 + (1 : Int32)) (l5 + (1 : Int32)))))))))
def f_X7_ringing_10 : Nat → G → Int32 → Int32 → Int32 → Int32 → Int32 → Option (Int32 × G)
  | 0 => fun _ _ _ _ _ _ => none
  | n + 1 => b_X7_ringing_10 (f_X7_ringing_10 n)
def f_X7_ringing (S_t : G) (x1 : Int32) (x2 : Int32) (x3 : Int32) : Option (Int32 × G) :=
  bd (f_X7_thinks S_t) (fun r1 u1 => f_X7_ringing_10 1000 u1 x1 x2 x3 (0 : Int32) (0 : Int32))
def f_X7_rings_65 (S_t : G) (s1 : Int32) (s2 : Int32) (s3 : Int32) : Option (Int32 × G) :=
  bd (f_X7_ringing S_t s1 s2 s3) (fun r65 u65 => some (r65, u65))
def f_X7_rings_39 (S_t : G) (l1 : Int32) (l2 : Int32) (l3 : Int32) (l4 : Int32) : Option (Int32 × G) :=
  if l4 = 0 then (if l3 = 0 then (f_X7_rings_65 S_t l1 l2 (1 : Int32)) else (f_X7_rings_65 S_t l1 l2 (0 : Int32))) else (bd (f_X7_no S_t l4) (fun r47 u47 => some (r47, u47)))
def f_X7_rings_19 (S_t : G) (l1 : Int32) (l2 : Int32) (l3 : Int32) (s0 : Int32) : Option (Int32 × G) :=
  if s0 = 0 then (bd (f_X7_isIn l3 (0 : Int32) (1 : Int32)) (fun r29 u29 => if r29 = 0 then (f_X7_rings_39 S_t l1 l2 l3 (-2 : Int32)) else (f_X7_rings_39 S_t l1 l2 l3 s0))) else (f_X7_rings_39 S_t l1 l2 l3 s0)
def f_X7_rings (S_t : G) (x1 : Int32) (x2 : Int32) (x3 : Int32) : Option (Int32 × G) :=
  bd (f_X7_isBell S_t x1) (fun r2 u2 => if r2 = 0 then (f_X7_rings_19 u2 x1 x2 x3 (-1 : Int32)) else (bd (f_X7_bound x2 (1 : Int32) (40 : Int32)) (fun r16 u16 => f_X7_rings_19 u2 x1 x2 x3 r16)))
def b_X7_allTrue_21 (k8 : G → Int32 → Int32 → Int32 → Option (Int32 × G)) (k21 : G → Int32 → Int32 → Int32 → Int32 → Option (Int32 × G)) (S_t : G) (l1 : Int32) (l2 : Int32) (l3 : Int32) (l4 : Int32) : Option (Int32 × G) :=
  if (S_t.1 7) ≤ l4 then (k8 S_t l1 l2 (l3 + (1 : Int32))) else (bd (f_X7_ringsNow S_t l4) (fun r34 u34 => if r34 = 0 then (k21 u34 l1 (l2 + (0 : Int32)) l3 (l4 + (1 : Int32))) else (bd (f_X7_isTrue u34 l4) (fun r43 u43 => if r43 = 0 then (k21 u43 l1 (l2 + (0 : Int32)) l3 (l4 + (1 : Int32))) else (k21 u43 l1 (l2 + (1 : Int32)) l3 (l4 + (1 : Int32)))))))
def f_X7_allTrue_21 (k8 : G → Int32 → Int32 → Int32 → Option (Int32 × G)) : Nat → G → Int32 → Int32 → Int32 → Int32 → Option (Int32 × G)
  | 0 => fun _ _ _ _ _ => none
  | n + 1 => b_X7_allTrue_21 k8 (f_X7_allTrue_21 k8 n)
def b_X7_allTrue_8 (k8 : G → Int32 → Int32 → Int32 → Option (Int32 × G)) (S_t : G) (l1 : Int32) (l2 : Int32) (l3 : Int32) : Option (Int32 × G) :=
  if l1 ≤ l3 then (bd (f_X7_forgets S_t) (fun r69 u69 => some (l2, u69))) else (bd (f_X7_goesDay S_t (0 : Int32)) (fun r15 u15 => f_X7_allTrue_21 k8 1000 u15 l1 l2 l3 (0 : Int32)))
def f_X7_allTrue_8 : Nat → G → Int32 → Int32 → Int32 → Option (Int32 × G)
  | 0 => fun _ _ _ _ => none
  | n + 1 => b_X7_allTrue_8 (f_X7_allTrue_8 n)
def f_X7_allTrue (S_t : G) (x1 : Int32) : Option (Int32 × G) :=
  bd (f_X7_thinks S_t) (fun r1 u1 => f_X7_allTrue_8 1000 u1 x1 (0 : Int32) (0 : Int32))
def b_X7_send_75 (k75 : G → Int32 → Int32 → Int32 → Int32 → Int32 → Int32 → Option (Int32 × G)) (S_t : G) (l1 : Int32) (l2 : Int32) (l3 : Int32) (l5 : Int32) (l6 : Int32) (l7 : Int32) : Option (Int32 × G) :=
  if (S_t.1 8) ≤ l7 then (some (l5, S_t)) else (if ck l7 8 = true then (if ck l7 8 = true then (lt (pA S_t 6 l7.toNatClampNeg l2) (fun g100 => bd (f_X7_ringing g100 l1 l3 (1 : Int32)) (fun r105 u105 => if ck l7 8 = true then (lt (pA u105 6 l7.toNatClampNeg (S_t.2 6 l7.toNatClampNeg)) (fun g118 => if l6 < r105 then (k75 g118 l1 l2 l3 l7 r105 (l7 + (1 : Int32))) else (k75 g118 l1 l2 l3 l5 l6 (l7 + (1 : Int32))))) else none))) else none) else none)
def f_X7_send_75 : Nat → G → Int32 → Int32 → Int32 → Int32 → Int32 → Int32 → Option (Int32 × G)
  | 0 => fun _ _ _ _ _ _ _ => none
  | n + 1 => b_X7_send_75 (f_X7_send_75 n)
def f_X7_send_45 (S_t : G) (l1 : Int32) (l2 : Int32) (l3 : Int32) (s0 : Int32) : Option (Int32 × G) :=
  if s0 = 0 then (bd (f_X7_ringing S_t l1 l3 (1 : Int32)) (fun r67 u67 => f_X7_send_75 1000 u67 l1 l2 l3 (-9 : Int32) r67 (0 : Int32))) else (bd (f_X7_no S_t s0) (fun r55 u55 => some (r55, u55)))
def f_X7_send_39 (S_t : G) (l1 : Int32) (l2 : Int32) (l3 : Int32) : Option (Int32 × G) :=
  f_X7_send_45 S_t l1 l2 l3 (-6 : Int32)
def f_X7_send_22 (S_t : G) (l1 : Int32) (l2 : Int32) (l3 : Int32) : Option (Int32 × G) :=
  f_X7_send_45 S_t l1 l2 l3 (-4 : Int32)
def f_X7_send (S_t : G) (x1 : Int32) (x2 : Int32) (x3 : Int32) : Option (Int32 × G) :=
  bd (f_X7_isBell S_t x1) (fun r2 u2 => if r2 = 0 then (f_X7_send_45 u2 x1 x2 x3 (-1 : Int32)) else (if x2 < (1 : Int32) then (f_X7_send_22 u2 x1 x2 x3) else (if (1 : Int32) ≤ x3 then (if (9 : Int32) < x2 then (f_X7_send_39 u2 x1 x2 x3) else (if x3 ≤ (40 : Int32) then (f_X7_send_45 u2 x1 x2 x3 (0 : Int32)) else (f_X7_send_39 u2 x1 x2 x3))) else (f_X7_send_22 u2 x1 x2 x3))))
def b_X7_nightsFor_52 (k52 : G → Int32 → Int32 → Int32 → Int32 → Int32 → Int32 → Option (Int32 × G)) (S_t : G) (l1 : Int32) (l2 : Int32) (l4 : Int32) (l5 : Int32) (l6 : Int32) (l7 : Int32) : Option (Int32 × G) :=
  if (9 : Int32) < l7 then (if ck l1 8 = true then (lt (pA S_t 6 l1.toNatClampNeg l6) (fun g105 => some (l4, g105))) else none) else (if ck l1 8 = true then (lt (pA S_t 6 l1.toNatClampNeg l7) (fun g66 => bd (f_X7_allTrue g66 l2) (fun r69 u69 => if l5 < r69 then (k52 u69 l1 l2 l7 r69 l6 (l7 + (1 : Int32))) else (k52 u69 l1 l2 l4 l5 l6 (l7 + (1 : Int32)))))) else none)
def f_X7_nightsFor_52 : Nat → G → Int32 → Int32 → Int32 → Int32 → Int32 → Int32 → Option (Int32 × G)
  | 0 => fun _ _ _ _ _ _ _ => none
  | n + 1 => b_X7_nightsFor_52 (f_X7_nightsFor_52 n)
def f_X7_nightsFor_19 (S_t : G) (l1 : Int32) (l2 : Int32) (s0 : Int32) : Option (Int32 × G) :=
  if s0 = 0 then (bd (f_X7_allTrue S_t l2) (fun r36 u36 => if ck l1 8 = true then (f_X7_nightsFor_52 1000 u36 l1 l2 (-9 : Int32) r36 (u36.2 6 l1.toNatClampNeg) (1 : Int32)) else none)) else (bd (f_X7_no S_t s0) (fun r26 u26 => some (r26, u26)))
def f_X7_nightsFor (S_t : G) (x1 : Int32) (x2 : Int32) : Option (Int32 × G) :=
  bd (f_X7_isOne S_t x1) (fun r2 u2 => if r2 = 0 then (f_X7_nightsFor_19 u2 x1 x2 (-1 : Int32)) else (bd (f_X7_bound x2 (1 : Int32) (40 : Int32)) (fun r16 u16 => f_X7_nightsFor_19 u2 x1 x2 r16)))
def b_X7_allHeard_2 (k2 : G → Int32 → Option (Int32 × G)) (S_t : G) (l1 : Int32) : Option (Int32 × G) :=
  if (S_t.1 7) ≤ l1 then (some ((1 : Int32), S_t)) else (bd (f_X7_hearers S_t l1) (fun r12 u12 => if r12 = 0 then (some ((0 : Int32), u12)) else (k2 u12 (l1 + (1 : Int32)))))
def f_X7_allHeard_2 : Nat → G → Int32 → Option (Int32 × G)
  | 0 => fun _ _ => none
  | n + 1 => b_X7_allHeard_2 (f_X7_allHeard_2 n)
def f_X7_allHeard (S_t : G) : Option (Int32 × G) :=
  f_X7_allHeard_2 1000 S_t (0 : Int32)
def f_X7_allHeardIn (S_t : G) (x1 : Int32) : Option (Int32 × G) :=
  bd (f_X7_thinks S_t) (fun r1 u1 => bd (f_X7_goesOn u1 x1) (fun r6 u6 => bd (f_X7_allHeard u6) (fun r10 u10 => bd (f_X7_forgets u10) (fun r15 u15 => if zb r10 = true then some (r10, u15) else none))))
def b_X7_allHeardWithout_6 (k6 : G → Int32 → Int32 → Int32 → Option (Int32 × G)) (S_t : G) (l1 : Int32) (l2 : Int32) (l3 : Int32) : Option (Int32 × G) :=
  if (S_t.1 8) ≤ l3 then (bd (f_X7_allHeardIn S_t l2) (fun r46 u46 => bd (f_X7_changesBack u46) (fun r51 u51 => if zb r46 = true then some (r46, u51) else none))) else (bd (f_X7_has l1 l3) (fun r21 u21 => if r21 = 0 then (if ck l3 8 = true then (if ck l3 8 = true then (lt (pA S_t 6 l3.toNatClampNeg (S_t.2 6 l3.toNatClampNeg)) (fun g37 => k6 g37 l1 l2 (l3 + (1 : Int32)))) else none) else none) else (if ck l3 8 = true then (lt (pA S_t 6 l3.toNatClampNeg (5 : Int32)) (fun g37 => k6 g37 l1 l2 (l3 + (1 : Int32)))) else none)))
def f_X7_allHeardWithout_6 : Nat → G → Int32 → Int32 → Int32 → Option (Int32 × G)
  | 0 => fun _ _ _ _ => none
  | n + 1 => b_X7_allHeardWithout_6 (f_X7_allHeardWithout_6 n)
def f_X7_allHeardWithout (S_t : G) (x1 : Int32) (x2 : Int32) : Option (Int32 × G) :=
  bd (f_X7_changes S_t) (fun r1 u1 => f_X7_allHeardWithout_6 1000 u1 x1 x2 (0 : Int32))
def f_X7_fewest_54 (k24 : G → Int32 → Int32 → Int32 → Option (Int32 × G)) (S_t : G) (l1 : Int32) (l3 : Int32) (l4 : Int32) : Option (Int32 × G) :=
  bd (f_X7_allHeardWithout S_t l4 l1) (fun r58 u58 => if r58 = 0 then (k24 u58 l1 l3 (l4 + (1 : Int32))) else (k24 u58 l1 l4 (l4 + (1 : Int32))))
def b_X7_fewest_24 (k24 : G → Int32 → Int32 → Int32 → Option (Int32 × G)) (S_t : G) (l1 : Int32) (l3 : Int32) (l4 : Int32) : Option (Int32 × G) :=
  if ((1 : Int32) <<< ((S_t.1 8) &&& 31)) ≤ l4 then (some (l3, S_t)) else (if l3 < 0 then (f_X7_fewest_54 k24 S_t l1 l3 l4) else (bd (f_X7_bits l4) (fun r41 u41 => bd (f_X7_bits l3) (fun r45 u45 => if r41 < r45 then (f_X7_fewest_54 k24 S_t l1 l3 l4) else (k24 S_t l1 l3 (l4 + (1 : Int32)))))))
def f_X7_fewest_24 : Nat → G → Int32 → Int32 → Int32 → Option (Int32 × G)
  | 0 => fun _ _ _ _ => none
  | n + 1 => b_X7_fewest_24 (f_X7_fewest_24 n)
def f_X7_fewest (S_t : G) (x1 : Int32) : Option (Int32 × G) :=
  bd (f_X7_bound x1 (0 : Int32) (40 : Int32)) (fun r4 u4 => if r4 = 0 then (f_X7_fewest_24 1000 S_t x1 (-9 : Int32) (0 : Int32)) else (bd (f_X7_no S_t r4) (fun r14 u14 => some (r14, u14))))
def f_X7_hearsTill_54 (S_t : G) (l3 : Int32) : Option (Int32 × G) :=
  bd (f_X7_forgets S_t) (fun r55 u55 => some (l3, u55))
def b_X7_hearsTill_11 (k11 : G → Int32 → Int32 → Int32 → Int32 → Option (Int32 × G)) (S_t : G) (l1 : Int32) (l2 : Int32) (l3 : Int32) (l4 : Int32) : Option (Int32 × G) :=
  if (99 : Int32) < l4 then (f_X7_hearsTill_54 S_t l3) else (if l3 = (1000 : Int32) then (bd (f_X7_goesDay S_t (0 : Int32)) (fun r27 u27 => bd (f_X7_hears u27 l1 l2) (fun r33 u33 => if r33 = 0 then (k11 u33 l1 l2 l4 (l4 + (1 : Int32))) else (k11 u33 l1 l2 (1000 : Int32) (l4 + (1 : Int32)))))) else (f_X7_hearsTill_54 S_t l3))
def f_X7_hearsTill_11 : Nat → G → Int32 → Int32 → Int32 → Int32 → Option (Int32 × G)
  | 0 => fun _ _ _ _ _ => none
  | n + 1 => b_X7_hearsTill_11 (f_X7_hearsTill_11 n)
def f_X7_hearsTill (S_t : G) (x1 : Int32) (x2 : Int32) : Option (Int32 × G) :=
  bd (f_X7_thinks S_t) (fun r1 u1 => f_X7_hearsTill_11 1000 u1 x1 x2 (1000 : Int32) (1 : Int32))
def f_X7_ask_58 (k22 : G → Int32 → Int32 → Int32 → Int32 → Option (Int32 × G)) (S_t : G) (l1 : Int32) (l2 : Int32) (l3 : Int32) (l4 : Int32) (s0 : Int32) : Option (Int32 × G) :=
  if l3 < s0 then (k22 S_t l1 l4 s0 (l4 + (1 : Int32))) else (k22 S_t l1 l2 l3 (l4 + (1 : Int32)))
def b_X7_ask_22 (k22 : G → Int32 → Int32 → Int32 → Int32 → Option (Int32 × G)) (S_t : G) (l1 : Int32) (l2 : Int32) (l3 : Int32) (l4 : Int32) : Option (Int32 × G) :=
  if (S_t.1 8) ≤ l4 then (some (l2, S_t)) else (bd (f_X7_saysOf S_t l4 l1) (fun r35 u35 => if ck l1 6 = true then (if r35 = (u35.2 1 l1.toNatClampNeg) then (bd (f_X7_hearsTill u35 l4 l1) (fun r51 u51 => f_X7_ask_58 k22 u51 l1 l2 l3 l4 r51)) else (f_X7_ask_58 k22 u35 l1 l2 l3 l4 (0 : Int32))) else none))
def f_X7_ask_22 : Nat → G → Int32 → Int32 → Int32 → Int32 → Option (Int32 × G)
  | 0 => fun _ _ _ _ _ => none
  | n + 1 => b_X7_ask_22 (f_X7_ask_22 n)
def f_X7_ask (S_t : G) (x1 : Int32) : Option (Int32 × G) :=
  bd (f_X7_isBell S_t x1) (fun r2 u2 => if r2 = 0 then (bd (f_X7_no u2 (-1 : Int32)) (fun r10 u10 => some (r10, u10))) else (f_X7_ask_22 1000 u2 x1 (-9 : Int32) (0 : Int32) (0 : Int32)))
def b_X7_manyTrue_4 (k4 : G → Int32 → Int32 → Option (Int32 × G)) (S_t : G) (l1 : Int32) (l2 : Int32) : Option (Int32 × G) :=
  if (S_t.1 7) ≤ l2 then (some (l1, S_t)) else (bd (f_X7_isTrue S_t l2) (fun r15 u15 => if r15 = 0 then (k4 u15 (l1 + (0 : Int32)) (l2 + (1 : Int32))) else (k4 u15 (l1 + (1 : Int32)) (l2 + (1 : Int32)))))
def f_X7_manyTrue_4 : Nat → G → Int32 → Int32 → Option (Int32 × G)
  | 0 => fun _ _ _ => none
  | n + 1 => b_X7_manyTrue_4 (f_X7_manyTrue_4 n)
def f_X7_manyTrue (S_t : G) : Option (Int32 × G) :=
  f_X7_manyTrue_4 1000 S_t (0 : Int32) (0 : Int32)
def b_X7_leave_10 (k10 : G → Int32 → Int32 → Int32 → Option (Int32 × G)) (S_t : G) (l1 : Int32) (l2 : Int32) (l3 : Int32) : Option (Int32 × G) :=
  if (S_t.1 8) ≤ l3 then (some (l1, S_t)) else (lt (pF S_t 11 l3) (fun g20 => bd (f_X7_manyTrue g20) (fun r24 u24 => lt (pF u24 11 (-9 : Int32)) (fun g32 => if l2 < r24 then (k10 g32 l3 r24 (l3 + (1 : Int32))) else (k10 g32 l1 l2 (l3 + (1 : Int32)))))))
def f_X7_leave_10 : Nat → G → Int32 → Int32 → Int32 → Option (Int32 × G)
  | 0 => fun _ _ _ _ => none
  | n + 1 => b_X7_leave_10 (f_X7_leave_10 n)
def f_X7_leave (S_t : G) : Option (Int32 × G) :=
  bd (f_X7_manyTrue S_t) (fun r4 u4 => f_X7_leave_10 1000 u4 (-9 : Int32) r4 (0 : Int32))
def b_X7_manyWrong_4 (k4 : G → Int32 → Int32 → Option (Int32 × G)) (S_t : G) (l1 : Int32) (l2 : Int32) : Option (Int32 × G) :=
  if (S_t.1 7) ≤ l2 then (some (l1, S_t)) else (bd (f_X7_hearers S_t l2) (fun r15 u15 => if r15 = 0 then (k4 u15 (l1 + (0 : Int32)) (l2 + (1 : Int32))) else (bd (f_X7_isTrue u15 l2) (fun r23 u23 => if r23 = 0 then (k4 u23 (l1 + (1 : Int32)) (l2 + (1 : Int32))) else (k4 u23 (l1 + (0 : Int32)) (l2 + (1 : Int32)))))))
def f_X7_manyWrong_4 : Nat → G → Int32 → Int32 → Option (Int32 × G)
  | 0 => fun _ _ _ => none
  | n + 1 => b_X7_manyWrong_4 (f_X7_manyWrong_4 n)
def f_X7_manyWrong (S_t : G) : Option (Int32 × G) :=
  f_X7_manyWrong_4 1000 S_t (0 : Int32) (0 : Int32)
def f_X7_lastOne_45 (k7 : G → Int32 → Int32 → Int32 → Option (Int32 × G)) (S_t : G) (l1 : Int32) (l2 : Int32) (l3 : Int32) (s0 : Int32) : Option (Int32 × G) :=
  if l1 < 0 then (k7 S_t l3 s0 (l3 + (1 : Int32))) else (if l2 < s0 then (k7 S_t l3 s0 (l3 + (1 : Int32))) else (k7 S_t l1 l2 (l3 + (1 : Int32))))
def b_X7_lastOne_7 (k7 : G → Int32 → Int32 → Int32 → Option (Int32 × G)) (S_t : G) (l1 : Int32) (l2 : Int32) (l3 : Int32) : Option (Int32 × G) :=
  if (S_t.1 8) ≤ l3 then (some (l1, S_t)) else (bd (f_X7_hearsSome S_t l3) (fun r17 u17 => if r17 = 0 then (k7 u17 l1 l2 (l3 + (1 : Int32))) else (bd (f_X7_deafAt u17 l3) (fun r28 u28 => if 0 ≤ r28 then (bd (f_X7_deafAt u28 l3) (fun r42 u42 => f_X7_lastOne_45 k7 u42 l1 l2 l3 r42)) else (f_X7_lastOne_45 k7 u28 l1 l2 l3 (1000 : Int32))))))
def f_X7_lastOne_7 : Nat → G → Int32 → Int32 → Int32 → Option (Int32 × G)
  | 0 => fun _ _ _ _ => none
  | n + 1 => b_X7_lastOne_7 (f_X7_lastOne_7 n)
def f_X7_lastOne (S_t : G) : Option (Int32 × G) :=
  f_X7_lastOne_7 1000 S_t (-9 : Int32) (0 : Int32) (0 : Int32)
def f_X7_right (S_t : G) (x1 : Int32) : Option (Int32 × G) :=
  bd (f_X7_isIn x1 (0 : Int32) (2 : Int32)) (fun r3 u3 => if r3 = 0 then (bd (f_X7_no S_t (-2 : Int32)) (fun r12 u12 => some (r12, u12))) else (if x1 = 0 then (bd (f_X7_manyTrue S_t) (fun r21 u21 => some (r21, u21))) else (if x1 = (1 : Int32) then (bd (f_X7_manyWrong S_t) (fun r33 u33 => some (r33, u33))) else (bd (f_X7_lastOne S_t) (fun r40 u40 => some (r40, u40))))))
def b_X7_areClashing_2 (k2 : G → Int32 → Int32 → Int32 → Option (Int32 × G)) (S_t : G) (l1 : Int32) (l2 : Int32) (l3 : Int32) : Option (Int32 × G) :=
  if (S_t.1 7) ≤ l3 then (some ((0 : Int32), S_t)) else (bd (f_X7_hears S_t l1 l3) (fun r13 u13 => if r13 = 0 then (k2 u13 l1 l2 (l3 + (1 : Int32))) else (bd (f_X7_hears u13 l2 l3) (fun r22 u22 => if r22 = 0 then (k2 u22 l1 l2 (l3 + (1 : Int32))) else (bd (f_X7_saysOf u22 l1 l3) (fun r31 u31 => bd (f_X7_saysOf u31 l2 l3) (fun r37 u37 => if r31 = r37 then (k2 u37 l1 l2 (l3 + (1 : Int32))) else (some ((1 : Int32), u37)))))))))
def f_X7_areClashing_2 : Nat → G → Int32 → Int32 → Int32 → Option (Int32 × G)
  | 0 => fun _ _ _ _ => none
  | n + 1 => b_X7_areClashing_2 (f_X7_areClashing_2 n)
def f_X7_areClashing (S_t : G) (x1 : Int32) (x2 : Int32) : Option (Int32 × G) :=
  f_X7_areClashing_2 1000 S_t x1 x2 (0 : Int32)
def b_X7_clash_42 (k29 : G → Int32 → Int32 → Int32 → Int32 → Option (Int32 × G)) (k42 : G → Int32 → Int32 → Int32 → Int32 → Int32 → Option (Int32 × G)) (S_t : G) (l1 : Int32) (l2 : Int32) (l3 : Int32) (l4 : Int32) (l5 : Int32) : Option (Int32 × G) :=
  if l5 ≤ l4 then (k29 S_t l1 l2 l3 (l4 + (-1 : Int32))) else (bd (f_X7_areClashing S_t l4 l5) (fun r54 u54 => if r54 = 0 then (k42 u54 l1 l2 l3 l4 (l5 + (-1 : Int32))) else (k42 u54 l1 (l2 + (1 : Int32)) (((10 : Int32) * l4) + l5) l4 (l5 + (-1 : Int32)))))
def f_X7_clash_42 (k29 : G → Int32 → Int32 → Int32 → Int32 → Option (Int32 × G)) : Nat → G → Int32 → Int32 → Int32 → Int32 → Int32 → Option (Int32 × G)
  | 0 => fun _ _ _ _ _ _ => none
  | n + 1 => b_X7_clash_42 k29 (f_X7_clash_42 k29 n)
def b_X7_clash_29 (k29 : G → Int32 → Int32 → Int32 → Int32 → Option (Int32 × G)) (S_t : G) (l1 : Int32) (l2 : Int32) (l3 : Int32) (l4 : Int32) : Option (Int32 × G) :=
  if l4 < 0 then (if l1 = 0 then (some (l2, S_t)) else (some (l3, S_t))) else (f_X7_clash_42 k29 1000 S_t l1 l2 l3 l4 ((S_t.1 8) - (1 : Int32)))
def f_X7_clash_29 : Nat → G → Int32 → Int32 → Int32 → Int32 → Option (Int32 × G)
  | 0 => fun _ _ _ _ _ => none
  | n + 1 => b_X7_clash_29 (f_X7_clash_29 n)
def f_X7_clash (S_t : G) (x1 : Int32) : Option (Int32 × G) :=
  bd (f_X7_isIn x1 (0 : Int32) (1 : Int32)) (fun r3 u3 => if r3 = 0 then (bd (f_X7_no S_t (-2 : Int32)) (fun r12 u12 => some (r12, u12))) else (f_X7_clash_29 1000 S_t x1 (0 : Int32) (-9 : Int32) ((S_t.1 8) - (1 : Int32))))
def b_X7_areAgreed_35 (k2 : G → Int32 → Int32 → Option (Int32 × G)) (k35 : G → Int32 → Int32 → Int32 → Option (Int32 × G)) (S_t : G) (l1 : Int32) (l2 : Int32) (l3 : Int32) : Option (Int32 × G) :=
  if (S_t.1 8) ≤ l3 then (k2 S_t l1 (l2 + (1 : Int32))) else (bd (f_X7_has l1 l3) (fun r45 u45 => if r45 = 0 then (k35 S_t l1 l2 (l3 + (1 : Int32))) else (bd (f_X7_areClashing S_t l2 l3) (fun r54 u54 => if r54 = 0 then (k35 u54 l1 l2 (l3 + (1 : Int32))) else (some ((0 : Int32), u54))))))
def f_X7_areAgreed_35 (k2 : G → Int32 → Int32 → Option (Int32 × G)) : Nat → G → Int32 → Int32 → Int32 → Option (Int32 × G)
  | 0 => fun _ _ _ _ => none
  | n + 1 => b_X7_areAgreed_35 k2 (f_X7_areAgreed_35 k2 n)
def b_X7_areAgreed_2 (k2 : G → Int32 → Int32 → Option (Int32 × G)) (S_t : G) (l1 : Int32) (l2 : Int32) : Option (Int32 × G) :=
  if (S_t.1 8) ≤ l2 then (some ((1 : Int32), S_t)) else (bd (f_X7_has l1 l2) (fun r12 u12 => if r12 = 0 then (k2 S_t l1 (l2 + (1 : Int32))) else (bd (f_X7_hearsSome S_t l2) (fun r23 u23 => if r23 = 0 then (some ((0 : Int32), u23)) else (f_X7_areAgreed_35 k2 1000 u23 l1 l2 (l2 + (1 : Int32)))))))
def f_X7_areAgreed_2 : Nat → G → Int32 → Int32 → Option (Int32 × G)
  | 0 => fun _ _ _ => none
  | n + 1 => b_X7_areAgreed_2 (f_X7_areAgreed_2 n)
def f_X7_areAgreed (S_t : G) (x1 : Int32) : Option (Int32 × G) :=
  f_X7_areAgreed_2 1000 S_t x1 (0 : Int32)
def b_X7_agreed_20 (k20 : G → Int32 → Int32 → Int32 → Option (Int32 × G)) (S_t : G) (l1 : Int32) (l2 : Int32) (l3 : Int32) : Option (Int32 × G) :=
  if ((1 : Int32) <<< ((S_t.1 8) &&& 31)) ≤ l3 then (if l1 = 0 then (bd (f_X7_bits l2) (fun r62 u62 => some (r62, S_t))) else (some (l2, S_t))) else (bd (f_X7_bits l3) (fun r31 u31 => bd (f_X7_bits l2) (fun r35 u35 => if r31 ≤ r35 then (k20 S_t l1 l2 (l3 + (1 : Int32))) else (bd (f_X7_areAgreed S_t l3) (fun r43 u43 => if r43 = 0 then (k20 u43 l1 l2 (l3 + (1 : Int32))) else (k20 u43 l1 l3 (l3 + (1 : Int32))))))))
def f_X7_agreed_20 : Nat → G → Int32 → Int32 → Int32 → Option (Int32 × G)
  | 0 => fun _ _ _ _ => none
  | n + 1 => b_X7_agreed_20 (f_X7_agreed_20 n)
def f_X7_agreed (S_t : G) (x1 : Int32) : Option (Int32 × G) :=
  bd (f_X7_isIn x1 (0 : Int32) (1 : Int32)) (fun r3 u3 => if r3 = 0 then (bd (f_X7_no S_t (-2 : Int32)) (fun r12 u12 => some (r12, u12))) else (f_X7_agreed_20 1000 S_t x1 (0 : Int32) (1 : Int32)))
def b_X7_hours_55 (k23 : G → Int32 → Int32 → Int32 → Int32 → Option (Int32 × G)) (k55 : G → Int32 → Int32 → Int32 → Int32 → Int32 → Option (Int32 × G)) (S_t : G) (l1 : Int32) (l2 : Int32) (l3 : Int32) (l4 : Int32) (l5 : Int32) : Option (Int32 × G) :=
  if (S_t.1 8) ≤ l5 then (k23 S_t l1 l2 l3 (l4 + (1 : Int32))) else (bd (f_X7_hears S_t l5 l4) (fun r70 u70 => if r70 = 0 then (k55 u70 l1 (l2 ||| (0 : Int32)) l3 l4 (l5 + (1 : Int32))) else (bd (f_X7_saysOf u70 l5 l4) (fun r82 u82 => lt (l2 ||| ((1 : Int32) <<< (r82 &&& 31))) (fun v91 => k55 u82 l1 v91 l3 l4 (l5 + (1 : Int32)))))))
def f_X7_hours_55 (k23 : G → Int32 → Int32 → Int32 → Int32 → Option (Int32 × G)) : Nat → G → Int32 → Int32 → Int32 → Int32 → Int32 → Option (Int32 × G)
  | 0 => fun _ _ _ _ _ _ => none
  | n + 1 => b_X7_hours_55 k23 (f_X7_hours_55 k23 n)
def b_X7_hours_23 (k23 : G → Int32 → Int32 → Int32 → Int32 → Option (Int32 × G)) (S_t : G) (l1 : Int32) (l2 : Int32) (l3 : Int32) (l4 : Int32) : Option (Int32 × G) :=
  if (S_t.1 7) ≤ l4 then (if l1 = 0 then (some (l2, S_t)) else (some (l3, S_t))) else (bd (f_X7_hearers S_t l4) (fun r36 u36 => if r36 = 0 then (lt (l3 ||| ((1 : Int32) <<< (l4 &&& 31))) (fun v51 => f_X7_hours_55 k23 1000 u36 l1 l2 v51 l4 (0 : Int32))) else (f_X7_hours_55 k23 1000 u36 l1 l2 (l3 ||| (0 : Int32)) l4 (0 : Int32))))
def f_X7_hours_23 : Nat → G → Int32 → Int32 → Int32 → Int32 → Option (Int32 × G)
  | 0 => fun _ _ _ _ _ => none
  | n + 1 => b_X7_hours_23 (f_X7_hours_23 n)
def f_X7_hours (S_t : G) (x1 : Int32) : Option (Int32 × G) :=
  bd (f_X7_isIn x1 (0 : Int32) (1 : Int32)) (fun r3 u3 => if r3 = 0 then (bd (f_X7_no S_t (-2 : Int32)) (fun r12 u12 => some (r12, u12))) else (f_X7_hours_23 1000 S_t x1 (0 : Int32) (0 : Int32) (0 : Int32)))
def b_X7_bedsFor_30 (k30 : G → Int32 → Int32 → Int32 → Int32 → Option (Int32 × G)) (S_t : G) (l1 : Int32) (l3 : Int32) (l4 : Int32) (l5 : Int32) : Option (Int32 × G) :=
  if (9 : Int32) ≤ l5 then (lt (pF S_t 10 l3) (fun g73 => some (l4, g73))) else (if 0 ≤ l4 then (lt (pF S_t 10 l3) (fun g73 => some (l4, g73))) else (lt (pF S_t 10 l5) (fun g45 => bd (f_X7_allHeardIn g45 l1) (fun r50 u50 => if r50 = 0 then (k30 u50 l1 l3 (-9 : Int32) (l5 + (1 : Int32))) else (k30 u50 l1 l3 l5 (l5 + (1 : Int32)))))))
def f_X7_bedsFor_30 : Nat → G → Int32 → Int32 → Int32 → Int32 → Option (Int32 × G)
  | 0 => fun _ _ _ _ _ => none
  | n + 1 => b_X7_bedsFor_30 (f_X7_bedsFor_30 n)
def f_X7_bedsFor (S_t : G) (x1 : Int32) : Option (Int32 × G) :=
  bd (f_X7_bound x1 (0 : Int32) (40 : Int32)) (fun r4 u4 => if r4 = 0 then (f_X7_bedsFor_30 1000 S_t x1 (S_t.1 10) (-9 : Int32) (1 : Int32)) else (bd (f_X7_no S_t r4) (fun r14 u14 => some (r14, u14))))
def f_X7_next (S_t : G) (x1 : Int32) : Option (Int32 × G) :=
  bd (f_X7_isBell S_t x1) (fun r2 u2 => if r2 = 0 then (bd (f_X7_no u2 (-1 : Int32)) (fun r31 u31 => some (r31, u31))) else (if ck x1 6 = true then (if ck x1 6 = true then (if u2.2 2 x1.toNatClampNeg = 0 then none else some ((u2.2 2 x1.toNatClampNeg) - ((u2.1 9) - (u2.1 9) / (u2.2 2 x1.toNatClampNeg) * (u2.2 2 x1.toNatClampNeg)), u2)) else none) else none))
def b_X7_together_19 (k2 : G → Int32 → Option (Int32 × G)) (k19 : G → Int32 → Int32 → Int32 → Option (Int32 × G)) (S_t : G) (l1 : Int32) (l2 : Int32) (l3 : Int32) : Option (Int32 × G) :=
  if (S_t.1 7) ≤ l3 then (if l2 = (S_t.1 7) then (some (l1, S_t)) else (k2 S_t (l1 + (1 : Int32)))) else (if ck l3 6 = true then (if S_t.2 2 l3.toNatClampNeg = 0 then none else if (((S_t.1 9) + l1) - ((S_t.1 9) + l1) / (S_t.2 2 l3.toNatClampNeg) * (S_t.2 2 l3.toNatClampNeg)) = 0 then (k19 S_t l1 (l2 + (1 : Int32)) (l3 + (1 : Int32))) else (k19 S_t l1 (l2 + (0 : Int32)) (l3 + (1 : Int32)))) else none)
def f_X7_together_19 (k2 : G → Int32 → Option (Int32 × G)) : Nat → G → Int32 → Int32 → Int32 → Option (Int32 × G)
  | 0 => fun _ _ _ _ => none
  | n + 1 => b_X7_together_19 k2 (f_X7_together_19 k2 n)
def b_X7_together_2 (k2 : G → Int32 → Option (Int32 × G)) (S_t : G) (l1 : Int32) : Option (Int32 × G) :=
  if (99 : Int32) < l1 then (some ((-9 : Int32), S_t)) else (if (S_t.1 7) ≤ 0 then (some ((-9 : Int32), S_t)) else (f_X7_together_19 k2 1000 S_t l1 (0 : Int32) (0 : Int32)))
def f_X7_together_2 : Nat → G → Int32 → Option (Int32 × G)
  | 0 => fun _ _ => none
  | n + 1 => b_X7_together_2 (f_X7_together_2 n)
def f_X7_together (S_t : G) : Option (Int32 × G) :=
  f_X7_together_2 1000 S_t (1 : Int32)
def b_X7_hearsIn_9 (k9 : G → Int32 → Int32 → Int32 → Int32 → Option (Int32 × G)) (S_t : G) (l1 : Int32) (l2 : Int32) (l3 : Int32) (l4 : Int32) : Option (Int32 × G) :=
  if (20 : Int32) ≤ l4 then (bd (f_X7_forgets S_t) (fun r45 u45 => some (l3, u45))) else (bd (f_X7_goesDay S_t (0 : Int32)) (fun r18 u18 => bd (f_X7_hears u18 l1 l2) (fun r25 u25 => if r25 = 0 then (k9 u25 l1 l2 (l3 + (0 : Int32)) (l4 + (1 : Int32))) else (k9 u25 l1 l2 (l3 + (1 : Int32)) (l4 + (1 : Int32))))))
def f_X7_hearsIn_9 : Nat → G → Int32 → Int32 → Int32 → Int32 → Option (Int32 × G)
  | 0 => fun _ _ _ _ _ => none
  | n + 1 => b_X7_hearsIn_9 (f_X7_hearsIn_9 n)
def f_X7_hearsIn (S_t : G) (x1 : Int32) (x2 : Int32) : Option (Int32 × G) :=
  bd (f_X7_thinks S_t) (fun r1 u1 => f_X7_hearsIn_9 1000 u1 x1 x2 (0 : Int32) (0 : Int32))
def f_X7_cost_27 (S_t : G) (l1 : Int32) (l2 : Int32) (l3 : Int32) (s0 : Int32) : Option (Int32 × G) :=
  if s0 = 0 then (bd (f_X7_hearsIn S_t l1 l3) (fun r44 u44 => if ck l1 8 = true then (if ck l1 8 = true then (lt (pA u44 6 l1.toNatClampNeg l2) (fun g63 => bd (f_X7_hearsIn g63 l1 l3) (fun r67 u67 => if ck l1 8 = true then (lt (pA u67 6 l1.toNatClampNeg (u44.2 6 l1.toNatClampNeg)) (fun g79 => some (r44 - r67, g79))) else none))) else none) else none)) else (bd (f_X7_lower S_t s0) (fun r37 u37 => some (r37, u37)))
def f_X7_cost_16 (S_t : G) (l1 : Int32) (l2 : Int32) (l3 : Int32) : Option (Int32 × G) :=
  f_X7_cost_27 S_t l1 l2 l3 (-1 : Int32)
def f_X7_cost (S_t : G) (x1 : Int32) (x2 : Int32) (x3 : Int32) : Option (Int32 × G) :=
  bd (f_X7_isOne S_t x1) (fun r2 u2 => if r2 = 0 then (f_X7_cost_16 u2 x1 x2 x3) else (bd (f_X7_isBell u2 x3) (fun r10 u10 => if r10 = 0 then (f_X7_cost_16 u10 x1 x2 x3) else (bd (f_X7_bound x2 (1 : Int32) (9 : Int32)) (fun r24 u24 => f_X7_cost_27 u10 x1 x2 x3 r24)))))
def f_X7_liesNow (S_t : G) (x1 : Int32) (x2 : Int32) : Option (Unit × G) :=
  if x2 = 0 then (some ((), S_t)) else (if ck x1 8 = true then (lt (pA S_t 3 x1.toNatClampNeg (4 : Int32)) (fun g11 => if ck x1 8 = true then (lt (pA g11 4 x1.toNatClampNeg (5 : Int32)) (fun g18 => some ((), g18))) else none)) else none)
def b_X7_two_102 (k102 : G → Int32 → Option (Int32 × G)) (S_t : G) (l5 : Int32) : Option (Int32 × G) :=
  if (4 : Int32) ≤ l5 then (some ((-9 : Int32), S_t)) else (if ck (l5 ^^^ (2 : Int32)) 4 = true then (if ck l5 4 = true then (if (S_t.2 23 l5.toNatClampNeg) < (S_t.2 23 (l5 ^^^ (2 : Int32)).toNatClampNeg) then (k102 S_t (l5 + (1 : Int32))) else (if ck (l5 ^^^ (1 : Int32)) 4 = true then (if ck l5 4 = true then (if (S_t.2 23 (l5 ^^^ (1 : Int32)).toNatClampNeg) < (S_t.2 23 l5.toNatClampNeg) then (k102 S_t (l5 + (1 : Int32))) else (if (2 : Int32) = 0 then none else if (2 : Int32) = 0 then none else some (((10 : Int32) * (l5 / (2 : Int32))) + (l5 - l5 / (2 : Int32) * (2 : Int32)), S_t))) else none) else none)) else none) else none)
def f_X7_two_102 : Nat → G → Int32 → Option (Int32 × G)
  | 0 => fun _ _ => none
  | n + 1 => b_X7_two_102 (f_X7_two_102 n)
def b_X7_two_49 (k49 : G → Int32 → Int32 → Int32 → Int32 → Option (Int32 × G)) (S_t : G) (l1 : Int32) (l2 : Int32) (l3 : Int32) (l5 : Int32) : Option (Int32 × G) :=
  if (4 : Int32) ≤ l5 then (f_X7_two_102 1000 S_t (0 : Int32)) else (bd (f_X7_changes S_t) (fun r56 u56 => if (2 : Int32) = 0 then none else bd (f_X7_liesNow u56 l1 (l5 / (2 : Int32))) (fun r65 u65 => if (2 : Int32) = 0 then none else bd (f_X7_liesNow u65 l2 (l5 - l5 / (2 : Int32) * (2 : Int32))) (fun r74 u74 => bd (f_X7_allTrue u74 l3) (fun r85 u85 => if ck l5 4 = true then (lt (pA u85 23 l5.toNatClampNeg r85) (fun g88 => bd (f_X7_changesBack g88) (fun r90 u90 => k49 u90 l1 l2 l3 (l5 + (1 : Int32))))) else none)))))
def f_X7_two_49 : Nat → G → Int32 → Int32 → Int32 → Int32 → Option (Int32 × G)
  | 0 => fun _ _ _ _ _ => none
  | n + 1 => b_X7_two_49 (f_X7_two_49 n)
def f_X7_two_32 (S_t : G) (l1 : Int32) (l2 : Int32) (l3 : Int32) (s0 : Int32) : Option (Int32 × G) :=
  if s0 = 0 then (f_X7_two_49 1000 S_t l1 l2 l3 (0 : Int32)) else (bd (f_X7_no S_t s0) (fun r42 u42 => some (r42, u42)))
def f_X7_two_21 (S_t : G) (l1 : Int32) (l2 : Int32) (l3 : Int32) : Option (Int32 × G) :=
  f_X7_two_32 S_t l1 l2 l3 (-1 : Int32)
def f_X7_two (S_t : G) (x1 : Int32) (x2 : Int32) (x3 : Int32) : Option (Int32 × G) :=
  bd (f_X7_isOne S_t x1) (fun r2 u2 => if r2 = 0 then (f_X7_two_21 u2 x1 x2 x3) else (bd (f_X7_isOne u2 x2) (fun r10 u10 => if r10 = 0 then (f_X7_two_21 u10 x1 x2 x3) else (if x1 = x2 then (f_X7_two_21 u10 x1 x2 x3) else (bd (f_X7_bound x3 (1 : Int32) (20 : Int32)) (fun r29 u29 => f_X7_two_32 u10 x1 x2 x3 r29))))))
def b_X7_divisor_6 (k6 : Int64 → Int64 → Option (Int64 × Unit)) (l4 : Int64) (l6 : Int64) : Option (Int64 × Unit) :=
  if (lg_cmp l6 (0 : Int64)) = 0 then (some (l4, ())) else (if l6 = 0 then none else k6 l6 (l4 - l4 / l6 * l6))
def f_X7_divisor_6 : Nat → Int64 → Int64 → Option (Int64 × Unit)
  | 0 => fun _ _ => none
  | n + 1 => b_X7_divisor_6 (f_X7_divisor_6 n)
def f_X7_divisor (x0 : Int64) (x2 : Int64) : Option (Int64 × Unit) :=
  f_X7_divisor_6 1000 x0 x2
def f_X7_partOf_10 (l0 : Int64) (l2 : Int64) (s0 : Int64) : Option (Int64 × Unit) :=
  bd (f_X7_divisor l0 l2) (fun r12 u12 => if r12 = 0 then none else some (s0 / r12, ()))
def f_X7_partOf (x0 : Int64) (x2 : Int64) (x4 : Int32) : Option (Int64 × Unit) :=
  if x4 = 0 then (f_X7_partOf_10 x0 x2 x0) else (f_X7_partOf_10 x0 x2 x2)
def f_X7_fog_184 (k104 : G → Int32 → Int32 → Int32 → Int32 → Int64 → Int64 → Int32 → Option (Int64 × G)) (S_t : G) (l1 : Int32) (l2 : Int32) (l3 : Int32) (l4 : Int32) (l8 : Int64) (l10 : Int32) (s0 : Int64) (s1 : Int64) : Option (Int64 × G) :=
  bd (f_X7_forgets S_t) (fun r188 u188 => k104 u188 l1 l2 l3 l4 (s0 + s1) l8 (l10 + (1 : Int32)))
def f_X7_fog_148 (k104 : G → Int32 → Int32 → Int32 → Int32 → Int64 → Int64 → Int32 → Option (Int64 × G)) (k122 : G → Int32 → Int32 → Int32 → Int32 → Int64 → Int64 → Int32 → Int64 → Int32 → Option (Int64 × G)) (S_t : G) (l1 : Int32) (l2 : Int32) (l3 : Int32) (l4 : Int32) (l6 : Int64) (l8 : Int64) (l10 : Int32) (l13 : Int32) (s0 : Int64) (s1 : Int64) : Option (Int64 × G) :=
  bd (f_X7_has l10 l13) (fun r156 u156 => bd (f_X7_goesDay S_t r156) (fun r159 u159 => k122 u159 l1 l2 l3 l4 l6 l8 l10 (s0 * s1) (l13 + (1 : Int32))))
def b_X7_fog_122 (k104 : G → Int32 → Int32 → Int32 → Int32 → Int64 → Int64 → Int32 → Option (Int64 × G)) (k122 : G → Int32 → Int32 → Int32 → Int32 → Int64 → Int64 → Int32 → Int64 → Int32 → Option (Int64 × G)) (S_t : G) (l1 : Int32) (l2 : Int32) (l3 : Int32) (l4 : Int32) (l6 : Int64) (l8 : Int64) (l10 : Int32) (l11 : Int64) (l13 : Int32) : Option (Int64 × G) :=
  if l2 ≤ l13 then (bd (f_X7_hearers S_t l1) (fun r172 u172 => if r172 = 0 then (f_X7_fog_184 k104 u172 l1 l2 l3 l4 l8 l10 l6 (0 : Int64)) else (f_X7_fog_184 k104 u172 l1 l2 l3 l4 l8 l10 l6 l11))) else (bd (f_X7_has l10 l13) (fun r134 u134 => if r134 = 0 then (f_X7_fog_148 k104 k122 S_t l1 l2 l3 l4 l6 l8 l10 l13 l11 ((l3 - (1 : Int32)).toInt64)) else (f_X7_fog_148 k104 k122 S_t l1 l2 l3 l4 l6 l8 l10 l13 l11 (1 : Int64))))
def f_X7_fog_122 (k104 : G → Int32 → Int32 → Int32 → Int32 → Int64 → Int64 → Int32 → Option (Int64 × G)) : Nat → G → Int32 → Int32 → Int32 → Int32 → Int64 → Int64 → Int32 → Int64 → Int32 → Option (Int64 × G)
  | 0 => fun _ _ _ _ _ _ _ _ _ _ => none
  | n + 1 => b_X7_fog_122 k104 (f_X7_fog_122 k104 n)
def b_X7_fog_104 (k104 : G → Int32 → Int32 → Int32 → Int32 → Int64 → Int64 → Int32 → Option (Int64 × G)) (S_t : G) (l1 : Int32) (l2 : Int32) (l3 : Int32) (l4 : Int32) (l6 : Int64) (l8 : Int64) (l10 : Int32) : Option (Int64 × G) :=
  if ((1 : Int32) <<< (l2 &&& 31)) ≤ l10 then (bd (f_X7_partOf l6 l8 l4) (fun r203 u203 => some (r203, S_t))) else (bd (f_X7_thinks S_t) (fun r113 u113 => f_X7_fog_122 k104 1000 u113 l1 l2 l3 l4 l6 l8 l10 (1 : Int64) (0 : Int32)))
def f_X7_fog_104 : Nat → G → Int32 → Int32 → Int32 → Int32 → Int64 → Int64 → Int32 → Option (Int64 × G)
  | 0 => fun _ _ _ _ _ _ _ _ => none
  | n + 1 => b_X7_fog_104 (f_X7_fog_104 n)
def b_X7_fog_82 (k82 : G → Int32 → Int32 → Int32 → Int32 → Int64 → Int64 → Int32 → Option (Int64 × G)) (S_t : G) (l1 : Int32) (l2 : Int32) (l3 : Int32) (l4 : Int32) (l6 : Int64) (l8 : Int64) (l10 : Int32) : Option (Int64 × G) :=
  if l2 ≤ l10 then (f_X7_fog_104 1000 S_t l1 l2 l3 l4 l6 l8 (0 : Int32)) else (k82 S_t l1 l2 l3 l4 l6 (l8 * l3.toInt64) (l10 + (1 : Int32)))
def f_X7_fog_82 : Nat → G → Int32 → Int32 → Int32 → Int32 → Int64 → Int64 → Int32 → Option (Int64 × G)
  | 0 => fun _ _ _ _ _ _ _ _ => none
  | n + 1 => b_X7_fog_82 (f_X7_fog_82 n)
def f_X7_fog_59 (S_t : G) (l1 : Int32) (l2 : Int32) (l3 : Int32) (l4 : Int32) (s0 : Int32) : Option (Int64 × G) :=
  if s0 = 0 then (f_X7_fog_82 1000 S_t l1 l2 l3 l4 (0 : Int64) (1 : Int64) (0 : Int32)) else (bd (f_X7_lowest S_t s0) (fun r69 u69 => some (r69, u69)))
def f_X7_fog_38 (S_t : G) (l1 : Int32) (l2 : Int32) (l3 : Int32) (l4 : Int32) : Option (Int64 × G) :=
  f_X7_fog_59 S_t l1 l2 l3 l4 (-6 : Int32)
def f_X7_fog_21 (S_t : G) (l1 : Int32) (l2 : Int32) (l3 : Int32) (l4 : Int32) : Option (Int64 × G) :=
  f_X7_fog_59 S_t l1 l2 l3 l4 (-4 : Int32)
def f_X7_fog (S_t : G) (x1 : Int32) (x2 : Int32) (x3 : Int32) (x4 : Int32) : Option (Int64 × G) :=
  bd (f_X7_isBell S_t x1) (fun r2 u2 => if r2 = 0 then (f_X7_fog_59 u2 x1 x2 x3 x4 (-1 : Int32)) else (if x2 < 0 then (f_X7_fog_21 u2 x1 x2 x3 x4) else (if (2 : Int32) ≤ x3 then (if (7 : Int32) < x2 then (f_X7_fog_38 u2 x1 x2 x3 x4) else (if x3 ≤ (20 : Int32) then (bd (f_X7_isIn x4 (0 : Int32) (1 : Int32)) (fun r47 u47 => if r47 = 0 then (f_X7_fog_59 u2 x1 x2 x3 x4 (-2 : Int32)) else (f_X7_fog_59 u2 x1 x2 x3 x4 (0 : Int32)))) else (f_X7_fog_38 u2 x1 x2 x3 x4))) else (f_X7_fog_21 u2 x1 x2 x3 x4))))
def b_X7_allSlept_4 (k4 : G → Int32 → Int32 → Option (Int32 × G)) (S_t : G) (l1 : Int32) (l2 : Int32) : Option (Int32 × G) :=
  if (S_t.1 8) ≤ l2 then (some (l1, S_t)) else (if ck l2 8 = true then (lt (l1 + (S_t.2 5 l2.toNatClampNeg)) (fun v20 => k4 S_t v20 (l2 + (1 : Int32)))) else none)
def f_X7_allSlept_4 : Nat → G → Int32 → Int32 → Option (Int32 × G)
  | 0 => fun _ _ _ => none
  | n + 1 => b_X7_allSlept_4 (f_X7_allSlept_4 n)
def f_X7_allSlept (S_t : G) : Option (Int32 × G) :=
  f_X7_allSlept_4 1000 S_t (0 : Int32) (0 : Int32)
def f_X7_mean (S_t : G) (x1 : Int32) : Option (Int64 × G) :=
  bd (f_X7_isIn x1 (0 : Int32) (1 : Int32)) (fun r3 u3 => if r3 = 0 then (bd (f_X7_lowest S_t (-2 : Int32)) (fun r12 u12 => some (r12, u12))) else (if (S_t.1 8) = 0 then (some (x1.toInt64, S_t)) else (bd (f_X7_allSlept S_t) (fun r29 u29 => bd (f_X7_partOf r29.toInt64 ((u29.1 8).toInt64) x1) (fun r39 u39 => some (r39, u29))))))
def f_X7_isSo_69 (S_t : G) (l3 : Int32) : Option (Int32 × G) :=
  bd (f_X7_forgets S_t) (fun r70 u70 => if zb l3 = true then some (l3, u70) else none)
def f_X7_isSo_57 (k9 : G → Int32 → Int32 → Int32 → Int32 → Option (Int32 × G)) (S_t : G) (l1 : Int32) (l2 : Int32) (l4 : Int32) (s0 : Int32) : Option (Int32 × G) :=
  bd (f_X7_goesDay S_t (0 : Int32)) (fun r60 u60 => k9 u60 l1 l2 s0 (l4 + (1 : Int32)))
def f_X7_isSo_42 (k9 : G → Int32 → Int32 → Int32 → Int32 → Option (Int32 × G)) (S_t : G) (l1 : Int32) (l2 : Int32) (l4 : Int32) (s0 : Int32) : Option (Int32 × G) :=
  if ck l4 16 = true then (if s0 = (S_t.2 24 l4.toNatClampNeg) then (f_X7_isSo_57 k9 S_t l1 l2 l4 (1 : Int32)) else (f_X7_isSo_57 k9 S_t l1 l2 l4 (0 : Int32))) else none
def b_X7_isSo_9 (k9 : G → Int32 → Int32 → Int32 → Int32 → Option (Int32 × G)) (S_t : G) (l1 : Int32) (l2 : Int32) (l3 : Int32) (l4 : Int32) : Option (Int32 × G) :=
  if (S_t.1 25) ≤ l4 then (f_X7_isSo_69 S_t l3) else (if l3 = 0 then (f_X7_isSo_69 S_t l3) else (bd (f_X7_hears S_t l1 l2) (fun r25 u25 => if r25 = 0 then (f_X7_isSo_42 k9 u25 l1 l2 l4 (99 : Int32)) else (bd (f_X7_saysOf u25 l1 l2) (fun r34 u34 => f_X7_isSo_42 k9 u34 l1 l2 l4 r34)))))
def f_X7_isSo_9 : Nat → G → Int32 → Int32 → Int32 → Int32 → Option (Int32 × G)
  | 0 => fun _ _ _ _ _ => none
  | n + 1 => b_X7_isSo_9 (f_X7_isSo_9 n)
def f_X7_isSo (S_t : G) (x1 : Int32) (x2 : Int32) : Option (Int32 × G) :=
  bd (f_X7_thinks S_t) (fun r1 u1 => f_X7_isSo_9 1000 u1 x1 x2 (1 : Int32) (0 : Int32))
def b_X7_bitsFor_s3_11 (k11 : G → Int32 → Int32 → Int32 → Int32 → Int32 → Int32 → Option (Int32 × G)) (S_t : G) (l2 : Int32) (l3 : Int32) (l4 : Int32) (l5 : Int32) (l6 : Int32) (l7 : Int32) : Option (Int32 × G) :=
  if l3 ≤ l7 then (if ck l2 8 = true then (lt (pA S_t 3 l2.toNatClampNeg l5) (fun g55 => some (l6, g55))) else none) else (if ck l2 8 = true then (lt (pA S_t 3 l2.toNatClampNeg l7) (fun g21 => bd (f_X7_isSo g21 l2 l4) (fun r28 u28 => if r28 = 0 then (k11 u28 l2 l3 l4 l5 (l6 ||| (0 : Int32)) (l7 + (1 : Int32))) else (lt (l6 ||| ((1 : Int32) <<< (l7 &&& 31))) (fun v43 => k11 u28 l2 l3 l4 l5 v43 (l7 + (1 : Int32))))))) else none)
def f_X7_bitsFor_s3_11 : Nat → G → Int32 → Int32 → Int32 → Int32 → Int32 → Int32 → Option (Int32 × G)
  | 0 => fun _ _ _ _ _ _ _ => none
  | n + 1 => b_X7_bitsFor_s3_11 (f_X7_bitsFor_s3_11 n)
def f_X7_bitsFor_s3 (S_t : G) (x2 : Int32) (x3 : Int32) (x4 : Int32) : Option (Int32 × G) :=
  if ck x2 8 = true then (f_X7_bitsFor_s3_11 1000 S_t x2 x3 x4 (S_t.2 3 x2.toNatClampNeg) (0 : Int32) (0 : Int32)) else none
def b_X7_bitsFor_s4_11 (k11 : G → Int32 → Int32 → Int32 → Int32 → Int32 → Int32 → Option (Int32 × G)) (S_t : G) (l2 : Int32) (l3 : Int32) (l4 : Int32) (l5 : Int32) (l6 : Int32) (l7 : Int32) : Option (Int32 × G) :=
  if l3 ≤ l7 then (if ck l2 8 = true then (lt (pA S_t 4 l2.toNatClampNeg l5) (fun g55 => some (l6, g55))) else none) else (if ck l2 8 = true then (lt (pA S_t 4 l2.toNatClampNeg l7) (fun g21 => bd (f_X7_isSo g21 l2 l4) (fun r28 u28 => if r28 = 0 then (k11 u28 l2 l3 l4 l5 (l6 ||| (0 : Int32)) (l7 + (1 : Int32))) else (lt (l6 ||| ((1 : Int32) <<< (l7 &&& 31))) (fun v43 => k11 u28 l2 l3 l4 l5 v43 (l7 + (1 : Int32))))))) else none)
def f_X7_bitsFor_s4_11 : Nat → G → Int32 → Int32 → Int32 → Int32 → Int32 → Int32 → Option (Int32 × G)
  | 0 => fun _ _ _ _ _ _ _ => none
  | n + 1 => b_X7_bitsFor_s4_11 (f_X7_bitsFor_s4_11 n)
def f_X7_bitsFor_s4 (S_t : G) (x2 : Int32) (x3 : Int32) (x4 : Int32) : Option (Int32 × G) :=
  if ck x2 8 = true then (f_X7_bitsFor_s4_11 1000 S_t x2 x3 x4 (S_t.2 4 x2.toNatClampNeg) (0 : Int32) (0 : Int32)) else none
def f_X7_whatIs_35 (S_t : G) (l1 : Int32) (l2 : Int32) (l3 : Int32) (s0 : Int32) : Option (Int32 × G) :=
  if s0 = 0 then (if l3 = 0 then (bd (f_X7_bitsFor_s3 S_t l1 (6 : Int32) l2) (fun r62 u62 => some (r62, u62))) else (bd (f_X7_bitsFor_s4 S_t l1 (10 : Int32) l2) (fun r77 u77 => some (r77, u77)))) else (bd (f_X7_no S_t s0) (fun r45 u45 => some (r45, u45)))
def f_X7_whatIs_16 (S_t : G) (l1 : Int32) (l2 : Int32) (l3 : Int32) : Option (Int32 × G) :=
  f_X7_whatIs_35 S_t l1 l2 l3 (-1 : Int32)
def f_X7_whatIs (S_t : G) (x1 : Int32) (x2 : Int32) (x3 : Int32) : Option (Int32 × G) :=
  bd (f_X7_isOne S_t x1) (fun r2 u2 => if r2 = 0 then (f_X7_whatIs_16 u2 x1 x2 x3) else (bd (f_X7_isBell u2 x2) (fun r10 u10 => if r10 = 0 then (f_X7_whatIs_16 u10 x1 x2 x3) else (bd (f_X7_isIn x3 (0 : Int32) (1 : Int32)) (fun r23 u23 => if r23 = 0 then (f_X7_whatIs_35 u10 x1 x2 x3 (-2 : Int32)) else (f_X7_whatIs_35 u10 x1 x2 x3 (0 : Int32)))))))
def f_X7_row_24 (S_t : G) (l1 : Int32) (l2 : Int32) : Option (Int32 × G) :=
  if l2 = 0 then (if ck (S_t.1 25) 16 = true then (lt (pA S_t 24 (S_t.1 25).toNatClampNeg l1) (fun g43 => lt (pF g43 25 ((g43.1 25) + (1 : Int32))) (fun g51 => some (g51.1 25, g51)))) else none) else (bd (f_X7_no S_t l2) (fun r30 u30 => some (r30, u30)))
def f_X7_row (S_t : G) (x1 : Int32) : Option (Int32 × G) :=
  bd (f_X7_bound x1 (0 : Int32) (99 : Int32)) (fun r4 u4 => if r4 = 0 then (if (S_t.1 25) = (16 : Int32) then (f_X7_row_24 S_t x1 (-6 : Int32)) else (f_X7_row_24 S_t x1 r4)) else (f_X7_row_24 S_t x1 r4))
def f_X7_judge_59 (S_t : G) (l2 : Int32) : Option (Int32 × G) :=
  bd (f_X7_forgets S_t) (fun r60 u60 => some (l2, u60))
def f_X7_judge_47 (k19 : G → Int32 → Int32 → Int32 → Option (Int32 × G)) (S_t : G) (l1 : Int32) (l3 : Int32) (s0 : Int32) : Option (Int32 × G) :=
  bd (f_X7_goesDay S_t (0 : Int32)) (fun r50 u50 => k19 u50 l1 s0 (l3 + (1 : Int32)))
def b_X7_judge_19 (k19 : G → Int32 → Int32 → Int32 → Option (Int32 × G)) (S_t : G) (l1 : Int32) (l2 : Int32) (l3 : Int32) : Option (Int32 × G) :=
  if l1 ≤ l3 then (f_X7_judge_59 S_t l2) else (if 0 ≤ l2 then (f_X7_judge_59 S_t l2) else (bd (f_X7_manyHear S_t) (fun r29 u29 => if ck l3 16 = true then (if r29 = (u29.2 24 l3.toNatClampNeg) then (f_X7_judge_47 k19 u29 l1 l3 (-9 : Int32)) else (f_X7_judge_47 k19 u29 l1 l3 l3)) else none)))
def f_X7_judge_19 : Nat → G → Int32 → Int32 → Int32 → Option (Int32 × G)
  | 0 => fun _ _ _ _ => none
  | n + 1 => b_X7_judge_19 (f_X7_judge_19 n)
def f_X7_judge (S_t : G) : Option (Int32 × G) :=
  lt (pF S_t 25 (0 : Int32)) (fun g7 => bd (f_X7_thinks g7) (fun r11 u11 => f_X7_judge_19 1000 u11 (S_t.1 25) (-9 : Int32) (0 : Int32)))
def f_X7_clear (S_t : G) : Option (Int32 × G) :=
  lt (pF S_t 25 (0 : Int32)) (fun g7 => some (S_t.1 25, g7))
def f_X7_lots_131 (k48 : G → Int32 → Int32 → Int32 → Int32 → Int32 → Option (Int32 × G)) (S_t : G) (l1 : Int32) (l3 : Int32) (l5 : Int32) (l7 : Int32) (s0 : Int32) (s1 : Int32) : Option (Int32 × G) :=
  bd (f_X7_forgets S_t) (fun r135 u135 => k48 u135 l1 l3 l5 (s0 + s1) (l7 + (1 : Int32)))
def b_X7_lots_61 (k48 : G → Int32 → Int32 → Int32 → Int32 → Int32 → Option (Int32 × G)) (k61 : G → Int32 → Int32 → Int32 → Int32 → Int32 → Int32 → Option (Int32 × G)) (S_t : G) (l1 : Int32) (l3 : Int32) (l5 : Int32) (l6 : Int32) (l7 : Int32) (l8 : Int32) : Option (Int32 × G) :=
  if (S_t.1 8) ≤ l8 then (bd (f_X7_goesOn S_t (10 : Int32)) (fun r111 u111 => if l3 = 0 then (bd (f_X7_manyHear u111) (fun r121 u121 => f_X7_lots_131 k48 u121 l1 l3 l5 l7 l6 r121)) else (bd (f_X7_allSlept u111) (fun r128 u128 => f_X7_lots_131 k48 u128 l1 l3 l5 l7 l6 r128)))) else (lt ((l5 * (1664525 : Int32)) + (1013904223 : Int32)) (fun v80 => if (256 : Int32) = 0 then none else if (20 : Int32) = 0 then none else if ck l8 8 = true then (lt (pA S_t 5 l8.toNatClampNeg (((v80 &&& (2147483647 : Int32)) / (256 : Int32)) - ((v80 &&& (2147483647 : Int32)) / (256 : Int32)) / (20 : Int32) * (20 : Int32))) (fun g101 => k61 g101 l1 l3 v80 l6 l7 (l8 + (1 : Int32)))) else none))
def f_X7_lots_61 (k48 : G → Int32 → Int32 → Int32 → Int32 → Int32 → Option (Int32 × G)) : Nat → G → Int32 → Int32 → Int32 → Int32 → Int32 → Int32 → Option (Int32 × G)
  | 0 => fun _ _ _ _ _ _ _ => none
  | n + 1 => b_X7_lots_61 k48 (f_X7_lots_61 k48 n)
def b_X7_lots_48 (k48 : G → Int32 → Int32 → Int32 → Int32 → Int32 → Option (Int32 × G)) (S_t : G) (l1 : Int32) (l3 : Int32) (l5 : Int32) (l6 : Int32) (l7 : Int32) : Option (Int32 × G) :=
  if l1 ≤ l7 then (some (l6, S_t)) else (bd (f_X7_thinks S_t) (fun r55 u55 => f_X7_lots_61 k48 1000 u55 l1 l3 l5 l6 l7 (0 : Int32)))
def f_X7_lots_48 : Nat → G → Int32 → Int32 → Int32 → Int32 → Int32 → Option (Int32 × G)
  | 0 => fun _ _ _ _ _ _ => none
  | n + 1 => b_X7_lots_48 (f_X7_lots_48 n)
def f_X7_lots_27 (S_t : G) (l1 : Int32) (l2 : Int32) (l3 : Int32) (l4 : Int32) : Option (Int32 × G) :=
  if l4 = 0 then (f_X7_lots_48 1000 S_t l1 l3 l2 (0 : Int32) (0 : Int32)) else (bd (f_X7_no S_t l4) (fun r35 u35 => some (r35, u35)))
def f_X7_lots (S_t : G) (x1 : Int32) (x2 : Int32) (x3 : Int32) : Option (Int32 × G) :=
  bd (f_X7_bound x1 (1 : Int32) (20 : Int32)) (fun r4 u4 => if r4 = 0 then (bd (f_X7_isIn x3 (0 : Int32) (1 : Int32)) (fun r17 u17 => if r17 = 0 then (f_X7_lots_27 S_t x1 x2 x3 (-2 : Int32)) else (f_X7_lots_27 S_t x1 x2 x3 r4))) else (f_X7_lots_27 S_t x1 x2 x3 r4))
def f_X7_count (S_t : G) (x1 : Int32) : Option (Int32 × G) :=
  bd (f_X7_isIn x1 (11 : Int32) (16 : Int32)) (fun r5 u5 => if r5 = 0 then (if x1 = (0 : Int32) then (some (S_t.1 7, S_t)) else (if x1 = (1 : Int32) then (some (S_t.1 8, S_t)) else (if x1 = (2 : Int32) then (some (S_t.1 9, S_t)) else (if x1 = (3 : Int32) then (some (S_t.1 10, S_t)) else (if x1 = (4 : Int32) then (bd (f_X7_manyHear S_t) (fun r89 u89 => some (r89, u89))) else (if x1 = (5 : Int32) then (bd (f_X7_allSlept S_t) (fun r94 u94 => some (r94, u94))) else (if x1 = (6 : Int32) then (some (S_t.1 25, S_t)) else (if x1 = (7 : Int32) then (some (S_t.1 16, S_t)) else (some ((-9 : Int32), S_t)))))))))) else (if ck (x1 - (10 : Int32)) 7 = true then (some (S_t.2 0 (x1 - (10 : Int32)).toNatClampNeg, S_t)) else none))
