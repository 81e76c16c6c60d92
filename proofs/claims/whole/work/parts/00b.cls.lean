def fX5_hasRoomFor (x1 : Int32) (A : sM) : Option (Int32) :=
  if ((300 : Int32) - (A.1 5 1 0 0)) < x1 then (
    some (0 : Int32))
  else (
    some (1 : Int32))
def fX5_addWord_L3 (x1 : Int32) (k46 : sM → Option (sM)) : Nat → Int32 → sM → Option (sM)
  | 0, _, _ => none
  | n + 1, x2, A =>
    if x2 < 0 then (
      k46 A)
    else (
      ltb (α := sM → Option (sM)) (fun (A_1 : sM) =>
        ltb (x2 + (-8 : Int32)) fun x2_3 =>
        fX5_addWord_L3 x1 k46 n x2_3 A_1) fun kj_2 =>
      if (300 : Int32) ≤ (A.1 5 1 0 0) then (
        kj_2 A)
      else (
        gd (inb (A.1 5 1 0 0) 300) (
          ltb (wI A 20 0 0 (A.1 5 1 0 0).toNatClampNeg (((x1.toUInt32 >>> (x2.toUInt32 &&& Int32.toUInt32 31)).toInt32).toInt8.toInt32)) fun A_5 =>
          ltb (wI A_5 5 1 0 0 ((A_5.1 5 1 0 0) + (1 : Int32))) fun A_6 =>
          kj_2 A_6)))
def fX5_addWord (x1 : Int32) (A : sM) : Option (sM) :=
  fX5_addWord_L3 x1 (fun (A_1 : sM) =>
    some A_1) 10000 (24 : Int32) A
def fX4_clearPeriods (o : Nat) (A : sM) : Option (sM) :=
  ltb (wI A 4 4 o 0 (0 : Int32)) fun A_1 =>
  ltb (fI A_1 19 o 24 (0 : Int32)) fun A_2 =>
  some A_2
def fX5_skipSpaces_L0 (k45 : sM → Option (sM)) : Nat → sM → Option (sM)
  | 0, _ => none
  | n + 1, A =>
    if (A.1 5 4 0 0) = 0 then (
      if (A.1 5 2 0 0) ≤ (A.1 5 3 0 0) then (
        k45 A)
      else (
        gd (inb (A.1 5 3 0 0) 300) (
          if (A.1 20 0 0 (A.1 5 3 0 0).toNatClampNeg) = (32 : Int32) then (
            ltb (wI A 5 3 0 0 ((A.1 5 3 0 0) + (1 : Int32))) fun A_2 =>
            fX5_skipSpaces_L0 k45 n A_2)
          else (
            k45 A))))
    else (
      k45 A)
def fX5_skipSpaces (A : sM) : Option (sM) :=
  fX5_skipSpaces_L0 (fun (A_1 : sM) =>
    some A_1) 10000 A
def fX5_isLetter (x1 : Int32) (A : sM) : Option (Int32) :=
  gd (inb x1 300) (
    if (A.1 20 0 0 x1.toNatClampNeg) < (97 : Int32) then (
      some (0 : Int32))
    else (
      gd (inb x1 300) (
        if (122 : Int32) < (A.1 20 0 0 x1.toNatClampNeg) then (
          some (0 : Int32))
        else (
          some (1 : Int32)))))
def fX5_standsHere_L22 (s1 : Nat) (x2 : Int32) (A : sM) (k49 : Option (Int32)) (k57 : Option (Int32)) : Nat → Int32 → Option (Int32)
  | 0, _ => none
  | n + 1, x3 =>
    if (strL s1) ≤ x3 then (
      k57)
    else (
      gd (inb ((A.1 5 3 0 0) + x3) 300) (
        gd (inb x3 (sLen.getD s1 0)) (
          if (A.1 20 0 0 ((A.1 5 3 0 0) + x3).toNatClampNeg) = (strC s1 x3.toNatClampNeg) then (
            ltb (x3 + (1 : Int32)) fun x3_3 =>
            fX5_standsHere_L22 s1 x2 A k49 k57 n x3_3)
          else (
            k49))))
def fX5_standsHere (s1 : Nat) (A : sM) : Option (Int32) :=
  ltb ((A.1 5 3 0 0) + (strL s1)) fun x2_1 =>
  if x2_1 ≤ (A.1 5 2 0 0) then (
    fX5_standsHere_L22 s1 x2_1 A (
      some (0 : Int32)) (
      if x2_1 = (A.1 5 2 0 0) then (
        some (1 : Int32))
      else (
        Option.bind (fX5_isLetter x2_1 A) fun r_2 =>
        if r_2 = 0 then (
          some (1 : Int32))
        else (
          some (0 : Int32)))) 10000 (0 : Int32))
  else (
    some (0 : Int32))
def fX5_expectWord (s1 : Nat) (A : sM) : Option (sM) :=
  Option.bind (fX5_skipSpaces A) fun A_1 =>
  if (A_1.1 5 4 0 0) = 0 then (
    Option.bind (fX5_standsHere s1 A_1) fun r_2 =>
    if r_2 = 0 then (
      ltb (wI A_1 5 4 0 0 (-2 : Int32)) fun A_3 =>
      some A_3)
    else (
      ltb (wI A_1 5 3 0 0 ((A_1.1 5 3 0 0) + (strL s1))) fun A_4 =>
      some A_4))
  else (
    some A_1)
def fX5_isDigit (x1 : Int32) (A : sM) : Option (Int32) :=
  gd (inb x1 300) (
    if (A.1 20 0 0 x1.toNatClampNeg) < (48 : Int32) then (
      some (0 : Int32))
    else (
      gd (inb x1 300) (
        if (57 : Int32) < (A.1 20 0 0 x1.toNatClampNeg) then (
          some (0 : Int32))
        else (
          some (1 : Int32)))))
def fX5_expectNumber_L21 (x1 : Int32) (x2 : Int32) (x3 : Int32) (k81 : Int32 → sM → Option (Int32 × sM)) : Nat → Int32 → sM → Option (Int32 × sM)
  | 0, _, _ => none
  | n + 1, x4, A =>
    if (A.1 5 2 0 0) ≤ (A.1 5 3 0 0) then (
      k81 x4 A)
    else (
      Option.bind (fX5_isDigit (A.1 5 3 0 0) A) fun r_1 =>
      if r_1 = 0 then (
        k81 x4 A)
      else (
        gd (inb (A.1 5 3 0 0) 300) (
          ltb ((if (((x4 * (10 : Int32)) + (A.1 20 0 0 (A.1 5 3 0 0).toNatClampNeg)) - (48 : Int32)) < (10000000 : Int32) then (((x4 * (10 : Int32)) + (A.1 20 0 0 (A.1 5 3 0 0).toNatClampNeg)) - (48 : Int32)) else (10000000 : Int32))) fun x4_3 =>
          ltb (wI A 5 3 0 0 ((A.1 5 3 0 0) + (1 : Int32))) fun A_4 =>
          fX5_expectNumber_L21 x1 x2 x3 k81 n x4_3 A_4)))
def fX5_expectNumber (x1 : Int32) (x2 : Int32) (A : sM) : Option (Int32 × sM) :=
  Option.bind (fX5_skipSpaces A) fun A_1 =>
  if (A_1.1 5 4 0 0) = 0 then (
    ltb (A_1.1 5 3 0 0) fun x3_2 =>
    fX5_expectNumber_L21 x1 x2 x3_2 (fun (x4_3 : Int32) (A_4 : sM) =>
      if (A_4.1 5 3 0 0) = x3_2 then (
        ltb (wI A_4 5 4 0 0 (-2 : Int32)) fun A_9 =>
        some (x4_3, A_9))
      else (
        if x4_3 < x1 then (
          ltb (wI A_4 5 4 0 0 (-3 : Int32)) fun A_5 =>
          ltb (wI A_5 5 3 0 0 x3_2) fun A_6 =>
          some (x4_3, A_6))
        else (
          if x4_3 ≤ x2 then (
            some (x4_3, A_4))
          else (
            ltb (wI A_4 5 4 0 0 (-3 : Int32)) fun A_7 =>
            ltb (wI A_7 5 3 0 0 x3_2) fun A_8 =>
            some (x4_3, A_8))))) 10000 (0 : Int32) A_1)
  else (
    some ((0 : Int32), A_1))
def fX5_expectSemicolon (A : sM) : Option (sM) :=
  Option.bind (fX5_skipSpaces A) fun A_1 =>
  if (A_1.1 5 4 0 0) = 0 then (
    if (A_1.1 5 2 0 0) ≤ (A_1.1 5 3 0 0) then (
      ltb (wI A_1 5 4 0 0 (-2 : Int32)) fun A_2 =>
      some A_2)
    else (
      gd (inb (A_1.1 5 3 0 0) 300) (
        if (A_1.1 20 0 0 (A_1.1 5 3 0 0).toNatClampNeg) = (59 : Int32) then (
          ltb (wI A_1 5 3 0 0 ((A_1.1 5 3 0 0) + (1 : Int32))) fun A_5 =>
          some A_5)
        else (
          ltb (wI A_1 5 4 0 0 (-2 : Int32)) fun A_4 =>
          some A_4))))
  else (
    some A_1)
def fX5_readGardenStatement (A : sM) : Option (sM) :=
  Option.bind (fX5_expectWord 2 A) fun A_1 =>
  bd2 (fX5_expectNumber (1 : Int32) (100000 : Int32) A_1) fun r_3 A_2 =>
  ltb (wI A_2 4 0 7 0 r_3) fun A_4 =>
  bd2 (fX5_expectNumber (1 : Int32) (24 : Int32) A_4) fun r_6 A_5 =>
  ltb (wI A_5 4 1 7 0 r_6) fun A_7 =>
  bd2 (fX5_expectNumber (0 : Int32) (100 : Int32) A_7) fun r_9 A_8 =>
  ltb (wI A_8 4 2 7 0 r_9) fun A_10 =>
  bd2 (fX5_expectNumber (1 : Int32) (100 : Int32) A_10) fun r_12 A_11 =>
  ltb (wI A_11 4 3 7 0 r_12) fun A_13 =>
  Option.bind (fX5_expectSemicolon A_13) fun A_14 =>
  some A_14
def fX4_addPeriod (o : Nat) (x1 : Int32) (A : sM) : Option (sM) :=
  if (4 : Int32) ≤ (A.1 4 4 o 0) then (
    some A)
  else (
    gd (inb (A.1 4 4 o 0) 4) (
      ltb (wI A 18 0 o (A.1 4 4 o 0).toNatClampNeg x1) fun A_2 =>
      ltb (wI A_2 4 4 o 0 ((A_2.1 4 4 o 0) + (1 : Int32))) fun A_3 =>
      some A_3))
def fX5_readPeriodStatement (A : sM) : Option (sM) :=
  Option.bind (fX5_expectWord 3 A) fun A_1 =>
  bd2 (fX5_expectNumber (0 : Int32) (200 : Int32) A_1) fun r_3 A_2 =>
  Option.bind (fX4_addPeriod 7 r_3 A_2) fun A_4 =>
  Option.bind (fX5_expectSemicolon A_4) fun A_5 =>
  some A_5
def fX4_setHours_L7 (o0 : Nat) (x2 : Int32) (x3 : Int32) (k34 : sM → Option (sM)) : Nat → Int32 → sM → Option (sM)
  | 0, _, _ => none
  | n + 1, x4, A =>
    if x2 ≤ x4 then (
      k34 A)
    else (
      if (24 : Int32) ≤ x4 then (
        k34 A)
      else (
        gd (inb x4 24) (
          ltb (wI A 19 0 o0 x4.toNatClampNeg x3) fun A_2 =>
          ltb (x4 + (1 : Int32)) fun x4_3 =>
          fX4_setHours_L7 o0 x2 x3 k34 n x4_3 A_2)))
def fX4_setHours (o : Nat) (x1 : Int32) (x2 : Int32) (x3 : Int32) (A : sM) : Option (sM) :=
  ltb ((if x1 < (0 : Int32) then (0 : Int32) else x1)) fun x4_1 =>
  fX4_setHours_L7 o x2 x3 (fun (A_2 : sM) =>
    some A_2) 10000 x4_1 A
def fX5_readHoursStatement (A : sM) : Option (sM) :=
  Option.bind (fX5_expectWord 4 A) fun A_1 =>
  bd2 (fX5_expectNumber (0 : Int32) (23 : Int32) A_1) fun r_3 A_2 =>
  bd2 (fX5_expectNumber (r_3 + (1 : Int32)) (24 : Int32) A_2) fun r_5 A_4 =>
  bd2 (fX5_expectNumber (0 : Int32) ((A_4.1 4 4 7 0) - (1 : Int32)) A_4) fun r_7 A_6 =>
  Option.bind (fX5_expectSemicolon A_6) fun A_8 =>
  if (A_8.1 5 4 0 0) = 0 then (
    Option.bind (fX4_setHours 7 r_3 r_5 r_7 A_8) fun A_9 =>
    some A_9)
  else (
    some A_8)
def fX5_readFurtherStatements_L4 (k33 : sM → Option (sM)) (k104 : sM → Option (sM)) : Nat → Int32 → Int32 → sM → Option (sM)
  | 0, _, _, _ => none
  | n + 1, x1, x2, A =>
    if (300 : Int32) ≤ x2 then (
      k104 A)
    else (
      if (A.1 5 4 0 0) = 0 then (
        Option.bind (fX5_skipSpaces A) fun A_1 =>
        if (A_1.1 5 3 0 0) < (A_1.1 5 2 0 0) then (
          Option.bind (fX5_standsHere 4 A_1) fun r_2 =>
          ltb (α := Int32 → sM → Option (sM)) (fun (x1_3 : Int32) (A_4 : sM) =>
            ltb (x2 + (1 : Int32)) fun x2_6 =>
            fX5_readFurtherStatements_L4 k33 k104 n x1_3 x2_6 A_4) fun kj_5 =>
          if r_2 = 0 then (
            ltb (α := Option (sM)) (
              ltb (wI A_1 5 4 0 0 (-2 : Int32)) fun A_8 =>
              kj_5 x1 A_8) fun kj_7 =>
            if x1 = 0 then (
              Option.bind (fX5_standsHere 3 A_1) fun r_9 =>
              if r_9 = 0 then (
                kj_7)
              else (
                if (A_1.1 4 4 7 0) < (4 : Int32) then (
                  Option.bind (fX5_readPeriodStatement A_1) fun A_10 =>
                  kj_5 x1 A_10)
                else (
                  ltb (wI A_1 5 4 0 0 (-4 : Int32)) fun A_12 =>
                  kj_5 x1 A_12)))
            else (
              kj_7))
          else (
            Option.bind (fX5_readHoursStatement A_1) fun A_14 =>
            kj_5 (1 : Int32) A_14))
        else (
          k33 A_1))
      else (
        k104 A))
def fX5_readFurtherStatements (A : sM) : Option (sM) :=
  fX5_readFurtherStatements_L4 (fun (A_1 : sM) =>
    some A_1) (fun (A_2 : sM) =>
    some A_2) 10000 (0 : Int32) (0 : Int32) A
def fX5_read (x1 : Int32) (A : sM) : Option (Int32 × sM) :=
  ltb (wI A 5 2 0 0 (if (300 : Int32) < x1 then (300 : Int32) else x1)) fun A_1 =>
  ltb (wI A_1 5 3 0 0 (0 : Int32)) fun A_2 =>
  ltb (wI A_2 5 4 0 0 (0 : Int32)) fun A_3 =>
  ltb (wI A_3 5 1 0 0 (0 : Int32)) fun A_4 =>
  Option.bind (fX4_clearPeriods 7 A_4) fun A_5 =>
  Option.bind (fX5_readGardenStatement A_5) fun A_6 =>
  Option.bind (fX5_readPeriodStatement A_6) fun A_7 =>
  Option.bind (fX5_readFurtherStatements A_7) fun A_8 =>
  some (A_8.1 5 4 0 0, A_8)
def fX4_copyFrom (o : Nat) (o1 : Nat) (A : sM) : Option (sM) :=
  ltb (wI A 4 0 o 0 (A.1 4 0 o1 0)) fun A_1 =>
  ltb (wI A_1 4 1 o 0 (A_1.1 4 1 o1 0)) fun A_2 =>
  ltb (wI A_2 4 2 o 0 (A_2.1 4 2 o1 0)) fun A_3 =>
  ltb (wI A_3 4 3 o 0 (A_3.1 4 3 o1 0)) fun A_4 =>
  ltb (wI A_4 4 4 o 0 (A_4.1 4 4 o1 0)) fun A_5 =>
  gd (nq o1 o) (
    ltb (cI A_5 18 o1 o 4) fun A_6 =>
    gd (nq o1 o) (
      ltb (cI A_6 19 o1 o 24) fun A_8 =>
      some A_8))
def fX7_copyFrom (o : Nat) (o1 : Nat) (A : sM) : Option (sM) :=
  gd (nq o1 o) (
    ltb (cI A 22 o1 o 240) fun A_1 =>
    gd (nq o1 o) (
      ltb (cI A_1 23 o1 o 240) fun A_3 =>
      some A_3))
def fX8_copyFrom (o : Nat) (o1 : Nat) (A : sM) : Option (sM) :=
  ltb (wI A 8 0 o 0 (A.1 8 0 o1 0)) fun A_1 =>
  ltb (wI A_1 8 1 o 0 (A_1.1 8 1 o1 0)) fun A_2 =>
  ltb (wI A_2 8 2 o 0 (A_2.1 8 2 o1 0)) fun A_3 =>
  ltb (wI A_3 8 3 o 0 (A_3.1 8 3 o1 0)) fun A_4 =>
  ltb (wI A_4 8 4 o 0 (A_4.1 8 4 o1 0)) fun A_5 =>
  ltb (wI A_5 8 5 o 0 (A_5.1 8 5 o1 0)) fun A_6 =>
  ltb (wI A_6 8 6 o 0 (A_6.1 8 6 o1 0)) fun A_7 =>
  gd (nq o1 o) (
    ltb (cI A_7 24 o1 o 60) fun A_8 =>
    gd (nq o1 o) (
      ltb (cL A_8 25 o1 o 72) fun A_10 =>
      gd (nq o1 o) (
        ltb (cL A_10 26 o1 o 6) fun A_12 =>
        some A_12)))
def fX0_copyFrom_L64 (o0 : Nat) (o1 : Nat) (k93 : sM → Option (sM)) : Nat → Int32 → sM → Option (sM)
  | 0, _, _ => none
  | n + 1, x2, A =>
    if (A.1 0 3 o0 0) ≤ x2 then (
      k93 A)
    else (
      gd (inb x2 16) (
        gd (inb x2 16) (
          Option.bind (fX8_copyFrom (16 * o0 + x2.toNatClampNeg) (16 * o1 + x2.toNatClampNeg) A) fun A_3 =>
          ltb (x2 + (1 : Int32)) fun x2_4 =>
          fX0_copyFrom_L64 o0 o1 k93 n x2_4 A_3)))
def fX0_copyFrom (o : Nat) (o1 : Nat) (A : sM) : Option (sM) :=
  Option.bind (fX4_copyFrom o o1 A) fun A_1 =>
  Option.bind (fX7_copyFrom o o1 A_1) fun A_2 =>
  ltb (wI A_2 0 3 o 0 (A_2.1 0 3 o1 0)) fun A_3 =>
  ltb (wI A_3 0 4 o 0 (A_3.1 0 4 o1 0)) fun A_4 =>
  ltb (wI A_4 0 5 o 0 (A_4.1 0 5 o1 0)) fun A_5 =>
  ltb (wL A_5 0 6 o 0 (A_5.2 0 6 o1 0)) fun A_6 =>
  ltb (wL A_6 0 7 o 0 (A_6.2 0 7 o1 0)) fun A_7 =>
  fX0_copyFrom_L64 o o1 (fun (A_8 : sM) =>
    some A_8) 10000 (0 : Int32) A_7
def fX7_clear (o : Nat) (A : sM) : Option (sM) :=
  ltb (fI A 22 o 240 (0 : Int32)) fun A_1 =>
  ltb (fI A_1 23 o 240 (0 : Int32)) fun A_2 =>
  some A_2
def fX0_beginWith (o : Nat) (o1 : Nat) (A : sM) : Option (sM) :=
  Option.bind (fX4_copyFrom o o1 A) fun A_1 =>
  Option.bind (fX7_clear o A_1) fun A_2 =>
  ltb (wI A_2 0 3 o 0 (0 : Int32)) fun A_3 =>
  ltb (wI A_3 0 4 o 0 (0 : Int32)) fun A_4 =>
  ltb (wI A_4 0 5 o 0 (0 : Int32)) fun A_5 =>
  ltb (wL A_5 0 6 o 0 (0 : Int64)) fun A_6 =>
  ltb (wL A_6 0 7 o 0 (0 : Int64)) fun A_7 =>
  some A_7
def fX4_greatestHolding (o : Nat) (A : sM) : Option (Int32) :=
  some (if (1 : Int32) < (((A.1 4 0 o 0) * (A.1 4 3 o 0)) / (100 : Int32)) then (((A.1 4 0 o 0) * (A.1 4 3 o 0)) / (100 : Int32)) else (1 : Int32))
def fX8_setAssignment (o : Nat) (x1 : Int32) (x2 : Int32) (A : sM) : Option (sM) :=
  if x2 ≤ 0 then (
    ltb (wI A 8 5 o 0 (-1 : Int32)) fun A_1 =>
    ltb (wI A_1 8 6 o 0 x2) fun A_2 =>
    some A_2)
  else (
    ltb (wI A 8 5 o 0 x1) fun A_3 =>
    ltb (wI A_3 8 6 o 0 x2) fun A_4 =>
    some A_4)
def fX8_begin (o : Nat) (x1 : Int32) (x2 : Int32) (x3 : Int32) (A : sM) : Option (sM) :=
  ltb (wI A 8 0 o 0 (0 : Int32)) fun A_1 =>
  ltb (wI A_1 8 1 o 0 x1) fun A_2 =>
  ltb (wI A_2 8 2 o 0 x2) fun A_3 =>
  ltb (wI A_3 8 3 o 0 x3) fun A_4 =>
  ltb (wI A_4 8 4 o 0 (0 : Int32)) fun A_5 =>
  Option.bind (fX8_setAssignment o (-1 : Int32) (0 : Int32) A_5) fun A_6 =>
  ltb (fI A_6 24 o 60 (0 : Int32)) fun A_7 =>
  ltb (fL A_7 25 o 72 (0 : Int64)) fun A_8 =>
  ltb (fL A_8 26 o 6 (0 : Int64)) fun A_9 =>
  some A_9
def fX0_heldShares_L4 (o0 : Nat) (A : sM) (k30 : Int32 → Option (Int32)) : Nat → Int32 → Int32 → Option (Int32)
  | 0, _, _ => none
  | n + 1, x1, x2 =>
    if (A.1 0 3 o0 0) ≤ x2 then (
      k30 x1)
    else (
      gd (inb x2 16) (
        ltb (x1 + (A.1 8 4 (16 * o0 + x2.toNatClampNeg) 0)) fun x1_2 =>
        ltb (x2 + (1 : Int32)) fun x2_3 =>
        fX0_heldShares_L4 o0 A k30 n x1_2 x2_3))
def fX0_heldShares (o : Nat) (A : sM) : Option (Int32) :=
  fX0_heldShares_L4 o A (fun (x1_1 : Int32) =>
    some x1_1) 10000 (0 : Int32) (0 : Int32)
def fX0_unheldShares (o : Nat) (A : sM) : Option (Int32) :=
  Option.bind (fX0_heldShares o A) fun r_1 =>
  some ((A.1 4 0 o 0) - r_1)
def fX0_offerShares (o : Nat) (o1 : Nat) (A : sM) : Option (sM) :=
  Option.bind (fX0_unheldShares o A) fun r_1 =>
  Option.bind (fX4_greatestHolding o A) fun r_2 =>
  ltb ((if r_2 < r_1 then r_2 else r_1)) fun x2_3 =>
  ltb ((if (A.1 8 1 o1 0) < x2_3 then (A.1 8 1 o1 0) else x2_3)) fun x2_4 =>
  if x2_4 < (A.1 8 2 o1 0) then (
    some A)
  else (
    ltb (wI A 8 0 o1 0 (1 : Int32)) fun A_5 =>
    ltb (wI A_5 8 4 o1 0 x2_4) fun A_6 =>
    some A_6)
def fX0_goThroughWaitingList_L9 (o0 : Nat) (x1 : Int32) (k50 : sM → Option (sM)) : Nat → Int32 → sM → Option (sM)
  | 0, _, _ => none
  | n + 1, x2, A =>
    if (A.1 0 3 o0 0) ≤ x2 then (
      k50 A)
    else (
      gd (inb x2 16) (
        ltb (α := sM → Option (sM)) (fun (A_2 : sM) =>
          ltb (x2 + (1 : Int32)) fun x2_4 =>
          fX0_goThroughWaitingList_L9 o0 x1 k50 n x2_4 A_2) fun kj_3 =>
        if (A.1 8 0 (16 * o0 + x2.toNatClampNeg) 0) = 0 then (
          if (A.1 8 3 (16 * o0 + x2.toNatClampNeg) 0) = x1 then (
            Option.bind (fX0_offerShares o0 (16 * o0 + x2.toNatClampNeg) A) fun A_5 =>
            kj_3 A_5)
          else (
            kj_3 A))
        else (
          kj_3 A)))
def fX0_goThroughWaitingList_L3 (o0 : Nat) (k56 : sM → Option (sM)) : Nat → Int32 → sM → Option (sM)
  | 0, _, _ => none
  | n + 1, x1, A =>
    if x1 < 0 then (
      k56 A)
    else (
      fX0_goThroughWaitingList_L9 o0 x1 (fun (A_1 : sM) =>
        ltb (x1 + (-1 : Int32)) fun x1_2 =>
        fX0_goThroughWaitingList_L3 o0 k56 n x1_2 A_1) 10000 (0 : Int32) A)
def fX0_goThroughWaitingList (o : Nat) (A : sM) : Option (sM) :=
  fX0_goThroughWaitingList_L3 o (fun (A_1 : sM) =>
    some A_1) 10000 (9 : Int32) A
def fX0_enrol (o : Nat) (x1 : Int32) (x2 : Int32) (x3 : Int32) (A : sM) : Option (Int32 × sM) :=
  ltb (A.1 0 3 o 0) fun x4_1 =>
  if (16 : Int32) ≤ x4_1 then (
    some (x4_1, A))
  else (
    gd (inb x4_1 16) (
      Option.bind (fX8_begin (16 * o + x4_1.toNatClampNeg) x1 x2 x3 A) fun A_3 =>
      ltb (wI A_3 0 3 o 0 ((A_3.1 0 3 o 0) + (1 : Int32))) fun A_4 =>
      Option.bind (fX0_goThroughWaitingList o A_4) fun A_5 =>
      some (x4_1, A_5)))
def fX8_isActive (o : Nat) (A : sM) : Option (Int32) :=
  if (A.1 8 0 o 0) = (1 : Int32) then (
    some (1 : Int32))
  else (
    some (0 : Int32))
def fX0_passesOnTo_L5 (o0 : Nat) (x2 : Int32) (A : sM) (k29 : Option (Int32)) (k47 : Option (Int32)) : Nat → Int32 → Int32 → Option (Int32)
  | 0, _, _ => none
  | n + 1, x3, x4 =>
    if (16 : Int32) ≤ x4 then (
      k47)
    else (
      if x3 < 0 then (
        k47)
      else (
        if (A.1 0 3 o0 0) ≤ x3 then (
          k47)
        else (
          if x3 = x2 then (
            k29)
          else (
            gd (inb x3 16) (
              ltb (A.1 8 5 (16 * o0 + x3.toNatClampNeg) 0) fun x3_2 =>
              ltb (x4 + (1 : Int32)) fun x4_3 =>
              fX0_passesOnTo_L5 o0 x2 A k29 k47 n x3_2 x4_3)))))
def fX0_passesOnTo (o : Nat) (x1 : Int32) (x2 : Int32) (A : sM) : Option (Int32) :=
  fX0_passesOnTo_L5 o x2 A (
    some (1 : Int32)) (
    some (0 : Int32)) 10000 x1 (0 : Int32)
def fX8_lotSum_L4 (o0 : Nat) (A : sM) (k28 : Int64 → Option (Int64)) : Nat → Int64 → Int32 → Option (Int64)
  | 0, _, _ => none
  | n + 1, x1, x3 =>
    if (72 : Int32) ≤ x3 then (
      k28 x1)
    else (
      gd (inb x3 72) (
        ltb (x1 + (A.2 25 0 o0 x3.toNatClampNeg)) fun x1_2 =>
        ltb (x3 + (1 : Int32)) fun x3_3 =>
        fX8_lotSum_L4 o0 A k28 n x1_2 x3_3))
def fX8_lotSum (o : Nat) (A : sM) : Option (Int64) :=
  fX8_lotSum_L4 o A (fun (x1_1 : Int64) =>
    some x1_1) 10000 (0 : Int64) (0 : Int32)
def fX8_closeAccounts (o : Nat) (x1 : Int32) (A : sM) : Option (Int64 × sM) :=
  Option.bind (fX8_lotSum o A) fun r_1 =>
  ltb ((if (A.2 26 0 o (0 : Int32).toNatClampNeg) < r_1 then (A.2 26 0 o (0 : Int32).toNatClampNeg) else r_1)) fun x4_3 =>
  ltb ((A.2 26 0 o (0 : Int32).toNatClampNeg) - x4_3) fun x6_5 =>
  ltb (r_1 - x4_3) fun x8_6 =>
  ltb ((x8_6 * (x1.toInt64)) / (100 : Int64)) fun x10_7 =>
  ltb (fL A 25 o 72 (0 : Int64)) fun A_8 =>
  ltb (wL A_8 26 0 o (0 : Int32).toNatClampNeg (0 : Int64)) fun A_10 =>
  ltb (wL A_10 26 0 o (2 : Int32).toNatClampNeg ((A_10.2 26 0 o (2 : Int32).toNatClampNeg) + (A_10.2 26 0 o (1 : Int32).toNatClampNeg))) fun A_14 =>
  ltb (wL A_14 26 0 o (1 : Int32).toNatClampNeg (0 : Int64)) fun A_16 =>
  ltb (wL A_16 26 0 o (3 : Int32).toNatClampNeg x10_7) fun A_18 =>
  some ((x8_6 - x10_7) - x6_5, A_18)
def fX0_endAssignments_L13 (o0 : Nat) (x1 : Int32) (k51 : sM → Option (sM)) : Nat → Int32 → sM → Option (sM)
  | 0, _, _ => none
  | n + 1, x2, A =>
    if (A.1 0 3 o0 0) ≤ x2 then (
      k51 A)
    else (
      gd (inb x2 16) (
        ltb (α := sM → Option (sM)) (fun (A_2 : sM) =>
          ltb (x2 + (1 : Int32)) fun x2_4 =>
          fX0_endAssignments_L13 o0 x1 k51 n x2_4 A_2) fun kj_3 =>
        if (A.1 8 5 (16 * o0 + x2.toNatClampNeg) 0) = x1 then (
          gd (inb x2 16) (
            Option.bind (fX8_setAssignment (16 * o0 + x2.toNatClampNeg) (-1 : Int32) (0 : Int32) A) fun A_6 =>
            kj_3 A_6))
        else (
          kj_3 A)))
def fX0_endAssignments (o : Nat) (x1 : Int32) (A : sM) : Option (sM) :=
  gd (inb x1 16) (
    Option.bind (fX8_setAssignment (16 * o + x1.toNatClampNeg) (-1 : Int32) (0 : Int32) A) fun A_2 =>
    fX0_endAssignments_L13 o x1 (fun (A_3 : sM) =>
      some A_3) 10000 (0 : Int32) A_2)
def fX0_letGo (o : Nat) (x1 : Int32) (A : sM) : Option (sM) :=
  gd (inb x1 16) (
    Option.bind (fX8_isActive (16 * o + x1.toNatClampNeg) A) fun r_2 =>
    ltb (wI A 8 0 (16 * o + x1.toNatClampNeg) 0 (2 : Int32)) fun A_3 =>
    if r_2 = 0 then (
      some A_3)
    else (
      bd2 (fX8_closeAccounts (16 * o + x1.toNatClampNeg) (A_3.1 4 2 o 0) A_3) fun r_5 A_4 =>
      ltb (wL A_4 0 6 o 0 ((A_3.2 0 6 o 0) + r_5)) fun A_6 =>
      ltb (wI A_6 8 4 (16 * o + x1.toNatClampNeg) 0 (0 : Int32)) fun A_7 =>
      Option.bind (fX0_endAssignments o x1 A_7) fun A_8 =>
      Option.bind (fX0_goThroughWaitingList o A_8) fun A_9 =>
      some A_9))
def fX8_isAheadOf (o : Nat) (o1 : Nat) (A : sM) : Option (Int32) :=
  if (A.1 8 3 o 0) < (A.1 8 3 o1 0) then (
    some (0 : Int32))
  else (
    some (1 : Int32))
def fX0_placeOnWaitingList_L21 (o0 : Nat) (x1 : Int32) (o2 : Nat) (A : sM) (k89 : Int32 → Option (Int32)) : Nat → Int32 → Int32 → Option (Int32)
  | 0, _, _ => none
  | n + 1, x3, x4 =>
    if (A.1 0 3 o0 0) ≤ x4 then (
      k89 x3)
    else (
      gd (inb x4 16) (
        ltb (α := Int32 → Option (Int32)) (fun (x3_2 : Int32) =>
          ltb (x4 + (1 : Int32)) fun x4_4 =>
          fX0_placeOnWaitingList_L21 o0 x1 o2 A k89 n x3_2 x4_4) fun kj_3 =>
        if x4 = x1 then (
          kj_3 x3)
        else (
          if (A.1 8 0 (16 * o0 + x4.toNatClampNeg) 0) = 0 then (
            ltb (α := Option (Int32)) (
              ltb (x3 + (1 : Int32)) fun x3_6 =>
              kj_3 x3_6) fun kj_5 =>
            if x1 ≤ x4 then (
              Option.bind (fX8_isAheadOf o2 (16 * o0 + x4.toNatClampNeg) A) fun r_7 =>
              if r_7 = 0 then (
                kj_5)
              else (
                kj_3 x3))
            else (
              Option.bind (fX8_isAheadOf (16 * o0 + x4.toNatClampNeg) o2 A) fun r_9 =>
              if r_9 = 0 then (
                kj_3 x3)
              else (
                kj_5)))
          else (
            kj_3 x3))))
def fX0_placeOnWaitingList (o : Nat) (x1 : Int32) (A : sM) : Option (Int32) :=
  gd (inb x1 16) (
    if (A.1 8 0 (16 * o + x1.toNatClampNeg) 0) = 0 then (
      fX0_placeOnWaitingList_L21 o x1 (16 * o + x1.toNatClampNeg) A (fun (x3_2 : Int32) =>
        some x3_2) 10000 (0 : Int32) (0 : Int32))
    else (
      some (-1 : Int32)))
def fX0_addDays_L12 (o0 : Nat) (x1 : Int32) (k54 : sM → Option (sM)) : Nat → Int32 → sM → Option (sM)
  | 0, _, _ => none
  | n + 1, x2, A =>
    if (A.1 0 3 o0 0) ≤ x2 then (
      k54 A)
    else (
      gd (inb x2 16) (
        gd (inb (A.1 0 4 o0 0) 60) (
          gd (inb x2 16) (
            gd (inb (A.1 0 4 o0 0) 60) (
              ltb (wI A 24 0 (16 * o0 + x2.toNatClampNeg) (A.1 0 4 o0 0).toNatClampNeg ((A.1 24 0 (16 * o0 + x2.toNatClampNeg) (A.1 0 4 o0 0).toNatClampNeg) + ((A.1 8 4 (16 * o0 + x2.toNatClampNeg) 0) * x1))) fun A_5 =>
              ltb (x2 + (1 : Int32)) fun x2_6 =>
              fX0_addDays_L12 o0 x1 k54 n x2_6 A_5)))))
def fX0_addDays (o : Nat) (x1 : Int32) (A : sM) : Option (sM) :=
  ltb (wI A 0 5 o 0 ((A.1 0 5 o 0) + x1)) fun A_1 =>
  fX0_addDays_L12 o x1 (fun (A_2 : sM) =>
    some A_2) 10000 (0 : Int32) A_1
def fX7_cell (x0 : Int32) (x1 : Int32) (A : sM) : Option (Int32) :=
  some ((x0 * (4 : Int32)) + x1)
def fX7_value_22_L5 (o0 : Nat) (x1 : Int32) (o2 : Nat) (A : sM) (k41 : Int64 → Option (Int64)) : Nat → Int64 → Int32 → Option (Int64)
  | 0, _, _ => none
  | n + 1, x3, x5 =>
    if (A.1 4 4 o2 0) ≤ x5 then (
      k41 x3)
    else (
      Option.bind (fX7_cell x1 x5 A) fun r_1 =>
      gd (inb r_1 240) (
        gd (inb x5 4) (
          ltb (x3 + (((A.1 22 0 o0 r_1.toNatClampNeg).toInt64) * ((A.1 18 0 o2 x5.toNatClampNeg).toInt64))) fun x3_4 =>
          ltb (x5 + (1 : Int32)) fun x5_5 =>
          fX7_value_22_L5 o0 x1 o2 A k41 n x3_4 x5_5)))
def fX7_value_22 (o0 : Nat) (x1 : Int32) (o2 : Nat) (A : sM) : Option (Int64) :=
  fX7_value_22_L5 o0 x1 o2 A (fun (x3_1 : Int64) =>
    some x3_1) 10000 (0 : Int64) (0 : Int32)
def fX7_value_23_L5 (o0 : Nat) (x1 : Int32) (o2 : Nat) (A : sM) (k41 : Int64 → Option (Int64)) : Nat → Int64 → Int32 → Option (Int64)
  | 0, _, _ => none
  | n + 1, x3, x5 =>
    if (A.1 4 4 o2 0) ≤ x5 then (
      k41 x3)
    else (
      Option.bind (fX7_cell x1 x5 A) fun r_1 =>
      gd (inb r_1 240) (
        gd (inb x5 4) (
          ltb (x3 + (((A.1 23 0 o0 r_1.toNatClampNeg).toInt64) * ((A.1 18 0 o2 x5.toNatClampNeg).toInt64))) fun x3_4 =>
          ltb (x5 + (1 : Int32)) fun x5_5 =>
          fX7_value_23_L5 o0 x1 o2 A k41 n x3_4 x5_5)))
def fX7_value_23 (o0 : Nat) (x1 : Int32) (o2 : Nat) (A : sM) : Option (Int64) :=
  fX7_value_23_L5 o0 x1 o2 A (fun (x3_1 : Int64) =>
    some x3_1) 10000 (0 : Int64) (0 : Int32)
def fX7_countedValue (o : Nat) (x1 : Int32) (o2 : Nat) (A : sM) : Option (Int64) :=
  Option.bind (fX7_value_22 o x1 o2 A) fun r_1 =>
  some r_1
def fX0_valueOfMonth (o : Nat) (x1 : Int32) (A : sM) : Option (Int64) :=
  Option.bind (fX7_countedValue o x1 o A) fun r_1 =>
  some r_1
def fX3_weighSubscribers_L14 (o1 : Nat) (x2 : Int32) (x3 : Int32) (k88 : Int64 → sM → Option (Int64 × sM)) : Nat → Int64 → Int32 → sM → Option (Int64 × sM)
  | 0, _, _, _ => none
  | n + 1, x4, x6, A =>
    if (A.1 0 3 o1 0) ≤ x6 then (
      k88 x4 A)
    else (
      gd (inb x6 16) (
        ltb (((A.1 8 4 (16 * o1 + x6.toNatClampNeg) 0).toInt64) * (x3.toInt64)) fun x8_2 =>
        ltb (α := Int64 → Option (Int64 × sM)) (fun (x8_3 : Int64) =>
          gd (inb x6 17) (
            ltb (wL A 15 0 0 x6.toNatClampNeg x8_3) fun A_6 =>
            ltb (x4 + x8_3) fun x4_7 =>
            ltb (x6 + (1 : Int32)) fun x6_8 =>
            fX3_weighSubscribers_L14 o1 x2 x3 k88 n x4_7 x6_8 A_6)) fun kj_4 =>
        if x2 < 0 then (
          kj_4 x8_2)
        else (
          if (60 : Int32) ≤ x2 then (
            kj_4 x8_2)
          else (
            gd (inb x2 60) (
              ltb (x8_2 + ((A.1 24 0 (16 * o1 + x6.toNatClampNeg) x2.toNatClampNeg).toInt64)) fun x8_10 =>
              kj_4 x8_10)))))
def fX3_weighSubscribers (o1 : Nat) (x2 : Int32) (x3 : Int32) (A : sM) : Option (Int64 × sM) :=
  ltb (fL A 15 0 17 (0 : Int64)) fun A_1 =>
  fX3_weighSubscribers_L14 o1 x2 x3 (fun (x4_2 : Int64) (A_3 : sM) =>
    some (x4_2, A_3)) 10000 (0 : Int64) (0 : Int32) A_1
def fX4_monthShareDays (o : Nat) (A : sM) : Option (Int32) :=
  some ((30 : Int32) * (A.1 4 0 o 0))
def fX3_weighShareDays (o1 : Nat) (x2 : Int32) (x3 : Int32) (A : sM) : Option (sM) :=
  bd2 (fX3_weighSubscribers o1 x2 x3 A) fun r_2 A_1 =>
  Option.bind (fX4_monthShareDays o1 A_1) fun r_3 =>
  ltb (wL A_1 3 1 0 0 (r_3.toInt64)) fun A_4 =>
  ltb (wL A_4 15 0 0 (16 : Int32).toNatClampNeg ((A_4.2 3 1 0 0) - r_2)) fun A_6 =>
  some A_6
def fX3_giveToGreatestRemainder_L4 (A : sM) (k34 : Int32 → Option (sM)) : Nat → Int32 → Int32 → Option (sM)
  | 0, _, _ => none
  | n + 1, x1, x2 =>
    if (17 : Int32) ≤ x2 then (
      k34 x1)
    else (
      gd (inb x2 17) (
        gd (inb x1 17) (
          ltb (α := Int32 → Option (sM)) (fun (x1_3 : Int32) =>
            ltb (x2 + (1 : Int32)) fun x2_5 =>
            fX3_giveToGreatestRemainder_L4 A k34 n x1_3 x2_5) fun kj_4 =>
          if (A.2 16 0 0 x2.toNatClampNeg) ≤ (A.2 16 0 0 x1.toNatClampNeg) then (
            kj_4 x1)
          else (
            kj_4 x2))))
def fX3_giveToGreatestRemainder (A : sM) : Option (sM) :=
  fX3_giveToGreatestRemainder_L4 A (fun (x1_1 : Int32) =>
    gd (inb x1_1 17) (
      gd (inb x1_1 17) (
        ltb (wL A 17 0 0 x1_1.toNatClampNeg ((A.2 17 0 0 x1_1.toNatClampNeg) + (1 : Int64))) fun A_4 =>
        gd (inb x1_1 17) (
          ltb (wL A_4 16 0 0 x1_1.toNatClampNeg (-1 : Int64)) fun A_6 =>
          some A_6)))) 10000 (0 : Int32) (1 : Int32)
def fX3_divide_L23 (x1 : Int64) (k85 : Int64 → sM → Option (sM)) : Nat → Int64 → Int32 → sM → Option (sM)
  | 0, _, _, _ => none
  | n + 1, x3, x5, A =>
    if (17 : Int32) ≤ x5 then (
      k85 x3 A)
    else (
      gd (inb x5 17) (
        ltb (x1 * (A.2 15 0 0 x5.toNatClampNeg)) fun x6_2 =>
        gd (nzL (A.2 3 1 0 0)) (
          gd (inb x5 17) (
            ltb (wL A 17 0 0 x5.toNatClampNeg (x6_2 / (A.2 3 1 0 0))) fun A_5 =>
            gd (nzL (A_5.2 3 1 0 0)) (
              gd (inb x5 17) (
                ltb (wL A_5 16 0 0 x5.toNatClampNeg (x6_2 - x6_2 / (A_5.2 3 1 0 0) * (A_5.2 3 1 0 0))) fun A_8 =>
                gd (inb x5 17) (
                  ltb (x3 - (A_8.2 17 0 0 x5.toNatClampNeg)) fun x3_10 =>
                  ltb (x5 + (1 : Int32)) fun x5_11 =>
                  fX3_divide_L23 x1 k85 n x3_10 x5_11 A_8)))))))
def fX3_divide_L88 (k115 : sM → Option (sM)) : Nat → Int64 → Int32 → sM → Option (sM)
  | 0, _, _, _ => none
  | n + 1, x3, x5, A =>
    if (17 : Int32) ≤ x5 then (
      k115 A)
    else (
      if x3 ≤ (0 : Int64) then (
        k115 A)
      else (
        Option.bind (fX3_giveToGreatestRemainder A) fun A_1 =>
        ltb (x3 - (1 : Int64)) fun x3_2 =>
        ltb (x5 + (1 : Int32)) fun x5_3 =>
        fX3_divide_L88 k115 n x3_2 x5_3 A_1))
def fX3_divide (x1 : Int64) (A : sM) : Option (sM) :=
  if (1 : Int64) ≤ (A.2 3 1 0 0) then (
    fX3_divide_L23 x1 (fun (x3_1 : Int64) (A_2 : sM) =>
      fX3_divide_L88 (fun (A_3 : sM) =>
        some A_3) 10000 x3_1 (0 : Int32) A_2) 10000 x1 (0 : Int32) A)
  else (
    ltb (fL A 17 0 17 (0 : Int64)) fun A_4 =>
    some A_4)
def fX1_hasAssignee (o0 : Nat) (o1 : Nat) (A : sM) : Option (Int32) :=
  if (A.1 8 5 o1 0) < 0 then (
    some (0 : Int32))
  else (
    if (A.1 0 3 o0 0) ≤ (A.1 8 5 o1 0) then (
      some (0 : Int32))
    else (
      some (1 : Int32)))
def fX1_passOnFrom (o1 : Nat) (x2 : Int32) (A : sM) : Option (sM) :=
  gd (inb x2 16) (
    Option.bind (fX1_hasAssignee o1 (16 * o1 + x2.toNatClampNeg) A) fun r_2 =>
    if r_2 = 0 then (
      some A)
    else (
      gd (inb x2 16) (
        ltb (((A.2 13 0 0 x2.toNatClampNeg) * ((A.1 8 6 (16 * o1 + x2.toNatClampNeg) 0).toInt64)) / (100 : Int64)) fun x4_4 =>
        gd (inb x2 16) (
          gd (inb x2 16) (
            ltb (wL A 13 0 0 x2.toNatClampNeg ((A.2 13 0 0 x2.toNatClampNeg) - x4_4)) fun A_7 =>
            gd (inb (A_7.1 8 5 (16 * o1 + x2.toNatClampNeg) 0) 16) (
              gd (inb (A_7.1 8 5 (16 * o1 + x2.toNatClampNeg) 0) 16) (
                ltb (wL A_7 13 0 0 (A_7.1 8 5 (16 * o1 + x2.toNatClampNeg) 0).toNatClampNeg ((A_7.2 13 0 0 (A_7.1 8 5 (16 * o1 + x2.toNatClampNeg) 0).toNatClampNeg) + x4_4)) fun A_10 =>
                gd (inb (A_10.1 8 5 (16 * o1 + x2.toNatClampNeg) 0) 16) (
                  gd (inb (A_10.1 8 5 (16 * o1 + x2.toNatClampNeg) 0) 16) (
                    ltb (wI A_10 12 0 0 (A_10.1 8 5 (16 * o1 + x2.toNatClampNeg) 0).toNatClampNeg ((A_10.1 12 0 0 (A_10.1 8 5 (16 * o1 + x2.toNatClampNeg) 0).toNatClampNeg) - (1 : Int32))) fun A_13 =>
                    some A_13)))))))))
def fX1_passOnSettled_L2 (o1 : Nat) (k38 : sM → Option (sM)) : Nat → Int32 → sM → Option (sM)
  | 0, _, _ => none
  | n + 1, x2, A =>
    if (A.1 0 3 o1 0) ≤ x2 then (
      k38 A)
    else (
      gd (inb x2 16) (
        ltb (α := sM → Option (sM)) (fun (A_2 : sM) =>
          ltb (x2 + (1 : Int32)) fun x2_4 =>
          fX1_passOnSettled_L2 o1 k38 n x2_4 A_2) fun kj_3 =>
        if (A.1 12 0 0 x2.toNatClampNeg) = 0 then (
          gd (inb x2 16) (
            ltb (wI A 12 0 0 x2.toNatClampNeg (-1 : Int32)) fun A_6 =>
            Option.bind (fX1_passOnFrom o1 x2 A_6) fun A_7 =>
            kj_3 A_7))
        else (
          kj_3 A)))
def fX1_passOnSettled (o1 : Nat) (A : sM) : Option (sM) :=
  fX1_passOnSettled_L2 o1 (fun (A_1 : sM) =>
    some A_1) 10000 (0 : Int32) A
def fX1_passOn_L10 (o1 : Nat) (k76 : sM → Option (sM)) : Nat → Int32 → sM → Option (sM)
  | 0, _, _ => none
  | n + 1, x3, A =>
    if (A.1 0 3 o1 0) ≤ x3 then (
      k76 A)
    else (
      gd (inb x3 16) (
        Option.bind (fX8_isActive (16 * o1 + x3.toNatClampNeg) A) fun r_2 =>
        ltb (α := Int64 → Option (sM)) (fun (v_3 : Int64) =>
          gd (inb x3 16) (
            ltb (wL A 13 0 0 x3.toNatClampNeg v_3) fun A_6 =>
            Option.bind (fX1_hasAssignee o1 (16 * o1 + x3.toNatClampNeg) A_6) fun r_7 =>
            ltb (α := sM → Option (sM)) (fun (A_8 : sM) =>
              ltb (x3 + (1 : Int32)) fun x3_10 =>
              fX1_passOn_L10 o1 k76 n x3_10 A_8) fun kj_9 =>
            if r_7 = 0 then (
              kj_9 A_6)
            else (
              gd (inb (A_6.1 8 5 (16 * o1 + x3.toNatClampNeg) 0) 16) (
                gd (inb (A_6.1 8 5 (16 * o1 + x3.toNatClampNeg) 0) 16) (
                  ltb (wI A_6 12 0 0 (A_6.1 8 5 (16 * o1 + x3.toNatClampNeg) 0).toNatClampNeg ((A_6.1 12 0 0 (A_6.1 8 5 (16 * o1 + x3.toNatClampNeg) 0).toNatClampNeg) + (1 : Int32))) fun A_13 =>
                  kj_9 A_13))))) fun kj_4 =>
        if r_2 = 0 then (
          kj_4 (0 : Int64))
        else (
          gd (inb x3 17) (
            kj_4 (A.2 17 0 0 x3.toNatClampNeg)))))
def fX1_passOn_L78 (o1 : Nat) (k97 : sM → Option (sM)) : Nat → Int32 → sM → Option (sM)
  | 0, _, _ => none
  | n + 1, x3, A =>
    if (A.1 0 3 o1 0) ≤ x3 then (
      k97 A)
    else (
      Option.bind (fX1_passOnSettled o1 A) fun A_1 =>
      ltb (x3 + (1 : Int32)) fun x3_2 =>
      fX1_passOn_L78 o1 k97 n x3_2 A_1)
def fX1_passOn (o1 : Nat) (A : sM) : Option (sM) :=
  ltb (fI A 12 0 16 (0 : Int32)) fun A_1 =>
  fX1_passOn_L10 o1 (fun (A_2 : sM) =>
    fX1_passOn_L78 o1 (fun (A_3 : sM) =>
      some A_3) 10000 (0 : Int32) A_2) 10000 (0 : Int32) A_1
def fX8_takeCredit (o : Nat) (x1 : Int64) (x3 : Int32) (A : sM) : Option (sM) :=
  ltb ((if (A.2 26 0 o (0 : Int32).toNatClampNeg) < x1 then (A.2 26 0 o (0 : Int32).toNatClampNeg) else x1)) fun x4_2 =>
  ltb (wL A 26 0 o (0 : Int32).toNatClampNeg ((A.2 26 0 o (0 : Int32).toNatClampNeg) - x4_2)) fun A_5 =>
  if x3 < 0 then (
    some A_5)
  else (
    if (72 : Int32) ≤ x3 then (
      some A_5)
    else (
      gd (inb x3 72) (
        gd (inb x3 72) (
          ltb (wL A_5 25 0 o x3.toNatClampNeg ((A_5.2 25 0 o x3.toNatClampNeg) + (x1 - x4_2))) fun A_8 =>
          some A_8))))
def fX8_payFromLots_L5 (o0 : Nat) (k57 : Int64 → sM → Option (Int64 × sM)) : Nat → Int64 → Int32 → sM → Option (Int64 × sM)
  | 0, _, _, _ => none
  | n + 1, x3, x5, A =>
    if (72 : Int32) ≤ x5 then (
      k57 x3 A)
    else (
      if x3 ≤ (0 : Int64) then (
        k57 x3 A)
      else (
        gd (inb x5 72) (
          ltb ((if (A.2 25 0 o0 x5.toNatClampNeg) < x3 then (A.2 25 0 o0 x5.toNatClampNeg) else x3)) fun x6_2 =>
          gd (inb x5 72) (
            gd (inb x5 72) (
              ltb (wL A 25 0 o0 x5.toNatClampNeg ((A.2 25 0 o0 x5.toNatClampNeg) - x6_2)) fun A_5 =>
              ltb (x3 - x6_2) fun x3_6 =>
              ltb (x5 + (1 : Int32)) fun x5_7 =>
              fX8_payFromLots_L5 o0 k57 n x3_6 x5_7 A_5)))))
def fX8_payFromLots (o : Nat) (x1 : Int64) (A : sM) : Option (Int64 × sM) :=
  fX8_payFromLots_L5 o (fun (x3_1 : Int64) (A_2 : sM) =>
    some (x3_1, A_2)) 10000 x1 (0 : Int32) A
def fX8_payBill (o : Nat) (A : sM) : Option (sM) :=
  ltb (A.2 26 0 o (1 : Int32).toNatClampNeg) fun x1_2 =>
  bd2 (fX8_payFromLots o x1_2 A) fun r_4 A_3 =>
  ltb (wL A_3 26 0 o (4 : Int32).toNatClampNeg ((A_3.2 26 0 o (4 : Int32).toNatClampNeg) + (x1_2 - r_4))) fun A_7 =>
  ltb (wL A_7 26 0 o (2 : Int32).toNatClampNeg ((A_7.2 26 0 o (2 : Int32).toNatClampNeg) + r_4)) fun A_10 =>
  ltb (wL A_10 26 0 o (1 : Int32).toNatClampNeg (0 : Int64)) fun A_12 =>
  some A_12
def fX8_takeExpiredLot (o : Nat) (x1 : Int32) (A : sM) : Option (Int64 × sM) :=
  if x1 < 0 then (
    some ((0 : Int64), A))
  else (
    if x1 < (72 : Int32) then (
      gd (inb x1 72) (
        ltb (A.2 25 0 o x1.toNatClampNeg) fun x2_2 =>
        gd (inb x1 72) (
          ltb (wL A 25 0 o x1.toNatClampNeg (0 : Int64)) fun A_4 =>
          ltb (wL A_4 26 0 o (5 : Int32).toNatClampNeg ((A_4.2 26 0 o (5 : Int32).toNatClampNeg) + x2_2)) fun A_7 =>
          some (x2_2, A_7))))
    else (
      some ((0 : Int64), A)))
def fX8_finishMonth (o : Nat) (x1 : Int64) (x3 : Int32) (x4 : Int32) (A : sM) : Option (Int64 × sM) :=
  Option.bind (fX8_takeCredit o x1 x3 A) fun A_1 =>
  Option.bind (fX8_payBill o A_1) fun A_2 =>
  bd2 (fX8_takeExpiredLot o (x3 - x4) A_2) fun r_4 A_3 =>
  some (r_4, A_3)
def fX0_closeMonth_L15 (o0 : Nat) (k88 : sM → Option (sM)) : Nat → Int32 → sM → Option (sM)
  | 0, _, _ => none
  | n + 1, x3, A =>
    if (A.1 0 3 o0 0) ≤ x3 then (
      k88 A)
    else (
      gd (inb x3 16) (
        Option.bind (fX8_isActive (16 * o0 + x3.toNatClampNeg) A) fun r_2 =>
        ltb (α := sM → Option (sM)) (fun (A_3 : sM) =>
          ltb (x3 + (1 : Int32)) fun x3_5 =>
          fX0_closeMonth_L15 o0 k88 n x3_5 A_3) fun kj_4 =>
        if r_2 = 0 then (
          gd (inb x3 17) (
            ltb (wL A 0 6 o0 0 ((A.2 0 6 o0 0) + (A.2 17 0 0 x3.toNatClampNeg))) fun A_7 =>
            kj_4 A_7))
        else (
          gd (inb x3 16) (
            bd2 (fX8_finishMonth (16 * o0 + x3.toNatClampNeg) (A.2 13 0 0 x3.toNatClampNeg) (A.1 0 4 o0 0) (A.1 4 1 o0 0) A) fun r_10 A_9 =>
            ltb (wL A_9 0 6 o0 0 ((A.2 0 6 o0 0) + r_10)) fun A_11 =>
            kj_4 A_11))))
def fX0_closeMonth (o : Nat) (A : sM) : Option (sM) :=
  ltb (wL A 0 7 o 0 ((A.2 0 7 o 0) + (A.2 17 0 0 (16 : Int32).toNatClampNeg))) fun A_2 =>
  fX0_closeMonth_L15 o (fun (A_3 : sM) =>
    ltb (wI A_3 0 4 o 0 ((A_3.1 0 4 o 0) + (1 : Int32))) fun A_4 =>
    ltb (wI A_4 0 5 o 0 (0 : Int32)) fun A_5 =>
    some A_5) 10000 (0 : Int32) A_2
def fX0_operatorShareDays_L31 (o0 : Nat) (x1 : Int32) (A : sM) (k61 : Int32 → Option (Int32)) : Nat → Int32 → Int32 → Option (Int32)
  | 0, _, _ => none
  | n + 1, x3, x4 =>
    if (A.1 0 3 o0 0) ≤ x4 then (
      k61 x3)
    else (
      gd (inb x4 16) (
        gd (inb x1 60) (
          ltb (x3 - (A.1 24 0 (16 * o0 + x4.toNatClampNeg) x1.toNatClampNeg)) fun x3_3 =>
          ltb (x4 + (1 : Int32)) fun x4_4 =>
          fX0_operatorShareDays_L31 o0 x1 A k61 n x3_3 x4_4)))
def fX0_operatorShareDays (o : Nat) (x1 : Int32) (A : sM) : Option (Int32) :=
  ltb (α := Int32 → Option (Int32)) (fun (v_1 : Int32) =>
    ltb (v_1 * (A.1 4 0 o 0)) fun x3_3 =>
    fX0_operatorShareDays_L31 o x1 A (fun (x3_4 : Int32) =>
      some x3_4) 10000 x3_3 (0 : Int32)) fun kj_2 =>
  if x1 = (A.1 0 4 o 0) then (
    kj_2 (A.1 0 5 o 0))
  else (
    kj_2 (30 : Int32))
def fX7_correctionValue (o : Nat) (x1 : Int32) (o2 : Nat) (A : sM) : Option (Int64) :=
  Option.bind (fX7_value_23 o x1 o2 A) fun r_1 =>
  some r_1
def fX0_creditParts_L15 (o0 : Nat) (k72 : sM → Option (sM)) : Nat → Int32 → sM → Option (sM)
  | 0, _, _ => none
  | n + 1, x2, A =>
    if (A.1 0 3 o0 0) ≤ x2 then (
      k72 A)
    else (
      gd (inb x2 16) (
        Option.bind (fX8_isActive (16 * o0 + x2.toNatClampNeg) A) fun r_2 =>
        ltb (α := sM → Option (sM)) (fun (A_3 : sM) =>
          ltb (x2 + (1 : Int32)) fun x2_5 =>
          fX0_creditParts_L15 o0 k72 n x2_5 A_3) fun kj_4 =>
        if r_2 = 0 then (
          gd (inb x2 17) (
            ltb (wL A 0 6 o0 0 ((A.2 0 6 o0 0) + (A.2 17 0 0 x2.toNatClampNeg))) fun A_7 =>
            kj_4 A_7))
        else (
          gd (inb x2 16) (
            gd (inb x2 17) (
              Option.bind (fX8_takeCredit (16 * o0 + x2.toNatClampNeg) (A.2 17 0 0 x2.toNatClampNeg) (A.1 0 4 o0 0) A) fun A_10 =>
              kj_4 A_10)))))
def fX0_creditParts (o : Nat) (A : sM) : Option (sM) :=
  ltb (wL A 0 7 o 0 ((A.2 0 7 o 0) + (A.2 17 0 0 (16 : Int32).toNatClampNeg))) fun A_2 =>
  fX0_creditParts_L15 o (fun (A_3 : sM) =>
    some A_3) 10000 (0 : Int32) A_2
def fX8_loseCredit_L11 (o0 : Nat) (k58 : Int64 → sM → Option (sM)) : Nat → Int64 → Int32 → sM → Option (sM)
  | 0, _, _, _ => none
  | n + 1, x3, x5, A =>
    if x5 < 0 then (
      k58 x3 A)
    else (
      if x3 ≤ (0 : Int64) then (
        k58 x3 A)
      else (
        gd (inb x5 72) (
          ltb ((if (A.2 25 0 o0 x5.toNatClampNeg) < x3 then (A.2 25 0 o0 x5.toNatClampNeg) else x3)) fun x6_2 =>
          gd (inb x5 72) (
            gd (inb x5 72) (
              ltb (wL A 25 0 o0 x5.toNatClampNeg ((A.2 25 0 o0 x5.toNatClampNeg) - x6_2)) fun A_5 =>
              ltb (x3 - x6_2) fun x3_6 =>
              ltb (x5 + (-1 : Int32)) fun x5_7 =>
              fX8_loseCredit_L11 o0 k58 n x3_6 x5_7 A_5)))))
def fX8_loseCredit (o : Nat) (x1 : Int64) (A : sM) : Option (sM) :=
  ltb ((72 : Int32) - (1 : Int32)) fun x5_1 =>
  fX8_loseCredit_L11 o (fun (x3_2 : Int64) (A_3 : sM) =>
    ltb (wL A_3 26 0 o (0 : Int32).toNatClampNeg ((A_3.2 26 0 o (0 : Int32).toNatClampNeg) + x3_2)) fun A_6 =>
    some A_6) 10000 x1 x5_1 A
def fX0_settleTrueUp_L25 (o0 : Nat) (k78 : sM → Option (sM)) : Nat → Int32 → sM → Option (sM)
  | 0, _, _ => none
  | n + 1, x3, A =>
    if (A.1 0 3 o0 0) ≤ x3 then (
      k78 A)
    else (
      gd (inb x3 16) (
        Option.bind (fX8_isActive (16 * o0 + x3.toNatClampNeg) A) fun r_2 =>
        ltb (α := sM → Option (sM)) (fun (A_3 : sM) =>
          ltb (x3 + (1 : Int32)) fun x3_5 =>
          fX0_settleTrueUp_L25 o0 k78 n x3_5 A_3) fun kj_4 =>
        if r_2 = 0 then (
          gd (inb x3 17) (
            ltb (wL A 0 6 o0 0 ((A.2 0 6 o0 0) - (A.2 17 0 0 x3.toNatClampNeg))) fun A_7 =>
            kj_4 A_7))
        else (
          gd (inb x3 16) (
            gd (inb x3 17) (
              Option.bind (fX8_loseCredit (16 * o0 + x3.toNatClampNeg) (A.2 17 0 0 x3.toNatClampNeg) A) fun A_10 =>
              kj_4 A_10)))))
def fX0_settleTrueUp (o : Nat) (x2 : Int32) (A : sM) : Option (sM) :=
  if x2 = 0 then (
    ltb (wL A 0 7 o 0 ((A.2 0 7 o 0) - (A.2 17 0 0 (16 : Int32).toNatClampNeg))) fun A_2 =>
    fX0_settleTrueUp_L25 o (fun (A_3 : sM) =>
      some A_3) 10000 (0 : Int32) A_2)
  else (
    Option.bind (fX0_creditParts o A) fun A_4 =>
    some A_4)
def fX7_countCorrections_L2 (o0 : Nat) (x1 : Int32) (k41 : sM → Option (sM)) : Nat → Int32 → sM → Option (sM)
  | 0, _, _ => none
  | n + 1, x2, A =>
    if (4 : Int32) ≤ x2 then (
      k41 A)
    else (
      Option.bind (fX7_cell x1 x2 A) fun r_1 =>
      gd (inb r_1 240) (
        gd (inb r_1 240) (
          gd (inb r_1 240) (
            ltb (wI A 22 0 o0 r_1.toNatClampNeg ((A.1 22 0 o0 r_1.toNatClampNeg) + (A.1 23 0 o0 r_1.toNatClampNeg))) fun A_5 =>
            gd (inb r_1 240) (
              ltb (wI A_5 23 0 o0 r_1.toNatClampNeg (0 : Int32)) fun A_7 =>
              ltb (x2 + (1 : Int32)) fun x2_8 =>
              fX7_countCorrections_L2 o0 x1 k41 n x2_8 A_7)))))
def fX7_countCorrections (o : Nat) (x1 : Int32) (A : sM) : Option (sM) :=
  fX7_countCorrections_L2 o x1 (fun (A_1 : sM) =>
    some A_1) 10000 (0 : Int32) A
def fX3_weighHeldShares (o1 : Nat) (A : sM) : Option (sM) :=
  bd2 (fX3_weighSubscribers o1 (-1 : Int32) (1 : Int32) A) fun r_2 A_1 =>
  ltb (wL A_1 3 1 0 0 r_2) fun A_3 =>
  some A_3
def fX2_putByte (x1 : Int32) (A : sM) : Option (sM) :=
  if (80 : Int32) ≤ (A.1 2 1 0 0) then (
    some A)
  else (
    gd (inb (A.1 2 1 0 0) 80) (
      ltb (wI A 14 0 0 (A.1 2 1 0 0).toNatClampNeg (x1.toInt8.toInt32)) fun A_2 =>
      ltb (wI A_2 2 1 0 0 ((A_2.1 2 1 0 0) + (1 : Int32))) fun A_3 =>
      some A_3))
def fX2_putNumber_L5 (x1 : Int64) (A : sM) (k34 : Int64 → Option (sM)) : Nat → Int64 → Int32 → Option (sM)
  | 0, _, _ => none
  | n + 1, x3, x5 =>
    if (19 : Int32) ≤ x5 then (
      k34 x3)
    else (
      gd (nzL x3) (
        if (x1 / x3) < (10 : Int64) then (
          k34 x3)
        else (
          ltb (x3 * (10 : Int64)) fun x3_2 =>
          ltb (x5 + (1 : Int32)) fun x5_3 =>
          fX2_putNumber_L5 x1 A k34 n x3_2 x5_3)))
def fX2_putNumber_L34 (x1 : Int64) (k64 : sM → Option (sM)) : Nat → Int64 → sM → Option (sM)
  | 0, _, _ => none
  | n + 1, x3, A =>
    if x3 ≤ (0 : Int64) then (
      k64 A)
    else (
      gd (nzL x3) (
        Option.bind (fX2_putByte ((48 : Int32) + (((x1 / x3) - (x1 / x3) / (10 : Int64) * (10 : Int64)).toInt32)) A) fun A_2 =>
        ltb (x3 / (10 : Int64)) fun x3_3 =>
        fX2_putNumber_L34 x1 k64 n x3_3 A_2))
def fX2_putNumber (x1 : Int64) (A : sM) : Option (sM) :=
  fX2_putNumber_L5 x1 A (fun (x3_1 : Int64) =>
    fX2_putNumber_L34 x1 (fun (A_2 : sM) =>
      some A_2) 10000 x3_1 A) 10000 (1 : Int64) (1 : Int32)
def fX2_putText_L2 (s1 : Nat) (k25 : sM → Option (sM)) : Nat → Int32 → sM → Option (sM)
  | 0, _, _ => none
  | n + 1, x2, A =>
    if (strL s1) ≤ x2 then (
      k25 A)
    else (
      gd (inb x2 (sLen.getD s1 0)) (
        Option.bind (fX2_putByte (strC s1 x2.toNatClampNeg) A) fun A_2 =>
        ltb (x2 + (1 : Int32)) fun x2_3 =>
        fX2_putText_L2 s1 k25 n x2_3 A_2))
def fX2_putText (s1 : Nat) (A : sM) : Option (sM) :=
  fX2_putText_L2 s1 (fun (A_1 : sM) =>
    some A_1) 10000 (0 : Int32) A
def fX2_putMoney (x1 : Int64) (A : sM) : Option (sM) :=
  Option.bind (fX2_putNumber (x1 / (1000 : Int64)) A) fun A_1 =>
  Option.bind (fX2_putText 44 A_1) fun A_2 =>
  Option.bind (fX2_putByte ((48 : Int32) + (((x1 / (100 : Int64)) - (x1 / (100 : Int64)) / (10 : Int64) * (10 : Int64)).toInt32)) A_2) fun A_3 =>
  Option.bind (fX2_putByte ((48 : Int32) + (((x1 / (10 : Int64)) - (x1 / (10 : Int64)) / (10 : Int64) * (10 : Int64)).toInt32)) A_3) fun A_4 =>
  Option.bind (fX2_putByte ((48 : Int32) + ((x1 - x1 / (10 : Int64) * (10 : Int64)).toInt32)) A_4) fun A_5 =>
  some A_5
def fX2_putAssignment (o1 : Nat) (A : sM) : Option (sM) :=
  if (A.1 8 5 o1 0) = (-1 : Int32) then (
    some A)
  else (
    Option.bind (fX2_putText 45 A) fun A_1 =>
    Option.bind (fX2_putNumber ((A_1.1 8 5 o1 0).toInt64) A_1) fun A_2 =>
    Option.bind (fX2_putText 40 A_2) fun A_3 =>
    Option.bind (fX2_putNumber ((A_3.1 8 6 o1 0).toInt64) A_3) fun A_4 =>
    Option.bind (fX2_putText 46 A_4) fun A_5 =>
    some A_5)
def fX2_write (o1 : Nat) (x2 : Int32) (A : sM) : Option (sM) :=
  gd (inb x2 16) (
    ltb (wI A 2 1 0 0 (0 : Int32)) fun A_2 =>
    Option.bind (fX2_putNumber (x2.toInt64) A_2) fun A_3 =>
    Option.bind (fX2_putText 40 A_3) fun A_4 =>
    if (A_4.1 8 0 (16 * o1 + x2.toNatClampNeg) 0) = 0 then (
      Option.bind (fX2_putText 41 A_4) fun A_22 =>
      Option.bind (fX0_placeOnWaitingList o1 x2 A_22) fun r_23 =>
      Option.bind (fX2_putNumber (r_23.toInt64) A_22) fun A_24 =>
      Option.bind (fX2_putText 42 A_24) fun A_25 =>
      Option.bind (fX2_putNumber ((A_25.1 8 2 (16 * o1 + x2.toNatClampNeg) 0).toInt64) A_25) fun A_26 =>
      some A_26)
    else (
      if (A_4.1 8 0 (16 * o1 + x2.toNatClampNeg) 0) = (1 : Int32) then (
        Option.bind (fX2_putText 43 A_4) fun A_10 =>
        Option.bind (fX2_putNumber ((A_10.1 8 4 (16 * o1 + x2.toNatClampNeg) 0).toInt64) A_10) fun A_11 =>
        Option.bind (fX2_putText 42 A_11) fun A_12 =>
        Option.bind (fX8_lotSum (16 * o1 + x2.toNatClampNeg) A_12) fun r_13 =>
        Option.bind (fX2_putMoney r_13 A_12) fun A_14 =>
        Option.bind (fX2_putAssignment (16 * o1 + x2.toNatClampNeg) A_14) fun A_15 =>
        some A_15)
      else (
        Option.bind (fX2_putText 47 A_4) fun A_5 =>
        Option.bind (fX2_putMoney (A_5.2 26 0 (16 * o1 + x2.toNatClampNeg) (3 : Int32).toNatClampNeg) A_5) fun A_7 =>
        some A_7)))
def fX9_errorPosition (A : sM) : Option (Int32) :=
  some (A.1 9 7 0 0)
def fX9_subscriberCount (A : sM) : Option (Int32) :=
  some (A.1 0 3 0 0)
def fX9_freeShares (A : sM) : Option (Int32) :=
  Option.bind (fX0_unheldShares 0 A) fun r_1 =>
  some r_1
def fX9_month (A : sM) : Option (Int32) :=
  some (A.1 0 4 0 0)
def fX9_weighProjected (A : sM) : Option (sM) :=
  Option.bind (fX3_weighShareDays 0 (A.1 0 4 0 0) ((30 : Int32) - (A.1 0 5 0 0)) A) fun A_1 =>
  some A_1
def fX9_placeOf (x0 : Int32) (A : sM) : Option (Int32) :=
  if x0 = (-1 : Int32) then (
    some (16 : Int32))
  else (
    some x0)
def fX9_greatestDivisor_L3 (A : sM) (k33 : Int64 → Option (Int64)) : Nat → Int64 → Int64 → Int32 → Option (Int64)
  | 0, _, _, _ => none
  | n + 1, x0, x2, x4 =>
    if (200 : Int32) ≤ x4 then (
      k33 x0)
    else (
      if x2 = (0 : Int64) then (
        k33 x0)
      else (
        gd (nzL x2) (
          ltb (x0 - x0 / x2 * x2) fun x5_2 =>
          ltb (x4 + (1 : Int32)) fun x4_3 =>
          fX9_greatestDivisor_L3 A k33 n x2 x5_2 x4_3)))
def fX9_greatestDivisor (x0 : Int64) (x2 : Int64) (A : sM) : Option (Int64) :=
  fX9_greatestDivisor_L3 A (fun (x0_1 : Int64) =>
    some (if (1 : Int64) < x0_1 then x0_1 else (1 : Int64))) 10000 x0 x2 (0 : Int32)
def fX9_fund (A : sM) : Option (Int64) :=
  some (A.2 0 6 0 0)
def fX9_operatorAccount (A : sM) : Option (Int64) :=
  some (A.2 0 7 0 0)
def fX6_keep (A : sM) : Option sM :=
  gd (inb (A.1 6 1 0 0) 6) (
    ltb (if A.1 21 0 0 (A.1 6 1 0 0).toNatClampNeg = 0 then wI (nB A ((A.1 6 1 0 0).toNatClampNeg + 1)) 21 0 0 (A.1 6 1 0 0).toNatClampNeg 1 else A) fun A1 =>
    Option.bind (fX0_copyFrom ((A.1 6 1 0 0).toNatClampNeg + 1) 0 A1) fun A2 =>
    ltb (wI A2 6 1 0 0 ((A2.1 6 1 0 0 + 1) - (A2.1 6 1 0 0 + 1) / 6 * 6)) fun A3 =>
    ltb (wI A3 6 2 0 0 (if (6 : Int32) < A3.1 6 2 0 0 + 1 then 6 else A3.1 6 2 0 0 + 1)) fun A4 =>
    some A4)
def fX6_restore (A : sM) : Option sM :=
  ltb (wI A 6 1 0 0 ((A.1 6 1 0 0 + 6 - 1) - (A.1 6 1 0 0 + 6 - 1) / 6 * 6)) fun A1 =>
  ltb (wI A1 6 2 0 0 (if A1.1 6 2 0 0 - 1 < (0 : Int32) then 0 else A1.1 6 2 0 0 - 1)) fun A2 =>
  gd (inb (A2.1 6 1 0 0) 6) (
    if A2.1 21 0 0 (A2.1 6 1 0 0).toNatClampNeg = 0 then some A2
    else fX0_copyFrom 0 ((A2.1 6 1 0 0).toNatClampNeg + 1) A2)
def fX9_requireHour (x1 : Int32) (A : sM) : Option (Option Nat) :=
  if x1 < 0 then (
    some (some 0))
  else (
    if x1 < (24 : Int32) then (
      some none)
    else (
      some (some 0)))
def fX9_requireSubscriber (x1 : Int32) (A : sM) : Option (Option Nat) :=
  if x1 < 0 then (
    some (some 0))
  else (
    if x1 < (A.1 0 3 0 0) then (
      some none)
    else (
      some (some 0)))
def fX9_requireCount (x1 : Int32) (A : sM) : Option (Option Nat) :=
  if (1 : Int32) ≤ x1 then (
    some none)
  else (
    some (some 1))
def fX9_requireActive (x1 : Int32) (A : sM) : Option (Option Nat) :=
  gd (inb x1 16) (
    Option.bind (fX8_isActive (16 * 0 + x1.toNatClampNeg) A) fun r_2 =>
    if r_2 = 0 then (
      some (some 2))
    else (
      some none))
def fX9_requireRoomForShares (o1 : Nat) (x2 : Int32) (A : sM) : Option (Option Nat) :=
  Option.bind (fX4_greatestHolding 0 A) fun r_1 =>
  if x2 ≤ (r_1 - (A.1 8 4 o1 0)) then (
    some none)
  else (
    some (some 2))
def fX9_requireShareKept (o1 : Nat) (x2 : Int32) (A : sM) : Option (Option Nat) :=
  if x2 < (A.1 8 4 o1 0) then (
    some none)
  else (
    some (some 2))
def fX9_requireDifferent (x1 : Int32) (x2 : Int32) (A : sM) : Option (Option Nat) :=
  if x1 = x2 then (
    some (some 1))
  else (
    some none)
def fX9_requireMonth (x1 : Int32) (A : sM) : Option (Option Nat) :=
  if x1 < 0 then (
    some (some 0))
  else (
    if x1 ≤ (A.1 0 4 0 0) then (
      some none)
    else (
      some (some 0)))
def fX9_requirePeriod (x1 : Int32) (A : sM) : Option (Option Nat) :=
  if x1 < 0 then (
    some (some 0))
  else (
    if x1 < (A.1 4 4 0 0) then (
      some none)
    else (
      some (some 0)))
def fX9_requireParticipant (x1 : Int32) (A : sM) : Option (Option Nat) :=
  if x1 = (-1 : Int32) then (
    some none)
  else (
    rq (fX9_requireSubscriber x1 A) (fun e => some (some e)) (
      some none))
