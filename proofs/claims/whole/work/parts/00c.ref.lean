def fX10_divisor : Nat → Int64 → Int64 → sM → Option (Int64)
  | 0, _, _, _ => none
  | n + 1, x0, x2, Z =>
    if x2 = (0 : Int64) then (
      some x0)
    else (
      gd (nzL x2) (
        Option.bind (fX10_divisor n x2 (x0 - x0 / x2 * x2) Z) fun r_2 =>
        some r_2))
def fX10_tells (x1 : Int32) (Z : sM) : Option (sM) :=
  gd (inb (Z.1 10 25 0 0) 100) (
    ltb (wI Z 40 0 0 (Z.1 10 25 0 0).toNatClampNeg (x1.toInt8.toInt32)) fun Z_2 =>
    ltb (wI Z_2 10 25 0 0 ((Z_2.1 10 25 0 0) + (1 : Int32))) fun Z_3 =>
    some Z_3)
def fX10_tellsNumber : Nat → Int64 → sM → Option (sM)
  | 0, _, _ => none
  | n + 1, x1, Z =>
    if x1 < (10 : Int64) then (
      Option.bind (fX10_tells ((48 : Int32) + ((x1 - x1 / (10 : Int64) * (10 : Int64)).toInt32)) Z) fun Z_1 =>
      some Z_1)
    else (
      Option.bind (fX10_tellsNumber n (x1 / (10 : Int64)) Z) fun Z_3 =>
      Option.bind (fX10_tells ((48 : Int32) + ((x1 - x1 / (10 : Int64) * (10 : Int64)).toInt32)) Z_3) fun Z_4 =>
      some Z_4)
def fX10_begins_27_L3 (x1 : Int32) (x2 : Int32) (x3 : Int32) (x4 : Int32) (k34 : sM → Option (sM)) : Nat → Int32 → sM → Option (sM)
  | 0, _, _ => none
  | n + 1, x5, Z =>
    if (1588 : Int32) ≤ x5 then (
      k34 Z)
    else (
      ltb (α := Int32 → Option (sM)) (fun (v_1 : Int32) =>
        gd (inb x5 1588) (
          ltb (wI Z 27 0 0 x5.toNatClampNeg v_1) fun Z_4 =>
          ltb (x5 + (1 : Int32)) fun x5_5 =>
          fX10_begins_27_L3 x1 x2 x3 x4 k34 n x5_5 Z_4)) fun kj_2 =>
      if x5 < (1348 : Int32) then (
        kj_2 (0 : Int32))
      else (
        kj_2 (-1 : Int32)))
def fX10_begins_27 (x1 : Int32) (x2 : Int32) (x3 : Int32) (x4 : Int32) (Z : sM) : Option (sM) :=
  fX10_begins_27_L3 x1 x2 x3 x4 (fun (Z_1 : sM) =>
    ltb (wI Z_1 27 0 0 (0 : Int32).toNatClampNeg x1) fun Z_3 =>
    ltb (wI Z_3 27 0 0 (1 : Int32).toNatClampNeg x2) fun Z_5 =>
    ltb (wI Z_5 27 0 0 (2 : Int32).toNatClampNeg x3) fun Z_7 =>
    ltb (wI Z_7 27 0 0 (3 : Int32).toNatClampNeg x4) fun Z_9 =>
    some Z_9) 10000 (0 : Int32) Z
def fX10_begins_28_L3 (x1 : Int32) (x2 : Int32) (x3 : Int32) (x4 : Int32) (k34 : sM → Option (sM)) : Nat → Int32 → sM → Option (sM)
  | 0, _, _ => none
  | n + 1, x5, Z =>
    if (1588 : Int32) ≤ x5 then (
      k34 Z)
    else (
      ltb (α := Int32 → Option (sM)) (fun (v_1 : Int32) =>
        gd (inb x5 1588) (
          ltb (wI Z 28 0 0 x5.toNatClampNeg v_1) fun Z_4 =>
          ltb (x5 + (1 : Int32)) fun x5_5 =>
          fX10_begins_28_L3 x1 x2 x3 x4 k34 n x5_5 Z_4)) fun kj_2 =>
      if x5 < (1348 : Int32) then (
        kj_2 (0 : Int32))
      else (
        kj_2 (-1 : Int32)))
def fX10_begins_28 (x1 : Int32) (x2 : Int32) (x3 : Int32) (x4 : Int32) (Z : sM) : Option (sM) :=
  fX10_begins_28_L3 x1 x2 x3 x4 (fun (Z_1 : sM) =>
    ltb (wI Z_1 28 0 0 (0 : Int32).toNatClampNeg x1) fun Z_3 =>
    ltb (wI Z_3 28 0 0 (1 : Int32).toNatClampNeg x2) fun Z_5 =>
    ltb (wI Z_5 28 0 0 (2 : Int32).toNatClampNeg x3) fun Z_7 =>
    ltb (wI Z_7 28 0 0 (3 : Int32).toNatClampNeg x4) fun Z_9 =>
    some Z_9) 10000 (0 : Int32) Z
def fX10_thrown (Z : sM) : Option (Int32) :=
  some (Z.1 10 6 0 0)
def fX10_isIn (x0 : Int64) (x2 : Int64) (x4 : Int64) (Z : sM) : Option (Int32) :=
  if x0 < x2 then (
    some (0 : Int32))
  else (
    if x4 < x0 then (
      some (0 : Int32))
    else (
      some (1 : Int32)))
def fX10_keeps_L83 (k117 : sM → Option (sM)) : Nat → Int32 → sM → Option (sM)
  | 0, _, _ => none
  | n + 1, x1, Z =>
    if (1588 : Int32) ≤ x1 then (
      k117 Z)
    else (
      gd (inb x1 1588) (
        gd (inb (((1588 : Int32) * (Z.1 10 5 0 0)) + x1) 9528) (
          ltb (wI Z 29 0 0 (((1588 : Int32) * (Z.1 10 5 0 0)) + x1).toNatClampNeg (Z.1 27 0 0 x1.toNatClampNeg)) fun Z_3 =>
          ltb (x1 + (1 : Int32)) fun x1_4 =>
          fX10_keeps_L83 k117 n x1_4 Z_3)))
def fX10_keeps_L119 (k153 : sM → Option (sM)) : Nat → Int32 → sM → Option (sM)
  | 0, _, _ => none
  | n + 1, x1, Z =>
    if (1058 : Int32) ≤ x1 then (
      k153 Z)
    else (
      gd (inb x1 1058) (
        gd (inb (((1058 : Int32) * (Z.1 10 5 0 0)) + x1) 6348) (
          ltb (wL Z 31 0 0 (((1058 : Int32) * (Z.1 10 5 0 0)) + x1).toNatClampNeg (Z.2 30 0 0 x1.toNatClampNeg)) fun Z_3 =>
          ltb (x1 + (1 : Int32)) fun x1_4 =>
          fX10_keeps_L119 k153 n x1_4 Z_3)))
def fX10_keeps_L11 (k40 : sM → Option (sM)) : Nat → Int32 → sM → Option (sM)
  | 0, _, _ => none
  | n + 1, x1, Z =>
    if (7940 : Int32) ≤ x1 then (
      k40 Z)
    else (
      gd (inb (x1 + (1588 : Int32)) 9528) (
        gd (inb x1 9528) (
          ltb (wI Z 29 0 0 x1.toNatClampNeg (Z.1 29 0 0 (x1 + (1588 : Int32)).toNatClampNeg)) fun Z_3 =>
          ltb (x1 + (1 : Int32)) fun x1_4 =>
          fX10_keeps_L11 k40 n x1_4 Z_3)))
def fX10_keeps_L42 (k71 : sM → Option (sM)) : Nat → Int32 → sM → Option (sM)
  | 0, _, _ => none
  | n + 1, x1, Z =>
    if (5290 : Int32) ≤ x1 then (
      k71 Z)
    else (
      gd (inb (x1 + (1058 : Int32)) 6348) (
        gd (inb x1 6348) (
          ltb (wL Z 31 0 0 x1.toNatClampNeg (Z.2 31 0 0 (x1 + (1058 : Int32)).toNatClampNeg)) fun Z_3 =>
          ltb (x1 + (1 : Int32)) fun x1_4 =>
          fX10_keeps_L42 k71 n x1_4 Z_3)))
def fX10_keeps (Z : sM) : Option (sM) :=
  ltb (α := sM → Option (sM)) (fun (Z_1 : sM) =>
    fX10_keeps_L83 (fun (Z_3 : sM) =>
      fX10_keeps_L119 (fun (Z_4 : sM) =>
        ltb (wI Z_4 10 5 0 0 ((Z_4.1 10 5 0 0) + (1 : Int32))) fun Z_5 =>
        some Z_5) 10000 (0 : Int32) Z_3) 10000 (0 : Int32) Z_1) fun kj_2 =>
  if (Z.1 10 5 0 0) = (6 : Int32) then (
    fX10_keeps_L11 (fun (Z_6 : sM) =>
      fX10_keeps_L42 (fun (Z_7 : sM) =>
        ltb (wI Z_7 10 5 0 0 ((Z_7.1 10 5 0 0) - (1 : Int32))) fun Z_8 =>
        kj_2 Z_8) 10000 (0 : Int32) Z_6) 10000 (0 : Int32) Z)
  else (
    kj_2 Z)
def fX10_undo_L37 (k71 : sM → Option (Int32 × sM)) : Nat → Int32 → sM → Option (Int32 × sM)
  | 0, _, _ => none
  | n + 1, x1, Z =>
    if (1588 : Int32) ≤ x1 then (
      k71 Z)
    else (
      gd (inb (((1588 : Int32) * (Z.1 10 5 0 0)) + x1) 9528) (
        gd (inb x1 1588) (
          ltb (wI Z 27 0 0 x1.toNatClampNeg (Z.1 29 0 0 (((1588 : Int32) * (Z.1 10 5 0 0)) + x1).toNatClampNeg)) fun Z_3 =>
          ltb (x1 + (1 : Int32)) fun x1_4 =>
          fX10_undo_L37 k71 n x1_4 Z_3)))
def fX10_undo_L73 (k107 : sM → Option (Int32 × sM)) : Nat → Int32 → sM → Option (Int32 × sM)
  | 0, _, _ => none
  | n + 1, x1, Z =>
    if (1058 : Int32) ≤ x1 then (
      k107 Z)
    else (
      gd (inb (((1058 : Int32) * (Z.1 10 5 0 0)) + x1) 6348) (
        gd (inb x1 1058) (
          ltb (wL Z 30 0 0 x1.toNatClampNeg (Z.2 31 0 0 (((1058 : Int32) * (Z.1 10 5 0 0)) + x1).toNatClampNeg)) fun Z_3 =>
          ltb (x1 + (1 : Int32)) fun x1_4 =>
          fX10_undo_L73 k107 n x1_4 Z_3)))
def fX10_undo (Z : sM) : Option (Int32 × sM) :=
  ltb (α := Int32 → Option (Int32 × sM)) (fun (v_1 : Int32) =>
    ltb (wI Z 10 6 0 0 v_1) fun Z_3 =>
    if (Z_3.1 10 6 0 0) ≤ 0 then (
      ltb (wI Z_3 10 5 0 0 ((Z_3.1 10 5 0 0) - (1 : Int32))) fun Z_4 =>
      fX10_undo_L37 (fun (Z_5 : sM) =>
        fX10_undo_L73 (fun (Z_6 : sM) =>
          some (Z_6.1 10 5 0 0, Z_6)) 10000 (0 : Int32) Z_5) 10000 (0 : Int32) Z_4)
    else (
      some ((0 : Int32), Z_3))) fun kj_2 =>
  if (Z.1 10 5 0 0) = 0 then (
    kj_2 (1 : Int32))
  else (
    kj_2 (0 : Int32))
def fX10_append_L34 (x1 : Int32) (x2 : Int32) (x3 : Int32) (x4 : Int32) (x5 : Int32) (k131 : sM → Option (Int32 × sM)) : Nat → Int32 → sM → Option (Int32 × sM)
  | 0, _, _ => none
  | n + 1, x6, Z =>
    if (20 : Int32) ≤ x6 then (
      k131 Z)
    else (
      ltb (α := Int32 → Option (Int32 × sM)) (fun (v_1 : Int32) =>
        gd (inb (Z.1 10 8 0 0) 300) (
          ltb (wI Z 32 0 0 (Z.1 10 8 0 0).toNatClampNeg ((v_1 >>> (((24 : Int32) - ((8 : Int32) * (x6 - x6 / (4 : Int32) * (4 : Int32)))) &&& 31)) &&& (255 : Int32))) fun Z_4 =>
          ltb (wI Z_4 10 8 0 0 ((Z_4.1 10 8 0 0) + (1 : Int32))) fun Z_5 =>
          ltb (x6 + (1 : Int32)) fun x6_6 =>
          fX10_append_L34 x1 x2 x3 x4 x5 k131 n x6_6 Z_5)) fun kj_2 =>
      if (4 : Int32) ≤ x6 then (
        if (8 : Int32) ≤ x6 then (
          if (12 : Int32) ≤ x6 then (
            if (16 : Int32) ≤ x6 then (
              kj_2 x5)
            else (
              kj_2 x4))
          else (
            kj_2 x3))
        else (
          kj_2 x2))
      else (
        kj_2 x1))
def fX10_append (x1 : Int32) (x2 : Int32) (x3 : Int32) (x4 : Int32) (x5 : Int32) (Z : sM) : Option (Int32 × sM) :=
  ltb (α := Int32 → Option (Int32 × sM)) (fun (v_1 : Int32) =>
    ltb (wI Z 10 6 0 0 v_1) fun Z_3 =>
    if (Z_3.1 10 6 0 0) ≤ 0 then (
      fX10_append_L34 x1 x2 x3 x4 x5 (fun (Z_4 : sM) =>
        some (Z_4.1 10 8 0 0, Z_4)) 10000 (0 : Int32) Z_3)
    else (
      some ((0 : Int32), Z_3))) fun kj_2 =>
  if ((Z.1 10 8 0 0) + (20 : Int32)) ≤ (300 : Int32) then (
    kj_2 (0 : Int32))
  else (
    kj_2 (1 : Int32))
def fX10_see (x1 : Int32) (Z : sM) : Option (Int32) :=
  if (Z.1 10 9 0 0) ≤ x1 then (
    some (-1 : Int32))
  else (
    gd (inb x1 300) (
      some (Z.1 32 0 0 x1.toNatClampNeg)))
def fX10_wordAt_L15 (x1 : Int32) (x2 : Int32) (Z : sM) (k69 : Int32 → Option (Int32)) : Nat → Int32 → Option (Int32)
  | 0, _ => none
  | n + 1, x3 =>
    gd (inb (x2 + x3) (sLen.getD 50 0)) (
      if (strC 50 (x2 + x3).toNatClampNeg) = (32 : Int32) then (
        k69 x3)
      else (
        if (Z.1 10 11 0 0) ≤ ((Z.1 10 10 0 0) + x3) then (
          k69 x3)
        else (
          gd (inb ((Z.1 10 10 0 0) + x3) 300) (
            gd (inb (x2 + x3) (sLen.getD 50 0)) (
              if (Z.1 32 0 0 ((Z.1 10 10 0 0) + x3).toNatClampNeg) = (strC 50 (x2 + x3).toNatClampNeg) then (
                ltb (x3 + (1 : Int32)) fun x3_4 =>
                fX10_wordAt_L15 x1 x2 Z k69 n x3_4)
              else (
                k69 x3))))))
def fX10_wordAt_L97 (x1 : Int32) (Z : sM) (k114 : Int32 → Option (Int32)) : Nat → Int32 → Option (Int32)
  | 0, _ => none
  | n + 1, x2 =>
    gd (inb x2 (sLen.getD 50 0)) (
      if (strC 50 x2.toNatClampNeg) = (32 : Int32) then (
        k114 x2)
      else (
        ltb (x2 + (1 : Int32)) fun x2_2 =>
        fX10_wordAt_L97 x1 Z k114 n x2_2))
def fX10_wordAt_L4 (Z : sM) (k95 : Int32 → Option (Int32)) (k123 : Option (Int32)) : Nat → Int32 → Int32 → Option (Int32)
  | 0, _, _ => none
  | n + 1, x1, x2 =>
    if (strL 50) ≤ x2 then (
      k123)
    else (
      fX10_wordAt_L15 x1 x2 Z (fun (x3_1 : Int32) =>
        gd (inb (x2 + x3_1) (sLen.getD 50 0)) (
          ltb (α := Option (Int32)) (
            fX10_wordAt_L97 x1 Z (fun (x2_4 : Int32) =>
              ltb (x2_4 + (1 : Int32)) fun x2_5 =>
              ltb (x1 + (1 : Int32)) fun x1_6 =>
              fX10_wordAt_L4 Z k95 k123 n x1_6 x2_5) 10000 x2) fun kj_3 =>
          if (strC 50 (x2 + x3_1).toNatClampNeg) = (32 : Int32) then (
            if ((Z.1 10 10 0 0) + x3_1) = (Z.1 10 11 0 0) then (
              k95 x1)
            else (
              kj_3))
          else (
            kj_3))) 10000 (0 : Int32))
def fX10_wordAt (Z : sM) : Option (Int32) :=
  fX10_wordAt_L4 Z (fun (x1_1 : Int32) =>
    some x1_1) (
    some (3 : Int32)) 10000 (0 : Int32) (1 : Int32)
def fX10_next_L8 (k34 : sM → Option (sM)) : Nat → sM → Option (sM)
  | 0, _ => none
  | n + 1, Z =>
    Option.bind (fX10_see (Z.1 10 10 0 0) Z) fun r_1 =>
    if r_1 = (32 : Int32) then (
      ltb (wI Z 10 10 0 0 ((Z.1 10 10 0 0) + (1 : Int32))) fun Z_2 =>
      fX10_next_L8 k34 n Z_2)
    else (
      k34 Z)
def fX10_next_L154 (k225 : sM → Option (sM)) : Nat → sM → Option (sM)
  | 0, _ => none
  | n + 1, Z =>
    Option.bind (fX10_see (Z.1 10 11 0 0) Z) fun r_1 =>
    Option.bind (fX10_isIn (r_1.toInt64) (48 : Int64) (57 : Int64) Z) fun r_2 =>
    if r_2 = 0 then (
      k225 Z)
    else (
      ltb (α := sM → Option (sM)) (fun (Z_3 : sM) =>
        ltb (wI Z_3 10 11 0 0 ((Z_3.1 10 11 0 0) + (1 : Int32))) fun Z_5 =>
        fX10_next_L154 k225 n Z_5) fun kj_4 =>
      if (10000000 : Int64) ≤ (Z.2 10 16 0 0) then (
        kj_4 Z)
      else (
        Option.bind (fX10_see (Z.1 10 11 0 0) Z) fun r_6 =>
        ltb (wL Z 10 16 0 0 ((((10 : Int64) * (Z.2 10 16 0 0)) + (r_6.toInt64)) - (48 : Int64))) fun Z_7 =>
        kj_4 Z_7))
def fX10_next_L83 (k117 : sM → Option (sM)) : Nat → sM → Option (sM)
  | 0, _ => none
  | n + 1, Z =>
    Option.bind (fX10_see (Z.1 10 11 0 0) Z) fun r_1 =>
    Option.bind (fX10_isIn (r_1.toInt64) (97 : Int64) (122 : Int64) Z) fun r_2 =>
    if r_2 = 0 then (
      k117 Z)
    else (
      ltb (wI Z 10 11 0 0 ((Z.1 10 11 0 0) + (1 : Int32))) fun Z_3 =>
      fX10_next_L83 k117 n Z_3)
def fX10_next (Z : sM) : Option (sM) :=
  ltb (wI Z 10 10 0 0 (Z.1 10 11 0 0)) fun Z_1 =>
  fX10_next_L8 (fun (Z_2 : sM) =>
    ltb (wI Z_2 10 11 0 0 (Z_2.1 10 10 0 0)) fun Z_3 =>
    if (Z_3.1 10 10 0 0) < (Z_3.1 10 9 0 0) then (
      Option.bind (fX10_see (Z_3.1 10 10 0 0) Z_3) fun r_4 =>
      Option.bind (fX10_isIn (r_4.toInt64) (97 : Int64) (122 : Int64) Z_3) fun r_5 =>
      if r_5 = 0 then (
        Option.bind (fX10_see (Z_3.1 10 10 0 0) Z_3) fun r_6 =>
        Option.bind (fX10_isIn (r_6.toInt64) (48 : Int64) (57 : Int64) Z_3) fun r_7 =>
        if r_7 = 0 then (
          ltb (wI Z_3 10 11 0 0 ((Z_3.1 10 11 0 0) + (1 : Int32))) fun Z_8 =>
          Option.bind (fX10_see (Z_8.1 10 10 0 0) Z_8) fun r_9 =>
          if r_9 = (59 : Int32) then (
            ltb (wI Z_8 10 12 0 0 (5 : Int32)) fun Z_11 =>
            some Z_11)
          else (
            ltb (wI Z_8 10 12 0 0 (7 : Int32)) fun Z_10 =>
            some Z_10))
        else (
          ltb (wL Z_3 10 16 0 0 (0 : Int64)) fun Z_13 =>
          fX10_next_L154 (fun (Z_14 : sM) =>
            ltb (wI Z_14 10 12 0 0 (4 : Int32)) fun Z_15 =>
            some Z_15) 10000 Z_13))
      else (
        fX10_next_L83 (fun (Z_18 : sM) =>
          Option.bind (fX10_wordAt Z_18) fun r_19 =>
          ltb (wI Z_18 10 12 0 0 r_19) fun Z_20 =>
          some Z_20) 10000 Z_3))
    else (
      ltb (wI Z_3 10 12 0 0 (6 : Int32)) fun Z_24 =>
      some Z_24)) 10000 Z_1
def fX10_fails (x1 : Int32) (Z : sM) : Option (sM) :=
  if (Z.1 10 13 0 0) = 0 then (
    ltb (wI Z 10 13 0 0 x1) fun Z_1 =>
    ltb (wI Z_1 10 14 0 0 (Z_1.1 10 10 0 0)) fun Z_2 =>
    some Z_2)
  else (
    some Z)
def fX10_is (x1 : Int32) (Z : sM) : Option (Int32) :=
  if (Z.1 10 13 0 0) = 0 then (
    if (Z.1 10 12 0 0) = x1 then (
      some (1 : Int32))
    else (
      some (0 : Int32)))
  else (
    some (0 : Int32))
def fX10_must (x1 : Int32) (Z : sM) : Option (sM) :=
  Option.bind (fX10_is x1 Z) fun r_1 =>
  if r_1 = 0 then (
    Option.bind (fX10_fails (-2 : Int32) Z) fun Z_4 =>
    if (Z_4.1 10 13 0 0) = 0 then (
      Option.bind (fX10_next Z_4) fun Z_5 =>
      some Z_5)
    else (
      some Z_4))
  else (
    if (Z.1 10 13 0 0) = 0 then (
      Option.bind (fX10_next Z) fun Z_2 =>
      some Z_2)
    else (
      some Z))
def fX10_takes (x1 : Int32) (x2 : Int32) (Z : sM) : Option (Int32 × sM) :=
  Option.bind (fX10_is (4 : Int32) Z) fun r_1 =>
  ltb (α := sM → Option (Int32 × sM)) (fun (Z_2 : sM) =>
    if (Z_2.1 10 13 0 0) = 0 then (
      ltb ((Z_2.2 10 16 0 0).toInt32) fun x3_6 =>
      if (Z_2.1 10 13 0 0) = 0 then (
        Option.bind (fX10_next Z_2) fun Z_7 =>
        some (x3_6, Z_7))
      else (
        some (x3_6, Z_2)))
    else (
      if (Z_2.1 10 13 0 0) = 0 then (
        Option.bind (fX10_next Z_2) fun Z_4 =>
        some ((0 : Int32), Z_4))
      else (
        some ((0 : Int32), Z_2)))) fun kj_3 =>
  if r_1 = 0 then (
    Option.bind (fX10_fails (-2 : Int32) Z) fun Z_13 =>
    kj_3 Z_13)
  else (
    Option.bind (fX10_isIn (Z.2 10 16 0 0) (x1.toInt64) (x2.toInt64) Z) fun r_9 =>
    if r_9 = 0 then (
      Option.bind (fX10_fails (-3 : Int32) Z) fun Z_10 =>
      kj_3 Z_10)
    else (
      kj_3 Z))
def fX10_readsPeriod (Z : sM) : Option (sM) :=
  Option.bind (fX10_is (1 : Int32) Z) fun r_1 =>
  ltb (α := sM → Option (sM)) (fun (Z_2 : sM) =>
    Option.bind (fX10_must (1 : Int32) Z_2) fun Z_4 =>
    bd2 (fX10_takes (0 : Int32) (200 : Int32) Z_4) fun r_6 Z_5 =>
    Option.bind (fX10_must (5 : Int32) Z_5) fun Z_7 =>
    if (Z_7.1 10 13 0 0) = 0 then (
      gd (inb ((32 : Int32) + (Z_7.1 28 0 0 (4 : Int32).toNatClampNeg)) 1588) (
        ltb (wI Z_7 28 0 0 ((32 : Int32) + (Z_7.1 28 0 0 (4 : Int32).toNatClampNeg)).toNatClampNeg r_6) fun Z_10 =>
        ltb (wI Z_10 28 0 0 (4 : Int32).toNatClampNeg ((Z_10.1 28 0 0 (4 : Int32).toNatClampNeg) + (1 : Int32))) fun Z_13 =>
        some Z_13))
    else (
      some Z_7)) fun kj_3 =>
  if r_1 = 0 then (
    kj_3 Z)
  else (
    if (Z.1 28 0 0 (4 : Int32).toNatClampNeg) = (4 : Int32) then (
      Option.bind (fX10_fails (-4 : Int32) Z) fun Z_18 =>
      kj_3 Z_18)
    else (
      kj_3 Z))
def fX10_readsHours_L45 (x2 : Int32) (x3 : Int32) (k75 : sM → Option (sM)) : Nat → Int32 → sM → Option (sM)
  | 0, _, _ => none
  | n + 1, x4, Z =>
    if x2 ≤ x4 then (
      k75 Z)
    else (
      if (Z.1 10 13 0 0) = 0 then (
        gd (inb ((8 : Int32) + x4) 1588) (
          ltb (wI Z 28 0 0 ((8 : Int32) + x4).toNatClampNeg x3) fun Z_2 =>
          ltb (x4 + (1 : Int32)) fun x4_3 =>
          fX10_readsHours_L45 x2 x3 k75 n x4_3 Z_2))
      else (
        k75 Z))
def fX10_readsHours (Z : sM) : Option (sM) :=
  Option.bind (fX10_must (2 : Int32) Z) fun Z_1 =>
  bd2 (fX10_takes (0 : Int32) (23 : Int32) Z_1) fun r_3 Z_2 =>
  bd2 (fX10_takes (r_3 + (1 : Int32)) (24 : Int32) Z_2) fun r_5 Z_4 =>
  bd2 (fX10_takes (0 : Int32) ((Z_4.1 28 0 0 (4 : Int32).toNatClampNeg) - (1 : Int32)) Z_4) fun r_8 Z_7 =>
  Option.bind (fX10_must (5 : Int32) Z_7) fun Z_9 =>
  fX10_readsHours_L45 r_5 r_8 (fun (Z_10 : sM) =>
    some Z_10) 10000 r_3 Z_9
def fX10_readsAll_L55 (k70 : sM → Option (sM)) : Nat → sM → Option (sM)
  | 0, _ => none
  | n + 1, Z =>
    Option.bind (fX10_is (1 : Int32) Z) fun r_1 =>
    if r_1 = 0 then (
      k70 Z)
    else (
      Option.bind (fX10_readsPeriod Z) fun Z_2 =>
      fX10_readsAll_L55 k70 n Z_2)
def fX10_readsAll_L70 (k85 : sM → Option (sM)) : Nat → sM → Option (sM)
  | 0, _ => none
  | n + 1, Z =>
    Option.bind (fX10_is (2 : Int32) Z) fun r_1 =>
    if r_1 = 0 then (
      k85 Z)
    else (
      Option.bind (fX10_readsHours Z) fun Z_2 =>
      fX10_readsAll_L70 k85 n Z_2)
def fX10_readsAll (Z : sM) : Option (sM) :=
  Option.bind (fX10_must (0 : Int32) Z) fun Z_1 =>
  bd2 (fX10_takes (1 : Int32) (100000 : Int32) Z_1) fun r_3 Z_2 =>
  bd2 (fX10_takes (1 : Int32) (24 : Int32) Z_2) fun r_5 Z_4 =>
  bd2 (fX10_takes (0 : Int32) (100 : Int32) Z_4) fun r_7 Z_6 =>
  bd2 (fX10_takes (1 : Int32) (100 : Int32) Z_6) fun r_9 Z_8 =>
  Option.bind (fX10_begins_28 r_3 r_5 r_7 r_9 Z_8) fun Z_10 =>
  Option.bind (fX10_must (5 : Int32) Z_10) fun Z_11 =>
  Option.bind (fX10_readsPeriod Z_11) fun Z_12 =>
  fX10_readsAll_L55 (fun (Z_13 : sM) =>
    fX10_readsAll_L70 (fun (Z_14 : sM) =>
      if (Z_14.1 10 13 0 0) = 0 then (
        if (Z_14.1 10 12 0 0) = (6 : Int32) then (
          some Z_14)
        else (
          Option.bind (fX10_fails (-2 : Int32) Z_14) fun Z_15 =>
          some Z_15))
      else (
        some Z_14)) 10000 Z_13) 10000 Z_12
def fX10_load_L97 (k122 : sM → Option (Int32 × sM)) : Nat → Int32 → sM → Option (Int32 × sM)
  | 0, _, _ => none
  | n + 1, x2, Z =>
    if (1588 : Int32) ≤ x2 then (
      k122 Z)
    else (
      gd (inb x2 1588) (
        gd (inb x2 1588) (
          ltb (wI Z 27 0 0 x2.toNatClampNeg (Z.1 28 0 0 x2.toNatClampNeg)) fun Z_3 =>
          ltb (x2 + (1 : Int32)) fun x2_4 =>
          fX10_load_L97 k122 n x2_4 Z_3)))
def fX10_load_L124 (k144 : sM → Option (Int32 × sM)) : Nat → Int32 → sM → Option (Int32 × sM)
  | 0, _, _ => none
  | n + 1, x2, Z =>
    if (1058 : Int32) ≤ x2 then (
      k144 Z)
    else (
      gd (inb x2 1058) (
        ltb (wL Z 30 0 0 x2.toNatClampNeg (0 : Int64)) fun Z_2 =>
        ltb (x2 + (1 : Int32)) fun x2_3 =>
        fX10_load_L124 k144 n x2_3 Z_2))
def fX10_load (x1 : Int32) (Z : sM) : Option (Int32 × sM) :=
  Option.bind (fX10_isIn (x1.toInt64) (0 : Int64) ((Z.1 10 8 0 0).toInt64) Z) fun r_1 =>
  ltb (α := Int32 → Option (Int32 × sM)) (fun (v_2 : Int32) =>
    ltb (wI Z 10 6 0 0 v_2) fun Z_4 =>
    if (Z_4.1 10 6 0 0) ≤ 0 then (
      ltb (wI Z_4 10 9 0 0 x1) fun Z_5 =>
      ltb (wI Z_5 10 8 0 0 (0 : Int32)) fun Z_6 =>
      ltb (wI Z_6 10 11 0 0 (0 : Int32)) fun Z_7 =>
      ltb (wI Z_7 10 13 0 0 (0 : Int32)) fun Z_8 =>
      Option.bind (fX10_next Z_8) fun Z_9 =>
      Option.bind (fX10_readsAll Z_9) fun Z_10 =>
      ltb (α := Int32 → Option (Int32 × sM)) (fun (v_11 : Int32) =>
        ltb (wI Z_10 10 15 0 0 v_11) fun Z_13 =>
        if (Z_13.1 10 13 0 0) = 0 then (
          Option.bind (fX10_keeps Z_13) fun Z_14 =>
          fX10_load_L97 (fun (Z_15 : sM) =>
            fX10_load_L124 (fun (Z_16 : sM) =>
              some (Z_16.1 27 0 0 (4 : Int32).toNatClampNeg, Z_16)) 10000 (0 : Int32) Z_15) 10000 (0 : Int32) Z_14)
        else (
          some (Z_13.1 10 13 0 0, Z_13))) fun kj_12 =>
      if (Z_10.1 10 13 0 0) = 0 then (
        kj_12 (-1 : Int32))
      else (
        kj_12 (Z_10.1 10 14 0 0)))
    else (
      some ((0 : Int32), Z_4))) fun kj_3 =>
  if r_1 = 0 then (
    kj_3 (1 : Int32))
  else (
    kj_3 (0 : Int32))
def fX10_errorPosition (Z : sM) : Option (Int32 × sM) :=
  ltb (wI Z 10 6 0 0 (0 : Int32)) fun Z_1 =>
  some (Z_1.1 10 15 0 0, Z_1)
def fX10_mostShares (Z : sM) : Option (Int32) :=
  ltb (((((Z.1 27 0 0 (0 : Int32).toNatClampNeg).toInt64) * ((Z.1 27 0 0 (3 : Int32).toNatClampNeg).toInt64)) / (100 : Int64)).toInt32) fun x1_3 =>
  if (1 : Int32) ≤ x1_3 then (
    some x1_3)
  else (
    some (1 : Int32))
def fX10_setting (x1 : Int32) (Z : sM) : Option (Int32 × sM) :=
  Option.bind (fX10_isIn (x1.toInt64) (0 : Int64) (5 : Int64) Z) fun r_1 =>
  ltb (α := Int32 → Option (Int32 × sM)) (fun (v_2 : Int32) =>
    ltb (wI Z 10 6 0 0 v_2) fun Z_4 =>
    if (Z_4.1 10 6 0 0) ≤ 0 then (
      if x1 = (5 : Int32) then (
        Option.bind (fX10_mostShares Z_4) fun r_6 =>
        some (r_6, Z_4))
      else (
        gd (inb x1 1588) (
          some (Z_4.1 27 0 0 x1.toNatClampNeg, Z_4))))
    else (
      some ((0 : Int32), Z_4))) fun kj_3 =>
  if r_1 = 0 then (
    kj_3 (1 : Int32))
  else (
    kj_3 (0 : Int32))
def fX10_periodOf (x1 : Int32) (Z : sM) : Option (Int32 × sM) :=
  Option.bind (fX10_isIn (x1.toInt64) (0 : Int64) (23 : Int64) Z) fun r_1 =>
  if r_1 = 0 then (
    ltb (wI Z 10 6 0 0 (1 : Int32)) fun Z_2 =>
    if (Z_2.1 10 6 0 0) ≤ 0 then (
      gd (inb ((8 : Int32) + x1) 1588) (
        some (Z_2.1 27 0 0 ((8 : Int32) + x1).toNatClampNeg, Z_2)))
    else (
      some ((0 : Int32), Z_2)))
  else (
    ltb (wI Z 10 6 0 0 (0 : Int32)) fun Z_4 =>
    if (Z_4.1 10 6 0 0) ≤ 0 then (
      gd (inb ((8 : Int32) + x1) 1588) (
        some (Z_4.1 27 0 0 ((8 : Int32) + x1).toNatClampNeg, Z_4)))
    else (
      some ((0 : Int32), Z_4)))
def fX10_ofMember (x1 : Int32) (x2 : Int32) (Z : sM) : Option (Int32) :=
  gd (inb (((36 : Int32) + ((7 : Int32) * x1)) + x2) 1588) (
    some (Z.1 27 0 0 (((36 : Int32) + ((7 : Int32) * x1)) + x2).toNatClampNeg))
def fX10_setMember (x1 : Int32) (x2 : Int32) (x3 : Int32) (Z : sM) : Option (sM) :=
  gd (inb (((36 : Int32) + ((7 : Int32) * x1)) + x2) 1588) (
    ltb (wI Z 27 0 0 (((36 : Int32) + ((7 : Int32) * x1)) + x2).toNatClampNeg x3) fun Z_2 =>
    some Z_2)
def fX10_isMember (x1 : Int32) (Z : sM) : Option (Int32) :=
  Option.bind (fX10_isIn (x1.toInt64) (0 : Int64) (((Z.1 27 0 0 (7 : Int32).toNatClampNeg) - (1 : Int32)).toInt64) Z) fun r_2 =>
  gd (isZ r_2) (some r_2)
def fX10_isActive (x1 : Int32) (Z : sM) : Option (Int32) :=
  Option.bind (fX10_ofMember x1 (3 : Int32) Z) fun r_1 =>
  if r_1 = (1 : Int32) then (
    some (1 : Int32))
  else (
    some (0 : Int32))
def fX10_free_L9 (Z : sM) (k35 : Int32 → Option (Int32)) : Nat → Int32 → Int32 → Option (Int32)
  | 0, _, _ => none
  | n + 1, x1, x2 =>
    if (Z.1 27 0 0 (7 : Int32).toNatClampNeg) ≤ x2 then (
      k35 x1)
    else (
      Option.bind (fX10_ofMember x2 (4 : Int32) Z) fun r_2 =>
      ltb (x1 - r_2) fun x1_3 =>
      ltb (x2 + (1 : Int32)) fun x2_4 =>
      fX10_free_L9 Z k35 n x1_3 x2_4)
def fX10_free (Z : sM) : Option (Int32) :=
  ltb (Z.1 27 0 0 (0 : Int32).toNatClampNeg) fun x1_2 =>
  fX10_free_L9 Z (fun (x1_3 : Int32) =>
    some x1_3) 10000 x1_2 (0 : Int32)
def fX10_placeOf_L4 (x1 : Int32) (Z : sM) (k76 : Int32 → Option (Int32)) : Nat → Int32 → Int32 → Option (Int32)
  | 0, _, _ => none
  | n + 1, x2, x3 =>
    if (Z.1 27 0 0 (7 : Int32).toNatClampNeg) ≤ x3 then (
      k76 x2)
    else (
      ltb (α := Int32 → Option (Int32)) (fun (x2_2 : Int32) =>
        ltb (x3 + (1 : Int32)) fun x3_4 =>
        fX10_placeOf_L4 x1 Z k76 n x2_2 x3_4) fun kj_3 =>
      if x3 = x1 then (
        kj_3 x2)
      else (
        Option.bind (fX10_ofMember x3 (3 : Int32) Z) fun r_5 =>
        if r_5 = 0 then (
          Option.bind (fX10_ofMember x3 (2 : Int32) Z) fun r_6 =>
          Option.bind (fX10_ofMember x1 (2 : Int32) Z) fun r_7 =>
          ltb (r_6 - r_7) fun x4_8 =>
          ltb (α := Int32 → Option (Int32)) (fun (v_9 : Int32) =>
            ltb (x2 + v_9) fun x2_11 =>
            kj_3 x2_11) fun kj_10 =>
          ltb (α := Option (Int32)) (
            kj_10 (1 : Int32)) fun kj_12 =>
          if 0 < x4_8 then (
            kj_12)
          else (
            ltb (α := Option (Int32)) (
              kj_10 (0 : Int32)) fun kj_13 =>
            if x4_8 = 0 then (
              if x1 ≤ x3 then (
                kj_13)
              else (
                kj_12))
            else (
              kj_13)))
        else (
          kj_3 x2)))
def fX10_placeOf (x1 : Int32) (Z : sM) : Option (Int32) :=
  fX10_placeOf_L4 x1 Z (fun (x2_1 : Int32) =>
    some x2_1) 10000 (0 : Int32) (0 : Int32)
def fX10_goesThrough_L9 (x1 : Int32) (k118 : sM → Option (sM)) : Nat → Int32 → sM → Option (sM)
  | 0, _, _ => none
  | n + 1, x2, Z =>
    if (Z.1 27 0 0 (7 : Int32).toNatClampNeg) ≤ x2 then (
      k118 Z)
    else (
      Option.bind (fX10_ofMember x2 (3 : Int32) Z) fun r_2 =>
      ltb (α := sM → Option (sM)) (fun (Z_3 : sM) =>
        ltb (x2 + (1 : Int32)) fun x2_5 =>
        fX10_goesThrough_L9 x1 k118 n x2_5 Z_3) fun kj_4 =>
      if r_2 = 0 then (
        Option.bind (fX10_ofMember x2 (2 : Int32) Z) fun r_6 =>
        if r_6 = x1 then (
          Option.bind (fX10_ofMember x2 (0 : Int32) Z) fun r_7 =>
          Option.bind (fX10_free Z) fun r_8 =>
          ltb (α := Int32 → Option (sM)) (fun (v_9 : Int32) =>
            Option.bind (fX10_mostShares Z) fun r_11 =>
            ltb (α := Int32 → Option (sM)) (fun (v_12 : Int32) =>
              Option.bind (fX10_ofMember x2 (1 : Int32) Z) fun r_14 =>
              if r_14 ≤ v_12 then (
                Option.bind (fX10_setMember x2 (3 : Int32) (1 : Int32) Z) fun Z_15 =>
                Option.bind (fX10_setMember x2 (4 : Int32) v_12 Z_15) fun Z_16 =>
                kj_4 Z_16)
              else (
                kj_4 Z)) fun kj_13 =>
            if v_9 ≤ r_11 then (
              kj_13 v_9)
            else (
              Option.bind (fX10_mostShares Z) fun r_20 =>
              kj_13 r_20)) fun kj_10 =>
          if r_7 ≤ r_8 then (
            kj_10 r_7)
          else (
            kj_10 r_8))
        else (
          kj_4 Z))
      else (
        kj_4 Z))
def fX10_goesThrough_L3 (k124 : sM → Option (sM)) : Nat → Int32 → sM → Option (sM)
  | 0, _, _ => none
  | n + 1, x1, Z =>
    if x1 < 0 then (
      k124 Z)
    else (
      fX10_goesThrough_L9 x1 (fun (Z_1 : sM) =>
        ltb (x1 + (-1 : Int32)) fun x1_2 =>
        fX10_goesThrough_L3 k124 n x1_2 Z_1) 10000 (0 : Int32) Z)
def fX10_goesThrough (Z : sM) : Option (sM) :=
  fX10_goesThrough_L3 (fun (Z_1 : sM) =>
    some Z_1) 10000 (9 : Int32) Z
def fX10_join (x1 : Int32) (x2 : Int32) (x3 : Int32) (Z : sM) : Option (Int32 × sM) :=
  Option.bind (fX10_isIn (x1.toInt64) (1 : Int64) ((Z.1 27 0 0 (0 : Int32).toNatClampNeg).toInt64) Z) fun r_2 =>
  ltb (α := Int32 → Option (Int32 × sM)) (fun (v_3 : Int32) =>
    ltb (wI Z 10 6 0 0 v_3) fun Z_5 =>
    if (Z_5.1 10 6 0 0) ≤ 0 then (
      Option.bind (fX10_keeps Z_5) fun Z_6 =>
      ltb (Z_6.1 27 0 0 (7 : Int32).toNatClampNeg) fun x4_8 =>
      Option.bind (fX10_setMember x4_8 (0 : Int32) x1 Z_6) fun Z_9 =>
      Option.bind (fX10_setMember x4_8 (1 : Int32) x2 Z_9) fun Z_10 =>
      Option.bind (fX10_setMember x4_8 (2 : Int32) x3 Z_10) fun Z_11 =>
      Option.bind (fX10_setMember x4_8 (3 : Int32) (0 : Int32) Z_11) fun Z_12 =>
      Option.bind (fX10_setMember x4_8 (5 : Int32) (-1 : Int32) Z_12) fun Z_13 =>
      ltb (wI Z_13 27 0 0 (7 : Int32).toNatClampNeg ((Z_13.1 27 0 0 (7 : Int32).toNatClampNeg) + (1 : Int32))) fun Z_16 =>
      Option.bind (fX10_goesThrough Z_16) fun Z_17 =>
      some (x4_8, Z_17))
    else (
      some ((0 : Int32), Z_5))) fun kj_4 =>
  ltb (α := Option (Int32 × sM)) (
    kj_4 (1 : Int32)) fun kj_25 =>
  if r_2 = 0 then (
    kj_25)
  else (
    Option.bind (fX10_isIn (x2.toInt64) (1 : Int64) (x1.toInt64) Z) fun r_26 =>
    if r_26 = 0 then (
      kj_25)
    else (
      Option.bind (fX10_isIn (x3.toInt64) (0 : Int64) (9 : Int64) Z) fun r_27 =>
      if r_27 = 0 then (
        kj_25)
      else (
        if (Z.1 27 0 0 (7 : Int32).toNatClampNeg) = (16 : Int32) then (
          kj_4 (2 : Int32))
        else (
          kj_4 (0 : Int32)))))
def fX10_more (x1 : Int32) (x2 : Int32) (Z : sM) : Option (Int32 × sM) :=
  Option.bind (fX10_isMember x1 Z) fun r_1 =>
  ltb (α := Int32 → Option (Int32 × sM)) (fun (v_2 : Int32) =>
    ltb (wI Z 10 6 0 0 v_2) fun Z_4 =>
    if (Z_4.1 10 6 0 0) ≤ 0 then (
      Option.bind (fX10_ofMember x1 (4 : Int32) Z_4) fun r_5 =>
      ltb ((r_5.toInt64) + (x2.toInt64)) fun x3_6 =>
      Option.bind (fX10_isActive x1 Z_4) fun r_7 =>
      ltb (α := Int32 → Option (Int32 × sM)) (fun (v_8 : Int32) =>
        ltb (wI Z_4 10 6 0 0 v_8) fun Z_10 =>
        if (Z_10.1 10 6 0 0) ≤ 0 then (
          Option.bind (fX10_keeps Z_10) fun Z_11 =>
          Option.bind (fX10_setMember x1 (4 : Int32) (x3_6.toInt32) Z_11) fun Z_12 =>
          some (x3_6.toInt32, Z_12))
        else (
          some ((0 : Int32), Z_10))) fun kj_9 =>
      ltb (α := Option (Int32 × sM)) (
        kj_9 (3 : Int32)) fun kj_15 =>
      if r_7 = 0 then (
        kj_15)
      else (
        Option.bind (fX10_free Z_4) fun r_16 =>
        if r_16 < x2 then (
          kj_15)
        else (
          Option.bind (fX10_mostShares Z_4) fun r_17 =>
          if x3_6 ≤ (r_17.toInt64) then (
            kj_9 (0 : Int32))
          else (
            kj_15))))
    else (
      some ((0 : Int32), Z_4))) fun kj_3 =>
  if r_1 = 0 then (
    kj_3 (1 : Int32))
  else (
    if (1 : Int32) ≤ x2 then (
      kj_3 (0 : Int32))
    else (
      kj_3 (2 : Int32)))
def fX10_reduce (x1 : Int32) (x2 : Int32) (Z : sM) : Option (Int32 × sM) :=
  Option.bind (fX10_isMember x1 Z) fun r_1 =>
  ltb (α := Int32 → Option (Int32 × sM)) (fun (v_2 : Int32) =>
    ltb (wI Z 10 6 0 0 v_2) fun Z_4 =>
    if (Z_4.1 10 6 0 0) ≤ 0 then (
      Option.bind (fX10_keeps Z_4) fun Z_5 =>
      Option.bind (fX10_ofMember x1 (4 : Int32) Z_5) fun r_6 =>
      Option.bind (fX10_setMember x1 (4 : Int32) (r_6 - x2) Z_5) fun Z_7 =>
      Option.bind (fX10_goesThrough Z_7) fun Z_8 =>
      Option.bind (fX10_free Z_8) fun r_9 =>
      some (r_9, Z_8))
    else (
      some ((0 : Int32), Z_4))) fun kj_3 =>
  if r_1 = 0 then (
    kj_3 (1 : Int32))
  else (
    if (1 : Int32) ≤ x2 then (
      Option.bind (fX10_isActive x1 Z) fun r_15 =>
      ltb (α := Option (Int32 × sM)) (
        kj_3 (3 : Int32)) fun kj_16 =>
      if r_15 = 0 then (
        kj_16)
      else (
        Option.bind (fX10_ofMember x1 (4 : Int32) Z) fun r_17 =>
        if x2 < r_17 then (
          kj_3 (0 : Int32))
        else (
          kj_16)))
    else (
      kj_3 (2 : Int32)))
def fX10_transfer (x1 : Int32) (x2 : Int32) (x3 : Int32) (Z : sM) : Option (Int32 × sM) :=
  Option.bind (fX10_isMember x1 Z) fun r_1 =>
  ltb (α := Int32 → Option (Int32 × sM)) (fun (v_2 : Int32) =>
    ltb (wI Z 10 6 0 0 v_2) fun Z_4 =>
    if (Z_4.1 10 6 0 0) ≤ 0 then (
      Option.bind (fX10_ofMember x2 (4 : Int32) Z_4) fun r_5 =>
      ltb ((r_5.toInt64) + (x3.toInt64)) fun x4_6 =>
      Option.bind (fX10_isActive x1 Z_4) fun r_7 =>
      ltb (α := Int32 → Option (Int32 × sM)) (fun (v_8 : Int32) =>
        ltb (wI Z_4 10 6 0 0 v_8) fun Z_10 =>
        if (Z_10.1 10 6 0 0) ≤ 0 then (
          Option.bind (fX10_keeps Z_10) fun Z_11 =>
          Option.bind (fX10_ofMember x1 (4 : Int32) Z_11) fun r_12 =>
          Option.bind (fX10_setMember x1 (4 : Int32) (r_12 - x3) Z_11) fun Z_13 =>
          Option.bind (fX10_setMember x2 (4 : Int32) (x4_6.toInt32) Z_13) fun Z_14 =>
          some (x4_6.toInt32, Z_14))
        else (
          some ((0 : Int32), Z_10))) fun kj_9 =>
      ltb (α := Option (Int32 × sM)) (
        kj_9 (3 : Int32)) fun kj_19 =>
      if r_7 = 0 then (
        kj_19)
      else (
        Option.bind (fX10_isActive x2 Z_4) fun r_20 =>
        if r_20 = 0 then (
          kj_19)
        else (
          Option.bind (fX10_ofMember x1 (4 : Int32) Z_4) fun r_21 =>
          if r_21 ≤ x3 then (
            kj_19)
          else (
            Option.bind (fX10_mostShares Z_4) fun r_22 =>
            if x4_6 ≤ (r_22.toInt64) then (
              kj_9 (0 : Int32))
            else (
              kj_19)))))
    else (
      some ((0 : Int32), Z_4))) fun kj_3 =>
  ltb (α := Option (Int32 × sM)) (
    kj_3 (1 : Int32)) fun kj_28 =>
  if r_1 = 0 then (
    kj_28)
  else (
    Option.bind (fX10_isMember x2 Z) fun r_29 =>
    if r_29 = 0 then (
      kj_28)
    else (
      ltb (α := Option (Int32 × sM)) (
        kj_3 (2 : Int32)) fun kj_30 =>
      if x1 = x2 then (
        kj_30)
      else (
        if (1 : Int32) ≤ x3 then (
          kj_3 (0 : Int32))
        else (
          kj_30))))
def fX10_comesTo_L5 (x2 : Int32) (Z : sM) (k35 : Int32 → Option (Int32)) : Nat → Int32 → Int32 → Option (Int32)
  | 0, _, _ => none
  | n + 1, x3, x4 =>
    if (16 : Int32) ≤ x4 then (
      k35 x3)
    else (
      if x3 = x2 then (
        k35 x3)
      else (
        if x3 = (-1 : Int32) then (
          k35 x3)
        else (
          Option.bind (fX10_ofMember x3 (5 : Int32) Z) fun r_1 =>
          ltb (x4 + (1 : Int32)) fun x4_2 =>
          fX10_comesTo_L5 x2 Z k35 n r_1 x4_2)))
def fX10_comesTo (x1 : Int32) (x2 : Int32) (Z : sM) : Option (Int32) :=
  fX10_comesTo_L5 x2 Z (fun (x3_1 : Int32) =>
    if x3_1 = x2 then (
      some (1 : Int32))
    else (
      some (0 : Int32))) 10000 x1 (0 : Int32)
def fX10_assign (x1 : Int32) (x2 : Int32) (x3 : Int32) (Z : sM) : Option (sM) :=
  Option.bind (fX10_isMember x1 Z) fun r_1 =>
  ltb (α := Int32 → Option (sM)) (fun (v_2 : Int32) =>
    ltb (wI Z 10 6 0 0 v_2) fun Z_4 =>
    if (Z_4.1 10 6 0 0) ≤ 0 then (
      ltb (α := sM → Option (sM)) (fun (Z_5 : sM) =>
        if (Z_5.1 10 6 0 0) ≤ 0 then (
          Option.bind (fX10_keeps Z_5) fun Z_7 =>
          if x3 ≤ 0 then (
            Option.bind (fX10_setMember x1 (5 : Int32) (-1 : Int32) Z_7) fun Z_8 =>
            Option.bind (fX10_setMember x1 (6 : Int32) x3 Z_8) fun Z_9 =>
            some Z_9)
          else (
            Option.bind (fX10_setMember x1 (5 : Int32) x2 Z_7) fun Z_12 =>
            Option.bind (fX10_setMember x1 (6 : Int32) x3 Z_12) fun Z_13 =>
            some Z_13))
        else (
          some Z_5)) fun kj_6 =>
      ltb (α := Option (sM)) (
        ltb (wI Z_4 10 6 0 0 (2 : Int32)) fun Z_18 =>
        kj_6 Z_18) fun kj_17 =>
      if x1 = x2 then (
        kj_17)
      else (
        Option.bind (fX10_isIn (x3.toInt64) (0 : Int64) (100 : Int64) Z_4) fun r_19 =>
        if r_19 = 0 then (
          kj_17)
        else (
          ltb (α := Option (sM)) (
            Option.bind (fX10_isActive x1 Z_4) fun r_21 =>
            ltb (α := Option (sM)) (
              ltb (wI Z_4 10 6 0 0 (3 : Int32)) fun Z_23 =>
              kj_6 Z_23) fun kj_22 =>
            if r_21 = 0 then (
              kj_22)
            else (
              Option.bind (fX10_isActive x2 Z_4) fun r_24 =>
              if r_24 = 0 then (
                kj_22)
              else (
                kj_6 Z_4))) fun kj_20 =>
          if x3 ≤ 0 then (
            kj_20)
          else (
            Option.bind (fX10_comesTo x2 x1 Z_4) fun r_27 =>
            if r_27 = 0 then (
              kj_20)
            else (
              kj_17)))))
    else (
      some Z_4)) fun kj_3 =>
  ltb (α := Option (sM)) (
    kj_3 (1 : Int32)) fun kj_30 =>
  if r_1 = 0 then (
    kj_30)
  else (
    Option.bind (fX10_isMember x2 Z) fun r_31 =>
    if r_31 = 0 then (
      kj_30)
    else (
      kj_3 (0 : Int32)))
def fX10_accountAt (x1 : Int32) (x2 : Int32) (Z : sM) : Option (Int32) :=
  some (((2 : Int32) + ((6 : Int32) * x1)) + x2)
def fX10_lotAt (x1 : Int32) (x2 : Int32) (Z : sM) : Option (Int32) :=
  some (((98 : Int32) + ((60 : Int32) * x1)) + x2)
def fX10_balanceOf_L5 (x1 : Int32) (Z : sM) (k33 : Int64 → Option (Int64)) : Nat → Int64 → Int32 → Option (Int64)
  | 0, _, _ => none
  | n + 1, x2, x4 =>
    if (60 : Int32) ≤ x4 then (
      k33 x2)
    else (
      Option.bind (fX10_lotAt x1 x4 Z) fun r_1 =>
      gd (inb r_1 1058) (
        ltb (x2 + (Z.2 30 0 0 r_1.toNatClampNeg)) fun x2_3 =>
        ltb (x4 + (1 : Int32)) fun x4_4 =>
        fX10_balanceOf_L5 x1 Z k33 n x2_3 x4_4))
def fX10_balanceOf (x1 : Int32) (Z : sM) : Option (Int64) :=
  fX10_balanceOf_L5 x1 Z (fun (x2_1 : Int64) =>
    some x2_1) 10000 (0 : Int64) (0 : Int32)
def fX10_takesLots_L6 (x1 : Int32) (x4 : Int32) (k87 : Int64 → sM → Option (Int64 × sM)) : Nat → Int64 → Int32 → sM → Option (Int64 × sM)
  | 0, _, _, _ => none
  | n + 1, x5, x7, Z =>
    if (60 : Int32) ≤ x7 then (
      k87 x5 Z)
    else (
      ltb (α := Int32 → Option (Int64 × sM)) (fun (v_1 : Int32) =>
        Option.bind (fX10_lotAt x1 v_1 Z) fun r_3 =>
        gd (inb r_3 1058) (
          ltb (α := Int64 → Option (Int64 × sM)) (fun (v_5 : Int64) =>
            gd (inb r_3 1058) (
              gd (inb r_3 1058) (
                ltb (wL Z 30 0 0 r_3.toNatClampNeg ((Z.2 30 0 0 r_3.toNatClampNeg) - v_5)) fun Z_9 =>
                ltb (x5 - v_5) fun x5_10 =>
                ltb (x7 + (1 : Int32)) fun x7_11 =>
                fX10_takesLots_L6 x1 x4 k87 n x5_10 x7_11 Z_9))) fun kj_6 =>
          if x5 ≤ (Z.2 30 0 0 r_3.toNatClampNeg) then (
            kj_6 x5)
          else (
            gd (inb r_3 1058) (
              kj_6 (Z.2 30 0 0 r_3.toNatClampNeg))))) fun kj_2 =>
      if x4 = 0 then (
        kj_2 x7)
      else (
        kj_2 ((59 : Int32) - x7)))
def fX10_takesLots (x1 : Int32) (x2 : Int64) (x4 : Int32) (Z : sM) : Option (Int64 × sM) :=
  fX10_takesLots_L6 x1 x4 (fun (x5_1 : Int64) (Z_2 : sM) =>
    some (x5_1, Z_2)) 10000 x2 (0 : Int32) Z
def fX10_credits (x1 : Int32) (x2 : Int64) (Z : sM) : Option (sM) :=
  Option.bind (fX10_accountAt x1 (0 : Int32) Z) fun r_1 =>
  gd (inb r_1 1058) (
    ltb (α := Int64 → Option (sM)) (fun (v_3 : Int64) =>
      gd (inb r_1 1058) (
        gd (inb r_1 1058) (
          ltb (wL Z 30 0 0 r_1.toNatClampNeg ((Z.2 30 0 0 r_1.toNatClampNeg) - v_3)) fun Z_7 =>
          Option.bind (fX10_lotAt x1 (Z_7.1 27 0 0 (5 : Int32).toNatClampNeg) Z_7) fun r_9 =>
          gd (inb r_9 1058) (
            gd (inb r_9 1058) (
              ltb (wL Z_7 30 0 0 r_9.toNatClampNeg ((Z_7.2 30 0 0 r_9.toNatClampNeg) + (x2 - v_3))) fun Z_12 =>
              some Z_12))))) fun kj_4 =>
    if x2 ≤ (Z.2 30 0 0 r_1.toNatClampNeg) then (
      kj_4 x2)
    else (
      gd (inb r_1 1058) (
        kj_4 (Z.2 30 0 0 r_1.toNatClampNeg))))
def fX10_leave_L138 (x1 : Int32) (x5 : Int64) (k164 : sM → Option (Int64 × sM)) : Nat → Int32 → sM → Option (Int64 × sM)
  | 0, _, _ => none
  | n + 1, x7, Z =>
    if (60 : Int32) ≤ x7 then (
      k164 Z)
    else (
      Option.bind (fX10_lotAt x1 x7 Z) fun r_1 =>
      gd (inb r_1 1058) (
        ltb (wL Z 30 0 0 r_1.toNatClampNeg (0 : Int64)) fun Z_3 =>
        ltb (x7 + (1 : Int32)) fun x7_4 =>
        fX10_leave_L138 x1 x5 k164 n x7_4 Z_3))
def fX10_leave_L231 (x1 : Int32) (x5 : Int64) (k268 : sM → Option (Int64 × sM)) : Nat → Int32 → sM → Option (Int64 × sM)
  | 0, _, _ => none
  | n + 1, x7, Z =>
    if (Z.1 27 0 0 (7 : Int32).toNatClampNeg) ≤ x7 then (
      k268 Z)
    else (
      Option.bind (fX10_ofMember x7 (5 : Int32) Z) fun r_2 =>
      ltb (α := sM → Option (Int64 × sM)) (fun (Z_3 : sM) =>
        ltb (x7 + (1 : Int32)) fun x7_5 =>
        fX10_leave_L231 x1 x5 k268 n x7_5 Z_3) fun kj_4 =>
      if r_2 = x1 then (
        Option.bind (fX10_setMember x7 (5 : Int32) (-1 : Int32) Z) fun Z_6 =>
        kj_4 Z_6)
      else (
        kj_4 Z))
def fX10_leave (x1 : Int32) (Z : sM) : Option (Int64 × sM) :=
  Option.bind (fX10_isMember x1 Z) fun r_1 =>
  ltb (α := Int32 → Option (Int64 × sM)) (fun (v_2 : Int32) =>
    ltb (wI Z 10 6 0 0 v_2) fun Z_4 =>
    if (Z_4.1 10 6 0 0) ≤ 0 then (
      Option.bind (fX10_keeps Z_4) fun Z_5 =>
      Option.bind (fX10_isActive x1 Z_5) fun r_6 =>
      Option.bind (fX10_setMember x1 (3 : Int32) (2 : Int32) Z_5) fun Z_7 =>
      if r_6 = 0 then (
        some ((0 : Int64), Z_7))
      else (
        Option.bind (fX10_accountAt x1 (0 : Int32) Z_7) fun r_9 =>
        gd (inb r_9 1058) (
          bd2 (fX10_takesLots x1 (Z_7.2 30 0 0 r_9.toNatClampNeg) (0 : Int32) Z_7) fun r_12 Z_11 =>
          ltb (wL Z_11 30 0 0 (0 : Int32).toNatClampNeg ((Z_7.2 30 0 0 (0 : Int32).toNatClampNeg) - r_12)) fun Z_14 =>
          Option.bind (fX10_accountAt x1 (0 : Int32) Z_14) fun r_15 =>
          gd (inb r_15 1058) (
            ltb (wL Z_14 30 0 0 r_15.toNatClampNeg (0 : Int64)) fun Z_17 =>
            Option.bind (fX10_balanceOf x1 Z_17) fun r_18 =>
            ltb ((r_18 * ((Z_17.1 27 0 0 (2 : Int32).toNatClampNeg).toInt64)) / (100 : Int64)) fun x5_20 =>
            ltb (wL Z_17 30 0 0 (0 : Int32).toNatClampNeg ((Z_17.2 30 0 0 (0 : Int32).toNatClampNeg) + (r_18 - x5_20))) fun Z_23 =>
            fX10_leave_L138 x1 x5_20 (fun (Z_24 : sM) =>
              Option.bind (fX10_accountAt x1 (3 : Int32) Z_24) fun r_25 =>
              gd (inb r_25 1058) (
                ltb (wL Z_24 30 0 0 r_25.toNatClampNeg x5_20) fun Z_27 =>
                Option.bind (fX10_accountAt x1 (2 : Int32) Z_27) fun r_28 =>
                gd (inb r_28 1058) (
                  Option.bind (fX10_accountAt x1 (1 : Int32) Z_27) fun r_30 =>
                  gd (inb r_30 1058) (
                    gd (inb r_28 1058) (
                      ltb (wL Z_27 30 0 0 r_28.toNatClampNeg ((Z_27.2 30 0 0 r_28.toNatClampNeg) + (Z_27.2 30 0 0 r_30.toNatClampNeg))) fun Z_33 =>
                      Option.bind (fX10_accountAt x1 (1 : Int32) Z_33) fun r_34 =>
                      gd (inb r_34 1058) (
                        ltb (wL Z_33 30 0 0 r_34.toNatClampNeg (0 : Int64)) fun Z_36 =>
                        Option.bind (fX10_setMember x1 (4 : Int32) (0 : Int32) Z_36) fun Z_37 =>
                        Option.bind (fX10_setMember x1 (5 : Int32) (-1 : Int32) Z_37) fun Z_38 =>
                        fX10_leave_L231 x1 x5_20 (fun (Z_39 : sM) =>
                          Option.bind (fX10_goesThrough Z_39) fun Z_40 =>
                          some (x5_20, Z_40)) 10000 (0 : Int32) Z_38)))))) 10000 (0 : Int32) Z_23))))
    else (
      some ((0 : Int64), Z_4))) fun kj_3 =>
  if r_1 = 0 then (
    kj_3 (1 : Int32))
  else (
    Option.bind (fX10_ofMember x1 (3 : Int32) Z) fun r_55 =>
    if r_55 = (2 : Int32) then (
      kj_3 (2 : Int32))
    else (
      kj_3 (0 : Int32)))
def fX10_subscriberCount (Z : sM) : Option (Int32 × sM) :=
  ltb (wI Z 10 6 0 0 (0 : Int32)) fun Z_1 =>
  some (Z_1.1 27 0 0 (7 : Int32).toNatClampNeg, Z_1)
def fX10_lacks (x1 : Int32) (Z : sM) : Option (Int32 × sM) :=
  Option.bind (fX10_isMember x1 Z) fun r_1 =>
  if r_1 = 0 then (
    ltb (wI Z 10 6 0 0 (1 : Int32)) fun Z_2 =>
    if (Z_2.1 10 6 0 0) ≤ 0 then (
      some ((0 : Int32), Z_2))
    else (
      some ((1 : Int32), Z_2)))
  else (
    ltb (wI Z 10 6 0 0 (0 : Int32)) fun Z_3 =>
    if (Z_3.1 10 6 0 0) ≤ 0 then (
      some ((0 : Int32), Z_3))
    else (
      some ((1 : Int32), Z_3)))
def fX10_state (x1 : Int32) (Z : sM) : Option (Int32 × sM) :=
  bd2 (fX10_lacks x1 Z) fun r_2 Z_1 =>
  if r_2 = 0 then (
    Option.bind (fX10_ofMember x1 (3 : Int32) Z_1) fun r_3 =>
    some (r_3, Z_1))
  else (
    some ((0 : Int32), Z_1))
def fX10_shares (x1 : Int32) (Z : sM) : Option (Int32 × sM) :=
  bd2 (fX10_lacks x1 Z) fun r_2 Z_1 =>
  if r_2 = 0 then (
    Option.bind (fX10_ofMember x1 (4 : Int32) Z_1) fun r_3 =>
    some (r_3, Z_1))
  else (
    some ((0 : Int32), Z_1))
def fX10_freeShares (Z : sM) : Option (Int32 × sM) :=
  ltb (wI Z 10 6 0 0 (0 : Int32)) fun Z_1 =>
  Option.bind (fX10_free Z_1) fun r_2 =>
  some (r_2, Z_1)
def fX10_waitingPlace (x1 : Int32) (Z : sM) : Option (Int32 × sM) :=
  bd2 (fX10_lacks x1 Z) fun r_2 Z_1 =>
  if r_2 = 0 then (
    Option.bind (fX10_ofMember x1 (3 : Int32) Z_1) fun r_3 =>
    if r_3 = 0 then (
      Option.bind (fX10_placeOf x1 Z_1) fun r_4 =>
      some (r_4, Z_1))
    else (
      some ((-1 : Int32), Z_1)))
  else (
    some ((0 : Int32), Z_1))
def fX10_daysAt (x1 : Int32) (x2 : Int32) (Z : sM) : Option (Int32) :=
  some (((148 : Int32) + ((16 : Int32) * x1)) + x2)
def fX10_passDays_L65 (x1 : Int32) (k109 : sM → Option (Int32 × sM)) : Nat → Int32 → sM → Option (Int32 × sM)
  | 0, _, _ => none
  | n + 1, x2, Z =>
    if (Z.1 27 0 0 (7 : Int32).toNatClampNeg) ≤ x2 then (
      k109 Z)
    else (
      Option.bind (fX10_daysAt (Z.1 27 0 0 (5 : Int32).toNatClampNeg) x2 Z) fun r_3 =>
      gd (inb r_3 1588) (
        Option.bind (fX10_ofMember x2 (4 : Int32) Z) fun r_5 =>
        gd (inb r_3 1588) (
          ltb (wI Z 27 0 0 r_3.toNatClampNeg ((Z.1 27 0 0 r_3.toNatClampNeg) + (x1 * r_5))) fun Z_7 =>
          ltb (x2 + (1 : Int32)) fun x2_8 =>
          fX10_passDays_L65 x1 k109 n x2_8 Z_7)))
def fX10_passDays (x1 : Int32) (Z : sM) : Option (Int32 × sM) :=
  Option.bind (fX10_isIn (x1.toInt64) (1 : Int64) (30 : Int64) Z) fun r_1 =>
  ltb (α := Int32 → Option (Int32 × sM)) (fun (v_2 : Int32) =>
    ltb (wI Z 10 6 0 0 v_2) fun Z_4 =>
    if (Z_4.1 10 6 0 0) ≤ 0 then (
      Option.bind (fX10_keeps Z_4) fun Z_5 =>
      ltb (wI Z_5 27 0 0 (6 : Int32).toNatClampNeg ((Z_5.1 27 0 0 (6 : Int32).toNatClampNeg) + x1)) fun Z_8 =>
      fX10_passDays_L65 x1 (fun (Z_9 : sM) =>
        some (Z_9.1 27 0 0 (6 : Int32).toNatClampNeg, Z_9)) 10000 (0 : Int32) Z_8)
    else (
      some ((0 : Int32), Z_4))) fun kj_3 =>
  if r_1 = 0 then (
    kj_3 (1 : Int32))
  else (
    if ((Z.1 27 0 0 (6 : Int32).toNatClampNeg) + x1) ≤ (30 : Int32) then (
      kj_3 (0 : Int32))
    else (
      kj_3 (2 : Int32)))
def fX10_generatedAt (x1 : Int32) (x2 : Int32) (Z : sM) : Option (Int32) :=
  some (((1108 : Int32) + ((4 : Int32) * x1)) + x2)
def fX10_generate (x1 : Int32) (x2 : Int32) (Z : sM) : Option (Int32 × sM) :=
  Option.bind (fX10_isIn (x1.toInt64) (0 : Int64) (23 : Int64) Z) fun r_1 =>
  ltb (α := Int32 → Option (Int32 × sM)) (fun (v_2 : Int32) =>
    ltb (wI Z 10 6 0 0 v_2) fun Z_4 =>
    if (Z_4.1 10 6 0 0) ≤ 0 then (
      gd (inb ((8 : Int32) + x1) 1588) (
        Option.bind (fX10_generatedAt (Z_4.1 27 0 0 (5 : Int32).toNatClampNeg) (Z_4.1 27 0 0 ((8 : Int32) + x1).toNatClampNeg) Z_4) fun r_7 =>
        gd (inb r_7 1588) (
          ltb (α := Int32 → Option (Int32 × sM)) (fun (v_9 : Int32) =>
            ltb (wI Z_4 10 6 0 0 v_9) fun Z_11 =>
            if (Z_11.1 10 6 0 0) ≤ 0 then (
              Option.bind (fX10_keeps Z_11) fun Z_12 =>
              gd (inb r_7 1588) (
                gd (inb r_7 1588) (
                  ltb (wI Z_12 27 0 0 r_7.toNatClampNeg ((Z_12.1 27 0 0 r_7.toNatClampNeg) + x2)) fun Z_15 =>
                  gd (inb r_7 1588) (
                    some (Z_15.1 27 0 0 r_7.toNatClampNeg, Z_15)))))
            else (
              some ((0 : Int32), Z_11))) fun kj_10 =>
          if (((Z_4.1 27 0 0 r_7.toNatClampNeg).toInt64) + (x2.toInt64)) ≤ (1000000000 : Int64) then (
            kj_10 (0 : Int32))
          else (
            kj_10 (3 : Int32)))))
    else (
      some ((0 : Int32), Z_4))) fun kj_3 =>
  if r_1 = 0 then (
    kj_3 (1 : Int32))
  else (
    Option.bind (fX10_isIn (x2.toInt64) (1 : Int64) (1000000000 : Int64) Z) fun r_19 =>
    if r_19 = 0 then (
      kj_3 (2 : Int32))
    else (
      kj_3 (0 : Int32)))
def fX10_bill (x1 : Int32) (x2 : Int32) (Z : sM) : Option (Int64 × sM) :=
  Option.bind (fX10_isMember x1 Z) fun r_1 =>
  ltb (α := Int32 → Option (Int64 × sM)) (fun (v_2 : Int32) =>
    ltb (wI Z 10 6 0 0 v_2) fun Z_4 =>
    if (Z_4.1 10 6 0 0) ≤ 0 then (
      Option.bind (fX10_accountAt x1 (1 : Int32) Z_4) fun r_5 =>
      Option.bind (fX10_isActive x1 Z_4) fun r_6 =>
      ltb (α := Int32 → Option (Int64 × sM)) (fun (v_7 : Int32) =>
        ltb (wI Z_4 10 6 0 0 v_7) fun Z_9 =>
        if (Z_9.1 10 6 0 0) ≤ 0 then (
          Option.bind (fX10_keeps Z_9) fun Z_10 =>
          gd (inb r_5 1058) (
            gd (inb r_5 1058) (
              ltb (wL Z_10 30 0 0 r_5.toNatClampNeg ((Z_10.2 30 0 0 r_5.toNatClampNeg) + (x2.toInt64))) fun Z_13 =>
              gd (inb r_5 1058) (
                some (Z_13.2 30 0 0 r_5.toNatClampNeg, Z_13)))))
        else (
          some ((0 : Int64), Z_9))) fun kj_8 =>
      ltb (α := Option (Int64 × sM)) (
        kj_8 (3 : Int32)) fun kj_16 =>
      if r_6 = 0 then (
        kj_16)
      else (
        gd (inb r_5 1058) (
          if ((Z_4.2 30 0 0 r_5.toNatClampNeg) + (x2.toInt64)) ≤ (10000000000 : Int64) then (
            kj_8 (0 : Int32))
          else (
            kj_16))))
    else (
      some ((0 : Int64), Z_4))) fun kj_3 =>
  if r_1 = 0 then (
    kj_3 (1 : Int32))
  else (
    Option.bind (fX10_isIn (x2.toInt64) (1 : Int64) (1000000000 : Int64) Z) fun r_20 =>
    if r_20 = 0 then (
      kj_3 (2 : Int32))
    else (
      kj_3 (0 : Int32)))
def fX10_divides_L6 (x1 : Int64) (x3 : Int32) (x4 : Int64) (k76 : Int64 → sM → Option (sM)) : Nat → Int64 → Int32 → sM → Option (sM)
  | 0, _, _, _ => none
  | n + 1, x6, x8, Z =>
    if x3 ≤ x8 then (
      k76 x6 Z)
    else (
      gd (inb x8 17) (
        gd (nzL x4) (
          gd (inb x8 17) (
            ltb (wL Z 34 0 0 x8.toNatClampNeg ((x1 * (Z.2 33 0 0 x8.toNatClampNeg)) / x4)) fun Z_4 =>
            gd (inb x8 17) (
              gd (nzL x4) (
                gd (inb x8 17) (
                  ltb (wL Z_4 35 0 0 x8.toNatClampNeg ((x1 * (Z_4.2 33 0 0 x8.toNatClampNeg)) - (x1 * (Z_4.2 33 0 0 x8.toNatClampNeg)) / x4 * x4)) fun Z_8 =>
                  gd (inb x8 17) (
                    ltb (wI Z_8 36 0 0 x8.toNatClampNeg (0 : Int32)) fun Z_10 =>
                    gd (inb x8 17) (
                      ltb (x6 - (Z_10.2 34 0 0 x8.toNatClampNeg)) fun x6_12 =>
                      ltb (x8 + (1 : Int32)) fun x8_13 =>
                      fX10_divides_L6 x1 x3 x4 k76 n x6_12 x8_13 Z_10)))))))))
def fX10_divides_L89 (x3 : Int32) (x6 : Int64) (Z : sM) (k139 : Int32 → Option (sM)) : Nat → Int32 → Int32 → Option (sM)
  | 0, _, _ => none
  | n + 1, x8, x9 =>
    if x3 ≤ x9 then (
      k139 x8)
    else (
      gd (inb x9 17) (
        ltb (α := Int32 → Option (sM)) (fun (x8_2 : Int32) =>
          ltb (x9 + (1 : Int32)) fun x9_4 =>
          fX10_divides_L89 x3 x6 Z k139 n x8_2 x9_4) fun kj_3 =>
        if (Z.1 36 0 0 x9.toNatClampNeg) = 0 then (
          ltb (α := Option (sM)) (
            kj_3 x9) fun kj_5 =>
          if x8 = (-1 : Int32) then (
            kj_5)
          else (
            gd (inb x9 17) (
              gd (inb x8 17) (
                if (Z.2 35 0 0 x9.toNatClampNeg) ≤ (Z.2 35 0 0 x8.toNatClampNeg) then (
                  kj_3 x8)
                else (
                  kj_5)))))
        else (
          kj_3 x8)))
def fX10_divides_L76 (x3 : Int32) (k167 : sM → Option (sM)) : Nat → Int64 → sM → Option (sM)
  | 0, _, _ => none
  | n + 1, x6, Z =>
    if x6 ≤ (0 : Int64) then (
      k167 Z)
    else (
      fX10_divides_L89 x3 x6 Z (fun (x8_1 : Int32) =>
        gd (inb x8_1 17) (
          gd (inb x8_1 17) (
            ltb (wL Z 34 0 0 x8_1.toNatClampNeg ((Z.2 34 0 0 x8_1.toNatClampNeg) + (1 : Int64))) fun Z_4 =>
            gd (inb x8_1 17) (
              ltb (wI Z_4 36 0 0 x8_1.toNatClampNeg (1 : Int32)) fun Z_6 =>
              ltb (x6 - (1 : Int64)) fun x6_7 =>
              fX10_divides_L76 x3 k167 n x6_7 Z_6)))) 10000 (-1 : Int32) (0 : Int32))
def fX10_divides (x1 : Int64) (x3 : Int32) (x4 : Int64) (Z : sM) : Option (sM) :=
  fX10_divides_L6 x1 x3 x4 (fun (x6_1 : Int64) (Z_2 : sM) =>
    fX10_divides_L76 x3 (fun (Z_3 : sM) =>
      some Z_3) 10000 x6_1 Z_2) 10000 x1 (0 : Int32) Z
def fX10_dividesMonth_L16 (x1 : Int64) (x3 : Int32) (x4 : Int32) (k79 : Int64 → sM → Option (sM)) : Nat → Int64 → Int32 → sM → Option (sM)
  | 0, _, _, _ => none
  | n + 1, x5, x7, Z =>
    if (Z.1 27 0 0 (7 : Int32).toNatClampNeg) ≤ x7 then (
      k79 x5 Z)
    else (
      Option.bind (fX10_daysAt x3 x7 Z) fun r_2 =>
      gd (inb r_2 1588) (
        Option.bind (fX10_ofMember x7 (4 : Int32) Z) fun r_4 =>
        gd (inb x7 17) (
          ltb (wL Z 33 0 0 x7.toNatClampNeg (((Z.1 27 0 0 r_2.toNatClampNeg).toInt64) + ((x4.toInt64) * (r_4.toInt64)))) fun Z_6 =>
          gd (inb x7 17) (
            ltb (x5 - (Z_6.2 33 0 0 x7.toNatClampNeg)) fun x5_8 =>
            ltb (x7 + (1 : Int32)) fun x7_9 =>
            fX10_dividesMonth_L16 x1 x3 x4 k79 n x5_8 x7_9 Z_6))))
def fX10_dividesMonth (x1 : Int64) (x3 : Int32) (x4 : Int32) (Z : sM) : Option (sM) :=
  ltb ((30 : Int64) * ((Z.1 27 0 0 (0 : Int32).toNatClampNeg).toInt64)) fun x5_2 =>
  fX10_dividesMonth_L16 x1 x3 x4 (fun (x5_3 : Int64) (Z_4 : sM) =>
    gd (inb (Z_4.1 27 0 0 (7 : Int32).toNatClampNeg) 17) (
      ltb (wL Z_4 33 0 0 (Z_4.1 27 0 0 (7 : Int32).toNatClampNeg).toNatClampNeg x5_3) fun Z_7 =>
      Option.bind (fX10_divides x1 ((Z_7.1 27 0 0 (7 : Int32).toNatClampNeg) + (1 : Int32)) ((30 : Int64) * ((Z_7.1 27 0 0 (0 : Int32).toNatClampNeg).toInt64)) Z_7) fun Z_10 =>
      some Z_10)) 10000 x5_2 (0 : Int32) Z
def fX10_worthOf_L5 (x1 : Int32) (Z : sM) (k50 : Int64 → Option (Int64)) : Nat → Int64 → Int32 → Option (Int64)
  | 0, _, _ => none
  | n + 1, x2, x4 =>
    if (Z.1 27 0 0 (4 : Int32).toNatClampNeg) ≤ x4 then (
      k50 x2)
    else (
      Option.bind (fX10_generatedAt x1 x4 Z) fun r_2 =>
      gd (inb r_2 1588) (
        gd (inb ((32 : Int32) + x4) 1588) (
          ltb (x2 + (((Z.1 27 0 0 r_2.toNatClampNeg).toInt64) * ((Z.1 27 0 0 ((32 : Int32) + x4).toNatClampNeg).toInt64))) fun x2_5 =>
          ltb (x4 + (1 : Int32)) fun x4_6 =>
          fX10_worthOf_L5 x1 Z k50 n x2_5 x4_6)))
def fX10_worthOf (x1 : Int32) (Z : sM) : Option (Int64) :=
  fX10_worthOf_L5 x1 Z (fun (x2_1 : Int64) =>
    some x2_1) 10000 (0 : Int64) (0 : Int32)
def fX10_isNext_L13 (x1 : Int32) (Z : sM) (k43 : Option (Int32)) (k51 : Option (Int32)) : Nat → Int32 → Option (Int32)
  | 0, _ => none
  | n + 1, x2 =>
    if (Z.1 27 0 0 (7 : Int32).toNatClampNeg) ≤ x2 then (
      k51)
    else (
      Option.bind (fX10_ofMember x2 (5 : Int32) Z) fun r_2 =>
      ltb (α := Option (Int32)) (
        ltb (x2 + (1 : Int32)) fun x2_4 =>
        fX10_isNext_L13 x1 Z k43 k51 n x2_4) fun kj_3 =>
      if r_2 = x1 then (
        gd (inb x2 16) (
          if (Z.1 38 0 0 x2.toNatClampNeg) = 0 then (
            k43)
          else (
            kj_3)))
      else (
        kj_3))
def fX10_isNext (x1 : Int32) (Z : sM) : Option (Int32) :=
  gd (inb x1 16) (
    if (Z.1 38 0 0 x1.toNatClampNeg) = 0 then (
      fX10_isNext_L13 x1 Z (
        some (0 : Int32)) (
        some (1 : Int32)) 10000 (0 : Int32))
    else (
      some (0 : Int32)))
def fX10_passesOn_L2 (k26 : sM → Option (sM)) : Nat → Int32 → sM → Option (sM)
  | 0, _, _ => none
  | n + 1, x1, Z =>
    if (Z.1 27 0 0 (7 : Int32).toNatClampNeg) ≤ x1 then (
      k26 Z)
    else (
      gd (inb x1 16) (
        ltb (wI Z 38 0 0 x1.toNatClampNeg (0 : Int32)) fun Z_3 =>
        ltb (x1 + (1 : Int32)) fun x1_4 =>
        fX10_passesOn_L2 k26 n x1_4 Z_3))
def fX10_passesOn_L41 (x1 : Int32) (Z : sM) (k55 : Int32 → Option (sM)) : Nat → Int32 → Option (sM)
  | 0, _ => none
  | n + 1, x2 =>
    Option.bind (fX10_isNext x2 Z) fun r_1 =>
    if r_1 = 0 then (
      ltb (x2 + (1 : Int32)) fun x2_2 =>
      fX10_passesOn_L41 x1 Z k55 n x2_2)
    else (
      k55 x2)
def fX10_passesOn_L28 (k126 : sM → Option (sM)) : Nat → Int32 → sM → Option (sM)
  | 0, _, _ => none
  | n + 1, x1, Z =>
    if (Z.1 27 0 0 (7 : Int32).toNatClampNeg) ≤ x1 then (
      k126 Z)
    else (
      fX10_passesOn_L41 x1 Z (fun (x2_2 : Int32) =>
        gd (inb x2_2 16) (
          ltb (wI Z 38 0 0 x2_2.toNatClampNeg (1 : Int32)) fun Z_4 =>
          Option.bind (fX10_ofMember x2_2 (5 : Int32) Z_4) fun r_5 =>
          ltb (α := sM → Option (sM)) (fun (Z_6 : sM) =>
            ltb (x1 + (1 : Int32)) fun x1_8 =>
            fX10_passesOn_L28 k126 n x1_8 Z_6) fun kj_7 =>
          if r_5 = (-1 : Int32) then (
            kj_7 Z_4)
          else (
            gd (inb x2_2 16) (
              Option.bind (fX10_ofMember x2_2 (6 : Int32) Z_4) fun r_10 =>
              ltb (((Z_4.2 37 0 0 x2_2.toNatClampNeg) * (r_10.toInt64)) / (100 : Int64)) fun x4_11 =>
              gd (inb x2_2 16) (
                gd (inb x2_2 16) (
                  ltb (wL Z_4 37 0 0 x2_2.toNatClampNeg ((Z_4.2 37 0 0 x2_2.toNatClampNeg) - x4_11)) fun Z_14 =>
                  gd (inb r_5 16) (
                    gd (inb r_5 16) (
                      ltb (wL Z_14 37 0 0 r_5.toNatClampNeg ((Z_14.2 37 0 0 r_5.toNatClampNeg) + x4_11)) fun Z_17 =>
                      kj_7 Z_17)))))))) 10000 (0 : Int32))
def fX10_passesOn (Z : sM) : Option (sM) :=
  fX10_passesOn_L2 (fun (Z_1 : sM) =>
    fX10_passesOn_L28 (fun (Z_2 : sM) =>
      some Z_2) 10000 (0 : Int32) Z_1) 10000 (0 : Int32) Z
def fX10_ends (x1 : Int32) (Z : sM) : Option (sM) :=
  gd (inb x1 16) (
    Option.bind (fX10_credits x1 (Z.2 37 0 0 x1.toNatClampNeg) Z) fun Z_2 =>
    Option.bind (fX10_accountAt x1 (1 : Int32) Z_2) fun r_3 =>
    gd (inb r_3 1058) (
      bd2 (fX10_takesLots x1 (Z_2.2 30 0 0 r_3.toNatClampNeg) (0 : Int32) Z_2) fun r_6 Z_5 =>
      Option.bind (fX10_accountAt x1 (4 : Int32) Z_5) fun r_7 =>
      gd (inb r_7 1058) (
        gd (inb r_3 1058) (
          gd (inb r_7 1058) (
            ltb (wL Z_5 30 0 0 r_7.toNatClampNeg ((Z_5.2 30 0 0 r_7.toNatClampNeg) + ((Z_5.2 30 0 0 r_3.toNatClampNeg) - r_6))) fun Z_11 =>
            Option.bind (fX10_accountAt x1 (2 : Int32) Z_11) fun r_12 =>
            gd (inb r_12 1058) (
              gd (inb r_12 1058) (
                ltb (wL Z_11 30 0 0 r_12.toNatClampNeg ((Z_11.2 30 0 0 r_12.toNatClampNeg) + r_6)) fun Z_15 =>
                gd (inb r_3 1058) (
                  ltb (wL Z_15 30 0 0 r_3.toNatClampNeg (0 : Int64)) fun Z_17 =>
                  ltb ((Z_17.1 27 0 0 (5 : Int32).toNatClampNeg) - (Z_17.1 27 0 0 (1 : Int32).toNatClampNeg)) fun x5_20 =>
                  if 0 ≤ x5_20 then (
                    Option.bind (fX10_lotAt x1 x5_20 Z_17) fun r_22 =>
                    gd (inb r_22 1058) (
                      ltb (wL Z_17 30 0 0 (0 : Int32).toNatClampNeg ((Z_17.2 30 0 0 (0 : Int32).toNatClampNeg) + (Z_17.2 30 0 0 r_22.toNatClampNeg))) fun Z_25 =>
                      Option.bind (fX10_accountAt x1 (5 : Int32) Z_25) fun r_26 =>
                      gd (inb r_26 1058) (
                        Option.bind (fX10_lotAt x1 x5_20 Z_25) fun r_28 =>
                        gd (inb r_28 1058) (
                          gd (inb r_26 1058) (
                            ltb (wL Z_25 30 0 0 r_26.toNatClampNeg ((Z_25.2 30 0 0 r_26.toNatClampNeg) + (Z_25.2 30 0 0 r_28.toNatClampNeg))) fun Z_31 =>
                            Option.bind (fX10_lotAt x1 x5_20 Z_31) fun r_32 =>
                            gd (inb r_32 1058) (
                              ltb (wL Z_31 30 0 0 r_32.toNatClampNeg (0 : Int64)) fun Z_34 =>
                              some Z_34))))))
                  else (
                    some Z_17)))))))))
def fX10_endMonth_L91 (x1 : Int64) (k159 : sM → Option (Int64 × sM)) : Nat → Int32 → sM → Option (Int64 × sM)
  | 0, _, _ => none
  | n + 1, x3, Z =>
    if (Z.1 27 0 0 (7 : Int32).toNatClampNeg) ≤ x3 then (
      k159 Z)
    else (
      Option.bind (fX10_isActive x3 Z) fun r_2 =>
      ltb (α := Int64 → Option (Int64 × sM)) (fun (v_3 : Int64) =>
        gd (inb x3 16) (
          ltb (wL Z 37 0 0 x3.toNatClampNeg v_3) fun Z_6 =>
          Option.bind (fX10_isActive x3 Z_6) fun r_8 =>
          ltb (α := Int64 → Option (Int64 × sM)) (fun (v_9 : Int64) =>
            ltb (wL Z_6 30 0 0 (0 : Int32).toNatClampNeg ((Z_6.2 30 0 0 (0 : Int32).toNatClampNeg) + v_9)) fun Z_12 =>
            ltb (x3 + (1 : Int32)) fun x3_13 =>
            fX10_endMonth_L91 x1 k159 n x3_13 Z_12) fun kj_10 =>
          if r_8 = 0 then (
            gd (inb x3 17) (
              kj_10 (Z_6.2 34 0 0 x3.toNatClampNeg)))
          else (
            kj_10 (0 : Int64)))) fun kj_4 =>
      if r_2 = 0 then (
        kj_4 (0 : Int64))
      else (
        gd (inb x3 17) (
          kj_4 (Z.2 34 0 0 x3.toNatClampNeg))))
def fX10_endMonth_L165 (x1 : Int64) (k195 : sM → Option (Int64 × sM)) : Nat → Int32 → sM → Option (Int64 × sM)
  | 0, _, _ => none
  | n + 1, x3, Z =>
    if (Z.1 27 0 0 (7 : Int32).toNatClampNeg) ≤ x3 then (
      k195 Z)
    else (
      Option.bind (fX10_isActive x3 Z) fun r_2 =>
      ltb (α := sM → Option (Int64 × sM)) (fun (Z_3 : sM) =>
        ltb (x3 + (1 : Int32)) fun x3_5 =>
        fX10_endMonth_L165 x1 k195 n x3_5 Z_3) fun kj_4 =>
      if r_2 = 0 then (
        kj_4 Z)
      else (
        Option.bind (fX10_ends x3 Z) fun Z_6 =>
        kj_4 Z_6))
def fX10_endMonth (Z : sM) : Option (Int64 × sM) :=
  ltb (α := Int32 → Option (Int64 × sM)) (fun (v_2 : Int32) =>
    ltb (wI Z 10 6 0 0 v_2) fun Z_4 =>
    if (Z_4.1 10 6 0 0) ≤ 0 then (
      Option.bind (fX10_keeps Z_4) fun Z_5 =>
      Option.bind (fX10_worthOf (Z_5.1 27 0 0 (5 : Int32).toNatClampNeg) Z_5) fun r_7 =>
      Option.bind (fX10_dividesMonth r_7 (Z_5.1 27 0 0 (5 : Int32).toNatClampNeg) (0 : Int32) Z_5) fun Z_9 =>
      gd (inb (Z_9.1 27 0 0 (7 : Int32).toNatClampNeg) 17) (
        ltb (wL Z_9 30 0 0 (1 : Int32).toNatClampNeg ((Z_9.2 30 0 0 (1 : Int32).toNatClampNeg) + (Z_9.2 34 0 0 (Z_9.1 27 0 0 (7 : Int32).toNatClampNeg).toNatClampNeg))) fun Z_14 =>
        fX10_endMonth_L91 r_7 (fun (Z_15 : sM) =>
          Option.bind (fX10_passesOn Z_15) fun Z_16 =>
          fX10_endMonth_L165 r_7 (fun (Z_17 : sM) =>
            ltb (wI Z_17 27 0 0 (5 : Int32).toNatClampNeg ((Z_17.1 27 0 0 (5 : Int32).toNatClampNeg) + (1 : Int32))) fun Z_20 =>
            ltb (wI Z_20 27 0 0 (6 : Int32).toNatClampNeg (0 : Int32)) fun Z_22 =>
            some (r_7, Z_22)) 10000 (0 : Int32) Z_16) 10000 (0 : Int32) Z_14))
    else (
      some ((0 : Int64), Z_4))) fun kj_3 =>
  ltb (α := Option (Int64 × sM)) (
    kj_3 (1 : Int32)) fun kj_27 =>
  if (Z.1 27 0 0 (6 : Int32).toNatClampNeg) < (30 : Int32) then (
    kj_27)
  else (
    if (Z.1 27 0 0 (5 : Int32).toNatClampNeg) = (59 : Int32) then (
      kj_27)
    else (
      kj_3 (0 : Int32)))
def fX10_month (Z : sM) : Option (Int32 × sM) :=
  ltb (wI Z 10 6 0 0 (0 : Int32)) fun Z_1 =>
  some (Z_1.1 27 0 0 (5 : Int32).toNatClampNeg, Z_1)
def fX10_isMonth (x1 : Int32) (Z : sM) : Option (Int32) :=
  Option.bind (fX10_isIn (x1.toInt64) (0 : Int64) ((Z.1 27 0 0 (5 : Int32).toNatClampNeg).toInt64) Z) fun r_2 =>
  gd (isZ r_2) (some r_2)
def fX10_generation (x1 : Int32) (x2 : Int32) (Z : sM) : Option (Int32 × sM) :=
  Option.bind (fX10_isMonth x1 Z) fun r_1 =>
  ltb (α := Option (Int32 × sM)) (
    ltb (wI Z 10 6 0 0 (1 : Int32)) fun Z_3 =>
    if (Z_3.1 10 6 0 0) ≤ 0 then (
      Option.bind (fX10_generatedAt x1 x2 Z_3) fun r_4 =>
      gd (inb r_4 1588) (
        some (Z_3.1 27 0 0 r_4.toNatClampNeg, Z_3)))
    else (
      some ((0 : Int32), Z_3))) fun kj_2 =>
  if r_1 = 0 then (
    kj_2)
  else (
    Option.bind (fX10_isIn (x2.toInt64) (0 : Int64) (((Z.1 27 0 0 (4 : Int32).toNatClampNeg) - (1 : Int32)).toInt64) Z) fun r_8 =>
    if r_8 = 0 then (
      kj_2)
    else (
      ltb (wI Z 10 6 0 0 (0 : Int32)) fun Z_9 =>
      if (Z_9.1 10 6 0 0) ≤ 0 then (
        Option.bind (fX10_generatedAt x1 x2 Z_9) fun r_10 =>
        gd (inb r_10 1588) (
          some (Z_9.1 27 0 0 r_10.toNatClampNeg, Z_9)))
      else (
        some ((0 : Int32), Z_9))))
def fX10_shareDays_L89 (x1 : Int32) (Z : sM) (k122 : Int32 → Option (Int32 × sM)) : Nat → Int32 → Int32 → Option (Int32 × sM)
  | 0, _, _ => none
  | n + 1, x3, x4 =>
    if (Z.1 27 0 0 (7 : Int32).toNatClampNeg) ≤ x4 then (
      k122 x3)
    else (
      Option.bind (fX10_daysAt x1 x4 Z) fun r_2 =>
      gd (inb r_2 1588) (
        ltb (x3 - (Z.1 27 0 0 r_2.toNatClampNeg)) fun x3_4 =>
        ltb (x4 + (1 : Int32)) fun x4_5 =>
        fX10_shareDays_L89 x1 Z k122 n x3_4 x4_5))
def fX10_shareDays (x1 : Int32) (x2 : Int32) (Z : sM) : Option (Int32 × sM) :=
  Option.bind (fX10_isMonth x1 Z) fun r_1 =>
  ltb (α := Int32 → Option (Int32 × sM)) (fun (v_2 : Int32) =>
    ltb (wI Z 10 6 0 0 v_2) fun Z_4 =>
    if (Z_4.1 10 6 0 0) ≤ 0 then (
      if x2 = (-1 : Int32) then (
        ltb (α := Int32 → Option (Int32 × sM)) (fun (v_7 : Int32) =>
          ltb ((Z_4.1 27 0 0 (0 : Int32).toNatClampNeg) * v_7) fun x3_9 =>
          fX10_shareDays_L89 x1 Z_4 (fun (x3_10 : Int32) =>
            some (x3_10, Z_4)) 10000 x3_9 (0 : Int32)) fun kj_8 =>
        if x1 = (Z_4.1 27 0 0 (5 : Int32).toNatClampNeg) then (
          kj_8 (Z_4.1 27 0 0 (6 : Int32).toNatClampNeg))
        else (
          kj_8 (30 : Int32)))
      else (
        Option.bind (fX10_daysAt x1 x2 Z_4) fun r_12 =>
        gd (inb r_12 1588) (
          some (Z_4.1 27 0 0 r_12.toNatClampNeg, Z_4))))
    else (
      some ((0 : Int32), Z_4))) fun kj_3 =>
  ltb (α := Option (Int32 × sM)) (
    kj_3 (1 : Int32)) fun kj_15 =>
  if r_1 = 0 then (
    kj_15)
  else (
    ltb (α := Option (Int32 × sM)) (
      kj_3 (0 : Int32)) fun kj_16 =>
    if x2 = (-1 : Int32) then (
      kj_16)
    else (
      Option.bind (fX10_isMember x2 Z) fun r_17 =>
      if r_17 = 0 then (
        kj_15)
      else (
        kj_16)))
def fX10_projectedPart (x1 : Int32) (Z : sM) : Option (Int64 × sM) :=
  ltb (α := Int32 → Option (Int64 × sM)) (fun (v_1 : Int32) =>
    ltb (wI Z 10 6 0 0 v_1) fun Z_3 =>
    if (Z_3.1 10 6 0 0) ≤ 0 then (
      Option.bind (fX10_worthOf (Z_3.1 27 0 0 (5 : Int32).toNatClampNeg) Z_3) fun r_5 =>
      Option.bind (fX10_dividesMonth r_5 (Z_3.1 27 0 0 (5 : Int32).toNatClampNeg) ((30 : Int32) - (Z_3.1 27 0 0 (6 : Int32).toNatClampNeg)) Z_3) fun Z_8 =>
      if x1 = (-1 : Int32) then (
        gd (inb (Z_8.1 27 0 0 (7 : Int32).toNatClampNeg) 17) (
          some (Z_8.2 34 0 0 (Z_8.1 27 0 0 (7 : Int32).toNatClampNeg).toNatClampNeg, Z_8)))
      else (
        gd (inb x1 17) (
          some (Z_8.2 34 0 0 x1.toNatClampNeg, Z_8))))
    else (
      some ((0 : Int64), Z_3))) fun kj_2 =>
  ltb (α := Option (Int64 × sM)) (
    kj_2 (0 : Int32)) fun kj_14 =>
  if x1 = (-1 : Int32) then (
    kj_14)
  else (
    Option.bind (fX10_isMember x1 Z) fun r_15 =>
    if r_15 = 0 then (
      kj_2 (1 : Int32))
    else (
      kj_14))
def fX10_projects_L32 (k73 : sM → Option (sM)) : Nat → Int32 → sM → Option (sM)
  | 0, _, _ => none
  | n + 1, x1, Z =>
    if (Z.1 27 0 0 (7 : Int32).toNatClampNeg) ≤ x1 then (
      k73 Z)
    else (
      Option.bind (fX10_isActive x1 Z) fun r_2 =>
      ltb (α := Int64 → Option (sM)) (fun (v_3 : Int64) =>
        gd (inb x1 16) (
          ltb (wL Z 37 0 0 x1.toNatClampNeg v_3) fun Z_6 =>
          ltb (x1 + (1 : Int32)) fun x1_7 =>
          fX10_projects_L32 k73 n x1_7 Z_6)) fun kj_4 =>
      if r_2 = 0 then (
        kj_4 (0 : Int64))
      else (
        gd (inb x1 17) (
          kj_4 (Z.2 34 0 0 x1.toNatClampNeg))))
def fX10_projects (Z : sM) : Option (sM) :=
  Option.bind (fX10_worthOf (Z.1 27 0 0 (5 : Int32).toNatClampNeg) Z) fun r_2 =>
  Option.bind (fX10_dividesMonth r_2 (Z.1 27 0 0 (5 : Int32).toNatClampNeg) ((30 : Int32) - (Z.1 27 0 0 (6 : Int32).toNatClampNeg)) Z) fun Z_5 =>
  fX10_projects_L32 (fun (Z_6 : sM) =>
    Option.bind (fX10_passesOn Z_6) fun Z_7 =>
    some Z_7) 10000 (0 : Int32) Z_5
def fX10_projectedCredit (x1 : Int32) (Z : sM) : Option (Int64 × sM) :=
  bd2 (fX10_lacks x1 Z) fun r_2 Z_1 =>
  if r_2 = 0 then (
    Option.bind (fX10_isActive x1 Z_1) fun r_3 =>
    if r_3 = 0 then (
      some ((0 : Int64), Z_1))
    else (
      Option.bind (fX10_projects Z_1) fun Z_4 =>
      gd (inb x1 16) (
        some (Z_4.2 37 0 0 x1.toNatClampNeg, Z_4))))
  else (
    some ((0 : Int64), Z_1))
def fX10_projectsWhole_L27 (x1 : Int64) (k57 : sM → Option (sM)) : Nat → Int32 → sM → Option (sM)
  | 0, _, _ => none
  | n + 1, x3, Z =>
    if (Z.1 27 0 0 (7 : Int32).toNatClampNeg) ≤ x3 then (
      k57 Z)
    else (
      Option.bind (fX10_ofMember x3 (4 : Int32) Z) fun r_2 =>
      gd (inb x3 17) (
        ltb (wL Z 33 0 0 x3.toNatClampNeg (r_2.toInt64)) fun Z_4 =>
        ltb (x3 + (1 : Int32)) fun x3_5 =>
        fX10_projectsWhole_L27 x1 k57 n x3_5 Z_4))
def fX10_projectsWhole_L83 (k124 : sM → Option (sM)) : Nat → Int32 → sM → Option (sM)
  | 0, _, _ => none
  | n + 1, x3, Z =>
    if (Z.1 27 0 0 (7 : Int32).toNatClampNeg) ≤ x3 then (
      k124 Z)
    else (
      Option.bind (fX10_isActive x3 Z) fun r_2 =>
      ltb (α := Int64 → Option (sM)) (fun (v_3 : Int64) =>
        gd (inb x3 16) (
          ltb (wL Z 37 0 0 x3.toNatClampNeg v_3) fun Z_6 =>
          ltb (x3 + (1 : Int32)) fun x3_7 =>
          fX10_projectsWhole_L83 k124 n x3_7 Z_6)) fun kj_4 =>
      if r_2 = 0 then (
        kj_4 (0 : Int64))
      else (
        gd (inb x3 17) (
          kj_4 (Z.2 34 0 0 x3.toNatClampNeg))))
def fX10_projectsWhole (Z : sM) : Option (sM) :=
  ltb ((Z.1 27 0 0 (0 : Int32).toNatClampNeg).toInt64) fun x1_2 =>
  Option.bind (fX10_free Z) fun r_4 =>
  gd (inb (Z.1 27 0 0 (7 : Int32).toNatClampNeg) 17) (
    ltb (wL Z 33 0 0 (Z.1 27 0 0 (7 : Int32).toNatClampNeg).toNatClampNeg (r_4.toInt64)) fun Z_6 =>
    fX10_projectsWhole_L27 x1_2 (fun (Z_7 : sM) =>
      Option.bind (fX10_worthOf (Z_7.1 27 0 0 (5 : Int32).toNatClampNeg) Z_7) fun r_9 =>
      Option.bind (fX10_divides r_9 ((Z_7.1 27 0 0 (7 : Int32).toNatClampNeg) + (1 : Int32)) x1_2 Z_7) fun Z_11 =>
      fX10_projectsWhole_L83 (fun (Z_12 : sM) =>
        Option.bind (fX10_passesOn Z_12) fun Z_13 =>
        some Z_13) 10000 (0 : Int32) Z_11) 10000 (0 : Int32) Z_6)
def fX10_pays_L5 (k66 : Int64 → sM → Option (Int32 × sM)) : Nat → Int64 → Int32 → sM → Option (Int32 × sM)
  | 0, _, _, _ => none
  | n + 1, x3, x5, Z =>
    if (84 : Int32) ≤ x5 then (
      k66 x3 Z)
    else (
      if x3 ≤ (0 : Int64) then (
        k66 x3 Z)
      else (
        gd (inb x5 84) (
          ltb (α := Int64 → Option (Int32 × sM)) (fun (v_2 : Int64) =>
            gd (inb x5 84) (
              gd (inb x5 84) (
                ltb (wL Z 39 0 0 x5.toNatClampNeg ((Z.2 39 0 0 x5.toNatClampNeg) - v_2)) fun Z_6 =>
                ltb (x3 - v_2) fun x3_7 =>
                ltb (x5 + (1 : Int32)) fun x5_8 =>
                fX10_pays_L5 k66 n x3_7 x5_8 Z_6))) fun kj_3 =>
          if x3 ≤ (Z.2 39 0 0 x5.toNatClampNeg) then (
            kj_3 x3)
          else (
            gd (inb x5 84) (
              kj_3 (Z.2 39 0 0 x5.toNatClampNeg))))))
def fX10_pays (x1 : Int64) (Z : sM) : Option (Int32 × sM) :=
  fX10_pays_L5 (fun (x3_1 : Int64) (Z_2 : sM) =>
    if x3_1 = (0 : Int64) then (
      some ((1 : Int32), Z_2))
    else (
      some ((0 : Int32), Z_2))) 10000 x1 (0 : Int32) Z
def fX10_forecastBalance_L54 (x1 : Int32) (x2 : Int32) (k93 : sM → Option (Int64 × sM)) : Nat → Int32 → sM → Option (Int64 × sM)
  | 0, _, _ => none
  | n + 1, x3, Z =>
    if (84 : Int32) ≤ x3 then (
      k93 Z)
    else (
      ltb (α := Int64 → Option (Int64 × sM)) (fun (v_1 : Int64) =>
        gd (inb x3 84) (
          ltb (wL Z 39 0 0 x3.toNatClampNeg v_1) fun Z_4 =>
          ltb (x3 + (1 : Int32)) fun x3_5 =>
          fX10_forecastBalance_L54 x1 x2 k93 n x3_5 Z_4)) fun kj_2 =>
      if (60 : Int32) ≤ x3 then (
        kj_2 (0 : Int64))
      else (
        Option.bind (fX10_lotAt x1 x3 Z) fun r_6 =>
        gd (inb r_6 1058) (
          kj_2 (Z.2 30 0 0 r_6.toNatClampNeg))))
def fX10_forecastBalance_L108 (x1 : Int32) (x2 : Int32) (k234 : sM → Option (Int64 × sM)) : Nat → Int64 → Int32 → sM → Option (Int64 × sM)
  | 0, _, _, _ => none
  | n + 1, x3, x5, Z =>
    if x2 ≤ x5 then (
      k234 Z)
    else (
      ltb (α := sM → Option (Int64 × sM)) (fun (Z_1 : sM) =>
        gd (inb x1 16) (
          ltb (Z_1.2 37 0 0 x1.toNatClampNeg) fun x6_4 =>
          ltb (α := Int64 → Option (Int64 × sM)) (fun (v_5 : Int64) =>
            ltb (x3 - v_5) fun x3_7 =>
            gd (inb ((Z_1.1 27 0 0 (5 : Int32).toNatClampNeg) + x5) 84) (
              gd (inb ((Z_1.1 27 0 0 (5 : Int32).toNatClampNeg) + x5) 84) (
                ltb (wL Z_1 39 0 0 ((Z_1.1 27 0 0 (5 : Int32).toNatClampNeg) + x5).toNatClampNeg ((Z_1.2 39 0 0 ((Z_1.1 27 0 0 (5 : Int32).toNatClampNeg) + x5).toNatClampNeg) + (x6_4 - v_5))) fun Z_11 =>
                Option.bind (fX10_accountAt x1 (1 : Int32) Z_11) fun r_12 =>
                gd (inb r_12 1058) (
                  bd2 (fX10_pays (Z_11.2 30 0 0 r_12.toNatClampNeg) Z_11) fun r_15 Z_14 =>
                  ltb (((Z_14.1 27 0 0 (5 : Int32).toNatClampNeg) + x5) - (Z_14.1 27 0 0 (1 : Int32).toNatClampNeg)) fun x11_18 =>
                  ltb (α := sM → Option (Int64 × sM)) (fun (Z_19 : sM) =>
                    ltb (x5 + (1 : Int32)) fun x5_21 =>
                    fX10_forecastBalance_L108 x1 x2 k234 n x3_7 x5_21 Z_19) fun kj_20 =>
                  if x11_18 < 0 then (
                    kj_20 Z_14)
                  else (
                    gd (inb x11_18 84) (
                      ltb (wL Z_14 39 0 0 x11_18.toNatClampNeg (0 : Int64)) fun Z_23 =>
                      kj_20 Z_23)))))) fun kj_6 =>
          if x6_4 ≤ x3 then (
            kj_6 x6_4)
          else (
            kj_6 x3))) fun kj_2 =>
      if x5 = 0 then (
        Option.bind (fX10_projects Z) fun Z_28 =>
        kj_2 Z_28)
      else (
        Option.bind (fX10_projectsWhole Z) fun Z_26 =>
        kj_2 Z_26))
def fX10_forecastBalance_L240 (Z : sM) (k265 : Int64 → Option (Int64 × sM)) : Nat → Int64 → Int32 → Option (Int64 × sM)
  | 0, _, _ => none
  | n + 1, x5, x7 =>
    if (84 : Int32) ≤ x7 then (
      k265 x5)
    else (
      gd (inb x7 84) (
        ltb (x5 + (Z.2 39 0 0 x7.toNatClampNeg)) fun x5_2 =>
        ltb (x7 + (1 : Int32)) fun x7_3 =>
        fX10_forecastBalance_L240 Z k265 n x5_2 x7_3))
def fX10_forecastBalance (x1 : Int32) (x2 : Int32) (Z : sM) : Option (Int64 × sM) :=
  Option.bind (fX10_isMember x1 Z) fun r_1 =>
  ltb (α := Int32 → Option (Int64 × sM)) (fun (v_2 : Int32) =>
    ltb (wI Z 10 6 0 0 v_2) fun Z_4 =>
    if (Z_4.1 10 6 0 0) ≤ 0 then (
      Option.bind (fX10_isActive x1 Z_4) fun r_5 =>
      if r_5 = 0 then (
        some ((0 : Int64), Z_4))
      else (
        fX10_forecastBalance_L54 x1 x2 (fun (Z_6 : sM) =>
          Option.bind (fX10_accountAt x1 (0 : Int32) Z_6) fun r_7 =>
          gd (inb r_7 1058) (
            ltb (Z_6.2 30 0 0 r_7.toNatClampNeg) fun x3_9 =>
            fX10_forecastBalance_L108 x1 x2 (fun (Z_10 : sM) =>
              fX10_forecastBalance_L240 Z_10 (fun (x5_11 : Int64) =>
                some (x5_11, Z_10)) 10000 (0 : Int64) (0 : Int32)) 10000 x3_9 (0 : Int32) Z_6)) 10000 (0 : Int32) Z_4))
    else (
      some ((0 : Int64), Z_4))) fun kj_3 =>
  if r_1 = 0 then (
    kj_3 (1 : Int32))
  else (
    Option.bind (fX10_isIn (x2.toInt64) (1 : Int64) (12 : Int64) Z) fun r_14 =>
    if r_14 = 0 then (
      kj_3 (2 : Int32))
    else (
      kj_3 (0 : Int32)))
def fX10_neededRate_L97 (x1 : Int32) (x3 : Int64) (x5 : Int64) (x7 : Int64) (k160 : Int32 → sM → Option (Int32 × sM)) (k169 : sM → Option (Int32 × sM)) : Nat → Int32 → sM → Option (Int32 × sM)
  | 0, _, _ => none
  | n + 1, x9, Z =>
    if (200 : Int32) < x9 then (
      k169 Z)
    else (
      Option.bind (fX10_dividesMonth (x7 + (x5 * (x9.toInt64))) (Z.1 27 0 0 (5 : Int32).toNatClampNeg) ((30 : Int32) - (Z.1 27 0 0 (6 : Int32).toNatClampNeg)) Z) fun Z_3 =>
      ltb (α := Int32 → Option (Int32 × sM)) (fun (v_4 : Int32) =>
        gd (inb v_4 17) (
          if (Z_3.2 34 0 0 v_4.toNatClampNeg) < x3 then (
            ltb (x9 + (1 : Int32)) fun x9_7 =>
            fX10_neededRate_L97 x1 x3 x5 x7 k160 k169 n x9_7 Z_3)
          else (
            k160 x9 Z_3))) fun kj_5 =>
      if x1 = (-1 : Int32) then (
        kj_5 (Z_3.1 27 0 0 (7 : Int32).toNatClampNeg))
      else (
        kj_5 x1))
def fX10_neededRate (x1 : Int32) (x2 : Int32) (x3 : Int64) (Z : sM) : Option (Int32 × sM) :=
  ltb (α := Int32 → Option (Int32 × sM)) (fun (v_1 : Int32) =>
    ltb (wI Z 10 6 0 0 v_1) fun Z_3 =>
    if (Z_3.1 10 6 0 0) ≤ 0 then (
      Option.bind (fX10_generatedAt (Z_3.1 27 0 0 (5 : Int32).toNatClampNeg) x2 Z_3) fun r_5 =>
      gd (inb r_5 1588) (
        ltb ((Z_3.1 27 0 0 r_5.toNatClampNeg).toInt64) fun x5_7 =>
        Option.bind (fX10_worthOf (Z_3.1 27 0 0 (5 : Int32).toNatClampNeg) Z_3) fun r_9 =>
        gd (inb ((32 : Int32) + x2) 1588) (
          ltb (r_9 - (x5_7 * ((Z_3.1 27 0 0 ((32 : Int32) + x2).toNatClampNeg).toInt64))) fun x7_11 =>
          fX10_neededRate_L97 x1 x3 x5_7 x7_11 (fun (x9_12 : Int32) (Z_13 : sM) =>
            some (x9_12, Z_13)) (fun (Z_14 : sM) =>
            ltb (wI Z_14 10 6 0 0 (2 : Int32)) fun Z_15 =>
            some ((0 : Int32), Z_15)) 10000 (0 : Int32) Z_3)))
    else (
      some ((0 : Int32), Z_3))) fun kj_2 =>
  ltb (α := Option (Int32 × sM)) (
    kj_2 (1 : Int32)) fun kj_18 =>
  ltb (α := Option (Int32 × sM)) (
    Option.bind (fX10_isIn (x2.toInt64) (0 : Int64) (((Z.1 27 0 0 (4 : Int32).toNatClampNeg) - (1 : Int32)).toInt64) Z) fun r_21 =>
    if r_21 = 0 then (
      kj_18)
    else (
      kj_2 (0 : Int32))) fun kj_19 =>
  if x1 = (-1 : Int32) then (
    kj_19)
  else (
    Option.bind (fX10_isMember x1 Z) fun r_23 =>
    if r_23 = 0 then (
      kj_18)
    else (
      kj_19))
def fX10_issued (x1 : Int32) (Z : sM) : Option (Int64 × sM) :=
  Option.bind (fX10_isMonth x1 Z) fun r_1 =>
  if r_1 = 0 then (
    ltb (wI Z 10 6 0 0 (1 : Int32)) fun Z_2 =>
    if (Z_2.1 10 6 0 0) ≤ 0 then (
      Option.bind (fX10_worthOf x1 Z_2) fun r_3 =>
      some (r_3, Z_2))
    else (
      some ((0 : Int64), Z_2)))
  else (
    ltb (wI Z 10 6 0 0 (0 : Int32)) fun Z_5 =>
    if (Z_5.1 10 6 0 0) ≤ 0 then (
      Option.bind (fX10_worthOf x1 Z_5) fun r_6 =>
      some (r_6, Z_5))
    else (
      some ((0 : Int64), Z_5)))
def fX10_shareDayValue (x1 : Int32) (x2 : Int32) (Z : sM) : Option (Int64 × sM) :=
  Option.bind (fX10_isMonth x1 Z) fun r_1 =>
  ltb (α := Int32 → Option (Int64 × sM)) (fun (v_2 : Int32) =>
    ltb (wI Z 10 6 0 0 v_2) fun Z_4 =>
    if (Z_4.1 10 6 0 0) ≤ 0 then (
      Option.bind (fX10_worthOf x1 Z_4) fun r_5 =>
      ltb ((30 : Int64) * ((Z_4.1 27 0 0 (0 : Int32).toNatClampNeg).toInt64)) fun x5_7 =>
      if x2 = 0 then (
        Option.bind (fX10_divisor 100 r_5 x5_7 Z_4) fun r_8 =>
        gd (nzL r_8) (
          some (r_5 / r_8, Z_4)))
      else (
        Option.bind (fX10_divisor 100 r_5 x5_7 Z_4) fun r_11 =>
        gd (nzL r_11) (
          some (x5_7 / r_11, Z_4))))
    else (
      some ((0 : Int64), Z_4))) fun kj_3 =>
  if r_1 = 0 then (
    kj_3 (1 : Int32))
  else (
    kj_3 (0 : Int32))
def fX10_neededShares (x1 : Int64) (Z : sM) : Option (Int32 × sM) :=
  Option.bind (fX10_worthOf (Z.1 27 0 0 (5 : Int32).toNatClampNeg) Z) fun r_2 =>
  ltb (α := Int32 → Option (Int32 × sM)) (fun (v_3 : Int32) =>
    ltb (wI Z 10 6 0 0 v_3) fun Z_5 =>
    if (Z_5.1 10 6 0 0) ≤ 0 then (
      if x1 = (0 : Int64) then (
        some ((1 : Int32), Z_5))
      else (
        gd (nzL r_2) (
          some (((((x1 * ((Z_5.1 27 0 0 (0 : Int32).toNatClampNeg).toInt64)) + r_2) - (1 : Int64)) / r_2).toInt32, Z_5))))
    else (
      some ((0 : Int32), Z_5))) fun kj_4 =>
  if (0 : Int64) ≤ x1 then (
    if x1 ≤ r_2 then (
      kj_4 (0 : Int32))
    else (
      kj_4 (2 : Int32)))
  else (
    kj_4 (1 : Int32))
def fX10_balance (x1 : Int32) (Z : sM) : Option (Int64 × sM) :=
  bd2 (fX10_lacks x1 Z) fun r_2 Z_1 =>
  if r_2 = 0 then (
    Option.bind (fX10_balanceOf x1 Z_1) fun r_3 =>
    some (r_3, Z_1))
  else (
    some ((0 : Int64), Z_1))
def fX10_lot (x1 : Int32) (x2 : Int32) (Z : sM) : Option (Int64 × sM) :=
  Option.bind (fX10_isMember x1 Z) fun r_1 =>
  ltb (α := Option (Int64 × sM)) (
    ltb (wI Z 10 6 0 0 (1 : Int32)) fun Z_3 =>
    if (Z_3.1 10 6 0 0) ≤ 0 then (
      Option.bind (fX10_lotAt x1 x2 Z_3) fun r_4 =>
      gd (inb r_4 1058) (
        some (Z_3.2 30 0 0 r_4.toNatClampNeg, Z_3)))
    else (
      some ((0 : Int64), Z_3))) fun kj_2 =>
  if r_1 = 0 then (
    kj_2)
  else (
    Option.bind (fX10_isMonth x2 Z) fun r_7 =>
    if r_7 = 0 then (
      kj_2)
    else (
      ltb (wI Z 10 6 0 0 (0 : Int32)) fun Z_8 =>
      if (Z_8.1 10 6 0 0) ≤ 0 then (
        Option.bind (fX10_lotAt x1 x2 Z_8) fun r_9 =>
        gd (inb r_9 1058) (
          some (Z_8.2 30 0 0 r_9.toNatClampNeg, Z_8)))
      else (
        some ((0 : Int64), Z_8))))
def fX10_account (x1 : Int32) (x2 : Int32) (Z : sM) : Option (Int64 × sM) :=
  Option.bind (fX10_isMember x1 Z) fun r_1 =>
  if r_1 = 0 then (
    ltb (wI Z 10 6 0 0 (1 : Int32)) fun Z_12 =>
    if (Z_12.1 10 6 0 0) ≤ 0 then (
      Option.bind (fX10_accountAt x1 x2 Z_12) fun r_13 =>
      gd (inb r_13 1058) (
        some (Z_12.2 30 0 0 r_13.toNatClampNeg, Z_12)))
    else (
      some ((0 : Int64), Z_12)))
  else (
    Option.bind (fX10_isIn (x2.toInt64) (0 : Int64) (5 : Int64) Z) fun r_2 =>
    if r_2 = 0 then (
      ltb (wI Z 10 6 0 0 (2 : Int32)) fun Z_7 =>
      if (Z_7.1 10 6 0 0) ≤ 0 then (
        Option.bind (fX10_accountAt x1 x2 Z_7) fun r_8 =>
        gd (inb r_8 1058) (
          some (Z_7.2 30 0 0 r_8.toNatClampNeg, Z_7)))
      else (
        some ((0 : Int64), Z_7)))
    else (
      ltb (wI Z 10 6 0 0 (0 : Int32)) fun Z_3 =>
      if (Z_3.1 10 6 0 0) ≤ 0 then (
        Option.bind (fX10_accountAt x1 x2 Z_3) fun r_4 =>
        gd (inb r_4 1058) (
          some (Z_3.2 30 0 0 r_4.toNatClampNeg, Z_3)))
      else (
        some ((0 : Int64), Z_3))))
def fX10_expiring (x1 : Int32) (Z : sM) : Option (Int64 × sM) :=
  ltb ((Z.1 27 0 0 (5 : Int32).toNatClampNeg) - (Z.1 27 0 0 (1 : Int32).toNatClampNeg)) fun x2_3 =>
  bd2 (fX10_lacks x1 Z) fun r_5 Z_4 =>
  if r_5 = 0 then (
    if 0 ≤ x2_3 then (
      Option.bind (fX10_lotAt x1 x2_3 Z_4) fun r_6 =>
      gd (inb r_6 1058) (
        Option.bind (fX10_accountAt x1 (1 : Int32) Z_4) fun r_8 =>
        gd (inb r_8 1058) (
          ltb ((Z_4.2 30 0 0 r_6.toNatClampNeg) - (Z_4.2 30 0 0 r_8.toNatClampNeg)) fun x3_10 =>
          if x3_10 ≤ (0 : Int64) then (
            some ((0 : Int64), Z_4))
          else (
            some (x3_10, Z_4)))))
    else (
      some ((0 : Int64), Z_4)))
  else (
    some ((0 : Int64), Z_4))
def fX10_monthsCovered_L39 (x1 : Int32) (x2 : Int64) (k82 : sM → Option (Int32 × sM)) : Nat → Int32 → sM → Option (Int32 × sM)
  | 0, _, _ => none
  | n + 1, x4, Z =>
    if (84 : Int32) ≤ x4 then (
      k82 Z)
    else (
      ltb (α := Int64 → Option (Int32 × sM)) (fun (v_1 : Int64) =>
        gd (inb x4 84) (
          ltb (wL Z 39 0 0 x4.toNatClampNeg v_1) fun Z_4 =>
          ltb (x4 + (1 : Int32)) fun x4_5 =>
          fX10_monthsCovered_L39 x1 x2 k82 n x4_5 Z_4)) fun kj_2 =>
      if (60 : Int32) ≤ x4 then (
        kj_2 (0 : Int64))
      else (
        Option.bind (fX10_lotAt x1 x4 Z) fun r_6 =>
        gd (inb r_6 1058) (
          kj_2 (Z.2 30 0 0 r_6.toNatClampNeg))))
def fX10_monthsCovered_L85 (x2 : Int64) (k138 : Int32 → sM → Option (Int32 × sM)) : Nat → Int32 → sM → Option (Int32 × sM)
  | 0, _, _ => none
  | n + 1, x4, Z =>
    bd2 (fX10_pays x2 Z) fun r_2 Z_1 =>
    if r_2 = 0 then (
      k138 x4 Z_1)
    else (
      ltb (((Z_1.1 27 0 0 (5 : Int32).toNatClampNeg) + x4) - (Z_1.1 27 0 0 (1 : Int32).toNatClampNeg)) fun x5_5 =>
      Option.bind (fX10_isIn (x5_5.toInt64) (0 : Int64) (59 : Int64) Z_1) fun r_6 =>
      ltb (α := sM → Option (Int32 × sM)) (fun (Z_7 : sM) =>
        ltb (x4 + (1 : Int32)) fun x4_9 =>
        fX10_monthsCovered_L85 x2 k138 n x4_9 Z_7) fun kj_8 =>
      if r_6 = 0 then (
        kj_8 Z_1)
      else (
        gd (inb x5_5 84) (
          ltb (wL Z_1 39 0 0 x5_5.toNatClampNeg (0 : Int64)) fun Z_11 =>
          kj_8 Z_11)))
def fX10_monthsCovered (x1 : Int32) (x2 : Int64) (Z : sM) : Option (Int32 × sM) :=
  Option.bind (fX10_isMember x1 Z) fun r_1 =>
  ltb (α := Int32 → Option (Int32 × sM)) (fun (v_2 : Int32) =>
    ltb (wI Z 10 6 0 0 v_2) fun Z_4 =>
    if (Z_4.1 10 6 0 0) ≤ 0 then (
      fX10_monthsCovered_L39 x1 x2 (fun (Z_5 : sM) =>
        fX10_monthsCovered_L85 x2 (fun (x4_6 : Int32) (Z_7 : sM) =>
          some (x4_6, Z_7)) 10000 (0 : Int32) Z_5) 10000 (0 : Int32) Z_4)
    else (
      some ((0 : Int32), Z_4))) fun kj_3 =>
  if r_1 = 0 then (
    kj_3 (1 : Int32))
  else (
    if (1 : Int64) ≤ x2 then (
      kj_3 (0 : Int32))
    else (
      kj_3 (2 : Int32)))
def fX10_fund (Z : sM) : Option (Int64 × sM) :=
  ltb (wI Z 10 6 0 0 (0 : Int32)) fun Z_1 =>
  some (Z_1.2 30 0 0 (0 : Int32).toNatClampNeg, Z_1)
def fX10_operatorAccount (Z : sM) : Option (Int64 × sM) :=
  ltb (wI Z 10 6 0 0 (0 : Int32)) fun Z_1 =>
  some (Z_1.2 30 0 0 (1 : Int32).toNatClampNeg, Z_1)
def fX10_correct (x1 : Int32) (x2 : Int32) (x3 : Int32) (Z : sM) : Option (Int32 × sM) :=
  Option.bind (fX10_isIn (x1.toInt64) (0 : Int64) (((Z.1 27 0 0 (5 : Int32).toNatClampNeg) - (1 : Int32)).toInt64) Z) fun r_2 =>
  ltb (α := Int32 → Option (Int32 × sM)) (fun (v_3 : Int32) =>
    ltb (wI Z 10 6 0 0 v_3) fun Z_5 =>
    if (Z_5.1 10 6 0 0) ≤ 0 then (
      Option.bind (fX10_keeps Z_5) fun Z_6 =>
      gd (inb (((1348 : Int32) + ((4 : Int32) * x1)) + x2) 1588) (
        ltb (wI Z_6 27 0 0 (((1348 : Int32) + ((4 : Int32) * x1)) + x2).toNatClampNeg x3) fun Z_8 =>
        Option.bind (fX10_generatedAt x1 x2 Z_8) fun r_9 =>
        gd (inb r_9 1588) (
          some (Z_8.1 27 0 0 r_9.toNatClampNeg, Z_8))))
    else (
      some ((0 : Int32), Z_5))) fun kj_4 =>
  ltb (α := Option (Int32 × sM)) (
    kj_4 (1 : Int32)) fun kj_13 =>
  if r_2 = 0 then (
    kj_13)
  else (
    Option.bind (fX10_isIn (x2.toInt64) (0 : Int64) (((Z.1 27 0 0 (4 : Int32).toNatClampNeg) - (1 : Int32)).toInt64) Z) fun r_15 =>
    if r_15 = 0 then (
      kj_13)
    else (
      Option.bind (fX10_isIn (x3.toInt64) (0 : Int64) (1000000000 : Int64) Z) fun r_16 =>
      if r_16 = 0 then (
        kj_4 (2 : Int32))
      else (
        kj_4 (0 : Int32))))
def fX10_truesUp_L60 (x2 : Int64) (x4 : Int64) (k160 : sM → Option (sM)) : Nat → Int32 → sM → Option (sM)
  | 0, _, _ => none
  | n + 1, x6, Z =>
    if (Z.1 27 0 0 (7 : Int32).toNatClampNeg) ≤ x6 then (
      k160 Z)
    else (
      Option.bind (fX10_isActive x6 Z) fun r_2 =>
      ltb (α := sM → Option (sM)) (fun (Z_3 : sM) =>
        ltb (x6 + (1 : Int32)) fun x6_5 =>
        fX10_truesUp_L60 x2 x4 k160 n x6_5 Z_3) fun kj_4 =>
      if r_2 = 0 then (
        gd (inb x6 17) (
          ltb (wL Z 30 0 0 (0 : Int32).toNatClampNeg ((Z.2 30 0 0 (0 : Int32).toNatClampNeg) + (x4 * (Z.2 34 0 0 x6.toNatClampNeg)))) fun Z_21 =>
          kj_4 Z_21))
      else (
        if x2 ≤ (0 : Int64) then (
          Option.bind (fX10_accountAt x6 (0 : Int32) Z) fun r_6 =>
          gd (inb r_6 1058) (
            gd (inb x6 17) (
              bd2 (fX10_takesLots x6 (Z.2 34 0 0 x6.toNatClampNeg) (1 : Int32) Z) fun r_10 Z_9 =>
              gd (inb r_6 1058) (
                ltb (wL Z_9 30 0 0 r_6.toNatClampNeg ((Z.2 30 0 0 r_6.toNatClampNeg) + r_10)) fun Z_12 =>
                kj_4 Z_12))))
        else (
          gd (inb x6 17) (
            Option.bind (fX10_credits x6 (Z.2 34 0 0 x6.toNatClampNeg) Z) fun Z_16 =>
            kj_4 Z_16))))
def fX10_truesUp (x1 : Int32) (x2 : Int64) (Z : sM) : Option (sM) :=
  ltb (α := Int64 → Option (sM)) (fun (v_1 : Int64) =>
    Option.bind (fX10_dividesMonth v_1 x1 (0 : Int32) Z) fun Z_3 =>
    ltb (α := Int64 → Option (sM)) (fun (v_4 : Int64) =>
      gd (inb (Z_3.1 27 0 0 (7 : Int32).toNatClampNeg) 17) (
        ltb (wL Z_3 30 0 0 (1 : Int32).toNatClampNeg ((Z_3.2 30 0 0 (1 : Int32).toNatClampNeg) + (v_4 * (Z_3.2 34 0 0 (Z_3.1 27 0 0 (7 : Int32).toNatClampNeg).toNatClampNeg)))) fun Z_10 =>
        fX10_truesUp_L60 x2 v_4 (fun (Z_11 : sM) =>
          some Z_11) 10000 (0 : Int32) Z_10)) fun kj_5 =>
    if (0 : Int64) ≤ x2 then (
      kj_5 (1 : Int64))
    else (
      kj_5 (-1 : Int64))) fun kj_2 =>
  if (0 : Int64) ≤ x2 then (
    kj_2 x2)
  else (
    kj_2 (-x2))
def fX10_trueUp_L33 (x1 : Int64) (x3 : Int32) (x4 : Int64) (k95 : sM → Option (Int64 × sM)) : Nat → Int32 → sM → Option (Int64 × sM)
  | 0, _, _ => none
  | n + 1, x6, Z =>
    if (4 : Int32) ≤ x6 then (
      k95 Z)
    else (
      ltb (((1348 : Int32) + ((4 : Int32) * x3)) + x6) fun x7_1 =>
      gd (inb x7_1 1588) (
        ltb (α := sM → Option (Int64 × sM)) (fun (Z_3 : sM) =>
          gd (inb x7_1 1588) (
            ltb (wI Z_3 27 0 0 x7_1.toNatClampNeg (-1 : Int32)) fun Z_6 =>
            ltb (x6 + (1 : Int32)) fun x6_7 =>
            fX10_trueUp_L33 x1 x3 x4 k95 n x6_7 Z_6)) fun kj_4 =>
        if (Z.1 27 0 0 x7_1.toNatClampNeg) = (-1 : Int32) then (
          kj_4 Z)
        else (
          Option.bind (fX10_generatedAt x3 x6 Z) fun r_8 =>
          gd (inb x7_1 1588) (
            gd (inb r_8 1588) (
              ltb (wI Z 27 0 0 r_8.toNatClampNeg (Z.1 27 0 0 x7_1.toNatClampNeg)) fun Z_11 =>
              kj_4 Z_11)))))
def fX10_trueUp_L13 (k130 : Int64 → sM → Option (Int64 × sM)) : Nat → Int64 → Int32 → sM → Option (Int64 × sM)
  | 0, _, _, _ => none
  | n + 1, x1, x3, Z =>
    if (Z.1 27 0 0 (5 : Int32).toNatClampNeg) ≤ x3 then (
      k130 x1 Z)
    else (
      Option.bind (fX10_worthOf x3 Z) fun r_2 =>
      fX10_trueUp_L33 x1 x3 r_2 (fun (Z_3 : sM) =>
        Option.bind (fX10_worthOf x3 Z_3) fun r_4 =>
        ltb (r_4 - r_2) fun x6_5 =>
        ltb (α := sM → Option (Int64 × sM)) (fun (Z_6 : sM) =>
          ltb (x1 + x6_5) fun x1_8 =>
          ltb (x3 + (1 : Int32)) fun x3_9 =>
          fX10_trueUp_L13 k130 n x1_8 x3_9 Z_6) fun kj_7 =>
        if x6_5 = (0 : Int64) then (
          kj_7 Z_3)
        else (
          Option.bind (fX10_truesUp x3 x6_5 Z_3) fun Z_10 =>
          kj_7 Z_10)) 10000 (0 : Int32) Z)
def fX10_trueUp (Z : sM) : Option (Int64 × sM) :=
  ltb (wI Z 10 6 0 0 (0 : Int32)) fun Z_1 =>
  Option.bind (fX10_keeps Z_1) fun Z_2 =>
  fX10_trueUp_L13 (fun (x1_3 : Int64) (Z_4 : sM) =>
    some (x1_3, Z_4)) 10000 (0 : Int64) (0 : Int32) Z_2
def fX10_shareFund_L4 (k43 : Int64 → sM → Option (Int64 × sM)) : Nat → Int64 → Int32 → sM → Option (Int64 × sM)
  | 0, _, _, _ => none
  | n + 1, x1, x3, Z =>
    if (Z.1 27 0 0 (7 : Int32).toNatClampNeg) ≤ x3 then (
      k43 x1 Z)
    else (
      Option.bind (fX10_ofMember x3 (4 : Int32) Z) fun r_2 =>
      gd (inb x3 17) (
        ltb (wL Z 33 0 0 x3.toNatClampNeg (r_2.toInt64)) fun Z_4 =>
        gd (inb x3 17) (
          ltb (x1 + (Z_4.2 33 0 0 x3.toNatClampNeg)) fun x1_6 =>
          ltb (x3 + (1 : Int32)) fun x3_7 =>
          fX10_shareFund_L4 k43 n x1_6 x3_7 Z_4)))
def fX10_shareFund_L112 (x3 : Int64) (k152 : sM → Option (Int64 × sM)) : Nat → Int32 → sM → Option (Int64 × sM)
  | 0, _, _ => none
  | n + 1, x5, Z =>
    if (Z.1 27 0 0 (7 : Int32).toNatClampNeg) ≤ x5 then (
      k152 Z)
    else (
      Option.bind (fX10_isActive x5 Z) fun r_2 =>
      ltb (α := sM → Option (Int64 × sM)) (fun (Z_3 : sM) =>
        ltb (x5 + (1 : Int32)) fun x5_5 =>
        fX10_shareFund_L112 x3 k152 n x5_5 Z_3) fun kj_4 =>
      if r_2 = 0 then (
        kj_4 Z)
      else (
        gd (inb x5 17) (
          Option.bind (fX10_credits x5 (Z.2 34 0 0 x5.toNatClampNeg) Z) fun Z_7 =>
          kj_4 Z_7)))
def fX10_shareFund (Z : sM) : Option (Int64 × sM) :=
  fX10_shareFund_L4 (fun (x1_1 : Int64) (Z_2 : sM) =>
    ltb (α := Int32 → Option (Int64 × sM)) (fun (v_4 : Int32) =>
      ltb (wI Z_2 10 6 0 0 v_4) fun Z_6 =>
      if (Z_6.1 10 6 0 0) ≤ 0 then (
        Option.bind (fX10_keeps Z_6) fun Z_7 =>
        ltb (Z_7.2 30 0 0 (0 : Int32).toNatClampNeg) fun x3_9 =>
        Option.bind (fX10_divides x3_9 (Z_7.1 27 0 0 (7 : Int32).toNatClampNeg) x1_1 Z_7) fun Z_11 =>
        ltb (wL Z_11 30 0 0 (0 : Int32).toNatClampNeg (0 : Int64)) fun Z_13 =>
        fX10_shareFund_L112 x3_9 (fun (Z_14 : sM) =>
          some (x3_9, Z_14)) 10000 (0 : Int32) Z_13)
      else (
        some ((0 : Int64), Z_6))) fun kj_5 =>
    ltb (α := Option (Int64 × sM)) (
      kj_5 (1 : Int32)) fun kj_17 =>
    if (Z_2.2 30 0 0 (0 : Int32).toNatClampNeg) ≤ (0 : Int64) then (
      kj_17)
    else (
      if x1_1 = (0 : Int64) then (
        kj_17)
      else (
        kj_5 (0 : Int32)))) 10000 (0 : Int64) (0 : Int32) Z
def fX10_tellsWord_L2 (x2 : Int32) (k24 : sM → Option (sM)) : Nat → Int32 → sM → Option (sM)
  | 0, _, _ => none
  | n + 1, x3, Z =>
    if x2 ≤ x3 then (
      k24 Z)
    else (
      gd (inb x3 (sLen.getD 51 0)) (
        Option.bind (fX10_tells (strC 51 x3.toNatClampNeg) Z) fun Z_2 =>
        ltb (x3 + (1 : Int32)) fun x3_3 =>
        fX10_tellsWord_L2 x2 k24 n x3_3 Z_2))
def fX10_tellsWord (x1 : Int32) (x2 : Int32) (Z : sM) : Option (sM) :=
  fX10_tellsWord_L2 x2 (fun (Z_1 : sM) =>
    Option.bind (fX10_tells (32 : Int32) Z_1) fun Z_2 =>
    some Z_2) 10000 x1 Z
def fX10_tellsCents_L18 (x1 : Int64) (k46 : sM → Option (sM)) : Nat → Int32 → sM → Option (sM)
  | 0, _, _ => none
  | n + 1, x3, Z =>
    if x3 ≤ 0 then (
      k46 Z)
    else (
      gd (nzL (x3.toInt64)) (
        Option.bind (fX10_tells ((48 : Int32) + (((x1 / (x3.toInt64)) - (x1 / (x3.toInt64)) / (10 : Int64) * (10 : Int64)).toInt32)) Z) fun Z_2 =>
        ltb (x3 / (10 : Int32)) fun x3_3 =>
        fX10_tellsCents_L18 x1 k46 n x3_3 Z_2))
def fX10_tellsCents (x1 : Int64) (Z : sM) : Option (sM) :=
  Option.bind (fX10_tellsNumber 30 (x1 / (1000 : Int64)) Z) fun Z_1 =>
  Option.bind (fX10_tells (46 : Int32) Z_1) fun Z_2 =>
  fX10_tellsCents_L18 x1 (fun (Z_3 : sM) =>
    some Z_3) 10000 (100 : Int32) Z_2
def fX10_tellsAssignment (x1 : Int32) (Z : sM) : Option (sM) :=
  Option.bind (fX10_ofMember x1 (5 : Int32) Z) fun r_1 =>
  if r_1 = (-1 : Int32) then (
    some Z)
  else (
    Option.bind (fX10_tells (32 : Int32) Z) fun Z_2 =>
    Option.bind (fX10_tells (45 : Int32) Z_2) fun Z_3 =>
    Option.bind (fX10_tells (62 : Int32) Z_3) fun Z_4 =>
    Option.bind (fX10_ofMember x1 (5 : Int32) Z_4) fun r_5 =>
    Option.bind (fX10_tellsNumber 30 (r_5.toInt64) Z_4) fun Z_6 =>
    Option.bind (fX10_tells (58 : Int32) Z_6) fun Z_7 =>
    Option.bind (fX10_ofMember x1 (6 : Int32) Z_7) fun r_8 =>
    Option.bind (fX10_tellsNumber 30 (r_8.toInt64) Z_7) fun Z_9 =>
    Option.bind (fX10_tells (37 : Int32) Z_9) fun Z_10 =>
    some Z_10)
def fX10_describe (x1 : Int32) (Z : sM) : Option (Int32 × sM) :=
  bd2 (fX10_lacks x1 Z) fun r_2 Z_1 =>
  if r_2 = 0 then (
    ltb (wI Z_1 10 25 0 0 (0 : Int32)) fun Z_3 =>
    Option.bind (fX10_tellsNumber 30 (x1.toInt64) Z_3) fun Z_4 =>
    Option.bind (fX10_tells (58 : Int32) Z_4) fun Z_5 =>
    Option.bind (fX10_ofMember x1 (3 : Int32) Z_5) fun r_6 =>
    if r_6 = 0 then (
      Option.bind (fX10_tellsWord (0 : Int32) (7 : Int32) Z_5) fun Z_30 =>
      Option.bind (fX10_placeOf x1 Z_30) fun r_31 =>
      Option.bind (fX10_tellsNumber 30 (r_31.toInt64) Z_30) fun Z_32 =>
      Option.bind (fX10_tells (32 : Int32) Z_32) fun Z_33 =>
      Option.bind (fX10_ofMember x1 (1 : Int32) Z_33) fun r_34 =>
      Option.bind (fX10_tellsNumber 30 (r_34.toInt64) Z_33) fun Z_35 =>
      some (Z_35.1 10 25 0 0, Z_35))
    else (
      Option.bind (fX10_ofMember x1 (3 : Int32) Z_5) fun r_7 =>
      if r_7 = (2 : Int32) then (
        Option.bind (fX10_tellsWord (13 : Int32) (17 : Int32) Z_5) fun Z_22 =>
        Option.bind (fX10_accountAt x1 (3 : Int32) Z_22) fun r_23 =>
        gd (inb r_23 1058) (
          Option.bind (fX10_tellsCents (Z_22.2 30 0 0 r_23.toNatClampNeg) Z_22) fun Z_25 =>
          some (Z_25.1 10 25 0 0, Z_25)))
      else (
        Option.bind (fX10_tellsWord (7 : Int32) (13 : Int32) Z_5) fun Z_8 =>
        Option.bind (fX10_ofMember x1 (4 : Int32) Z_8) fun r_9 =>
        Option.bind (fX10_tellsNumber 30 (r_9.toInt64) Z_8) fun Z_10 =>
        Option.bind (fX10_tells (32 : Int32) Z_10) fun Z_11 =>
        Option.bind (fX10_balanceOf x1 Z_11) fun r_12 =>
        Option.bind (fX10_tellsCents r_12 Z_11) fun Z_13 =>
        Option.bind (fX10_tellsAssignment x1 Z_13) fun Z_14 =>
        some (Z_14.1 10 25 0 0, Z_14))))
  else (
    some ((0 : Int32), Z_1))
def fX10_describedByte (x1 : Int32) (Z : sM) : Option (Int32 × sM) :=
  Option.bind (fX10_isIn (x1.toInt64) (0 : Int64) (((Z.1 10 25 0 0) - (1 : Int32)).toInt64) Z) fun r_1 =>
  if r_1 = 0 then (
    ltb (wI Z 10 6 0 0 (1 : Int32)) fun Z_2 =>
    if (Z_2.1 10 6 0 0) ≤ 0 then (
      gd (inb x1 100) (
        some (Z_2.1 40 0 0 x1.toNatClampNeg, Z_2)))
    else (
      some ((0 : Int32), Z_2)))
  else (
    ltb (wI Z 10 6 0 0 (0 : Int32)) fun Z_4 =>
    if (Z_4.1 10 6 0 0) ≤ 0 then (
      gd (inb x1 100) (
        some (Z_4.1 40 0 0 x1.toNatClampNeg, Z_4)))
    else (
      some ((0 : Int32), Z_4)))
