def fX9_append (x1 : Int32) (x2 : Int32) (x3 : Int32) (x4 : Int32) (x5 : Int32) (A : sM) : Option ((Nat ⊕ Int32) × sM) :=
  Option.bind (fX5_hasRoomFor (20 : Int32) A) fun r_1 =>
  if r_1 = 0 then (
    some (.inl 2, A))
  else (
    Option.bind (fX5_addWord x1 A) fun A_2 =>
    Option.bind (fX5_addWord x2 A_2) fun A_3 =>
    Option.bind (fX5_addWord x3 A_3) fun A_4 =>
    Option.bind (fX5_addWord x4 A_4) fun A_5 =>
    Option.bind (fX5_addWord x5 A_5) fun A_6 =>
    some (.inr (A_6.1 5 1 0 0), A_6))
def fX9_load (x1 : Int32) (A : sM) : Option ((Nat ⊕ Int32) × sM) :=
  if x1 < 0 then (
    some (.inl 1, A))
  else (
    if x1 ≤ (A.1 5 1 0 0) then (
      bd2 (fX5_read x1 A) fun r_2 A_1 =>
      if r_2 = 0 then (
        ltb (wI A_1 9 7 0 0 (-1 : Int32)) fun A_3 =>
        Option.bind (fX6_keep A_3) fun A_4 =>
        Option.bind (fX0_beginWith 0 7 A_4) fun A_6 =>
        some (.inr (A_6.1 4 4 0 0), A_6))
      else (
        ltb (wI A_1 9 7 0 0 (A_1.1 5 3 0 0)) fun A_8 =>
        some (.inr r_2, A_8)))
    else (
      some (.inl 1, A)))
def fX9_setting (x1 : Int32) (A : sM) : Option ((Nat ⊕ Int32) × sM) :=
  if x1 = (0 : Int32) then (
    some (.inr (A.1 4 0 0 0), A))
  else (if x1 = (1 : Int32) then (
    some (.inr (A.1 4 1 0 0), A))
  else (if x1 = (2 : Int32) then (
    some (.inr (A.1 4 2 0 0), A))
  else (if x1 = (3 : Int32) then (
    some (.inr (A.1 4 3 0 0), A))
  else (if x1 = (4 : Int32) then (
    some (.inr (A.1 4 4 0 0), A))
  else (if x1 = (5 : Int32) then (
    Option.bind (fX4_greatestHolding 0 A) fun r_1 =>
    some (.inr r_1, A))
  else (
    some (.inl 1, A)))))))
def fX9_periodOf (x1 : Int32) (A : sM) : Option ((Nat ⊕ Int32) × sM) :=
  rq (fX9_requireHour x1 A) (fun e => some (.inl e, A)) (
    gd (inb x1 24) (
      some (.inr (A.1 19 0 0 x1.toNatClampNeg), A)))
def fX9_join (x1 : Int32) (x2 : Int32) (x3 : Int32) (A : sM) : Option ((Nat ⊕ Int32) × sM) :=
  if x1 < (1 : Int32) then (
    some (.inl 1, A))
  else (
    if x1 ≤ (A.1 4 0 0 0) then (
      if x2 < (1 : Int32) then (
        some (.inl 1, A))
      else (
        if x2 ≤ x1 then (
          if x3 < 0 then (
            some (.inl 1, A))
          else (
            if x3 ≤ (9 : Int32) then (
              if (A.1 0 3 0 0) < (16 : Int32) then (
                Option.bind (fX6_keep A) fun A_1 =>
                bd2 (fX0_enrol 0 x1 x2 x3 A_1) fun r_4 A_3 =>
                some (.inr r_4, A_3))
              else (
                some (.inl 2, A)))
            else (
              some (.inl 1, A))))
        else (
          some (.inl 1, A))))
    else (
      some (.inl 1, A)))
def fX9_more (x1 : Int32) (x2 : Int32) (A : sM) : Option ((Nat ⊕ Int32) × sM) :=
  rq (fX9_requireSubscriber x1 A) (fun e => some (.inl e, A)) (
    rq (fX9_requireCount x2 A) (fun e => some (.inl e, A)) (
      rq (fX9_requireActive x1 A) (fun e => some (.inl e, A)) (
        gd (inb x1 16) (
          Option.bind (fX0_unheldShares 0 A) fun r_2 =>
          if x2 ≤ r_2 then (
            rq (fX9_requireRoomForShares (16 * 0 + x1.toNatClampNeg) x2 A) (fun e => some (.inl e, A)) (
              Option.bind (fX6_keep A) fun A_3 =>
              ltb (wI A_3 8 4 (16 * 0 + x1.toNatClampNeg) 0 ((A_3.1 8 4 (16 * 0 + x1.toNatClampNeg) 0) + x2)) fun A_5 =>
              some (.inr (A_5.1 8 4 (16 * 0 + x1.toNatClampNeg) 0), A_5)))
          else (
            some (.inl 2, A))))))
def fX9_reduce (x1 : Int32) (x2 : Int32) (A : sM) : Option ((Nat ⊕ Int32) × sM) :=
  rq (fX9_requireSubscriber x1 A) (fun e => some (.inl e, A)) (
    rq (fX9_requireCount x2 A) (fun e => some (.inl e, A)) (
      rq (fX9_requireActive x1 A) (fun e => some (.inl e, A)) (
        gd (inb x1 16) (
          rq (fX9_requireShareKept (16 * 0 + x1.toNatClampNeg) x2 A) (fun e => some (.inl e, A)) (
            Option.bind (fX6_keep A) fun A_2 =>
            ltb (wI A_2 8 4 (16 * 0 + x1.toNatClampNeg) 0 ((A_2.1 8 4 (16 * 0 + x1.toNatClampNeg) 0) - x2)) fun A_4 =>
            Option.bind (fX0_goThroughWaitingList 0 A_4) fun A_5 =>
            Option.bind (fX0_unheldShares 0 A_5) fun r_6 =>
            some (.inr r_6, A_5))))))
def fX9_transfer (x1 : Int32) (x2 : Int32) (x3 : Int32) (A : sM) : Option ((Nat ⊕ Int32) × sM) :=
  rq (fX9_requireSubscriber x1 A) (fun e => some (.inl e, A)) (
    rq (fX9_requireSubscriber x2 A) (fun e => some (.inl e, A)) (
      rq (fX9_requireDifferent x1 x2 A) (fun e => some (.inl e, A)) (
        rq (fX9_requireCount x3 A) (fun e => some (.inl e, A)) (
          rq (fX9_requireActive x1 A) (fun e => some (.inl e, A)) (
            rq (fX9_requireActive x2 A) (fun e => some (.inl e, A)) (
              gd (inb x1 16) (
                gd (inb x2 16) (
                  rq (fX9_requireShareKept (16 * 0 + x1.toNatClampNeg) x3 A) (fun e => some (.inl e, A)) (
                    rq (fX9_requireRoomForShares (16 * 0 + x2.toNatClampNeg) x3 A) (fun e => some (.inl e, A)) (
                      Option.bind (fX6_keep A) fun A_3 =>
                      ltb (wI A_3 8 4 (16 * 0 + x1.toNatClampNeg) 0 ((A_3.1 8 4 (16 * 0 + x1.toNatClampNeg) 0) - x3)) fun A_5 =>
                      ltb (wI A_5 8 4 (16 * 0 + x2.toNatClampNeg) 0 ((A_5.1 8 4 (16 * 0 + x2.toNatClampNeg) 0) + x3)) fun A_6 =>
                      some (.inr (A_6.1 8 4 (16 * 0 + x2.toNatClampNeg) 0), A_6)))))))))))
def fX9_assign (x1 : Int32) (x2 : Int32) (x3 : Int32) (A : sM) : Option ((Nat ⊕ Unit) × sM) :=
  rq (fX9_requireSubscriber x1 A) (fun e => some (.inl e, A)) (
    rq (fX9_requireSubscriber x2 A) (fun e => some (.inl e, A)) (
      rq (fX9_requireDifferent x1 x2 A) (fun e => some (.inl e, A)) (
        if x3 < 0 then (
          some (.inl 1, A))
        else (
          if x3 ≤ (100 : Int32) then (
            ltb (α := Option ((Nat ⊕ Unit) × sM)) (
              rq (fX9_requireActive x1 A) (fun e => some (.inl e, A)) (
                rq (fX9_requireActive x2 A) (fun e => some (.inl e, A)) (
                  Option.bind (fX6_keep A) fun A_2 =>
                  gd (inb x1 16) (
                    Option.bind (fX8_setAssignment (16 * 0 + x1.toNatClampNeg) x2 x3 A_2) fun A_5 =>
                    some (.inr (), A_5))))) fun kj_1 =>
            if x3 ≤ 0 then (
              kj_1)
            else (
              Option.bind (fX0_passesOnTo 0 x2 x1 A) fun r_9 =>
              if r_9 = 0 then (
                kj_1)
              else (
                some (.inl 1, A))))
          else (
            some (.inl 1, A))))))
def fX9_leave (x1 : Int32) (A : sM) : Option ((Nat ⊕ Int64) × sM) :=
  rq (fX9_requireSubscriber x1 A) (fun e => some (.inl e, A)) (
    gd (inb x1 16) (
      if (A.1 8 0 (16 * 0 + x1.toNatClampNeg) 0) = (2 : Int32) then (
        some (.inl 2, A))
      else (
        Option.bind (fX6_keep A) fun A_2 =>
        Option.bind (fX0_letGo 0 x1 A_2) fun A_4 =>
        gd (inb x1 16) (
          some (.inr (A_4.2 26 0 (16 * 0 + x1.toNatClampNeg) (3 : Int32).toNatClampNeg), A_4)))))
def fX9_state (x1 : Int32) (A : sM) : Option ((Nat ⊕ Int32) × sM) :=
  rq (fX9_requireSubscriber x1 A) (fun e => some (.inl e, A)) (
    gd (inb x1 16) (
      some (.inr (A.1 8 0 (16 * 0 + x1.toNatClampNeg) 0), A)))
def fX9_shares (x1 : Int32) (A : sM) : Option ((Nat ⊕ Int32) × sM) :=
  rq (fX9_requireSubscriber x1 A) (fun e => some (.inl e, A)) (
    gd (inb x1 16) (
      some (.inr (A.1 8 4 (16 * 0 + x1.toNatClampNeg) 0), A)))
def fX9_waitingPlace (x1 : Int32) (A : sM) : Option ((Nat ⊕ Int32) × sM) :=
  rq (fX9_requireSubscriber x1 A) (fun e => some (.inl e, A)) (
    Option.bind (fX0_placeOnWaitingList 0 x1 A) fun r_1 =>
    some (.inr r_1, A))
def fX9_passDays (x1 : Int32) (A : sM) : Option ((Nat ⊕ Int32) × sM) :=
  if x1 < (1 : Int32) then (
    some (.inl 1, A))
  else (
    if x1 ≤ (30 : Int32) then (
      if x1 ≤ ((30 : Int32) - (A.1 0 5 0 0)) then (
        Option.bind (fX6_keep A) fun A_1 =>
        Option.bind (fX0_addDays 0 x1 A_1) fun A_3 =>
        some (.inr (A_3.1 0 5 0 0), A_3))
      else (
        some (.inl 2, A)))
    else (
      some (.inl 1, A)))
def fX9_generate (x1 : Int32) (x2 : Int32) (A : sM) : Option ((Nat ⊕ Int32) × sM) :=
  rq (fX9_requireHour x1 A) (fun e => some (.inl e, A)) (
    if x2 < (1 : Int32) then (
      some (.inl 1, A))
    else (
      if x2 ≤ (1000000000 : Int32) then (
        gd (inb x1 24) (
          Option.bind (fX7_cell (A.1 0 4 0 0) (A.1 19 0 0 x1.toNatClampNeg) A) fun r_2 =>
          gd (inb r_2 240) (
            if x2 ≤ ((1000000000 : Int32) - (A.1 22 0 0 r_2.toNatClampNeg)) then (
              Option.bind (fX6_keep A) fun A_4 =>
              gd (inb r_2 240) (
                gd (inb r_2 240) (
                  ltb (wI A_4 22 0 0 r_2.toNatClampNeg ((A_4.1 22 0 0 r_2.toNatClampNeg) + x2)) fun A_8 =>
                  gd (inb r_2 240) (
                    some (.inr (A_8.1 22 0 0 r_2.toNatClampNeg), A_8)))))
            else (
              some (.inl 2, A)))))
      else (
        some (.inl 1, A))))
def fX9_bill (x1 : Int32) (x2 : Int32) (A : sM) : Option ((Nat ⊕ Int64) × sM) :=
  rq (fX9_requireSubscriber x1 A) (fun e => some (.inl e, A)) (
    if x2 < (1 : Int32) then (
      some (.inl 1, A))
    else (
      if x2 ≤ (1000000000 : Int32) then (
        rq (fX9_requireActive x1 A) (fun e => some (.inl e, A)) (
          gd (inb x1 16) (
            if (x2.toInt64) ≤ ((10000000000 : Int64) - (A.2 26 0 (16 * 0 + x1.toNatClampNeg) (1 : Int32).toNatClampNeg)) then (
              Option.bind (fX6_keep A) fun A_3 =>
              ltb (wL A_3 26 0 (16 * 0 + x1.toNatClampNeg) (1 : Int32).toNatClampNeg ((A_3.2 26 0 (16 * 0 + x1.toNatClampNeg) (1 : Int32).toNatClampNeg) + (x2.toInt64))) fun A_7 =>
              some (.inr (A_7.2 26 0 (16 * 0 + x1.toNatClampNeg) (1 : Int32).toNatClampNeg), A_7))
            else (
              some (.inl 2, A)))))
      else (
        some (.inl 1, A))))
def fX9_endMonth (A : sM) : Option ((Nat ⊕ Int64) × sM) :=
  if (30 : Int32) ≤ (A.1 0 5 0 0) then (
    if (A.1 0 4 0 0) < (59 : Int32) then (
      Option.bind (fX6_keep A) fun A_1 =>
      Option.bind (fX0_valueOfMonth 0 (A_1.1 0 4 0 0) A_1) fun r_3 =>
      Option.bind (fX3_weighShareDays 0 (A_1.1 0 4 0 0) (0 : Int32) A_1) fun A_4 =>
      Option.bind (fX3_divide r_3 A_4) fun A_5 =>
      Option.bind (fX1_passOn 0 A_5) fun A_6 =>
      Option.bind (fX0_closeMonth 0 A_6) fun A_7 =>
      some (.inr r_3, A_7))
    else (
      some (.inl 2, A)))
  else (
    some (.inl 2, A))
def fX9_generation (x1 : Int32) (x2 : Int32) (A : sM) : Option ((Nat ⊕ Int32) × sM) :=
  rq (fX9_requireMonth x1 A) (fun e => some (.inl e, A)) (
    rq (fX9_requirePeriod x2 A) (fun e => some (.inl e, A)) (
      Option.bind (fX7_cell x1 x2 A) fun r_1 =>
      gd (inb r_1 240) (
        some (.inr (A.1 22 0 0 r_1.toNatClampNeg), A))))
def fX9_shareDays (x1 : Int32) (x2 : Int32) (A : sM) : Option ((Nat ⊕ Int32) × sM) :=
  rq (fX9_requireMonth x1 A) (fun e => some (.inl e, A)) (
    rq (fX9_requireParticipant x2 A) (fun e => some (.inl e, A)) (
      if x2 = (-1 : Int32) then (
        Option.bind (fX0_operatorShareDays 0 x1 A) fun r_3 =>
        some (.inr r_3, A))
      else (
        gd (inb x2 16) (
          gd (inb x1 60) (
            some (.inr (A.1 24 0 (16 * 0 + x2.toNatClampNeg) x1.toNatClampNeg), A))))))
def fX9_projectedPart (x1 : Int32) (A : sM) : Option ((Nat ⊕ Int64) × sM) :=
  rq (fX9_requireParticipant x1 A) (fun e => some (.inl e, A)) (
    Option.bind (fX9_weighProjected A) fun A_1 =>
    Option.bind (fX0_valueOfMonth 0 (A_1.1 0 4 0 0) A_1) fun r_2 =>
    Option.bind (fX3_divide r_2 A_1) fun A_3 =>
    Option.bind (fX9_placeOf x1 A_3) fun r_4 =>
    gd (inb r_4 17) (
      some (.inr (A_3.2 17 0 0 r_4.toNatClampNeg), A_3)))
def fX9_projectedCredit (x1 : Int32) (A : sM) : Option ((Nat ⊕ Int64) × sM) :=
  rq (fX9_requireSubscriber x1 A) (fun e => some (.inl e, A)) (
    Option.bind (fX9_weighProjected A) fun A_1 =>
    Option.bind (fX0_valueOfMonth 0 (A_1.1 0 4 0 0) A_1) fun r_2 =>
    Option.bind (fX3_divide r_2 A_1) fun A_3 =>
    Option.bind (fX1_passOn 0 A_3) fun A_4 =>
    gd (inb x1 16) (
      some (.inr (A_4.2 13 0 0 x1.toNatClampNeg), A_4)))
def fX9_forecastBalance_L176 (x1 : Int32) (x2 : Int32) (x5 : Int64) (k236 : sM → Option ((Nat ⊕ Int64) × sM)) : Nat → Int32 → sM → Option ((Nat ⊕ Int64) × sM)
  | 0, _, _ => none
  | n + 1, x7, A =>
    if x2 ≤ x7 then (
      k236 A)
    else (
      ltb (wL A 26 0 112 (1 : Int32).toNatClampNeg x5) fun A_2 =>
      gd (inb x1 16) (
        bd2 (fX8_finishMonth 112 (A_2.2 13 0 0 x1.toNatClampNeg) ((A_2.1 0 4 0 0) + x7) (A_2.1 4 1 0 0) A_2) fun r_5 A_4 =>
        ltb (x7 + (1 : Int32)) fun x7_6 =>
        fX9_forecastBalance_L176 x1 x2 x5 k236 n x7_6 A_4))
def fX9_forecastBalance (x1 : Int32) (x2 : Int32) (A : sM) : Option ((Nat ⊕ Int64) × sM) :=
  rq (fX9_requireSubscriber x1 A) (fun e => some (.inl e, A)) (
    if x2 < (1 : Int32) then (
      some (.inl 1, A))
    else (
      if x2 ≤ (12 : Int32) then (
        gd (inb x1 16) (
          Option.bind (fX8_copyFrom 112 (16 * 0 + x1.toNatClampNeg) A) fun A_2 =>
          Option.bind (fX0_valueOfMonth 0 (A_2.1 0 4 0 0) A_2) fun r_3 =>
          ltb (A_2.2 26 0 112 (1 : Int32).toNatClampNeg) fun x5_5 =>
          Option.bind (fX9_weighProjected A_2) fun A_6 =>
          Option.bind (fX3_divide r_3 A_6) fun A_7 =>
          Option.bind (fX1_passOn 0 A_7) fun A_8 =>
          gd (inb x1 16) (
            bd2 (fX8_finishMonth 112 (A_8.2 13 0 0 x1.toNatClampNeg) (A_8.1 0 4 0 0) (A_8.1 4 1 0 0) A_8) fun r_11 A_10 =>
            Option.bind (fX3_weighShareDays 0 (-1 : Int32) (30 : Int32) A_10) fun A_12 =>
            Option.bind (fX3_divide r_3 A_12) fun A_13 =>
            Option.bind (fX1_passOn 0 A_13) fun A_14 =>
            fX9_forecastBalance_L176 x1 x2 x5_5 (fun (A_15 : sM) =>
              Option.bind (fX8_lotSum 112 A_15) fun r_16 =>
              some (.inr r_16, A_15)) 10000 (1 : Int32) A_14)))
      else (
        some (.inl 1, A))))
def fX9_neededRate_L81 (x3 : Int64) (x5 : Int32) (x6 : Int64) (x8 : Int64) (k120 : Int32 → sM → Option ((Nat ⊕ Int32) × sM)) (k129 : sM → Option ((Nat ⊕ Int32) × sM)) : Nat → Int32 → sM → Option ((Nat ⊕ Int32) × sM)
  | 0, _, _ => none
  | n + 1, x10, A =>
    if (200 : Int32) < x10 then (
      k129 A)
    else (
      Option.bind (fX3_divide (x8 + (x6 * (x10.toInt64))) A) fun A_1 =>
      gd (inb x5 17) (
        if (A_1.2 17 0 0 x5.toNatClampNeg) < x3 then (
          ltb (x10 + (1 : Int32)) fun x10_3 =>
          fX9_neededRate_L81 x3 x5 x6 x8 k120 k129 n x10_3 A_1)
        else (
          k120 x10 A_1)))
def fX9_neededRate (x1 : Int32) (x2 : Int32) (x3 : Int64) (A : sM) : Option ((Nat ⊕ Int32) × sM) :=
  rq (fX9_requireParticipant x1 A) (fun e => some (.inl e, A)) (
    rq (fX9_requirePeriod x2 A) (fun e => some (.inl e, A)) (
      Option.bind (fX9_placeOf x1 A) fun r_1 =>
      Option.bind (fX7_cell (A.1 0 4 0 0) x2 A) fun r_2 =>
      gd (inb r_2 240) (
        ltb ((A.1 22 0 0 r_2.toNatClampNeg).toInt64) fun x6_4 =>
        Option.bind (fX0_valueOfMonth 0 (A.1 0 4 0 0) A) fun r_5 =>
        gd (inb x2 4) (
          ltb (r_5 - (x6_4 * ((A.1 18 0 0 x2.toNatClampNeg).toInt64))) fun x8_7 =>
          Option.bind (fX9_weighProjected A) fun A_8 =>
          fX9_neededRate_L81 x3 r_1 x6_4 x8_7 (fun (x10_9 : Int32) (A_10 : sM) =>
            some (.inr x10_9, A_10)) (fun (A_11 : sM) =>
            some (.inl 3, A_11)) 10000 (0 : Int32) A_8))))
def fX9_issued (x1 : Int32) (A : sM) : Option ((Nat ⊕ Int64) × sM) :=
  rq (fX9_requireMonth x1 A) (fun e => some (.inl e, A)) (
    Option.bind (fX0_valueOfMonth 0 x1 A) fun r_1 =>
    some (.inr r_1, A))
def fX9_shareDayValue (x1 : Int32) (x2 : Int32) (A : sM) : Option ((Nat ⊕ Int64) × sM) :=
  rq (fX9_requireMonth x1 A) (fun e => some (.inl e, A)) (
    Option.bind (fX0_valueOfMonth 0 x1 A) fun r_1 =>
    Option.bind (fX4_monthShareDays 0 A) fun r_2 =>
    ltb (r_2.toInt64) fun x5_3 =>
    Option.bind (fX9_greatestDivisor r_1 x5_3 A) fun r_4 =>
    if x2 = 0 then (
      gd (nzL r_4) (
        some (.inr (r_1 / r_4), A)))
    else (
      gd (nzL r_4) (
        some (.inr (x5_3 / r_4), A))))
def fX9_neededShares (x1 : Int64) (A : sM) : Option ((Nat ⊕ Int32) × sM) :=
  if (0 : Int64) ≤ x1 then (
    Option.bind (fX0_valueOfMonth 0 (A.1 0 4 0 0) A) fun r_1 =>
    if x1 ≤ r_1 then (
      if x1 = (0 : Int64) then (
        some (.inr (1 : Int32), A))
      else (
        if (1 : Int64) ≤ r_1 then (
          gd (nzL r_1) (
            some (.inr (((((x1 * ((A.1 4 0 0 0).toInt64)) + r_1) - (1 : Int64)) / r_1).toInt32), A)))
        else (
          some (.inr (1 : Int32), A))))
    else (
      some (.inl 3, A)))
  else (
    some (.inl 1, A))
def fX9_balance (x1 : Int32) (A : sM) : Option ((Nat ⊕ Int64) × sM) :=
  rq (fX9_requireSubscriber x1 A) (fun e => some (.inl e, A)) (
    gd (inb x1 16) (
      Option.bind (fX8_lotSum (16 * 0 + x1.toNatClampNeg) A) fun r_2 =>
      some (.inr r_2, A)))
def fX9_lot (x1 : Int32) (x2 : Int32) (A : sM) : Option ((Nat ⊕ Int64) × sM) :=
  rq (fX9_requireSubscriber x1 A) (fun e => some (.inl e, A)) (
    rq (fX9_requireMonth x2 A) (fun e => some (.inl e, A)) (
      gd (inb x1 16) (
        gd (inb x2 72) (
          some (.inr (A.2 25 0 (16 * 0 + x1.toNatClampNeg) x2.toNatClampNeg), A)))))
def fX9_account (x1 : Int32) (x2 : Int32) (A : sM) : Option ((Nat ⊕ Int64) × sM) :=
  rq (fX9_requireSubscriber x1 A) (fun e => some (.inl e, A)) (
    if x2 < 0 then (
      some (.inl 1, A))
    else (
      if x2 < (6 : Int32) then (
        gd (inb x1 16) (
          gd (inb x2 6) (
            some (.inr (A.2 26 0 (16 * 0 + x1.toNatClampNeg) x2.toNatClampNeg), A))))
      else (
        some (.inl 1, A))))
def fX9_expiring (x1 : Int32) (A : sM) : Option ((Nat ⊕ Int64) × sM) :=
  rq (fX9_requireSubscriber x1 A) (fun e => some (.inl e, A)) (
    gd (inb x1 16) (
      Option.bind (fX8_copyFrom 112 (16 * 0 + x1.toNatClampNeg) A) fun A_2 =>
      bd2 (fX8_payFromLots 112 (A_2.2 26 0 112 (1 : Int32).toNatClampNeg) A_2) fun r_5 A_4 =>
      bd2 (fX8_takeExpiredLot 112 ((A_4.1 0 4 0 0) - (A_4.1 4 1 0 0)) A_4) fun r_7 A_6 =>
      some (.inr r_7, A_6)))
def fX9_monthsCovered_L53 (x2 : Int64) (x4 : Int32) (k72 : Int32 → sM → Option ((Nat ⊕ Int32) × sM)) (k111 : sM → Option ((Nat ⊕ Int32) × sM)) : Nat → Int32 → sM → Option ((Nat ⊕ Int32) × sM)
  | 0, _, _ => none
  | n + 1, x5, A =>
    if x4 < x5 then (
      k111 A)
    else (
      Option.bind (fX8_lotSum 112 A) fun r_1 =>
      if x2 ≤ r_1 then (
        bd2 (fX8_payFromLots 112 x2 A) fun r_3 A_2 =>
        bd2 (fX8_takeExpiredLot 112 (((A_2.1 0 4 0 0) + x5) - x4) A_2) fun r_5 A_4 =>
        ltb (x5 + (1 : Int32)) fun x5_6 =>
        fX9_monthsCovered_L53 x2 x4 k72 k111 n x5_6 A_4)
      else (
        k72 x5 A))
def fX9_monthsCovered (x1 : Int32) (x2 : Int64) (A : sM) : Option ((Nat ⊕ Int32) × sM) :=
  rq (fX9_requireSubscriber x1 A) (fun e => some (.inl e, A)) (
    if (1 : Int64) ≤ x2 then (
      gd (inb x1 16) (
        Option.bind (fX8_copyFrom 112 (16 * 0 + x1.toNatClampNeg) A) fun A_2 =>
        ltb (A_2.1 4 1 0 0) fun x4_3 =>
        fX9_monthsCovered_L53 x2 x4_3 (fun (x5_4 : Int32) (A_5 : sM) =>
          some (.inr x5_4, A_5)) (fun (A_6 : sM) =>
          some (.inr (x4_3 + (1 : Int32)), A_6)) 10000 (0 : Int32) A_2))
    else (
      some (.inl 1, A)))
def fX9_correct (x1 : Int32) (x2 : Int32) (x3 : Int32) (A : sM) : Option ((Nat ⊕ Int32) × sM) :=
  if x1 < 0 then (
    some (.inl 0, A))
  else (
    if x1 < (A.1 0 4 0 0) then (
      rq (fX9_requirePeriod x2 A) (fun e => some (.inl e, A)) (
        if x3 < 0 then (
          some (.inl 1, A))
        else (
          if x3 ≤ (1000000000 : Int32) then (
            Option.bind (fX6_keep A) fun A_1 =>
            Option.bind (fX7_cell x1 x2 A_1) fun r_3 =>
            gd (inb r_3 240) (
              gd (inb r_3 240) (
                ltb (wI A_1 23 0 0 r_3.toNatClampNeg (x3 - (A_1.1 22 0 0 r_3.toNatClampNeg))) fun A_6 =>
                gd (inb r_3 240) (
                  some (.inr (A_6.1 22 0 0 r_3.toNatClampNeg), A_6)))))
          else (
            some (.inl 1, A)))))
    else (
      some (.inl 0, A)))
def fX9_trueUp_L15 (k126 : Int64 → sM → Option ((Nat ⊕ Int64) × sM)) : Nat → Int64 → Int32 → sM → Option ((Nat ⊕ Int64) × sM)
  | 0, _, _, _ => none
  | n + 1, x1, x3, A =>
    if (A.1 0 4 0 0) ≤ x3 then (
      k126 x1 A)
    else (
      Option.bind (fX7_correctionValue 0 x3 0 A) fun r_1 =>
      ltb (α := sM → Option ((Nat ⊕ Int64) × sM)) (fun (A_2 : sM) =>
        Option.bind (fX7_countCorrections 0 x3 A_2) fun A_4 =>
        ltb (x1 + r_1) fun x1_5 =>
        ltb (x3 + (1 : Int32)) fun x3_6 =>
        fX9_trueUp_L15 k126 n x1_5 x3_6 A_4) fun kj_3 =>
      if r_1 = (0 : Int64) then (
        kj_3 A)
      else (
        Option.bind (fX3_weighShareDays 0 x3 (0 : Int32) A) fun A_8 =>
        Option.bind (fX3_divide (if 0 < r_1 then r_1 else -r_1) A_8) fun A_9 =>
        ltb (α := Int32 → Option ((Nat ⊕ Int64) × sM)) (fun (v_10 : Int32) =>
          Option.bind (fX0_settleTrueUp 0 v_10 A_9) fun A_12 =>
          kj_3 A_12) fun kj_11 =>
        if r_1 ≤ (0 : Int64) then (
          kj_11 (0 : Int32))
        else (
          kj_11 (1 : Int32))))
def fX9_trueUp (A : sM) : Option ((Nat ⊕ Int64) × sM) :=
  Option.bind (fX6_keep A) fun A_1 =>
  fX9_trueUp_L15 (fun (x1_3 : Int64) (A_4 : sM) =>
    some (.inr x1_3, A_4)) 10000 (0 : Int64) (0 : Int32) A_1
def fX9_shareFund (A : sM) : Option ((Nat ⊕ Int64) × sM) :=
  if (0 : Int64) < (A.2 0 6 0 0) then (
    Option.bind (fX0_heldShares 0 A) fun r_1 =>
    if (1 : Int32) ≤ r_1 then (
      Option.bind (fX6_keep A) fun A_2 =>
      ltb (A_2.2 0 6 0 0) fun x1_4 =>
      Option.bind (fX3_weighHeldShares 0 A_2) fun A_5 =>
      Option.bind (fX3_divide x1_4 A_5) fun A_6 =>
      ltb (wL A_6 0 6 0 0 (0 : Int64)) fun A_7 =>
      Option.bind (fX0_creditParts 0 A_7) fun A_8 =>
      some (.inr x1_4, A_8))
    else (
      some (.inl 2, A)))
  else (
    some (.inl 2, A))
def fX9_describe (x1 : Int32) (A : sM) : Option ((Nat ⊕ Int32) × sM) :=
  rq (fX9_requireSubscriber x1 A) (fun e => some (.inl e, A)) (
    Option.bind (fX2_write 0 x1 A) fun A_1 =>
    some (.inr (A_1.1 2 1 0 0), A_1))
def fX9_describedByte (x1 : Int32) (A : sM) : Option ((Nat ⊕ Int32) × sM) :=
  if x1 < 0 then (
    some (.inl 0, A))
  else (
    if x1 < (A.1 2 1 0 0) then (
      gd (inb x1 80) (
        some (.inr (A.1 14 0 0 x1.toNatClampNeg), A)))
    else (
      some (.inl 0, A)))
def fX9_undo (A : sM) : Option ((Nat ⊕ Int32) × sM) :=
  if (1 : Int32) ≤ (A.1 6 2 0 0) then (
    Option.bind (fX6_restore A) fun A_1 =>
    some (.inr (A_1.1 6 2 0 0), A_1))
  else (
    some (.inl 2, A))
def fL_append (x1 : Int32) (x2 : Int32) (x3 : Int32) (x4 : Int32) (x5 : Int32) (A : sM) : Option (Int32 × sM) :=
  xc (fX9_append x1 x2 x3 x4 x5 A) (fun e A1 => if e = 2 then some ((1 : Int32), A1) else none) (fun v A1 =>
    ltb (wL A1 41 0 0 (0 : Int32).toNatClampNeg (v.toInt64)) fun A2 =>
    some ((0 : Int32), A2))
def fL_load (x1 : Int32) (A : sM) : Option (Int32 × sM) :=
  xc (fX9_load x1 A) (fun e A1 => if e = 1 then some ((1 : Int32), A1) else none) (fun v A1 =>
    ltb (wL A1 41 0 0 (0 : Int32).toNatClampNeg (v.toInt64)) fun A2 =>
    some ((0 : Int32), A2))
def fL_setting (x1 : Int32) (A : sM) : Option (Int32 × sM) :=
  xc (fX9_setting x1 A) (fun e A1 => if e = 1 then some ((1 : Int32), A1) else none) (fun v A1 =>
    ltb (wL A1 41 0 0 (0 : Int32).toNatClampNeg (v.toInt64)) fun A2 =>
    some ((0 : Int32), A2))
def fL_periodOf (x1 : Int32) (A : sM) : Option (Int32 × sM) :=
  xc (fX9_periodOf x1 A) (fun e A1 => if e = 0 then some ((1 : Int32), A1) else none) (fun v A1 =>
    ltb (wL A1 41 0 0 (0 : Int32).toNatClampNeg (v.toInt64)) fun A2 =>
    some ((0 : Int32), A2))
def fL_join (x1 : Int32) (x2 : Int32) (x3 : Int32) (A : sM) : Option (Int32 × sM) :=
  xc (fX9_join x1 x2 x3 A) (fun e A1 => if e = 1 then some ((1 : Int32), A1) else if e = 2 then some ((2 : Int32), A1) else none) (fun v A1 =>
    ltb (wL A1 41 0 0 (0 : Int32).toNatClampNeg (v.toInt64)) fun A2 =>
    some ((0 : Int32), A2))
def fL_more (x1 : Int32) (x2 : Int32) (A : sM) : Option (Int32 × sM) :=
  xc (fX9_more x1 x2 A) (fun e A1 => if e = 0 then some ((1 : Int32), A1) else if e = 1 then some ((2 : Int32), A1) else if e = 2 then some ((3 : Int32), A1) else none) (fun v A1 =>
    ltb (wL A1 41 0 0 (0 : Int32).toNatClampNeg (v.toInt64)) fun A2 =>
    some ((0 : Int32), A2))
def fL_reduce (x1 : Int32) (x2 : Int32) (A : sM) : Option (Int32 × sM) :=
  xc (fX9_reduce x1 x2 A) (fun e A1 => if e = 0 then some ((1 : Int32), A1) else if e = 1 then some ((2 : Int32), A1) else if e = 2 then some ((3 : Int32), A1) else none) (fun v A1 =>
    ltb (wL A1 41 0 0 (0 : Int32).toNatClampNeg (v.toInt64)) fun A2 =>
    some ((0 : Int32), A2))
def fL_transfer (x1 : Int32) (x2 : Int32) (x3 : Int32) (A : sM) : Option (Int32 × sM) :=
  xc (fX9_transfer x1 x2 x3 A) (fun e A1 => if e = 0 then some ((1 : Int32), A1) else if e = 1 then some ((2 : Int32), A1) else if e = 2 then some ((3 : Int32), A1) else none) (fun v A1 =>
    ltb (wL A1 41 0 0 (0 : Int32).toNatClampNeg (v.toInt64)) fun A2 =>
    some ((0 : Int32), A2))
def fL_assign (x1 : Int32) (x2 : Int32) (x3 : Int32) (A : sM) : Option (Int32 × sM) :=
  xc (fX9_assign x1 x2 x3 A) (fun e A1 => if e = 0 then some ((1 : Int32), A1) else if e = 1 then some ((2 : Int32), A1) else if e = 2 then some ((3 : Int32), A1) else none) (fun _ A1 =>
    some ((0 : Int32), A1))
def fL_leave (x1 : Int32) (A : sM) : Option (Int32 × sM) :=
  xc (fX9_leave x1 A) (fun e A1 => if e = 0 then some ((1 : Int32), A1) else if e = 2 then some ((2 : Int32), A1) else none) (fun v A1 =>
    ltb (wL A1 41 0 0 (0 : Int32).toNatClampNeg v) fun A2 =>
    some ((0 : Int32), A2))
def fL_state (x1 : Int32) (A : sM) : Option (Int32 × sM) :=
  xc (fX9_state x1 A) (fun e A1 => if e = 0 then some ((1 : Int32), A1) else none) (fun v A1 =>
    ltb (wL A1 41 0 0 (0 : Int32).toNatClampNeg (v.toInt64)) fun A2 =>
    some ((0 : Int32), A2))
def fL_shares (x1 : Int32) (A : sM) : Option (Int32 × sM) :=
  xc (fX9_shares x1 A) (fun e A1 => if e = 0 then some ((1 : Int32), A1) else none) (fun v A1 =>
    ltb (wL A1 41 0 0 (0 : Int32).toNatClampNeg (v.toInt64)) fun A2 =>
    some ((0 : Int32), A2))
def fL_waitingPlace (x1 : Int32) (A : sM) : Option (Int32 × sM) :=
  xc (fX9_waitingPlace x1 A) (fun e A1 => if e = 0 then some ((1 : Int32), A1) else none) (fun v A1 =>
    ltb (wL A1 41 0 0 (0 : Int32).toNatClampNeg (v.toInt64)) fun A2 =>
    some ((0 : Int32), A2))
def fL_passDays (x1 : Int32) (A : sM) : Option (Int32 × sM) :=
  xc (fX9_passDays x1 A) (fun e A1 => if e = 1 then some ((1 : Int32), A1) else if e = 2 then some ((2 : Int32), A1) else none) (fun v A1 =>
    ltb (wL A1 41 0 0 (0 : Int32).toNatClampNeg (v.toInt64)) fun A2 =>
    some ((0 : Int32), A2))
def fL_generate (x1 : Int32) (x2 : Int32) (A : sM) : Option (Int32 × sM) :=
  xc (fX9_generate x1 x2 A) (fun e A1 => if e = 0 then some ((1 : Int32), A1) else if e = 1 then some ((2 : Int32), A1) else if e = 2 then some ((3 : Int32), A1) else none) (fun v A1 =>
    ltb (wL A1 41 0 0 (0 : Int32).toNatClampNeg (v.toInt64)) fun A2 =>
    some ((0 : Int32), A2))
def fL_bill (x1 : Int32) (x2 : Int32) (A : sM) : Option (Int32 × sM) :=
  xc (fX9_bill x1 x2 A) (fun e A1 => if e = 0 then some ((1 : Int32), A1) else if e = 1 then some ((2 : Int32), A1) else if e = 2 then some ((3 : Int32), A1) else none) (fun v A1 =>
    ltb (wL A1 41 0 0 (0 : Int32).toNatClampNeg v) fun A2 =>
    some ((0 : Int32), A2))
def fL_endMonth (A : sM) : Option (Int32 × sM) :=
  xc (fX9_endMonth A) (fun e A1 => if e = 2 then some ((1 : Int32), A1) else none) (fun v A1 =>
    ltb (wL A1 41 0 0 (0 : Int32).toNatClampNeg v) fun A2 =>
    some ((0 : Int32), A2))
def fL_generation (x1 : Int32) (x2 : Int32) (A : sM) : Option (Int32 × sM) :=
  xc (fX9_generation x1 x2 A) (fun e A1 => if e = 0 then some ((1 : Int32), A1) else none) (fun v A1 =>
    ltb (wL A1 41 0 0 (0 : Int32).toNatClampNeg (v.toInt64)) fun A2 =>
    some ((0 : Int32), A2))
def fL_shareDays (x1 : Int32) (x2 : Int32) (A : sM) : Option (Int32 × sM) :=
  xc (fX9_shareDays x1 x2 A) (fun e A1 => if e = 0 then some ((1 : Int32), A1) else none) (fun v A1 =>
    ltb (wL A1 41 0 0 (0 : Int32).toNatClampNeg (v.toInt64)) fun A2 =>
    some ((0 : Int32), A2))
def fL_projectedPart (x1 : Int32) (A : sM) : Option (Int32 × sM) :=
  xc (fX9_projectedPart x1 A) (fun e A1 => if e = 0 then some ((1 : Int32), A1) else none) (fun v A1 =>
    ltb (wL A1 41 0 0 (0 : Int32).toNatClampNeg v) fun A2 =>
    some ((0 : Int32), A2))
def fL_projectedCredit (x1 : Int32) (A : sM) : Option (Int32 × sM) :=
  xc (fX9_projectedCredit x1 A) (fun e A1 => if e = 0 then some ((1 : Int32), A1) else none) (fun v A1 =>
    ltb (wL A1 41 0 0 (0 : Int32).toNatClampNeg v) fun A2 =>
    some ((0 : Int32), A2))
def fL_forecastBalance (x1 : Int32) (x2 : Int32) (A : sM) : Option (Int32 × sM) :=
  xc (fX9_forecastBalance x1 x2 A) (fun e A1 => if e = 0 then some ((1 : Int32), A1) else if e = 1 then some ((2 : Int32), A1) else none) (fun v A1 =>
    ltb (wL A1 41 0 0 (0 : Int32).toNatClampNeg v) fun A2 =>
    some ((0 : Int32), A2))
def fL_neededRate (x1 : Int32) (x2 : Int32) (x3 : Int64) (A : sM) : Option (Int32 × sM) :=
  xc (fX9_neededRate x1 x2 x3 A) (fun e A1 => if e = 0 then some ((1 : Int32), A1) else if e = 3 then some ((2 : Int32), A1) else none) (fun v A1 =>
    ltb (wL A1 41 0 0 (0 : Int32).toNatClampNeg (v.toInt64)) fun A2 =>
    some ((0 : Int32), A2))
def fL_issued (x1 : Int32) (A : sM) : Option (Int32 × sM) :=
  xc (fX9_issued x1 A) (fun e A1 => if e = 0 then some ((1 : Int32), A1) else none) (fun v A1 =>
    ltb (wL A1 41 0 0 (0 : Int32).toNatClampNeg v) fun A2 =>
    some ((0 : Int32), A2))
def fL_shareDayValue (x1 : Int32) (x2 : Int32) (A : sM) : Option (Int32 × sM) :=
  xc (fX9_shareDayValue x1 x2 A) (fun e A1 => if e = 0 then some ((1 : Int32), A1) else none) (fun v A1 =>
    ltb (wL A1 41 0 0 (0 : Int32).toNatClampNeg v) fun A2 =>
    some ((0 : Int32), A2))
def fL_neededShares (x1 : Int64) (A : sM) : Option (Int32 × sM) :=
  xc (fX9_neededShares x1 A) (fun e A1 => if e = 1 then some ((1 : Int32), A1) else if e = 3 then some ((2 : Int32), A1) else none) (fun v A1 =>
    ltb (wL A1 41 0 0 (0 : Int32).toNatClampNeg (v.toInt64)) fun A2 =>
    some ((0 : Int32), A2))
def fL_balance (x1 : Int32) (A : sM) : Option (Int32 × sM) :=
  xc (fX9_balance x1 A) (fun e A1 => if e = 0 then some ((1 : Int32), A1) else none) (fun v A1 =>
    ltb (wL A1 41 0 0 (0 : Int32).toNatClampNeg v) fun A2 =>
    some ((0 : Int32), A2))
def fL_lot (x1 : Int32) (x2 : Int32) (A : sM) : Option (Int32 × sM) :=
  xc (fX9_lot x1 x2 A) (fun e A1 => if e = 0 then some ((1 : Int32), A1) else none) (fun v A1 =>
    ltb (wL A1 41 0 0 (0 : Int32).toNatClampNeg v) fun A2 =>
    some ((0 : Int32), A2))
def fL_account (x1 : Int32) (x2 : Int32) (A : sM) : Option (Int32 × sM) :=
  xc (fX9_account x1 x2 A) (fun e A1 => if e = 0 then some ((1 : Int32), A1) else if e = 1 then some ((2 : Int32), A1) else none) (fun v A1 =>
    ltb (wL A1 41 0 0 (0 : Int32).toNatClampNeg v) fun A2 =>
    some ((0 : Int32), A2))
def fL_expiring (x1 : Int32) (A : sM) : Option (Int32 × sM) :=
  xc (fX9_expiring x1 A) (fun e A1 => if e = 0 then some ((1 : Int32), A1) else none) (fun v A1 =>
    ltb (wL A1 41 0 0 (0 : Int32).toNatClampNeg v) fun A2 =>
    some ((0 : Int32), A2))
def fL_monthsCovered (x1 : Int32) (x2 : Int64) (A : sM) : Option (Int32 × sM) :=
  xc (fX9_monthsCovered x1 x2 A) (fun e A1 => if e = 0 then some ((1 : Int32), A1) else if e = 1 then some ((2 : Int32), A1) else none) (fun v A1 =>
    ltb (wL A1 41 0 0 (0 : Int32).toNatClampNeg (v.toInt64)) fun A2 =>
    some ((0 : Int32), A2))
def fL_correct (x1 : Int32) (x2 : Int32) (x3 : Int32) (A : sM) : Option (Int32 × sM) :=
  xc (fX9_correct x1 x2 x3 A) (fun e A1 => if e = 0 then some ((1 : Int32), A1) else if e = 1 then some ((2 : Int32), A1) else none) (fun v A1 =>
    ltb (wL A1 41 0 0 (0 : Int32).toNatClampNeg (v.toInt64)) fun A2 =>
    some ((0 : Int32), A2))
def fL_shareFund (A : sM) : Option (Int32 × sM) :=
  xc (fX9_shareFund A) (fun e A1 => if e = 2 then some ((1 : Int32), A1) else none) (fun v A1 =>
    ltb (wL A1 41 0 0 (0 : Int32).toNatClampNeg v) fun A2 =>
    some ((0 : Int32), A2))
def fL_describe (x1 : Int32) (A : sM) : Option (Int32 × sM) :=
  xc (fX9_describe x1 A) (fun e A1 => if e = 0 then some ((1 : Int32), A1) else none) (fun v A1 =>
    ltb (wL A1 41 0 0 (0 : Int32).toNatClampNeg (v.toInt64)) fun A2 =>
    some ((0 : Int32), A2))
def fL_describedByte (x1 : Int32) (A : sM) : Option (Int32 × sM) :=
  xc (fX9_describedByte x1 A) (fun e A1 => if e = 0 then some ((1 : Int32), A1) else none) (fun v A1 =>
    ltb (wL A1 41 0 0 (0 : Int32).toNatClampNeg (v.toInt64)) fun A2 =>
    some ((0 : Int32), A2))
def fL_undo (A : sM) : Option (Int32 × sM) :=
  xc (fX9_undo A) (fun e A1 => if e = 2 then some ((1 : Int32), A1) else none) (fun v A1 =>
    ltb (wL A1 41 0 0 (0 : Int32).toNatClampNeg (v.toInt64)) fun A2 =>
    some ((0 : Int32), A2))
def fL_case0 (L : Nat) (xs : Nat → Int32) (x4 : Int32) (A Z : sM) : Option (sM × sM) :=
  gd (inb (x4 + (1 : Int32)) L) (
    gd (inb (x4 + (2 : Int32)) L) (
      gd (inb (x4 + (3 : Int32)) L) (
        gd (inb (x4 + (4 : Int32)) L) (
          gd (inb (x4 + (5 : Int32)) L) (
            bd2 (fL_append (xs (x4 + (1 : Int32)).toNatClampNeg) (xs (x4 + (2 : Int32)).toNatClampNeg) (xs (x4 + (3 : Int32)).toNatClampNeg) (xs (x4 + (4 : Int32)).toNatClampNeg) (xs (x4 + (5 : Int32)).toNatClampNeg) A) fun r_2 A_1 =>
            gd (inb (x4 + (1 : Int32)) L) (
              gd (inb (x4 + (2 : Int32)) L) (
                gd (inb (x4 + (3 : Int32)) L) (
                  gd (inb (x4 + (4 : Int32)) L) (
                    gd (inb (x4 + (5 : Int32)) L) (
                      bd2 (fX10_append (xs (x4 + (1 : Int32)).toNatClampNeg) (xs (x4 + (2 : Int32)).toNatClampNeg) (xs (x4 + (3 : Int32)).toNatClampNeg) (xs (x4 + (4 : Int32)).toNatClampNeg) (xs (x4 + (5 : Int32)).toNatClampNeg) Z) fun r_6 Z_5 =>
                      Option.bind (fX10_thrown Z_5) fun r_8 =>
                      if r_8 = r_2 then (
                        if r_2 = 0 then (
                          if (A_1.2 41 0 0 (0 : Int32).toNatClampNeg) = (r_6.toInt64) then (
                            some (A_1, Z_5))
                          else (
                            none))
                        else (
                          some (A_1, Z_5)))
                      else (
                        none)))))))))))
def fL_case1 (L : Nat) (xs : Nat → Int32) (x4 : Int32) (A Z : sM) : Option (sM × sM) :=
  gd (inb (x4 + (1 : Int32)) L) (
    bd2 (fL_load (xs (x4 + (1 : Int32)).toNatClampNeg) A) fun r_2 A_1 =>
    gd (inb (x4 + (1 : Int32)) L) (
      bd2 (fX10_load (xs (x4 + (1 : Int32)).toNatClampNeg) Z) fun r_6 Z_5 =>
      Option.bind (fX10_thrown Z_5) fun r_8 =>
      if r_8 = r_2 then (
        if r_2 = 0 then (
          if (A_1.2 41 0 0 (0 : Int32).toNatClampNeg) = (r_6.toInt64) then (
            some (A_1, Z_5))
          else (
            none))
        else (
          some (A_1, Z_5)))
      else (
        none)))
def fL_case2 (L : Nat) (xs : Nat → Int32) (x4 : Int32) (A Z : sM) : Option (sM × sM) :=
  Option.bind (fX9_errorPosition A) fun r_2 =>
  bd2 (fX10_errorPosition Z) fun r_5 Z_4 =>
  if r_2 = r_5 then (
    some (A, Z_4))
  else (
    none)
def fL_case3 (L : Nat) (xs : Nat → Int32) (x4 : Int32) (A Z : sM) : Option (sM × sM) :=
  gd (inb (x4 + (1 : Int32)) L) (
    bd2 (fL_setting (xs (x4 + (1 : Int32)).toNatClampNeg) A) fun r_2 A_1 =>
    gd (inb (x4 + (1 : Int32)) L) (
      bd2 (fX10_setting (xs (x4 + (1 : Int32)).toNatClampNeg) Z) fun r_6 Z_5 =>
      Option.bind (fX10_thrown Z_5) fun r_8 =>
      if r_8 = r_2 then (
        if r_2 = 0 then (
          if (A_1.2 41 0 0 (0 : Int32).toNatClampNeg) = (r_6.toInt64) then (
            some (A_1, Z_5))
          else (
            none))
        else (
          some (A_1, Z_5)))
      else (
        none)))
def fL_case4 (L : Nat) (xs : Nat → Int32) (x4 : Int32) (A Z : sM) : Option (sM × sM) :=
  gd (inb (x4 + (1 : Int32)) L) (
    bd2 (fL_periodOf (xs (x4 + (1 : Int32)).toNatClampNeg) A) fun r_2 A_1 =>
    gd (inb (x4 + (1 : Int32)) L) (
      bd2 (fX10_periodOf (xs (x4 + (1 : Int32)).toNatClampNeg) Z) fun r_6 Z_5 =>
      Option.bind (fX10_thrown Z_5) fun r_8 =>
      if r_8 = r_2 then (
        if r_2 = 0 then (
          if (A_1.2 41 0 0 (0 : Int32).toNatClampNeg) = (r_6.toInt64) then (
            some (A_1, Z_5))
          else (
            none))
        else (
          some (A_1, Z_5)))
      else (
        none)))
def fL_case5 (L : Nat) (xs : Nat → Int32) (x4 : Int32) (A Z : sM) : Option (sM × sM) :=
  gd (inb (x4 + (1 : Int32)) L) (
    gd (inb (x4 + (2 : Int32)) L) (
      gd (inb (x4 + (3 : Int32)) L) (
        bd2 (fL_join (xs (x4 + (1 : Int32)).toNatClampNeg) (xs (x4 + (2 : Int32)).toNatClampNeg) (xs (x4 + (3 : Int32)).toNatClampNeg) A) fun r_2 A_1 =>
        gd (inb (x4 + (1 : Int32)) L) (
          gd (inb (x4 + (2 : Int32)) L) (
            gd (inb (x4 + (3 : Int32)) L) (
              bd2 (fX10_join (xs (x4 + (1 : Int32)).toNatClampNeg) (xs (x4 + (2 : Int32)).toNatClampNeg) (xs (x4 + (3 : Int32)).toNatClampNeg) Z) fun r_6 Z_5 =>
              Option.bind (fX10_thrown Z_5) fun r_8 =>
              if r_8 = r_2 then (
                if r_2 = 0 then (
                  if (A_1.2 41 0 0 (0 : Int32).toNatClampNeg) = (r_6.toInt64) then (
                    some (A_1, Z_5))
                  else (
                    none))
                else (
                  some (A_1, Z_5)))
              else (
                none)))))))
def fL_case6 (L : Nat) (xs : Nat → Int32) (x4 : Int32) (A Z : sM) : Option (sM × sM) :=
  gd (inb (x4 + (1 : Int32)) L) (
    gd (inb (x4 + (2 : Int32)) L) (
      bd2 (fL_more (xs (x4 + (1 : Int32)).toNatClampNeg) (xs (x4 + (2 : Int32)).toNatClampNeg) A) fun r_2 A_1 =>
      gd (inb (x4 + (1 : Int32)) L) (
        gd (inb (x4 + (2 : Int32)) L) (
          bd2 (fX10_more (xs (x4 + (1 : Int32)).toNatClampNeg) (xs (x4 + (2 : Int32)).toNatClampNeg) Z) fun r_6 Z_5 =>
          Option.bind (fX10_thrown Z_5) fun r_8 =>
          if r_8 = r_2 then (
            if r_2 = 0 then (
              if (A_1.2 41 0 0 (0 : Int32).toNatClampNeg) = (r_6.toInt64) then (
                some (A_1, Z_5))
              else (
                none))
            else (
              some (A_1, Z_5)))
          else (
            none)))))
def fL_case7 (L : Nat) (xs : Nat → Int32) (x4 : Int32) (A Z : sM) : Option (sM × sM) :=
  gd (inb (x4 + (1 : Int32)) L) (
    gd (inb (x4 + (2 : Int32)) L) (
      bd2 (fL_reduce (xs (x4 + (1 : Int32)).toNatClampNeg) (xs (x4 + (2 : Int32)).toNatClampNeg) A) fun r_2 A_1 =>
      gd (inb (x4 + (1 : Int32)) L) (
        gd (inb (x4 + (2 : Int32)) L) (
          bd2 (fX10_reduce (xs (x4 + (1 : Int32)).toNatClampNeg) (xs (x4 + (2 : Int32)).toNatClampNeg) Z) fun r_6 Z_5 =>
          Option.bind (fX10_thrown Z_5) fun r_8 =>
          if r_8 = r_2 then (
            if r_2 = 0 then (
              if (A_1.2 41 0 0 (0 : Int32).toNatClampNeg) = (r_6.toInt64) then (
                some (A_1, Z_5))
              else (
                none))
            else (
              some (A_1, Z_5)))
          else (
            none)))))
def fL_case8 (L : Nat) (xs : Nat → Int32) (x4 : Int32) (A Z : sM) : Option (sM × sM) :=
  gd (inb (x4 + (1 : Int32)) L) (
    gd (inb (x4 + (2 : Int32)) L) (
      gd (inb (x4 + (3 : Int32)) L) (
        bd2 (fL_transfer (xs (x4 + (1 : Int32)).toNatClampNeg) (xs (x4 + (2 : Int32)).toNatClampNeg) (xs (x4 + (3 : Int32)).toNatClampNeg) A) fun r_2 A_1 =>
        gd (inb (x4 + (1 : Int32)) L) (
          gd (inb (x4 + (2 : Int32)) L) (
            gd (inb (x4 + (3 : Int32)) L) (
              bd2 (fX10_transfer (xs (x4 + (1 : Int32)).toNatClampNeg) (xs (x4 + (2 : Int32)).toNatClampNeg) (xs (x4 + (3 : Int32)).toNatClampNeg) Z) fun r_6 Z_5 =>
              Option.bind (fX10_thrown Z_5) fun r_8 =>
              if r_8 = r_2 then (
                if r_2 = 0 then (
                  if (A_1.2 41 0 0 (0 : Int32).toNatClampNeg) = (r_6.toInt64) then (
                    some (A_1, Z_5))
                  else (
                    none))
                else (
                  some (A_1, Z_5)))
              else (
                none)))))))
def fL_case9 (L : Nat) (xs : Nat → Int32) (x4 : Int32) (A Z : sM) : Option (sM × sM) :=
  gd (inb (x4 + (1 : Int32)) L) (
    gd (inb (x4 + (2 : Int32)) L) (
      gd (inb (x4 + (3 : Int32)) L) (
        bd2 (fL_assign (xs (x4 + (1 : Int32)).toNatClampNeg) (xs (x4 + (2 : Int32)).toNatClampNeg) (xs (x4 + (3 : Int32)).toNatClampNeg) A) fun r_2 A_1 =>
        gd (inb (x4 + (1 : Int32)) L) (
          gd (inb (x4 + (2 : Int32)) L) (
            gd (inb (x4 + (3 : Int32)) L) (
              Option.bind (fX10_assign (xs (x4 + (1 : Int32)).toNatClampNeg) (xs (x4 + (2 : Int32)).toNatClampNeg) (xs (x4 + (3 : Int32)).toNatClampNeg) Z) fun Z_5 =>
              Option.bind (fX10_thrown Z_5) fun r_7 =>
              if r_7 = r_2 then (
                some (A_1, Z_5))
              else (
                none)))))))
def fL_case10 (L : Nat) (xs : Nat → Int32) (x4 : Int32) (A Z : sM) : Option (sM × sM) :=
  gd (inb (x4 + (1 : Int32)) L) (
    bd2 (fL_leave (xs (x4 + (1 : Int32)).toNatClampNeg) A) fun r_2 A_1 =>
    gd (inb (x4 + (1 : Int32)) L) (
      bd2 (fX10_leave (xs (x4 + (1 : Int32)).toNatClampNeg) Z) fun r_6 Z_5 =>
      Option.bind (fX10_thrown Z_5) fun r_8 =>
      if r_8 = r_2 then (
        if r_2 = 0 then (
          if (A_1.2 41 0 0 (0 : Int32).toNatClampNeg) = r_6 then (
            some (A_1, Z_5))
          else (
            none))
        else (
          some (A_1, Z_5)))
      else (
        none)))
def fL_case11 (L : Nat) (xs : Nat → Int32) (x4 : Int32) (A Z : sM) : Option (sM × sM) :=
  Option.bind (fX9_subscriberCount A) fun r_2 =>
  bd2 (fX10_subscriberCount Z) fun r_5 Z_4 =>
  if r_2 = r_5 then (
    some (A, Z_4))
  else (
    none)
def fL_case12 (L : Nat) (xs : Nat → Int32) (x4 : Int32) (A Z : sM) : Option (sM × sM) :=
  gd (inb (x4 + (1 : Int32)) L) (
    bd2 (fL_state (xs (x4 + (1 : Int32)).toNatClampNeg) A) fun r_2 A_1 =>
    gd (inb (x4 + (1 : Int32)) L) (
      bd2 (fX10_state (xs (x4 + (1 : Int32)).toNatClampNeg) Z) fun r_6 Z_5 =>
      Option.bind (fX10_thrown Z_5) fun r_8 =>
      if r_8 = r_2 then (
        if r_2 = 0 then (
          if (A_1.2 41 0 0 (0 : Int32).toNatClampNeg) = (r_6.toInt64) then (
            some (A_1, Z_5))
          else (
            none))
        else (
          some (A_1, Z_5)))
      else (
        none)))
def fL_case13 (L : Nat) (xs : Nat → Int32) (x4 : Int32) (A Z : sM) : Option (sM × sM) :=
  gd (inb (x4 + (1 : Int32)) L) (
    bd2 (fL_shares (xs (x4 + (1 : Int32)).toNatClampNeg) A) fun r_2 A_1 =>
    gd (inb (x4 + (1 : Int32)) L) (
      bd2 (fX10_shares (xs (x4 + (1 : Int32)).toNatClampNeg) Z) fun r_6 Z_5 =>
      Option.bind (fX10_thrown Z_5) fun r_8 =>
      if r_8 = r_2 then (
        if r_2 = 0 then (
          if (A_1.2 41 0 0 (0 : Int32).toNatClampNeg) = (r_6.toInt64) then (
            some (A_1, Z_5))
          else (
            none))
        else (
          some (A_1, Z_5)))
      else (
        none)))
def fL_case14 (L : Nat) (xs : Nat → Int32) (x4 : Int32) (A Z : sM) : Option (sM × sM) :=
  Option.bind (fX9_freeShares A) fun r_2 =>
  bd2 (fX10_freeShares Z) fun r_5 Z_4 =>
  if r_2 = r_5 then (
    some (A, Z_4))
  else (
    none)
def fL_case15 (L : Nat) (xs : Nat → Int32) (x4 : Int32) (A Z : sM) : Option (sM × sM) :=
  gd (inb (x4 + (1 : Int32)) L) (
    bd2 (fL_waitingPlace (xs (x4 + (1 : Int32)).toNatClampNeg) A) fun r_2 A_1 =>
    gd (inb (x4 + (1 : Int32)) L) (
      bd2 (fX10_waitingPlace (xs (x4 + (1 : Int32)).toNatClampNeg) Z) fun r_6 Z_5 =>
      Option.bind (fX10_thrown Z_5) fun r_8 =>
      if r_8 = r_2 then (
        if r_2 = 0 then (
          if (A_1.2 41 0 0 (0 : Int32).toNatClampNeg) = (r_6.toInt64) then (
            some (A_1, Z_5))
          else (
            none))
        else (
          some (A_1, Z_5)))
      else (
        none)))
def fL_case16 (L : Nat) (xs : Nat → Int32) (x4 : Int32) (A Z : sM) : Option (sM × sM) :=
  gd (inb (x4 + (1 : Int32)) L) (
    bd2 (fL_passDays (xs (x4 + (1 : Int32)).toNatClampNeg) A) fun r_2 A_1 =>
    gd (inb (x4 + (1 : Int32)) L) (
      bd2 (fX10_passDays (xs (x4 + (1 : Int32)).toNatClampNeg) Z) fun r_6 Z_5 =>
      Option.bind (fX10_thrown Z_5) fun r_8 =>
      if r_8 = r_2 then (
        if r_2 = 0 then (
          if (A_1.2 41 0 0 (0 : Int32).toNatClampNeg) = (r_6.toInt64) then (
            some (A_1, Z_5))
          else (
            none))
        else (
          some (A_1, Z_5)))
      else (
        none)))
def fL_case17 (L : Nat) (xs : Nat → Int32) (x4 : Int32) (A Z : sM) : Option (sM × sM) :=
  gd (inb (x4 + (1 : Int32)) L) (
    gd (inb (x4 + (2 : Int32)) L) (
      bd2 (fL_generate (xs (x4 + (1 : Int32)).toNatClampNeg) (xs (x4 + (2 : Int32)).toNatClampNeg) A) fun r_2 A_1 =>
      gd (inb (x4 + (1 : Int32)) L) (
        gd (inb (x4 + (2 : Int32)) L) (
          bd2 (fX10_generate (xs (x4 + (1 : Int32)).toNatClampNeg) (xs (x4 + (2 : Int32)).toNatClampNeg) Z) fun r_6 Z_5 =>
          Option.bind (fX10_thrown Z_5) fun r_8 =>
          if r_8 = r_2 then (
            if r_2 = 0 then (
              if (A_1.2 41 0 0 (0 : Int32).toNatClampNeg) = (r_6.toInt64) then (
                some (A_1, Z_5))
              else (
                none))
            else (
              some (A_1, Z_5)))
          else (
            none)))))
def fL_case18 (L : Nat) (xs : Nat → Int32) (x4 : Int32) (A Z : sM) : Option (sM × sM) :=
  gd (inb (x4 + (1 : Int32)) L) (
    gd (inb (x4 + (2 : Int32)) L) (
      bd2 (fL_bill (xs (x4 + (1 : Int32)).toNatClampNeg) (xs (x4 + (2 : Int32)).toNatClampNeg) A) fun r_2 A_1 =>
      gd (inb (x4 + (1 : Int32)) L) (
        gd (inb (x4 + (2 : Int32)) L) (
          bd2 (fX10_bill (xs (x4 + (1 : Int32)).toNatClampNeg) (xs (x4 + (2 : Int32)).toNatClampNeg) Z) fun r_6 Z_5 =>
          Option.bind (fX10_thrown Z_5) fun r_8 =>
          if r_8 = r_2 then (
            if r_2 = 0 then (
              if (A_1.2 41 0 0 (0 : Int32).toNatClampNeg) = r_6 then (
                some (A_1, Z_5))
              else (
                none))
            else (
              some (A_1, Z_5)))
          else (
            none)))))
def fL_case19 (L : Nat) (xs : Nat → Int32) (x4 : Int32) (A Z : sM) : Option (sM × sM) :=
  bd2 (fL_endMonth A) fun r_2 A_1 =>
  bd2 (fX10_endMonth Z) fun r_6 Z_5 =>
  Option.bind (fX10_thrown Z_5) fun r_8 =>
  if r_8 = r_2 then (
    if r_2 = 0 then (
      if (A_1.2 41 0 0 (0 : Int32).toNatClampNeg) = r_6 then (
        some (A_1, Z_5))
      else (
        none))
    else (
      some (A_1, Z_5)))
  else (
    none)
def fL_case20 (L : Nat) (xs : Nat → Int32) (x4 : Int32) (A Z : sM) : Option (sM × sM) :=
  Option.bind (fX9_month A) fun r_2 =>
  bd2 (fX10_month Z) fun r_5 Z_4 =>
  if r_2 = r_5 then (
    some (A, Z_4))
  else (
    none)
def fL_case21 (L : Nat) (xs : Nat → Int32) (x4 : Int32) (A Z : sM) : Option (sM × sM) :=
  gd (inb (x4 + (1 : Int32)) L) (
    gd (inb (x4 + (2 : Int32)) L) (
      bd2 (fL_generation (xs (x4 + (1 : Int32)).toNatClampNeg) (xs (x4 + (2 : Int32)).toNatClampNeg) A) fun r_2 A_1 =>
      gd (inb (x4 + (1 : Int32)) L) (
        gd (inb (x4 + (2 : Int32)) L) (
          bd2 (fX10_generation (xs (x4 + (1 : Int32)).toNatClampNeg) (xs (x4 + (2 : Int32)).toNatClampNeg) Z) fun r_6 Z_5 =>
          Option.bind (fX10_thrown Z_5) fun r_8 =>
          if r_8 = r_2 then (
            if r_2 = 0 then (
              if (A_1.2 41 0 0 (0 : Int32).toNatClampNeg) = (r_6.toInt64) then (
                some (A_1, Z_5))
              else (
                none))
            else (
              some (A_1, Z_5)))
          else (
            none)))))
def fL_case22 (L : Nat) (xs : Nat → Int32) (x4 : Int32) (A Z : sM) : Option (sM × sM) :=
  gd (inb (x4 + (1 : Int32)) L) (
    gd (inb (x4 + (2 : Int32)) L) (
      bd2 (fL_shareDays (xs (x4 + (1 : Int32)).toNatClampNeg) (xs (x4 + (2 : Int32)).toNatClampNeg) A) fun r_2 A_1 =>
      gd (inb (x4 + (1 : Int32)) L) (
        gd (inb (x4 + (2 : Int32)) L) (
          bd2 (fX10_shareDays (xs (x4 + (1 : Int32)).toNatClampNeg) (xs (x4 + (2 : Int32)).toNatClampNeg) Z) fun r_6 Z_5 =>
          Option.bind (fX10_thrown Z_5) fun r_8 =>
          if r_8 = r_2 then (
            if r_2 = 0 then (
              if (A_1.2 41 0 0 (0 : Int32).toNatClampNeg) = (r_6.toInt64) then (
                some (A_1, Z_5))
              else (
                none))
            else (
              some (A_1, Z_5)))
          else (
            none)))))
def fL_case23 (L : Nat) (xs : Nat → Int32) (x4 : Int32) (A Z : sM) : Option (sM × sM) :=
  gd (inb (x4 + (1 : Int32)) L) (
    bd2 (fL_projectedPart (xs (x4 + (1 : Int32)).toNatClampNeg) A) fun r_2 A_1 =>
    gd (inb (x4 + (1 : Int32)) L) (
      bd2 (fX10_projectedPart (xs (x4 + (1 : Int32)).toNatClampNeg) Z) fun r_6 Z_5 =>
      Option.bind (fX10_thrown Z_5) fun r_8 =>
      if r_8 = r_2 then (
        if r_2 = 0 then (
          if (A_1.2 41 0 0 (0 : Int32).toNatClampNeg) = r_6 then (
            some (A_1, Z_5))
          else (
            none))
        else (
          some (A_1, Z_5)))
      else (
        none)))
def fL_case24 (L : Nat) (xs : Nat → Int32) (x4 : Int32) (A Z : sM) : Option (sM × sM) :=
  gd (inb (x4 + (1 : Int32)) L) (
    bd2 (fL_projectedCredit (xs (x4 + (1 : Int32)).toNatClampNeg) A) fun r_2 A_1 =>
    gd (inb (x4 + (1 : Int32)) L) (
      bd2 (fX10_projectedCredit (xs (x4 + (1 : Int32)).toNatClampNeg) Z) fun r_6 Z_5 =>
      Option.bind (fX10_thrown Z_5) fun r_8 =>
      if r_8 = r_2 then (
        if r_2 = 0 then (
          if (A_1.2 41 0 0 (0 : Int32).toNatClampNeg) = r_6 then (
            some (A_1, Z_5))
          else (
            none))
        else (
          some (A_1, Z_5)))
      else (
        none)))
def fL_case25 (L : Nat) (xs : Nat → Int32) (x4 : Int32) (A Z : sM) : Option (sM × sM) :=
  gd (inb (x4 + (1 : Int32)) L) (
    gd (inb (x4 + (2 : Int32)) L) (
      bd2 (fL_forecastBalance (xs (x4 + (1 : Int32)).toNatClampNeg) (xs (x4 + (2 : Int32)).toNatClampNeg) A) fun r_2 A_1 =>
      gd (inb (x4 + (1 : Int32)) L) (
        gd (inb (x4 + (2 : Int32)) L) (
          bd2 (fX10_forecastBalance (xs (x4 + (1 : Int32)).toNatClampNeg) (xs (x4 + (2 : Int32)).toNatClampNeg) Z) fun r_6 Z_5 =>
          Option.bind (fX10_thrown Z_5) fun r_8 =>
          if r_8 = r_2 then (
            if r_2 = 0 then (
              if (A_1.2 41 0 0 (0 : Int32).toNatClampNeg) = r_6 then (
                some (A_1, Z_5))
              else (
                none))
            else (
              some (A_1, Z_5)))
          else (
            none)))))
def fL_case26 (L : Nat) (xs : Nat → Int32) (x4 : Int32) (A Z : sM) : Option (sM × sM) :=
  gd (inb (x4 + (1 : Int32)) L) (
    gd (inb (x4 + (2 : Int32)) L) (
      gd (inb (x4 + (3 : Int32)) L) (
        gd (inb (x4 + (4 : Int32)) L) (
          bd2 (fL_neededRate (xs (x4 + (1 : Int32)).toNatClampNeg) (xs (x4 + (2 : Int32)).toNatClampNeg) ((((xs (x4 + (3 : Int32)).toNatClampNeg).toInt64) <<< ((32 : Int32).toInt64 &&& 63)) ||| (((xs (x4 + (4 : Int32)).toNatClampNeg).toInt64) &&& (4294967295 : Int64))) A) fun r_2 A_1 =>
          gd (inb (x4 + (1 : Int32)) L) (
            gd (inb (x4 + (2 : Int32)) L) (
              gd (inb (x4 + (3 : Int32)) L) (
                gd (inb (x4 + (4 : Int32)) L) (
                  bd2 (fX10_neededRate (xs (x4 + (1 : Int32)).toNatClampNeg) (xs (x4 + (2 : Int32)).toNatClampNeg) ((((xs (x4 + (3 : Int32)).toNatClampNeg).toInt64) <<< ((32 : Int32).toInt64 &&& 63)) ||| (((xs (x4 + (4 : Int32)).toNatClampNeg).toInt64) &&& (4294967295 : Int64))) Z) fun r_6 Z_5 =>
                  Option.bind (fX10_thrown Z_5) fun r_8 =>
                  if r_8 = r_2 then (
                    if r_2 = 0 then (
                      if (A_1.2 41 0 0 (0 : Int32).toNatClampNeg) = (r_6.toInt64) then (
                        some (A_1, Z_5))
                      else (
                        none))
                    else (
                      some (A_1, Z_5)))
                  else (
                    none)))))))))
def fL_case27 (L : Nat) (xs : Nat → Int32) (x4 : Int32) (A Z : sM) : Option (sM × sM) :=
  gd (inb (x4 + (1 : Int32)) L) (
    bd2 (fL_issued (xs (x4 + (1 : Int32)).toNatClampNeg) A) fun r_2 A_1 =>
    gd (inb (x4 + (1 : Int32)) L) (
      bd2 (fX10_issued (xs (x4 + (1 : Int32)).toNatClampNeg) Z) fun r_6 Z_5 =>
      Option.bind (fX10_thrown Z_5) fun r_8 =>
      if r_8 = r_2 then (
        if r_2 = 0 then (
          if (A_1.2 41 0 0 (0 : Int32).toNatClampNeg) = r_6 then (
            some (A_1, Z_5))
          else (
            none))
        else (
          some (A_1, Z_5)))
      else (
        none)))
def fL_case28 (L : Nat) (xs : Nat → Int32) (x4 : Int32) (A Z : sM) : Option (sM × sM) :=
  gd (inb (x4 + (1 : Int32)) L) (
    gd (inb (x4 + (2 : Int32)) L) (
      ltb (α := Int32 → Option (sM × sM)) (fun (v_1 : Int32) =>
        bd2 (fL_shareDayValue (xs (x4 + (1 : Int32)).toNatClampNeg) v_1 A) fun r_4 A_3 =>
        gd (inb (x4 + (1 : Int32)) L) (
          gd (inb (x4 + (2 : Int32)) L) (
            ltb (α := Int32 → Option (sM × sM)) (fun (v_6 : Int32) =>
              bd2 (fX10_shareDayValue (xs (x4 + (1 : Int32)).toNatClampNeg) v_6 Z) fun r_10 Z_9 =>
              Option.bind (fX10_thrown Z_9) fun r_12 =>
              if r_12 = r_4 then (
                if r_4 = 0 then (
                  if (A_3.2 41 0 0 (0 : Int32).toNatClampNeg) = r_10 then (
                    some (A_3, Z_9))
                  else (
                    none))
                else (
                  some (A_3, Z_9)))
              else (
                none)) fun kj_7 =>
            if (xs (x4 + (2 : Int32)).toNatClampNeg) = 0 then (
              kj_7 (0 : Int32))
            else (
              kj_7 (1 : Int32))))) fun kj_2 =>
      if (xs (x4 + (2 : Int32)).toNatClampNeg) = 0 then (
        kj_2 (0 : Int32))
      else (
        kj_2 (1 : Int32))))
def fL_case29 (L : Nat) (xs : Nat → Int32) (x4 : Int32) (A Z : sM) : Option (sM × sM) :=
  gd (inb (x4 + (1 : Int32)) L) (
    gd (inb (x4 + (2 : Int32)) L) (
      bd2 (fL_neededShares ((((xs (x4 + (1 : Int32)).toNatClampNeg).toInt64) <<< ((32 : Int32).toInt64 &&& 63)) ||| (((xs (x4 + (2 : Int32)).toNatClampNeg).toInt64) &&& (4294967295 : Int64))) A) fun r_2 A_1 =>
      gd (inb (x4 + (1 : Int32)) L) (
        gd (inb (x4 + (2 : Int32)) L) (
          bd2 (fX10_neededShares ((((xs (x4 + (1 : Int32)).toNatClampNeg).toInt64) <<< ((32 : Int32).toInt64 &&& 63)) ||| (((xs (x4 + (2 : Int32)).toNatClampNeg).toInt64) &&& (4294967295 : Int64))) Z) fun r_6 Z_5 =>
          Option.bind (fX10_thrown Z_5) fun r_8 =>
          if r_8 = r_2 then (
            if r_2 = 0 then (
              if (A_1.2 41 0 0 (0 : Int32).toNatClampNeg) = (r_6.toInt64) then (
                some (A_1, Z_5))
              else (
                none))
            else (
              some (A_1, Z_5)))
          else (
            none)))))
def fL_case30 (L : Nat) (xs : Nat → Int32) (x4 : Int32) (A Z : sM) : Option (sM × sM) :=
  gd (inb (x4 + (1 : Int32)) L) (
    bd2 (fL_balance (xs (x4 + (1 : Int32)).toNatClampNeg) A) fun r_2 A_1 =>
    gd (inb (x4 + (1 : Int32)) L) (
      bd2 (fX10_balance (xs (x4 + (1 : Int32)).toNatClampNeg) Z) fun r_6 Z_5 =>
      Option.bind (fX10_thrown Z_5) fun r_8 =>
      if r_8 = r_2 then (
        if r_2 = 0 then (
          if (A_1.2 41 0 0 (0 : Int32).toNatClampNeg) = r_6 then (
            some (A_1, Z_5))
          else (
            none))
        else (
          some (A_1, Z_5)))
      else (
        none)))
def fL_case31 (L : Nat) (xs : Nat → Int32) (x4 : Int32) (A Z : sM) : Option (sM × sM) :=
  gd (inb (x4 + (1 : Int32)) L) (
    gd (inb (x4 + (2 : Int32)) L) (
      bd2 (fL_lot (xs (x4 + (1 : Int32)).toNatClampNeg) (xs (x4 + (2 : Int32)).toNatClampNeg) A) fun r_2 A_1 =>
      gd (inb (x4 + (1 : Int32)) L) (
        gd (inb (x4 + (2 : Int32)) L) (
          bd2 (fX10_lot (xs (x4 + (1 : Int32)).toNatClampNeg) (xs (x4 + (2 : Int32)).toNatClampNeg) Z) fun r_6 Z_5 =>
          Option.bind (fX10_thrown Z_5) fun r_8 =>
          if r_8 = r_2 then (
            if r_2 = 0 then (
              if (A_1.2 41 0 0 (0 : Int32).toNatClampNeg) = r_6 then (
                some (A_1, Z_5))
              else (
                none))
            else (
              some (A_1, Z_5)))
          else (
            none)))))
def fL_case32 (L : Nat) (xs : Nat → Int32) (x4 : Int32) (A Z : sM) : Option (sM × sM) :=
  gd (inb (x4 + (1 : Int32)) L) (
    gd (inb (x4 + (2 : Int32)) L) (
      bd2 (fL_account (xs (x4 + (1 : Int32)).toNatClampNeg) (xs (x4 + (2 : Int32)).toNatClampNeg) A) fun r_2 A_1 =>
      gd (inb (x4 + (1 : Int32)) L) (
        gd (inb (x4 + (2 : Int32)) L) (
          bd2 (fX10_account (xs (x4 + (1 : Int32)).toNatClampNeg) (xs (x4 + (2 : Int32)).toNatClampNeg) Z) fun r_6 Z_5 =>
          Option.bind (fX10_thrown Z_5) fun r_8 =>
          if r_8 = r_2 then (
            if r_2 = 0 then (
              if (A_1.2 41 0 0 (0 : Int32).toNatClampNeg) = r_6 then (
                some (A_1, Z_5))
              else (
                none))
            else (
              some (A_1, Z_5)))
          else (
            none)))))
def fL_case33 (L : Nat) (xs : Nat → Int32) (x4 : Int32) (A Z : sM) : Option (sM × sM) :=
  gd (inb (x4 + (1 : Int32)) L) (
    bd2 (fL_expiring (xs (x4 + (1 : Int32)).toNatClampNeg) A) fun r_2 A_1 =>
    gd (inb (x4 + (1 : Int32)) L) (
      bd2 (fX10_expiring (xs (x4 + (1 : Int32)).toNatClampNeg) Z) fun r_6 Z_5 =>
      Option.bind (fX10_thrown Z_5) fun r_8 =>
      if r_8 = r_2 then (
        if r_2 = 0 then (
          if (A_1.2 41 0 0 (0 : Int32).toNatClampNeg) = r_6 then (
            some (A_1, Z_5))
          else (
            none))
        else (
          some (A_1, Z_5)))
      else (
        none)))
def fL_case34 (L : Nat) (xs : Nat → Int32) (x4 : Int32) (A Z : sM) : Option (sM × sM) :=
  gd (inb (x4 + (1 : Int32)) L) (
    gd (inb (x4 + (2 : Int32)) L) (
      gd (inb (x4 + (3 : Int32)) L) (
        bd2 (fL_monthsCovered (xs (x4 + (1 : Int32)).toNatClampNeg) ((((xs (x4 + (2 : Int32)).toNatClampNeg).toInt64) <<< ((32 : Int32).toInt64 &&& 63)) ||| (((xs (x4 + (3 : Int32)).toNatClampNeg).toInt64) &&& (4294967295 : Int64))) A) fun r_2 A_1 =>
        gd (inb (x4 + (1 : Int32)) L) (
          gd (inb (x4 + (2 : Int32)) L) (
            gd (inb (x4 + (3 : Int32)) L) (
              bd2 (fX10_monthsCovered (xs (x4 + (1 : Int32)).toNatClampNeg) ((((xs (x4 + (2 : Int32)).toNatClampNeg).toInt64) <<< ((32 : Int32).toInt64 &&& 63)) ||| (((xs (x4 + (3 : Int32)).toNatClampNeg).toInt64) &&& (4294967295 : Int64))) Z) fun r_6 Z_5 =>
              Option.bind (fX10_thrown Z_5) fun r_8 =>
              if r_8 = r_2 then (
                if r_2 = 0 then (
                  if (A_1.2 41 0 0 (0 : Int32).toNatClampNeg) = (r_6.toInt64) then (
                    some (A_1, Z_5))
                  else (
                    none))
                else (
                  some (A_1, Z_5)))
              else (
                none)))))))
def fL_case35 (L : Nat) (xs : Nat → Int32) (x4 : Int32) (A Z : sM) : Option (sM × sM) :=
  Option.bind (fX9_fund A) fun r_2 =>
  bd2 (fX10_fund Z) fun r_5 Z_4 =>
  if r_2 = r_5 then (
    some (A, Z_4))
  else (
    none)
def fL_case36 (L : Nat) (xs : Nat → Int32) (x4 : Int32) (A Z : sM) : Option (sM × sM) :=
  Option.bind (fX9_operatorAccount A) fun r_2 =>
  bd2 (fX10_operatorAccount Z) fun r_5 Z_4 =>
  if r_2 = r_5 then (
    some (A, Z_4))
  else (
    none)
def fL_case37 (L : Nat) (xs : Nat → Int32) (x4 : Int32) (A Z : sM) : Option (sM × sM) :=
  gd (inb (x4 + (1 : Int32)) L) (
    gd (inb (x4 + (2 : Int32)) L) (
      gd (inb (x4 + (3 : Int32)) L) (
        bd2 (fL_correct (xs (x4 + (1 : Int32)).toNatClampNeg) (xs (x4 + (2 : Int32)).toNatClampNeg) (xs (x4 + (3 : Int32)).toNatClampNeg) A) fun r_2 A_1 =>
        gd (inb (x4 + (1 : Int32)) L) (
          gd (inb (x4 + (2 : Int32)) L) (
            gd (inb (x4 + (3 : Int32)) L) (
              bd2 (fX10_correct (xs (x4 + (1 : Int32)).toNatClampNeg) (xs (x4 + (2 : Int32)).toNatClampNeg) (xs (x4 + (3 : Int32)).toNatClampNeg) Z) fun r_6 Z_5 =>
              Option.bind (fX10_thrown Z_5) fun r_8 =>
              if r_8 = r_2 then (
                if r_2 = 0 then (
                  if (A_1.2 41 0 0 (0 : Int32).toNatClampNeg) = (r_6.toInt64) then (
                    some (A_1, Z_5))
                  else (
                    none))
                else (
                  some (A_1, Z_5)))
              else (
                none)))))))
def fL_case38 (L : Nat) (xs : Nat → Int32) (x4 : Int32) (A Z : sM) : Option (sM × sM) :=
  xc (fX9_trueUp A) (fun _ _ => none) (fun r_3 A_2 =>
    bd2 (fX10_trueUp Z) fun r_6 Z_5 =>
    if r_3 = r_6 then (
      some (A_2, Z_5))
    else (
      none))
def fL_case39 (L : Nat) (xs : Nat → Int32) (x4 : Int32) (A Z : sM) : Option (sM × sM) :=
  bd2 (fL_shareFund A) fun r_2 A_1 =>
  bd2 (fX10_shareFund Z) fun r_6 Z_5 =>
  Option.bind (fX10_thrown Z_5) fun r_8 =>
  if r_8 = r_2 then (
    if r_2 = 0 then (
      if (A_1.2 41 0 0 (0 : Int32).toNatClampNeg) = r_6 then (
        some (A_1, Z_5))
      else (
        none))
    else (
      some (A_1, Z_5)))
  else (
    none)
def fL_case40 (L : Nat) (xs : Nat → Int32) (x4 : Int32) (A Z : sM) : Option (sM × sM) :=
  gd (inb (x4 + (1 : Int32)) L) (
    bd2 (fL_describe (xs (x4 + (1 : Int32)).toNatClampNeg) A) fun r_2 A_1 =>
    gd (inb (x4 + (1 : Int32)) L) (
      bd2 (fX10_describe (xs (x4 + (1 : Int32)).toNatClampNeg) Z) fun r_6 Z_5 =>
      Option.bind (fX10_thrown Z_5) fun r_8 =>
      if r_8 = r_2 then (
        if r_2 = 0 then (
          if (A_1.2 41 0 0 (0 : Int32).toNatClampNeg) = (r_6.toInt64) then (
            some (A_1, Z_5))
          else (
            none))
        else (
          some (A_1, Z_5)))
      else (
        none)))
def fL_case41 (L : Nat) (xs : Nat → Int32) (x4 : Int32) (A Z : sM) : Option (sM × sM) :=
  gd (inb (x4 + (1 : Int32)) L) (
    bd2 (fL_describedByte (xs (x4 + (1 : Int32)).toNatClampNeg) A) fun r_2 A_1 =>
    gd (inb (x4 + (1 : Int32)) L) (
      bd2 (fX10_describedByte (xs (x4 + (1 : Int32)).toNatClampNeg) Z) fun r_6 Z_5 =>
      Option.bind (fX10_thrown Z_5) fun r_8 =>
      if r_8 = r_2 then (
        if r_2 = 0 then (
          if (A_1.2 41 0 0 (0 : Int32).toNatClampNeg) = (r_6.toInt64) then (
            some (A_1, Z_5))
          else (
            none))
        else (
          some (A_1, Z_5)))
      else (
        none)))
def fL_case42 (L : Nat) (xs : Nat → Int32) (x4 : Int32) (A Z : sM) : Option (sM × sM) :=
  bd2 (fL_undo A) fun r_2 A_1 =>
  bd2 (fX10_undo Z) fun r_6 Z_5 =>
  Option.bind (fX10_thrown Z_5) fun r_8 =>
  if r_8 = r_2 then (
    if r_2 = 0 then (
      if (A_1.2 41 0 0 (0 : Int32).toNatClampNeg) = (r_6.toInt64) then (
        some (A_1, Z_5))
      else (
        none))
    else (
      some (A_1, Z_5)))
  else (
    none)
def fL_case (c : Nat) : Nat → (Nat → Int32) → Int32 → sM → sM → Option (sM × sM) := match c with
  | 0 => fL_case0
  | 1 => fL_case1
  | 2 => fL_case2
  | 3 => fL_case3
  | 4 => fL_case4
  | 5 => fL_case5
  | 6 => fL_case6
  | 7 => fL_case7
  | 8 => fL_case8
  | 9 => fL_case9
  | 10 => fL_case10
  | 11 => fL_case11
  | 12 => fL_case12
  | 13 => fL_case13
  | 14 => fL_case14
  | 15 => fL_case15
  | 16 => fL_case16
  | 17 => fL_case17
  | 18 => fL_case18
  | 19 => fL_case19
  | 20 => fL_case20
  | 21 => fL_case21
  | 22 => fL_case22
  | 23 => fL_case23
  | 24 => fL_case24
  | 25 => fL_case25
  | 26 => fL_case26
  | 27 => fL_case27
  | 28 => fL_case28
  | 29 => fL_case29
  | 30 => fL_case30
  | 31 => fL_case31
  | 32 => fL_case32
  | 33 => fL_case33
  | 34 => fL_case34
  | 35 => fL_case35
  | 36 => fL_case36
  | 37 => fL_case37
  | 38 => fL_case38
  | 39 => fL_case39
  | 40 => fL_case40
  | 41 => fL_case41
  | 42 => fL_case42
  | _ => fun _ _ _ A Z => some (A, Z)
/-- what the run of calls keeps: n calls, the system's memory and the reference's -/
def StepOK (Inv : Nat → sM → sM → Prop) : Prop := ∀ (c n L : Nat) (A Z : sM) (xs : Nat → Int32) (x4 : Int32), n < 512 → Inv n A Z → (inb x4 L = true ∧ inb (x4 + (1 : Int32)) L = true ∧ inb (x4 + (2 : Int32)) L = true ∧ inb (x4 + (3 : Int32)) L = true ∧ inb (x4 + (4 : Int32)) L = true ∧ inb (x4 + (5 : Int32)) L = true) → ∃ A' Z', fL_case c L xs x4 A Z = some (A', Z') ∧ Inv (n + 1) A' Z'
