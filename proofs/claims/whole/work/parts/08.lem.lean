theorem kl_0 : Int64.ofNat ((0 : Fin 2) : Nat) = (0 : Int64) := by decide
theorem knX10_divisor : KN yX10_divisor cX10_divisor 4 (some .long) 2 := ⟨inW 1744 (by decide +kernel) (by decide +kernel), inW 138 (by decide +kernel) (by decide +kernel), (by decide +kernel), (by decide +kernel), (by decide +kernel)⟩
theorem msX10_265 : MS RX10 265 yX10_divisor := ⟨Or.inl (inW 1742 (by decide +kernel) (by decide +kernel)), inW 1743 (by decide +kernel) (by decide +kernel)⟩
theorem flX10_55 : FL RX10 55 10 24 := ⟨_, _, _, _, rfl, inX10, by decide, Or.inl (inW 1389 (by decide +kernel) (by decide +kernel)), rfl⟩
theorem sr10_24 (o : Nat) : sR 10 24 o 40 o := fun _ _ _ _ => ⟨_, rfl, rfl⟩
theorem flX10_276 : FL RX10 276 10 25 := ⟨_, _, _, _, rfl, inX10, by decide, Or.inl (inW 1390 (by decide +kernel) (by decide +kernel)), rfl⟩
theorem sh10_25 : sI 10 25 := fun _ _ _ _ _ _ => ⟨_, rfl, rfl, rfl, Nat.le_of_ble_eq_true rfl⟩
theorem kc_1 : Int32.ofInt (1) = (1 : Int32) := by decide
theorem fpX10_276 : FP RX10 276 10 25 .int := ⟨_, _, _, _, tyX10, rfl, inX10, tyX10_ok, nmX10, by decide, Or.inl (inW 1390 (by decide +kernel) (by decide +kernel)), rfl, rfl, rfl⟩
theorem nk10 : ¬ (10 : Nat) = 21 := by decide
theorem nk40 : ¬ (40 : Nat) = 21 := by decide
theorem ar40 : aI 2 40 100 := fun _ _ _ _ _ => rfl
theorem lcX10_121 : Cond.constantLong RX10 121 (10) ∈ ALLW := inW 1484 (by decide +kernel) (by decide +kernel)
theorem kb_48 : (Int8.ofInt (48)).toInt32 = (48 : Int32) := by decide
theorem knX10_tells : KN yX10_tells cX10_tells 2 none 1 := ⟨inW 1806 (by decide +kernel) (by decide +kernel), inW 138 (by decide +kernel) (by decide +kernel), (by decide +kernel), (by decide +kernel), (by decide +kernel)⟩
theorem mvX10_283 : MV RX10 283 yX10_tells := ⟨Or.inl (inW 1803 (by decide +kernel) (by decide +kernel)), inW 1805 (by decide +kernel) (by decide +kernel), inW 123 (by decide +kernel) (by decide +kernel)⟩
theorem kc10 : KC 10 RX10 := ⟨⟨_, _, rfl⟩, fun _ _ _ _ _ => ⟨_, rfl⟩⟩
theorem knX10_tellsNumber : KN yX10_tellsNumber cX10_tellsNumber 3 none 1 := ⟨inW 1802 (by decide +kernel) (by decide +kernel), inW 138 (by decide +kernel) (by decide +kernel), (by decide +kernel), (by decide +kernel), (by decide +kernel)⟩
theorem mvX10_279 : MV RX10 279 yX10_tellsNumber := ⟨Or.inl (inW 1799 (by decide +kernel) (by decide +kernel)), inW 1801 (by decide +kernel) (by decide +kernel), inW 122 (by decide +kernel) (by decide +kernel)⟩
theorem ks_300 : (Int16.ofInt (300)).toInt32 = (300 : Int32) := by decide
theorem flX5_22 : FL RX5 22 5 1 := ⟨_, _, _, _, rfl, inX5, by decide, Or.inl (inW 356 (by decide +kernel) (by decide +kernel)), rfl⟩
theorem sh5_1 : sI 5 1 := fun _ _ _ _ _ _ => ⟨_, rfl, rfl, rfl, Nat.le_of_ble_eq_true rfl⟩
theorem kc_0 : Int32.ofInt (0) = (0 : Int32) := by decide
theorem kb_24 : (Int8.ofInt (24)).toInt32 = (24 : Int32) := by decide
theorem kc_m8 : Int32.ofInt (-8) = (-8 : Int32) := by decide
theorem flX5_9 : FL RX5 9 5 0 := ⟨_, _, _, _, rfl, inX5, by decide, Or.inl (inW 355 (by decide +kernel) (by decide +kernel)), rfl⟩
theorem sr5_0 (o : Nat) : sR 5 0 o 20 o := fun _ _ _ _ => ⟨_, rfl, rfl⟩
theorem fpX5_22 : FP RX5 22 5 1 .int := ⟨_, _, _, _, tyX5, rfl, inX5, tyX5_ok, nmX5, by decide, Or.inl (inW 356 (by decide +kernel) (by decide +kernel)), rfl, rfl, rfl⟩
theorem nk5 : ¬ (5 : Nat) = 21 := by decide
theorem nk20 : ¬ (20 : Nat) = 21 := by decide
theorem ar20 : aI 2 20 300 := fun _ _ _ _ _ => rfl
theorem fpX4_24 : FP RX4 24 4 4 .int := ⟨_, _, _, _, tyX4, rfl, inX4, tyX4_ok, nmX4, by decide, Or.inl (inW 188 (by decide +kernel) (by decide +kernel)), rfl, rfl, rfl⟩
theorem flX4_31 : FL RX4 31 4 6 := ⟨_, _, _, _, rfl, inX4, by decide, Or.inl (inW 195 (by decide +kernel) (by decide +kernel)), rfl⟩
theorem sr4_6 (o : Nat) : sR 4 6 o 19 o := fun _ _ _ _ => ⟨_, rfl, rfl⟩
theorem afX4_40 : MS RX4 40 yJ7_fill_53178 := ⟨Or.inl (inW 700 (by decide +kernel) (by decide +kernel)), inW 701 (by decide +kernel) (by decide +kernel)⟩
theorem nk19 : ¬ (19 : Nat) = 21 := by decide
theorem ar19 : aI 0 19 24 := fun _ _ _ _ _ => rfl
theorem nk4 : ¬ (4 : Nat) = 21 := by decide
theorem sh4_4 : sI 4 4 := fun _ _ _ _ _ _ => ⟨_, rfl, rfl, rfl, Nat.le_of_ble_eq_true rfl⟩
theorem flX5_38 : FL RX5 38 5 4 := ⟨_, _, _, _, rfl, inX5, by decide, Or.inl (inW 361 (by decide +kernel) (by decide +kernel)), rfl⟩
theorem sh5_4 : sI 5 4 := fun _ _ _ _ _ _ => ⟨_, rfl, rfl, rfl, Nat.le_of_ble_eq_true rfl⟩
theorem flX5_35 : FL RX5 35 5 3 := ⟨_, _, _, _, rfl, inX5, by decide, Or.inl (inW 360 (by decide +kernel) (by decide +kernel)), rfl⟩
theorem sh5_3 : sI 5 3 := fun _ _ _ _ _ _ => ⟨_, rfl, rfl, rfl, Nat.le_of_ble_eq_true rfl⟩
theorem flX5_32 : FL RX5 32 5 2 := ⟨_, _, _, _, rfl, inX5, by decide, Or.inl (inW 358 (by decide +kernel) (by decide +kernel)), rfl⟩
theorem sh5_2 : sI 5 2 := fun _ _ _ _ _ _ => ⟨_, rfl, rfl, rfl, Nat.le_of_ble_eq_true rfl⟩
theorem kb_32 : (Int8.ofInt (32)).toInt32 = (32 : Int32) := by decide
theorem fpX5_35 : FP RX5 35 5 3 .int := ⟨_, _, _, _, tyX5, rfl, inX5, tyX5_ok, nmX5, by decide, Or.inl (inW 360 (by decide +kernel) (by decide +kernel)), rfl, rfl, rfl⟩
theorem kb_97 : (Int8.ofInt (97)).toInt32 = (97 : Int32) := by decide
theorem kb_122 : (Int8.ofInt (122)).toInt32 = (122 : Int32) := by decide
theorem stX5_112 : Cond.methodLink RX5 112 yJ0_charAt_5068e ∈ ALLW := inW 730 (by decide +kernel) (by decide +kernel)
theorem stX5_102 : Cond.methodLink RX5 102 yJ0_length_8abf5 ∈ ALLW := inW 720 (by decide +kernel) (by decide +kernel)
theorem knX5_isLetter : KN yX5_isLetter cX5_isLetter 2 (some .boolean) 1 := ⟨inW 771 (by decide +kernel) (by decide +kernel), inW 134 (by decide +kernel) (by decide +kernel), (by decide +kernel), (by decide +kernel), (by decide +kernel)⟩
theorem mvX5_116 : MV RX5 116 yX5_isLetter := ⟨Or.inl (inW 768 (by decide +kernel) (by decide +kernel)), inW 770 (by decide +kernel) (by decide +kernel), inW 28 (by decide +kernel) (by decide +kernel)⟩
theorem kc5 : KC 5 RX5 := ⟨⟨_, _, rfl⟩, fun _ _ _ _ _ => ⟨_, rfl⟩⟩
theorem kb_m2 : (Int8.ofInt (-2)).toInt32 = (-2 : Int32) := by decide
theorem fpX5_38 : FP RX5 38 5 4 .int := ⟨_, _, _, _, tyX5, rfl, inX5, tyX5_ok, nmX5, by decide, Or.inl (inW 361 (by decide +kernel) (by decide +kernel)), rfl, rfl, rfl⟩
theorem knX5_standsHere : KN yX5_standsHere cX5_standsHere 4 (some .boolean) 1 := ⟨inW 719 (by decide +kernel) (by decide +kernel), inW 134 (by decide +kernel) (by decide +kernel), (by decide +kernel), (by decide +kernel), (by decide +kernel)⟩
theorem mvX5_95 : MV RX5 95 yX5_standsHere := ⟨Or.inl (inW 716 (by decide +kernel) (by decide +kernel)), inW 718 (by decide +kernel) (by decide +kernel), inW 27 (by decide +kernel) (by decide +kernel)⟩
theorem knX5_skipSpaces : KN yX5_skipSpaces cX5_skipSpaces 1 none 0 := ⟨inW 715 (by decide +kernel) (by decide +kernel), inW 134 (by decide +kernel) (by decide +kernel), (by decide +kernel), (by decide +kernel), (by decide +kernel)⟩
theorem mvX5_92 : MV RX5 92 yX5_skipSpaces := ⟨Or.inl (inW 712 (by decide +kernel) (by decide +kernel)), inW 714 (by decide +kernel) (by decide +kernel), inW 26 (by decide +kernel) (by decide +kernel)⟩
theorem kb_57 : (Int8.ofInt (57)).toInt32 = (57 : Int32) := by decide
theorem lcX5_111 : Cond.constant RX5 111 (10000000) ∈ ALLW := inW 781 (by decide +kernel) (by decide +kernel)
theorem kb_10 : (Int8.ofInt (10)).toInt32 = (10 : Int32) := by decide
theorem maX5_26 : Cond.methodLink RX5 26 Lib.Math.min.name ∈ ALLW := inW 695 (by decide +kernel) (by decide +kernel)
theorem knX5_isDigit : KN yX5_isDigit cX5_isDigit 2 (some .boolean) 1 := ⟨inW 780 (by decide +kernel) (by decide +kernel), inW 134 (by decide +kernel) (by decide +kernel), (by decide +kernel), (by decide +kernel), (by decide +kernel)⟩
theorem mvX5_107 : MV RX5 107 yX5_isDigit := ⟨Or.inl (inW 777 (by decide +kernel) (by decide +kernel)), inW 779 (by decide +kernel) (by decide +kernel), inW 30 (by decide +kernel) (by decide +kernel)⟩
theorem kb_m3 : (Int8.ofInt (-3)).toInt32 = (-3 : Int32) := by decide
theorem kb_59 : (Int8.ofInt (59)).toInt32 = (59 : Int32) := by decide
theorem flX5_18 : FL RX5 18 5 5 := ⟨_, _, _, _, rfl, inX5, by decide, Or.inl (inW 362 (by decide +kernel) (by decide +kernel)), rfl⟩
theorem sr5_5 (o : Nat) : sR 5 5 o 4 7 := fun _ _ _ _ => ⟨_, rfl, rfl⟩
theorem lcX5_58 : Cond.constant RX5 58 (100000) ∈ ALLW := inW 772 (by decide +kernel) (by decide +kernel)
theorem fpX5_62 : FP RX5 62 4 0 .int := ⟨_, _, _, _, tyX4, rfl, inX4, tyX4_ok, nmX4, by decide, Or.inr ⟨_, inN 47 (w := .fieldLinkNest "SolarLedger$GardenText" 62 "SolarLedger$Garden" "capacity" "I" "SolarLedger") (by decide +kernel) (by decide +kernel)⟩, rfl, rfl, rfl⟩
theorem fpX5_65 : FP RX5 65 4 1 .int := ⟨_, _, _, _, tyX4, rfl, inX4, tyX4_ok, nmX4, by decide, Or.inr ⟨_, inN 51 (w := .fieldLinkNest "SolarLedger$GardenText" 65 "SolarLedger$Garden" "expiry" "I" "SolarLedger") (by decide +kernel) (by decide +kernel)⟩, rfl, rfl, rfl⟩
theorem kb_100 : (Int8.ofInt (100)).toInt32 = (100 : Int32) := by decide
theorem fpX5_68 : FP RX5 68 4 2 .int := ⟨_, _, _, _, tyX4, rfl, inX4, tyX4_ok, nmX4, by decide, Or.inr ⟨_, inN 55 (w := .fieldLinkNest "SolarLedger$GardenText" 68 "SolarLedger$Garden" "buyout" "I" "SolarLedger") (by decide +kernel) (by decide +kernel)⟩, rfl, rfl, rfl⟩
theorem fpX5_71 : FP RX5 71 4 3 .int := ⟨_, _, _, _, tyX4, rfl, inX4, tyX4_ok, nmX4, by decide, Or.inr ⟨_, inN 59 (w := .fieldLinkNest "SolarLedger$GardenText" 71 "SolarLedger$Garden" "limit" "I" "SolarLedger") (by decide +kernel) (by decide +kernel)⟩, rfl, rfl, rfl⟩
theorem knX5_expectSemicolon : KN yX5_expectSemicolon cX5_expectSemicolon 1 none 0 := ⟨inW 785 (by decide +kernel) (by decide +kernel), inW 134 (by decide +kernel) (by decide +kernel), (by decide +kernel), (by decide +kernel), (by decide +kernel)⟩
theorem mvX5_74 : MV RX5 74 yX5_expectSemicolon := ⟨Or.inl (inW 782 (by decide +kernel) (by decide +kernel)), inW 784 (by decide +kernel) (by decide +kernel), inW 31 (by decide +kernel) (by decide +kernel)⟩
theorem sh4_3 : sI 4 3 := fun _ _ _ _ _ _ => ⟨_, rfl, rfl, rfl, Nat.le_of_ble_eq_true rfl⟩
theorem knX5_expectNumber : KN yX5_expectNumber cX5_expectNumber 5 (some .int) 2 := ⟨inW 776 (by decide +kernel) (by decide +kernel), inW 134 (by decide +kernel) (by decide +kernel), (by decide +kernel), (by decide +kernel), (by decide +kernel)⟩
theorem mvX5_59 : MV RX5 59 yX5_expectNumber := ⟨Or.inl (inW 773 (by decide +kernel) (by decide +kernel)), inW 775 (by decide +kernel) (by decide +kernel), inW 29 (by decide +kernel) (by decide +kernel)⟩
theorem sh4_2 : sI 4 2 := fun _ _ _ _ _ _ => ⟨_, rfl, rfl, rfl, Nat.le_of_ble_eq_true rfl⟩
theorem sh4_1 : sI 4 1 := fun _ _ _ _ _ _ => ⟨_, rfl, rfl, rfl, Nat.le_of_ble_eq_true rfl⟩
theorem sh4_0 : sI 4 0 := fun _ _ _ _ _ _ => ⟨_, rfl, rfl, rfl, Nat.le_of_ble_eq_true rfl⟩
theorem knX5_expectWord : KN yX5_expectWord cX5_expectWord 2 none 1 := ⟨inW 711 (by decide +kernel) (by decide +kernel), inW 134 (by decide +kernel) (by decide +kernel), (by decide +kernel), (by decide +kernel), (by decide +kernel)⟩
theorem mvX5_54 : MV RX5 54 yX5_expectWord := ⟨Or.inl (inW 708 (by decide +kernel) (by decide +kernel)), inW 710 (by decide +kernel) (by decide +kernel), inW 25 (by decide +kernel) (by decide +kernel)⟩
theorem flX4_24 : FL RX4 24 4 4 := ⟨_, _, _, _, rfl, inX4, by decide, Or.inl (inW 188 (by decide +kernel) (by decide +kernel)), rfl⟩
theorem kc_4 : Int32.ofInt (4) = (4 : Int32) := by decide
theorem flX4_27 : FL RX4 27 4 5 := ⟨_, _, _, _, rfl, inX4, by decide, Or.inl (inW 192 (by decide +kernel) (by decide +kernel)), rfl⟩
theorem sr4_5 (o : Nat) : sR 4 5 o 18 o := fun _ _ _ _ => ⟨_, rfl, rfl⟩
theorem nk18 : ¬ (18 : Nat) = 21 := by decide
theorem ar18 : aI 0 18 4 := fun _ _ _ _ _ => rfl
theorem ks_200 : (Int16.ofInt (200)).toInt32 = (200 : Int32) := by decide
theorem knX4_addPeriod : KN yX4_addPeriod cX4_addPeriod 2 none 1 := ⟨inW 794 (by decide +kernel) (by decide +kernel), inW 130 (by decide +kernel) (by decide +kernel), (by decide +kernel), (by decide +kernel), (by decide +kernel)⟩
theorem mvX5_79 : MV RX5 79 yX4_addPeriod := ⟨Or.inr ⟨"SolarLedger", inN 664 (by decide +kernel) (by decide +kernel)⟩, inW 793 (by decide +kernel) (by decide +kernel), inW 33 (by decide +kernel) (by decide +kernel)⟩
theorem kc4 : KC 4 RX4 := ⟨⟨_, _, rfl⟩, fun _ _ _ _ _ => ⟨_, rfl⟩⟩
theorem maX4_46 : Cond.methodLink RX4 46 Lib.Math.max.name ∈ ALLW := inW 808 (by decide +kernel) (by decide +kernel)
theorem kb_23 : (Int8.ofInt (23)).toInt32 = (23 : Int32) := by decide
theorem flX5_85 : FL RX5 85 4 4 := ⟨_, _, _, _, rfl, inX4, by decide, Or.inr ⟨_, inN 64 (w := .fieldLinkNest "SolarLedger$GardenText" 85 "SolarLedger$Garden" "periodCount" "I" "SolarLedger") (by decide +kernel) (by decide +kernel)⟩, rfl⟩
theorem knX4_setHours : KN yX4_setHours cX4_setHours 5 none 3 := ⟨inW 807 (by decide +kernel) (by decide +kernel), inW 130 (by decide +kernel) (by decide +kernel), (by decide +kernel), (by decide +kernel), (by decide +kernel)⟩
theorem mvX5_88 : MV RX5 88 yX4_setHours := ⟨Or.inr ⟨"SolarLedger", inN 677 (by decide +kernel) (by decide +kernel)⟩, inW 806 (by decide +kernel) (by decide +kernel), inW 36 (by decide +kernel) (by decide +kernel)⟩
theorem knX5_readPeriodStatement : KN yX5_readPeriodStatement cX5_readPeriodStatement 1 none 0 := ⟨inW 789 (by decide +kernel) (by decide +kernel), inW 134 (by decide +kernel) (by decide +kernel), (by decide +kernel), (by decide +kernel), (by decide +kernel)⟩
theorem mvX5_47 : MV RX5 47 yX5_readPeriodStatement := ⟨Or.inl (inW 786 (by decide +kernel) (by decide +kernel)), inW 788 (by decide +kernel) (by decide +kernel), inW 32 (by decide +kernel) (by decide +kernel)⟩
theorem kb_m4 : (Int8.ofInt (-4)).toInt32 = (-4 : Int32) := by decide
theorem knX5_readHoursStatement : KN yX5_readHoursStatement cX5_readHoursStatement 4 none 0 := ⟨inW 803 (by decide +kernel) (by decide +kernel), inW 134 (by decide +kernel) (by decide +kernel), (by decide +kernel), (by decide +kernel), (by decide +kernel)⟩
theorem mvX5_99 : MV RX5 99 yX5_readHoursStatement := ⟨Or.inl (inW 800 (by decide +kernel) (by decide +kernel)), inW 802 (by decide +kernel) (by decide +kernel), inW 35 (by decide +kernel) (by decide +kernel)⟩
theorem fpX5_32 : FP RX5 32 5 2 .int := ⟨_, _, _, _, tyX5, rfl, inX5, tyX5_ok, nmX5, by decide, Or.inl (inW 358 (by decide +kernel) (by decide +kernel)), rfl, rfl, rfl⟩
theorem knX5_readFurtherStatements : KN yX5_readFurtherStatements cX5_readFurtherStatements 3 none 0 := ⟨inW 798 (by decide +kernel) (by decide +kernel), inW 134 (by decide +kernel) (by decide +kernel), (by decide +kernel), (by decide +kernel), (by decide +kernel)⟩
theorem mvX5_50 : MV RX5 50 yX5_readFurtherStatements := ⟨Or.inl (inW 795 (by decide +kernel) (by decide +kernel)), inW 797 (by decide +kernel) (by decide +kernel), inW 34 (by decide +kernel) (by decide +kernel)⟩
theorem knX5_readGardenStatement : KN yX5_readGardenStatement cX5_readGardenStatement 1 none 0 := ⟨inW 706 (by decide +kernel) (by decide +kernel), inW 134 (by decide +kernel) (by decide +kernel), (by decide +kernel), (by decide +kernel), (by decide +kernel)⟩
theorem mvX5_44 : MV RX5 44 yX5_readGardenStatement := ⟨Or.inl (inW 703 (by decide +kernel) (by decide +kernel)), inW 705 (by decide +kernel) (by decide +kernel), inW 24 (by decide +kernel) (by decide +kernel)⟩
theorem knX4_clearPeriods : KN yX4_clearPeriods cX4_clearPeriods 1 none 0 := ⟨inW 699 (by decide +kernel) (by decide +kernel), inW 130 (by decide +kernel) (by decide +kernel), (by decide +kernel), (by decide +kernel), (by decide +kernel)⟩
theorem mvX5_41 : MV RX5 41 yX4_clearPeriods := ⟨Or.inr ⟨"SolarLedger", inN 569 (by decide +kernel) (by decide +kernel)⟩, inW 698 (by decide +kernel) (by decide +kernel), inW 23 (by decide +kernel) (by decide +kernel)⟩
theorem flX4_9 : FL RX4 9 4 0 := ⟨_, _, _, _, rfl, inX4, by decide, Or.inl (inW 173 (by decide +kernel) (by decide +kernel)), rfl⟩
theorem fpX4_9 : FP RX4 9 4 0 .int := ⟨_, _, _, _, tyX4, rfl, inX4, tyX4_ok, nmX4, by decide, Or.inl (inW 173 (by decide +kernel) (by decide +kernel)), rfl, rfl, rfl⟩
theorem flX4_15 : FL RX4 15 4 1 := ⟨_, _, _, _, rfl, inX4, by decide, Or.inl (inW 177 (by decide +kernel) (by decide +kernel)), rfl⟩
theorem fpX4_15 : FP RX4 15 4 1 .int := ⟨_, _, _, _, tyX4, rfl, inX4, tyX4_ok, nmX4, by decide, Or.inl (inW 177 (by decide +kernel) (by decide +kernel)), rfl, rfl, rfl⟩
theorem flX4_18 : FL RX4 18 4 2 := ⟨_, _, _, _, rfl, inX4, by decide, Or.inl (inW 181 (by decide +kernel) (by decide +kernel)), rfl⟩
theorem fpX4_18 : FP RX4 18 4 2 .int := ⟨_, _, _, _, tyX4, rfl, inX4, tyX4_ok, nmX4, by decide, Or.inl (inW 181 (by decide +kernel) (by decide +kernel)), rfl, rfl, rfl⟩
theorem flX4_21 : FL RX4 21 4 3 := ⟨_, _, _, _, rfl, inX4, by decide, Or.inl (inW 185 (by decide +kernel) (by decide +kernel)), rfl⟩
theorem fpX4_21 : FP RX4 21 4 3 .int := ⟨_, _, _, _, tyX4, rfl, inX4, tyX4_ok, nmX4, by decide, Or.inl (inW 185 (by decide +kernel) (by decide +kernel)), rfl, rfl, rfl⟩
theorem acX4_34 : Cond.methodLink RX4 34 arraycopyName ∈ ALLW := inW 503 (by decide +kernel) (by decide +kernel)
theorem flX7_9 : FL RX7 9 7 0 := ⟨_, _, _, _, rfl, inX7, by decide, Or.inl (inW 219 (by decide +kernel) (by decide +kernel)), rfl⟩
theorem sr7_0 (o : Nat) : sR 7 0 o 22 o := fun _ _ _ _ => ⟨_, rfl, rfl⟩
theorem len_240 : Int32.ofNat 240 = (240 : Int32) := by decide
theorem flX7_15 : FL RX7 15 7 1 := ⟨_, _, _, _, rfl, inX7, by decide, Or.inl (inW 221 (by decide +kernel) (by decide +kernel)), rfl⟩
theorem sr7_1 (o : Nat) : sR 7 1 o 23 o := fun _ _ _ _ => ⟨_, rfl, rfl⟩
theorem acX7_24 : Cond.methodLink RX7 24 arraycopyName ∈ ALLW := inW 510 (by decide +kernel) (by decide +kernel)
theorem nk23 : ¬ (23 : Nat) = 21 := by decide
theorem ar23 : aI 0 23 240 := fun _ _ _ _ _ => rfl
theorem nk22 : ¬ (22 : Nat) = 21 := by decide
theorem ar22 : aI 0 22 240 := fun _ _ _ _ _ => rfl
theorem flX8_26 : FL RX8 26 8 0 := ⟨_, _, _, _, rfl, inX8, by decide, Or.inl (inW 235 (by decide +kernel) (by decide +kernel)), rfl⟩
theorem sh8_0 : sI 8 0 := fun _ _ _ _ _ _ => ⟨_, rfl, rfl, rfl, Nat.le_of_ble_eq_true rfl⟩
theorem fpX8_26 : FP RX8 26 8 0 .int := ⟨_, _, _, _, tyX8, rfl, inX8, tyX8_ok, nmX8, by decide, Or.inl (inW 235 (by decide +kernel) (by decide +kernel)), rfl, rfl, rfl⟩
theorem flX8_29 : FL RX8 29 8 1 := ⟨_, _, _, _, rfl, inX8, by decide, Or.inl (inW 239 (by decide +kernel) (by decide +kernel)), rfl⟩
theorem sh8_1 : sI 8 1 := fun _ _ _ _ _ _ => ⟨_, rfl, rfl, rfl, Nat.le_of_ble_eq_true rfl⟩
theorem fpX8_29 : FP RX8 29 8 1 .int := ⟨_, _, _, _, tyX8, rfl, inX8, tyX8_ok, nmX8, by decide, Or.inl (inW 239 (by decide +kernel) (by decide +kernel)), rfl, rfl, rfl⟩
theorem flX8_32 : FL RX8 32 8 2 := ⟨_, _, _, _, rfl, inX8, by decide, Or.inl (inW 241 (by decide +kernel) (by decide +kernel)), rfl⟩
theorem sh8_2 : sI 8 2 := fun _ _ _ _ _ _ => ⟨_, rfl, rfl, rfl, Nat.le_of_ble_eq_true rfl⟩
theorem fpX8_32 : FP RX8 32 8 2 .int := ⟨_, _, _, _, tyX8, rfl, inX8, tyX8_ok, nmX8, by decide, Or.inl (inW 241 (by decide +kernel) (by decide +kernel)), rfl, rfl, rfl⟩
theorem flX8_35 : FL RX8 35 8 3 := ⟨_, _, _, _, rfl, inX8, by decide, Or.inl (inW 244 (by decide +kernel) (by decide +kernel)), rfl⟩
theorem sh8_3 : sI 8 3 := fun _ _ _ _ _ _ => ⟨_, rfl, rfl, rfl, Nat.le_of_ble_eq_true rfl⟩
theorem fpX8_35 : FP RX8 35 8 3 .int := ⟨_, _, _, _, tyX8, rfl, inX8, tyX8_ok, nmX8, by decide, Or.inl (inW 244 (by decide +kernel) (by decide +kernel)), rfl, rfl, rfl⟩
theorem flX8_38 : FL RX8 38 8 4 := ⟨_, _, _, _, rfl, inX8, by decide, Or.inl (inW 246 (by decide +kernel) (by decide +kernel)), rfl⟩
theorem sh8_4 : sI 8 4 := fun _ _ _ _ _ _ => ⟨_, rfl, rfl, rfl, Nat.le_of_ble_eq_true rfl⟩
theorem fpX8_38 : FP RX8 38 8 4 .int := ⟨_, _, _, _, tyX8, rfl, inX8, tyX8_ok, nmX8, by decide, Or.inl (inW 246 (by decide +kernel) (by decide +kernel)), rfl, rfl, rfl⟩
theorem flX8_9 : FL RX8 9 8 5 := ⟨_, _, _, _, rfl, inX8, by decide, Or.inl (inW 251 (by decide +kernel) (by decide +kernel)), rfl⟩
theorem sh8_5 : sI 8 5 := fun _ _ _ _ _ _ => ⟨_, rfl, rfl, rfl, Nat.le_of_ble_eq_true rfl⟩
theorem fpX8_9 : FP RX8 9 8 5 .int := ⟨_, _, _, _, tyX8, rfl, inX8, tyX8_ok, nmX8, by decide, Or.inl (inW 251 (by decide +kernel) (by decide +kernel)), rfl, rfl, rfl⟩
theorem flX8_54 : FL RX8 54 8 6 := ⟨_, _, _, _, rfl, inX8, by decide, Or.inl (inW 256 (by decide +kernel) (by decide +kernel)), rfl⟩
theorem sh8_6 : sI 8 6 := fun _ _ _ _ _ _ => ⟨_, rfl, rfl, rfl, Nat.le_of_ble_eq_true rfl⟩
theorem fpX8_54 : FP RX8 54 8 6 .int := ⟨_, _, _, _, tyX8, rfl, inX8, tyX8_ok, nmX8, by decide, Or.inl (inW 256 (by decide +kernel) (by decide +kernel)), rfl, rfl, rfl⟩
theorem flX8_15 : FL RX8 15 8 7 := ⟨_, _, _, _, rfl, inX8, by decide, Or.inl (inW 258 (by decide +kernel) (by decide +kernel)), rfl⟩
theorem sr8_7 (o : Nat) : sR 8 7 o 24 o := fun _ _ _ _ => ⟨_, rfl, rfl⟩
theorem len_60 : Int32.ofNat 60 = (60 : Int32) := by decide
theorem flX8_19 : FL RX8 19 8 8 := ⟨_, _, _, _, rfl, inX8, by decide, Or.inl (inW 262 (by decide +kernel) (by decide +kernel)), rfl⟩
theorem sr8_8 (o : Nat) : sR 8 8 o 25 o := fun _ _ _ _ => ⟨_, rfl, rfl⟩
theorem len_72 : Int32.ofNat 72 = (72 : Int32) := by decide
theorem flX8_23 : FL RX8 23 8 9 := ⟨_, _, _, _, rfl, inX8, by decide, Or.inl (inW 264 (by decide +kernel) (by decide +kernel)), rfl⟩
theorem sr8_9 (o : Nat) : sR 8 9 o 26 o := fun _ _ _ _ => ⟨_, rfl, rfl⟩
theorem len_6 : Int32.ofNat 6 = (6 : Int32) := by decide
theorem acX8_57 : Cond.methodLink RX8 57 arraycopyName ∈ ALLW := inW 515 (by decide +kernel) (by decide +kernel)
theorem ar26 : aL 26 6 := fun _ _ _ _ _ => rfl
theorem ar25 : aL 25 72 := fun _ _ _ _ _ => rfl
theorem nk24 : ¬ (24 : Nat) = 21 := by decide
theorem ar24 : aI 0 24 60 := fun _ _ _ _ _ => rfl
theorem nk8 : ¬ (8 : Nat) = 21 := by decide
theorem flX0_12 : FL RX0 12 0 0 := ⟨_, _, _, _, rfl, inX0, by decide, Or.inl (inW 289 (by decide +kernel) (by decide +kernel)), rfl⟩
theorem sr0_0 (o : Nat) : sR 0 0 o 4 o := fun _ _ _ _ => ⟨_, rfl, rfl⟩
theorem flX0_21 : FL RX0 21 0 1 := ⟨_, _, _, _, rfl, inX0, by decide, Or.inl (inW 292 (by decide +kernel) (by decide +kernel)), rfl⟩
theorem sr0_1 (o : Nat) : sR 0 1 o 7 o := fun _ _ _ _ => ⟨_, rfl, rfl⟩
theorem flX0_39 : FL RX0 39 0 3 := ⟨_, _, _, _, rfl, inX0, by decide, Or.inl (inW 300 (by decide +kernel) (by decide +kernel)), rfl⟩
theorem sh0_3 : sI 0 3 := fun _ _ _ _ _ _ => ⟨_, rfl, rfl, rfl, Nat.le_of_ble_eq_true rfl⟩
theorem fpX0_39 : FP RX0 39 0 3 .int := ⟨_, _, _, _, tyX0, rfl, inX0, tyX0_ok, nmX0, by decide, Or.inl (inW 300 (by decide +kernel) (by decide +kernel)), rfl, rfl, rfl⟩
theorem flX0_43 : FL RX0 43 0 4 := ⟨_, _, _, _, rfl, inX0, by decide, Or.inl (inW 303 (by decide +kernel) (by decide +kernel)), rfl⟩
theorem sh0_4 : sI 0 4 := fun _ _ _ _ _ _ => ⟨_, rfl, rfl, rfl, Nat.le_of_ble_eq_true rfl⟩
theorem fpX0_43 : FP RX0 43 0 4 .int := ⟨_, _, _, _, tyX0, rfl, inX0, tyX0_ok, nmX0, by decide, Or.inl (inW 303 (by decide +kernel) (by decide +kernel)), rfl, rfl, rfl⟩
theorem flX0_46 : FL RX0 46 0 5 := ⟨_, _, _, _, rfl, inX0, by decide, Or.inl (inW 305 (by decide +kernel) (by decide +kernel)), rfl⟩
theorem sh0_5 : sI 0 5 := fun _ _ _ _ _ _ => ⟨_, rfl, rfl, rfl, Nat.le_of_ble_eq_true rfl⟩
theorem fpX0_46 : FP RX0 46 0 5 .int := ⟨_, _, _, _, tyX0, rfl, inX0, tyX0_ok, nmX0, by decide, Or.inl (inW 305 (by decide +kernel) (by decide +kernel)), rfl, rfl, rfl⟩
theorem flX0_49 : FL RX0 49 0 6 := ⟨_, _, _, _, rfl, inX0, by decide, Or.inl (inW 307 (by decide +kernel) (by decide +kernel)), rfl⟩
theorem sh0_6 : sL 0 6 := fun _ _ _ _ _ _ => ⟨_, rfl, rfl, rfl, Nat.le_of_ble_eq_true rfl⟩
theorem fpX0_49 : FP RX0 49 0 6 .long := ⟨_, _, _, _, tyX0, rfl, inX0, tyX0_ok, nmX0, by decide, Or.inl (inW 307 (by decide +kernel) (by decide +kernel)), rfl, rfl, rfl⟩
theorem flX0_53 : FL RX0 53 0 7 := ⟨_, _, _, _, rfl, inX0, by decide, Or.inl (inW 309 (by decide +kernel) (by decide +kernel)), rfl⟩
theorem sh0_7 : sL 0 7 := fun _ _ _ _ _ _ => ⟨_, rfl, rfl, rfl, Nat.le_of_ble_eq_true rfl⟩
theorem fpX0_53 : FP RX0 53 0 7 .long := ⟨_, _, _, _, tyX0, rfl, inX0, tyX0_ok, nmX0, by decide, Or.inl (inW 309 (by decide +kernel) (by decide +kernel)), rfl, rfl, rfl⟩
theorem flX0_27 : FL RX0 27 0 2 := ⟨_, _, _, _, rfl, inX0, by decide, Or.inl (inW 294 (by decide +kernel) (by decide +kernel)), rfl⟩
theorem sr0_2 (o : Nat) : sR 0 2 o 11 o := fun _ _ _ _ => ⟨_, rfl, rfl⟩
theorem knX8_copyFrom : KN yX8_copyFrom cX8_copyFrom 2 none 1 := ⟨inW 514 (by decide +kernel) (by decide +kernel), inW 132 (by decide +kernel) (by decide +kernel), (by decide +kernel), (by decide +kernel), (by decide +kernel)⟩
theorem mvX0_56 : MV RX0 56 yX8_copyFrom := ⟨Or.inr ⟨"SolarLedger", inN 384 (by decide +kernel) (by decide +kernel)⟩, inW 513 (by decide +kernel) (by decide +kernel), inW 6 (by decide +kernel) (by decide +kernel)⟩
theorem kc8 : KC 8 RX8 := ⟨⟨_, _, rfl⟩, fun _ _ _ _ _ => ⟨_, rfl⟩⟩
theorem nk0 : ¬ (0 : Nat) = 21 := by decide
theorem knX7_copyFrom : KN yX7_copyFrom cX7_copyFrom 2 none 1 := ⟨inW 509 (by decide +kernel) (by decide +kernel), inW 131 (by decide +kernel) (by decide +kernel), (by decide +kernel), (by decide +kernel), (by decide +kernel)⟩
theorem mvX0_36 : MV RX0 36 yX7_copyFrom := ⟨Or.inr ⟨"SolarLedger", inN 379 (by decide +kernel) (by decide +kernel)⟩, inW 508 (by decide +kernel) (by decide +kernel), inW 5 (by decide +kernel) (by decide +kernel)⟩
theorem kc7 : KC 7 RX7 := ⟨⟨_, _, rfl⟩, fun _ _ _ _ _ => ⟨_, rfl⟩⟩
theorem knX4_copyFrom : KN yX4_copyFrom cX4_copyFrom 2 none 1 := ⟨inW 502 (by decide +kernel) (by decide +kernel), inW 130 (by decide +kernel) (by decide +kernel), (by decide +kernel), (by decide +kernel), (by decide +kernel)⟩
theorem mvX0_32 : MV RX0 32 yX4_copyFrom := ⟨Or.inr ⟨"SolarLedger", inN 372 (by decide +kernel) (by decide +kernel)⟩, inW 501 (by decide +kernel) (by decide +kernel), inW 4 (by decide +kernel) (by decide +kernel)⟩
theorem afX7_18 : MS RX7 18 yJ7_fill_53178 := ⟨Or.inl (inW 819 (by decide +kernel) (by decide +kernel)), inW 701 (by decide +kernel) (by decide +kernel)⟩
theorem knX7_clear : KN yX7_clear cX7_clear 1 none 0 := ⟨inW 818 (by decide +kernel) (by decide +kernel), inW 131 (by decide +kernel) (by decide +kernel), (by decide +kernel), (by decide +kernel), (by decide +kernel)⟩
theorem mvX0_59 : MV RX0 59 yX7_clear := ⟨Or.inr ⟨"SolarLedger", inN 688 (by decide +kernel) (by decide +kernel)⟩, inW 817 (by decide +kernel) (by decide +kernel), inW 38 (by decide +kernel) (by decide +kernel)⟩
theorem flX9_58 : FL RX9 58 9 7 := ⟨_, _, _, _, rfl, inX9, by decide, Or.inl (inW 436 (by decide +kernel) (by decide +kernel)), rfl⟩
theorem sh9_7 : sI 9 7 := fun _ _ _ _ _ _ => ⟨_, rfl, rfl, rfl, Nat.le_of_ble_eq_true rfl⟩
theorem kc_m1 : Int32.ofInt (-1) = (-1 : Int32) := by decide
theorem afX8_51 : MS RX8 51 yJ7_fill_d0a16 := ⟨Or.inl (inW 884 (by decide +kernel) (by decide +kernel)), inW 538 (by decide +kernel) (by decide +kernel)⟩
theorem afX8_45 : MS RX8 45 yJ7_fill_53178 := ⟨Or.inl (inW 883 (by decide +kernel) (by decide +kernel)), inW 701 (by decide +kernel) (by decide +kernel)⟩
theorem knX8_setAssignment : KN yX8_setAssignment cX8_setAssignment 3 none 2 := ⟨inW 882 (by decide +kernel) (by decide +kernel), inW 132 (by decide +kernel) (by decide +kernel), (by decide +kernel), (by decide +kernel), (by decide +kernel)⟩
theorem mvX8_41 : MV RX8 41 yX8_setAssignment := ⟨Or.inl (inW 879 (by decide +kernel) (by decide +kernel)), inW 881 (by decide +kernel) (by decide +kernel), inW 43 (by decide +kernel) (by decide +kernel)⟩
theorem flX0_69 : FL RX0 69 8 4 := ⟨_, _, _, _, rfl, inX8, by decide, Or.inr ⟨_, inN 122 (w := .fieldLinkNest "SolarLedger$Books" 69 "SolarLedger$Subscriber" "held" "I" "SolarLedger") (by decide +kernel) (by decide +kernel)⟩, rfl⟩
theorem flX0_72 : FL RX0 72 4 0 := ⟨_, _, _, _, rfl, inX4, by decide, Or.inr ⟨_, inN 49 (w := .fieldLinkNest "SolarLedger$Books" 72 "SolarLedger$Garden" "capacity" "I" "SolarLedger") (by decide +kernel) (by decide +kernel)⟩, rfl⟩
theorem knX0_heldShares : KN yX0_heldShares cX0_heldShares 3 (some .int) 0 := ⟨inW 473 (by decide +kernel) (by decide +kernel), inW 129 (by decide +kernel) (by decide +kernel), (by decide +kernel), (by decide +kernel), (by decide +kernel)⟩
theorem mvX0_75 : MV RX0 75 yX0_heldShares := ⟨Or.inl (inW 470 (by decide +kernel) (by decide +kernel)), inW 472 (by decide +kernel) (by decide +kernel), inW 1 (by decide +kernel) (by decide +kernel)⟩
theorem kc0 : KC 0 RX0 := ⟨⟨_, _, rfl⟩, fun _ _ _ _ _ => ⟨_, rfl⟩⟩
theorem maX0_94 : Cond.methodLink RX0 94 Lib.Math.min.name ∈ ALLW := inW 895 (by decide +kernel) (by decide +kernel)
theorem flX0_100 : FL RX0 100 8 1 := ⟨_, _, _, _, rfl, inX8, by decide, Or.inr ⟨_, inN 113 (w := .fieldLinkNest "SolarLedger$Books" 100 "SolarLedger$Subscriber" "wanted" "I" "SolarLedger") (by decide +kernel) (by decide +kernel)⟩, rfl⟩
theorem flX0_103 : FL RX0 103 8 2 := ⟨_, _, _, _, rfl, inX8, by decide, Or.inr ⟨_, inN 116 (w := .fieldLinkNest "SolarLedger$Books" 103 "SolarLedger$Subscriber" "minimum" "I" "SolarLedger") (by decide +kernel) (by decide +kernel)⟩, rfl⟩
theorem fpX0_79 : FP RX0 79 8 0 .int := ⟨_, _, _, _, tyX8, rfl, inX8, tyX8_ok, nmX8, by decide, Or.inr ⟨_, inN 110 (w := .fieldLinkNest "SolarLedger$Books" 79 "SolarLedger$Subscriber" "status" "I" "SolarLedger") (by decide +kernel) (by decide +kernel)⟩, rfl, rfl, rfl⟩
theorem fpX0_69 : FP RX0 69 8 4 .int := ⟨_, _, _, _, tyX8, rfl, inX8, tyX8_ok, nmX8, by decide, Or.inr ⟨_, inN 122 (w := .fieldLinkNest "SolarLedger$Books" 69 "SolarLedger$Subscriber" "held" "I" "SolarLedger") (by decide +kernel) (by decide +kernel)⟩, rfl, rfl, rfl⟩
theorem knX4_greatestHolding : KN yX4_greatestHolding cX4_greatestHolding 1 (some .int) 0 := ⟨inW 830 (by decide +kernel) (by decide +kernel), inW 130 (by decide +kernel) (by decide +kernel), (by decide +kernel), (by decide +kernel), (by decide +kernel)⟩
theorem mvX0_91 : MV RX0 91 yX4_greatestHolding := ⟨Or.inr ⟨"SolarLedger", inN 767 (by decide +kernel) (by decide +kernel)⟩, inW 829 (by decide +kernel) (by decide +kernel), inW 39 (by decide +kernel) (by decide +kernel)⟩
theorem knX0_unheldShares : KN yX0_unheldShares cX0_unheldShares 1 (some .int) 0 := ⟨inW 469 (by decide +kernel) (by decide +kernel), inW 129 (by decide +kernel) (by decide +kernel), (by decide +kernel), (by decide +kernel), (by decide +kernel)⟩
theorem mvX0_88 : MV RX0 88 yX0_unheldShares := ⟨Or.inl (inW 893 (by decide +kernel) (by decide +kernel)), inW 468 (by decide +kernel) (by decide +kernel), inW 0 (by decide +kernel) (by decide +kernel)⟩
theorem kb_9 : (Int8.ofInt (9)).toInt32 = (9 : Int32) := by decide
theorem flX0_79 : FL RX0 79 8 0 := ⟨_, _, _, _, rfl, inX8, by decide, Or.inr ⟨_, inN 110 (w := .fieldLinkNest "SolarLedger$Books" 79 "SolarLedger$Subscriber" "status" "I" "SolarLedger") (by decide +kernel) (by decide +kernel)⟩, rfl⟩
theorem flX0_82 : FL RX0 82 8 3 := ⟨_, _, _, _, rfl, inX8, by decide, Or.inr ⟨_, inN 118 (w := .fieldLinkNest "SolarLedger$Books" 82 "SolarLedger$Subscriber" "priority" "I" "SolarLedger") (by decide +kernel) (by decide +kernel)⟩, rfl⟩
theorem knX0_offerShares : KN yX0_offerShares cX0_offerShares 3 none 1 := ⟨inW 892 (by decide +kernel) (by decide +kernel), inW 129 (by decide +kernel) (by decide +kernel), (by decide +kernel), (by decide +kernel), (by decide +kernel)⟩
theorem mvX0_85 : MV RX0 85 yX0_offerShares := ⟨Or.inl (inW 889 (by decide +kernel) (by decide +kernel)), inW 891 (by decide +kernel) (by decide +kernel), inW 45 (by decide +kernel) (by decide +kernel)⟩
theorem kb_16 : (Int8.ofInt (16)).toInt32 = (16 : Int32) := by decide
theorem knX0_goThroughWaitingList : KN yX0_goThroughWaitingList cX0_goThroughWaitingList 4 none 0 := ⟨inW 888 (by decide +kernel) (by decide +kernel), inW 129 (by decide +kernel) (by decide +kernel), (by decide +kernel), (by decide +kernel), (by decide +kernel)⟩
theorem mvX0_66 : MV RX0 66 yX0_goThroughWaitingList := ⟨Or.inl (inW 885 (by decide +kernel) (by decide +kernel)), inW 887 (by decide +kernel) (by decide +kernel), inW 44 (by decide +kernel) (by decide +kernel)⟩
theorem knX8_begin : KN yX8_begin cX8_begin 4 none 3 := ⟨inW 878 (by decide +kernel) (by decide +kernel), inW 132 (by decide +kernel) (by decide +kernel), (by decide +kernel), (by decide +kernel), (by decide +kernel)⟩
theorem mvX0_62 : MV RX0 62 yX8_begin := ⟨Or.inr ⟨"SolarLedger", inN 748 (by decide +kernel) (by decide +kernel)⟩, inW 877 (by decide +kernel) (by decide +kernel), inW 42 (by decide +kernel) (by decide +kernel)⟩
theorem flX0_110 : FL RX0 110 8 5 := ⟨_, _, _, _, rfl, inX8, by decide, Or.inr ⟨_, inN 127 (w := .fieldLinkNest "SolarLedger$Books" 110 "SolarLedger$Subscriber" "assignee" "I" "SolarLedger") (by decide +kernel) (by decide +kernel)⟩, rfl⟩
theorem maX8_63 : Cond.methodLink RX8 63 Lib.MathLoose.min_long.x ∈ ALLW := inW 572 (by decide +kernel) (by decide +kernel)
theorem lcX8_88 : Cond.constantLong RX8 88 (100) ∈ ALLW := inW 984 (by decide +kernel) (by decide +kernel)
theorem kc_2 : Int32.ofInt (2) = (2 : Int32) := by decide
theorem kc_3 : Int32.ofInt (3) = (3 : Int32) := by decide
theorem knX8_lotSum : KN yX8_lotSum cX8_lotSum 4 (some .long) 0 := ⟨inW 983 (by decide +kernel) (by decide +kernel), inW 132 (by decide +kernel) (by decide +kernel), (by decide +kernel), (by decide +kernel), (by decide +kernel)⟩
theorem mvX8_84 : MV RX8 84 yX8_lotSum := ⟨Or.inl (inW 980 (by decide +kernel) (by decide +kernel)), inW 982 (by decide +kernel) (by decide +kernel), inW 55 (by decide +kernel) (by decide +kernel)⟩
theorem mvX0_128 : MV RX0 128 yX8_setAssignment := ⟨Or.inr ⟨"SolarLedger", inN 862 (by decide +kernel) (by decide +kernel)⟩, inW 881 (by decide +kernel) (by decide +kernel), inW 43 (by decide +kernel) (by decide +kernel)⟩
theorem flX0_117 : FL RX0 117 4 2 := ⟨_, _, _, _, rfl, inX4, by decide, Or.inr ⟨_, inN 57 (w := .fieldLinkNest "SolarLedger$Books" 117 "SolarLedger$Garden" "buyout" "I" "SolarLedger") (by decide +kernel) (by decide +kernel)⟩, rfl⟩
theorem knX0_endAssignments : KN yX0_endAssignments cX0_endAssignments 3 none 1 := ⟨inW 988 (by decide +kernel) (by decide +kernel), inW 129 (by decide +kernel) (by decide +kernel), (by decide +kernel), (by decide +kernel), (by decide +kernel)⟩
theorem mvX0_124 : MV RX0 124 yX0_endAssignments := ⟨Or.inl (inW 985 (by decide +kernel) (by decide +kernel)), inW 987 (by decide +kernel) (by decide +kernel), inW 56 (by decide +kernel) (by decide +kernel)⟩
theorem knX8_closeAccounts : KN yX8_closeAccounts cX8_closeAccounts 12 (some .long) 1 := ⟨inW 979 (by decide +kernel) (by decide +kernel), inW 132 (by decide +kernel) (by decide +kernel), (by decide +kernel), (by decide +kernel), (by decide +kernel)⟩
theorem mvX0_120 : MV RX0 120 yX8_closeAccounts := ⟨Or.inr ⟨"SolarLedger", inN 849 (by decide +kernel) (by decide +kernel)⟩, inW 978 (by decide +kernel) (by decide +kernel), inW 54 (by decide +kernel) (by decide +kernel)⟩
theorem knX8_isActive : KN yX8_isActive cX8_isActive 1 (some .boolean) 0 := ⟨inW 567 (by decide +kernel) (by decide +kernel), inW 132 (by decide +kernel) (by decide +kernel), (by decide +kernel), (by decide +kernel), (by decide +kernel)⟩
theorem mvX0_113 : MV RX0 113 yX8_isActive := ⟨Or.inr ⟨"SolarLedger", inN 437 (by decide +kernel) (by decide +kernel)⟩, inW 566 (by decide +kernel) (by decide +kernel), inW 15 (by decide +kernel) (by decide +kernel)⟩
theorem flX9_12 : FL RX9 12 9 0 := ⟨_, _, _, _, rfl, inX9, by decide, Or.inl (inW 429 (by decide +kernel) (by decide +kernel)), rfl⟩
theorem sr9_0 (o : Nat) : sR 9 0 o 0 0 := fun _ _ _ _ => ⟨_, rfl, rfl⟩
theorem flX9_141 : FL RX9 141 0 3 := ⟨_, _, _, _, rfl, inX0, by decide, Or.inr ⟨_, inN 175 (w := .fieldLinkNest "SolarLedger" 141 "SolarLedger$Books" "count" "I" "SolarLedger") (by decide +kernel) (by decide +kernel)⟩, rfl⟩
theorem mvX9_163 : MV RX9 163 yX0_unheldShares := ⟨Or.inr ⟨"SolarLedger", inN 339 (by decide +kernel) (by decide +kernel)⟩, inW 468 (by decide +kernel) (by decide +kernel), inW 0 (by decide +kernel) (by decide +kernel)⟩
theorem knX8_isAheadOf : KN yX8_isAheadOf cX8_isAheadOf 2 (some .boolean) 1 := ⟨inW 1018 (by decide +kernel) (by decide +kernel), inW 132 (by decide +kernel) (by decide +kernel), (by decide +kernel), (by decide +kernel), (by decide +kernel)⟩
theorem mvX0_106 : MV RX0 106 yX8_isAheadOf := ⟨Or.inr ⟨"SolarLedger", inN 888 (by decide +kernel) (by decide +kernel)⟩, inW 1017 (by decide +kernel) (by decide +kernel), inW 58 (by decide +kernel) (by decide +kernel)⟩
theorem flX0_132 : FL RX0 132 8 7 := ⟨_, _, _, _, rfl, inX8, by decide, Or.inr ⟨_, inN 133 (w := .fieldLinkNest "SolarLedger$Books" 132 "SolarLedger$Subscriber" "days" "[I" "SolarLedger") (by decide +kernel) (by decide +kernel)⟩, rfl⟩
theorem flX7_34 : FL RX7 34 4 4 := ⟨_, _, _, _, rfl, inX4, by decide, Or.inr ⟨_, inN 63 (w := .fieldLinkNest "SolarLedger$Meter" 34 "SolarLedger$Garden" "periodCount" "I" "SolarLedger") (by decide +kernel) (by decide +kernel)⟩, rfl⟩
theorem flX7_44 : FL RX7 44 4 5 := ⟨_, _, _, _, rfl, inX4, by decide, Or.inr ⟨_, inN 66 (w := .fieldLinkNest "SolarLedger$Meter" 44 "SolarLedger$Garden" "rates" "[I" "SolarLedger") (by decide +kernel) (by decide +kernel)⟩, rfl⟩
theorem knX7_cell : KN yX7_cell cX7_cell 2 (some .int) 2 := ⟨inW 528 (by decide +kernel) (by decide +kernel), inW 131 (by decide +kernel) (by decide +kernel), (by decide +kernel), (by decide +kernel), (by decide +kernel)⟩
theorem msX7_40 : MS RX7 40 yX7_cell := ⟨Or.inl (inW 526 (by decide +kernel) (by decide +kernel)), inW 527 (by decide +kernel) (by decide +kernel)⟩
theorem knX7_value : KN yX7_value cX7_value 6 (some .long) 3 := ⟨inW 525 (by decide +kernel) (by decide +kernel), inW 131 (by decide +kernel) (by decide +kernel), (by decide +kernel), (by decide +kernel), (by decide +kernel)⟩
theorem msX7_30 : MS RX7 30 yX7_value := ⟨Or.inl (inW 523 (by decide +kernel) (by decide +kernel)), inW 524 (by decide +kernel) (by decide +kernel)⟩
theorem knX7_countedValue : KN yX7_countedValue cX7_countedValue 3 (some .long) 2 := ⟨inW 1069 (by decide +kernel) (by decide +kernel), inW 131 (by decide +kernel) (by decide +kernel), (by decide +kernel), (by decide +kernel), (by decide +kernel)⟩
theorem mvX0_136 : MV RX0 136 yX7_countedValue := ⟨Or.inr ⟨"SolarLedger", inN 939 (by decide +kernel) (by decide +kernel)⟩, inW 1068 (by decide +kernel) (by decide +kernel), inW 61 (by decide +kernel) (by decide +kernel)⟩
theorem flX3_9 : FL RX3 9 3 0 := ⟨_, _, _, _, rfl, inX3, by decide, Or.inl (inW 399 (by decide +kernel) (by decide +kernel)), rfl⟩
theorem sr3_0 (o : Nat) : sR 3 0 o 15 o := fun _ _ _ _ => ⟨_, rfl, rfl⟩
theorem flX3_47 : FL RX3 47 0 3 := ⟨_, _, _, _, rfl, inX0, by decide, Or.inr ⟨_, inN 174 (w := .fieldLinkNest "SolarLedger$Division" 47 "SolarLedger$Books" "count" "I" "SolarLedger") (by decide +kernel) (by decide +kernel)⟩, rfl⟩
theorem flX3_51 : FL RX3 51 0 2 := ⟨_, _, _, _, rfl, inX0, by decide, Or.inr ⟨_, inN 170 (w := .fieldLinkNest "SolarLedger$Division" 51 "SolarLedger$Books" "subscribers" "[LSolarLedger$Subscriber;" "SolarLedger") (by decide +kernel) (by decide +kernel)⟩, rfl⟩
theorem flX3_55 : FL RX3 55 8 4 := ⟨_, _, _, _, rfl, inX8, by decide, Or.inr ⟨_, inN 121 (w := .fieldLinkNest "SolarLedger$Division" 55 "SolarLedger$Subscriber" "held" "I" "SolarLedger") (by decide +kernel) (by decide +kernel)⟩, rfl⟩
theorem ar15 : aL 15 17 := fun _ _ _ _ _ => rfl
theorem kb_60 : (Int8.ofInt (60)).toInt32 = (60 : Int32) := by decide
theorem flX3_60 : FL RX3 60 8 7 := ⟨_, _, _, _, rfl, inX8, by decide, Or.inr ⟨_, inN 132 (w := .fieldLinkNest "SolarLedger$Division" 60 "SolarLedger$Subscriber" "days" "[I" "SolarLedger") (by decide +kernel) (by decide +kernel)⟩, rfl⟩
theorem afX3_41 : MS RX3 41 yJ7_fill_d0a16 := ⟨Or.inl (inW 537 (by decide +kernel) (by decide +kernel)), inW 538 (by decide +kernel) (by decide +kernel)⟩
theorem kb_30 : (Int8.ofInt (30)).toInt32 = (30 : Int32) := by decide
theorem flX3_25 : FL RX3 25 0 0 := ⟨_, _, _, _, rfl, inX0, by decide, Or.inr ⟨_, inN 163 (w := .fieldLinkNest "SolarLedger$Division" 25 "SolarLedger$Books" "garden" "LSolarLedger$Garden;" "SolarLedger") (by decide +kernel) (by decide +kernel)⟩, rfl⟩
theorem fpX3_37 : FP RX3 37 3 1 .long := ⟨_, _, _, _, tyX3, rfl, inX3, tyX3_ok, nmX3, by decide, Or.inl (inW 400 (by decide +kernel) (by decide +kernel)), rfl, rfl, rfl⟩
theorem flX3_37 : FL RX3 37 3 1 := ⟨_, _, _, _, rfl, inX3, by decide, Or.inl (inW 400 (by decide +kernel) (by decide +kernel)), rfl⟩
theorem sh3_1 : sL 3 1 := fun _ _ _ _ _ _ => ⟨_, rfl, rfl, rfl, Nat.le_of_ble_eq_true rfl⟩
theorem knX4_monthShareDays : KN yX4_monthShareDays cX4_monthShareDays 1 (some .int) 0 := ⟨inW 543 (by decide +kernel) (by decide +kernel), inW 130 (by decide +kernel) (by decide +kernel), (by decide +kernel), (by decide +kernel), (by decide +kernel)⟩
theorem mvX3_31 : MV RX3 31 yX4_monthShareDays := ⟨Or.inr ⟨"SolarLedger", inN 413 (by decide +kernel) (by decide +kernel)⟩, inW 542 (by decide +kernel) (by decide +kernel), inW 10 (by decide +kernel) (by decide +kernel)⟩
theorem knX3_weighSubscribers : KN yX3_weighSubscribers cX3_weighSubscribers 10 (some .long) 3 := ⟨inW 536 (by decide +kernel) (by decide +kernel), inW 136 (by decide +kernel) (by decide +kernel), (by decide +kernel), (by decide +kernel), (by decide +kernel)⟩
theorem mvX3_21 : MV RX3 21 yX3_weighSubscribers := ⟨Or.inl (inW 533 (by decide +kernel) (by decide +kernel)), inW 535 (by decide +kernel) (by decide +kernel), inW 9 (by decide +kernel) (by decide +kernel)⟩
theorem kc3 : KC 3 RX3 := ⟨⟨_, _, rfl⟩, fun _ _ _ _ _ => ⟨_, rfl⟩⟩
theorem kb_17 : (Int8.ofInt (17)).toInt32 = (17 : Int32) := by decide
theorem flX3_15 : FL RX3 15 3 2 := ⟨_, _, _, _, rfl, inX3, by decide, Or.inl (inW 401 (by decide +kernel) (by decide +kernel)), rfl⟩
theorem sr3_2 (o : Nat) : sR 3 2 o 16 o := fun _ _ _ _ => ⟨_, rfl, rfl⟩
theorem ar16 : aL 16 17 := fun _ _ _ _ _ => rfl
theorem flX3_18 : FL RX3 18 3 3 := ⟨_, _, _, _, rfl, inX3, by decide, Or.inl (inW 402 (by decide +kernel) (by decide +kernel)), rfl⟩
theorem sr3_3 (o : Nat) : sR 3 3 o 17 o := fun _ _ _ _ => ⟨_, rfl, rfl⟩
theorem kl_1 : Int64.ofNat ((1 : Fin 2) : Nat) = (1 : Int64) := by decide
theorem lcX3_67 : Cond.constantLong RX3 67 (-1) ∈ ALLW := inW 555 (by decide +kernel) (by decide +kernel)
theorem ar17 : aL 17 17 := fun _ _ _ _ _ => rfl
theorem knX3_giveToGreatestRemainder : KN yX3_giveToGreatestRemainder cX3_giveToGreatestRemainder 3 none 0 := ⟨inW 554 (by decide +kernel) (by decide +kernel), inW 136 (by decide +kernel) (by decide +kernel), (by decide +kernel), (by decide +kernel), (by decide +kernel)⟩
theorem mvX3_64 : MV RX3 64 yX3_giveToGreatestRemainder := ⟨Or.inl (inW 551 (by decide +kernel) (by decide +kernel)), inW 553 (by decide +kernel) (by decide +kernel), inW 12 (by decide +kernel) (by decide +kernel)⟩
theorem flX1_45 : FL RX1 45 8 5 := ⟨_, _, _, _, rfl, inX8, by decide, Or.inr ⟨_, inN 125 (w := .fieldLinkNest "SolarLedger$Credits" 45 "SolarLedger$Subscriber" "assignee" "I" "SolarLedger") (by decide +kernel) (by decide +kernel)⟩, rfl⟩
theorem flX1_25 : FL RX1 25 0 3 := ⟨_, _, _, _, rfl, inX0, by decide, Or.inr ⟨_, inN 172 (w := .fieldLinkNest "SolarLedger$Credits" 25 "SolarLedger$Books" "count" "I" "SolarLedger") (by decide +kernel) (by decide +kernel)⟩, rfl⟩
theorem flX1_31 : FL RX1 31 0 2 := ⟨_, _, _, _, rfl, inX0, by decide, Or.inr ⟨_, inN 169 (w := .fieldLinkNest "SolarLedger$Credits" 31 "SolarLedger$Books" "subscribers" "[LSolarLedger$Subscriber;" "SolarLedger") (by decide +kernel) (by decide +kernel)⟩, rfl⟩
theorem flX1_15 : FL RX1 15 1 1 := ⟨_, _, _, _, rfl, inX1, by decide, Or.inl (inW 420 (by decide +kernel) (by decide +kernel)), rfl⟩
theorem sr1_1 (o : Nat) : sR 1 1 o 13 o := fun _ _ _ _ => ⟨_, rfl, rfl⟩
theorem flX1_56 : FL RX1 56 8 6 := ⟨_, _, _, _, rfl, inX8, by decide, Or.inr ⟨_, inN 130 (w := .fieldLinkNest "SolarLedger$Credits" 56 "SolarLedger$Subscriber" "percent" "I" "SolarLedger") (by decide +kernel) (by decide +kernel)⟩, rfl⟩
theorem lcX1_59 : Cond.constantLong RX1 59 (100) ∈ ALLW := inW 1087 (by decide +kernel) (by decide +kernel)
theorem flX1_9 : FL RX1 9 1 0 := ⟨_, _, _, _, rfl, inX1, by decide, Or.inl (inW 419 (by decide +kernel) (by decide +kernel)), rfl⟩
theorem sr1_0 (o : Nat) : sR 1 0 o 12 o := fun _ _ _ _ => ⟨_, rfl, rfl⟩
theorem nk12 : ¬ (12 : Nat) = 21 := by decide
theorem ar12 : aI 0 12 16 := fun _ _ _ _ _ => rfl
theorem ar13 : aL 13 16 := fun _ _ _ _ _ => rfl
theorem knX1_hasAssignee : KN yX1_hasAssignee cX1_hasAssignee 2 (some .boolean) 2 := ⟨inW 1078 (by decide +kernel) (by decide +kernel), inW 137 (by decide +kernel) (by decide +kernel), (by decide +kernel), (by decide +kernel), (by decide +kernel)⟩
theorem msX1_41 : MS RX1 41 yX1_hasAssignee := ⟨Or.inl (inW 1076 (by decide +kernel) (by decide +kernel)), inW 1077 (by decide +kernel) (by decide +kernel)⟩
theorem knX1_passOnFrom : KN yX1_passOnFrom cX1_passOnFrom 6 none 2 := ⟨inW 1086 (by decide +kernel) (by decide +kernel), inW 137 (by decide +kernel) (by decide +kernel), (by decide +kernel), (by decide +kernel), (by decide +kernel)⟩
theorem mvX1_52 : MV RX1 52 yX1_passOnFrom := ⟨Or.inl (inW 1083 (by decide +kernel) (by decide +kernel)), inW 1085 (by decide +kernel) (by decide +kernel), inW 64 (by decide +kernel) (by decide +kernel)⟩
theorem kc1 : KC 1 RX1 := ⟨⟨_, _, rfl⟩, fun _ _ _ _ _ => ⟨_, rfl⟩⟩
theorem mvX1_35 : MV RX1 35 yX8_isActive := ⟨Or.inr ⟨"SolarLedger", inN 948 (by decide +kernel) (by decide +kernel)⟩, inW 566 (by decide +kernel) (by decide +kernel), inW 15 (by decide +kernel) (by decide +kernel)⟩
theorem knX1_passOnSettled : KN yX1_passOnSettled cX1_passOnSettled 3 none 1 := ⟨inW 1082 (by decide +kernel) (by decide +kernel), inW 137 (by decide +kernel) (by decide +kernel), (by decide +kernel), (by decide +kernel), (by decide +kernel)⟩
theorem mvX1_48 : MV RX1 48 yX1_passOnSettled := ⟨Or.inl (inW 1079 (by decide +kernel) (by decide +kernel)), inW 1081 (by decide +kernel) (by decide +kernel), inW 63 (by decide +kernel) (by decide +kernel)⟩
theorem afX1_19 : MS RX1 19 yJ7_fill_53178 := ⟨Or.inl (inW 1074 (by decide +kernel) (by decide +kernel)), inW 701 (by decide +kernel) (by decide +kernel)⟩
theorem knX8_payFromLots : KN yX8_payFromLots cX8_payFromLots 8 (some .long) 1 := ⟨inW 1104 (by decide +kernel) (by decide +kernel), inW 132 (by decide +kernel) (by decide +kernel), (by decide +kernel), (by decide +kernel), (by decide +kernel)⟩
theorem mvX8_69 : MV RX8 69 yX8_payFromLots := ⟨Or.inl (inW 1101 (by decide +kernel) (by decide +kernel)), inW 1103 (by decide +kernel) (by decide +kernel), inW 68 (by decide +kernel) (by decide +kernel)⟩
theorem kc_5 : Int32.ofInt (5) = (5 : Int32) := by decide
theorem knX8_takeExpiredLot : KN yX8_takeExpiredLot cX8_takeExpiredLot 4 (some .long) 1 := ⟨inW 1108 (by decide +kernel) (by decide +kernel), inW 132 (by decide +kernel) (by decide +kernel), (by decide +kernel), (by decide +kernel), (by decide +kernel)⟩
theorem mvX8_80 : MV RX8 80 yX8_takeExpiredLot := ⟨Or.inl (inW 1105 (by decide +kernel) (by decide +kernel)), inW 1107 (by decide +kernel) (by decide +kernel), inW 69 (by decide +kernel) (by decide +kernel)⟩
theorem knX8_payBill : KN yX8_payBill cX8_payBill 5 none 0 := ⟨inW 1100 (by decide +kernel) (by decide +kernel), inW 132 (by decide +kernel) (by decide +kernel), (by decide +kernel), (by decide +kernel), (by decide +kernel)⟩
theorem mvX8_77 : MV RX8 77 yX8_payBill := ⟨Or.inl (inW 1097 (by decide +kernel) (by decide +kernel)), inW 1099 (by decide +kernel) (by decide +kernel), inW 67 (by decide +kernel) (by decide +kernel)⟩
theorem knX8_takeCredit : KN yX8_takeCredit cX8_takeCredit 6 none 2 := ⟨inW 571 (by decide +kernel) (by decide +kernel), inW 132 (by decide +kernel) (by decide +kernel), (by decide +kernel), (by decide +kernel), (by decide +kernel)⟩
theorem mvX8_73 : MV RX8 73 yX8_takeCredit := ⟨Or.inl (inW 1096 (by decide +kernel) (by decide +kernel)), inW 570 (by decide +kernel) (by decide +kernel), inW 16 (by decide +kernel) (by decide +kernel)⟩
theorem flX0_140 : FL RX0 140 4 1 := ⟨_, _, _, _, rfl, inX4, by decide, Or.inr ⟨_, inN 53 (w := .fieldLinkNest "SolarLedger$Books" 140 "SolarLedger$Garden" "expiry" "I" "SolarLedger") (by decide +kernel) (by decide +kernel)⟩, rfl⟩
theorem knX8_finishMonth : KN yX8_finishMonth cX8_finishMonth 5 (some .long) 3 := ⟨inW 1095 (by decide +kernel) (by decide +kernel), inW 132 (by decide +kernel) (by decide +kernel), (by decide +kernel), (by decide +kernel), (by decide +kernel)⟩
theorem mvX0_143 : MV RX0 143 yX8_finishMonth := ⟨Or.inr ⟨"SolarLedger", inN 965 (by decide +kernel) (by decide +kernel)⟩, inW 1094 (by decide +kernel) (by decide +kernel), inW 66 (by decide +kernel) (by decide +kernel)⟩
theorem flX9_224 : FL RX9 224 0 4 := ⟨_, _, _, _, rfl, inX0, by decide, Or.inr ⟨_, inN 177 (w := .fieldLinkNest "SolarLedger" 224 "SolarLedger$Books" "month" "I" "SolarLedger") (by decide +kernel) (by decide +kernel)⟩, rfl⟩
theorem flX9_40 : FL RX9 40 9 4 := ⟨_, _, _, _, rfl, inX9, by decide, Or.inl (inW 433 (by decide +kernel) (by decide +kernel)), rfl⟩
theorem sr9_4 (o : Nat) : sR 9 4 o 3 0 := fun _ _ _ _ => ⟨_, rfl, rfl⟩
theorem flX9_213 : FL RX9 213 0 5 := ⟨_, _, _, _, rfl, inX0, by decide, Or.inr ⟨_, inN 179 (w := .fieldLinkNest "SolarLedger" 213 "SolarLedger$Books" "day" "I" "SolarLedger") (by decide +kernel) (by decide +kernel)⟩, rfl⟩
theorem knX3_weighShareDays : KN yX3_weighShareDays cX3_weighShareDays 6 none 3 := ⟨inW 532 (by decide +kernel) (by decide +kernel), inW 136 (by decide +kernel) (by decide +kernel), (by decide +kernel), (by decide +kernel), (by decide +kernel)⟩
theorem mvX9_256 : MV RX9 256 yX3_weighShareDays := ⟨Or.inr ⟨"SolarLedger", inN 402 (by decide +kernel) (by decide +kernel)⟩, inW 531 (by decide +kernel) (by decide +kernel), inW 8 (by decide +kernel) (by decide +kernel)⟩
theorem maX9_432 : Cond.methodLink RX9 432 Lib.MathLoose.max_long.x ∈ ALLW := inW 1215 (by decide +kernel) (by decide +kernel)
theorem flX9_346 : FL RX9 346 0 6 := ⟨_, _, _, _, rfl, inX0, by decide, Or.inr ⟨_, inN 181 (w := .fieldLinkNest "SolarLedger" 346 "SolarLedger$Books" "commonFund" "J" "SolarLedger") (by decide +kernel) (by decide +kernel)⟩, rfl⟩
theorem flX9_350 : FL RX9 350 0 7 := ⟨_, _, _, _, rfl, inX0, by decide, Or.inr ⟨_, inN 183 (w := .fieldLinkNest "SolarLedger" 350 "SolarLedger$Books" "operatorMoney" "J" "SolarLedger") (by decide +kernel) (by decide +kernel)⟩, rfl⟩
theorem mvX0_155 : MV RX0 155 yX8_takeCredit := ⟨Or.inr ⟨"SolarLedger", inN 441 (by decide +kernel) (by decide +kernel)⟩, inW 570 (by decide +kernel) (by decide +kernel), inW 16 (by decide +kernel) (by decide +kernel)⟩
theorem knX8_loseCredit : KN yX8_loseCredit cX8_loseCredit 8 none 1 := ⟨inW 578 (by decide +kernel) (by decide +kernel), inW 132 (by decide +kernel) (by decide +kernel), (by decide +kernel), (by decide +kernel), (by decide +kernel)⟩
theorem mvX0_151 : MV RX0 151 yX8_loseCredit := ⟨Or.inr ⟨"SolarLedger", inN 448 (by decide +kernel) (by decide +kernel)⟩, inW 577 (by decide +kernel) (by decide +kernel), inW 17 (by decide +kernel) (by decide +kernel)⟩
theorem knX0_creditParts : KN yX0_creditParts cX0_creditParts 3 none 1 := ⟨inW 563 (by decide +kernel) (by decide +kernel), inW 129 (by decide +kernel) (by decide +kernel), (by decide +kernel), (by decide +kernel), (by decide +kernel)⟩
theorem mvX0_147 : MV RX0 147 yX0_creditParts := ⟨Or.inl (inW 560 (by decide +kernel) (by decide +kernel)), inW 562 (by decide +kernel) (by decide +kernel), inW 14 (by decide +kernel) (by decide +kernel)⟩
theorem flX2_21 : FL RX2 21 2 1 := ⟨_, _, _, _, rfl, inX2, by decide, Or.inl (inW 386 (by decide +kernel) (by decide +kernel)), rfl⟩
theorem sh2_1 : sI 2 1 := fun _ _ _ _ _ _ => ⟨_, rfl, rfl, rfl, Nat.le_of_ble_eq_true rfl⟩
theorem flX2_9 : FL RX2 9 2 0 := ⟨_, _, _, _, rfl, inX2, by decide, Or.inl (inW 384 (by decide +kernel) (by decide +kernel)), rfl⟩
theorem sr2_0 (o : Nat) : sR 2 0 o 14 o := fun _ _ _ _ => ⟨_, rfl, rfl⟩
theorem len_80 : Int32.ofNat 80 = (80 : Int32) := by decide
theorem fpX2_21 : FP RX2 21 2 1 .int := ⟨_, _, _, _, tyX2, rfl, inX2, tyX2_ok, nmX2, by decide, Or.inl (inW 386 (by decide +kernel) (by decide +kernel)), rfl, rfl, rfl⟩
theorem nk2 : ¬ (2 : Nat) = 21 := by decide
theorem nk14 : ¬ (14 : Nat) = 21 := by decide
theorem ar14 : aI 2 14 80 := fun _ _ _ _ _ => rfl
theorem kb_19 : (Int8.ofInt (19)).toInt32 = (19 : Int32) := by decide
theorem lcX2_102 : Cond.constantLong RX2 102 (10) ∈ ALLW := inW 1304 (by decide +kernel) (by decide +kernel)
theorem knX2_putByte : KN yX2_putByte cX2_putByte 2 none 1 := ⟨inW 1308 (by decide +kernel) (by decide +kernel), inW 135 (by decide +kernel) (by decide +kernel), (by decide +kernel), (by decide +kernel), (by decide +kernel)⟩
theorem mvX2_92 : MV RX2 92 yX2_putByte := ⟨Or.inl (inW 1305 (by decide +kernel) (by decide +kernel)), inW 1307 (by decide +kernel) (by decide +kernel), inW 78 (by decide +kernel) (by decide +kernel)⟩
theorem kc2 : KC 2 RX2 := ⟨⟨_, _, rfl⟩, fun _ _ _ _ _ => ⟨_, rfl⟩⟩
theorem stX2_88 : Cond.methodLink RX2 88 yJ0_charAt_5068e ∈ ALLW := inW 1315 (by decide +kernel) (by decide +kernel)
theorem stX2_83 : Cond.methodLink RX2 83 yJ0_length_8abf5 ∈ ALLW := inW 1314 (by decide +kernel) (by decide +kernel)
theorem lcX2_96 : Cond.constantLong RX2 96 (1000) ∈ ALLW := inW 1325 (by decide +kernel) (by decide +kernel)
theorem lcX2_100 : Cond.constantLong RX2 100 (100) ∈ ALLW := inW 1327 (by decide +kernel) (by decide +kernel)
theorem knX2_putText : KN yX2_putText cX2_putText 3 none 1 := ⟨inW 1313 (by decide +kernel) (by decide +kernel), inW 135 (by decide +kernel) (by decide +kernel), (by decide +kernel), (by decide +kernel), (by decide +kernel)⟩
theorem mvX2_31 : MV RX2 31 yX2_putText := ⟨Or.inl (inW 1310 (by decide +kernel) (by decide +kernel)), inW 1312 (by decide +kernel) (by decide +kernel), inW 79 (by decide +kernel) (by decide +kernel)⟩
theorem knX2_putNumber : KN yX2_putNumber cX2_putNumber 6 none 1 := ⟨inW 1303 (by decide +kernel) (by decide +kernel), inW 135 (by decide +kernel) (by decide +kernel), (by decide +kernel), (by decide +kernel), (by decide +kernel)⟩
theorem mvX2_25 : MV RX2 25 yX2_putNumber := ⟨Or.inl (inW 1300 (by decide +kernel) (by decide +kernel)), inW 1302 (by decide +kernel) (by decide +kernel), inW 77 (by decide +kernel) (by decide +kernel)⟩
theorem flX2_73 : FL RX2 73 8 5 := ⟨_, _, _, _, rfl, inX8, by decide, Or.inr ⟨_, inN 126 (w := .fieldLinkNest "SolarLedger$Description" 73 "SolarLedger$Subscriber" "assignee" "I" "SolarLedger") (by decide +kernel) (by decide +kernel)⟩, rfl⟩
theorem flX2_78 : FL RX2 78 8 6 := ⟨_, _, _, _, rfl, inX8, by decide, Or.inr ⟨_, inN 128 (w := .fieldLinkNest "SolarLedger$Description" 78 "SolarLedger$Subscriber" "percent" "I" "SolarLedger") (by decide +kernel) (by decide +kernel)⟩, rfl⟩
theorem flX2_15 : FL RX2 15 0 2 := ⟨_, _, _, _, rfl, inX0, by decide, Or.inr ⟨_, inN 168 (w := .fieldLinkNest "SolarLedger$Description" 15 "SolarLedger$Books" "subscribers" "[LSolarLedger$Subscriber;" "SolarLedger") (by decide +kernel) (by decide +kernel)⟩, rfl⟩
theorem flX2_35 : FL RX2 35 8 0 := ⟨_, _, _, _, rfl, inX8, by decide, Or.inr ⟨_, inN 109 (w := .fieldLinkNest "SolarLedger$Description" 35 "SolarLedger$Subscriber" "status" "I" "SolarLedger") (by decide +kernel) (by decide +kernel)⟩, rfl⟩
theorem flX2_69 : FL RX2 69 8 9 := ⟨_, _, _, _, rfl, inX8, by decide, Or.inr ⟨_, inN 138 (w := .fieldLinkNest "SolarLedger$Description" 69 "SolarLedger$Subscriber" "accounts" "[J" "SolarLedger") (by decide +kernel) (by decide +kernel)⟩, rfl⟩
theorem knX2_putMoney : KN yX2_putMoney cX2_putMoney 3 none 1 := ⟨inW 1324 (by decide +kernel) (by decide +kernel), inW 135 (by decide +kernel) (by decide +kernel), (by decide +kernel), (by decide +kernel), (by decide +kernel)⟩
theorem mvX2_60 : MV RX2 60 yX2_putMoney := ⟨Or.inl (inW 1321 (by decide +kernel) (by decide +kernel)), inW 1323 (by decide +kernel) (by decide +kernel), inW 80 (by decide +kernel) (by decide +kernel)⟩
theorem flX2_53 : FL RX2 53 8 4 := ⟨_, _, _, _, rfl, inX8, by decide, Or.inr ⟨_, inN 120 (w := .fieldLinkNest "SolarLedger$Description" 53 "SolarLedger$Subscriber" "held" "I" "SolarLedger") (by decide +kernel) (by decide +kernel)⟩, rfl⟩
theorem knX2_putAssignment : KN yX2_putAssignment cX2_putAssignment 2 none 1 := ⟨inW 1331 (by decide +kernel) (by decide +kernel), inW 135 (by decide +kernel) (by decide +kernel), (by decide +kernel), (by decide +kernel), (by decide +kernel)⟩
theorem mvX2_63 : MV RX2 63 yX2_putAssignment := ⟨Or.inl (inW 1328 (by decide +kernel) (by decide +kernel)), inW 1330 (by decide +kernel) (by decide +kernel), inW 81 (by decide +kernel) (by decide +kernel)⟩
theorem mvX2_56 : MV RX2 56 yX8_lotSum := ⟨Or.inr ⟨"SolarLedger", inN 1193 (by decide +kernel) (by decide +kernel)⟩, inW 982 (by decide +kernel) (by decide +kernel), inW 55 (by decide +kernel) (by decide +kernel)⟩
theorem flX2_48 : FL RX2 48 8 2 := ⟨_, _, _, _, rfl, inX8, by decide, Or.inr ⟨_, inN 115 (w := .fieldLinkNest "SolarLedger$Description" 48 "SolarLedger$Subscriber" "minimum" "I" "SolarLedger") (by decide +kernel) (by decide +kernel)⟩, rfl⟩
theorem knX0_placeOnWaitingList : KN yX0_placeOnWaitingList cX0_placeOnWaitingList 6 (some .int) 1 := ⟨inW 1014 (by decide +kernel) (by decide +kernel), inW 129 (by decide +kernel) (by decide +kernel), (by decide +kernel), (by decide +kernel), (by decide +kernel)⟩
theorem mvX2_42 : MV RX2 42 yX0_placeOnWaitingList := ⟨Or.inr ⟨"SolarLedger", inN 1190 (by decide +kernel) (by decide +kernel)⟩, inW 1013 (by decide +kernel) (by decide +kernel), inW 57 (by decide +kernel) (by decide +kernel)⟩
theorem flX6_17 : FL RX6 17 6 1 := ⟨_, _, _, _, rfl, inX6, by decide, Or.inl (inW 337 (by decide +kernel) (by decide +kernel)), rfl⟩
theorem sh6_1 : sI 6 1 := fun _ _ _ _ _ _ => ⟨_, rfl, rfl, rfl, Nat.le_of_ble_eq_true rfl⟩
theorem kb_6 : (Int8.ofInt (6)).toInt32 = (6 : Int32) := by decide
theorem fpX6_17 : FP RX6 17 6 1 .int := ⟨_, _, _, _, tyX6, rfl, inX6, tyX6_ok, nmX6, by decide, Or.inl (inW 337 (by decide +kernel) (by decide +kernel)), rfl, rfl, rfl⟩
theorem flX6_26 : FL RX6 26 6 2 := ⟨_, _, _, _, rfl, inX6, by decide, Or.inl (inW 338 (by decide +kernel) (by decide +kernel)), rfl⟩
theorem sh6_2 : sI 6 2 := fun _ _ _ _ _ _ => ⟨_, rfl, rfl, rfl, Nat.le_of_ble_eq_true rfl⟩
theorem maX6_35 : Cond.methodLink RX6 35 Lib.Math.max.name ∈ ALLW := inW 1355 (by decide +kernel) (by decide +kernel)
theorem fpX6_26 : FP RX6 26 6 2 .int := ⟨_, _, _, _, tyX6, rfl, inX6, tyX6_ok, nmX6, by decide, Or.inl (inW 338 (by decide +kernel) (by decide +kernel)), rfl, rfl, rfl⟩
theorem flX6_11 : FL RX6 11 6 0 := ⟨_, _, _, _, rfl, inX6, by decide, Or.inl (inW 336 (by decide +kernel) (by decide +kernel)), rfl⟩
theorem sr6_0 (o : Nat) : sR 6 0 o 21 o := fun _ _ _ _ => ⟨_, rfl, rfl⟩
theorem ks_1588 : (Int16.ofInt (1588)).toInt32 = (1588 : Int32) := by decide
theorem ks_1348 : (Int16.ofInt (1348)).toInt32 = (1348 : Int32) := by decide
theorem nk27 : ¬ (27 : Nat) = 21 := by decide
theorem ar27 : aI 0 27 1588 := fun _ _ _ _ _ => rfl
theorem nk28 : ¬ (28 : Nat) = 21 := by decide
theorem ar28 : aI 0 28 1588 := fun _ _ _ _ _ => rfl
theorem flX10_63 : FL RX10 63 10 6 := ⟨_, _, _, _, rfl, inX10, by decide, Or.inl (inW 1371 (by decide +kernel) (by decide +kernel)), rfl⟩
theorem sh10_6 : sI 10 6 := fun _ _ _ _ _ _ => ⟨_, rfl, rfl, rfl, Nat.le_of_ble_eq_true rfl⟩
theorem flX10_66 : FL RX10 66 10 5 := ⟨_, _, _, _, rfl, inX10, by decide, Or.inl (inW 1370 (by decide +kernel) (by decide +kernel)), rfl⟩
theorem sh10_5 : sI 10 5 := fun _ _ _ _ _ _ => ⟨_, rfl, rfl, rfl, Nat.le_of_ble_eq_true rfl⟩
theorem flX10_16 : FL RX10 16 10 2 := ⟨_, _, _, _, rfl, inX10, by decide, Or.inl (inW 1367 (by decide +kernel) (by decide +kernel)), rfl⟩
theorem sr10_2 (o : Nat) : sR 10 2 o 29 o := fun _ _ _ _ => ⟨_, rfl, rfl⟩
theorem flX10_7 : FL RX10 7 10 0 := ⟨_, _, _, _, rfl, inX10, by decide, Or.inl (inW 1365 (by decide +kernel) (by decide +kernel)), rfl⟩
theorem sr10_0 (o : Nat) : sR 10 0 o 27 o := fun _ _ _ _ => ⟨_, rfl, rfl⟩
theorem nk29 : ¬ (29 : Nat) = 21 := by decide
theorem ar29 : aI 0 29 9528 := fun _ _ _ _ _ => rfl
theorem ks_1058 : (Int16.ofInt (1058)).toInt32 = (1058 : Int32) := by decide
theorem flX10_23 : FL RX10 23 10 4 := ⟨_, _, _, _, rfl, inX10, by decide, Or.inl (inW 1369 (by decide +kernel) (by decide +kernel)), rfl⟩
theorem sr10_4 (o : Nat) : sR 10 4 o 31 o := fun _ _ _ _ => ⟨_, rfl, rfl⟩
theorem flX10_19 : FL RX10 19 10 3 := ⟨_, _, _, _, rfl, inX10, by decide, Or.inl (inW 1368 (by decide +kernel) (by decide +kernel)), rfl⟩
theorem sr10_3 (o : Nat) : sR 10 3 o 30 o := fun _ _ _ _ => ⟨_, rfl, rfl⟩
theorem ar31 : aL 31 6348 := fun _ _ _ _ _ => rfl
theorem ar30 : aL 30 1058 := fun _ _ _ _ _ => rfl
theorem fpX10_66 : FP RX10 66 10 5 .int := ⟨_, _, _, _, tyX10, rfl, inX10, tyX10_ok, nmX10, by decide, Or.inl (inW 1370 (by decide +kernel) (by decide +kernel)), rfl, rfl, rfl⟩
theorem ks_7940 : (Int16.ofInt (7940)).toInt32 = (7940 : Int32) := by decide
theorem ks_5290 : (Int16.ofInt (5290)).toInt32 = (5290 : Int32) := by decide
theorem fpX10_63 : FP RX10 63 10 6 .int := ⟨_, _, _, _, tyX10, rfl, inX10, tyX10_ok, nmX10, by decide, Or.inl (inW 1371 (by decide +kernel) (by decide +kernel)), rfl, rfl, rfl⟩
theorem flX10_69 : FL RX10 69 10 8 := ⟨_, _, _, _, rfl, inX10, by decide, Or.inl (inW 1373 (by decide +kernel) (by decide +kernel)), rfl⟩
theorem sh10_8 : sI 10 8 := fun _ _ _ _ _ _ => ⟨_, rfl, rfl, rfl, Nat.le_of_ble_eq_true rfl⟩
theorem kb_20 : (Int8.ofInt (20)).toInt32 = (20 : Int32) := by decide
theorem flX10_26 : FL RX10 26 10 7 := ⟨_, _, _, _, rfl, inX10, by decide, Or.inl (inW 1372 (by decide +kernel) (by decide +kernel)), rfl⟩
theorem sr10_7 (o : Nat) : sR 10 7 o 32 o := fun _ _ _ _ => ⟨_, rfl, rfl⟩
theorem kb_8 : (Int8.ofInt (8)).toInt32 = (8 : Int32) := by decide
theorem ks_255 : (Int16.ofInt (255)).toInt32 = (255 : Int32) := by decide
theorem fpX10_69 : FP RX10 69 10 8 .int := ⟨_, _, _, _, tyX10, rfl, inX10, tyX10_ok, nmX10, by decide, Or.inl (inW 1373 (by decide +kernel) (by decide +kernel)), rfl, rfl, rfl⟩
theorem nk32 : ¬ (32 : Nat) = 21 := by decide
theorem ar32 : aI 0 32 300 := fun _ _ _ _ _ => rfl
theorem kb_12 : (Int8.ofInt (12)).toInt32 = (12 : Int32) := by decide
theorem flX10_72 : FL RX10 72 10 9 := ⟨_, _, _, _, rfl, inX10, by decide, Or.inl (inW 1374 (by decide +kernel) (by decide +kernel)), rfl⟩
theorem sh10_9 : sI 10 9 := fun _ _ _ _ _ _ => ⟨_, rfl, rfl, rfl, Nat.le_of_ble_eq_true rfl⟩
theorem flX10_87 : FL RX10 87 10 10 := ⟨_, _, _, _, rfl, inX10, by decide, Or.inl (inW 1375 (by decide +kernel) (by decide +kernel)), rfl⟩
theorem sh10_10 : sI 10 10 := fun _ _ _ _ _ _ => ⟨_, rfl, rfl, rfl, Nat.le_of_ble_eq_true rfl⟩
theorem flX10_90 : FL RX10 90 10 11 := ⟨_, _, _, _, rfl, inX10, by decide, Or.inl (inW 1376 (by decide +kernel) (by decide +kernel)), rfl⟩
theorem sh10_11 : sI 10 11 := fun _ _ _ _ _ _ => ⟨_, rfl, rfl, rfl, Nat.le_of_ble_eq_true rfl⟩
theorem stX10_83 : Cond.methodLink RX10 83 yJ0_charAt_5068e ∈ ALLW := inW 1480 (by decide +kernel) (by decide +kernel)
theorem stX10_77 : Cond.methodLink RX10 77 yJ0_length_8abf5 ∈ ALLW := inW 1479 (by decide +kernel) (by decide +kernel)
theorem fpX10_87 : FP RX10 87 10 10 .int := ⟨_, _, _, _, tyX10, rfl, inX10, tyX10_ok, nmX10, by decide, Or.inl (inW 1375 (by decide +kernel) (by decide +kernel)), rfl, rfl, rfl⟩
theorem knX10_see : KN yX10_see cX10_see 2 (some .int) 1 := ⟨inW 1471 (by decide +kernel) (by decide +kernel), inW 138 (by decide +kernel) (by decide +kernel), (by decide +kernel), (by decide +kernel), (by decide +kernel)⟩
theorem mvX10_93 : MV RX10 93 yX10_see := ⟨Or.inl (inW 1468 (by decide +kernel) (by decide +kernel)), inW 1470 (by decide +kernel) (by decide +kernel), inW 84 (by decide +kernel) (by decide +kernel)⟩
theorem fpX10_90 : FP RX10 90 10 11 .int := ⟨_, _, _, _, tyX10, rfl, inX10, tyX10_ok, nmX10, by decide, Or.inl (inW 1376 (by decide +kernel) (by decide +kernel)), rfl, rfl, rfl⟩
theorem lcX10_100 : Cond.constantLong RX10 100 (97) ∈ ALLW := inW 1472 (by decide +kernel) (by decide +kernel)
theorem lcX10_102 : Cond.constantLong RX10 102 (122) ∈ ALLW := inW 1473 (by decide +kernel) (by decide +kernel)
theorem lcX10_111 : Cond.constantLong RX10 111 (48) ∈ ALLW := inW 1481 (by decide +kernel) (by decide +kernel)
theorem lcX10_113 : Cond.constantLong RX10 113 (57) ∈ ALLW := inW 1482 (by decide +kernel) (by decide +kernel)
theorem kb_7 : (Int8.ofInt (7)).toInt32 = (7 : Int32) := by decide
theorem fpX10_97 : FP RX10 97 10 12 .int := ⟨_, _, _, _, tyX10, rfl, inX10, tyX10_ok, nmX10, by decide, Or.inl (inW 1377 (by decide +kernel) (by decide +kernel)), rfl, rfl, rfl⟩
theorem sh10_12 : sI 10 12 := fun _ _ _ _ _ _ => ⟨_, rfl, rfl, rfl, Nat.le_of_ble_eq_true rfl⟩
theorem fpX10_115 : FP RX10 115 10 16 .long := ⟨_, _, _, _, tyX10, rfl, inX10, tyX10_ok, nmX10, by decide, Or.inl (inW 1381 (by decide +kernel) (by decide +kernel)), rfl, rfl, rfl⟩
theorem flX10_115 : FL RX10 115 10 16 := ⟨_, _, _, _, rfl, inX10, by decide, Or.inl (inW 1381 (by decide +kernel) (by decide +kernel)), rfl⟩
theorem sh10_16 : sL 10 16 := fun _ _ _ _ _ _ => ⟨_, rfl, rfl, rfl, Nat.le_of_ble_eq_true rfl⟩
theorem lcX10_119 : Cond.constantLong RX10 119 (10000000) ∈ ALLW := inW 1483 (by decide +kernel) (by decide +kernel)
theorem knX10_isIn : KN yX10_isIn cX10_isIn 6 (some .boolean) 3 := ⟨inW 1463 (by decide +kernel) (by decide +kernel), inW 138 (by decide +kernel) (by decide +kernel), (by decide +kernel), (by decide +kernel), (by decide +kernel)⟩
theorem msX10_104 : MS RX10 104 yX10_isIn := ⟨Or.inl (inW 1461 (by decide +kernel) (by decide +kernel)), inW 1462 (by decide +kernel) (by decide +kernel)⟩
theorem knX10_wordAt : KN yX10_wordAt cX10_wordAt 4 (some .int) 0 := ⟨inW 1477 (by decide +kernel) (by decide +kernel), inW 138 (by decide +kernel) (by decide +kernel), (by decide +kernel), (by decide +kernel), (by decide +kernel)⟩
theorem mvX10_108 : MV RX10 108 yX10_wordAt := ⟨Or.inl (inW 1474 (by decide +kernel) (by decide +kernel)), inW 1476 (by decide +kernel) (by decide +kernel), inW 85 (by decide +kernel) (by decide +kernel)⟩
theorem flX10_123 : FL RX10 123 10 13 := ⟨_, _, _, _, rfl, inX10, by decide, Or.inl (inW 1378 (by decide +kernel) (by decide +kernel)), rfl⟩
theorem sh10_13 : sI 10 13 := fun _ _ _ _ _ _ => ⟨_, rfl, rfl, rfl, Nat.le_of_ble_eq_true rfl⟩
theorem fpX10_123 : FP RX10 123 10 13 .int := ⟨_, _, _, _, tyX10, rfl, inX10, tyX10_ok, nmX10, by decide, Or.inl (inW 1378 (by decide +kernel) (by decide +kernel)), rfl, rfl, rfl⟩
theorem fpX10_126 : FP RX10 126 10 14 .int := ⟨_, _, _, _, tyX10, rfl, inX10, tyX10_ok, nmX10, by decide, Or.inl (inW 1379 (by decide +kernel) (by decide +kernel)), rfl, rfl, rfl⟩
theorem sh10_14 : sI 10 14 := fun _ _ _ _ _ _ => ⟨_, rfl, rfl, rfl, Nat.le_of_ble_eq_true rfl⟩
theorem flX10_97 : FL RX10 97 10 12 := ⟨_, _, _, _, rfl, inX10, by decide, Or.inl (inW 1377 (by decide +kernel) (by decide +kernel)), rfl⟩
theorem knX10_next : KN yX10_next cX10_next 1 none 0 := ⟨inW 1467 (by decide +kernel) (by decide +kernel), inW 138 (by decide +kernel) (by decide +kernel), (by decide +kernel), (by decide +kernel), (by decide +kernel)⟩
theorem mvX10_137 : MV RX10 137 yX10_next := ⟨Or.inl (inW 1464 (by decide +kernel) (by decide +kernel)), inW 1466 (by decide +kernel) (by decide +kernel), inW 83 (by decide +kernel) (by decide +kernel)⟩
theorem knX10_fails : KN yX10_fails cX10_fails 2 none 1 := ⟨inW 1500 (by decide +kernel) (by decide +kernel), inW 138 (by decide +kernel) (by decide +kernel), (by decide +kernel), (by decide +kernel), (by decide +kernel)⟩
theorem mvX10_133 : MV RX10 133 yX10_fails := ⟨Or.inl (inW 1497 (by decide +kernel) (by decide +kernel)), inW 1499 (by decide +kernel) (by decide +kernel), inW 89 (by decide +kernel) (by decide +kernel)⟩
theorem knX10_is : KN yX10_is cX10_is 2 (some .boolean) 1 := ⟨inW 1496 (by decide +kernel) (by decide +kernel), inW 138 (by decide +kernel) (by decide +kernel), (by decide +kernel), (by decide +kernel), (by decide +kernel)⟩
theorem mvX10_129 : MV RX10 129 yX10_is := ⟨Or.inl (inW 1493 (by decide +kernel) (by decide +kernel)), inW 1495 (by decide +kernel) (by decide +kernel), inW 88 (by decide +kernel) (by decide +kernel)⟩
theorem flX10_13 : FL RX10 13 10 1 := ⟨_, _, _, _, rfl, inX10, by decide, Or.inl (inW 1366 (by decide +kernel) (by decide +kernel)), rfl⟩
theorem sr10_1 (o : Nat) : sR 10 1 o 28 o := fun _ _ _ _ => ⟨_, rfl, rfl⟩
theorem knX10_must : KN yX10_must cX10_must 2 none 1 := ⟨inW 1492 (by decide +kernel) (by decide +kernel), inW 138 (by decide +kernel) (by decide +kernel), (by decide +kernel), (by decide +kernel), (by decide +kernel)⟩
theorem mvX10_140 : MV RX10 140 yX10_must := ⟨Or.inl (inW 1489 (by decide +kernel) (by decide +kernel)), inW 1491 (by decide +kernel) (by decide +kernel), inW 87 (by decide +kernel) (by decide +kernel)⟩
theorem knX10_takes : KN yX10_takes cX10_takes 4 (some .int) 2 := ⟨inW 1505 (by decide +kernel) (by decide +kernel), inW 138 (by decide +kernel) (by decide +kernel), (by decide +kernel), (by decide +kernel), (by decide +kernel)⟩
theorem mvX10_143 : MV RX10 143 yX10_takes := ⟨Or.inl (inW 1502 (by decide +kernel) (by decide +kernel)), inW 1504 (by decide +kernel) (by decide +kernel), inW 90 (by decide +kernel) (by decide +kernel)⟩
theorem lcX10_147 : Cond.constant RX10 147 (100000) ∈ ALLW := inW 1501 (by decide +kernel) (by decide +kernel)
theorem knX10_readsPeriod : KN yX10_readsPeriod cX10_readsPeriod 2 none 0 := ⟨inW 1509 (by decide +kernel) (by decide +kernel), inW 138 (by decide +kernel) (by decide +kernel), (by decide +kernel), (by decide +kernel), (by decide +kernel)⟩
theorem mvX10_148 : MV RX10 148 yX10_readsPeriod := ⟨Or.inl (inW 1506 (by decide +kernel) (by decide +kernel)), inW 1508 (by decide +kernel) (by decide +kernel), inW 91 (by decide +kernel) (by decide +kernel)⟩
theorem knX10_readsHours : KN yX10_readsHours cX10_readsHours 5 none 0 := ⟨inW 1513 (by decide +kernel) (by decide +kernel), inW 138 (by decide +kernel) (by decide +kernel), (by decide +kernel), (by decide +kernel), (by decide +kernel)⟩
theorem mvX10_151 : MV RX10 151 yX10_readsHours := ⟨Or.inl (inW 1510 (by decide +kernel) (by decide +kernel)), inW 1512 (by decide +kernel) (by decide +kernel), inW 92 (by decide +kernel) (by decide +kernel)⟩
theorem knX10_begins : KN yX10_begins cX10_begins 6 none 5 := ⟨inW 1364 (by decide +kernel) (by decide +kernel), inW 138 (by decide +kernel) (by decide +kernel), (by decide +kernel), (by decide +kernel), (by decide +kernel)⟩
theorem msX10_59 : MS RX10 59 yX10_begins := ⟨Or.inl (inW 1362 (by decide +kernel) (by decide +kernel)), inW 1363 (by decide +kernel) (by decide +kernel)⟩
theorem fpX10_72 : FP RX10 72 10 9 .int := ⟨_, _, _, _, tyX10, rfl, inX10, tyX10_ok, nmX10, by decide, Or.inl (inW 1374 (by decide +kernel) (by decide +kernel)), rfl, rfl, rfl⟩
theorem fpX10_29 : FP RX10 29 10 15 .int := ⟨_, _, _, _, tyX10, rfl, inX10, tyX10_ok, nmX10, by decide, Or.inl (inW 1380 (by decide +kernel) (by decide +kernel)), rfl, rfl, rfl⟩
theorem knX10_keeps : KN yX10_keeps cX10_keeps 2 none 0 := ⟨inW 1517 (by decide +kernel) (by decide +kernel), inW 138 (by decide +kernel) (by decide +kernel), (by decide +kernel), (by decide +kernel), (by decide +kernel)⟩
theorem mvX10_157 : MV RX10 157 yX10_keeps := ⟨Or.inl (inW 1514 (by decide +kernel) (by decide +kernel)), inW 1516 (by decide +kernel) (by decide +kernel), inW 93 (by decide +kernel) (by decide +kernel)⟩
theorem sh10_15 : sI 10 15 := fun _ _ _ _ _ _ => ⟨_, rfl, rfl, rfl, Nat.le_of_ble_eq_true rfl⟩
theorem flX10_126 : FL RX10 126 10 14 := ⟨_, _, _, _, rfl, inX10, by decide, Or.inl (inW 1379 (by decide +kernel) (by decide +kernel)), rfl⟩
theorem knX10_readsAll : KN yX10_readsAll cX10_readsAll 4 none 0 := ⟨inW 1488 (by decide +kernel) (by decide +kernel), inW 138 (by decide +kernel) (by decide +kernel), (by decide +kernel), (by decide +kernel), (by decide +kernel)⟩
theorem mvX10_154 : MV RX10 154 yX10_readsAll := ⟨Or.inl (inW 1485 (by decide +kernel) (by decide +kernel)), inW 1487 (by decide +kernel) (by decide +kernel), inW 86 (by decide +kernel) (by decide +kernel)⟩
theorem flX10_29 : FL RX10 29 10 15 := ⟨_, _, _, _, rfl, inX10, by decide, Or.inl (inW 1380 (by decide +kernel) (by decide +kernel)), rfl⟩
theorem lcX10_160 : Cond.constantLong RX10 160 (100) ∈ ALLW := inW 1531 (by decide +kernel) (by decide +kernel)
theorem lcX10_162 : Cond.constantLong RX10 162 (5) ∈ ALLW := inW 1526 (by decide +kernel) (by decide +kernel)
theorem knX10_mostShares : KN yX10_mostShares cX10_mostShares 2 (some .int) 0 := ⟨inW 1530 (by decide +kernel) (by decide +kernel), inW 138 (by decide +kernel) (by decide +kernel), (by decide +kernel), (by decide +kernel), (by decide +kernel)⟩
theorem mvX10_164 : MV RX10 164 yX10_mostShares := ⟨Or.inl (inW 1527 (by decide +kernel) (by decide +kernel)), inW 1529 (by decide +kernel) (by decide +kernel), inW 94 (by decide +kernel) (by decide +kernel)⟩
theorem lcX10_167 : Cond.constantLong RX10 167 (23) ∈ ALLW := inW 1536 (by decide +kernel) (by decide +kernel)
theorem kb_36 : (Int8.ofInt (36)).toInt32 = (36 : Int32) := by decide
theorem knX10_ofMember : KN yX10_ofMember cX10_ofMember 3 (some .int) 2 := ⟨inW 1553 (by decide +kernel) (by decide +kernel), inW 138 (by decide +kernel) (by decide +kernel), (by decide +kernel), (by decide +kernel), (by decide +kernel)⟩
theorem mvX10_169 : MV RX10 169 yX10_ofMember := ⟨Or.inl (inW 1550 (by decide +kernel) (by decide +kernel)), inW 1552 (by decide +kernel) (by decide +kernel), inW 97 (by decide +kernel) (by decide +kernel)⟩
theorem knX10_setMember : KN yX10_setMember cX10_setMember 4 none 3 := ⟨inW 1545 (by decide +kernel) (by decide +kernel), inW 138 (by decide +kernel) (by decide +kernel), (by decide +kernel), (by decide +kernel), (by decide +kernel)⟩
theorem mvX10_175 : MV RX10 175 yX10_setMember := ⟨Or.inl (inW 1542 (by decide +kernel) (by decide +kernel)), inW 1544 (by decide +kernel) (by decide +kernel), inW 95 (by decide +kernel) (by decide +kernel)⟩
theorem knX10_free : KN yX10_free cX10_free 3 (some .int) 0 := ⟨inW 1557 (by decide +kernel) (by decide +kernel), inW 138 (by decide +kernel) (by decide +kernel), (by decide +kernel), (by decide +kernel), (by decide +kernel)⟩
theorem mvX10_172 : MV RX10 172 yX10_free := ⟨Or.inl (inW 1554 (by decide +kernel) (by decide +kernel)), inW 1556 (by decide +kernel) (by decide +kernel), inW 98 (by decide +kernel) (by decide +kernel)⟩
theorem knX10_goesThrough : KN yX10_goesThrough cX10_goesThrough 5 none 0 := ⟨inW 1549 (by decide +kernel) (by decide +kernel), inW 138 (by decide +kernel) (by decide +kernel), (by decide +kernel), (by decide +kernel), (by decide +kernel)⟩
theorem mvX10_181 : MV RX10 181 yX10_goesThrough := ⟨Or.inl (inW 1546 (by decide +kernel) (by decide +kernel)), inW 1548 (by decide +kernel) (by decide +kernel), inW 96 (by decide +kernel) (by decide +kernel)⟩
theorem lcX10_179 : Cond.constantLong RX10 179 (9) ∈ ALLW := inW 1541 (by decide +kernel) (by decide +kernel)
theorem knX10_isActive : KN yX10_isActive cX10_isActive 2 (some .boolean) 1 := ⟨inW 1569 (by decide +kernel) (by decide +kernel), inW 138 (by decide +kernel) (by decide +kernel), (by decide +kernel), (by decide +kernel), (by decide +kernel)⟩
theorem mvX10_187 : MV RX10 187 yX10_isActive := ⟨Or.inl (inW 1566 (by decide +kernel) (by decide +kernel)), inW 1568 (by decide +kernel) (by decide +kernel), inW 100 (by decide +kernel) (by decide +kernel)⟩
theorem knX10_isMember : KN yX10_isMember cX10_isMember 2 (some .boolean) 1 := ⟨inW 1565 (by decide +kernel) (by decide +kernel), inW 138 (by decide +kernel) (by decide +kernel), (by decide +kernel), (by decide +kernel), (by decide +kernel)⟩
theorem mvX10_184 : MV RX10 184 yX10_isMember := ⟨Or.inl (inW 1562 (by decide +kernel) (by decide +kernel)), inW 1564 (by decide +kernel) (by decide +kernel), inW 99 (by decide +kernel) (by decide +kernel)⟩
theorem knX10_comesTo : KN yX10_comesTo cX10_comesTo 5 (some .boolean) 2 := ⟨inW 1585 (by decide +kernel) (by decide +kernel), inW 138 (by decide +kernel) (by decide +kernel), (by decide +kernel), (by decide +kernel), (by decide +kernel)⟩
theorem mvX10_190 : MV RX10 190 yX10_comesTo := ⟨Or.inl (inW 1582 (by decide +kernel) (by decide +kernel)), inW 1584 (by decide +kernel) (by decide +kernel), inW 101 (by decide +kernel) (by decide +kernel)⟩
theorem kb_98 : (Int8.ofInt (98)).toInt32 = (98 : Int32) := by decide
theorem knX10_lotAt : KN yX10_lotAt cX10_lotAt 3 (some .int) 2 := ⟨inW 1601 (by decide +kernel) (by decide +kernel), inW 138 (by decide +kernel) (by decide +kernel), (by decide +kernel), (by decide +kernel), (by decide +kernel)⟩
theorem mvX10_194 : MV RX10 194 yX10_lotAt := ⟨Or.inl (inW 1598 (by decide +kernel) (by decide +kernel)), inW 1600 (by decide +kernel) (by decide +kernel), inW 104 (by decide +kernel) (by decide +kernel)⟩
theorem knX10_accountAt : KN yX10_accountAt cX10_accountAt 3 (some .int) 2 := ⟨inW 1593 (by decide +kernel) (by decide +kernel), inW 138 (by decide +kernel) (by decide +kernel), (by decide +kernel), (by decide +kernel), (by decide +kernel)⟩
theorem mvX10_197 : MV RX10 197 yX10_accountAt := ⟨Or.inl (inW 1590 (by decide +kernel) (by decide +kernel)), inW 1592 (by decide +kernel) (by decide +kernel), inW 102 (by decide +kernel) (by decide +kernel)⟩
theorem knX10_balanceOf : KN yX10_balanceOf cX10_balanceOf 5 (some .long) 1 := ⟨inW 1605 (by decide +kernel) (by decide +kernel), inW 138 (by decide +kernel) (by decide +kernel), (by decide +kernel), (by decide +kernel), (by decide +kernel)⟩
theorem mvX10_204 : MV RX10 204 yX10_balanceOf := ⟨Or.inl (inW 1602 (by decide +kernel) (by decide +kernel)), inW 1604 (by decide +kernel) (by decide +kernel), inW 105 (by decide +kernel) (by decide +kernel)⟩
theorem knX10_takesLots : KN yX10_takesLots cX10_takesLots 11 (some .long) 3 := ⟨inW 1597 (by decide +kernel) (by decide +kernel), inW 138 (by decide +kernel) (by decide +kernel), (by decide +kernel), (by decide +kernel), (by decide +kernel)⟩
theorem mvX10_200 : MV RX10 200 yX10_takesLots := ⟨Or.inl (inW 1594 (by decide +kernel) (by decide +kernel)), inW 1596 (by decide +kernel) (by decide +kernel), inW 103 (by decide +kernel) (by decide +kernel)⟩
theorem knX10_lacks : KN yX10_lacks cX10_lacks 2 (some .boolean) 1 := ⟨inW 1617 (by decide +kernel) (by decide +kernel), inW 138 (by decide +kernel) (by decide +kernel), (by decide +kernel), (by decide +kernel), (by decide +kernel)⟩
theorem mvX10_208 : MV RX10 208 yX10_lacks := ⟨Or.inl (inW 1614 (by decide +kernel) (by decide +kernel)), inW 1616 (by decide +kernel) (by decide +kernel), inW 106 (by decide +kernel) (by decide +kernel)⟩
theorem knX10_placeOf : KN yX10_placeOf cX10_placeOf 5 (some .int) 1 := ⟨inW 1633 (by decide +kernel) (by decide +kernel), inW 138 (by decide +kernel) (by decide +kernel), (by decide +kernel), (by decide +kernel), (by decide +kernel)⟩
theorem mvX10_211 : MV RX10 211 yX10_placeOf := ⟨Or.inl (inW 1630 (by decide +kernel) (by decide +kernel)), inW 1632 (by decide +kernel) (by decide +kernel), inW 107 (by decide +kernel) (by decide +kernel)⟩
theorem ks_148 : (Int16.ofInt (148)).toInt32 = (148 : Int32) := by decide
theorem lcX10_214 : Cond.constantLong RX10 214 (30) ∈ ALLW := inW 1638 (by decide +kernel) (by decide +kernel)
theorem knX10_daysAt : KN yX10_daysAt cX10_daysAt 3 (some .int) 2 := ⟨inW 1642 (by decide +kernel) (by decide +kernel), inW 138 (by decide +kernel) (by decide +kernel), (by decide +kernel), (by decide +kernel), (by decide +kernel)⟩
theorem mvX10_216 : MV RX10 216 yX10_daysAt := ⟨Or.inl (inW 1639 (by decide +kernel) (by decide +kernel)), inW 1641 (by decide +kernel) (by decide +kernel), inW 108 (by decide +kernel) (by decide +kernel)⟩
theorem ks_1108 : (Int16.ofInt (1108)).toInt32 = (1108 : Int32) := by decide
theorem lcX10_219 : Cond.constantLong RX10 219 (1000000000) ∈ ALLW := inW 1647 (by decide +kernel) (by decide +kernel)
theorem knX10_generatedAt : KN yX10_generatedAt cX10_generatedAt 3 (some .int) 2 := ⟨inW 1651 (by decide +kernel) (by decide +kernel), inW 138 (by decide +kernel) (by decide +kernel), (by decide +kernel), (by decide +kernel), (by decide +kernel)⟩
theorem mvX10_221 : MV RX10 221 yX10_generatedAt := ⟨Or.inl (inW 1648 (by decide +kernel) (by decide +kernel)), inW 1650 (by decide +kernel) (by decide +kernel), inW 109 (by decide +kernel) (by decide +kernel)⟩
theorem lcX10_224 : Cond.constantLong RX10 224 (10000000000) ∈ ALLW := inW 1656 (by decide +kernel) (by decide +kernel)
theorem flX10_36 : FL RX10 36 10 18 := ⟨_, _, _, _, rfl, inX10, by decide, Or.inl (inW 1383 (by decide +kernel) (by decide +kernel)), rfl⟩
theorem sr10_18 (o : Nat) : sR 10 18 o 34 o := fun _ _ _ _ => ⟨_, rfl, rfl⟩
theorem flX10_33 : FL RX10 33 10 17 := ⟨_, _, _, _, rfl, inX10, by decide, Or.inl (inW 1382 (by decide +kernel) (by decide +kernel)), rfl⟩
theorem sr10_17 (o : Nat) : sR 10 17 o 33 o := fun _ _ _ _ => ⟨_, rfl, rfl⟩
theorem flX10_39 : FL RX10 39 10 19 := ⟨_, _, _, _, rfl, inX10, by decide, Or.inl (inW 1384 (by decide +kernel) (by decide +kernel)), rfl⟩
theorem sr10_19 (o : Nat) : sR 10 19 o 35 o := fun _ _ _ _ => ⟨_, rfl, rfl⟩
theorem flX10_42 : FL RX10 42 10 20 := ⟨_, _, _, _, rfl, inX10, by decide, Or.inl (inW 1385 (by decide +kernel) (by decide +kernel)), rfl⟩
theorem sr10_20 (o : Nat) : sR 10 20 o 36 o := fun _ _ _ _ => ⟨_, rfl, rfl⟩
theorem ar34 : aL 34 17 := fun _ _ _ _ _ => rfl
theorem nk36 : ¬ (36 : Nat) = 21 := by decide
theorem ar36 : aI 3 36 17 := fun _ _ _ _ _ => rfl
theorem ar35 : aL 35 17 := fun _ _ _ _ _ => rfl
theorem ar33 : aL 33 17 := fun _ _ _ _ _ => rfl
theorem knX10_divides : KN yX10_divides cX10_divides 10 none 3 := ⟨inW 1672 (by decide +kernel) (by decide +kernel), inW 138 (by decide +kernel) (by decide +kernel), (by decide +kernel), (by decide +kernel), (by decide +kernel)⟩
theorem mvX10_226 : MV RX10 226 yX10_divides := ⟨Or.inl (inW 1669 (by decide +kernel) (by decide +kernel)), inW 1671 (by decide +kernel) (by decide +kernel), inW 112 (by decide +kernel) (by decide +kernel)⟩
theorem flX10_49 : FL RX10 49 10 22 := ⟨_, _, _, _, rfl, inX10, by decide, Or.inl (inW 1387 (by decide +kernel) (by decide +kernel)), rfl⟩
theorem sr10_22 (o : Nat) : sR 10 22 o 38 o := fun _ _ _ _ => ⟨_, rfl, rfl⟩
theorem ar38 : aI 3 38 16 := fun _ _ _ _ _ => rfl
theorem nk38 : ¬ (38 : Nat) = 21 := by decide
theorem knX10_isNext : KN yX10_isNext cX10_isNext 3 (some .boolean) 1 := ⟨inW 1680 (by decide +kernel) (by decide +kernel), inW 138 (by decide +kernel) (by decide +kernel), (by decide +kernel), (by decide +kernel), (by decide +kernel)⟩
theorem mvX10_230 : MV RX10 230 yX10_isNext := ⟨Or.inl (inW 1677 (by decide +kernel) (by decide +kernel)), inW 1679 (by decide +kernel) (by decide +kernel), inW 114 (by decide +kernel) (by decide +kernel)⟩
theorem flX10_46 : FL RX10 46 10 21 := ⟨_, _, _, _, rfl, inX10, by decide, Or.inl (inW 1386 (by decide +kernel) (by decide +kernel)), rfl⟩
theorem sr10_21 (o : Nat) : sR 10 21 o 37 o := fun _ _ _ _ => ⟨_, rfl, rfl⟩
theorem ar37 : aL 37 16 := fun _ _ _ _ _ => rfl
theorem knX10_credits : KN yX10_credits cX10_credits 7 none 2 := ⟨inW 1688 (by decide +kernel) (by decide +kernel), inW 138 (by decide +kernel) (by decide +kernel), (by decide +kernel), (by decide +kernel), (by decide +kernel)⟩
theorem mvX10_233 : MV RX10 233 yX10_credits := ⟨Or.inl (inW 1685 (by decide +kernel) (by decide +kernel)), inW 1687 (by decide +kernel) (by decide +kernel), inW 116 (by decide +kernel) (by decide +kernel)⟩
theorem knX10_ends : KN yX10_ends cX10_ends 6 none 1 := ⟨inW 1684 (by decide +kernel) (by decide +kernel), inW 138 (by decide +kernel) (by decide +kernel), (by decide +kernel), (by decide +kernel), (by decide +kernel)⟩
theorem mvX10_247 : MV RX10 247 yX10_ends := ⟨Or.inl (inW 1681 (by decide +kernel) (by decide +kernel)), inW 1683 (by decide +kernel) (by decide +kernel), inW 115 (by decide +kernel) (by decide +kernel)⟩
theorem knX10_passesOn : KN yX10_passesOn cX10_passesOn 6 none 0 := ⟨inW 1676 (by decide +kernel) (by decide +kernel), inW 138 (by decide +kernel) (by decide +kernel), (by decide +kernel), (by decide +kernel), (by decide +kernel)⟩
theorem mvX10_244 : MV RX10 244 yX10_passesOn := ⟨Or.inl (inW 1673 (by decide +kernel) (by decide +kernel)), inW 1675 (by decide +kernel) (by decide +kernel), inW 113 (by decide +kernel) (by decide +kernel)⟩
theorem knX10_dividesMonth : KN yX10_dividesMonth cX10_dividesMonth 8 none 3 := ⟨inW 1668 (by decide +kernel) (by decide +kernel), inW 138 (by decide +kernel) (by decide +kernel), (by decide +kernel), (by decide +kernel), (by decide +kernel)⟩
theorem mvX10_240 : MV RX10 240 yX10_dividesMonth := ⟨Or.inl (inW 1665 (by decide +kernel) (by decide +kernel)), inW 1667 (by decide +kernel) (by decide +kernel), inW 111 (by decide +kernel) (by decide +kernel)⟩
theorem knX10_worthOf : KN yX10_worthOf cX10_worthOf 5 (some .long) 1 := ⟨inW 1664 (by decide +kernel) (by decide +kernel), inW 138 (by decide +kernel) (by decide +kernel), (by decide +kernel), (by decide +kernel), (by decide +kernel)⟩
theorem mvX10_237 : MV RX10 237 yX10_worthOf := ⟨Or.inl (inW 1661 (by decide +kernel) (by decide +kernel)), inW 1663 (by decide +kernel) (by decide +kernel), inW 110 (by decide +kernel) (by decide +kernel)⟩
theorem knX10_isMonth : KN yX10_isMonth cX10_isMonth 2 (some .boolean) 1 := ⟨inW 1700 (by decide +kernel) (by decide +kernel), inW 138 (by decide +kernel) (by decide +kernel), (by decide +kernel), (by decide +kernel), (by decide +kernel)⟩
theorem mvX10_250 : MV RX10 250 yX10_isMonth := ⟨Or.inl (inW 1697 (by decide +kernel) (by decide +kernel)), inW 1699 (by decide +kernel) (by decide +kernel), inW 117 (by decide +kernel) (by decide +kernel)⟩
theorem knX10_projects : KN yX10_projects cX10_projects 2 none 0 := ⟨inW 1716 (by decide +kernel) (by decide +kernel), inW 138 (by decide +kernel) (by decide +kernel), (by decide +kernel), (by decide +kernel), (by decide +kernel)⟩
theorem mvX10_253 : MV RX10 253 yX10_projects := ⟨Or.inl (inW 1713 (by decide +kernel) (by decide +kernel)), inW 1715 (by decide +kernel) (by decide +kernel), inW 118 (by decide +kernel) (by decide +kernel)⟩
theorem kb_84 : (Int8.ofInt (84)).toInt32 = (84 : Int32) := by decide
theorem flX10_52 : FL RX10 52 10 23 := ⟨_, _, _, _, rfl, inX10, by decide, Or.inl (inW 1388 (by decide +kernel) (by decide +kernel)), rfl⟩
theorem sr10_23 (o : Nat) : sR 10 23 o 39 o := fun _ _ _ _ => ⟨_, rfl, rfl⟩
theorem ar39 : aL 39 84 := fun _ _ _ _ _ => rfl
theorem knX10_pays : KN yX10_pays cX10_pays 8 (some .boolean) 1 := ⟨inW 1729 (by decide +kernel) (by decide +kernel), inW 138 (by decide +kernel) (by decide +kernel), (by decide +kernel), (by decide +kernel), (by decide +kernel)⟩
theorem mvX10_261 : MV RX10 261 yX10_pays := ⟨Or.inl (inW 1726 (by decide +kernel) (by decide +kernel)), inW 1728 (by decide +kernel) (by decide +kernel), inW 120 (by decide +kernel) (by decide +kernel)⟩
theorem knX10_projectsWhole : KN yX10_projectsWhole cX10_projectsWhole 4 none 0 := ⟨inW 1725 (by decide +kernel) (by decide +kernel), inW 138 (by decide +kernel) (by decide +kernel), (by decide +kernel), (by decide +kernel), (by decide +kernel)⟩
theorem mvX10_258 : MV RX10 258 yX10_projectsWhole := ⟨Or.inl (inW 1722 (by decide +kernel) (by decide +kernel)), inW 1724 (by decide +kernel) (by decide +kernel), inW 119 (by decide +kernel) (by decide +kernel)⟩
theorem lcX10_256 : Cond.constantLong RX10 256 (12) ∈ ALLW := inW 1721 (by decide +kernel) (by decide +kernel)
theorem lcX10_269 : Cond.constantLong RX10 269 (59) ∈ ALLW := inW 1769 (by decide +kernel) (by decide +kernel)
theorem lcX10_271 : Cond.constantLong RX10 271 (-1) ∈ ALLW := inW 1790 (by decide +kernel) (by decide +kernel)
theorem knX10_truesUp : KN yX10_truesUp cX10_truesUp 7 none 2 := ⟨inW 1789 (by decide +kernel) (by decide +kernel), inW 138 (by decide +kernel) (by decide +kernel), (by decide +kernel), (by decide +kernel), (by decide +kernel)⟩
theorem mvX10_273 : MV RX10 273 yX10_truesUp := ⟨Or.inl (inW 1786 (by decide +kernel) (by decide +kernel)), inW 1788 (by decide +kernel) (by decide +kernel), inW 121 (by decide +kernel) (by decide +kernel)⟩
theorem lcX10_288 : Cond.constantLong RX10 288 (1000) ∈ ALLW := inW 1816 (by decide +kernel) (by decide +kernel)
theorem kb_46 : (Int8.ofInt (46)).toInt32 = (46 : Int32) := by decide
theorem kb_45 : (Int8.ofInt (45)).toInt32 = (45 : Int32) := by decide
theorem kb_62 : (Int8.ofInt (62)).toInt32 = (62 : Int32) := by decide
theorem kb_58 : (Int8.ofInt (58)).toInt32 = (58 : Int32) := by decide
theorem kb_37 : (Int8.ofInt (37)).toInt32 = (37 : Int32) := by decide
theorem kb_13 : (Int8.ofInt (13)).toInt32 = (13 : Int32) := by decide
theorem knX10_tellsAssignment : KN yX10_tellsAssignment cX10_tellsAssignment 2 none 1 := ⟨inW 1820 (by decide +kernel) (by decide +kernel), inW 138 (by decide +kernel) (by decide +kernel), (by decide +kernel), (by decide +kernel), (by decide +kernel)⟩
theorem mvX10_297 : MV RX10 297 yX10_tellsAssignment := ⟨Or.inl (inW 1817 (by decide +kernel) (by decide +kernel)), inW 1819 (by decide +kernel) (by decide +kernel), inW 126 (by decide +kernel) (by decide +kernel)⟩
theorem knX10_tellsCents : KN yX10_tellsCents cX10_tellsCents 4 none 1 := ⟨inW 1815 (by decide +kernel) (by decide +kernel), inW 138 (by decide +kernel) (by decide +kernel), (by decide +kernel), (by decide +kernel), (by decide +kernel)⟩
theorem mvX10_294 : MV RX10 294 yX10_tellsCents := ⟨Or.inl (inW 1812 (by decide +kernel) (by decide +kernel)), inW 1814 (by decide +kernel) (by decide +kernel), inW 125 (by decide +kernel) (by decide +kernel)⟩
theorem knX10_tellsWord : KN yX10_tellsWord cX10_tellsWord 4 none 2 := ⟨inW 1810 (by decide +kernel) (by decide +kernel), inW 138 (by decide +kernel) (by decide +kernel), (by decide +kernel), (by decide +kernel), (by decide +kernel)⟩
theorem mvX10_290 : MV RX10 290 yX10_tellsWord := ⟨Or.inl (inW 1807 (by decide +kernel) (by decide +kernel)), inW 1809 (by decide +kernel) (by decide +kernel), inW 124 (by decide +kernel) (by decide +kernel)⟩
