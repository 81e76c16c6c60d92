theorem flX8_26 : FL RX8 26 8 0 := ⟨_, _, _, _, rfl, inX8, by decide, Or.inl (inW 235 (by decide +kernel) (by decide +kernel)), rfl⟩
theorem sh8_0 : sI 8 0 := fun _ _ _ _ _ _ => ⟨_, rfl, rfl, rfl, Nat.le_of_ble_eq_true rfl⟩
theorem fpX8_26 : FP RX8 26 8 0 .int := ⟨_, _, _, _, tyX8, rfl, inX8, tyX8_ok, nmX8, by decide, Or.inl (inW 235 (by decide +kernel) (by decide +kernel)), rfl, rfl, rfl⟩
theorem flX8_29 : FL RX8 29 8 1 := ⟨_, _, _, _, rfl, inX8, by decide, Or.inl (inW 239 (by decide +kernel) (by decide +kernel)), rfl⟩
theorem sh8_1 : sI 8 1 := fun _ _ _ _ _ _ => ⟨_, rfl, rfl, rfl, Nat.le_of_ble_eq_true rfl⟩
theorem fpX8_29 : FP RX8 29 8 1 .int := ⟨_, _, _, _, tyX8, rfl, inX8, tyX8_ok, nmX8, by decide, Or.inl (inW 239 (by decide +kernel) (by decide +kernel)), rfl, rfl, rfl⟩
theorem flX8_32 : FL RX8 32 8 2 := ⟨_, _, _, _, rfl, inX8, by decide, Or.inl (inW 241 (by decide +kernel) (by decide +kernel)), rfl⟩
theorem sh8_2 : sI 8 2 := fun _ _ _ _ _ _ => ⟨_, rfl, rfl, rfl, Nat.le_of_ble_eq_true rfl⟩
theorem fpX8_32 : FP RX8 32 8 2 .int := ⟨_, _, _, _, tyX8, rfl, inX8, tyX8_ok, nmX8, by decide, Or.inl (inW 241 (by decide +kernel) (by decide +kernel)), rfl, rfl, rfl⟩
theorem flX8_35 : FL RX8 35 8 3 := ⟨_, _, _, _, rfl, inX8, by decide, Or.inl (inW 244 (by decide +kernel) (by decide +kernel)), rfl⟩
theorem sh8_3 : sI 8 3 := fun _ _ _ _ _ _ => ⟨_, rfl, rfl, rfl, Nat.le_of_ble_eq_true rfl⟩
theorem fpX8_35 : FP RX8 35 8 3 .int := ⟨_, _, _, _, tyX8, rfl, inX8, tyX8_ok, nmX8, by decide, Or.inl (inW 244 (by decide +kernel) (by decide +kernel)), rfl, rfl, rfl⟩
theorem flX8_38 : FL RX8 38 8 4 := ⟨_, _, _, _, rfl, inX8, by decide, Or.inl (inW 246 (by decide +kernel) (by decide +kernel)), rfl⟩
theorem sh8_4 : sI 8 4 := fun _ _ _ _ _ _ => ⟨_, rfl, rfl, rfl, Nat.le_of_ble_eq_true rfl⟩
theorem fpX8_38 : FP RX8 38 8 4 .int := ⟨_, _, _, _, tyX8, rfl, inX8, tyX8_ok, nmX8, by decide, Or.inl (inW 246 (by decide +kernel) (by decide +kernel)), rfl, rfl, rfl⟩
theorem flX8_9 : FL RX8 9 8 5 := ⟨_, _, _, _, rfl, inX8, by decide, Or.inl (inW 251 (by decide +kernel) (by decide +kernel)), rfl⟩
theorem sh8_5 : sI 8 5 := fun _ _ _ _ _ _ => ⟨_, rfl, rfl, rfl, Nat.le_of_ble_eq_true rfl⟩
theorem fpX8_9 : FP RX8 9 8 5 .int := ⟨_, _, _, _, tyX8, rfl, inX8, tyX8_ok, nmX8, by decide, Or.inl (inW 251 (by decide +kernel) (by decide +kernel)), rfl, rfl, rfl⟩
theorem flX8_54 : FL RX8 54 8 6 := ⟨_, _, _, _, rfl, inX8, by decide, Or.inl (inW 256 (by decide +kernel) (by decide +kernel)), rfl⟩
theorem sh8_6 : sI 8 6 := fun _ _ _ _ _ _ => ⟨_, rfl, rfl, rfl, Nat.le_of_ble_eq_true rfl⟩
theorem fpX8_54 : FP RX8 54 8 6 .int := ⟨_, _, _, _, tyX8, rfl, inX8, tyX8_ok, nmX8, by decide, Or.inl (inW 256 (by decide +kernel) (by decide +kernel)), rfl, rfl, rfl⟩
theorem flX8_15 : FL RX8 15 8 7 := ⟨_, _, _, _, rfl, inX8, by decide, Or.inl (inW 258 (by decide +kernel) (by decide +kernel)), rfl⟩
theorem sr8_7 (o : Nat) : sR 8 7 o 24 o := fun _ _ _ _ => ⟨_, rfl, rfl⟩
theorem kc_0 : Int32.ofInt (0) = (0 : Int32) := by decide
theorem len_60 : Int32.ofNat 60 = (60 : Int32) := by decide
theorem flX8_19 : FL RX8 19 8 8 := ⟨_, _, _, _, rfl, inX8, by decide, Or.inl (inW 262 (by decide +kernel) (by decide +kernel)), rfl⟩
theorem sr8_8 (o : Nat) : sR 8 8 o 25 o := fun _ _ _ _ => ⟨_, rfl, rfl⟩
theorem len_72 : Int32.ofNat 72 = (72 : Int32) := by decide
theorem flX8_23 : FL RX8 23 8 9 := ⟨_, _, _, _, rfl, inX8, by decide, Or.inl (inW 264 (by decide +kernel) (by decide +kernel)), rfl⟩
theorem sr8_9 (o : Nat) : sR 8 9 o 26 o := fun _ _ _ _ => ⟨_, rfl, rfl⟩
theorem len_6 : Int32.ofNat 6 = (6 : Int32) := by decide
theorem acX8_57 : Cond.methodLink RX8 57 arraycopyName ∈ ALLW := inW 515 (by decide +kernel) (by decide +kernel)
theorem ar26 : aL 26 6 := fun _ _ _ _ _ => rfl
theorem ar25 : aL 25 72 := fun _ _ _ _ _ => rfl
theorem nk24 : ¬ (24 : Nat) = 21 := by decide
theorem ar24 : aI 0 24 60 := fun _ _ _ _ _ => rfl
theorem nk8 : ¬ (8 : Nat) = 21 := by decide
theorem kc_m1 : Int32.ofInt (-1) = (-1 : Int32) := by decide
theorem kl_0 : Int64.ofNat ((0 : Fin 2) : Nat) = (0 : Int64) := by decide
theorem afX8_51 : MS RX8 51 yJ7_fill_d0a16 := ⟨Or.inl (inW 884 (by decide +kernel) (by decide +kernel)), inW 538 (by decide +kernel) (by decide +kernel)⟩
theorem afX8_45 : MS RX8 45 yJ7_fill_53178 := ⟨Or.inl (inW 883 (by decide +kernel) (by decide +kernel)), inW 701 (by decide +kernel) (by decide +kernel)⟩
theorem knX8_setAssignment : KN yX8_setAssignment cX8_setAssignment 3 none 2 := ⟨inW 882 (by decide +kernel) (by decide +kernel), inW 132 (by decide +kernel) (by decide +kernel), (by decide +kernel), (by decide +kernel), (by decide +kernel)⟩
theorem mvX8_41 : MV RX8 41 yX8_setAssignment := ⟨Or.inl (inW 879 (by decide +kernel) (by decide +kernel)), inW 881 (by decide +kernel) (by decide +kernel), inW 43 (by decide +kernel) (by decide +kernel)⟩
theorem kc8 : KC 8 RX8 := ⟨⟨_, _, rfl⟩, fun _ _ _ _ _ => ⟨_, rfl⟩⟩
theorem kc_1 : Int32.ofInt (1) = (1 : Int32) := by decide
theorem maX8_63 : Cond.methodLink RX8 63 Lib.MathLoose.min_long.x ∈ ALLW := inW 572 (by decide +kernel) (by decide +kernel)
theorem lcX8_88 : Cond.constantLong RX8 88 (100) ∈ ALLW := inW 984 (by decide +kernel) (by decide +kernel)
theorem kc_2 : Int32.ofInt (2) = (2 : Int32) := by decide
theorem kc_3 : Int32.ofInt (3) = (3 : Int32) := by decide
theorem knX8_lotSum : KN yX8_lotSum cX8_lotSum 4 (some .long) 0 := ⟨inW 983 (by decide +kernel) (by decide +kernel), inW 132 (by decide +kernel) (by decide +kernel), (by decide +kernel), (by decide +kernel), (by decide +kernel)⟩
theorem mvX8_84 : MV RX8 84 yX8_lotSum := ⟨Or.inl (inW 980 (by decide +kernel) (by decide +kernel)), inW 982 (by decide +kernel) (by decide +kernel), inW 55 (by decide +kernel) (by decide +kernel)⟩
theorem kc_4 : Int32.ofInt (4) = (4 : Int32) := by decide
theorem knX8_payFromLots : KN yX8_payFromLots cX8_payFromLots 8 (some .long) 1 := ⟨inW 1104 (by decide +kernel) (by decide +kernel), inW 132 (by decide +kernel) (by decide +kernel), (by decide +kernel), (by decide +kernel), (by decide +kernel)⟩
theorem mvX8_69 : MV RX8 69 yX8_payFromLots := ⟨Or.inl (inW 1101 (by decide +kernel) (by decide +kernel)), inW 1103 (by decide +kernel) (by decide +kernel), inW 68 (by decide +kernel) (by decide +kernel)⟩
theorem kc_5 : Int32.ofInt (5) = (5 : Int32) := by decide
theorem knX8_takeExpiredLot : KN yX8_takeExpiredLot cX8_takeExpiredLot 4 (some .long) 1 := ⟨inW 1108 (by decide +kernel) (by decide +kernel), inW 132 (by decide +kernel) (by decide +kernel), (by decide +kernel), (by decide +kernel), (by decide +kernel)⟩
theorem mvX8_80 : MV RX8 80 yX8_takeExpiredLot := ⟨Or.inl (inW 1105 (by decide +kernel) (by decide +kernel)), inW 1107 (by decide +kernel) (by decide +kernel), inW 69 (by decide +kernel) (by decide +kernel)⟩
theorem knX8_payBill : KN yX8_payBill cX8_payBill 5 none 0 := ⟨inW 1100 (by decide +kernel) (by decide +kernel), inW 132 (by decide +kernel) (by decide +kernel), (by decide +kernel), (by decide +kernel), (by decide +kernel)⟩
theorem mvX8_77 : MV RX8 77 yX8_payBill := ⟨Or.inl (inW 1097 (by decide +kernel) (by decide +kernel)), inW 1099 (by decide +kernel) (by decide +kernel), inW 67 (by decide +kernel) (by decide +kernel)⟩
theorem knX8_takeCredit : KN yX8_takeCredit cX8_takeCredit 6 none 2 := ⟨inW 571 (by decide +kernel) (by decide +kernel), inW 132 (by decide +kernel) (by decide +kernel), (by decide +kernel), (by decide +kernel), (by decide +kernel)⟩
theorem mvX8_73 : MV RX8 73 yX8_takeCredit := ⟨Or.inl (inW 1096 (by decide +kernel) (by decide +kernel)), inW 570 (by decide +kernel) (by decide +kernel), inW 16 (by decide +kernel) (by decide +kernel)⟩
