def fX8_copyFrom (o : Nat) (o1 : Nat) (A : sM) : Option (sM) :=
  ltb (wI A 8 0 o 0 (A.1 8 0 o1 0)) fun A_1 =>
  ltb (wI A_1 8 1 o 0 (A_1.1 8 1 o1 0)) fun A_2 =>
  ltb (wI A_2 8 2 o 0 (A_2.1 8 2 o1 0)) fun A_3 =>
  ltb (wI A_3 8 3 o 0 (A_3.1 8 3 o1 0)) fun A_4 =>
  ltb (wI A_4 8 4 o 0 (A_4.1 8 4 o1 0)) fun A_5 =>
  ltb (wI A_5 8 5 o 0 (A_5.1 8 5 o1 0)) fun A_6 =>
  ltb (wI A_6 8 6 o 0 (A_6.1 8 6 o1 0)) fun A_7 =>
  gd (nq o1 o) (
    ltb (cI A_7 24 o1 o 60) fun A_8 =>
    gd (nq o1 o) (
      ltb (cL A_8 25 o1 o 72) fun A_10 =>
      gd (nq o1 o) (
        ltb (cL A_10 26 o1 o 6) fun A_12 =>
        some A_12)))
set_option maxRecDepth 20000 in
theorem tX8_copyFrom (l : Launch) {G : gU} {ρ : Nat → Nat → Nat} {V : Nat → Nat → Prop} {Z : sM} (o : Nat) (o1 : Nat) (A : sM) (_ : VC V) (ho : V 8 o) (ho1 : V 8 o1) {A' : sM} (h : fX8_copyFrom o o1 A = some A') : MT l yX8_copyFrom cX8_copyFrom 2 none 2 G ρ V [.ref (ρ 8 o), .ref (ρ 8 o1)] (J A Z) none (J A' Z) := by
  refine vv_enter (lv := [(0, .ref (ρ 8 o)), (1, .ref (ρ 8 o1))]) RX8 rfl (by decide) (Nat.le_of_ble_eq_true rfl) rfl ?_
  intro E hE hC hQ hVC
  subst hE
  rw [fX8_copyFrom] at h
  refine wa_aload_n 1 0 hC dX8_copyFrom_0 rfl 0 rfl rfl ?_
  refine wa_aload_n 2 1 hC dX8_copyFrom_1 rfl 1 rfl rfl ?_
  refine wa_getIc 5 hC ho1 sh8_0 rfl flX8_26 dX8_copyFrom_2 rfl ?_
  obtain ⟨A_1, eA_1, h⟩ := ltb_some h
  refine wa_putIc 8 hC ho nk8 eA_1 sh8_0 rfl fpX8_26 dX8_copyFrom_5 rfl ?_
  refine wa_aload_n 9 0 hC dX8_copyFrom_8 rfl 0 rfl rfl ?_
  refine wa_aload_n 10 1 hC dX8_copyFrom_9 rfl 1 rfl rfl ?_
  refine wa_getIc 13 hC ho1 sh8_1 rfl flX8_29 dX8_copyFrom_10 rfl ?_
  obtain ⟨A_2, eA_2, h⟩ := ltb_some h
  refine wa_putIc 16 hC ho nk8 eA_2 sh8_1 rfl fpX8_29 dX8_copyFrom_13 rfl ?_
  refine wa_aload_n 17 0 hC dX8_copyFrom_16 rfl 0 rfl rfl ?_
  refine wa_aload_n 18 1 hC dX8_copyFrom_17 rfl 1 rfl rfl ?_
  refine wa_getIc 21 hC ho1 sh8_2 rfl flX8_32 dX8_copyFrom_18 rfl ?_
  obtain ⟨A_3, eA_3, h⟩ := ltb_some h
  refine wa_putIc 24 hC ho nk8 eA_3 sh8_2 rfl fpX8_32 dX8_copyFrom_21 rfl ?_
  refine wa_aload_n 25 0 hC dX8_copyFrom_24 rfl 0 rfl rfl ?_
  refine wa_aload_n 26 1 hC dX8_copyFrom_25 rfl 1 rfl rfl ?_
  refine wa_getIc 29 hC ho1 sh8_3 rfl flX8_35 dX8_copyFrom_26 rfl ?_
  obtain ⟨A_4, eA_4, h⟩ := ltb_some h
  refine wa_putIc 32 hC ho nk8 eA_4 sh8_3 rfl fpX8_35 dX8_copyFrom_29 rfl ?_
  refine wa_aload_n 33 0 hC dX8_copyFrom_32 rfl 0 rfl rfl ?_
  refine wa_aload_n 34 1 hC dX8_copyFrom_33 rfl 1 rfl rfl ?_
  refine wa_getIc 37 hC ho1 sh8_4 rfl flX8_38 dX8_copyFrom_34 rfl ?_
  obtain ⟨A_5, eA_5, h⟩ := ltb_some h
  refine wa_putIc 40 hC ho nk8 eA_5 sh8_4 rfl fpX8_38 dX8_copyFrom_37 rfl ?_
  refine wa_aload_n 41 0 hC dX8_copyFrom_40 rfl 0 rfl rfl ?_
  refine wa_aload_n 42 1 hC dX8_copyFrom_41 rfl 1 rfl rfl ?_
  refine wa_getIc 45 hC ho1 sh8_5 rfl flX8_9 dX8_copyFrom_42 rfl ?_
  obtain ⟨A_6, eA_6, h⟩ := ltb_some h
  refine wa_putIc 48 hC ho nk8 eA_6 sh8_5 rfl fpX8_9 dX8_copyFrom_45 rfl ?_
  refine wa_aload_n 49 0 hC dX8_copyFrom_48 rfl 0 rfl rfl ?_
  refine wa_aload_n 50 1 hC dX8_copyFrom_49 rfl 1 rfl rfl ?_
  refine wa_getIc 53 hC ho1 sh8_6 rfl flX8_54 dX8_copyFrom_50 rfl ?_
  obtain ⟨A_7, eA_7, h⟩ := ltb_some h
  refine wa_putIc 56 hC ho nk8 eA_7 sh8_6 rfl fpX8_54 dX8_copyFrom_53 rfl ?_
  refine wa_aload_n 57 1 hC dX8_copyFrom_56 rfl 1 rfl rfl ?_
  refine wa_getR 60 hC ho1 (sr8_7 _) flX8_15 dX8_copyFrom_57 rfl ?_
  refine wa_iconst 61 hC dX8_copyFrom_60 kc_0 rfl ?_
  refine wa_aload_n 62 0 hC dX8_copyFrom_61 rfl 0 rfl rfl ?_
  refine wa_getR 65 hC ho (sr8_7 _) flX8_15 dX8_copyFrom_62 rfl ?_
  refine wa_iconst 66 hC dX8_copyFrom_65 kc_0 rfl ?_
  refine wa_aload_n 67 0 hC dX8_copyFrom_66 rfl 0 rfl rfl ?_
  refine wa_getR 70 hC ho (sr8_7 _) flX8_15 dX8_copyFrom_67 rfl ?_
  refine wa_alen 71 hC (vc24 hVC ho) (a := 0) (by decide) rfl len_60 dX8_copyFrom_70 rfl ?_
  obtain ⟨g_9, h⟩ := gd_some h
  obtain ⟨A_8, eA_8, h⟩ := ltb_some h
  refine wa_copyI 74 hC acX8_57 (vc24 hVC ho1) (vc24 hVC ho) (of_decide_eq_true g_9) nk24 ar24 rfl (by decide) (by decide) eA_8 (by decide) (Nat.le_of_ble_eq_true rfl) dX8_copyFrom_71 rfl ?_
  refine wa_aload_n 75 1 hC dX8_copyFrom_74 rfl 1 rfl rfl ?_
  refine wa_getR 78 hC ho1 (sr8_8 _) flX8_19 dX8_copyFrom_75 rfl ?_
  refine wa_iconst 79 hC dX8_copyFrom_78 kc_0 rfl ?_
  refine wa_aload_n 80 0 hC dX8_copyFrom_79 rfl 0 rfl rfl ?_
  refine wa_getR 83 hC ho (sr8_8 _) flX8_19 dX8_copyFrom_80 rfl ?_
  refine wa_iconst 84 hC dX8_copyFrom_83 kc_0 rfl ?_
  refine wa_aload_n 85 0 hC dX8_copyFrom_84 rfl 0 rfl rfl ?_
  refine wa_getR 88 hC ho (sr8_8 _) flX8_19 dX8_copyFrom_85 rfl ?_
  refine wa_alen 89 hC (vc25 hVC ho) (a := 1) (by decide) rfl len_72 dX8_copyFrom_88 rfl ?_
  obtain ⟨g_11, h⟩ := gd_some h
  obtain ⟨A_10, eA_10, h⟩ := ltb_some h
  refine wa_copyJ 92 hC acX8_57 (vc25 hVC ho1) (vc25 hVC ho) (of_decide_eq_true g_11) ar25 rfl (by decide) (by decide) eA_10 (by decide) (Nat.le_of_ble_eq_true rfl) dX8_copyFrom_89 rfl ?_
  refine wa_aload_n 93 1 hC dX8_copyFrom_92 rfl 1 rfl rfl ?_
  refine wa_getR 96 hC ho1 (sr8_9 _) flX8_23 dX8_copyFrom_93 rfl ?_
  refine wa_iconst 97 hC dX8_copyFrom_96 kc_0 rfl ?_
  refine wa_aload_n 98 0 hC dX8_copyFrom_97 rfl 0 rfl rfl ?_
  refine wa_getR 101 hC ho (sr8_9 _) flX8_23 dX8_copyFrom_98 rfl ?_
  refine wa_iconst 102 hC dX8_copyFrom_101 kc_0 rfl ?_
  refine wa_aload_n 103 0 hC dX8_copyFrom_102 rfl 0 rfl rfl ?_
  refine wa_getR 106 hC ho (sr8_9 _) flX8_23 dX8_copyFrom_103 rfl ?_
  refine wa_alen 107 hC (vc26 hVC ho) (a := 1) (by decide) rfl len_6 dX8_copyFrom_106 rfl ?_
  obtain ⟨g_13, h⟩ := gd_some h
  obtain ⟨A_12, eA_12, h⟩ := ltb_some h
  refine wa_copyJ 110 hC acX8_57 (vc26 hVC ho1) (vc26 hVC ho) (of_decide_eq_true g_13) ar26 rfl (by decide) (by decide) eA_12 (by decide) (Nat.le_of_ble_eq_true rfl) dX8_copyFrom_107 rfl ?_
  exact wa_vret hC hQ (jA (sm0 h)) dX8_copyFrom_110
def fX8_setAssignment (o : Nat) (x1 : Int32) (x2 : Int32) (A : sM) : Option (sM) :=
  if x2 ≤ 0 then (
    ltb (wI A 8 5 o 0 (-1 : Int32)) fun A_1 =>
    ltb (wI A_1 8 6 o 0 x2) fun A_2 =>
    some A_2)
  else (
    ltb (wI A 8 5 o 0 x1) fun A_3 =>
    ltb (wI A_3 8 6 o 0 x2) fun A_4 =>
    some A_4)
set_option maxRecDepth 20000 in
theorem tX8_setAssignment (l : Launch) {G : gU} {ρ : Nat → Nat → Nat} {V : Nat → Nat → Prop} {Z : sM} (o : Nat) (x1 : Int32) (x2 : Int32) (A : sM) (_ : VC V) (ho : V 8 o) {A' : sM} (h : fX8_setAssignment o x1 x2 A = some A') : MT l yX8_setAssignment cX8_setAssignment 3 none 1 G ρ V [.ref (ρ 8 o), .int x1, .int x2] (J A Z) none (J A' Z) := by
  refine vv_enter (lv := [(0, .ref (ρ 8 o)), (1, .int x1), (2, .int x2)]) RX8 rfl (by decide) (Nat.le_of_ble_eq_true rfl) rfl ?_
  intro E hE hC hQ hVC
  subst hE
  rw [fX8_setAssignment] at h
  refine wa_aload_n 1 0 hC dX8_setAssignment_0 rfl 0 rfl rfl ?_
  refine wa_iload_n 2 2 hC dX8_setAssignment_1 rfl 2 rfl rfl ?_
  refine wa_if_le 5 9 hC dX8_setAssignment_2 rfl rfl h (fun h => ?_) (fun h => ?_)
  · refine wa_iconst 10 hC dX8_setAssignment_9 kc_m1 rfl ?_
    obtain ⟨A_1, eA_1, h⟩ := ltb_some h
    refine wa_putIc 13 hC ho nk8 eA_1 sh8_5 rfl fpX8_9 dX8_setAssignment_10 rfl ?_
    refine wa_aload_n 14 0 hC dX8_setAssignment_13 rfl 0 rfl rfl ?_
    refine wa_iload_n 15 2 hC dX8_setAssignment_14 rfl 2 rfl rfl ?_
    obtain ⟨A_2, eA_2, h⟩ := ltb_some h
    refine wa_putIc 18 hC ho nk8 eA_2 sh8_6 rfl fpX8_54 dX8_setAssignment_15 rfl ?_
    exact wa_vret hC hQ (jA (sm0 h)) dX8_setAssignment_18
  · refine wa_iload_n 6 1 hC dX8_setAssignment_5 rfl 1 rfl rfl ?_
    refine wa_goto 10 hC dX8_setAssignment_6 rfl ?_
    obtain ⟨A_3, eA_3, h⟩ := ltb_some h
    refine wa_putIc 13 hC ho nk8 eA_3 sh8_5 rfl fpX8_9 dX8_setAssignment_10 rfl ?_
    refine wa_aload_n 14 0 hC dX8_setAssignment_13 rfl 0 rfl rfl ?_
    refine wa_iload_n 15 2 hC dX8_setAssignment_14 rfl 2 rfl rfl ?_
    obtain ⟨A_4, eA_4, h⟩ := ltb_some h
    refine wa_putIc 18 hC ho nk8 eA_4 sh8_6 rfl fpX8_54 dX8_setAssignment_15 rfl ?_
    exact wa_vret hC hQ (jA (sm0 h)) dX8_setAssignment_18
def fX8_begin (o : Nat) (x1 : Int32) (x2 : Int32) (x3 : Int32) (A : sM) : Option (sM) :=
  ltb (wI A 8 0 o 0 (0 : Int32)) fun A_1 =>
  ltb (wI A_1 8 1 o 0 x1) fun A_2 =>
  ltb (wI A_2 8 2 o 0 x2) fun A_3 =>
  ltb (wI A_3 8 3 o 0 x3) fun A_4 =>
  ltb (wI A_4 8 4 o 0 (0 : Int32)) fun A_5 =>
  Option.bind (fX8_setAssignment o (-1 : Int32) (0 : Int32) A_5) fun A_6 =>
  ltb (fI A_6 24 o 60 (0 : Int32)) fun A_7 =>
  ltb (fL A_7 25 o 72 (0 : Int64)) fun A_8 =>
  ltb (fL A_8 26 o 6 (0 : Int64)) fun A_9 =>
  some A_9
set_option maxRecDepth 20000 in
theorem tX8_begin (l : Launch) {G : gU} {ρ : Nat → Nat → Nat} {V : Nat → Nat → Prop} {Z : sM} (o : Nat) (x1 : Int32) (x2 : Int32) (x3 : Int32) (A : sM) (_ : VC V) (ho : V 8 o) {A' : sM} (h : fX8_begin o x1 x2 x3 A = some A') : MT l yX8_begin cX8_begin 4 none 2 G ρ V [.ref (ρ 8 o), .int x1, .int x2, .int x3] (J A Z) none (J A' Z) := by
  refine vv_enter (lv := [(0, .ref (ρ 8 o)), (1, .int x1), (2, .int x2), (3, .int x3)]) RX8 rfl (by decide) (Nat.le_of_ble_eq_true rfl) rfl ?_
  intro E hE hC hQ hVC
  subst hE
  rw [fX8_begin] at h
  refine wa_aload_n 1 0 hC dX8_begin_0 rfl 0 rfl rfl ?_
  refine wa_iconst 2 hC dX8_begin_1 kc_0 rfl ?_
  obtain ⟨A_1, eA_1, h⟩ := ltb_some h
  refine wa_putIc 5 hC ho nk8 eA_1 sh8_0 rfl fpX8_26 dX8_begin_2 rfl ?_
  refine wa_aload_n 6 0 hC dX8_begin_5 rfl 0 rfl rfl ?_
  refine wa_iload_n 7 1 hC dX8_begin_6 rfl 1 rfl rfl ?_
  obtain ⟨A_2, eA_2, h⟩ := ltb_some h
  refine wa_putIc 10 hC ho nk8 eA_2 sh8_1 rfl fpX8_29 dX8_begin_7 rfl ?_
  refine wa_aload_n 11 0 hC dX8_begin_10 rfl 0 rfl rfl ?_
  refine wa_iload_n 12 2 hC dX8_begin_11 rfl 2 rfl rfl ?_
  obtain ⟨A_3, eA_3, h⟩ := ltb_some h
  refine wa_putIc 15 hC ho nk8 eA_3 sh8_2 rfl fpX8_32 dX8_begin_12 rfl ?_
  refine wa_aload_n 16 0 hC dX8_begin_15 rfl 0 rfl rfl ?_
  refine wa_iload_n 17 3 hC dX8_begin_16 rfl 3 rfl rfl ?_
  obtain ⟨A_4, eA_4, h⟩ := ltb_some h
  refine wa_putIc 20 hC ho nk8 eA_4 sh8_3 rfl fpX8_35 dX8_begin_17 rfl ?_
  refine wa_aload_n 21 0 hC dX8_begin_20 rfl 0 rfl rfl ?_
  refine wa_iconst 22 hC dX8_begin_21 kc_0 rfl ?_
  obtain ⟨A_5, eA_5, h⟩ := ltb_some h
  refine wa_putIc 25 hC ho nk8 eA_5 sh8_4 rfl fpX8_38 dX8_begin_22 rfl ?_
  refine wa_aload_n 26 0 hC dX8_begin_25 rfl 0 rfl rfl ?_
  refine wa_iconst 27 hC dX8_begin_26 kc_m1 rfl ?_
  refine wa_iconst 28 hC dX8_begin_27 kc_0 rfl ?_
  obtain ⟨A_6, e_10, h⟩ := bd_some h
  refine wa_callVv 31 hC [.int (-1 : Int32), .int (0 : Int32)] [] knX8_setAssignment mvX8_41 (tX8_setAssignment E.2.1 o (-1 : Int32) (0 : Int32) A_5 hVC ho e_10) ho kc8 (Nat.le_of_ble_eq_true rfl) (Nat.le_of_ble_eq_true rfl) rfl (Nat.le_of_ble_eq_true rfl) dX8_begin_28 rfl le00 rfl ?_
  refine wa_aload_n 32 0 hC dX8_begin_31 rfl 0 rfl rfl ?_
  refine wa_getR 35 hC ho (sr8_7 _) flX8_15 dX8_begin_32 rfl ?_
  refine wa_iconst 36 hC dX8_begin_35 kc_0 rfl ?_
  obtain ⟨A_7, eA_7, h⟩ := ltb_some h
  refine wa_fillI 39 hC afX8_45 (vc24 hVC ho) nk24 ar24 rfl (by decide) eA_7 (Nat.le_of_ble_eq_true rfl) (Nat.le_of_ble_eq_true rfl) dX8_begin_36 rfl le00 ?_
  refine wa_aload_n 40 0 hC dX8_begin_39 rfl 0 rfl rfl ?_
  refine wa_getR 43 hC ho (sr8_8 _) flX8_19 dX8_begin_40 rfl ?_
  refine wa_lconst 44 hC dX8_begin_43 kl_0 rfl ?_
  obtain ⟨A_8, eA_8, h⟩ := ltb_some h
  refine wa_fillJ 47 hC afX8_51 (vc25 hVC ho) ar25 rfl (by decide) eA_8 (Nat.le_of_ble_eq_true rfl) (Nat.le_of_ble_eq_true rfl) dX8_begin_44 rfl le00 ?_
  refine wa_aload_n 48 0 hC dX8_begin_47 rfl 0 rfl rfl ?_
  refine wa_getR 51 hC ho (sr8_9 _) flX8_23 dX8_begin_48 rfl ?_
  refine wa_lconst 52 hC dX8_begin_51 kl_0 rfl ?_
  obtain ⟨A_9, eA_9, h⟩ := ltb_some h
  refine wa_fillJ 55 hC afX8_51 (vc26 hVC ho) ar26 rfl (by decide) eA_9 (Nat.le_of_ble_eq_true rfl) (Nat.le_of_ble_eq_true rfl) dX8_begin_52 rfl le00 ?_
  exact wa_vret hC hQ (jA (sm0 h)) dX8_begin_55
def fX8_isActive (o : Nat) (A : sM) : Option (Int32) :=
  if (A.1 8 0 o 0) = (1 : Int32) then (
    some (1 : Int32))
  else (
    some (0 : Int32))
set_option maxRecDepth 20000 in
theorem tX8_isActive (l : Launch) {G : gU} {ρ : Nat → Nat → Nat} {V : Nat → Nat → Prop} {Z : sM} (o : Nat) (A : sM) (_ : VC V) (ho : V 8 o) {r : Int32} (h : fX8_isActive o A = some r) : MT l yX8_isActive cX8_isActive 1 (some .boolean) 1 G ρ V [.ref (ρ 8 o)] (J A Z) (some (.int r)) (J A Z) := by
  refine vv_enter (lv := [(0, .ref (ρ 8 o))]) RX8 rfl (by decide) (Nat.le_of_ble_eq_true rfl) rfl ?_
  intro E hE hC hQ hVC
  subst hE
  rw [fX8_isActive] at h
  refine wa_aload_n 1 0 hC dX8_isActive_0 rfl 0 rfl rfl ?_
  refine wa_getIc 4 hC ho sh8_0 rfl flX8_26 dX8_isActive_1 rfl ?_
  refine wa_iconst 5 hC dX8_isActive_4 kc_1 rfl ?_
  refine wa_icmp_ne 8 12 hC dX8_isActive_5 rfl rfl h (fun h => ?_) (fun h => ?_)
  · refine wa_iconst 13 hC dX8_isActive_12 kc_0 rfl ?_
    exact wa_zret hC hQ (sm0 h) rfl rfl dX8_isActive_13
  · refine wa_iconst 9 hC dX8_isActive_8 kc_1 rfl ?_
    refine wa_goto 13 hC dX8_isActive_9 rfl ?_
    exact wa_zret hC hQ (sm0 h) rfl rfl dX8_isActive_13
def fX8_lotSum_L4 (o0 : Nat) (A : sM) (k28 : Int64 → Option (Int64)) : Nat → Int64 → Int32 → Option (Int64)
  | 0, _, _ => none
  | n + 1, x1, x3 =>
    if (72 : Int32) ≤ x3 then (
      k28 x1)
    else (
      gd (inb x3 72) (
        ltb (x1 + (A.2 25 0 o0 x3.toNatClampNeg)) fun x1_2 =>
        ltb (x3 + (1 : Int32)) fun x3_3 =>
        fX8_lotSum_L4 o0 A k28 n x1_2 x3_3))
def fX8_lotSum (o : Nat) (A : sM) : Option (Int64) :=
  fX8_lotSum_L4 o A (fun (x1_1 : Int64) =>
    some x1_1) 10000 (0 : Int64) (0 : Int32)
set_option maxRecDepth 20000 in
theorem wX8_lotSum_L4 {E : eU} {G : gU} {ρ : Nat → Nat → Nat} {V : Nat → Nat → Prop} {Z : sM} {r : Int64} (o0 : Nat) (A : sM) {k28 : Int64 → Option (Int64)} (hC : CX E G cX8_lotSum 4 RX8 (some .long) 1 0 0) (hVC : VC V) (ho0 : V 8 o0) (hk28 : ∀ (x1 : Int64), k28 x1 = some r → WA E G ρ V 0 0 (J A Z) 28 [(1, .long x1)] []) : ∀ (n : Nat) (x1 : Int64) (x3 : Int32), fX8_lotSum_L4 o0 A k28 n x1 x3 = some r → WA E G ρ V 0 0 (J A Z) 4 [(0, .ref (ρ 8 o0)), (1, .long x1), (3, .int x3)] [] := by
  intro n
  induction n with
  | zero =>
    intro x1 x3 h
    rw [fX8_lotSum_L4] at h
    cases h
  | succ n ih =>
    intro x1 x3 h
    rw [fX8_lotSum_L4] at h
    refine wa_iload_n 5 3 hC dX8_lotSum_4 rfl 2 rfl rfl ?_
    refine wa_aload_n 6 0 hC dX8_lotSum_5 rfl 0 rfl rfl ?_
    refine wa_getR 9 hC ho0 (sr8_8 _) flX8_19 dX8_lotSum_6 rfl ?_
    refine wa_alen 10 hC (vc25 hVC ho0) (a := 1) (by decide) rfl len_72 dX8_lotSum_9 rfl ?_
    refine wa_icmp_ge 13 28 hC dX8_lotSum_10 rfl rfl h (fun h => ?_) (fun h => ?_)
    · refine wa_pick [1] rfl ?_
      exact hk28 x1 h
    · refine wa_lload_n 14 1 hC dX8_lotSum_13 rfl 1 rfl rfl ?_
      refine wa_aload_n 15 0 hC dX8_lotSum_14 rfl 0 rfl rfl ?_
      refine wa_getR 18 hC ho0 (sr8_8 _) flX8_19 dX8_lotSum_15 rfl ?_
      refine wa_iload_n 19 3 hC dX8_lotSum_18 rfl 2 rfl rfl ?_
      obtain ⟨g_1, h⟩ := gd_some h
      refine wa_laldc 20 hC (vc25 hVC ho0) ar25 rfl g_1 dX8_lotSum_19 rfl ?_
      refine wa_ladd 21 hC dX8_lotSum_20 rfl ?_
      obtain ⟨x1_2, ex1_2, h⟩ := ltb_some h
      refine wa_lstore_n (lv' := [(1, .long x1_2), (0, .ref (ρ 8 o0)), (3, .int x3)]) 22 1 hC dX8_lotSum_21 rfl ex1_2 (by decide) rfl rfl ?_
      obtain ⟨x3_3, ex3_3, h⟩ := ltb_some h
      refine wa_iinc (lv' := [(3, .int x3_3), (1, .long x1_2), (0, .ref (ρ 8 o0))]) 25 3 hC dX8_lotSum_22 2 rfl (by rw [kc_1]; exact ex3_3) (by decide) rfl rfl ?_
      refine wa_goto 4 hC dX8_lotSum_25 rfl ?_
      refine wa_pick [2, 1, 0] rfl ?_
      exact ih x1_2 x3_3 h
set_option maxRecDepth 20000 in
theorem tX8_lotSum (l : Launch) {G : gU} {ρ : Nat → Nat → Nat} {V : Nat → Nat → Prop} {Z : sM} (o : Nat) (A : sM) (_ : VC V) (ho : V 8 o) {r : Int64} (h : fX8_lotSum o A = some r) : MT l yX8_lotSum cX8_lotSum 4 (some .long) 1 G ρ V [.ref (ρ 8 o)] (J A Z) (some (.long r)) (J A Z) := by
  refine vv_enter (lv := [(0, .ref (ρ 8 o))]) RX8 rfl (by decide) (Nat.le_of_ble_eq_true rfl) rfl ?_
  intro E hE hC hQ hVC
  subst hE
  rw [fX8_lotSum] at h
  refine wa_lconst 1 hC dX8_lotSum_0 kl_0 rfl ?_
  refine wa_lstore_n (lv' := [(1, .long (0 : Int64)), (0, .ref (ρ 8 o))]) 2 1 hC dX8_lotSum_1 rfl rfl (by decide) rfl rfl ?_
  refine wa_iconst 3 hC dX8_lotSum_2 kc_0 rfl ?_
  refine wa_istore_n (lv' := [(3, .int (0 : Int32)), (1, .long (0 : Int64)), (0, .ref (ρ 8 o))]) 4 3 hC dX8_lotSum_3 rfl rfl (by decide) rfl rfl ?_
  refine wa_pick [2, 1, 0] rfl ?_
  refine wX8_lotSum_L4 o A hC hVC ho (fun x1_1 h => ?_) 10000 (0 : Int64) (0 : Int32) h
  refine wa_lload_n 29 1 hC dX8_lotSum_28 rfl 0 rfl rfl ?_
  exact wa_lret hC hQ (sm0 h) rfl dX8_lotSum_29
def fX8_closeAccounts (o : Nat) (x1 : Int32) (A : sM) : Option (Int64 × sM) :=
  Option.bind (fX8_lotSum o A) fun r_1 =>
  ltb ((if (A.2 26 0 o (0 : Int32).toNatClampNeg) < r_1 then (A.2 26 0 o (0 : Int32).toNatClampNeg) else r_1)) fun x4_3 =>
  ltb ((A.2 26 0 o (0 : Int32).toNatClampNeg) - x4_3) fun x6_5 =>
  ltb (r_1 - x4_3) fun x8_6 =>
  ltb ((x8_6 * (x1.toInt64)) / (100 : Int64)) fun x10_7 =>
  ltb (fL A 25 o 72 (0 : Int64)) fun A_8 =>
  ltb (wL A_8 26 0 o (0 : Int32).toNatClampNeg (0 : Int64)) fun A_10 =>
  ltb (wL A_10 26 0 o (2 : Int32).toNatClampNeg ((A_10.2 26 0 o (2 : Int32).toNatClampNeg) + (A_10.2 26 0 o (1 : Int32).toNatClampNeg))) fun A_14 =>
  ltb (wL A_14 26 0 o (1 : Int32).toNatClampNeg (0 : Int64)) fun A_16 =>
  ltb (wL A_16 26 0 o (3 : Int32).toNatClampNeg x10_7) fun A_18 =>
  some ((x8_6 - x10_7) - x6_5, A_18)
set_option maxRecDepth 20000 in
theorem tX8_closeAccounts (l : Launch) {G : gU} {ρ : Nat → Nat → Nat} {V : Nat → Nat → Prop} {Z : sM} (o : Nat) (x1 : Int32) (A : sM) (_ : VC V) (ho : V 8 o) {r : Int64} {A' : sM} (h : fX8_closeAccounts o x1 A = some (r, A')) : MT l yX8_closeAccounts cX8_closeAccounts 12 (some .long) 2 G ρ V [.ref (ρ 8 o), .int x1] (J A Z) (some (.long r)) (J A' Z) := by
  refine vv_enter (lv := [(0, .ref (ρ 8 o)), (1, .int x1)]) RX8 rfl (by decide) (Nat.le_of_ble_eq_true rfl) rfl ?_
  intro E hE hC hQ hVC
  subst hE
  rw [fX8_closeAccounts] at h
  refine wa_aload_n 1 0 hC dX8_closeAccounts_0 rfl 0 rfl rfl ?_
  obtain ⟨r_1, e_19, h⟩ := bd_some h
  refine wa_callVl 4 hC [] [] knX8_lotSum mvX8_84 (tX8_lotSum E.2.1 o A hVC ho e_19) ho kc8 (Nat.le_of_ble_eq_true rfl) (Nat.le_of_ble_eq_true rfl) rfl (Nat.le_of_ble_eq_true rfl) dX8_closeAccounts_1 rfl le00 rfl ?_
  refine wa_lstore_n (lv' := [(2, .long r_1), (0, .ref (ρ 8 o)), (1, .int x1)]) 5 2 hC dX8_closeAccounts_4 rfl rfl (by decide) rfl rfl ?_
  refine wa_lload_n 6 2 hC dX8_closeAccounts_5 rfl 0 rfl rfl ?_
  refine wa_aload_n 7 0 hC dX8_closeAccounts_6 rfl 1 rfl rfl ?_
  refine wa_getR 10 hC ho (sr8_9 _) flX8_23 dX8_closeAccounts_7 rfl ?_
  refine wa_iconst 11 hC dX8_closeAccounts_10 kc_0 rfl ?_
  refine wa_laldc 12 hC (vc26 hVC ho) ar26 rfl (by decide) dX8_closeAccounts_11 rfl ?_
  refine wa_mmin_long 15 hC maX8_63 (by decide) (Nat.le_of_ble_eq_true rfl) dX8_closeAccounts_12 rfl le00 ?_
  obtain ⟨x4_3, ex4_3, h⟩ := ltb_some h
  refine wa_lstore (lv' := [(4, .long x4_3), (2, .long r_1), (0, .ref (ρ 8 o)), (1, .int x1)]) 17 4 hC dX8_closeAccounts_15 ex4_3 (by decide) rfl rfl ?_
  refine wa_aload_n 18 0 hC dX8_closeAccounts_17 rfl 2 rfl rfl ?_
  refine wa_getR 21 hC ho (sr8_9 _) flX8_23 dX8_closeAccounts_18 rfl ?_
  refine wa_iconst 22 hC dX8_closeAccounts_21 kc_0 rfl ?_
  refine wa_laldc 23 hC (vc26 hVC ho) ar26 rfl (by decide) dX8_closeAccounts_22 rfl ?_
  refine wa_lload 25 4 hC dX8_closeAccounts_23 0 rfl rfl ?_
  refine wa_lsub 26 hC dX8_closeAccounts_25 rfl ?_
  obtain ⟨x6_5, ex6_5, h⟩ := ltb_some h
  refine wa_lstore (lv' := [(6, .long x6_5), (4, .long x4_3), (2, .long r_1), (0, .ref (ρ 8 o)), (1, .int x1)]) 28 6 hC dX8_closeAccounts_26 ex6_5 (by decide) rfl rfl ?_
  refine wa_lload_n 29 2 hC dX8_closeAccounts_28 rfl 2 rfl rfl ?_
  refine wa_lload 31 4 hC dX8_closeAccounts_29 1 rfl rfl ?_
  refine wa_lsub 32 hC dX8_closeAccounts_31 rfl ?_
  obtain ⟨x8_6, ex8_6, h⟩ := ltb_some h
  refine wa_lstore (lv' := [(8, .long x8_6), (6, .long x6_5), (4, .long x4_3), (2, .long r_1), (0, .ref (ρ 8 o)), (1, .int x1)]) 34 8 hC dX8_closeAccounts_32 ex8_6 (by decide) rfl rfl ?_
  refine wa_lload 36 8 hC dX8_closeAccounts_34 0 rfl rfl ?_
  refine wa_iload_n 37 1 hC dX8_closeAccounts_36 rfl 5 rfl rfl ?_
  refine wa_i2l 38 hC dX8_closeAccounts_37 rfl ?_
  refine wa_lmul 39 hC dX8_closeAccounts_38 rfl ?_
  refine wa_ldc2 42 hC dX8_closeAccounts_39 lcX8_88 rfl ?_
  refine wa_ldiv 43 hC dX8_closeAccounts_42 (by decide) rfl ?_
  obtain ⟨x10_7, ex10_7, h⟩ := ltb_some h
  refine wa_lstore (lv' := [(10, .long x10_7), (8, .long x8_6), (6, .long x6_5), (4, .long x4_3), (2, .long r_1), (0, .ref (ρ 8 o)), (1, .int x1)]) 45 10 hC dX8_closeAccounts_43 ex10_7 (by decide) rfl rfl ?_
  refine wa_aload_n 46 0 hC dX8_closeAccounts_45 rfl 5 rfl rfl ?_
  refine wa_getR 49 hC ho (sr8_8 _) flX8_19 dX8_closeAccounts_46 rfl ?_
  refine wa_lconst 50 hC dX8_closeAccounts_49 kl_0 rfl ?_
  obtain ⟨A_8, eA_8, h⟩ := ltb_some h
  refine wa_fillJ 53 hC afX8_51 (vc25 hVC ho) ar25 rfl (by decide) eA_8 (Nat.le_of_ble_eq_true rfl) (Nat.le_of_ble_eq_true rfl) dX8_closeAccounts_50 rfl le00 ?_
  refine wa_aload_n 54 0 hC dX8_closeAccounts_53 rfl 5 rfl rfl ?_
  refine wa_getR 57 hC ho (sr8_9 _) flX8_23 dX8_closeAccounts_54 rfl ?_
  refine wa_iconst 58 hC dX8_closeAccounts_57 kc_0 rfl ?_
  refine wa_lconst 59 hC dX8_closeAccounts_58 kl_0 rfl ?_
  obtain ⟨A_10, eA_10, h⟩ := ltb_some h
  refine wa_lastc 60 hC (vc26 hVC ho) ar26 rfl (by decide) eA_10 dX8_closeAccounts_59 rfl ?_
  refine wa_aload_n 61 0 hC dX8_closeAccounts_60 rfl 5 rfl rfl ?_
  refine wa_getR 64 hC ho (sr8_9 _) flX8_23 dX8_closeAccounts_61 rfl ?_
  refine wa_iconst 65 hC dX8_closeAccounts_64 kc_2 rfl ?_
  refine wa_dup2 66 hC dX8_closeAccounts_65 rfl rfl rfl ?_
  refine wa_laldc 67 hC (vc26 hVC ho) ar26 rfl (by decide) dX8_closeAccounts_66 rfl ?_
  refine wa_aload_n 68 0 hC dX8_closeAccounts_67 rfl 5 rfl rfl ?_
  refine wa_getR 71 hC ho (sr8_9 _) flX8_23 dX8_closeAccounts_68 rfl ?_
  refine wa_iconst 72 hC dX8_closeAccounts_71 kc_1 rfl ?_
  refine wa_laldc 73 hC (vc26 hVC ho) ar26 rfl (by decide) dX8_closeAccounts_72 rfl ?_
  refine wa_ladd 74 hC dX8_closeAccounts_73 rfl ?_
  obtain ⟨A_14, eA_14, h⟩ := ltb_some h
  refine wa_lastc 75 hC (vc26 hVC ho) ar26 rfl (by decide) eA_14 dX8_closeAccounts_74 rfl ?_
  refine wa_aload_n 76 0 hC dX8_closeAccounts_75 rfl 5 rfl rfl ?_
  refine wa_getR 79 hC ho (sr8_9 _) flX8_23 dX8_closeAccounts_76 rfl ?_
  refine wa_iconst 80 hC dX8_closeAccounts_79 kc_1 rfl ?_
  refine wa_lconst 81 hC dX8_closeAccounts_80 kl_0 rfl ?_
  obtain ⟨A_16, eA_16, h⟩ := ltb_some h
  refine wa_lastc 82 hC (vc26 hVC ho) ar26 rfl (by decide) eA_16 dX8_closeAccounts_81 rfl ?_
  refine wa_aload_n 83 0 hC dX8_closeAccounts_82 rfl 5 rfl rfl ?_
  refine wa_getR 86 hC ho (sr8_9 _) flX8_23 dX8_closeAccounts_83 rfl ?_
  refine wa_iconst 87 hC dX8_closeAccounts_86 kc_3 rfl ?_
  refine wa_lload 89 10 hC dX8_closeAccounts_87 0 rfl rfl ?_
  obtain ⟨A_18, eA_18, h⟩ := ltb_some h
  refine wa_lastc 90 hC (vc26 hVC ho) ar26 rfl (by decide) eA_18 dX8_closeAccounts_89 rfl ?_
  refine wa_lload 92 8 hC dX8_closeAccounts_90 1 rfl rfl ?_
  refine wa_lload 94 10 hC dX8_closeAccounts_92 0 rfl rfl ?_
  refine wa_lsub 95 hC dX8_closeAccounts_94 rfl ?_
  refine wa_lload 97 6 hC dX8_closeAccounts_95 2 rfl rfl ?_
  refine wa_lsub 98 hC dX8_closeAccounts_97 rfl ?_
  exact wa_lret hC hQ (sm1 h) (jA (sm2 h)) dX8_closeAccounts_98
def fX8_isAheadOf (o : Nat) (o1 : Nat) (A : sM) : Option (Int32) :=
  if (A.1 8 3 o 0) < (A.1 8 3 o1 0) then (
    some (0 : Int32))
  else (
    some (1 : Int32))
set_option maxRecDepth 20000 in
theorem tX8_isAheadOf (l : Launch) {G : gU} {ρ : Nat → Nat → Nat} {V : Nat → Nat → Prop} {Z : sM} (o : Nat) (o1 : Nat) (A : sM) (_ : VC V) (ho : V 8 o) (ho1 : V 8 o1) {r : Int32} (h : fX8_isAheadOf o o1 A = some r) : MT l yX8_isAheadOf cX8_isAheadOf 2 (some .boolean) 1 G ρ V [.ref (ρ 8 o), .ref (ρ 8 o1)] (J A Z) (some (.int r)) (J A Z) := by
  refine vv_enter (lv := [(0, .ref (ρ 8 o)), (1, .ref (ρ 8 o1))]) RX8 rfl (by decide) (Nat.le_of_ble_eq_true rfl) rfl ?_
  intro E hE hC hQ hVC
  subst hE
  rw [fX8_isAheadOf] at h
  refine wa_aload_n 1 0 hC dX8_isAheadOf_0 rfl 0 rfl rfl ?_
  refine wa_getIc 4 hC ho sh8_3 rfl flX8_35 dX8_isAheadOf_1 rfl ?_
  refine wa_aload_n 5 1 hC dX8_isAheadOf_4 rfl 1 rfl rfl ?_
  refine wa_getIc 8 hC ho1 sh8_3 rfl flX8_35 dX8_isAheadOf_5 rfl ?_
  refine wa_icmp_lt 11 15 hC dX8_isAheadOf_8 rfl rfl h (fun h => ?_) (fun h => ?_)
  · refine wa_iconst 16 hC dX8_isAheadOf_15 kc_0 rfl ?_
    exact wa_zret hC hQ (sm0 h) rfl rfl dX8_isAheadOf_16
  · refine wa_iconst 12 hC dX8_isAheadOf_11 kc_1 rfl ?_
    refine wa_goto 16 hC dX8_isAheadOf_12 rfl ?_
    exact wa_zret hC hQ (sm0 h) rfl rfl dX8_isAheadOf_16
def fX8_takeCredit (o : Nat) (x1 : Int64) (x3 : Int32) (A : sM) : Option (sM) :=
  ltb ((if (A.2 26 0 o (0 : Int32).toNatClampNeg) < x1 then (A.2 26 0 o (0 : Int32).toNatClampNeg) else x1)) fun x4_2 =>
  ltb (wL A 26 0 o (0 : Int32).toNatClampNeg ((A.2 26 0 o (0 : Int32).toNatClampNeg) - x4_2)) fun A_5 =>
  if x3 < 0 then (
    some A_5)
  else (
    if (72 : Int32) ≤ x3 then (
      some A_5)
    else (
      gd (inb x3 72) (
        gd (inb x3 72) (
          ltb (wL A_5 25 0 o x3.toNatClampNeg ((A_5.2 25 0 o x3.toNatClampNeg) + (x1 - x4_2))) fun A_8 =>
          some A_8))))
set_option maxRecDepth 20000 in
theorem tX8_takeCredit (l : Launch) {G : gU} {ρ : Nat → Nat → Nat} {V : Nat → Nat → Prop} {Z : sM} (o : Nat) (x1 : Int64) (x3 : Int32) (A : sM) (_ : VC V) (ho : V 8 o) {A' : sM} (h : fX8_takeCredit o x1 x3 A = some A') : MT l yX8_takeCredit cX8_takeCredit 6 none 2 G ρ V [.ref (ρ 8 o), .long x1, .int x3] (J A Z) none (J A' Z) := by
  refine vv_enter (lv := [(0, .ref (ρ 8 o)), (1, .long x1), (3, .int x3)]) RX8 rfl (by decide) (Nat.le_of_ble_eq_true rfl) rfl ?_
  intro E hE hC hQ hVC
  subst hE
  rw [fX8_takeCredit] at h
  refine wa_lload_n 1 1 hC dX8_takeCredit_0 rfl 1 rfl rfl ?_
  refine wa_aload_n 2 0 hC dX8_takeCredit_1 rfl 0 rfl rfl ?_
  refine wa_getR 5 hC ho (sr8_9 _) flX8_23 dX8_takeCredit_2 rfl ?_
  refine wa_iconst 6 hC dX8_takeCredit_5 kc_0 rfl ?_
  refine wa_laldc 7 hC (vc26 hVC ho) ar26 rfl (by decide) dX8_takeCredit_6 rfl ?_
  refine wa_mmin_long 10 hC maX8_63 (by decide) (Nat.le_of_ble_eq_true rfl) dX8_takeCredit_7 rfl le00 ?_
  obtain ⟨x4_2, ex4_2, h⟩ := ltb_some h
  refine wa_lstore (lv' := [(4, .long x4_2), (0, .ref (ρ 8 o)), (1, .long x1), (3, .int x3)]) 12 4 hC dX8_takeCredit_10 ex4_2 (by decide) rfl rfl ?_
  refine wa_aload_n 13 0 hC dX8_takeCredit_12 rfl 1 rfl rfl ?_
  refine wa_getR 16 hC ho (sr8_9 _) flX8_23 dX8_takeCredit_13 rfl ?_
  refine wa_iconst 17 hC dX8_takeCredit_16 kc_0 rfl ?_
  refine wa_dup2 18 hC dX8_takeCredit_17 rfl rfl rfl ?_
  refine wa_laldc 19 hC (vc26 hVC ho) ar26 rfl (by decide) dX8_takeCredit_18 rfl ?_
  refine wa_lload 21 4 hC dX8_takeCredit_19 0 rfl rfl ?_
  refine wa_lsub 22 hC dX8_takeCredit_21 rfl ?_
  obtain ⟨A_5, eA_5, h⟩ := ltb_some h
  refine wa_lastc 23 hC (vc26 hVC ho) ar26 rfl (by decide) eA_5 dX8_takeCredit_22 rfl ?_
  refine wa_iload_n 24 3 hC dX8_takeCredit_23 rfl 3 rfl rfl ?_
  refine wa_if_lt 27 49 hC dX8_takeCredit_24 rfl rfl h (fun h => ?_) (fun h => ?_)
  · exact wa_vret hC hQ (jA (sm0 h)) dX8_takeCredit_49
  · refine wa_iload_n 28 3 hC dX8_takeCredit_27 rfl 3 rfl rfl ?_
    refine wa_aload_n 29 0 hC dX8_takeCredit_28 rfl 1 rfl rfl ?_
    refine wa_getR 32 hC ho (sr8_8 _) flX8_19 dX8_takeCredit_29 rfl ?_
    refine wa_alen 33 hC (vc25 hVC ho) (a := 1) (by decide) rfl len_72 dX8_takeCredit_32 rfl ?_
    refine wa_icmp_ge 36 49 hC dX8_takeCredit_33 rfl rfl h (fun h => ?_) (fun h => ?_)
    · exact wa_vret hC hQ (jA (sm0 h)) dX8_takeCredit_49
    · refine wa_aload_n 37 0 hC dX8_takeCredit_36 rfl 1 rfl rfl ?_
      refine wa_getR 40 hC ho (sr8_8 _) flX8_19 dX8_takeCredit_37 rfl ?_
      refine wa_iload_n 41 3 hC dX8_takeCredit_40 rfl 3 rfl rfl ?_
      refine wa_dup2 42 hC dX8_takeCredit_41 rfl rfl rfl ?_
      obtain ⟨g_6, h⟩ := gd_some h
      refine wa_laldc 43 hC (vc25 hVC ho) ar25 rfl g_6 dX8_takeCredit_42 rfl ?_
      refine wa_lload_n 44 1 hC dX8_takeCredit_43 rfl 2 rfl rfl ?_
      refine wa_lload 46 4 hC dX8_takeCredit_44 0 rfl rfl ?_
      refine wa_lsub 47 hC dX8_takeCredit_46 rfl ?_
      refine wa_ladd 48 hC dX8_takeCredit_47 rfl ?_
      obtain ⟨g_7, h⟩ := gd_some h
      obtain ⟨A_8, eA_8, h⟩ := ltb_some h
      refine wa_lastc 49 hC (vc25 hVC ho) ar25 rfl g_7 eA_8 dX8_takeCredit_48 rfl ?_
      exact wa_vret hC hQ (jA (sm0 h)) dX8_takeCredit_49
def fX8_payFromLots_L5 (o0 : Nat) (k57 : Int64 → sM → Option (Int64 × sM)) : Nat → Int64 → Int32 → sM → Option (Int64 × sM)
  | 0, _, _, _ => none
  | n + 1, x3, x5, A =>
    if (72 : Int32) ≤ x5 then (
      k57 x3 A)
    else (
      if x3 ≤ (0 : Int64) then (
        k57 x3 A)
      else (
        gd (inb x5 72) (
          ltb ((if (A.2 25 0 o0 x5.toNatClampNeg) < x3 then (A.2 25 0 o0 x5.toNatClampNeg) else x3)) fun x6_2 =>
          gd (inb x5 72) (
            gd (inb x5 72) (
              ltb (wL A 25 0 o0 x5.toNatClampNeg ((A.2 25 0 o0 x5.toNatClampNeg) - x6_2)) fun A_5 =>
              ltb (x3 - x6_2) fun x3_6 =>
              ltb (x5 + (1 : Int32)) fun x5_7 =>
              fX8_payFromLots_L5 o0 k57 n x3_6 x5_7 A_5)))))
def fX8_payFromLots (o : Nat) (x1 : Int64) (A : sM) : Option (Int64 × sM) :=
  fX8_payFromLots_L5 o (fun (x3_1 : Int64) (A_2 : sM) =>
    some (x3_1, A_2)) 10000 x1 (0 : Int32) A
set_option maxRecDepth 20000 in
theorem wX8_payFromLots_L5 {E : eU} {G : gU} {ρ : Nat → Nat → Nat} {V : Nat → Nat → Prop} {Z : sM} {r : Int64} {A' : sM} (o0 : Nat) {k57 : Int64 → sM → Option (Int64 × sM)} (hC : CX E G cX8_payFromLots 8 RX8 (some .long) 2 0 0) (hVC : VC V) (ho0 : V 8 o0) (hk57 : ∀ (x3 : Int64) (A : sM), k57 x3 A = some (r, A') → WA E G ρ V 0 0 (J A Z) 57 [(3, .long x3)] []) : ∀ (n : Nat) (x3 : Int64) (x5 : Int32) (A : sM), fX8_payFromLots_L5 o0 k57 n x3 x5 A = some (r, A') → WA E G ρ V 0 0 (J A Z) 5 [(0, .ref (ρ 8 o0)), (3, .long x3), (5, .int x5)] [] := by
  intro n
  induction n with
  | zero =>
    intro x3 x5 A h
    rw [fX8_payFromLots_L5] at h
    cases h
  | succ n ih =>
    intro x3 x5 A h
    rw [fX8_payFromLots_L5] at h
    refine wa_iload 7 5 hC dX8_payFromLots_5 2 rfl rfl ?_
    refine wa_aload_n 8 0 hC dX8_payFromLots_7 rfl 0 rfl rfl ?_
    refine wa_getR 11 hC ho0 (sr8_8 _) flX8_19 dX8_payFromLots_8 rfl ?_
    refine wa_alen 12 hC (vc25 hVC ho0) (a := 1) (by decide) rfl len_72 dX8_payFromLots_11 rfl ?_
    refine wa_icmp_ge 15 57 hC dX8_payFromLots_12 rfl rfl h (fun h => ?_) (fun h => ?_)
    · refine wa_pick [1] rfl ?_
      exact hk57 x3 A h
    · refine wa_lload_n 16 3 hC dX8_payFromLots_15 rfl 1 rfl rfl ?_
      refine wa_lconst 17 hC dX8_payFromLots_16 kl_0 rfl ?_
      refine wa_lcmp 18 hC dX8_payFromLots_17 rfl ?_
      refine wa_lcmp_le 21 57 hC dX8_payFromLots_18 rfl rfl h (fun h => ?_) (fun h => ?_)
      · refine wa_pick [1] rfl ?_
        exact hk57 x3 A h
      · refine wa_lload_n 22 3 hC dX8_payFromLots_21 rfl 1 rfl rfl ?_
        refine wa_aload_n 23 0 hC dX8_payFromLots_22 rfl 0 rfl rfl ?_
        refine wa_getR 26 hC ho0 (sr8_8 _) flX8_19 dX8_payFromLots_23 rfl ?_
        refine wa_iload 28 5 hC dX8_payFromLots_26 2 rfl rfl ?_
        obtain ⟨g_1, h⟩ := gd_some h
        refine wa_laldc 29 hC (vc25 hVC ho0) ar25 rfl g_1 dX8_payFromLots_28 rfl ?_
        refine wa_mmin_long 32 hC maX8_63 (by decide) (Nat.le_of_ble_eq_true rfl) dX8_payFromLots_29 rfl le00 ?_
        obtain ⟨x6_2, ex6_2, h⟩ := ltb_some h
        refine wa_lstore (lv' := [(6, .long x6_2), (0, .ref (ρ 8 o0)), (3, .long x3), (5, .int x5)]) 34 6 hC dX8_payFromLots_32 ex6_2 (by decide) rfl rfl ?_
        refine wa_aload_n 35 0 hC dX8_payFromLots_34 rfl 1 rfl rfl ?_
        refine wa_getR 38 hC ho0 (sr8_8 _) flX8_19 dX8_payFromLots_35 rfl ?_
        refine wa_iload 40 5 hC dX8_payFromLots_38 3 rfl rfl ?_
        refine wa_dup2 41 hC dX8_payFromLots_40 rfl rfl rfl ?_
        obtain ⟨g_3, h⟩ := gd_some h
        refine wa_laldc 42 hC (vc25 hVC ho0) ar25 rfl g_3 dX8_payFromLots_41 rfl ?_
        refine wa_lload 44 6 hC dX8_payFromLots_42 0 rfl rfl ?_
        refine wa_lsub 45 hC dX8_payFromLots_44 rfl ?_
        obtain ⟨g_4, h⟩ := gd_some h
        obtain ⟨A_5, eA_5, h⟩ := ltb_some h
        refine wa_lastc 46 hC (vc25 hVC ho0) ar25 rfl g_4 eA_5 dX8_payFromLots_45 rfl ?_
        refine wa_lload_n 47 3 hC dX8_payFromLots_46 rfl 2 rfl rfl ?_
        refine wa_lload 49 6 hC dX8_payFromLots_47 0 rfl rfl ?_
        refine wa_lsub 50 hC dX8_payFromLots_49 rfl ?_
        obtain ⟨x3_6, ex3_6, h⟩ := ltb_some h
        refine wa_lstore_n (lv' := [(3, .long x3_6), (6, .long x6_2), (0, .ref (ρ 8 o0)), (5, .int x5)]) 51 3 hC dX8_payFromLots_50 rfl ex3_6 (by decide) rfl rfl ?_
        obtain ⟨x5_7, ex5_7, h⟩ := ltb_some h
        refine wa_iinc (lv' := [(5, .int x5_7), (3, .long x3_6), (6, .long x6_2), (0, .ref (ρ 8 o0))]) 54 5 hC dX8_payFromLots_51 3 rfl (by rw [kc_1]; exact ex5_7) (by decide) rfl rfl ?_
        refine wa_goto 5 hC dX8_payFromLots_54 rfl ?_
        refine wa_pick [3, 1, 0] rfl ?_
        exact ih x3_6 x5_7 A_5 h
set_option maxRecDepth 20000 in
theorem tX8_payFromLots (l : Launch) {G : gU} {ρ : Nat → Nat → Nat} {V : Nat → Nat → Prop} {Z : sM} (o : Nat) (x1 : Int64) (A : sM) (_ : VC V) (ho : V 8 o) {r : Int64} {A' : sM} (h : fX8_payFromLots o x1 A = some (r, A')) : MT l yX8_payFromLots cX8_payFromLots 8 (some .long) 2 G ρ V [.ref (ρ 8 o), .long x1] (J A Z) (some (.long r)) (J A' Z) := by
  refine vv_enter (lv := [(0, .ref (ρ 8 o)), (1, .long x1)]) RX8 rfl (by decide) (Nat.le_of_ble_eq_true rfl) rfl ?_
  intro E hE hC hQ hVC
  subst hE
  rw [fX8_payFromLots] at h
  refine wa_lload_n 1 1 hC dX8_payFromLots_0 rfl 1 rfl rfl ?_
  refine wa_lstore_n (lv' := [(3, .long x1), (0, .ref (ρ 8 o)), (1, .long x1)]) 2 3 hC dX8_payFromLots_1 rfl rfl (by decide) rfl rfl ?_
  refine wa_iconst 3 hC dX8_payFromLots_2 kc_0 rfl ?_
  refine wa_istore (lv' := [(5, .int (0 : Int32)), (3, .long x1), (0, .ref (ρ 8 o)), (1, .long x1)]) 5 5 hC dX8_payFromLots_3 rfl (by decide) rfl rfl ?_
  refine wa_pick [2, 1, 0] rfl ?_
  refine wX8_payFromLots_L5 o hC hVC ho (fun x3_1 A_2 h => ?_) 10000 x1 (0 : Int32) A h
  refine wa_lload_n 58 3 hC dX8_payFromLots_57 rfl 0 rfl rfl ?_
  exact wa_lret hC hQ (sm1 h) (jA (sm2 h)) dX8_payFromLots_58
def fX8_payBill (o : Nat) (A : sM) : Option (sM) :=
  ltb (A.2 26 0 o (1 : Int32).toNatClampNeg) fun x1_2 =>
  bd2 (fX8_payFromLots o x1_2 A) fun r_4 A_3 =>
  ltb (wL A_3 26 0 o (4 : Int32).toNatClampNeg ((A_3.2 26 0 o (4 : Int32).toNatClampNeg) + (x1_2 - r_4))) fun A_7 =>
  ltb (wL A_7 26 0 o (2 : Int32).toNatClampNeg ((A_7.2 26 0 o (2 : Int32).toNatClampNeg) + r_4)) fun A_10 =>
  ltb (wL A_10 26 0 o (1 : Int32).toNatClampNeg (0 : Int64)) fun A_12 =>
  some A_12
set_option maxRecDepth 20000 in
theorem tX8_payBill (l : Launch) {G : gU} {ρ : Nat → Nat → Nat} {V : Nat → Nat → Prop} {Z : sM} (o : Nat) (A : sM) (_ : VC V) (ho : V 8 o) {A' : sM} (h : fX8_payBill o A = some A') : MT l yX8_payBill cX8_payBill 5 none 3 G ρ V [.ref (ρ 8 o)] (J A Z) none (J A' Z) := by
  refine vv_enter (lv := [(0, .ref (ρ 8 o))]) RX8 rfl (by decide) (Nat.le_of_ble_eq_true rfl) rfl ?_
  intro E hE hC hQ hVC
  subst hE
  rw [fX8_payBill] at h
  refine wa_aload_n 1 0 hC dX8_payBill_0 rfl 0 rfl rfl ?_
  refine wa_getR 4 hC ho (sr8_9 _) flX8_23 dX8_payBill_1 rfl ?_
  refine wa_iconst 5 hC dX8_payBill_4 kc_1 rfl ?_
  refine wa_laldc 6 hC (vc26 hVC ho) ar26 rfl (by decide) dX8_payBill_5 rfl ?_
  obtain ⟨x1_2, ex1_2, h⟩ := ltb_some h
  refine wa_lstore_n (lv' := [(1, .long x1_2), (0, .ref (ρ 8 o))]) 7 1 hC dX8_payBill_6 rfl ex1_2 (by decide) rfl rfl ?_
  refine wa_aload_n 8 0 hC dX8_payBill_7 rfl 1 rfl rfl ?_
  refine wa_lload_n 9 1 hC dX8_payBill_8 rfl 0 rfl rfl ?_
  obtain ⟨r_4, A_3, e_13, h⟩ := bd2_some h
  refine wa_callVl 12 hC [.long x1_2] [] knX8_payFromLots mvX8_69 (tX8_payFromLots E.2.1 o x1_2 A hVC ho e_13) ho kc8 (Nat.le_of_ble_eq_true rfl) (Nat.le_of_ble_eq_true rfl) rfl (Nat.le_of_ble_eq_true rfl) dX8_payBill_9 rfl le00 rfl ?_
  refine wa_lstore_n (lv' := [(3, .long r_4), (1, .long x1_2), (0, .ref (ρ 8 o))]) 13 3 hC dX8_payBill_12 rfl rfl (by decide) rfl rfl ?_
  refine wa_aload_n 14 0 hC dX8_payBill_13 rfl 2 rfl rfl ?_
  refine wa_getR 17 hC ho (sr8_9 _) flX8_23 dX8_payBill_14 rfl ?_
  refine wa_iconst 18 hC dX8_payBill_17 kc_4 rfl ?_
  refine wa_dup2 19 hC dX8_payBill_18 rfl rfl rfl ?_
  refine wa_laldc 20 hC (vc26 hVC ho) ar26 rfl (by decide) dX8_payBill_19 rfl ?_
  refine wa_lload_n 21 1 hC dX8_payBill_20 rfl 1 rfl rfl ?_
  refine wa_lload_n 22 3 hC dX8_payBill_21 rfl 0 rfl rfl ?_
  refine wa_lsub 23 hC dX8_payBill_22 rfl ?_
  refine wa_ladd 24 hC dX8_payBill_23 rfl ?_
  obtain ⟨A_7, eA_7, h⟩ := ltb_some h
  refine wa_lastc 25 hC (vc26 hVC ho) ar26 rfl (by decide) eA_7 dX8_payBill_24 rfl ?_
  refine wa_aload_n 26 0 hC dX8_payBill_25 rfl 2 rfl rfl ?_
  refine wa_getR 29 hC ho (sr8_9 _) flX8_23 dX8_payBill_26 rfl ?_
  refine wa_iconst 30 hC dX8_payBill_29 kc_2 rfl ?_
  refine wa_dup2 31 hC dX8_payBill_30 rfl rfl rfl ?_
  refine wa_laldc 32 hC (vc26 hVC ho) ar26 rfl (by decide) dX8_payBill_31 rfl ?_
  refine wa_lload_n 33 3 hC dX8_payBill_32 rfl 0 rfl rfl ?_
  refine wa_ladd 34 hC dX8_payBill_33 rfl ?_
  obtain ⟨A_10, eA_10, h⟩ := ltb_some h
  refine wa_lastc 35 hC (vc26 hVC ho) ar26 rfl (by decide) eA_10 dX8_payBill_34 rfl ?_
  refine wa_aload_n 36 0 hC dX8_payBill_35 rfl 2 rfl rfl ?_
  refine wa_getR 39 hC ho (sr8_9 _) flX8_23 dX8_payBill_36 rfl ?_
  refine wa_iconst 40 hC dX8_payBill_39 kc_1 rfl ?_
  refine wa_lconst 41 hC dX8_payBill_40 kl_0 rfl ?_
  obtain ⟨A_12, eA_12, h⟩ := ltb_some h
  refine wa_lastc 42 hC (vc26 hVC ho) ar26 rfl (by decide) eA_12 dX8_payBill_41 rfl ?_
  exact wa_vret hC hQ (jA (sm0 h)) dX8_payBill_42
def fX8_takeExpiredLot (o : Nat) (x1 : Int32) (A : sM) : Option (Int64 × sM) :=
  if x1 < 0 then (
    some ((0 : Int64), A))
  else (
    if x1 < (72 : Int32) then (
      gd (inb x1 72) (
        ltb (A.2 25 0 o x1.toNatClampNeg) fun x2_2 =>
        gd (inb x1 72) (
          ltb (wL A 25 0 o x1.toNatClampNeg (0 : Int64)) fun A_4 =>
          ltb (wL A_4 26 0 o (5 : Int32).toNatClampNeg ((A_4.2 26 0 o (5 : Int32).toNatClampNeg) + x2_2)) fun A_7 =>
          some (x2_2, A_7))))
    else (
      some ((0 : Int64), A)))
set_option maxRecDepth 20000 in
theorem tX8_takeExpiredLot (l : Launch) {G : gU} {ρ : Nat → Nat → Nat} {V : Nat → Nat → Prop} {Z : sM} (o : Nat) (x1 : Int32) (A : sM) (_ : VC V) (ho : V 8 o) {r : Int64} {A' : sM} (h : fX8_takeExpiredLot o x1 A = some (r, A')) : MT l yX8_takeExpiredLot cX8_takeExpiredLot 4 (some .long) 1 G ρ V [.ref (ρ 8 o), .int x1] (J A Z) (some (.long r)) (J A' Z) := by
  refine vv_enter (lv := [(0, .ref (ρ 8 o)), (1, .int x1)]) RX8 rfl (by decide) (Nat.le_of_ble_eq_true rfl) rfl ?_
  intro E hE hC hQ hVC
  subst hE
  rw [fX8_takeExpiredLot] at h
  refine wa_iload_n 1 1 hC dX8_takeExpiredLot_0 rfl 1 rfl rfl ?_
  refine wa_if_lt 4 13 hC dX8_takeExpiredLot_1 rfl rfl h (fun h => ?_) (fun h => ?_)
  · refine wa_lconst 14 hC dX8_takeExpiredLot_13 kl_0 rfl ?_
    exact wa_lret hC hQ (sm1 h) (jA (sm2 h)) dX8_takeExpiredLot_14
  · refine wa_iload_n 5 1 hC dX8_takeExpiredLot_4 rfl 1 rfl rfl ?_
    refine wa_aload_n 6 0 hC dX8_takeExpiredLot_5 rfl 0 rfl rfl ?_
    refine wa_getR 9 hC ho (sr8_8 _) flX8_19 dX8_takeExpiredLot_6 rfl ?_
    refine wa_alen 10 hC (vc25 hVC ho) (a := 1) (by decide) rfl len_72 dX8_takeExpiredLot_9 rfl ?_
    refine wa_icmp_lt 13 15 hC dX8_takeExpiredLot_10 rfl rfl h (fun h => ?_) (fun h => ?_)
    · refine wa_aload_n 16 0 hC dX8_takeExpiredLot_15 rfl 0 rfl rfl ?_
      refine wa_getR 19 hC ho (sr8_8 _) flX8_19 dX8_takeExpiredLot_16 rfl ?_
      refine wa_iload_n 20 1 hC dX8_takeExpiredLot_19 rfl 1 rfl rfl ?_
      obtain ⟨g_1, h⟩ := gd_some h
      refine wa_laldc 21 hC (vc25 hVC ho) ar25 rfl g_1 dX8_takeExpiredLot_20 rfl ?_
      obtain ⟨x2_2, ex2_2, h⟩ := ltb_some h
      refine wa_lstore_n (lv' := [(2, .long x2_2), (0, .ref (ρ 8 o)), (1, .int x1)]) 22 2 hC dX8_takeExpiredLot_21 rfl ex2_2 (by decide) rfl rfl ?_
      refine wa_aload_n 23 0 hC dX8_takeExpiredLot_22 rfl 1 rfl rfl ?_
      refine wa_getR 26 hC ho (sr8_8 _) flX8_19 dX8_takeExpiredLot_23 rfl ?_
      refine wa_iload_n 27 1 hC dX8_takeExpiredLot_26 rfl 2 rfl rfl ?_
      refine wa_lconst 28 hC dX8_takeExpiredLot_27 kl_0 rfl ?_
      obtain ⟨g_3, h⟩ := gd_some h
      obtain ⟨A_4, eA_4, h⟩ := ltb_some h
      refine wa_lastc 29 hC (vc25 hVC ho) ar25 rfl g_3 eA_4 dX8_takeExpiredLot_28 rfl ?_
      refine wa_aload_n 30 0 hC dX8_takeExpiredLot_29 rfl 1 rfl rfl ?_
      refine wa_getR 33 hC ho (sr8_9 _) flX8_23 dX8_takeExpiredLot_30 rfl ?_
      refine wa_iconst 34 hC dX8_takeExpiredLot_33 kc_5 rfl ?_
      refine wa_dup2 35 hC dX8_takeExpiredLot_34 rfl rfl rfl ?_
      refine wa_laldc 36 hC (vc26 hVC ho) ar26 rfl (by decide) dX8_takeExpiredLot_35 rfl ?_
      refine wa_lload_n 37 2 hC dX8_takeExpiredLot_36 rfl 0 rfl rfl ?_
      refine wa_ladd 38 hC dX8_takeExpiredLot_37 rfl ?_
      obtain ⟨A_7, eA_7, h⟩ := ltb_some h
      refine wa_lastc 39 hC (vc26 hVC ho) ar26 rfl (by decide) eA_7 dX8_takeExpiredLot_38 rfl ?_
      refine wa_lload_n 40 2 hC dX8_takeExpiredLot_39 rfl 0 rfl rfl ?_
      exact wa_lret hC hQ (sm1 h) (jA (sm2 h)) dX8_takeExpiredLot_40
    · refine wa_lconst 14 hC dX8_takeExpiredLot_13 kl_0 rfl ?_
      exact wa_lret hC hQ (sm1 h) (jA (sm2 h)) dX8_takeExpiredLot_14
def fX8_finishMonth (o : Nat) (x1 : Int64) (x3 : Int32) (x4 : Int32) (A : sM) : Option (Int64 × sM) :=
  Option.bind (fX8_takeCredit o x1 x3 A) fun A_1 =>
  Option.bind (fX8_payBill o A_1) fun A_2 =>
  bd2 (fX8_takeExpiredLot o (x3 - x4) A_2) fun r_4 A_3 =>
  some (r_4, A_3)
set_option maxRecDepth 20000 in
theorem tX8_finishMonth (l : Launch) {G : gU} {ρ : Nat → Nat → Nat} {V : Nat → Nat → Prop} {Z : sM} (o : Nat) (x1 : Int64) (x3 : Int32) (x4 : Int32) (A : sM) (_ : VC V) (ho : V 8 o) {r : Int64} {A' : sM} (h : fX8_finishMonth o x1 x3 x4 A = some (r, A')) : MT l yX8_finishMonth cX8_finishMonth 5 (some .long) 4 G ρ V [.ref (ρ 8 o), .long x1, .int x3, .int x4] (J A Z) (some (.long r)) (J A' Z) := by
  refine vv_enter (lv := [(0, .ref (ρ 8 o)), (1, .long x1), (3, .int x3), (4, .int x4)]) RX8 rfl (by decide) (Nat.le_of_ble_eq_true rfl) rfl ?_
  intro E hE hC hQ hVC
  subst hE
  rw [fX8_finishMonth] at h
  refine wa_aload_n 1 0 hC dX8_finishMonth_0 rfl 0 rfl rfl ?_
  refine wa_lload_n 2 1 hC dX8_finishMonth_1 rfl 1 rfl rfl ?_
  refine wa_iload_n 3 3 hC dX8_finishMonth_2 rfl 2 rfl rfl ?_
  obtain ⟨A_1, e_7, h⟩ := bd_some h
  refine wa_callVv 6 hC [.long x1, .int x3] [] knX8_takeCredit mvX8_73 (tX8_takeCredit E.2.1 o x1 x3 A hVC ho e_7) ho kc8 (Nat.le_of_ble_eq_true rfl) (Nat.le_of_ble_eq_true rfl) rfl (Nat.le_of_ble_eq_true rfl) dX8_finishMonth_3 rfl le00 rfl ?_
  refine wa_aload_n 7 0 hC dX8_finishMonth_6 rfl 0 rfl rfl ?_
  obtain ⟨A_2, e_6, h⟩ := bd_some h
  refine wa_callVv 10 hC [] [] knX8_payBill mvX8_77 (tX8_payBill E.2.1 o A_1 hVC ho e_6) ho kc8 (Nat.le_of_ble_eq_true rfl) (Nat.le_of_ble_eq_true rfl) rfl (Nat.le_of_ble_eq_true rfl) dX8_finishMonth_7 rfl le00 rfl ?_
  refine wa_aload_n 11 0 hC dX8_finishMonth_10 rfl 0 rfl rfl ?_
  refine wa_iload_n 12 3 hC dX8_finishMonth_11 rfl 2 rfl rfl ?_
  refine wa_iload 14 4 hC dX8_finishMonth_12 3 rfl rfl ?_
  refine wa_isub 15 hC dX8_finishMonth_14 rfl ?_
  obtain ⟨r_4, A_3, e_5, h⟩ := bd2_some h
  refine wa_callVl 18 hC [.int (x3 - x4)] [] knX8_takeExpiredLot mvX8_80 (tX8_takeExpiredLot E.2.1 o (x3 - x4) A_2 hVC ho e_5) ho kc8 (Nat.le_of_ble_eq_true rfl) (Nat.le_of_ble_eq_true rfl) rfl (Nat.le_of_ble_eq_true rfl) dX8_finishMonth_15 rfl le00 rfl ?_
  exact wa_lret hC hQ (sm1 h) (jA (sm2 h)) dX8_finishMonth_18
def fX8_loseCredit_L11 (o0 : Nat) (k58 : Int64 → sM → Option (sM)) : Nat → Int64 → Int32 → sM → Option (sM)
  | 0, _, _, _ => none
  | n + 1, x3, x5, A =>
    if x5 < 0 then (
      k58 x3 A)
    else (
      if x3 ≤ (0 : Int64) then (
        k58 x3 A)
      else (
        gd (inb x5 72) (
          ltb ((if (A.2 25 0 o0 x5.toNatClampNeg) < x3 then (A.2 25 0 o0 x5.toNatClampNeg) else x3)) fun x6_2 =>
          gd (inb x5 72) (
            gd (inb x5 72) (
              ltb (wL A 25 0 o0 x5.toNatClampNeg ((A.2 25 0 o0 x5.toNatClampNeg) - x6_2)) fun A_5 =>
              ltb (x3 - x6_2) fun x3_6 =>
              ltb (x5 + (-1 : Int32)) fun x5_7 =>
              fX8_loseCredit_L11 o0 k58 n x3_6 x5_7 A_5)))))
def fX8_loseCredit (o : Nat) (x1 : Int64) (A : sM) : Option (sM) :=
  ltb ((72 : Int32) - (1 : Int32)) fun x5_1 =>
  fX8_loseCredit_L11 o (fun (x3_2 : Int64) (A_3 : sM) =>
    ltb (wL A_3 26 0 o (0 : Int32).toNatClampNeg ((A_3.2 26 0 o (0 : Int32).toNatClampNeg) + x3_2)) fun A_6 =>
    some A_6) 10000 x1 x5_1 A
set_option maxRecDepth 20000 in
theorem wX8_loseCredit_L11 {E : eU} {G : gU} {ρ : Nat → Nat → Nat} {V : Nat → Nat → Prop} {Z : sM} {A' : sM} (o0 : Nat) {k58 : Int64 → sM → Option (sM)} (hC : CX E G cX8_loseCredit 8 RX8 none 2 0 0) (hVC : VC V) (ho0 : V 8 o0) (hk58 : ∀ (x3 : Int64) (A : sM), k58 x3 A = some A' → WA E G ρ V 0 0 (J A Z) 58 [(0, .ref (ρ 8 o0)), (3, .long x3)] []) : ∀ (n : Nat) (x3 : Int64) (x5 : Int32) (A : sM), fX8_loseCredit_L11 o0 k58 n x3 x5 A = some A' → WA E G ρ V 0 0 (J A Z) 11 [(0, .ref (ρ 8 o0)), (3, .long x3), (5, .int x5)] [] := by
  intro n
  induction n with
  | zero =>
    intro x3 x5 A h
    rw [fX8_loseCredit_L11] at h
    cases h
  | succ n ih =>
    intro x3 x5 A h
    rw [fX8_loseCredit_L11] at h
    refine wa_iload 13 5 hC dX8_loseCredit_11 2 rfl rfl ?_
    refine wa_if_lt 16 58 hC dX8_loseCredit_13 rfl rfl h (fun h => ?_) (fun h => ?_)
    · refine wa_pick [0, 1] rfl ?_
      exact hk58 x3 A h
    · refine wa_lload_n 17 3 hC dX8_loseCredit_16 rfl 1 rfl rfl ?_
      refine wa_lconst 18 hC dX8_loseCredit_17 kl_0 rfl ?_
      refine wa_lcmp 19 hC dX8_loseCredit_18 rfl ?_
      refine wa_lcmp_le 22 58 hC dX8_loseCredit_19 rfl rfl h (fun h => ?_) (fun h => ?_)
      · refine wa_pick [0, 1] rfl ?_
        exact hk58 x3 A h
      · refine wa_lload_n 23 3 hC dX8_loseCredit_22 rfl 1 rfl rfl ?_
        refine wa_aload_n 24 0 hC dX8_loseCredit_23 rfl 0 rfl rfl ?_
        refine wa_getR 27 hC ho0 (sr8_8 _) flX8_19 dX8_loseCredit_24 rfl ?_
        refine wa_iload 29 5 hC dX8_loseCredit_27 2 rfl rfl ?_
        obtain ⟨g_1, h⟩ := gd_some h
        refine wa_laldc 30 hC (vc25 hVC ho0) ar25 rfl g_1 dX8_loseCredit_29 rfl ?_
        refine wa_mmin_long 33 hC maX8_63 (by decide) (Nat.le_of_ble_eq_true rfl) dX8_loseCredit_30 rfl le00 ?_
        obtain ⟨x6_2, ex6_2, h⟩ := ltb_some h
        refine wa_lstore (lv' := [(6, .long x6_2), (0, .ref (ρ 8 o0)), (3, .long x3), (5, .int x5)]) 35 6 hC dX8_loseCredit_33 ex6_2 (by decide) rfl rfl ?_
        refine wa_aload_n 36 0 hC dX8_loseCredit_35 rfl 1 rfl rfl ?_
        refine wa_getR 39 hC ho0 (sr8_8 _) flX8_19 dX8_loseCredit_36 rfl ?_
        refine wa_iload 41 5 hC dX8_loseCredit_39 3 rfl rfl ?_
        refine wa_dup2 42 hC dX8_loseCredit_41 rfl rfl rfl ?_
        obtain ⟨g_3, h⟩ := gd_some h
        refine wa_laldc 43 hC (vc25 hVC ho0) ar25 rfl g_3 dX8_loseCredit_42 rfl ?_
        refine wa_lload 45 6 hC dX8_loseCredit_43 0 rfl rfl ?_
        refine wa_lsub 46 hC dX8_loseCredit_45 rfl ?_
        obtain ⟨g_4, h⟩ := gd_some h
        obtain ⟨A_5, eA_5, h⟩ := ltb_some h
        refine wa_lastc 47 hC (vc25 hVC ho0) ar25 rfl g_4 eA_5 dX8_loseCredit_46 rfl ?_
        refine wa_lload_n 48 3 hC dX8_loseCredit_47 rfl 2 rfl rfl ?_
        refine wa_lload 50 6 hC dX8_loseCredit_48 0 rfl rfl ?_
        refine wa_lsub 51 hC dX8_loseCredit_50 rfl ?_
        obtain ⟨x3_6, ex3_6, h⟩ := ltb_some h
        refine wa_lstore_n (lv' := [(3, .long x3_6), (6, .long x6_2), (0, .ref (ρ 8 o0)), (5, .int x5)]) 52 3 hC dX8_loseCredit_51 rfl ex3_6 (by decide) rfl rfl ?_
        obtain ⟨x5_7, ex5_7, h⟩ := ltb_some h
        refine wa_iinc (lv' := [(5, .int x5_7), (3, .long x3_6), (6, .long x6_2), (0, .ref (ρ 8 o0))]) 55 5 hC dX8_loseCredit_52 3 rfl (by rw [kc_m1]; exact ex5_7) (by decide) rfl rfl ?_
        refine wa_goto 11 hC dX8_loseCredit_55 rfl ?_
        refine wa_pick [3, 1, 0] rfl ?_
        exact ih x3_6 x5_7 A_5 h
set_option maxRecDepth 20000 in
theorem tX8_loseCredit (l : Launch) {G : gU} {ρ : Nat → Nat → Nat} {V : Nat → Nat → Prop} {Z : sM} (o : Nat) (x1 : Int64) (A : sM) (_ : VC V) (ho : V 8 o) {A' : sM} (h : fX8_loseCredit o x1 A = some A') : MT l yX8_loseCredit cX8_loseCredit 8 none 2 G ρ V [.ref (ρ 8 o), .long x1] (J A Z) none (J A' Z) := by
  refine vv_enter (lv := [(0, .ref (ρ 8 o)), (1, .long x1)]) RX8 rfl (by decide) (Nat.le_of_ble_eq_true rfl) rfl ?_
  intro E hE hC hQ hVC
  subst hE
  rw [fX8_loseCredit] at h
  refine wa_lload_n 1 1 hC dX8_loseCredit_0 rfl 1 rfl rfl ?_
  refine wa_lstore_n (lv' := [(3, .long x1), (0, .ref (ρ 8 o)), (1, .long x1)]) 2 3 hC dX8_loseCredit_1 rfl rfl (by decide) rfl rfl ?_
  refine wa_aload_n 3 0 hC dX8_loseCredit_2 rfl 1 rfl rfl ?_
  refine wa_getR 6 hC ho (sr8_8 _) flX8_19 dX8_loseCredit_3 rfl ?_
  refine wa_alen 7 hC (vc25 hVC ho) (a := 1) (by decide) rfl len_72 dX8_loseCredit_6 rfl ?_
  refine wa_iconst 8 hC dX8_loseCredit_7 kc_1 rfl ?_
  refine wa_isub 9 hC dX8_loseCredit_8 rfl ?_
  obtain ⟨x5_1, ex5_1, h⟩ := ltb_some h
  refine wa_istore (lv' := [(5, .int x5_1), (3, .long x1), (0, .ref (ρ 8 o)), (1, .long x1)]) 11 5 hC dX8_loseCredit_9 ex5_1 (by decide) rfl rfl ?_
  refine wa_pick [2, 1, 0] rfl ?_
  refine wX8_loseCredit_L11 o hC hVC ho (fun x3_2 A_3 h => ?_) 10000 x1 x5_1 A h
  refine wa_aload_n 59 0 hC dX8_loseCredit_58 rfl 0 rfl rfl ?_
  refine wa_getR 62 hC ho (sr8_9 _) flX8_23 dX8_loseCredit_59 rfl ?_
  refine wa_iconst 63 hC dX8_loseCredit_62 kc_0 rfl ?_
  refine wa_dup2 64 hC dX8_loseCredit_63 rfl rfl rfl ?_
  refine wa_laldc 65 hC (vc26 hVC ho) ar26 rfl (by decide) dX8_loseCredit_64 rfl ?_
  refine wa_lload_n 66 3 hC dX8_loseCredit_65 rfl 1 rfl rfl ?_
  refine wa_ladd 67 hC dX8_loseCredit_66 rfl ?_
  obtain ⟨A_6, eA_6, h⟩ := ltb_some h
  refine wa_lastc 68 hC (vc26 hVC ho) ar26 rfl (by decide) eA_6 dX8_loseCredit_67 rfl ?_
  exact wa_vret hC hQ (jA (sm0 h)) dX8_loseCredit_68
