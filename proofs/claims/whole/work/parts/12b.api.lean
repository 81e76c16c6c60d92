set_option maxRecDepth 20000 in
theorem tX9_append (l : Launch) (hl9 : l.stackTraces = false) {G : gU} {ρ : Nat → Nat → Nat} {V : Nat → Nat → Prop} {Z : sM} (x1 : Int32) (x2 : Int32) (x3 : Int32) (x4 : Int32) (x5 : Int32) (A : sM) (_ : VC V) {r : Nat ⊕ Int32} {A' : sM} (h : fX9_append x1 x2 x3 x4 x5 A = some (r, A')) : MX l yX9_append cX9_append 6 (some .int) 8 90 3000 G ρ V [.ref (ρ 9 0), .int x1, .int x2, .int x3, .int x4, .int x5] (J A Z) (rI r) (J A' Z) := by
  refine vx_enter (lv := [(0, .ref (ρ 9 0)), (1, .int x1), (2, .int x2), (3, .int x3), (4, .int x4), (5, .int x5)]) RX9 rfl (by decide) (Nat.le_of_ble_eq_true rfl) rfl ?_
  intro E hE1 hC hQ hT9 hVC
  subst hE1
  have hQ : QXX E G ρ V (rI r) (J A' Z) 90 3000 := hQ
  have hE : Ext ρ V ρ V := Ext.rfl
  rw [fX9_append] at h
  refine wa_aload_n 1 0 hC dX9_append_0 rfl 0 rfl rfl ?_
  refine wa_getR 4 hC (vs9 hVC) (sr9_2 _) flX9_26 dX9_append_1 rfl ?_
  refine wa_bipush 6 hC dX9_append_4 kb_20 rfl ?_
  obtain ⟨r_1, e_12, h⟩ := bd_some h
  refine wa_callVi 9 hC [.int (20 : Int32)] [] knX5_hasRoomFor mvX9_62 (tX5_hasRoomFor E.2.1 (20 : Int32) A hVC e_12) (vs5 hVC) kc5 (Nat.le_of_ble_eq_true rfl) (Nat.le_of_ble_eq_true rfl) rfl (Nat.le_of_ble_eq_true rfl) dX9_append_6 rfl (by decide) rfl ?_
  refine wa_if_ne 12 22 hC dX9_append_9 rfl rfl h (fun h => ?_) (fun h => ?_)
  · refine wa_aload_n 23 0 hC dX9_append_22 rfl 0 rfl rfl ?_
    refine wa_getR 26 hC (vs9 hVC) (sr9_2 _) flX9_26 dX9_append_23 rfl ?_
    refine wa_iload_n 27 1 hC dX9_append_26 rfl 1 rfl rfl ?_
    obtain ⟨A_2, e_11, h⟩ := bd_some h
    refine wa_callVv 30 hC [.int x1] [] knX5_addWord mvX9_73 (tX5_addWord E.2.1 x1 A hVC e_11) (vs5 hVC) kc5 (Nat.le_of_ble_eq_true rfl) (Nat.le_of_ble_eq_true rfl) rfl (Nat.le_of_ble_eq_true rfl) dX9_append_27 rfl (by decide) rfl ?_
    refine wa_aload_n 31 0 hC dX9_append_30 rfl 0 rfl rfl ?_
    refine wa_getR 34 hC (vs9 hVC) (sr9_2 _) flX9_26 dX9_append_31 rfl ?_
    refine wa_iload_n 35 2 hC dX9_append_34 rfl 2 rfl rfl ?_
    obtain ⟨A_3, e_10, h⟩ := bd_some h
    refine wa_callVv 38 hC [.int x2] [] knX5_addWord mvX9_73 (tX5_addWord E.2.1 x2 A_2 hVC e_10) (vs5 hVC) kc5 (Nat.le_of_ble_eq_true rfl) (Nat.le_of_ble_eq_true rfl) rfl (Nat.le_of_ble_eq_true rfl) dX9_append_35 rfl (by decide) rfl ?_
    refine wa_aload_n 39 0 hC dX9_append_38 rfl 0 rfl rfl ?_
    refine wa_getR 42 hC (vs9 hVC) (sr9_2 _) flX9_26 dX9_append_39 rfl ?_
    refine wa_iload_n 43 3 hC dX9_append_42 rfl 3 rfl rfl ?_
    obtain ⟨A_4, e_9, h⟩ := bd_some h
    refine wa_callVv 46 hC [.int x3] [] knX5_addWord mvX9_73 (tX5_addWord E.2.1 x3 A_3 hVC e_9) (vs5 hVC) kc5 (Nat.le_of_ble_eq_true rfl) (Nat.le_of_ble_eq_true rfl) rfl (Nat.le_of_ble_eq_true rfl) dX9_append_43 rfl (by decide) rfl ?_
    refine wa_aload_n 47 0 hC dX9_append_46 rfl 0 rfl rfl ?_
    refine wa_getR 50 hC (vs9 hVC) (sr9_2 _) flX9_26 dX9_append_47 rfl ?_
    refine wa_iload 52 4 hC dX9_append_50 4 rfl rfl ?_
    obtain ⟨A_5, e_8, h⟩ := bd_some h
    refine wa_callVv 55 hC [.int x4] [] knX5_addWord mvX9_73 (tX5_addWord E.2.1 x4 A_4 hVC e_8) (vs5 hVC) kc5 (Nat.le_of_ble_eq_true rfl) (Nat.le_of_ble_eq_true rfl) rfl (Nat.le_of_ble_eq_true rfl) dX9_append_52 rfl (by decide) rfl ?_
    refine wa_aload_n 56 0 hC dX9_append_55 rfl 0 rfl rfl ?_
    refine wa_getR 59 hC (vs9 hVC) (sr9_2 _) flX9_26 dX9_append_56 rfl ?_
    refine wa_iload 61 5 hC dX9_append_59 5 rfl rfl ?_
    obtain ⟨A_6, e_7, h⟩ := bd_some h
    refine wa_callVv 64 hC [.int x5] [] knX5_addWord mvX9_73 (tX5_addWord E.2.1 x5 A_5 hVC e_7) (vs5 hVC) kc5 (Nat.le_of_ble_eq_true rfl) (Nat.le_of_ble_eq_true rfl) rfl (Nat.le_of_ble_eq_true rfl) dX9_append_61 rfl (by decide) rfl ?_
    refine wa_aload_n 65 0 hC dX9_append_64 rfl 0 rfl rfl ?_
    refine wa_getR 68 hC (vs9 hVC) (sr9_2 _) flX9_26 dX9_append_65 rfl ?_
    refine wa_getIc 71 hC (vs5 hVC) sh5_1 rfl flX9_77 dX9_append_68 rfl ?_
    exact wx_iret hC hQ hE (xI h) (jA (sm2 h)) (by decide) dX9_append_71
  · exact wx_throw (st := []) (ix := 0) (is := 68) (n9 := 2) hC hl9 hT9 hQ hE (xTI h) (jA (sm2 h)) xw_IllegalStateException rfl (by decide) rfl rfl (by decide) (by decide) (Nat.le_of_ble_eq_true rfl) dX9_append_12 dX9_append_15 dX9_append_16 dX9_append_18 dX9_append_21
set_option maxRecDepth 20000 in
theorem tX9_load (l : Launch) (hl9 : l.stackTraces = false) {G : gU} {ρ : Nat → Nat → Nat} {V : Nat → Nat → Prop} {Z : sM} (x1 : Int32) (A : sM) (_ : VC V) {r : Nat ⊕ Int32} {A' : sM} (h : fX9_load x1 A = some (r, A')) : MX l yX9_load cX9_load 3 (some .int) 11 90 3000 G ρ V [.ref (ρ 9 0), .int x1] (J A Z) (rI r) (J A' Z) := by
  refine vx_enter (lv := [(0, .ref (ρ 9 0)), (1, .int x1)]) RX9 rfl (by decide) (Nat.le_of_ble_eq_true rfl) rfl ?_
  intro E hE1 hC hQ hT9 hVC
  subst hE1
  have hQ : QXX E G ρ V (rI r) (J A' Z) 90 3000 := hQ
  have hE : Ext ρ V ρ V := Ext.rfl
  rw [fX9_load] at h
  refine wa_iload_n 1 1 hC dX9_load_0 rfl 1 rfl rfl ?_
  refine wa_if_lt 4 15 hC dX9_load_1 rfl rfl h (fun h => ?_) (fun h => ?_)
  · exact wx_throw (st := []) (ix := 1) (is := 82) (n9 := 1) hC hl9 hT9 hQ hE (xTI h) (jA (sm2 h)) xw_IllegalArgumentException rfl (by decide) rfl rfl (by decide) (by decide) (Nat.le_of_ble_eq_true rfl) dX9_load_15 dX9_load_18 dX9_load_19 dX9_load_21 dX9_load_24
  · refine wa_iload_n 5 1 hC dX9_load_4 rfl 1 rfl rfl ?_
    refine wa_aload_n 6 0 hC dX9_load_5 rfl 0 rfl rfl ?_
    refine wa_getR 9 hC (vs9 hVC) (sr9_2 _) flX9_26 dX9_load_6 rfl ?_
    refine wa_getIc 12 hC (vs5 hVC) sh5_1 rfl flX9_77 dX9_load_9 rfl ?_
    refine wa_icmp_le 15 25 hC dX9_load_12 rfl rfl h (fun h => ?_) (fun h => ?_)
    · refine wa_aload_n 26 0 hC dX9_load_25 rfl 0 rfl rfl ?_
      refine wa_getR 29 hC (vs9 hVC) (sr9_2 _) flX9_26 dX9_load_26 rfl ?_
      refine wa_iload_n 30 1 hC dX9_load_29 rfl 1 rfl rfl ?_
      obtain ⟨r_2, A_1, e_9, h⟩ := bd2_some h
      refine wa_callVi 33 hC [.int x1] [] knX5_read mvX9_85 (tX5_read E.2.1 x1 A hVC e_9) (vs5 hVC) kc5 (Nat.le_of_ble_eq_true rfl) (Nat.le_of_ble_eq_true rfl) rfl (Nat.le_of_ble_eq_true rfl) dX9_load_30 rfl (by decide) rfl ?_
      refine wa_istore_n (lv' := [(2, .int r_2), (0, .ref (ρ 9 0)), (1, .int x1)]) 34 2 hC dX9_load_33 rfl rfl (by decide) rfl rfl ?_
      refine wa_iload_n 35 2 hC dX9_load_34 rfl 0 rfl rfl ?_
      refine wa_if_eq 38 51 hC dX9_load_35 rfl rfl h (fun h => ?_) (fun h => ?_)
      · refine wa_aload_n 52 0 hC dX9_load_51 rfl 1 rfl rfl ?_
        refine wa_iconst 53 hC dX9_load_52 kc_m1 rfl ?_
        obtain ⟨A_3, eA_3, h⟩ := ltb_some h
        refine wa_putIc 56 hC (vs9 hVC) nk9 eA_3 sh9_7 rfl fpX9_58 dX9_load_53 rfl ?_
        refine wa_aload_n 57 0 hC dX9_load_56 rfl 1 rfl rfl ?_
        refine wa_getR 60 hC (vs9 hVC) (sr9_1 _) flX9_19 dX9_load_57 rfl ?_
        refine wa_aload_n 61 0 hC dX9_load_60 rfl 1 rfl rfl ?_
        refine wa_getR 64 hC (vs9 hVC) (sr9_0 _) flX9_12 dX9_load_61 rfl ?_
        obtain ⟨A_4, e_5, h⟩ := bd_some h
        have key : ∀ (ρ1 : Nat → Nat → Nat) (V1 : Nat → Nat → Prop), Ext ρ V ρ1 V1 → VC V1 → WA E G ρ1 V1 72 2909 (J A_4 Z) 67 [(2, .int r_2), (0, .ref (ρ1 9 0)), (1, .int x1)] [] := by
          intro ρ V hE0 hVC
          have hE := Ext.trans hE hE0
          refine wa_aload_n 68 0 hC dX9_load_67 rfl 1 rfl rfl ?_
          refine wa_getR 71 hC (vs9 hVC) (sr9_0 _) flX9_12 dX9_load_68 rfl ?_
          refine wa_aload_n 72 0 hC dX9_load_71 rfl 1 rfl rfl ?_
          refine wa_getR 75 hC (vs9 hVC) (sr9_2 _) flX9_26 dX9_load_72 rfl ?_
          refine wa_getR 78 hC (vs5 hVC) (sr5_5 _) flX9_96 dX9_load_75 rfl ?_
          obtain ⟨A_6, e_7, h⟩ := bd_some h
          refine wa_callVv 81 hC [.ref (ρ 4 7)] [] knX0_beginWith mvX9_100 (tX0_beginWith E.2.1 0 7 A_4 hVC hVC.2.2.2.2.2.1 hVC.2.2.2.2.2.2.1 e_7) hVC.2.2.2.2.2.1 kc0 (Nat.le_of_ble_eq_true rfl) (Nat.le_of_ble_eq_true rfl) rfl (Nat.le_of_ble_eq_true rfl) dX9_load_78 rfl (by decide) rfl ?_
          refine wa_aload_n 82 0 hC dX9_load_81 rfl 1 rfl rfl ?_
          refine wa_getR 85 hC (vs9 hVC) (sr9_0 _) flX9_12 dX9_load_82 rfl ?_
          refine wa_getR 88 hC hVC.2.2.2.2.2.1 (sr0_0 _) flX9_104 dX9_load_85 rfl ?_
          refine wa_getIc 91 hC (vc4 hVC hVC.2.2.2.2.2.1) sh4_4 rfl flX9_105 dX9_load_88 rfl ?_
          exact wx_iret hC hQ hE (xI h) (jA (sm2 h)) (by decide) dX9_load_91
        refine wx_keep 67 hC [.ref (ρ 0 0)] [] knX6_keep mvX9_92 (tX6_keep E.2.1 A_3 hVC e_5) (vs6 hVC) kc6 (Nat.le_of_ble_eq_true rfl) (Nat.le_of_ble_eq_true rfl) rfl (Nat.le_of_ble_eq_true rfl) dX9_load_64 rfl (by decide) rfl (fun ρ1 V1 hE9 hVC9 => ?_)
        rw [← (hE9 9 0 (vs9 hVC)).2]
        exact key ρ1 V1 hE9 hVC9
      · refine wa_aload_n 39 0 hC dX9_load_38 rfl 1 rfl rfl ?_
        refine wa_aload_n 40 0 hC dX9_load_39 rfl 1 rfl rfl ?_
        refine wa_getR 43 hC (vs9 hVC) (sr9_2 _) flX9_26 dX9_load_40 rfl ?_
        refine wa_getIc 46 hC (vs5 hVC) sh5_3 rfl flX9_89 dX9_load_43 rfl ?_
        obtain ⟨A_8, eA_8, h⟩ := ltb_some h
        refine wa_putIc 49 hC (vs9 hVC) nk9 eA_8 sh9_7 rfl fpX9_58 dX9_load_46 rfl ?_
        refine wa_iload_n 50 2 hC dX9_load_49 rfl 0 rfl rfl ?_
        exact wx_iret hC hQ hE (xI h) (jA (sm2 h)) (by decide) dX9_load_50
    · exact wx_throw (st := []) (ix := 1) (is := 82) (n9 := 1) hC hl9 hT9 hQ hE (xTI h) (jA (sm2 h)) xw_IllegalArgumentException rfl (by decide) rfl rfl (by decide) (by decide) (Nat.le_of_ble_eq_true rfl) dX9_load_15 dX9_load_18 dX9_load_19 dX9_load_21 dX9_load_24
set_option maxRecDepth 20000 in
theorem tX9_setting (l : Launch) (hl9 : l.stackTraces = false) {G : gU} {ρ : Nat → Nat → Nat} {V : Nat → Nat → Prop} {Z : sM} (x1 : Int32) (A : sM) (_ : VC V) {r : Nat ⊕ Int32} {A' : sM} (h : fX9_setting x1 A = some (r, A')) : MX l yX9_setting cX9_setting 3 (some .int) 8 90 3000 G ρ V [.ref (ρ 9 0), .int x1] (J A Z) (rI r) (J A' Z) := by
  refine vx_enter (lv := [(0, .ref (ρ 9 0)), (1, .int x1)]) RX9 rfl (by decide) (Nat.le_of_ble_eq_true rfl) rfl ?_
  intro E hE1 hC hQ hT9 hVC
  subst hE1
  have hQ : QXX E G ρ V (rI r) (J A' Z) 90 3000 := hQ
  have hE : Ext ρ V ρ V := Ext.rfl
  rw [fX9_setting] at h
  refine wa_aload_n 1 0 hC dX9_setting_0 rfl 0 rfl rfl ?_
  refine wa_getR 4 hC (vs9 hVC) (sr9_0 _) flX9_12 dX9_setting_1 rfl ?_
  refine wa_getR 7 hC hVC.2.2.2.2.2.1 (sr0_0 _) flX9_104 dX9_setting_4 rfl ?_
  refine wa_astore_n (lv' := [(2, .ref (ρ 4 0)), (0, .ref (ρ 9 0)), (1, .int x1)]) 8 2 hC dX9_setting_7 rfl rfl (by decide) rfl rfl ?_
  refine wa_iload_n 9 1 hC dX9_setting_8 rfl 2 rfl rfl ?_
  by_cases c0 : x1 = (0 : Int32)
  · rw [if_pos c0] at h
    refine wa_tsIn 48 hC dX9_setting_9 c0 (by decide) (by decide) rfl rfl ?_
    refine wa_aload_n 49 2 hC dX9_setting_48 rfl 0 rfl rfl ?_
    refine wa_getIc 52 hC (vc4 hVC hVC.2.2.2.2.2.1) sh4_0 rfl flX9_110 dX9_setting_49 rfl ?_
    exact wx_iret hC hQ hE (xI h) (jA (sm2 h)) (by decide) dX9_setting_52
  rw [if_neg c0] at h
  by_cases c1 : x1 = (1 : Int32)
  · rw [if_pos c1] at h
    refine wa_tsIn 53 hC dX9_setting_9 c1 (by decide) (by decide) rfl rfl ?_
    refine wa_aload_n 54 2 hC dX9_setting_53 rfl 0 rfl rfl ?_
    refine wa_getIc 57 hC (vc4 hVC hVC.2.2.2.2.2.1) sh4_1 rfl flX9_113 dX9_setting_54 rfl ?_
    exact wx_iret hC hQ hE (xI h) (jA (sm2 h)) (by decide) dX9_setting_57
  rw [if_neg c1] at h
  by_cases c2 : x1 = (2 : Int32)
  · rw [if_pos c2] at h
    refine wa_tsIn 58 hC dX9_setting_9 c2 (by decide) (by decide) rfl rfl ?_
    refine wa_aload_n 59 2 hC dX9_setting_58 rfl 0 rfl rfl ?_
    refine wa_getIc 62 hC (vc4 hVC hVC.2.2.2.2.2.1) sh4_2 rfl flX9_116 dX9_setting_59 rfl ?_
    exact wx_iret hC hQ hE (xI h) (jA (sm2 h)) (by decide) dX9_setting_62
  rw [if_neg c2] at h
  by_cases c3 : x1 = (3 : Int32)
  · rw [if_pos c3] at h
    refine wa_tsIn 63 hC dX9_setting_9 c3 (by decide) (by decide) rfl rfl ?_
    refine wa_aload_n 64 2 hC dX9_setting_63 rfl 0 rfl rfl ?_
    refine wa_getIc 67 hC (vc4 hVC hVC.2.2.2.2.2.1) sh4_3 rfl flX9_119 dX9_setting_64 rfl ?_
    exact wx_iret hC hQ hE (xI h) (jA (sm2 h)) (by decide) dX9_setting_67
  rw [if_neg c3] at h
  by_cases c4 : x1 = (4 : Int32)
  · rw [if_pos c4] at h
    refine wa_tsIn 68 hC dX9_setting_9 c4 (by decide) (by decide) rfl rfl ?_
    refine wa_aload_n 69 2 hC dX9_setting_68 rfl 0 rfl rfl ?_
    refine wa_getIc 72 hC (vc4 hVC hVC.2.2.2.2.2.1) sh4_4 rfl flX9_105 dX9_setting_69 rfl ?_
    exact wx_iret hC hQ hE (xI h) (jA (sm2 h)) (by decide) dX9_setting_72
  rw [if_neg c4] at h
  by_cases c5 : x1 = (5 : Int32)
  · rw [if_pos c5] at h
    refine wa_tsIn 73 hC dX9_setting_9 c5 (by decide) (by decide) rfl rfl ?_
    refine wa_aload_n 74 2 hC dX9_setting_73 rfl 0 rfl rfl ?_
    obtain ⟨r_1, e_2, h⟩ := bd_some h
    refine wa_callVi 77 hC [] [] knX4_greatestHolding mvX9_122 (tX4_greatestHolding E.2.1 0 A hVC (vc4 hVC hVC.2.2.2.2.2.1) e_2) (vc4 hVC hVC.2.2.2.2.2.1) kc4 (Nat.le_of_ble_eq_true rfl) (Nat.le_of_ble_eq_true rfl) rfl (Nat.le_of_ble_eq_true rfl) dX9_setting_74 rfl (by decide) rfl ?_
    exact wx_iret hC hQ hE (xI h) (jA (sm2 h)) (by decide) dX9_setting_77
  rw [if_neg c5] at h
  refine wa_tsOut 78 hC dX9_setting_9 (ts_out6 c0 c1 c2 c3 c4 c5) rfl ?_
  exact wx_throw (st := []) (ix := 5) (is := 126) (n9 := 1) hC hl9 hT9 hQ hE (xTI h) (jA (sm2 h)) xw_IllegalArgumentException rfl (by decide) rfl rfl (by decide) (by decide) (Nat.le_of_ble_eq_true rfl) dX9_setting_78 dX9_setting_81 dX9_setting_82 dX9_setting_84 dX9_setting_87
set_option maxRecDepth 20000 in
theorem tX9_periodOf (l : Launch) (hl9 : l.stackTraces = false) {G : gU} {ρ : Nat → Nat → Nat} {V : Nat → Nat → Prop} {Z : sM} (x1 : Int32) (A : sM) (_ : VC V) {r : Nat ⊕ Int32} {A' : sM} (h : fX9_periodOf x1 A = some (r, A')) : MX l yX9_periodOf cX9_periodOf 2 (some .int) 9 90 3000 G ρ V [.ref (ρ 9 0), .int x1] (J A Z) (rI r) (J A' Z) := by
  refine vx_enter (lv := [(0, .ref (ρ 9 0)), (1, .int x1)]) RX9 rfl (by decide) (Nat.le_of_ble_eq_true rfl) rfl ?_
  intro E hE1 hC hQ hT9 hVC
  subst hE1
  have hQ : QXX E G ρ V (rI r) (J A' Z) 90 3000 := hQ
  have hE : Ext ρ V ρ V := Ext.rfl
  rw [fX9_periodOf] at h
  refine wa_aload_n 1 0 hC dX9_periodOf_0 rfl 0 rfl rfl ?_
  refine wa_iload_n 2 1 hC dX9_periodOf_1 rfl 1 rfl rfl ?_
  rcases rq_some h with ⟨e_2, h⟩ | ⟨n9, e_2, h⟩
  rotate_left
  · exact wx_reqThrow hC [.int x1] [] knX9_requireHour mwX9_128 (tX9_requireHour E.2.1 hl9 x1 A hVC e_2) (vs9 hVC) kc9 (Nat.le_of_ble_eq_true rfl) (Nat.le_of_ble_eq_true rfl) rfl (Nat.le_of_ble_eq_true rfl) dX9_periodOf_2 hT9 hQ hE (xTI h) (jA (sm2 h)) (by decide) rfl
  refine wx_reqOK 5 hC [.int x1] [] knX9_requireHour mwX9_128 (tX9_requireHour E.2.1 hl9 x1 A hVC e_2) (vs9 hVC) kc9 (Nat.le_of_ble_eq_true rfl) (Nat.le_of_ble_eq_true rfl) rfl (Nat.le_of_ble_eq_true rfl) dX9_periodOf_2 rfl (by decide) rfl ?_
  refine wa_aload_n 6 0 hC dX9_periodOf_5 rfl 0 rfl rfl ?_
  refine wa_getR 9 hC (vs9 hVC) (sr9_0 _) flX9_12 dX9_periodOf_6 rfl ?_
  refine wa_getR 12 hC hVC.2.2.2.2.2.1 (sr0_0 _) flX9_104 dX9_periodOf_9 rfl ?_
  refine wa_getR 15 hC (vc4 hVC hVC.2.2.2.2.2.1) (sr4_6 _) flX9_131 dX9_periodOf_12 rfl ?_
  refine wa_iload_n 16 1 hC dX9_periodOf_15 rfl 1 rfl rfl ?_
  obtain ⟨g_1, h⟩ := gd_some h
  refine wa_ialdc 17 hC (vc19 hVC (vc4 hVC hVC.2.2.2.2.2.1)) ar19 rfl g_1 dX9_periodOf_16 rfl ?_
  exact wx_iret hC hQ hE (xI h) (jA (sm2 h)) (by decide) dX9_periodOf_17
set_option maxRecDepth 20000 in
theorem tX9_join (l : Launch) (hl9 : l.stackTraces = false) {G : gU} {ρ : Nat → Nat → Nat} {V : Nat → Nat → Prop} {Z : sM} (x1 : Int32) (x2 : Int32) (x3 : Int32) (A : sM) (_ : VC V) {r : Nat ⊕ Int32} {A' : sM} (h : fX9_join x1 x2 x3 A = some (r, A')) : MX l yX9_join cX9_join 4 (some .int) 8 90 3000 G ρ V [.ref (ρ 9 0), .int x1, .int x2, .int x3] (J A Z) (rI r) (J A' Z) := by
  refine vx_enter (lv := [(0, .ref (ρ 9 0)), (1, .int x1), (2, .int x2), (3, .int x3)]) RX9 rfl (by decide) (Nat.le_of_ble_eq_true rfl) rfl ?_
  intro E hE1 hC hQ hT9 hVC
  subst hE1
  have hQ : QXX E G ρ V (rI r) (J A' Z) 90 3000 := hQ
  have hE : Ext ρ V ρ V := Ext.rfl
  rw [fX9_join] at h
  refine wa_iload_n 1 1 hC dX9_join_0 rfl 1 rfl rfl ?_
  refine wa_iconst 2 hC dX9_join_1 kc_1 rfl ?_
  refine wa_icmp_lt 5 19 hC dX9_join_2 rfl rfl h (fun h => ?_) (fun h => ?_)
  · exact wx_throw (st := []) (ix := 7) (is := 135) (n9 := 1) hC hl9 hT9 hQ hE (xTI h) (jA (sm2 h)) xw_IllegalArgumentException rfl (by decide) rfl rfl (by decide) (by decide) (Nat.le_of_ble_eq_true rfl) dX9_join_19 dX9_join_22 dX9_join_23 dX9_join_25 dX9_join_28
  · refine wa_iload_n 6 1 hC dX9_join_5 rfl 1 rfl rfl ?_
    refine wa_aload_n 7 0 hC dX9_join_6 rfl 0 rfl rfl ?_
    refine wa_getR 10 hC (vs9 hVC) (sr9_0 _) flX9_12 dX9_join_7 rfl ?_
    refine wa_getR 13 hC hVC.2.2.2.2.2.1 (sr0_0 _) flX9_104 dX9_join_10 rfl ?_
    refine wa_getIc 16 hC (vc4 hVC hVC.2.2.2.2.2.1) sh4_0 rfl flX9_110 dX9_join_13 rfl ?_
    refine wa_icmp_le 19 29 hC dX9_join_16 rfl rfl h (fun h => ?_) (fun h => ?_)
    · refine wa_iload_n 30 2 hC dX9_join_29 rfl 2 rfl rfl ?_
      refine wa_iconst 31 hC dX9_join_30 kc_1 rfl ?_
      refine wa_icmp_lt 34 39 hC dX9_join_31 rfl rfl h (fun h => ?_) (fun h => ?_)
      · exact wx_throw (st := []) (ix := 8) (is := 137) (n9 := 1) hC hl9 hT9 hQ hE (xTI h) (jA (sm2 h)) xw_IllegalArgumentException rfl (by decide) rfl rfl (by decide) (by decide) (Nat.le_of_ble_eq_true rfl) dX9_join_39 dX9_join_42 dX9_join_43 dX9_join_45 dX9_join_48
      · refine wa_iload_n 35 2 hC dX9_join_34 rfl 2 rfl rfl ?_
        refine wa_iload_n 36 1 hC dX9_join_35 rfl 1 rfl rfl ?_
        refine wa_icmp_le 39 49 hC dX9_join_36 rfl rfl h (fun h => ?_) (fun h => ?_)
        · refine wa_iload_n 50 3 hC dX9_join_49 rfl 3 rfl rfl ?_
          refine wa_if_lt 53 59 hC dX9_join_50 rfl rfl h (fun h => ?_) (fun h => ?_)
          · exact wx_throw (st := []) (ix := 9) (is := 139) (n9 := 1) hC hl9 hT9 hQ hE (xTI h) (jA (sm2 h)) xw_IllegalArgumentException rfl (by decide) rfl rfl (by decide) (by decide) (Nat.le_of_ble_eq_true rfl) dX9_join_59 dX9_join_62 dX9_join_63 dX9_join_65 dX9_join_68
          · refine wa_iload_n 54 3 hC dX9_join_53 rfl 3 rfl rfl ?_
            refine wa_bipush 56 hC dX9_join_54 kb_9 rfl ?_
            refine wa_icmp_le 59 69 hC dX9_join_56 rfl rfl h (fun h => ?_) (fun h => ?_)
            · refine wa_aload_n 70 0 hC dX9_join_69 rfl 0 rfl rfl ?_
              refine wa_getR 73 hC (vs9 hVC) (sr9_0 _) flX9_12 dX9_join_70 rfl ?_
              refine wa_getIc 76 hC hVC.2.2.2.2.2.1 sh0_3 rfl flX9_141 dX9_join_73 rfl ?_
              refine wa_bipush 78 hC dX9_join_76 kb_16 rfl ?_
              refine wa_icmp_lt 81 91 hC dX9_join_78 rfl rfl h (fun h => ?_) (fun h => ?_)
              · refine wa_aload_n 92 0 hC dX9_join_91 rfl 0 rfl rfl ?_
                refine wa_getR 95 hC (vs9 hVC) (sr9_1 _) flX9_19 dX9_join_92 rfl ?_
                refine wa_aload_n 96 0 hC dX9_join_95 rfl 0 rfl rfl ?_
                refine wa_getR 99 hC (vs9 hVC) (sr9_0 _) flX9_12 dX9_join_96 rfl ?_
                obtain ⟨A_1, e_2, h⟩ := bd_some h
                have key : ∀ (ρ1 : Nat → Nat → Nat) (V1 : Nat → Nat → Prop), Ext ρ V ρ1 V1 → VC V1 → WA E G ρ1 V1 72 2909 (J A_1 Z) 102 [(0, .ref (ρ1 9 0)), (1, .int x1), (2, .int x2), (3, .int x3)] [] := by
                  intro ρ V hE0 hVC
                  have hE := Ext.trans hE hE0
                  refine wa_aload_n 103 0 hC dX9_join_102 rfl 0 rfl rfl ?_
                  refine wa_getR 106 hC (vs9 hVC) (sr9_0 _) flX9_12 dX9_join_103 rfl ?_
                  refine wa_iload_n 107 1 hC dX9_join_106 rfl 1 rfl rfl ?_
                  refine wa_iload_n 108 2 hC dX9_join_107 rfl 2 rfl rfl ?_
                  refine wa_iload_n 109 3 hC dX9_join_108 rfl 3 rfl rfl ?_
                  obtain ⟨r_4, A_3, e_5, h⟩ := bd2_some h
                  refine wa_callVi 112 hC [.int x1, .int x2, .int x3] [] knX0_enrol mvX9_146 (tX0_enrol E.2.1 0 x1 x2 x3 A_1 hVC hVC.2.2.2.2.2.1 e_5) hVC.2.2.2.2.2.1 kc0 (Nat.le_of_ble_eq_true rfl) (Nat.le_of_ble_eq_true rfl) rfl (Nat.le_of_ble_eq_true rfl) dX9_join_109 rfl (by decide) rfl ?_
                  exact wx_iret hC hQ hE (xI h) (jA (sm2 h)) (by decide) dX9_join_112
                refine wx_keep 102 hC [.ref (ρ 0 0)] [] knX6_keep mvX9_92 (tX6_keep E.2.1 A hVC e_2) (vs6 hVC) kc6 (Nat.le_of_ble_eq_true rfl) (Nat.le_of_ble_eq_true rfl) rfl (Nat.le_of_ble_eq_true rfl) dX9_join_99 rfl (by decide) rfl (fun ρ1 V1 hE9 hVC9 => ?_)
                rw [← (hE9 9 0 (vs9 hVC)).2]
                exact key ρ1 V1 hE9 hVC9
              · exact wx_throw (st := []) (ix := 10) (is := 144) (n9 := 2) hC hl9 hT9 hQ hE (xTI h) (jA (sm2 h)) xw_IllegalStateException rfl (by decide) rfl rfl (by decide) (by decide) (Nat.le_of_ble_eq_true rfl) dX9_join_81 dX9_join_84 dX9_join_85 dX9_join_87 dX9_join_90
            · exact wx_throw (st := []) (ix := 9) (is := 139) (n9 := 1) hC hl9 hT9 hQ hE (xTI h) (jA (sm2 h)) xw_IllegalArgumentException rfl (by decide) rfl rfl (by decide) (by decide) (Nat.le_of_ble_eq_true rfl) dX9_join_59 dX9_join_62 dX9_join_63 dX9_join_65 dX9_join_68
        · exact wx_throw (st := []) (ix := 8) (is := 137) (n9 := 1) hC hl9 hT9 hQ hE (xTI h) (jA (sm2 h)) xw_IllegalArgumentException rfl (by decide) rfl rfl (by decide) (by decide) (Nat.le_of_ble_eq_true rfl) dX9_join_39 dX9_join_42 dX9_join_43 dX9_join_45 dX9_join_48
    · exact wx_throw (st := []) (ix := 7) (is := 135) (n9 := 1) hC hl9 hT9 hQ hE (xTI h) (jA (sm2 h)) xw_IllegalArgumentException rfl (by decide) rfl rfl (by decide) (by decide) (Nat.le_of_ble_eq_true rfl) dX9_join_19 dX9_join_22 dX9_join_23 dX9_join_25 dX9_join_28
set_option maxRecDepth 20000 in
theorem tX9_more (l : Launch) (hl9 : l.stackTraces = false) {G : gU} {ρ : Nat → Nat → Nat} {V : Nat → Nat → Prop} {Z : sM} (x1 : Int32) (x2 : Int32) (A : sM) (_ : VC V) {r : Nat ⊕ Int32} {A' : sM} (h : fX9_more x1 x2 A = some (r, A')) : MX l yX9_more cX9_more 4 (some .int) 9 90 3000 G ρ V [.ref (ρ 9 0), .int x1, .int x2] (J A Z) (rI r) (J A' Z) := by
  refine vx_enter (lv := [(0, .ref (ρ 9 0)), (1, .int x1), (2, .int x2)]) RX9 rfl (by decide) (Nat.le_of_ble_eq_true rfl) rfl ?_
  intro E hE1 hC hQ hT9 hVC
  subst hE1
  have hQ : QXX E G ρ V (rI r) (J A' Z) 90 3000 := hQ
  have hE : Ext ρ V ρ V := Ext.rfl
  rw [fX9_more] at h
  refine wa_aload_n 1 0 hC dX9_more_0 rfl 0 rfl rfl ?_
  refine wa_iload_n 2 1 hC dX9_more_1 rfl 1 rfl rfl ?_
  rcases rq_some h with ⟨e_10, h⟩ | ⟨n9, e_10, h⟩
  rotate_left
  · exact wx_reqThrow hC [.int x1] [] knX9_requireSubscriber mwX9_150 (tX9_requireSubscriber E.2.1 hl9 x1 A hVC e_10) (vs9 hVC) kc9 (Nat.le_of_ble_eq_true rfl) (Nat.le_of_ble_eq_true rfl) rfl (Nat.le_of_ble_eq_true rfl) dX9_more_2 hT9 hQ hE (xTI h) (jA (sm2 h)) (by decide) rfl
  refine wx_reqOK 5 hC [.int x1] [] knX9_requireSubscriber mwX9_150 (tX9_requireSubscriber E.2.1 hl9 x1 A hVC e_10) (vs9 hVC) kc9 (Nat.le_of_ble_eq_true rfl) (Nat.le_of_ble_eq_true rfl) rfl (Nat.le_of_ble_eq_true rfl) dX9_more_2 rfl (by decide) rfl ?_
  refine wa_aload_n 6 0 hC dX9_more_5 rfl 0 rfl rfl ?_
  refine wa_iload_n 7 2 hC dX9_more_6 rfl 2 rfl rfl ?_
  rcases rq_some h with ⟨e_9, h⟩ | ⟨n9, e_9, h⟩
  rotate_left
  · exact wx_reqThrow hC [.int x2] [] knX9_requireCount mwX9_153 (tX9_requireCount E.2.1 hl9 x2 A hVC e_9) (vs9 hVC) kc9 (Nat.le_of_ble_eq_true rfl) (Nat.le_of_ble_eq_true rfl) rfl (Nat.le_of_ble_eq_true rfl) dX9_more_7 hT9 hQ hE (xTI h) (jA (sm2 h)) (by decide) rfl
  refine wx_reqOK 10 hC [.int x2] [] knX9_requireCount mwX9_153 (tX9_requireCount E.2.1 hl9 x2 A hVC e_9) (vs9 hVC) kc9 (Nat.le_of_ble_eq_true rfl) (Nat.le_of_ble_eq_true rfl) rfl (Nat.le_of_ble_eq_true rfl) dX9_more_7 rfl (by decide) rfl ?_
  refine wa_aload_n 11 0 hC dX9_more_10 rfl 0 rfl rfl ?_
  refine wa_iload_n 12 1 hC dX9_more_11 rfl 1 rfl rfl ?_
  rcases rq_some h with ⟨e_8, h⟩ | ⟨n9, e_8, h⟩
  rotate_left
  · exact wx_reqThrow hC [.int x1] [] knX9_requireActive mwX9_156 (tX9_requireActive E.2.1 hl9 x1 A hVC e_8) (vs9 hVC) kc9 (Nat.le_of_ble_eq_true rfl) (Nat.le_of_ble_eq_true rfl) rfl (Nat.le_of_ble_eq_true rfl) dX9_more_12 hT9 hQ hE (xTI h) (jA (sm2 h)) (by decide) rfl
  refine wx_reqOK 15 hC [.int x1] [] knX9_requireActive mwX9_156 (tX9_requireActive E.2.1 hl9 x1 A hVC e_8) (vs9 hVC) kc9 (Nat.le_of_ble_eq_true rfl) (Nat.le_of_ble_eq_true rfl) rfl (Nat.le_of_ble_eq_true rfl) dX9_more_12 rfl (by decide) rfl ?_
  refine wa_aload_n 16 0 hC dX9_more_15 rfl 0 rfl rfl ?_
  refine wa_getR 19 hC (vs9 hVC) (sr9_0 _) flX9_12 dX9_more_16 rfl ?_
  refine wa_getR 22 hC hVC.2.2.2.2.2.1 (sr0_2 _) flX9_159 dX9_more_19 rfl ?_
  refine wa_iload_n 23 1 hC dX9_more_22 rfl 1 rfl rfl ?_
  obtain ⟨g_1, h⟩ := gd_some h
  refine wa_aald 24 hC (vc11 hVC hVC.2.2.2.2.2.1) g_1 dX9_more_23 rfl ?_
  refine wa_astore_n (lv' := [(3, .ref (ρ 8 (16 * 0 + x1.toNatClampNeg))), (0, .ref (ρ 9 0)), (1, .int x1), (2, .int x2)]) 25 3 hC dX9_more_24 rfl rfl (by decide) rfl rfl ?_
  refine wa_iload_n 26 2 hC dX9_more_25 rfl 3 rfl rfl ?_
  refine wa_aload_n 27 0 hC dX9_more_26 rfl 1 rfl rfl ?_
  refine wa_getR 30 hC (vs9 hVC) (sr9_0 _) flX9_12 dX9_more_27 rfl ?_
  obtain ⟨r_2, e_7, h⟩ := bd_some h
  refine wa_callVi 33 hC [] [.int x2] knX0_unheldShares mvX9_163 (tX0_unheldShares E.2.1 0 A hVC hVC.2.2.2.2.2.1 e_7) hVC.2.2.2.2.2.1 kc0 (Nat.le_of_ble_eq_true rfl) (Nat.le_of_ble_eq_true rfl) rfl (Nat.le_of_ble_eq_true rfl) dX9_more_30 rfl (by decide) rfl ?_
  refine wa_icmp_le 36 46 hC dX9_more_33 rfl rfl h (fun h => ?_) (fun h => ?_)
  · refine wa_aload_n 47 0 hC dX9_more_46 rfl 1 rfl rfl ?_
    refine wa_aload_n 48 3 hC dX9_more_47 rfl 0 rfl rfl ?_
    refine wa_iload_n 49 2 hC dX9_more_48 rfl 3 rfl rfl ?_
    rcases rq_some h with ⟨e_6, h⟩ | ⟨n9, e_6, h⟩
    rotate_left
    · exact wx_reqThrow hC [.ref (ρ 8 (16 * 0 + x1.toNatClampNeg)), .int x2] [] knX9_requireRoomForShares mwX9_168 (tX9_requireRoomForShares E.2.1 hl9 (16 * 0 + x1.toNatClampNeg) x2 A hVC (vc8 hVC hVC.2.2.2.2.2.1 (inb_lt g_1)) e_6) (vs9 hVC) kc9 (Nat.le_of_ble_eq_true rfl) (Nat.le_of_ble_eq_true rfl) rfl (Nat.le_of_ble_eq_true rfl) dX9_more_49 hT9 hQ hE (xTI h) (jA (sm2 h)) (by decide) rfl
    refine wx_reqOK 52 hC [.ref (ρ 8 (16 * 0 + x1.toNatClampNeg)), .int x2] [] knX9_requireRoomForShares mwX9_168 (tX9_requireRoomForShares E.2.1 hl9 (16 * 0 + x1.toNatClampNeg) x2 A hVC (vc8 hVC hVC.2.2.2.2.2.1 (inb_lt g_1)) e_6) (vs9 hVC) kc9 (Nat.le_of_ble_eq_true rfl) (Nat.le_of_ble_eq_true rfl) rfl (Nat.le_of_ble_eq_true rfl) dX9_more_49 rfl (by decide) rfl ?_
    refine wa_aload_n 53 0 hC dX9_more_52 rfl 1 rfl rfl ?_
    refine wa_getR 56 hC (vs9 hVC) (sr9_1 _) flX9_19 dX9_more_53 rfl ?_
    refine wa_aload_n 57 0 hC dX9_more_56 rfl 1 rfl rfl ?_
    refine wa_getR 60 hC (vs9 hVC) (sr9_0 _) flX9_12 dX9_more_57 rfl ?_
    obtain ⟨A_3, e_4, h⟩ := bd_some h
    have key : ∀ (ρ1 : Nat → Nat → Nat) (V1 : Nat → Nat → Prop), Ext ρ V ρ1 V1 → VC V1 → V1 8 (16 * 0 + x1.toNatClampNeg) → WA E G ρ1 V1 76 2933 (J A_3 Z) 63 [(3, .ref (ρ1 8 (16 * 0 + x1.toNatClampNeg))), (0, .ref (ρ1 9 0)), (1, .int x1), (2, .int x2)] [] := by
      intro ρ V hE0 hVC hw1
      have hE := Ext.trans hE hE0
      refine wa_aload_n 64 3 hC dX9_more_63 rfl 0 rfl rfl ?_
      refine wa_dup 65 hC dX9_more_64 rfl rfl ?_
      refine wa_getIc 68 hC hw1 sh8_4 rfl flX9_172 dX9_more_65 rfl ?_
      refine wa_iload_n 69 2 hC dX9_more_68 rfl 3 rfl rfl ?_
      refine wa_iadd 70 hC dX9_more_69 rfl ?_
      obtain ⟨A_5, eA_5, h⟩ := ltb_some h
      refine wa_putIc 73 hC hw1 nk8 eA_5 sh8_4 rfl fpX9_172 dX9_more_70 rfl ?_
      refine wa_aload_n 74 3 hC dX9_more_73 rfl 0 rfl rfl ?_
      refine wa_getIc 77 hC hw1 sh8_4 rfl flX9_172 dX9_more_74 rfl ?_
      exact wx_iret hC hQ hE (xI h) (jA (sm2 h)) (by decide) dX9_more_77
    refine wx_keep 63 hC [.ref (ρ 0 0)] [] knX6_keep mvX9_92 (tX6_keep E.2.1 A hVC e_4) (vs6 hVC) kc6 (Nat.le_of_ble_eq_true rfl) (Nat.le_of_ble_eq_true rfl) rfl (Nat.le_of_ble_eq_true rfl) dX9_more_60 rfl (by decide) rfl (fun ρ1 V1 hE9 hVC9 => ?_)
    rw [← (hE9 8 (16 * 0 + x1.toNatClampNeg) (vc8 hVC hVC.2.2.2.2.2.1 (inb_lt g_1))).2, ← (hE9 9 0 (vs9 hVC)).2]
    exact key ρ1 V1 hE9 hVC9 (hE9 8 (16 * 0 + x1.toNatClampNeg) (vc8 hVC hVC.2.2.2.2.2.1 (inb_lt g_1))).1
  · exact wx_throw (st := []) (ix := 14) (is := 166) (n9 := 2) hC hl9 hT9 hQ hE (xTI h) (jA (sm2 h)) xw_IllegalStateException rfl (by decide) rfl rfl (by decide) (by decide) (Nat.le_of_ble_eq_true rfl) dX9_more_36 dX9_more_39 dX9_more_40 dX9_more_42 dX9_more_45
set_option maxRecDepth 20000 in
theorem tX9_reduce (l : Launch) (hl9 : l.stackTraces = false) {G : gU} {ρ : Nat → Nat → Nat} {V : Nat → Nat → Prop} {Z : sM} (x1 : Int32) (x2 : Int32) (A : sM) (_ : VC V) {r : Nat ⊕ Int32} {A' : sM} (h : fX9_reduce x1 x2 A = some (r, A')) : MX l yX9_reduce cX9_reduce 4 (some .int) 9 90 3000 G ρ V [.ref (ρ 9 0), .int x1, .int x2] (J A Z) (rI r) (J A' Z) := by
  refine vx_enter (lv := [(0, .ref (ρ 9 0)), (1, .int x1), (2, .int x2)]) RX9 rfl (by decide) (Nat.le_of_ble_eq_true rfl) rfl ?_
  intro E hE1 hC hQ hT9 hVC
  subst hE1
  have hQ : QXX E G ρ V (rI r) (J A' Z) 90 3000 := hQ
  have hE : Ext ρ V ρ V := Ext.rfl
  rw [fX9_reduce] at h
  refine wa_aload_n 1 0 hC dX9_reduce_0 rfl 0 rfl rfl ?_
  refine wa_iload_n 2 1 hC dX9_reduce_1 rfl 1 rfl rfl ?_
  rcases rq_some h with ⟨e_12, h⟩ | ⟨n9, e_12, h⟩
  rotate_left
  · exact wx_reqThrow hC [.int x1] [] knX9_requireSubscriber mwX9_150 (tX9_requireSubscriber E.2.1 hl9 x1 A hVC e_12) (vs9 hVC) kc9 (Nat.le_of_ble_eq_true rfl) (Nat.le_of_ble_eq_true rfl) rfl (Nat.le_of_ble_eq_true rfl) dX9_reduce_2 hT9 hQ hE (xTI h) (jA (sm2 h)) (by decide) rfl
  refine wx_reqOK 5 hC [.int x1] [] knX9_requireSubscriber mwX9_150 (tX9_requireSubscriber E.2.1 hl9 x1 A hVC e_12) (vs9 hVC) kc9 (Nat.le_of_ble_eq_true rfl) (Nat.le_of_ble_eq_true rfl) rfl (Nat.le_of_ble_eq_true rfl) dX9_reduce_2 rfl (by decide) rfl ?_
  refine wa_aload_n 6 0 hC dX9_reduce_5 rfl 0 rfl rfl ?_
  refine wa_iload_n 7 2 hC dX9_reduce_6 rfl 2 rfl rfl ?_
  rcases rq_some h with ⟨e_11, h⟩ | ⟨n9, e_11, h⟩
  rotate_left
  · exact wx_reqThrow hC [.int x2] [] knX9_requireCount mwX9_153 (tX9_requireCount E.2.1 hl9 x2 A hVC e_11) (vs9 hVC) kc9 (Nat.le_of_ble_eq_true rfl) (Nat.le_of_ble_eq_true rfl) rfl (Nat.le_of_ble_eq_true rfl) dX9_reduce_7 hT9 hQ hE (xTI h) (jA (sm2 h)) (by decide) rfl
  refine wx_reqOK 10 hC [.int x2] [] knX9_requireCount mwX9_153 (tX9_requireCount E.2.1 hl9 x2 A hVC e_11) (vs9 hVC) kc9 (Nat.le_of_ble_eq_true rfl) (Nat.le_of_ble_eq_true rfl) rfl (Nat.le_of_ble_eq_true rfl) dX9_reduce_7 rfl (by decide) rfl ?_
  refine wa_aload_n 11 0 hC dX9_reduce_10 rfl 0 rfl rfl ?_
  refine wa_iload_n 12 1 hC dX9_reduce_11 rfl 1 rfl rfl ?_
  rcases rq_some h with ⟨e_10, h⟩ | ⟨n9, e_10, h⟩
  rotate_left
  · exact wx_reqThrow hC [.int x1] [] knX9_requireActive mwX9_156 (tX9_requireActive E.2.1 hl9 x1 A hVC e_10) (vs9 hVC) kc9 (Nat.le_of_ble_eq_true rfl) (Nat.le_of_ble_eq_true rfl) rfl (Nat.le_of_ble_eq_true rfl) dX9_reduce_12 hT9 hQ hE (xTI h) (jA (sm2 h)) (by decide) rfl
  refine wx_reqOK 15 hC [.int x1] [] knX9_requireActive mwX9_156 (tX9_requireActive E.2.1 hl9 x1 A hVC e_10) (vs9 hVC) kc9 (Nat.le_of_ble_eq_true rfl) (Nat.le_of_ble_eq_true rfl) rfl (Nat.le_of_ble_eq_true rfl) dX9_reduce_12 rfl (by decide) rfl ?_
  refine wa_aload_n 16 0 hC dX9_reduce_15 rfl 0 rfl rfl ?_
  refine wa_getR 19 hC (vs9 hVC) (sr9_0 _) flX9_12 dX9_reduce_16 rfl ?_
  refine wa_getR 22 hC hVC.2.2.2.2.2.1 (sr0_2 _) flX9_159 dX9_reduce_19 rfl ?_
  refine wa_iload_n 23 1 hC dX9_reduce_22 rfl 1 rfl rfl ?_
  obtain ⟨g_1, h⟩ := gd_some h
  refine wa_aald 24 hC (vc11 hVC hVC.2.2.2.2.2.1) g_1 dX9_reduce_23 rfl ?_
  refine wa_astore_n (lv' := [(3, .ref (ρ 8 (16 * 0 + x1.toNatClampNeg))), (0, .ref (ρ 9 0)), (1, .int x1), (2, .int x2)]) 25 3 hC dX9_reduce_24 rfl rfl (by decide) rfl rfl ?_
  refine wa_aload_n 26 0 hC dX9_reduce_25 rfl 1 rfl rfl ?_
  refine wa_aload_n 27 3 hC dX9_reduce_26 rfl 0 rfl rfl ?_
  refine wa_iload_n 28 2 hC dX9_reduce_27 rfl 3 rfl rfl ?_
  rcases rq_some h with ⟨e_9, h⟩ | ⟨n9, e_9, h⟩
  rotate_left
  · exact wx_reqThrow hC [.ref (ρ 8 (16 * 0 + x1.toNatClampNeg)), .int x2] [] knX9_requireShareKept mwX9_175 (tX9_requireShareKept E.2.1 hl9 (16 * 0 + x1.toNatClampNeg) x2 A hVC (vc8 hVC hVC.2.2.2.2.2.1 (inb_lt g_1)) e_9) (vs9 hVC) kc9 (Nat.le_of_ble_eq_true rfl) (Nat.le_of_ble_eq_true rfl) rfl (Nat.le_of_ble_eq_true rfl) dX9_reduce_28 hT9 hQ hE (xTI h) (jA (sm2 h)) (by decide) rfl
  refine wx_reqOK 31 hC [.ref (ρ 8 (16 * 0 + x1.toNatClampNeg)), .int x2] [] knX9_requireShareKept mwX9_175 (tX9_requireShareKept E.2.1 hl9 (16 * 0 + x1.toNatClampNeg) x2 A hVC (vc8 hVC hVC.2.2.2.2.2.1 (inb_lt g_1)) e_9) (vs9 hVC) kc9 (Nat.le_of_ble_eq_true rfl) (Nat.le_of_ble_eq_true rfl) rfl (Nat.le_of_ble_eq_true rfl) dX9_reduce_28 rfl (by decide) rfl ?_
  refine wa_aload_n 32 0 hC dX9_reduce_31 rfl 1 rfl rfl ?_
  refine wa_getR 35 hC (vs9 hVC) (sr9_1 _) flX9_19 dX9_reduce_32 rfl ?_
  refine wa_aload_n 36 0 hC dX9_reduce_35 rfl 1 rfl rfl ?_
  refine wa_getR 39 hC (vs9 hVC) (sr9_0 _) flX9_12 dX9_reduce_36 rfl ?_
  obtain ⟨A_2, e_3, h⟩ := bd_some h
  have key : ∀ (ρ1 : Nat → Nat → Nat) (V1 : Nat → Nat → Prop), Ext ρ V ρ1 V1 → VC V1 → V1 8 (16 * 0 + x1.toNatClampNeg) → WA E G ρ1 V1 76 2933 (J A_2 Z) 42 [(3, .ref (ρ1 8 (16 * 0 + x1.toNatClampNeg))), (0, .ref (ρ1 9 0)), (1, .int x1), (2, .int x2)] [] := by
    intro ρ V hE0 hVC hw1
    have hE := Ext.trans hE hE0
    refine wa_aload_n 43 3 hC dX9_reduce_42 rfl 0 rfl rfl ?_
    refine wa_dup 44 hC dX9_reduce_43 rfl rfl ?_
    refine wa_getIc 47 hC hw1 sh8_4 rfl flX9_172 dX9_reduce_44 rfl ?_
    refine wa_iload_n 48 2 hC dX9_reduce_47 rfl 3 rfl rfl ?_
    refine wa_isub 49 hC dX9_reduce_48 rfl ?_
    obtain ⟨A_4, eA_4, h⟩ := ltb_some h
    refine wa_putIc 52 hC hw1 nk8 eA_4 sh8_4 rfl fpX9_172 dX9_reduce_49 rfl ?_
    refine wa_aload_n 53 0 hC dX9_reduce_52 rfl 1 rfl rfl ?_
    refine wa_getR 56 hC (vs9 hVC) (sr9_0 _) flX9_12 dX9_reduce_53 rfl ?_
    obtain ⟨A_5, e_8, h⟩ := bd_some h
    refine wa_callVv 59 hC [] [] knX0_goThroughWaitingList mvX9_178 (tX0_goThroughWaitingList E.2.1 0 A_4 hVC hVC.2.2.2.2.2.1 e_8) hVC.2.2.2.2.2.1 kc0 (Nat.le_of_ble_eq_true rfl) (Nat.le_of_ble_eq_true rfl) rfl (Nat.le_of_ble_eq_true rfl) dX9_reduce_56 rfl (by decide) rfl ?_
    refine wa_aload_n 60 0 hC dX9_reduce_59 rfl 1 rfl rfl ?_
    refine wa_getR 63 hC (vs9 hVC) (sr9_0 _) flX9_12 dX9_reduce_60 rfl ?_
    obtain ⟨r_6, e_7, h⟩ := bd_some h
    refine wa_callVi 66 hC [] [] knX0_unheldShares mvX9_163 (tX0_unheldShares E.2.1 0 A_5 hVC hVC.2.2.2.2.2.1 e_7) hVC.2.2.2.2.2.1 kc0 (Nat.le_of_ble_eq_true rfl) (Nat.le_of_ble_eq_true rfl) rfl (Nat.le_of_ble_eq_true rfl) dX9_reduce_63 rfl (by decide) rfl ?_
    exact wx_iret hC hQ hE (xI h) (jA (sm2 h)) (by decide) dX9_reduce_66
  refine wx_keep 42 hC [.ref (ρ 0 0)] [] knX6_keep mvX9_92 (tX6_keep E.2.1 A hVC e_3) (vs6 hVC) kc6 (Nat.le_of_ble_eq_true rfl) (Nat.le_of_ble_eq_true rfl) rfl (Nat.le_of_ble_eq_true rfl) dX9_reduce_39 rfl (by decide) rfl (fun ρ1 V1 hE9 hVC9 => ?_)
  rw [← (hE9 8 (16 * 0 + x1.toNatClampNeg) (vc8 hVC hVC.2.2.2.2.2.1 (inb_lt g_1))).2, ← (hE9 9 0 (vs9 hVC)).2]
  exact key ρ1 V1 hE9 hVC9 (hE9 8 (16 * 0 + x1.toNatClampNeg) (vc8 hVC hVC.2.2.2.2.2.1 (inb_lt g_1))).1
set_option maxRecDepth 20000 in
theorem tX9_transfer (l : Launch) (hl9 : l.stackTraces = false) {G : gU} {ρ : Nat → Nat → Nat} {V : Nat → Nat → Prop} {Z : sM} (x1 : Int32) (x2 : Int32) (x3 : Int32) (A : sM) (_ : VC V) {r : Nat ⊕ Int32} {A' : sM} (h : fX9_transfer x1 x2 x3 A = some (r, A')) : MX l yX9_transfer cX9_transfer 6 (some .int) 9 90 3000 G ρ V [.ref (ρ 9 0), .int x1, .int x2, .int x3] (J A Z) (rI r) (J A' Z) := by
  refine vx_enter (lv := [(0, .ref (ρ 9 0)), (1, .int x1), (2, .int x2), (3, .int x3)]) RX9 rfl (by decide) (Nat.le_of_ble_eq_true rfl) rfl ?_
  intro E hE1 hC hQ hT9 hVC
  subst hE1
  have hQ : QXX E G ρ V (rI r) (J A' Z) 90 3000 := hQ
  have hE : Ext ρ V ρ V := Ext.rfl
  rw [fX9_transfer] at h
  refine wa_aload_n 1 0 hC dX9_transfer_0 rfl 0 rfl rfl ?_
  refine wa_iload_n 2 1 hC dX9_transfer_1 rfl 1 rfl rfl ?_
  rcases rq_some h with ⟨e_14, h⟩ | ⟨n9, e_14, h⟩
  rotate_left
  · exact wx_reqThrow hC [.int x1] [] knX9_requireSubscriber mwX9_150 (tX9_requireSubscriber E.2.1 hl9 x1 A hVC e_14) (vs9 hVC) kc9 (Nat.le_of_ble_eq_true rfl) (Nat.le_of_ble_eq_true rfl) rfl (Nat.le_of_ble_eq_true rfl) dX9_transfer_2 hT9 hQ hE (xTI h) (jA (sm2 h)) (by decide) rfl
  refine wx_reqOK 5 hC [.int x1] [] knX9_requireSubscriber mwX9_150 (tX9_requireSubscriber E.2.1 hl9 x1 A hVC e_14) (vs9 hVC) kc9 (Nat.le_of_ble_eq_true rfl) (Nat.le_of_ble_eq_true rfl) rfl (Nat.le_of_ble_eq_true rfl) dX9_transfer_2 rfl (by decide) rfl ?_
  refine wa_aload_n 6 0 hC dX9_transfer_5 rfl 0 rfl rfl ?_
  refine wa_iload_n 7 2 hC dX9_transfer_6 rfl 2 rfl rfl ?_
  rcases rq_some h with ⟨e_13, h⟩ | ⟨n9, e_13, h⟩
  rotate_left
  · exact wx_reqThrow hC [.int x2] [] knX9_requireSubscriber mwX9_150 (tX9_requireSubscriber E.2.1 hl9 x2 A hVC e_13) (vs9 hVC) kc9 (Nat.le_of_ble_eq_true rfl) (Nat.le_of_ble_eq_true rfl) rfl (Nat.le_of_ble_eq_true rfl) dX9_transfer_7 hT9 hQ hE (xTI h) (jA (sm2 h)) (by decide) rfl
  refine wx_reqOK 10 hC [.int x2] [] knX9_requireSubscriber mwX9_150 (tX9_requireSubscriber E.2.1 hl9 x2 A hVC e_13) (vs9 hVC) kc9 (Nat.le_of_ble_eq_true rfl) (Nat.le_of_ble_eq_true rfl) rfl (Nat.le_of_ble_eq_true rfl) dX9_transfer_7 rfl (by decide) rfl ?_
  refine wa_aload_n 11 0 hC dX9_transfer_10 rfl 0 rfl rfl ?_
  refine wa_iload_n 12 1 hC dX9_transfer_11 rfl 1 rfl rfl ?_
  refine wa_iload_n 13 2 hC dX9_transfer_12 rfl 2 rfl rfl ?_
  rcases rq_some h with ⟨e_12, h⟩ | ⟨n9, e_12, h⟩
  rotate_left
  · exact wx_reqThrow hC [.int x1, .int x2] [] knX9_requireDifferent mwX9_181 (tX9_requireDifferent E.2.1 hl9 x1 x2 A hVC e_12) (vs9 hVC) kc9 (Nat.le_of_ble_eq_true rfl) (Nat.le_of_ble_eq_true rfl) rfl (Nat.le_of_ble_eq_true rfl) dX9_transfer_13 hT9 hQ hE (xTI h) (jA (sm2 h)) (by decide) rfl
  refine wx_reqOK 16 hC [.int x1, .int x2] [] knX9_requireDifferent mwX9_181 (tX9_requireDifferent E.2.1 hl9 x1 x2 A hVC e_12) (vs9 hVC) kc9 (Nat.le_of_ble_eq_true rfl) (Nat.le_of_ble_eq_true rfl) rfl (Nat.le_of_ble_eq_true rfl) dX9_transfer_13 rfl (by decide) rfl ?_
  refine wa_aload_n 17 0 hC dX9_transfer_16 rfl 0 rfl rfl ?_
  refine wa_iload_n 18 3 hC dX9_transfer_17 rfl 3 rfl rfl ?_
  rcases rq_some h with ⟨e_11, h⟩ | ⟨n9, e_11, h⟩
  rotate_left
  · exact wx_reqThrow hC [.int x3] [] knX9_requireCount mwX9_153 (tX9_requireCount E.2.1 hl9 x3 A hVC e_11) (vs9 hVC) kc9 (Nat.le_of_ble_eq_true rfl) (Nat.le_of_ble_eq_true rfl) rfl (Nat.le_of_ble_eq_true rfl) dX9_transfer_18 hT9 hQ hE (xTI h) (jA (sm2 h)) (by decide) rfl
  refine wx_reqOK 21 hC [.int x3] [] knX9_requireCount mwX9_153 (tX9_requireCount E.2.1 hl9 x3 A hVC e_11) (vs9 hVC) kc9 (Nat.le_of_ble_eq_true rfl) (Nat.le_of_ble_eq_true rfl) rfl (Nat.le_of_ble_eq_true rfl) dX9_transfer_18 rfl (by decide) rfl ?_
  refine wa_aload_n 22 0 hC dX9_transfer_21 rfl 0 rfl rfl ?_
  refine wa_iload_n 23 1 hC dX9_transfer_22 rfl 1 rfl rfl ?_
  rcases rq_some h with ⟨e_10, h⟩ | ⟨n9, e_10, h⟩
  rotate_left
  · exact wx_reqThrow hC [.int x1] [] knX9_requireActive mwX9_156 (tX9_requireActive E.2.1 hl9 x1 A hVC e_10) (vs9 hVC) kc9 (Nat.le_of_ble_eq_true rfl) (Nat.le_of_ble_eq_true rfl) rfl (Nat.le_of_ble_eq_true rfl) dX9_transfer_23 hT9 hQ hE (xTI h) (jA (sm2 h)) (by decide) rfl
  refine wx_reqOK 26 hC [.int x1] [] knX9_requireActive mwX9_156 (tX9_requireActive E.2.1 hl9 x1 A hVC e_10) (vs9 hVC) kc9 (Nat.le_of_ble_eq_true rfl) (Nat.le_of_ble_eq_true rfl) rfl (Nat.le_of_ble_eq_true rfl) dX9_transfer_23 rfl (by decide) rfl ?_
  refine wa_aload_n 27 0 hC dX9_transfer_26 rfl 0 rfl rfl ?_
  refine wa_iload_n 28 2 hC dX9_transfer_27 rfl 2 rfl rfl ?_
  rcases rq_some h with ⟨e_9, h⟩ | ⟨n9, e_9, h⟩
  rotate_left
  · exact wx_reqThrow hC [.int x2] [] knX9_requireActive mwX9_156 (tX9_requireActive E.2.1 hl9 x2 A hVC e_9) (vs9 hVC) kc9 (Nat.le_of_ble_eq_true rfl) (Nat.le_of_ble_eq_true rfl) rfl (Nat.le_of_ble_eq_true rfl) dX9_transfer_28 hT9 hQ hE (xTI h) (jA (sm2 h)) (by decide) rfl
  refine wx_reqOK 31 hC [.int x2] [] knX9_requireActive mwX9_156 (tX9_requireActive E.2.1 hl9 x2 A hVC e_9) (vs9 hVC) kc9 (Nat.le_of_ble_eq_true rfl) (Nat.le_of_ble_eq_true rfl) rfl (Nat.le_of_ble_eq_true rfl) dX9_transfer_28 rfl (by decide) rfl ?_
  refine wa_aload_n 32 0 hC dX9_transfer_31 rfl 0 rfl rfl ?_
  refine wa_getR 35 hC (vs9 hVC) (sr9_0 _) flX9_12 dX9_transfer_32 rfl ?_
  refine wa_getR 38 hC hVC.2.2.2.2.2.1 (sr0_2 _) flX9_159 dX9_transfer_35 rfl ?_
  refine wa_iload_n 39 1 hC dX9_transfer_38 rfl 1 rfl rfl ?_
  obtain ⟨g_1, h⟩ := gd_some h
  refine wa_aald 40 hC (vc11 hVC hVC.2.2.2.2.2.1) g_1 dX9_transfer_39 rfl ?_
  refine wa_astore (lv' := [(4, .ref (ρ 8 (16 * 0 + x1.toNatClampNeg))), (0, .ref (ρ 9 0)), (1, .int x1), (2, .int x2), (3, .int x3)]) 42 4 hC dX9_transfer_40 rfl (by decide) rfl rfl ?_
  refine wa_aload_n 43 0 hC dX9_transfer_42 rfl 1 rfl rfl ?_
  refine wa_getR 46 hC (vs9 hVC) (sr9_0 _) flX9_12 dX9_transfer_43 rfl ?_
  refine wa_getR 49 hC hVC.2.2.2.2.2.1 (sr0_2 _) flX9_159 dX9_transfer_46 rfl ?_
  refine wa_iload_n 50 2 hC dX9_transfer_49 rfl 3 rfl rfl ?_
  obtain ⟨g_2, h⟩ := gd_some h
  refine wa_aald 51 hC (vc11 hVC hVC.2.2.2.2.2.1) g_2 dX9_transfer_50 rfl ?_
  refine wa_astore (lv' := [(5, .ref (ρ 8 (16 * 0 + x2.toNatClampNeg))), (4, .ref (ρ 8 (16 * 0 + x1.toNatClampNeg))), (0, .ref (ρ 9 0)), (1, .int x1), (2, .int x2), (3, .int x3)]) 53 5 hC dX9_transfer_51 rfl (by decide) rfl rfl ?_
  refine wa_aload_n 54 0 hC dX9_transfer_53 rfl 2 rfl rfl ?_
  refine wa_aload 56 4 hC dX9_transfer_54 1 rfl rfl ?_
  refine wa_iload_n 57 3 hC dX9_transfer_56 rfl 5 rfl rfl ?_
  rcases rq_some h with ⟨e_8, h⟩ | ⟨n9, e_8, h⟩
  rotate_left
  · exact wx_reqThrow hC [.ref (ρ 8 (16 * 0 + x1.toNatClampNeg)), .int x3] [] knX9_requireShareKept mwX9_175 (tX9_requireShareKept E.2.1 hl9 (16 * 0 + x1.toNatClampNeg) x3 A hVC (vc8 hVC hVC.2.2.2.2.2.1 (inb_lt g_1)) e_8) (vs9 hVC) kc9 (Nat.le_of_ble_eq_true rfl) (Nat.le_of_ble_eq_true rfl) rfl (Nat.le_of_ble_eq_true rfl) dX9_transfer_57 hT9 hQ hE (xTI h) (jA (sm2 h)) (by decide) rfl
  refine wx_reqOK 60 hC [.ref (ρ 8 (16 * 0 + x1.toNatClampNeg)), .int x3] [] knX9_requireShareKept mwX9_175 (tX9_requireShareKept E.2.1 hl9 (16 * 0 + x1.toNatClampNeg) x3 A hVC (vc8 hVC hVC.2.2.2.2.2.1 (inb_lt g_1)) e_8) (vs9 hVC) kc9 (Nat.le_of_ble_eq_true rfl) (Nat.le_of_ble_eq_true rfl) rfl (Nat.le_of_ble_eq_true rfl) dX9_transfer_57 rfl (by decide) rfl ?_
  refine wa_aload_n 61 0 hC dX9_transfer_60 rfl 2 rfl rfl ?_
  refine wa_aload 63 5 hC dX9_transfer_61 0 rfl rfl ?_
  refine wa_iload_n 64 3 hC dX9_transfer_63 rfl 5 rfl rfl ?_
  rcases rq_some h with ⟨e_7, h⟩ | ⟨n9, e_7, h⟩
  rotate_left
  · exact wx_reqThrow hC [.ref (ρ 8 (16 * 0 + x2.toNatClampNeg)), .int x3] [] knX9_requireRoomForShares mwX9_168 (tX9_requireRoomForShares E.2.1 hl9 (16 * 0 + x2.toNatClampNeg) x3 A hVC (vc8 hVC hVC.2.2.2.2.2.1 (inb_lt g_2)) e_7) (vs9 hVC) kc9 (Nat.le_of_ble_eq_true rfl) (Nat.le_of_ble_eq_true rfl) rfl (Nat.le_of_ble_eq_true rfl) dX9_transfer_64 hT9 hQ hE (xTI h) (jA (sm2 h)) (by decide) rfl
  refine wx_reqOK 67 hC [.ref (ρ 8 (16 * 0 + x2.toNatClampNeg)), .int x3] [] knX9_requireRoomForShares mwX9_168 (tX9_requireRoomForShares E.2.1 hl9 (16 * 0 + x2.toNatClampNeg) x3 A hVC (vc8 hVC hVC.2.2.2.2.2.1 (inb_lt g_2)) e_7) (vs9 hVC) kc9 (Nat.le_of_ble_eq_true rfl) (Nat.le_of_ble_eq_true rfl) rfl (Nat.le_of_ble_eq_true rfl) dX9_transfer_64 rfl (by decide) rfl ?_
  refine wa_aload_n 68 0 hC dX9_transfer_67 rfl 2 rfl rfl ?_
  refine wa_getR 71 hC (vs9 hVC) (sr9_1 _) flX9_19 dX9_transfer_68 rfl ?_
  refine wa_aload_n 72 0 hC dX9_transfer_71 rfl 2 rfl rfl ?_
  refine wa_getR 75 hC (vs9 hVC) (sr9_0 _) flX9_12 dX9_transfer_72 rfl ?_
  obtain ⟨A_3, e_4, h⟩ := bd_some h
  have key : ∀ (ρ1 : Nat → Nat → Nat) (V1 : Nat → Nat → Prop), Ext ρ V ρ1 V1 → VC V1 → V1 8 (16 * 0 + x2.toNatClampNeg) → V1 8 (16 * 0 + x1.toNatClampNeg) → WA E G ρ1 V1 80 2957 (J A_3 Z) 78 [(5, .ref (ρ1 8 (16 * 0 + x2.toNatClampNeg))), (4, .ref (ρ1 8 (16 * 0 + x1.toNatClampNeg))), (0, .ref (ρ1 9 0)), (1, .int x1), (2, .int x2), (3, .int x3)] [] := by
    intro ρ V hE0 hVC hw1 hw2
    have hE := Ext.trans hE hE0
    refine wa_aload 80 4 hC dX9_transfer_78 1 rfl rfl ?_
    refine wa_dup 81 hC dX9_transfer_80 rfl rfl ?_
    refine wa_getIc 84 hC hw2 sh8_4 rfl flX9_172 dX9_transfer_81 rfl ?_
    refine wa_iload_n 85 3 hC dX9_transfer_84 rfl 5 rfl rfl ?_
    refine wa_isub 86 hC dX9_transfer_85 rfl ?_
    obtain ⟨A_5, eA_5, h⟩ := ltb_some h
    refine wa_putIc 89 hC hw2 nk8 eA_5 sh8_4 rfl fpX9_172 dX9_transfer_86 rfl ?_
    refine wa_aload 91 5 hC dX9_transfer_89 0 rfl rfl ?_
    refine wa_dup 92 hC dX9_transfer_91 rfl rfl ?_
    refine wa_getIc 95 hC hw1 sh8_4 rfl flX9_172 dX9_transfer_92 rfl ?_
    refine wa_iload_n 96 3 hC dX9_transfer_95 rfl 5 rfl rfl ?_
    refine wa_iadd 97 hC dX9_transfer_96 rfl ?_
    obtain ⟨A_6, eA_6, h⟩ := ltb_some h
    refine wa_putIc 100 hC hw1 nk8 eA_6 sh8_4 rfl fpX9_172 dX9_transfer_97 rfl ?_
    refine wa_aload 102 5 hC dX9_transfer_100 0 rfl rfl ?_
    refine wa_getIc 105 hC hw1 sh8_4 rfl flX9_172 dX9_transfer_102 rfl ?_
    exact wx_iret hC hQ hE (xI h) (jA (sm2 h)) (by decide) dX9_transfer_105
  refine wx_keep 78 hC [.ref (ρ 0 0)] [] knX6_keep mvX9_92 (tX6_keep E.2.1 A hVC e_4) (vs6 hVC) kc6 (Nat.le_of_ble_eq_true rfl) (Nat.le_of_ble_eq_true rfl) rfl (Nat.le_of_ble_eq_true rfl) dX9_transfer_75 rfl (by decide) rfl (fun ρ1 V1 hE9 hVC9 => ?_)
  rw [← (hE9 8 (16 * 0 + x2.toNatClampNeg) (vc8 hVC hVC.2.2.2.2.2.1 (inb_lt g_2))).2, ← (hE9 8 (16 * 0 + x1.toNatClampNeg) (vc8 hVC hVC.2.2.2.2.2.1 (inb_lt g_1))).2, ← (hE9 9 0 (vs9 hVC)).2]
  exact key ρ1 V1 hE9 hVC9 (hE9 8 (16 * 0 + x2.toNatClampNeg) (vc8 hVC hVC.2.2.2.2.2.1 (inb_lt g_2))).1 (hE9 8 (16 * 0 + x1.toNatClampNeg) (vc8 hVC hVC.2.2.2.2.2.1 (inb_lt g_1))).1
set_option maxRecDepth 20000 in
theorem tX9_assign (l : Launch) (hl9 : l.stackTraces = false) {G : gU} {ρ : Nat → Nat → Nat} {V : Nat → Nat → Prop} {Z : sM} (x1 : Int32) (x2 : Int32) (x3 : Int32) (A : sM) (_ : VC V) {r : Nat ⊕ Unit} {A' : sM} (h : fX9_assign x1 x2 x3 A = some (r, A')) : MX l yX9_assign cX9_assign 4 none 9 90 3000 G ρ V [.ref (ρ 9 0), .int x1, .int x2, .int x3] (J A Z) (rU r) (J A' Z) := by
  refine vx_enter (lv := [(0, .ref (ρ 9 0)), (1, .int x1), (2, .int x2), (3, .int x3)]) RX9 rfl (by decide) (Nat.le_of_ble_eq_true rfl) rfl ?_
  intro E hE1 hC hQ hT9 hVC
  subst hE1
  have hQ : QXX E G ρ V (rU r) (J A' Z) 90 3000 := hQ
  have hE : Ext ρ V ρ V := Ext.rfl
  rw [fX9_assign] at h
  refine wa_aload_n 1 0 hC dX9_assign_0 rfl 0 rfl rfl ?_
  refine wa_iload_n 2 1 hC dX9_assign_1 rfl 1 rfl rfl ?_
  rcases rq_some h with ⟨e_13, h⟩ | ⟨n9, e_13, h⟩
  rotate_left
  · exact wx_reqThrow hC [.int x1] [] knX9_requireSubscriber mwX9_150 (tX9_requireSubscriber E.2.1 hl9 x1 A hVC e_13) (vs9 hVC) kc9 (Nat.le_of_ble_eq_true rfl) (Nat.le_of_ble_eq_true rfl) rfl (Nat.le_of_ble_eq_true rfl) dX9_assign_2 hT9 hQ hE (xTU h) (jA (sm2 h)) (by decide) rfl
  refine wx_reqOK 5 hC [.int x1] [] knX9_requireSubscriber mwX9_150 (tX9_requireSubscriber E.2.1 hl9 x1 A hVC e_13) (vs9 hVC) kc9 (Nat.le_of_ble_eq_true rfl) (Nat.le_of_ble_eq_true rfl) rfl (Nat.le_of_ble_eq_true rfl) dX9_assign_2 rfl (by decide) rfl ?_
  refine wa_aload_n 6 0 hC dX9_assign_5 rfl 0 rfl rfl ?_
  refine wa_iload_n 7 2 hC dX9_assign_6 rfl 2 rfl rfl ?_
  rcases rq_some h with ⟨e_12, h⟩ | ⟨n9, e_12, h⟩
  rotate_left
  · exact wx_reqThrow hC [.int x2] [] knX9_requireSubscriber mwX9_150 (tX9_requireSubscriber E.2.1 hl9 x2 A hVC e_12) (vs9 hVC) kc9 (Nat.le_of_ble_eq_true rfl) (Nat.le_of_ble_eq_true rfl) rfl (Nat.le_of_ble_eq_true rfl) dX9_assign_7 hT9 hQ hE (xTU h) (jA (sm2 h)) (by decide) rfl
  refine wx_reqOK 10 hC [.int x2] [] knX9_requireSubscriber mwX9_150 (tX9_requireSubscriber E.2.1 hl9 x2 A hVC e_12) (vs9 hVC) kc9 (Nat.le_of_ble_eq_true rfl) (Nat.le_of_ble_eq_true rfl) rfl (Nat.le_of_ble_eq_true rfl) dX9_assign_7 rfl (by decide) rfl ?_
  refine wa_aload_n 11 0 hC dX9_assign_10 rfl 0 rfl rfl ?_
  refine wa_iload_n 12 1 hC dX9_assign_11 rfl 1 rfl rfl ?_
  refine wa_iload_n 13 2 hC dX9_assign_12 rfl 2 rfl rfl ?_
  rcases rq_some h with ⟨e_11, h⟩ | ⟨n9, e_11, h⟩
  rotate_left
  · exact wx_reqThrow hC [.int x1, .int x2] [] knX9_requireDifferent mwX9_181 (tX9_requireDifferent E.2.1 hl9 x1 x2 A hVC e_11) (vs9 hVC) kc9 (Nat.le_of_ble_eq_true rfl) (Nat.le_of_ble_eq_true rfl) rfl (Nat.le_of_ble_eq_true rfl) dX9_assign_13 hT9 hQ hE (xTU h) (jA (sm2 h)) (by decide) rfl
  refine wx_reqOK 16 hC [.int x1, .int x2] [] knX9_requireDifferent mwX9_181 (tX9_requireDifferent E.2.1 hl9 x1 x2 A hVC e_11) (vs9 hVC) kc9 (Nat.le_of_ble_eq_true rfl) (Nat.le_of_ble_eq_true rfl) rfl (Nat.le_of_ble_eq_true rfl) dX9_assign_13 rfl (by decide) rfl ?_
  refine wa_iload_n 17 3 hC dX9_assign_16 rfl 3 rfl rfl ?_
  refine wa_if_lt 20 26 hC dX9_assign_17 rfl rfl h (fun h => ?_) (fun h => ?_)
  · exact wx_throw (st := []) (ix := 18) (is := 185) (n9 := 1) hC hl9 hT9 hQ hE (xTU h) (jA (sm2 h)) xw_IllegalArgumentException rfl (by decide) rfl rfl (by decide) (by decide) (Nat.le_of_ble_eq_true rfl) dX9_assign_26 dX9_assign_29 dX9_assign_30 dX9_assign_32 dX9_assign_35
  · refine wa_iload_n 21 3 hC dX9_assign_20 rfl 3 rfl rfl ?_
    refine wa_bipush 23 hC dX9_assign_21 kb_100 rfl ?_
    refine wa_icmp_le 26 36 hC dX9_assign_23 rfl rfl h (fun h => ?_) (fun h => ?_)
    · refine wa_iload_n 37 3 hC dX9_assign_36 rfl 3 rfl rfl ?_
      obtain ⟨kj_1, ekj_1, h⟩ := ltb_some h
      have hkj_1 : kj_1 = some (r, A') → WA E G ρ V 3 18 (J A Z) 62 [(0, .ref (ρ 9 0)), (1, .int x1), (2, .int x2), (3, .int x3)] [] := by
        intro h
        rw [ekj_1] at h
        refine wa_aload_n 63 0 hC dX9_assign_62 rfl 0 rfl rfl ?_
        refine wa_iload_n 64 1 hC dX9_assign_63 rfl 1 rfl rfl ?_
        rcases rq_some h with ⟨e_8, h⟩ | ⟨n9, e_8, h⟩
        rotate_left
        · exact wx_reqThrow hC [.int x1] [] knX9_requireActive mwX9_156 (tX9_requireActive E.2.1 hl9 x1 A hVC e_8) (vs9 hVC) kc9 (Nat.le_of_ble_eq_true rfl) (Nat.le_of_ble_eq_true rfl) rfl (Nat.le_of_ble_eq_true rfl) dX9_assign_64 hT9 hQ hE (xTU h) (jA (sm2 h)) (by decide) rfl
        refine wx_reqOK 67 hC [.int x1] [] knX9_requireActive mwX9_156 (tX9_requireActive E.2.1 hl9 x1 A hVC e_8) (vs9 hVC) kc9 (Nat.le_of_ble_eq_true rfl) (Nat.le_of_ble_eq_true rfl) rfl (Nat.le_of_ble_eq_true rfl) dX9_assign_64 rfl (by decide) rfl ?_
        refine wa_aload_n 68 0 hC dX9_assign_67 rfl 0 rfl rfl ?_
        refine wa_iload_n 69 2 hC dX9_assign_68 rfl 2 rfl rfl ?_
        rcases rq_some h with ⟨e_7, h⟩ | ⟨n9, e_7, h⟩
        rotate_left
        · exact wx_reqThrow hC [.int x2] [] knX9_requireActive mwX9_156 (tX9_requireActive E.2.1 hl9 x2 A hVC e_7) (vs9 hVC) kc9 (Nat.le_of_ble_eq_true rfl) (Nat.le_of_ble_eq_true rfl) rfl (Nat.le_of_ble_eq_true rfl) dX9_assign_69 hT9 hQ hE (xTU h) (jA (sm2 h)) (by decide) rfl
        refine wx_reqOK 72 hC [.int x2] [] knX9_requireActive mwX9_156 (tX9_requireActive E.2.1 hl9 x2 A hVC e_7) (vs9 hVC) kc9 (Nat.le_of_ble_eq_true rfl) (Nat.le_of_ble_eq_true rfl) rfl (Nat.le_of_ble_eq_true rfl) dX9_assign_69 rfl (by decide) rfl ?_
        refine wa_aload_n 73 0 hC dX9_assign_72 rfl 0 rfl rfl ?_
        refine wa_getR 76 hC (vs9 hVC) (sr9_1 _) flX9_19 dX9_assign_73 rfl ?_
        refine wa_aload_n 77 0 hC dX9_assign_76 rfl 0 rfl rfl ?_
        refine wa_getR 80 hC (vs9 hVC) (sr9_0 _) flX9_12 dX9_assign_77 rfl ?_
        obtain ⟨A_2, e_3, h⟩ := bd_some h
        have key : ∀ (ρ1 : Nat → Nat → Nat) (V1 : Nat → Nat → Prop), Ext ρ V ρ1 V1 → VC V1 → WA E G ρ1 V1 77 2939 (J A_2 Z) 83 [(0, .ref (ρ1 9 0)), (1, .int x1), (2, .int x2), (3, .int x3)] [] := by
          intro ρ V hE0 hVC
          have hE := Ext.trans hE hE0
          refine wa_aload_n 84 0 hC dX9_assign_83 rfl 0 rfl rfl ?_
          refine wa_getR 87 hC (vs9 hVC) (sr9_0 _) flX9_12 dX9_assign_84 rfl ?_
          refine wa_getR 90 hC hVC.2.2.2.2.2.1 (sr0_2 _) flX9_159 dX9_assign_87 rfl ?_
          refine wa_iload_n 91 1 hC dX9_assign_90 rfl 1 rfl rfl ?_
          obtain ⟨g_4, h⟩ := gd_some h
          refine wa_aald 92 hC (vc11 hVC hVC.2.2.2.2.2.1) g_4 dX9_assign_91 rfl ?_
          refine wa_iload_n 93 2 hC dX9_assign_92 rfl 2 rfl rfl ?_
          refine wa_iload_n 94 3 hC dX9_assign_93 rfl 3 rfl rfl ?_
          obtain ⟨A_5, e_6, h⟩ := bd_some h
          refine wa_callVv 97 hC [.int x2, .int x3] [] knX8_setAssignment mvX9_193 (tX8_setAssignment E.2.1 (16 * 0 + x1.toNatClampNeg) x2 x3 A_2 hVC (vc8 hVC hVC.2.2.2.2.2.1 (inb_lt g_4)) e_6) (vc8 hVC hVC.2.2.2.2.2.1 (inb_lt g_4)) kc8 (Nat.le_of_ble_eq_true rfl) (Nat.le_of_ble_eq_true rfl) rfl (Nat.le_of_ble_eq_true rfl) dX9_assign_94 rfl (by decide) rfl ?_
          exact wx_vret hC hQ hE (xU h) (jA (sm2 h)) (by decide) dX9_assign_97
        refine wx_keep 83 hC [.ref (ρ 0 0)] [] knX6_keep mvX9_92 (tX6_keep E.2.1 A hVC e_3) (vs6 hVC) kc6 (Nat.le_of_ble_eq_true rfl) (Nat.le_of_ble_eq_true rfl) rfl (Nat.le_of_ble_eq_true rfl) dX9_assign_80 rfl (by decide) rfl (fun ρ1 V1 hE9 hVC9 => ?_)
        rw [← (hE9 9 0 (vs9 hVC)).2]
        exact key ρ1 V1 hE9 hVC9
      clear ekj_1
      refine wa_if_le 40 62 hC dX9_assign_37 rfl rfl h (fun h => ?_) (fun h => ?_)
      · exact hkj_1 h
      · refine wa_aload_n 41 0 hC dX9_assign_40 rfl 0 rfl rfl ?_
        refine wa_getR 44 hC (vs9 hVC) (sr9_0 _) flX9_12 dX9_assign_41 rfl ?_
        refine wa_iload_n 45 2 hC dX9_assign_44 rfl 2 rfl rfl ?_
        refine wa_iload_n 46 1 hC dX9_assign_45 rfl 1 rfl rfl ?_
        obtain ⟨r_9, e_10, h⟩ := bd_some h
        refine wa_callVi 49 hC [.int x2, .int x1] [] knX0_passesOnTo mvX9_187 (tX0_passesOnTo E.2.1 0 x2 x1 A hVC hVC.2.2.2.2.2.1 e_10) hVC.2.2.2.2.2.1 kc0 (Nat.le_of_ble_eq_true rfl) (Nat.le_of_ble_eq_true rfl) rfl (Nat.le_of_ble_eq_true rfl) dX9_assign_46 rfl (by decide) rfl ?_
        refine wa_if_eq 52 62 hC dX9_assign_49 rfl rfl h (fun h => ?_) (fun h => ?_)
        · exact hkj_1 h
        · exact wx_throw (st := []) (ix := 19) (is := 191) (n9 := 1) hC hl9 hT9 hQ hE (xTU h) (jA (sm2 h)) xw_IllegalArgumentException rfl (by decide) rfl rfl (by decide) (by decide) (Nat.le_of_ble_eq_true rfl) dX9_assign_52 dX9_assign_55 dX9_assign_56 dX9_assign_58 dX9_assign_61
    · exact wx_throw (st := []) (ix := 18) (is := 185) (n9 := 1) hC hl9 hT9 hQ hE (xTU h) (jA (sm2 h)) xw_IllegalArgumentException rfl (by decide) rfl rfl (by decide) (by decide) (Nat.le_of_ble_eq_true rfl) dX9_assign_26 dX9_assign_29 dX9_assign_30 dX9_assign_32 dX9_assign_35
set_option maxRecDepth 20000 in
theorem tX9_leave (l : Launch) (hl9 : l.stackTraces = false) {G : gU} {ρ : Nat → Nat → Nat} {V : Nat → Nat → Prop} {Z : sM} (x1 : Int32) (A : sM) (_ : VC V) {r : Nat ⊕ Int64} {A' : sM} (h : fX9_leave x1 A = some (r, A')) : MX l yX9_leave cX9_leave 2 (some .long) 9 90 3000 G ρ V [.ref (ρ 9 0), .int x1] (J A Z) (rL r) (J A' Z) := by
  refine vx_enter (lv := [(0, .ref (ρ 9 0)), (1, .int x1)]) RX9 rfl (by decide) (Nat.le_of_ble_eq_true rfl) rfl ?_
  intro E hE1 hC hQ hT9 hVC
  subst hE1
  have hQ : QXX E G ρ V (rL r) (J A' Z) 90 3000 := hQ
  have hE : Ext ρ V ρ V := Ext.rfl
  rw [fX9_leave] at h
  refine wa_aload_n 1 0 hC dX9_leave_0 rfl 0 rfl rfl ?_
  refine wa_iload_n 2 1 hC dX9_leave_1 rfl 1 rfl rfl ?_
  rcases rq_some h with ⟨e_8, h⟩ | ⟨n9, e_8, h⟩
  rotate_left
  · exact wx_reqThrow hC [.int x1] [] knX9_requireSubscriber mwX9_150 (tX9_requireSubscriber E.2.1 hl9 x1 A hVC e_8) (vs9 hVC) kc9 (Nat.le_of_ble_eq_true rfl) (Nat.le_of_ble_eq_true rfl) rfl (Nat.le_of_ble_eq_true rfl) dX9_leave_2 hT9 hQ hE (xTL h) (jA (sm2 h)) (by decide) rfl
  refine wx_reqOK 5 hC [.int x1] [] knX9_requireSubscriber mwX9_150 (tX9_requireSubscriber E.2.1 hl9 x1 A hVC e_8) (vs9 hVC) kc9 (Nat.le_of_ble_eq_true rfl) (Nat.le_of_ble_eq_true rfl) rfl (Nat.le_of_ble_eq_true rfl) dX9_leave_2 rfl (by decide) rfl ?_
  refine wa_aload_n 6 0 hC dX9_leave_5 rfl 0 rfl rfl ?_
  refine wa_getR 9 hC (vs9 hVC) (sr9_0 _) flX9_12 dX9_leave_6 rfl ?_
  refine wa_getR 12 hC hVC.2.2.2.2.2.1 (sr0_2 _) flX9_159 dX9_leave_9 rfl ?_
  refine wa_iload_n 13 1 hC dX9_leave_12 rfl 1 rfl rfl ?_
  obtain ⟨g_1, h⟩ := gd_some h
  refine wa_aald 14 hC (vc11 hVC hVC.2.2.2.2.2.1) g_1 dX9_leave_13 rfl ?_
  refine wa_getIc 17 hC (vc8 hVC hVC.2.2.2.2.2.1 (inb_lt g_1)) sh8_0 rfl flX9_196 dX9_leave_14 rfl ?_
  refine wa_iconst 18 hC dX9_leave_17 kc_2 rfl ?_
  refine wa_icmp_ne 21 31 hC dX9_leave_18 rfl rfl h (fun h => ?_) (fun h => ?_)
  · refine wa_aload_n 32 0 hC dX9_leave_31 rfl 0 rfl rfl ?_
    refine wa_getR 35 hC (vs9 hVC) (sr9_1 _) flX9_19 dX9_leave_32 rfl ?_
    refine wa_aload_n 36 0 hC dX9_leave_35 rfl 0 rfl rfl ?_
    refine wa_getR 39 hC (vs9 hVC) (sr9_0 _) flX9_12 dX9_leave_36 rfl ?_
    obtain ⟨A_2, e_3, h⟩ := bd_some h
    have key : ∀ (ρ1 : Nat → Nat → Nat) (V1 : Nat → Nat → Prop), Ext ρ V ρ1 V1 → VC V1 → WA E G ρ1 V1 73 2915 (J A_2 Z) 42 [(0, .ref (ρ1 9 0)), (1, .int x1)] [] := by
      intro ρ V hE0 hVC
      have hE := Ext.trans hE hE0
      refine wa_aload_n 43 0 hC dX9_leave_42 rfl 0 rfl rfl ?_
      refine wa_getR 46 hC (vs9 hVC) (sr9_0 _) flX9_12 dX9_leave_43 rfl ?_
      refine wa_iload_n 47 1 hC dX9_leave_46 rfl 1 rfl rfl ?_
      obtain ⟨A_4, e_7, h⟩ := bd_some h
      refine wa_callVv 50 hC [.int x1] [] knX0_letGo mvX9_201 (tX0_letGo E.2.1 0 x1 A_2 hVC hVC.2.2.2.2.2.1 e_7) hVC.2.2.2.2.2.1 kc0 (Nat.le_of_ble_eq_true rfl) (Nat.le_of_ble_eq_true rfl) rfl (Nat.le_of_ble_eq_true rfl) dX9_leave_47 rfl (by decide) rfl ?_
      refine wa_aload_n 51 0 hC dX9_leave_50 rfl 0 rfl rfl ?_
      refine wa_getR 54 hC (vs9 hVC) (sr9_0 _) flX9_12 dX9_leave_51 rfl ?_
      refine wa_getR 57 hC hVC.2.2.2.2.2.1 (sr0_2 _) flX9_159 dX9_leave_54 rfl ?_
      refine wa_iload_n 58 1 hC dX9_leave_57 rfl 1 rfl rfl ?_
      obtain ⟨g_5, h⟩ := gd_some h
      refine wa_aald 59 hC (vc11 hVC hVC.2.2.2.2.2.1) g_5 dX9_leave_58 rfl ?_
      refine wa_getR 62 hC (vc8 hVC hVC.2.2.2.2.2.1 (inb_lt g_5)) (sr8_9 _) flX9_204 dX9_leave_59 rfl ?_
      refine wa_iconst 63 hC dX9_leave_62 kc_3 rfl ?_
      refine wa_laldc 64 hC (vc26 hVC (vc8 hVC hVC.2.2.2.2.2.1 (inb_lt g_5))) ar26 rfl (by decide) dX9_leave_63 rfl ?_
      exact wx_lret hC hQ hE (xL h) (jA (sm2 h)) (by decide) dX9_leave_64
    refine wx_keep 42 hC [.ref (ρ 0 0)] [] knX6_keep mvX9_92 (tX6_keep E.2.1 A hVC e_3) (vs6 hVC) kc6 (Nat.le_of_ble_eq_true rfl) (Nat.le_of_ble_eq_true rfl) rfl (Nat.le_of_ble_eq_true rfl) dX9_leave_39 rfl (by decide) rfl (fun ρ1 V1 hE9 hVC9 => ?_)
    rw [← (hE9 9 0 (vs9 hVC)).2]
    exact key ρ1 V1 hE9 hVC9
  · exact wx_throw (st := []) (ix := 20) (is := 199) (n9 := 2) hC hl9 hT9 hQ hE (xTL h) (jA (sm2 h)) xw_IllegalStateException rfl (by decide) rfl rfl (by decide) (by decide) (Nat.le_of_ble_eq_true rfl) dX9_leave_21 dX9_leave_24 dX9_leave_25 dX9_leave_27 dX9_leave_30
set_option maxRecDepth 20000 in
theorem tX9_state (l : Launch) (hl9 : l.stackTraces = false) {G : gU} {ρ : Nat → Nat → Nat} {V : Nat → Nat → Prop} {Z : sM} (x1 : Int32) (A : sM) (_ : VC V) {r : Nat ⊕ Int32} {A' : sM} (h : fX9_state x1 A = some (r, A')) : MX l yX9_state cX9_state 2 (some .int) 9 90 3000 G ρ V [.ref (ρ 9 0), .int x1] (J A Z) (rI r) (J A' Z) := by
  refine vx_enter (lv := [(0, .ref (ρ 9 0)), (1, .int x1)]) RX9 rfl (by decide) (Nat.le_of_ble_eq_true rfl) rfl ?_
  intro E hE1 hC hQ hT9 hVC
  subst hE1
  have hQ : QXX E G ρ V (rI r) (J A' Z) 90 3000 := hQ
  have hE : Ext ρ V ρ V := Ext.rfl
  rw [fX9_state] at h
  refine wa_aload_n 1 0 hC dX9_state_0 rfl 0 rfl rfl ?_
  refine wa_iload_n 2 1 hC dX9_state_1 rfl 1 rfl rfl ?_
  rcases rq_some h with ⟨e_2, h⟩ | ⟨n9, e_2, h⟩
  rotate_left
  · exact wx_reqThrow hC [.int x1] [] knX9_requireSubscriber mwX9_150 (tX9_requireSubscriber E.2.1 hl9 x1 A hVC e_2) (vs9 hVC) kc9 (Nat.le_of_ble_eq_true rfl) (Nat.le_of_ble_eq_true rfl) rfl (Nat.le_of_ble_eq_true rfl) dX9_state_2 hT9 hQ hE (xTI h) (jA (sm2 h)) (by decide) rfl
  refine wx_reqOK 5 hC [.int x1] [] knX9_requireSubscriber mwX9_150 (tX9_requireSubscriber E.2.1 hl9 x1 A hVC e_2) (vs9 hVC) kc9 (Nat.le_of_ble_eq_true rfl) (Nat.le_of_ble_eq_true rfl) rfl (Nat.le_of_ble_eq_true rfl) dX9_state_2 rfl (by decide) rfl ?_
  refine wa_aload_n 6 0 hC dX9_state_5 rfl 0 rfl rfl ?_
  refine wa_getR 9 hC (vs9 hVC) (sr9_0 _) flX9_12 dX9_state_6 rfl ?_
  refine wa_getR 12 hC hVC.2.2.2.2.2.1 (sr0_2 _) flX9_159 dX9_state_9 rfl ?_
  refine wa_iload_n 13 1 hC dX9_state_12 rfl 1 rfl rfl ?_
  obtain ⟨g_1, h⟩ := gd_some h
  refine wa_aald 14 hC (vc11 hVC hVC.2.2.2.2.2.1) g_1 dX9_state_13 rfl ?_
  refine wa_getIc 17 hC (vc8 hVC hVC.2.2.2.2.2.1 (inb_lt g_1)) sh8_0 rfl flX9_196 dX9_state_14 rfl ?_
  exact wx_iret hC hQ hE (xI h) (jA (sm2 h)) (by decide) dX9_state_17
set_option maxRecDepth 20000 in
theorem tX9_shares (l : Launch) (hl9 : l.stackTraces = false) {G : gU} {ρ : Nat → Nat → Nat} {V : Nat → Nat → Prop} {Z : sM} (x1 : Int32) (A : sM) (_ : VC V) {r : Nat ⊕ Int32} {A' : sM} (h : fX9_shares x1 A = some (r, A')) : MX l yX9_shares cX9_shares 2 (some .int) 9 90 3000 G ρ V [.ref (ρ 9 0), .int x1] (J A Z) (rI r) (J A' Z) := by
  refine vx_enter (lv := [(0, .ref (ρ 9 0)), (1, .int x1)]) RX9 rfl (by decide) (Nat.le_of_ble_eq_true rfl) rfl ?_
  intro E hE1 hC hQ hT9 hVC
  subst hE1
  have hQ : QXX E G ρ V (rI r) (J A' Z) 90 3000 := hQ
  have hE : Ext ρ V ρ V := Ext.rfl
  rw [fX9_shares] at h
  refine wa_aload_n 1 0 hC dX9_shares_0 rfl 0 rfl rfl ?_
  refine wa_iload_n 2 1 hC dX9_shares_1 rfl 1 rfl rfl ?_
  rcases rq_some h with ⟨e_2, h⟩ | ⟨n9, e_2, h⟩
  rotate_left
  · exact wx_reqThrow hC [.int x1] [] knX9_requireSubscriber mwX9_150 (tX9_requireSubscriber E.2.1 hl9 x1 A hVC e_2) (vs9 hVC) kc9 (Nat.le_of_ble_eq_true rfl) (Nat.le_of_ble_eq_true rfl) rfl (Nat.le_of_ble_eq_true rfl) dX9_shares_2 hT9 hQ hE (xTI h) (jA (sm2 h)) (by decide) rfl
  refine wx_reqOK 5 hC [.int x1] [] knX9_requireSubscriber mwX9_150 (tX9_requireSubscriber E.2.1 hl9 x1 A hVC e_2) (vs9 hVC) kc9 (Nat.le_of_ble_eq_true rfl) (Nat.le_of_ble_eq_true rfl) rfl (Nat.le_of_ble_eq_true rfl) dX9_shares_2 rfl (by decide) rfl ?_
  refine wa_aload_n 6 0 hC dX9_shares_5 rfl 0 rfl rfl ?_
  refine wa_getR 9 hC (vs9 hVC) (sr9_0 _) flX9_12 dX9_shares_6 rfl ?_
  refine wa_getR 12 hC hVC.2.2.2.2.2.1 (sr0_2 _) flX9_159 dX9_shares_9 rfl ?_
  refine wa_iload_n 13 1 hC dX9_shares_12 rfl 1 rfl rfl ?_
  obtain ⟨g_1, h⟩ := gd_some h
  refine wa_aald 14 hC (vc11 hVC hVC.2.2.2.2.2.1) g_1 dX9_shares_13 rfl ?_
  refine wa_getIc 17 hC (vc8 hVC hVC.2.2.2.2.2.1 (inb_lt g_1)) sh8_4 rfl flX9_172 dX9_shares_14 rfl ?_
  exact wx_iret hC hQ hE (xI h) (jA (sm2 h)) (by decide) dX9_shares_17
set_option maxRecDepth 20000 in
theorem tX9_waitingPlace (l : Launch) (hl9 : l.stackTraces = false) {G : gU} {ρ : Nat → Nat → Nat} {V : Nat → Nat → Prop} {Z : sM} (x1 : Int32) (A : sM) (_ : VC V) {r : Nat ⊕ Int32} {A' : sM} (h : fX9_waitingPlace x1 A = some (r, A')) : MX l yX9_waitingPlace cX9_waitingPlace 2 (some .int) 9 90 3000 G ρ V [.ref (ρ 9 0), .int x1] (J A Z) (rI r) (J A' Z) := by
  refine vx_enter (lv := [(0, .ref (ρ 9 0)), (1, .int x1)]) RX9 rfl (by decide) (Nat.le_of_ble_eq_true rfl) rfl ?_
  intro E hE1 hC hQ hT9 hVC
  subst hE1
  have hQ : QXX E G ρ V (rI r) (J A' Z) 90 3000 := hQ
  have hE : Ext ρ V ρ V := Ext.rfl
  rw [fX9_waitingPlace] at h
  refine wa_aload_n 1 0 hC dX9_waitingPlace_0 rfl 0 rfl rfl ?_
  refine wa_iload_n 2 1 hC dX9_waitingPlace_1 rfl 1 rfl rfl ?_
  rcases rq_some h with ⟨e_3, h⟩ | ⟨n9, e_3, h⟩
  rotate_left
  · exact wx_reqThrow hC [.int x1] [] knX9_requireSubscriber mwX9_150 (tX9_requireSubscriber E.2.1 hl9 x1 A hVC e_3) (vs9 hVC) kc9 (Nat.le_of_ble_eq_true rfl) (Nat.le_of_ble_eq_true rfl) rfl (Nat.le_of_ble_eq_true rfl) dX9_waitingPlace_2 hT9 hQ hE (xTI h) (jA (sm2 h)) (by decide) rfl
  refine wx_reqOK 5 hC [.int x1] [] knX9_requireSubscriber mwX9_150 (tX9_requireSubscriber E.2.1 hl9 x1 A hVC e_3) (vs9 hVC) kc9 (Nat.le_of_ble_eq_true rfl) (Nat.le_of_ble_eq_true rfl) rfl (Nat.le_of_ble_eq_true rfl) dX9_waitingPlace_2 rfl (by decide) rfl ?_
  refine wa_aload_n 6 0 hC dX9_waitingPlace_5 rfl 0 rfl rfl ?_
  refine wa_getR 9 hC (vs9 hVC) (sr9_0 _) flX9_12 dX9_waitingPlace_6 rfl ?_
  refine wa_iload_n 10 1 hC dX9_waitingPlace_9 rfl 1 rfl rfl ?_
  obtain ⟨r_1, e_2, h⟩ := bd_some h
  refine wa_callVi 13 hC [.int x1] [] knX0_placeOnWaitingList mvX9_208 (tX0_placeOnWaitingList E.2.1 0 x1 A hVC hVC.2.2.2.2.2.1 e_2) hVC.2.2.2.2.2.1 kc0 (Nat.le_of_ble_eq_true rfl) (Nat.le_of_ble_eq_true rfl) rfl (Nat.le_of_ble_eq_true rfl) dX9_waitingPlace_10 rfl (by decide) rfl ?_
  exact wx_iret hC hQ hE (xI h) (jA (sm2 h)) (by decide) dX9_waitingPlace_13
set_option maxRecDepth 20000 in
theorem tX9_passDays (l : Launch) (hl9 : l.stackTraces = false) {G : gU} {ρ : Nat → Nat → Nat} {V : Nat → Nat → Prop} {Z : sM} (x1 : Int32) (A : sM) (_ : VC V) {r : Nat ⊕ Int32} {A' : sM} (h : fX9_passDays x1 A = some (r, A')) : MX l yX9_passDays cX9_passDays 2 (some .int) 8 90 3000 G ρ V [.ref (ρ 9 0), .int x1] (J A Z) (rI r) (J A' Z) := by
  refine vx_enter (lv := [(0, .ref (ρ 9 0)), (1, .int x1)]) RX9 rfl (by decide) (Nat.le_of_ble_eq_true rfl) rfl ?_
  intro E hE1 hC hQ hT9 hVC
  subst hE1
  have hQ : QXX E G ρ V (rI r) (J A' Z) 90 3000 := hQ
  have hE : Ext ρ V ρ V := Ext.rfl
  rw [fX9_passDays] at h
  refine wa_iload_n 1 1 hC dX9_passDays_0 rfl 1 rfl rfl ?_
  refine wa_iconst 2 hC dX9_passDays_1 kc_1 rfl ?_
  refine wa_icmp_lt 5 11 hC dX9_passDays_2 rfl rfl h (fun h => ?_) (fun h => ?_)
  · exact wx_throw (st := []) (ix := 21) (is := 211) (n9 := 1) hC hl9 hT9 hQ hE (xTI h) (jA (sm2 h)) xw_IllegalArgumentException rfl (by decide) rfl rfl (by decide) (by decide) (Nat.le_of_ble_eq_true rfl) dX9_passDays_11 dX9_passDays_14 dX9_passDays_15 dX9_passDays_17 dX9_passDays_20
  · refine wa_iload_n 6 1 hC dX9_passDays_5 rfl 1 rfl rfl ?_
    refine wa_bipush 8 hC dX9_passDays_6 kb_30 rfl ?_
    refine wa_icmp_le 11 21 hC dX9_passDays_8 rfl rfl h (fun h => ?_) (fun h => ?_)
    · refine wa_iload_n 22 1 hC dX9_passDays_21 rfl 1 rfl rfl ?_
      refine wa_bipush 24 hC dX9_passDays_22 kb_30 rfl ?_
      refine wa_aload_n 25 0 hC dX9_passDays_24 rfl 0 rfl rfl ?_
      refine wa_getR 28 hC (vs9 hVC) (sr9_0 _) flX9_12 dX9_passDays_25 rfl ?_
      refine wa_getIc 31 hC hVC.2.2.2.2.2.1 sh0_5 rfl flX9_213 dX9_passDays_28 rfl ?_
      refine wa_isub 32 hC dX9_passDays_31 rfl ?_
      refine wa_icmp_le 35 45 hC dX9_passDays_32 rfl rfl h (fun h => ?_) (fun h => ?_)
      · refine wa_aload_n 46 0 hC dX9_passDays_45 rfl 0 rfl rfl ?_
        refine wa_getR 49 hC (vs9 hVC) (sr9_1 _) flX9_19 dX9_passDays_46 rfl ?_
        refine wa_aload_n 50 0 hC dX9_passDays_49 rfl 0 rfl rfl ?_
        refine wa_getR 53 hC (vs9 hVC) (sr9_0 _) flX9_12 dX9_passDays_50 rfl ?_
        obtain ⟨A_1, e_2, h⟩ := bd_some h
        have key : ∀ (ρ1 : Nat → Nat → Nat) (V1 : Nat → Nat → Prop), Ext ρ V ρ1 V1 → VC V1 → WA E G ρ1 V1 72 2909 (J A_1 Z) 56 [(0, .ref (ρ1 9 0)), (1, .int x1)] [] := by
          intro ρ V hE0 hVC
          have hE := Ext.trans hE hE0
          refine wa_aload_n 57 0 hC dX9_passDays_56 rfl 0 rfl rfl ?_
          refine wa_getR 60 hC (vs9 hVC) (sr9_0 _) flX9_12 dX9_passDays_57 rfl ?_
          refine wa_iload_n 61 1 hC dX9_passDays_60 rfl 1 rfl rfl ?_
          obtain ⟨A_3, e_4, h⟩ := bd_some h
          refine wa_callVv 64 hC [.int x1] [] knX0_addDays mvX9_218 (tX0_addDays E.2.1 0 x1 A_1 hVC hVC.2.2.2.2.2.1 e_4) hVC.2.2.2.2.2.1 kc0 (Nat.le_of_ble_eq_true rfl) (Nat.le_of_ble_eq_true rfl) rfl (Nat.le_of_ble_eq_true rfl) dX9_passDays_61 rfl (by decide) rfl ?_
          refine wa_aload_n 65 0 hC dX9_passDays_64 rfl 0 rfl rfl ?_
          refine wa_getR 68 hC (vs9 hVC) (sr9_0 _) flX9_12 dX9_passDays_65 rfl ?_
          refine wa_getIc 71 hC hVC.2.2.2.2.2.1 sh0_5 rfl flX9_213 dX9_passDays_68 rfl ?_
          exact wx_iret hC hQ hE (xI h) (jA (sm2 h)) (by decide) dX9_passDays_71
        refine wx_keep 56 hC [.ref (ρ 0 0)] [] knX6_keep mvX9_92 (tX6_keep E.2.1 A hVC e_2) (vs6 hVC) kc6 (Nat.le_of_ble_eq_true rfl) (Nat.le_of_ble_eq_true rfl) rfl (Nat.le_of_ble_eq_true rfl) dX9_passDays_53 rfl (by decide) rfl (fun ρ1 V1 hE9 hVC9 => ?_)
        rw [← (hE9 9 0 (vs9 hVC)).2]
        exact key ρ1 V1 hE9 hVC9
      · exact wx_throw (st := []) (ix := 22) (is := 216) (n9 := 2) hC hl9 hT9 hQ hE (xTI h) (jA (sm2 h)) xw_IllegalStateException rfl (by decide) rfl rfl (by decide) (by decide) (Nat.le_of_ble_eq_true rfl) dX9_passDays_35 dX9_passDays_38 dX9_passDays_39 dX9_passDays_41 dX9_passDays_44
    · exact wx_throw (st := []) (ix := 21) (is := 211) (n9 := 1) hC hl9 hT9 hQ hE (xTI h) (jA (sm2 h)) xw_IllegalArgumentException rfl (by decide) rfl rfl (by decide) (by decide) (Nat.le_of_ble_eq_true rfl) dX9_passDays_11 dX9_passDays_14 dX9_passDays_15 dX9_passDays_17 dX9_passDays_20
set_option maxRecDepth 20000 in
theorem tX9_generate (l : Launch) (hl9 : l.stackTraces = false) {G : gU} {ρ : Nat → Nat → Nat} {V : Nat → Nat → Prop} {Z : sM} (x1 : Int32) (x2 : Int32) (A : sM) (_ : VC V) {r : Nat ⊕ Int32} {A' : sM} (h : fX9_generate x1 x2 A = some (r, A')) : MX l yX9_generate cX9_generate 5 (some .int) 9 90 3000 G ρ V [.ref (ρ 9 0), .int x1, .int x2] (J A Z) (rI r) (J A' Z) := by
  refine vx_enter (lv := [(0, .ref (ρ 9 0)), (1, .int x1), (2, .int x2)]) RX9 rfl (by decide) (Nat.le_of_ble_eq_true rfl) rfl ?_
  intro E hE1 hC hQ hT9 hVC
  subst hE1
  have hQ : QXX E G ρ V (rI r) (J A' Z) 90 3000 := hQ
  have hE : Ext ρ V ρ V := Ext.rfl
  rw [fX9_generate] at h
  refine wa_aload_n 1 0 hC dX9_generate_0 rfl 0 rfl rfl ?_
  refine wa_iload_n 2 1 hC dX9_generate_1 rfl 1 rfl rfl ?_
  rcases rq_some h with ⟨e_11, h⟩ | ⟨n9, e_11, h⟩
  rotate_left
  · exact wx_reqThrow hC [.int x1] [] knX9_requireHour mwX9_128 (tX9_requireHour E.2.1 hl9 x1 A hVC e_11) (vs9 hVC) kc9 (Nat.le_of_ble_eq_true rfl) (Nat.le_of_ble_eq_true rfl) rfl (Nat.le_of_ble_eq_true rfl) dX9_generate_2 hT9 hQ hE (xTI h) (jA (sm2 h)) (by decide) rfl
  refine wx_reqOK 5 hC [.int x1] [] knX9_requireHour mwX9_128 (tX9_requireHour E.2.1 hl9 x1 A hVC e_11) (vs9 hVC) kc9 (Nat.le_of_ble_eq_true rfl) (Nat.le_of_ble_eq_true rfl) rfl (Nat.le_of_ble_eq_true rfl) dX9_generate_2 rfl (by decide) rfl ?_
  refine wa_iload_n 6 2 hC dX9_generate_5 rfl 2 rfl rfl ?_
  refine wa_iconst 7 hC dX9_generate_6 kc_1 rfl ?_
  refine wa_icmp_lt 10 16 hC dX9_generate_7 rfl rfl h (fun h => ?_) (fun h => ?_)
  · exact wx_throw (st := []) (ix := 23) (is := 222) (n9 := 1) hC hl9 hT9 hQ hE (xTI h) (jA (sm2 h)) xw_IllegalArgumentException rfl (by decide) rfl rfl (by decide) (by decide) (Nat.le_of_ble_eq_true rfl) dX9_generate_16 dX9_generate_19 dX9_generate_20 dX9_generate_22 dX9_generate_25
  · refine wa_iload_n 11 2 hC dX9_generate_10 rfl 2 rfl rfl ?_
    refine wa_ldc 13 hC dX9_generate_11 lcX9_221 rfl ?_
    refine wa_icmp_le 16 26 hC dX9_generate_13 rfl rfl h (fun h => ?_) (fun h => ?_)
    · refine wa_aload_n 27 0 hC dX9_generate_26 rfl 0 rfl rfl ?_
      refine wa_getR 30 hC (vs9 hVC) (sr9_0 _) flX9_12 dX9_generate_27 rfl ?_
      refine wa_getIc 33 hC hVC.2.2.2.2.2.1 sh0_4 rfl flX9_224 dX9_generate_30 rfl ?_
      refine wa_aload_n 34 0 hC dX9_generate_33 rfl 0 rfl rfl ?_
      refine wa_getR 37 hC (vs9 hVC) (sr9_0 _) flX9_12 dX9_generate_34 rfl ?_
      refine wa_getR 40 hC hVC.2.2.2.2.2.1 (sr0_0 _) flX9_104 dX9_generate_37 rfl ?_
      refine wa_getR 43 hC (vc4 hVC hVC.2.2.2.2.2.1) (sr4_6 _) flX9_131 dX9_generate_40 rfl ?_
      refine wa_iload_n 44 1 hC dX9_generate_43 rfl 1 rfl rfl ?_
      obtain ⟨g_1, h⟩ := gd_some h
      refine wa_ialdc 45 hC (vc19 hVC (vc4 hVC hVC.2.2.2.2.2.1)) ar19 rfl g_1 dX9_generate_44 rfl ?_
      obtain ⟨r_2, e_10, h⟩ := bd_some h
      refine wa_callSi 48 hC [.int (A.1 0 4 0 0), .int (A.1 19 0 0 x1.toNatClampNeg)] [] knX7_cell msX9_227 (tX7_cell E.2.1 (A.1 0 4 0 0) (A.1 19 0 0 x1.toNatClampNeg) A hVC e_10) (Nat.le_of_ble_eq_true rfl) (Nat.le_of_ble_eq_true rfl) rfl (Nat.le_of_ble_eq_true rfl) dX9_generate_45 rfl (by decide) rfl ?_
      refine wa_istore_n (lv' := [(3, .int r_2), (0, .ref (ρ 9 0)), (1, .int x1), (2, .int x2)]) 49 3 hC dX9_generate_48 rfl rfl (by decide) rfl rfl ?_
      refine wa_aload_n 50 0 hC dX9_generate_49 rfl 1 rfl rfl ?_
      refine wa_getR 53 hC (vs9 hVC) (sr9_0 _) flX9_12 dX9_generate_50 rfl ?_
      refine wa_getR 56 hC hVC.2.2.2.2.2.1 (sr0_1 _) flX9_233 dX9_generate_53 rfl ?_
      refine wa_getR 59 hC (vc7 hVC hVC.2.2.2.2.2.1) (sr7_0 _) flX9_237 dX9_generate_56 rfl ?_
      refine wa_astore (lv' := [(4, .ref (ρ 22 0)), (3, .int r_2), (0, .ref (ρ 9 0)), (1, .int x1), (2, .int x2)]) 61 4 hC dX9_generate_59 rfl (by decide) rfl rfl ?_
      refine wa_iload_n 62 2 hC dX9_generate_61 rfl 4 rfl rfl ?_
      refine wa_ldc 64 hC dX9_generate_62 lcX9_221 rfl ?_
      refine wa_aload 66 4 hC dX9_generate_64 0 rfl rfl ?_
      refine wa_iload_n 67 3 hC dX9_generate_66 rfl 1 rfl rfl ?_
      obtain ⟨g_3, h⟩ := gd_some h
      refine wa_ialdc 68 hC (vc22 hVC (vc7 hVC hVC.2.2.2.2.2.1)) ar22 rfl g_3 dX9_generate_67 rfl ?_
      refine wa_isub 69 hC dX9_generate_68 rfl ?_
      refine wa_icmp_le 72 82 hC dX9_generate_69 rfl rfl h (fun h => ?_) (fun h => ?_)
      · refine wa_aload_n 83 0 hC dX9_generate_82 rfl 2 rfl rfl ?_
        refine wa_getR 86 hC (vs9 hVC) (sr9_1 _) flX9_19 dX9_generate_83 rfl ?_
        refine wa_aload_n 87 0 hC dX9_generate_86 rfl 2 rfl rfl ?_
        refine wa_getR 90 hC (vs9 hVC) (sr9_0 _) flX9_12 dX9_generate_87 rfl ?_
        obtain ⟨A_4, e_5, h⟩ := bd_some h
        have key : ∀ (ρ1 : Nat → Nat → Nat) (V1 : Nat → Nat → Prop), Ext ρ V ρ1 V1 → VC V1 → V1 22 0 → WA E G ρ1 V1 73 2915 (J A_4 Z) 93 [(4, .ref (ρ1 22 0)), (3, .int r_2), (0, .ref (ρ1 9 0)), (1, .int x1), (2, .int x2)] [] := by
          intro ρ V hE0 hVC hw1
          have hE := Ext.trans hE hE0
          refine wa_aload 95 4 hC dX9_generate_93 0 rfl rfl ?_
          refine wa_iload_n 96 3 hC dX9_generate_95 rfl 1 rfl rfl ?_
          refine wa_dup2 97 hC dX9_generate_96 rfl rfl rfl ?_
          obtain ⟨g_6, h⟩ := gd_some h
          refine wa_ialdc 98 hC hw1 ar22 rfl g_6 dX9_generate_97 rfl ?_
          refine wa_iload_n 99 2 hC dX9_generate_98 rfl 4 rfl rfl ?_
          refine wa_iadd 100 hC dX9_generate_99 rfl ?_
          obtain ⟨g_7, h⟩ := gd_some h
          obtain ⟨A_8, eA_8, h⟩ := ltb_some h
          refine wa_iastc 101 hC hw1 nk22 ar22 rfl g_7 eA_8 dX9_generate_100 rfl ?_
          refine wa_aload 103 4 hC dX9_generate_101 0 rfl rfl ?_
          refine wa_iload_n 104 3 hC dX9_generate_103 rfl 1 rfl rfl ?_
          obtain ⟨g_9, h⟩ := gd_some h
          refine wa_ialdc 105 hC hw1 ar22 rfl g_9 dX9_generate_104 rfl ?_
          exact wx_iret hC hQ hE (xI h) (jA (sm2 h)) (by decide) dX9_generate_105
        refine wx_keep 93 hC [.ref (ρ 0 0)] [] knX6_keep mvX9_92 (tX6_keep E.2.1 A hVC e_5) (vs6 hVC) kc6 (Nat.le_of_ble_eq_true rfl) (Nat.le_of_ble_eq_true rfl) rfl (Nat.le_of_ble_eq_true rfl) dX9_generate_90 rfl (by decide) rfl (fun ρ1 V1 hE9 hVC9 => ?_)
        rw [← (hE9 22 0 (vc22 hVC (vc7 hVC hVC.2.2.2.2.2.1))).2, ← (hE9 9 0 (vs9 hVC)).2]
        exact key ρ1 V1 hE9 hVC9 (hE9 22 0 (vc22 hVC (vc7 hVC hVC.2.2.2.2.2.1))).1
      · exact wx_throw (st := []) (ix := 24) (is := 240) (n9 := 2) hC hl9 hT9 hQ hE (xTI h) (jA (sm2 h)) xw_IllegalStateException rfl (by decide) rfl rfl (by decide) (by decide) (Nat.le_of_ble_eq_true rfl) dX9_generate_72 dX9_generate_75 dX9_generate_76 dX9_generate_78 dX9_generate_81
    · exact wx_throw (st := []) (ix := 23) (is := 222) (n9 := 1) hC hl9 hT9 hQ hE (xTI h) (jA (sm2 h)) xw_IllegalArgumentException rfl (by decide) rfl rfl (by decide) (by decide) (Nat.le_of_ble_eq_true rfl) dX9_generate_16 dX9_generate_19 dX9_generate_20 dX9_generate_22 dX9_generate_25
set_option maxRecDepth 20000 in
theorem tX9_bill (l : Launch) (hl9 : l.stackTraces = false) {G : gU} {ρ : Nat → Nat → Nat} {V : Nat → Nat → Prop} {Z : sM} (x1 : Int32) (x2 : Int32) (A : sM) (_ : VC V) {r : Nat ⊕ Int64} {A' : sM} (h : fX9_bill x1 x2 A = some (r, A')) : MX l yX9_bill cX9_bill 4 (some .long) 9 90 3000 G ρ V [.ref (ρ 9 0), .int x1, .int x2] (J A Z) (rL r) (J A' Z) := by
  refine vx_enter (lv := [(0, .ref (ρ 9 0)), (1, .int x1), (2, .int x2)]) RX9 rfl (by decide) (Nat.le_of_ble_eq_true rfl) rfl ?_
  intro E hE1 hC hQ hT9 hVC
  subst hE1
  have hQ : QXX E G ρ V (rL r) (J A' Z) 90 3000 := hQ
  have hE : Ext ρ V ρ V := Ext.rfl
  rw [fX9_bill] at h
  refine wa_aload_n 1 0 hC dX9_bill_0 rfl 0 rfl rfl ?_
  refine wa_iload_n 2 1 hC dX9_bill_1 rfl 1 rfl rfl ?_
  rcases rq_some h with ⟨e_10, h⟩ | ⟨n9, e_10, h⟩
  rotate_left
  · exact wx_reqThrow hC [.int x1] [] knX9_requireSubscriber mwX9_150 (tX9_requireSubscriber E.2.1 hl9 x1 A hVC e_10) (vs9 hVC) kc9 (Nat.le_of_ble_eq_true rfl) (Nat.le_of_ble_eq_true rfl) rfl (Nat.le_of_ble_eq_true rfl) dX9_bill_2 hT9 hQ hE (xTL h) (jA (sm2 h)) (by decide) rfl
  refine wx_reqOK 5 hC [.int x1] [] knX9_requireSubscriber mwX9_150 (tX9_requireSubscriber E.2.1 hl9 x1 A hVC e_10) (vs9 hVC) kc9 (Nat.le_of_ble_eq_true rfl) (Nat.le_of_ble_eq_true rfl) rfl (Nat.le_of_ble_eq_true rfl) dX9_bill_2 rfl (by decide) rfl ?_
  refine wa_iload_n 6 2 hC dX9_bill_5 rfl 2 rfl rfl ?_
  refine wa_iconst 7 hC dX9_bill_6 kc_1 rfl ?_
  refine wa_icmp_lt 10 16 hC dX9_bill_7 rfl rfl h (fun h => ?_) (fun h => ?_)
  · exact wx_throw (st := []) (ix := 25) (is := 242) (n9 := 1) hC hl9 hT9 hQ hE (xTL h) (jA (sm2 h)) xw_IllegalArgumentException rfl (by decide) rfl rfl (by decide) (by decide) (Nat.le_of_ble_eq_true rfl) dX9_bill_16 dX9_bill_19 dX9_bill_20 dX9_bill_22 dX9_bill_25
  · refine wa_iload_n 11 2 hC dX9_bill_10 rfl 2 rfl rfl ?_
    refine wa_ldc 13 hC dX9_bill_11 lcX9_221 rfl ?_
    refine wa_icmp_le 16 26 hC dX9_bill_13 rfl rfl h (fun h => ?_) (fun h => ?_)
    · refine wa_aload_n 27 0 hC dX9_bill_26 rfl 0 rfl rfl ?_
      refine wa_iload_n 28 1 hC dX9_bill_27 rfl 1 rfl rfl ?_
      rcases rq_some h with ⟨e_9, h⟩ | ⟨n9, e_9, h⟩
      rotate_left
      · exact wx_reqThrow hC [.int x1] [] knX9_requireActive mwX9_156 (tX9_requireActive E.2.1 hl9 x1 A hVC e_9) (vs9 hVC) kc9 (Nat.le_of_ble_eq_true rfl) (Nat.le_of_ble_eq_true rfl) rfl (Nat.le_of_ble_eq_true rfl) dX9_bill_28 hT9 hQ hE (xTL h) (jA (sm2 h)) (by decide) rfl
      refine wx_reqOK 31 hC [.int x1] [] knX9_requireActive mwX9_156 (tX9_requireActive E.2.1 hl9 x1 A hVC e_9) (vs9 hVC) kc9 (Nat.le_of_ble_eq_true rfl) (Nat.le_of_ble_eq_true rfl) rfl (Nat.le_of_ble_eq_true rfl) dX9_bill_28 rfl (by decide) rfl ?_
      refine wa_aload_n 32 0 hC dX9_bill_31 rfl 0 rfl rfl ?_
      refine wa_getR 35 hC (vs9 hVC) (sr9_0 _) flX9_12 dX9_bill_32 rfl ?_
      refine wa_getR 38 hC hVC.2.2.2.2.2.1 (sr0_2 _) flX9_159 dX9_bill_35 rfl ?_
      refine wa_iload_n 39 1 hC dX9_bill_38 rfl 1 rfl rfl ?_
      obtain ⟨g_1, h⟩ := gd_some h
      refine wa_aald 40 hC (vc11 hVC hVC.2.2.2.2.2.1) g_1 dX9_bill_39 rfl ?_
      refine wa_getR 43 hC (vc8 hVC hVC.2.2.2.2.2.1 (inb_lt g_1)) (sr8_9 _) flX9_204 dX9_bill_40 rfl ?_
      refine wa_astore_n (lv' := [(3, .ref (ρ 26 (16 * 0 + x1.toNatClampNeg))), (0, .ref (ρ 9 0)), (1, .int x1), (2, .int x2)]) 44 3 hC dX9_bill_43 rfl rfl (by decide) rfl rfl ?_
      refine wa_iload_n 45 2 hC dX9_bill_44 rfl 3 rfl rfl ?_
      refine wa_i2l 46 hC dX9_bill_45 rfl ?_
      refine wa_ldc2 49 hC dX9_bill_46 lcX9_244 rfl ?_
      refine wa_aload_n 50 3 hC dX9_bill_49 rfl 0 rfl rfl ?_
      refine wa_iconst 51 hC dX9_bill_50 kc_1 rfl ?_
      refine wa_laldc 52 hC (vc26 hVC (vc8 hVC hVC.2.2.2.2.2.1 (inb_lt g_1))) ar26 rfl (by decide) dX9_bill_51 rfl ?_
      refine wa_lsub 53 hC dX9_bill_52 rfl ?_
      refine wa_lcmp 54 hC dX9_bill_53 rfl ?_
      refine wa_lcmp_le 57 67 hC dX9_bill_54 rfl rfl h (fun h => ?_) (fun h => ?_)
      · refine wa_aload_n 68 0 hC dX9_bill_67 rfl 1 rfl rfl ?_
        refine wa_getR 71 hC (vs9 hVC) (sr9_1 _) flX9_19 dX9_bill_68 rfl ?_
        refine wa_aload_n 72 0 hC dX9_bill_71 rfl 1 rfl rfl ?_
        refine wa_getR 75 hC (vs9 hVC) (sr9_0 _) flX9_12 dX9_bill_72 rfl ?_
        obtain ⟨A_3, e_4, h⟩ := bd_some h
        have key : ∀ (ρ1 : Nat → Nat → Nat) (V1 : Nat → Nat → Prop), Ext ρ V ρ1 V1 → VC V1 → V1 26 (16 * 0 + x1.toNatClampNeg) → WA E G ρ1 V1 74 2921 (J A_3 Z) 78 [(3, .ref (ρ1 26 (16 * 0 + x1.toNatClampNeg))), (0, .ref (ρ1 9 0)), (1, .int x1), (2, .int x2)] [] := by
          intro ρ V hE0 hVC hw1
          have hE := Ext.trans hE hE0
          refine wa_aload_n 79 3 hC dX9_bill_78 rfl 0 rfl rfl ?_
          refine wa_iconst 80 hC dX9_bill_79 kc_1 rfl ?_
          refine wa_dup2 81 hC dX9_bill_80 rfl rfl rfl ?_
          refine wa_laldc 82 hC hw1 ar26 rfl (by decide) dX9_bill_81 rfl ?_
          refine wa_iload_n 83 2 hC dX9_bill_82 rfl 3 rfl rfl ?_
          refine wa_i2l 84 hC dX9_bill_83 rfl ?_
          refine wa_ladd 85 hC dX9_bill_84 rfl ?_
          obtain ⟨A_7, eA_7, h⟩ := ltb_some h
          refine wa_lastc 86 hC hw1 ar26 rfl (by decide) eA_7 dX9_bill_85 rfl ?_
          refine wa_aload_n 87 3 hC dX9_bill_86 rfl 0 rfl rfl ?_
          refine wa_iconst 88 hC dX9_bill_87 kc_1 rfl ?_
          refine wa_laldc 89 hC hw1 ar26 rfl (by decide) dX9_bill_88 rfl ?_
          exact wx_lret hC hQ hE (xL h) (jA (sm2 h)) (by decide) dX9_bill_89
        refine wx_keep 78 hC [.ref (ρ 0 0)] [] knX6_keep mvX9_92 (tX6_keep E.2.1 A hVC e_4) (vs6 hVC) kc6 (Nat.le_of_ble_eq_true rfl) (Nat.le_of_ble_eq_true rfl) rfl (Nat.le_of_ble_eq_true rfl) dX9_bill_75 rfl (by decide) rfl (fun ρ1 V1 hE9 hVC9 => ?_)
        rw [← (hE9 26 (16 * 0 + x1.toNatClampNeg) (vc26 hVC (vc8 hVC hVC.2.2.2.2.2.1 (inb_lt g_1)))).2, ← (hE9 9 0 (vs9 hVC)).2]
        exact key ρ1 V1 hE9 hVC9 (hE9 26 (16 * 0 + x1.toNatClampNeg) (vc26 hVC (vc8 hVC hVC.2.2.2.2.2.1 (inb_lt g_1)))).1
      · exact wx_throw (st := []) (ix := 26) (is := 246) (n9 := 2) hC hl9 hT9 hQ hE (xTL h) (jA (sm2 h)) xw_IllegalStateException rfl (by decide) rfl rfl (by decide) (by decide) (Nat.le_of_ble_eq_true rfl) dX9_bill_57 dX9_bill_60 dX9_bill_61 dX9_bill_63 dX9_bill_66
    · exact wx_throw (st := []) (ix := 25) (is := 242) (n9 := 1) hC hl9 hT9 hQ hE (xTL h) (jA (sm2 h)) xw_IllegalArgumentException rfl (by decide) rfl rfl (by decide) (by decide) (Nat.le_of_ble_eq_true rfl) dX9_bill_16 dX9_bill_19 dX9_bill_20 dX9_bill_22 dX9_bill_25
set_option maxRecDepth 20000 in
theorem tX9_endMonth (l : Launch) (hl9 : l.stackTraces = false) {G : gU} {ρ : Nat → Nat → Nat} {V : Nat → Nat → Prop} {Z : sM} (A : sM) (_ : VC V) {r : Nat ⊕ Int64} {A' : sM} (h : fX9_endMonth A = some (r, A')) : MX l yX9_endMonth cX9_endMonth 3 (some .long) 8 90 3000 G ρ V [.ref (ρ 9 0)] (J A Z) (rL r) (J A' Z) := by
  refine vx_enter (lv := [(0, .ref (ρ 9 0))]) RX9 rfl (by decide) (Nat.le_of_ble_eq_true rfl) rfl ?_
  intro E hE1 hC hQ hT9 hVC
  subst hE1
  have hQ : QXX E G ρ V (rL r) (J A' Z) 90 3000 := hQ
  have hE : Ext ρ V ρ V := Ext.rfl
  rw [fX9_endMonth] at h
  refine wa_aload_n 1 0 hC dX9_endMonth_0 rfl 0 rfl rfl ?_
  refine wa_getR 4 hC (vs9 hVC) (sr9_0 _) flX9_12 dX9_endMonth_1 rfl ?_
  refine wa_getIc 7 hC hVC.2.2.2.2.2.1 sh0_5 rfl flX9_213 dX9_endMonth_4 rfl ?_
  refine wa_bipush 9 hC dX9_endMonth_7 kb_30 rfl ?_
  refine wa_icmp_ge 12 22 hC dX9_endMonth_9 rfl rfl h (fun h => ?_) (fun h => ?_)
  · refine wa_aload_n 23 0 hC dX9_endMonth_22 rfl 0 rfl rfl ?_
    refine wa_getR 26 hC (vs9 hVC) (sr9_0 _) flX9_12 dX9_endMonth_23 rfl ?_
    refine wa_getIc 29 hC hVC.2.2.2.2.2.1 sh0_4 rfl flX9_224 dX9_endMonth_26 rfl ?_
    refine wa_bipush 31 hC dX9_endMonth_29 kb_59 rfl ?_
    refine wa_icmp_lt 34 44 hC dX9_endMonth_31 rfl rfl h (fun h => ?_) (fun h => ?_)
    · refine wa_aload_n 45 0 hC dX9_endMonth_44 rfl 0 rfl rfl ?_
      refine wa_getR 48 hC (vs9 hVC) (sr9_1 _) flX9_19 dX9_endMonth_45 rfl ?_
      refine wa_aload_n 49 0 hC dX9_endMonth_48 rfl 0 rfl rfl ?_
      refine wa_getR 52 hC (vs9 hVC) (sr9_0 _) flX9_12 dX9_endMonth_49 rfl ?_
      obtain ⟨A_1, e_2, h⟩ := bd_some h
      have key : ∀ (ρ1 : Nat → Nat → Nat) (V1 : Nat → Nat → Prop), Ext ρ V ρ1 V1 → VC V1 → WA E G ρ1 V1 72 2909 (J A_1 Z) 55 [(0, .ref (ρ1 9 0))] [] := by
        intro ρ V hE0 hVC
        have hE := Ext.trans hE hE0
        refine wa_aload_n 56 0 hC dX9_endMonth_55 rfl 0 rfl rfl ?_
        refine wa_getR 59 hC (vs9 hVC) (sr9_0 _) flX9_12 dX9_endMonth_56 rfl ?_
        refine wa_aload_n 60 0 hC dX9_endMonth_59 rfl 0 rfl rfl ?_
        refine wa_getR 63 hC (vs9 hVC) (sr9_0 _) flX9_12 dX9_endMonth_60 rfl ?_
        refine wa_getIc 66 hC hVC.2.2.2.2.2.1 sh0_4 rfl flX9_224 dX9_endMonth_63 rfl ?_
        obtain ⟨r_3, e_12, h⟩ := bd_some h
        refine wa_callVl 69 hC [.int (A_1.1 0 4 0 0)] [] knX0_valueOfMonth mvX9_252 (tX0_valueOfMonth E.2.1 0 (A_1.1 0 4 0 0) A_1 hVC hVC.2.2.2.2.2.1 e_12) hVC.2.2.2.2.2.1 kc0 (Nat.le_of_ble_eq_true rfl) (Nat.le_of_ble_eq_true rfl) rfl (Nat.le_of_ble_eq_true rfl) dX9_endMonth_66 rfl (by decide) rfl ?_
        refine wa_lstore_n (lv' := [(1, .long r_3), (0, .ref (ρ 9 0))]) 70 1 hC dX9_endMonth_69 rfl rfl (by decide) rfl rfl ?_
        refine wa_aload_n 71 0 hC dX9_endMonth_70 rfl 1 rfl rfl ?_
        refine wa_getR 74 hC (vs9 hVC) (sr9_4 _) flX9_40 dX9_endMonth_71 rfl ?_
        refine wa_aload_n 75 0 hC dX9_endMonth_74 rfl 1 rfl rfl ?_
        refine wa_getR 78 hC (vs9 hVC) (sr9_0 _) flX9_12 dX9_endMonth_75 rfl ?_
        refine wa_aload_n 79 0 hC dX9_endMonth_78 rfl 1 rfl rfl ?_
        refine wa_getR 82 hC (vs9 hVC) (sr9_0 _) flX9_12 dX9_endMonth_79 rfl ?_
        refine wa_getIc 85 hC hVC.2.2.2.2.2.1 sh0_4 rfl flX9_224 dX9_endMonth_82 rfl ?_
        refine wa_iconst 86 hC dX9_endMonth_85 kc_0 rfl ?_
        obtain ⟨A_4, e_11, h⟩ := bd_some h
        refine wa_callVv 89 hC [.ref (ρ 0 0), .int (A_1.1 0 4 0 0), .int (0 : Int32)] [] knX3_weighShareDays mvX9_256 (tX3_weighShareDays E.2.1 0 (A_1.1 0 4 0 0) (0 : Int32) A_1 hVC hVC.2.2.2.2.2.1 e_11) (vs3 hVC) kc3 (Nat.le_of_ble_eq_true rfl) (Nat.le_of_ble_eq_true rfl) rfl (Nat.le_of_ble_eq_true rfl) dX9_endMonth_86 rfl (by decide) rfl ?_
        refine wa_aload_n 90 0 hC dX9_endMonth_89 rfl 1 rfl rfl ?_
        refine wa_getR 93 hC (vs9 hVC) (sr9_4 _) flX9_40 dX9_endMonth_90 rfl ?_
        refine wa_lload_n 94 1 hC dX9_endMonth_93 rfl 0 rfl rfl ?_
        obtain ⟨A_5, e_10, h⟩ := bd_some h
        refine wa_callVv 97 hC [.long r_3] [] knX3_divide mvX9_260 (tX3_divide E.2.1 r_3 A_4 hVC e_10) (vs3 hVC) kc3 (Nat.le_of_ble_eq_true rfl) (Nat.le_of_ble_eq_true rfl) rfl (Nat.le_of_ble_eq_true rfl) dX9_endMonth_94 rfl (by decide) rfl ?_
        refine wa_aload_n 98 0 hC dX9_endMonth_97 rfl 1 rfl rfl ?_
        refine wa_getR 101 hC (vs9 hVC) (sr9_5 _) flX9_47 dX9_endMonth_98 rfl ?_
        refine wa_aload_n 102 0 hC dX9_endMonth_101 rfl 1 rfl rfl ?_
        refine wa_getR 105 hC (vs9 hVC) (sr9_0 _) flX9_12 dX9_endMonth_102 rfl ?_
        refine wa_aload_n 106 0 hC dX9_endMonth_105 rfl 1 rfl rfl ?_
        refine wa_getR 109 hC (vs9 hVC) (sr9_4 _) flX9_40 dX9_endMonth_106 rfl ?_
        refine wa_getR 112 hC (vs3 hVC) (sr3_3 _) flX9_264 dX9_endMonth_109 rfl ?_
        obtain ⟨A_6, e_9, h⟩ := bd_some h
        refine wa_callVv 115 hC [.ref (ρ 0 0), .ref (ρ 17 0)] [] knX1_passOn mvX9_267 (tX1_passOn E.2.1 0 A_5 hVC hVC.2.2.2.2.2.1 e_9) (vs1 hVC) kc1 (Nat.le_of_ble_eq_true rfl) (Nat.le_of_ble_eq_true rfl) rfl (Nat.le_of_ble_eq_true rfl) dX9_endMonth_112 rfl (by decide) rfl ?_
        refine wa_aload_n 116 0 hC dX9_endMonth_115 rfl 1 rfl rfl ?_
        refine wa_getR 119 hC (vs9 hVC) (sr9_0 _) flX9_12 dX9_endMonth_116 rfl ?_
        refine wa_aload_n 120 0 hC dX9_endMonth_119 rfl 1 rfl rfl ?_
        refine wa_getR 123 hC (vs9 hVC) (sr9_4 _) flX9_40 dX9_endMonth_120 rfl ?_
        refine wa_getR 126 hC (vs3 hVC) (sr3_3 _) flX9_264 dX9_endMonth_123 rfl ?_
        refine wa_aload_n 127 0 hC dX9_endMonth_126 rfl 1 rfl rfl ?_
        refine wa_getR 130 hC (vs9 hVC) (sr9_5 _) flX9_47 dX9_endMonth_127 rfl ?_
        refine wa_getR 133 hC (vs1 hVC) (sr1_1 _) flX9_271 dX9_endMonth_130 rfl ?_
        obtain ⟨A_7, e_8, h⟩ := bd_some h
        refine wa_callVv 136 hC [.ref (ρ 17 0), .ref (ρ 13 0)] [] knX0_closeMonth mvX9_274 (tX0_closeMonth E.2.1 0 A_6 hVC hVC.2.2.2.2.2.1 e_8) hVC.2.2.2.2.2.1 kc0 (Nat.le_of_ble_eq_true rfl) (Nat.le_of_ble_eq_true rfl) rfl (Nat.le_of_ble_eq_true rfl) dX9_endMonth_133 rfl (by decide) rfl ?_
        refine wa_lload_n 137 1 hC dX9_endMonth_136 rfl 0 rfl rfl ?_
        exact wx_lret hC hQ hE (xL h) (jA (sm2 h)) (by decide) dX9_endMonth_137
      refine wx_keep 55 hC [.ref (ρ 0 0)] [] knX6_keep mvX9_92 (tX6_keep E.2.1 A hVC e_2) (vs6 hVC) kc6 (Nat.le_of_ble_eq_true rfl) (Nat.le_of_ble_eq_true rfl) rfl (Nat.le_of_ble_eq_true rfl) dX9_endMonth_52 rfl (by decide) rfl (fun ρ1 V1 hE9 hVC9 => ?_)
      rw [← (hE9 9 0 (vs9 hVC)).2]
      exact key ρ1 V1 hE9 hVC9
    · exact wx_throw (st := []) (ix := 28) (is := 250) (n9 := 2) hC hl9 hT9 hQ hE (xTL h) (jA (sm2 h)) xw_IllegalStateException rfl (by decide) rfl rfl (by decide) (by decide) (Nat.le_of_ble_eq_true rfl) dX9_endMonth_34 dX9_endMonth_37 dX9_endMonth_38 dX9_endMonth_40 dX9_endMonth_43
  · exact wx_throw (st := []) (ix := 27) (is := 248) (n9 := 2) hC hl9 hT9 hQ hE (xTL h) (jA (sm2 h)) xw_IllegalStateException rfl (by decide) rfl rfl (by decide) (by decide) (Nat.le_of_ble_eq_true rfl) dX9_endMonth_12 dX9_endMonth_15 dX9_endMonth_16 dX9_endMonth_18 dX9_endMonth_21
set_option maxRecDepth 20000 in
theorem tX9_generation (l : Launch) (hl9 : l.stackTraces = false) {G : gU} {ρ : Nat → Nat → Nat} {V : Nat → Nat → Prop} {Z : sM} (x1 : Int32) (x2 : Int32) (A : sM) (_ : VC V) {r : Nat ⊕ Int32} {A' : sM} (h : fX9_generation x1 x2 A = some (r, A')) : MX l yX9_generation cX9_generation 3 (some .int) 9 90 3000 G ρ V [.ref (ρ 9 0), .int x1, .int x2] (J A Z) (rI r) (J A' Z) := by
  refine vx_enter (lv := [(0, .ref (ρ 9 0)), (1, .int x1), (2, .int x2)]) RX9 rfl (by decide) (Nat.le_of_ble_eq_true rfl) rfl ?_
  intro E hE1 hC hQ hT9 hVC
  subst hE1
  have hQ : QXX E G ρ V (rI r) (J A' Z) 90 3000 := hQ
  have hE : Ext ρ V ρ V := Ext.rfl
  rw [fX9_generation] at h
  refine wa_aload_n 1 0 hC dX9_generation_0 rfl 0 rfl rfl ?_
  refine wa_iload_n 2 1 hC dX9_generation_1 rfl 1 rfl rfl ?_
  rcases rq_some h with ⟨e_5, h⟩ | ⟨n9, e_5, h⟩
  rotate_left
  · exact wx_reqThrow hC [.int x1] [] knX9_requireMonth mwX9_278 (tX9_requireMonth E.2.1 hl9 x1 A hVC e_5) (vs9 hVC) kc9 (Nat.le_of_ble_eq_true rfl) (Nat.le_of_ble_eq_true rfl) rfl (Nat.le_of_ble_eq_true rfl) dX9_generation_2 hT9 hQ hE (xTI h) (jA (sm2 h)) (by decide) rfl
  refine wx_reqOK 5 hC [.int x1] [] knX9_requireMonth mwX9_278 (tX9_requireMonth E.2.1 hl9 x1 A hVC e_5) (vs9 hVC) kc9 (Nat.le_of_ble_eq_true rfl) (Nat.le_of_ble_eq_true rfl) rfl (Nat.le_of_ble_eq_true rfl) dX9_generation_2 rfl (by decide) rfl ?_
  refine wa_aload_n 6 0 hC dX9_generation_5 rfl 0 rfl rfl ?_
  refine wa_iload_n 7 2 hC dX9_generation_6 rfl 2 rfl rfl ?_
  rcases rq_some h with ⟨e_4, h⟩ | ⟨n9, e_4, h⟩
  rotate_left
  · exact wx_reqThrow hC [.int x2] [] knX9_requirePeriod mwX9_281 (tX9_requirePeriod E.2.1 hl9 x2 A hVC e_4) (vs9 hVC) kc9 (Nat.le_of_ble_eq_true rfl) (Nat.le_of_ble_eq_true rfl) rfl (Nat.le_of_ble_eq_true rfl) dX9_generation_7 hT9 hQ hE (xTI h) (jA (sm2 h)) (by decide) rfl
  refine wx_reqOK 10 hC [.int x2] [] knX9_requirePeriod mwX9_281 (tX9_requirePeriod E.2.1 hl9 x2 A hVC e_4) (vs9 hVC) kc9 (Nat.le_of_ble_eq_true rfl) (Nat.le_of_ble_eq_true rfl) rfl (Nat.le_of_ble_eq_true rfl) dX9_generation_7 rfl (by decide) rfl ?_
  refine wa_aload_n 11 0 hC dX9_generation_10 rfl 0 rfl rfl ?_
  refine wa_getR 14 hC (vs9 hVC) (sr9_0 _) flX9_12 dX9_generation_11 rfl ?_
  refine wa_getR 17 hC hVC.2.2.2.2.2.1 (sr0_1 _) flX9_233 dX9_generation_14 rfl ?_
  refine wa_getR 20 hC (vc7 hVC hVC.2.2.2.2.2.1) (sr7_0 _) flX9_237 dX9_generation_17 rfl ?_
  refine wa_iload_n 21 1 hC dX9_generation_20 rfl 1 rfl rfl ?_
  refine wa_iload_n 22 2 hC dX9_generation_21 rfl 2 rfl rfl ?_
  obtain ⟨r_1, e_3, h⟩ := bd_some h
  refine wa_callSi 25 hC [.int x1, .int x2] [.ref (ρ 22 0)] knX7_cell msX9_227 (tX7_cell E.2.1 x1 x2 A hVC e_3) (Nat.le_of_ble_eq_true rfl) (Nat.le_of_ble_eq_true rfl) rfl (Nat.le_of_ble_eq_true rfl) dX9_generation_22 rfl (by decide) rfl ?_
  obtain ⟨g_2, h⟩ := gd_some h
  refine wa_ialdc 26 hC (vc22 hVC (vc7 hVC hVC.2.2.2.2.2.1)) ar22 rfl g_2 dX9_generation_25 rfl ?_
  exact wx_iret hC hQ hE (xI h) (jA (sm2 h)) (by decide) dX9_generation_26
set_option maxRecDepth 20000 in
theorem tX9_shareDays (l : Launch) (hl9 : l.stackTraces = false) {G : gU} {ρ : Nat → Nat → Nat} {V : Nat → Nat → Prop} {Z : sM} (x1 : Int32) (x2 : Int32) (A : sM) (_ : VC V) {r : Nat ⊕ Int32} {A' : sM} (h : fX9_shareDays x1 x2 A = some (r, A')) : MX l yX9_shareDays cX9_shareDays 3 (some .int) 10 90 3000 G ρ V [.ref (ρ 9 0), .int x1, .int x2] (J A Z) (rI r) (J A' Z) := by
  refine vx_enter (lv := [(0, .ref (ρ 9 0)), (1, .int x1), (2, .int x2)]) RX9 rfl (by decide) (Nat.le_of_ble_eq_true rfl) rfl ?_
  intro E hE1 hC hQ hT9 hVC
  subst hE1
  have hQ : QXX E G ρ V (rI r) (J A' Z) 90 3000 := hQ
  have hE : Ext ρ V ρ V := Ext.rfl
  rw [fX9_shareDays] at h
  refine wa_aload_n 1 0 hC dX9_shareDays_0 rfl 0 rfl rfl ?_
  refine wa_iload_n 2 1 hC dX9_shareDays_1 rfl 1 rfl rfl ?_
  rcases rq_some h with ⟨e_6, h⟩ | ⟨n9, e_6, h⟩
  rotate_left
  · exact wx_reqThrow hC [.int x1] [] knX9_requireMonth mwX9_278 (tX9_requireMonth E.2.1 hl9 x1 A hVC e_6) (vs9 hVC) kc9 (Nat.le_of_ble_eq_true rfl) (Nat.le_of_ble_eq_true rfl) rfl (Nat.le_of_ble_eq_true rfl) dX9_shareDays_2 hT9 hQ hE (xTI h) (jA (sm2 h)) (by decide) rfl
  refine wx_reqOK 5 hC [.int x1] [] knX9_requireMonth mwX9_278 (tX9_requireMonth E.2.1 hl9 x1 A hVC e_6) (vs9 hVC) kc9 (Nat.le_of_ble_eq_true rfl) (Nat.le_of_ble_eq_true rfl) rfl (Nat.le_of_ble_eq_true rfl) dX9_shareDays_2 rfl (by decide) rfl ?_
  refine wa_aload_n 6 0 hC dX9_shareDays_5 rfl 0 rfl rfl ?_
  refine wa_iload_n 7 2 hC dX9_shareDays_6 rfl 2 rfl rfl ?_
  rcases rq_some h with ⟨e_5, h⟩ | ⟨n9, e_5, h⟩
  rotate_left
  · exact wx_reqThrow hC [.int x2] [] knX9_requireParticipant mwX9_284 (tX9_requireParticipant E.2.1 hl9 x2 A hVC e_5) (vs9 hVC) kc9 (Nat.le_of_ble_eq_true rfl) (Nat.le_of_ble_eq_true rfl) rfl (Nat.le_of_ble_eq_true rfl) dX9_shareDays_7 hT9 hQ hE (xTI h) (jA (sm2 h)) (by decide) rfl
  refine wx_reqOK 10 hC [.int x2] [] knX9_requireParticipant mwX9_284 (tX9_requireParticipant E.2.1 hl9 x2 A hVC e_5) (vs9 hVC) kc9 (Nat.le_of_ble_eq_true rfl) (Nat.le_of_ble_eq_true rfl) rfl (Nat.le_of_ble_eq_true rfl) dX9_shareDays_7 rfl (by decide) rfl ?_
  refine wa_iload_n 11 2 hC dX9_shareDays_10 rfl 2 rfl rfl ?_
  refine wa_iconst 12 hC dX9_shareDays_11 kc_m1 rfl ?_
  refine wa_icmp_ne 15 24 hC dX9_shareDays_12 rfl rfl h (fun h => ?_) (fun h => ?_)
  · refine wa_aload_n 25 0 hC dX9_shareDays_24 rfl 0 rfl rfl ?_
    refine wa_getR 28 hC (vs9 hVC) (sr9_0 _) flX9_12 dX9_shareDays_25 rfl ?_
    refine wa_getR 31 hC hVC.2.2.2.2.2.1 (sr0_2 _) flX9_159 dX9_shareDays_28 rfl ?_
    refine wa_iload_n 32 2 hC dX9_shareDays_31 rfl 2 rfl rfl ?_
    obtain ⟨g_1, h⟩ := gd_some h
    refine wa_aald 33 hC (vc11 hVC hVC.2.2.2.2.2.1) g_1 dX9_shareDays_32 rfl ?_
    refine wa_getR 36 hC (vc8 hVC hVC.2.2.2.2.2.1 (inb_lt g_1)) (sr8_7 _) flX9_290 dX9_shareDays_33 rfl ?_
    refine wa_iload_n 37 1 hC dX9_shareDays_36 rfl 1 rfl rfl ?_
    obtain ⟨g_2, h⟩ := gd_some h
    refine wa_ialdc 38 hC (vc24 hVC (vc8 hVC hVC.2.2.2.2.2.1 (inb_lt g_1))) ar24 rfl g_2 dX9_shareDays_37 rfl ?_
    exact wx_iret hC hQ hE (xI h) (jA (sm2 h)) (by decide) dX9_shareDays_38
  · refine wa_aload_n 16 0 hC dX9_shareDays_15 rfl 0 rfl rfl ?_
    refine wa_getR 19 hC (vs9 hVC) (sr9_0 _) flX9_12 dX9_shareDays_16 rfl ?_
    refine wa_iload_n 20 1 hC dX9_shareDays_19 rfl 1 rfl rfl ?_
    obtain ⟨r_3, e_4, h⟩ := bd_some h
    refine wa_callVi 23 hC [.int x1] [] knX0_operatorShareDays mvX9_287 (tX0_operatorShareDays E.2.1 0 x1 A hVC hVC.2.2.2.2.2.1 e_4) hVC.2.2.2.2.2.1 kc0 (Nat.le_of_ble_eq_true rfl) (Nat.le_of_ble_eq_true rfl) rfl (Nat.le_of_ble_eq_true rfl) dX9_shareDays_20 rfl (by decide) rfl ?_
    exact wx_iret hC hQ hE (xI h) (jA (sm2 h)) (by decide) dX9_shareDays_23
set_option maxRecDepth 20000 in
theorem tX9_projectedPart (l : Launch) (hl9 : l.stackTraces = false) {G : gU} {ρ : Nat → Nat → Nat} {V : Nat → Nat → Prop} {Z : sM} (x1 : Int32) (A : sM) (_ : VC V) {r : Nat ⊕ Int64} {A' : sM} (h : fX9_projectedPart x1 A = some (r, A')) : MX l yX9_projectedPart cX9_projectedPart 2 (some .long) 10 90 3000 G ρ V [.ref (ρ 9 0), .int x1] (J A Z) (rL r) (J A' Z) := by
  refine vx_enter (lv := [(0, .ref (ρ 9 0)), (1, .int x1)]) RX9 rfl (by decide) (Nat.le_of_ble_eq_true rfl) rfl ?_
  intro E hE1 hC hQ hT9 hVC
  subst hE1
  have hQ : QXX E G ρ V (rL r) (J A' Z) 90 3000 := hQ
  have hE : Ext ρ V ρ V := Ext.rfl
  rw [fX9_projectedPart] at h
  refine wa_aload_n 1 0 hC dX9_projectedPart_0 rfl 0 rfl rfl ?_
  refine wa_iload_n 2 1 hC dX9_projectedPart_1 rfl 1 rfl rfl ?_
  rcases rq_some h with ⟨e_10, h⟩ | ⟨n9, e_10, h⟩
  rotate_left
  · exact wx_reqThrow hC [.int x1] [] knX9_requireParticipant mwX9_284 (tX9_requireParticipant E.2.1 hl9 x1 A hVC e_10) (vs9 hVC) kc9 (Nat.le_of_ble_eq_true rfl) (Nat.le_of_ble_eq_true rfl) rfl (Nat.le_of_ble_eq_true rfl) dX9_projectedPart_2 hT9 hQ hE (xTL h) (jA (sm2 h)) (by decide) rfl
  refine wx_reqOK 5 hC [.int x1] [] knX9_requireParticipant mwX9_284 (tX9_requireParticipant E.2.1 hl9 x1 A hVC e_10) (vs9 hVC) kc9 (Nat.le_of_ble_eq_true rfl) (Nat.le_of_ble_eq_true rfl) rfl (Nat.le_of_ble_eq_true rfl) dX9_projectedPart_2 rfl (by decide) rfl ?_
  refine wa_aload_n 6 0 hC dX9_projectedPart_5 rfl 0 rfl rfl ?_
  obtain ⟨A_1, e_9, h⟩ := bd_some h
  refine wa_callVv 9 hC [] [] knX9_weighProjected mvX9_293 (tX9_weighProjected E.2.1 A hVC e_9) (vs9 hVC) kc9 (Nat.le_of_ble_eq_true rfl) (Nat.le_of_ble_eq_true rfl) rfl (Nat.le_of_ble_eq_true rfl) dX9_projectedPart_6 rfl (by decide) rfl ?_
  refine wa_aload_n 10 0 hC dX9_projectedPart_9 rfl 0 rfl rfl ?_
  refine wa_getR 13 hC (vs9 hVC) (sr9_4 _) flX9_40 dX9_projectedPart_10 rfl ?_
  refine wa_aload_n 14 0 hC dX9_projectedPart_13 rfl 0 rfl rfl ?_
  refine wa_getR 17 hC (vs9 hVC) (sr9_0 _) flX9_12 dX9_projectedPart_14 rfl ?_
  refine wa_aload_n 18 0 hC dX9_projectedPart_17 rfl 0 rfl rfl ?_
  refine wa_getR 21 hC (vs9 hVC) (sr9_0 _) flX9_12 dX9_projectedPart_18 rfl ?_
  refine wa_getIc 24 hC hVC.2.2.2.2.2.1 sh0_4 rfl flX9_224 dX9_projectedPart_21 rfl ?_
  obtain ⟨r_2, e_8, h⟩ := bd_some h
  refine wa_callVl 27 hC [.int (A_1.1 0 4 0 0)] [.ref (ρ 3 0)] knX0_valueOfMonth mvX9_252 (tX0_valueOfMonth E.2.1 0 (A_1.1 0 4 0 0) A_1 hVC hVC.2.2.2.2.2.1 e_8) hVC.2.2.2.2.2.1 kc0 (Nat.le_of_ble_eq_true rfl) (Nat.le_of_ble_eq_true rfl) rfl (Nat.le_of_ble_eq_true rfl) dX9_projectedPart_24 rfl (by decide) rfl ?_
  obtain ⟨A_3, e_7, h⟩ := bd_some h
  refine wa_callVv 30 hC [.long r_2] [] knX3_divide mvX9_260 (tX3_divide E.2.1 r_2 A_1 hVC e_7) (vs3 hVC) kc3 (Nat.le_of_ble_eq_true rfl) (Nat.le_of_ble_eq_true rfl) rfl (Nat.le_of_ble_eq_true rfl) dX9_projectedPart_27 rfl (by decide) rfl ?_
  refine wa_aload_n 31 0 hC dX9_projectedPart_30 rfl 0 rfl rfl ?_
  refine wa_getR 34 hC (vs9 hVC) (sr9_4 _) flX9_40 dX9_projectedPart_31 rfl ?_
  refine wa_getR 37 hC (vs3 hVC) (sr3_3 _) flX9_264 dX9_projectedPart_34 rfl ?_
  refine wa_iload_n 38 1 hC dX9_projectedPart_37 rfl 1 rfl rfl ?_
  obtain ⟨r_4, e_6, h⟩ := bd_some h
  refine wa_callSi 41 hC [.int x1] [.ref (ρ 17 0)] knX9_placeOf msX9_296 (tX9_placeOf E.2.1 x1 A_3 hVC e_6) (Nat.le_of_ble_eq_true rfl) (Nat.le_of_ble_eq_true rfl) rfl (Nat.le_of_ble_eq_true rfl) dX9_projectedPart_38 rfl (by decide) rfl ?_
  obtain ⟨g_5, h⟩ := gd_some h
  refine wa_laldc 42 hC (vs17 hVC) ar17 rfl g_5 dX9_projectedPart_41 rfl ?_
  exact wx_lret hC hQ hE (xL h) (jA (sm2 h)) (by decide) dX9_projectedPart_42
set_option maxRecDepth 20000 in
theorem tX9_projectedCredit (l : Launch) (hl9 : l.stackTraces = false) {G : gU} {ρ : Nat → Nat → Nat} {V : Nat → Nat → Prop} {Z : sM} (x1 : Int32) (A : sM) (_ : VC V) {r : Nat ⊕ Int64} {A' : sM} (h : fX9_projectedCredit x1 A = some (r, A')) : MX l yX9_projectedCredit cX9_projectedCredit 2 (some .long) 9 90 3000 G ρ V [.ref (ρ 9 0), .int x1] (J A Z) (rL r) (J A' Z) := by
  refine vx_enter (lv := [(0, .ref (ρ 9 0)), (1, .int x1)]) RX9 rfl (by decide) (Nat.le_of_ble_eq_true rfl) rfl ?_
  intro E hE1 hC hQ hT9 hVC
  subst hE1
  have hQ : QXX E G ρ V (rL r) (J A' Z) 90 3000 := hQ
  have hE : Ext ρ V ρ V := Ext.rfl
  rw [fX9_projectedCredit] at h
  refine wa_aload_n 1 0 hC dX9_projectedCredit_0 rfl 0 rfl rfl ?_
  refine wa_iload_n 2 1 hC dX9_projectedCredit_1 rfl 1 rfl rfl ?_
  rcases rq_some h with ⟨e_10, h⟩ | ⟨n9, e_10, h⟩
  rotate_left
  · exact wx_reqThrow hC [.int x1] [] knX9_requireSubscriber mwX9_150 (tX9_requireSubscriber E.2.1 hl9 x1 A hVC e_10) (vs9 hVC) kc9 (Nat.le_of_ble_eq_true rfl) (Nat.le_of_ble_eq_true rfl) rfl (Nat.le_of_ble_eq_true rfl) dX9_projectedCredit_2 hT9 hQ hE (xTL h) (jA (sm2 h)) (by decide) rfl
  refine wx_reqOK 5 hC [.int x1] [] knX9_requireSubscriber mwX9_150 (tX9_requireSubscriber E.2.1 hl9 x1 A hVC e_10) (vs9 hVC) kc9 (Nat.le_of_ble_eq_true rfl) (Nat.le_of_ble_eq_true rfl) rfl (Nat.le_of_ble_eq_true rfl) dX9_projectedCredit_2 rfl (by decide) rfl ?_
  refine wa_aload_n 6 0 hC dX9_projectedCredit_5 rfl 0 rfl rfl ?_
  obtain ⟨A_1, e_9, h⟩ := bd_some h
  refine wa_callVv 9 hC [] [] knX9_weighProjected mvX9_293 (tX9_weighProjected E.2.1 A hVC e_9) (vs9 hVC) kc9 (Nat.le_of_ble_eq_true rfl) (Nat.le_of_ble_eq_true rfl) rfl (Nat.le_of_ble_eq_true rfl) dX9_projectedCredit_6 rfl (by decide) rfl ?_
  refine wa_aload_n 10 0 hC dX9_projectedCredit_9 rfl 0 rfl rfl ?_
  refine wa_getR 13 hC (vs9 hVC) (sr9_4 _) flX9_40 dX9_projectedCredit_10 rfl ?_
  refine wa_aload_n 14 0 hC dX9_projectedCredit_13 rfl 0 rfl rfl ?_
  refine wa_getR 17 hC (vs9 hVC) (sr9_0 _) flX9_12 dX9_projectedCredit_14 rfl ?_
  refine wa_aload_n 18 0 hC dX9_projectedCredit_17 rfl 0 rfl rfl ?_
  refine wa_getR 21 hC (vs9 hVC) (sr9_0 _) flX9_12 dX9_projectedCredit_18 rfl ?_
  refine wa_getIc 24 hC hVC.2.2.2.2.2.1 sh0_4 rfl flX9_224 dX9_projectedCredit_21 rfl ?_
  obtain ⟨r_2, e_8, h⟩ := bd_some h
  refine wa_callVl 27 hC [.int (A_1.1 0 4 0 0)] [.ref (ρ 3 0)] knX0_valueOfMonth mvX9_252 (tX0_valueOfMonth E.2.1 0 (A_1.1 0 4 0 0) A_1 hVC hVC.2.2.2.2.2.1 e_8) hVC.2.2.2.2.2.1 kc0 (Nat.le_of_ble_eq_true rfl) (Nat.le_of_ble_eq_true rfl) rfl (Nat.le_of_ble_eq_true rfl) dX9_projectedCredit_24 rfl (by decide) rfl ?_
  obtain ⟨A_3, e_7, h⟩ := bd_some h
  refine wa_callVv 30 hC [.long r_2] [] knX3_divide mvX9_260 (tX3_divide E.2.1 r_2 A_1 hVC e_7) (vs3 hVC) kc3 (Nat.le_of_ble_eq_true rfl) (Nat.le_of_ble_eq_true rfl) rfl (Nat.le_of_ble_eq_true rfl) dX9_projectedCredit_27 rfl (by decide) rfl ?_
  refine wa_aload_n 31 0 hC dX9_projectedCredit_30 rfl 0 rfl rfl ?_
  refine wa_getR 34 hC (vs9 hVC) (sr9_5 _) flX9_47 dX9_projectedCredit_31 rfl ?_
  refine wa_aload_n 35 0 hC dX9_projectedCredit_34 rfl 0 rfl rfl ?_
  refine wa_getR 38 hC (vs9 hVC) (sr9_0 _) flX9_12 dX9_projectedCredit_35 rfl ?_
  refine wa_aload_n 39 0 hC dX9_projectedCredit_38 rfl 0 rfl rfl ?_
  refine wa_getR 42 hC (vs9 hVC) (sr9_4 _) flX9_40 dX9_projectedCredit_39 rfl ?_
  refine wa_getR 45 hC (vs3 hVC) (sr3_3 _) flX9_264 dX9_projectedCredit_42 rfl ?_
  obtain ⟨A_4, e_6, h⟩ := bd_some h
  refine wa_callVv 48 hC [.ref (ρ 0 0), .ref (ρ 17 0)] [] knX1_passOn mvX9_267 (tX1_passOn E.2.1 0 A_3 hVC hVC.2.2.2.2.2.1 e_6) (vs1 hVC) kc1 (Nat.le_of_ble_eq_true rfl) (Nat.le_of_ble_eq_true rfl) rfl (Nat.le_of_ble_eq_true rfl) dX9_projectedCredit_45 rfl (by decide) rfl ?_
  refine wa_aload_n 49 0 hC dX9_projectedCredit_48 rfl 0 rfl rfl ?_
  refine wa_getR 52 hC (vs9 hVC) (sr9_5 _) flX9_47 dX9_projectedCredit_49 rfl ?_
  refine wa_getR 55 hC (vs1 hVC) (sr1_1 _) flX9_271 dX9_projectedCredit_52 rfl ?_
  refine wa_iload_n 56 1 hC dX9_projectedCredit_55 rfl 1 rfl rfl ?_
  obtain ⟨g_5, h⟩ := gd_some h
  refine wa_laldc 57 hC (vs13 hVC) ar13 rfl g_5 dX9_projectedCredit_56 rfl ?_
  exact wx_lret hC hQ hE (xL h) (jA (sm2 h)) (by decide) dX9_projectedCredit_57
set_option maxRecDepth 20000 in
theorem wX9_forecastBalance_L176 {E : eU} {G : gU} {ρ : Nat → Nat → Nat} {V : Nat → Nat → Prop} {Z : sM} {r : Nat ⊕ Int64} {A' : sM} (x1 : Int32) (x2 : Int32) (x5 : Int64) {k236 : sM → Option ((Nat ⊕ Int64) × sM)} (hC : CX E G cX9_forecastBalance 8 RX9 (some .long) 9 90 3000) (hVC : VC V) (hk236 : ∀ (A : sM), k236 A = some (r, A') → WA E G ρ V 1 6 (J A Z) 236 [(0, .ref (ρ 9 0))] []) : ∀ (n : Nat) (x7 : Int32) (A : sM), fX9_forecastBalance_L176 x1 x2 x5 k236 n x7 A = some (r, A') → WA E G ρ V 1 6 (J A Z) 176 [(0, .ref (ρ 9 0)), (1, .int x1), (2, .int x2), (5, .long x5), (7, .int x7)] [] := by
  intro n
  induction n with
  | zero =>
    intro x7 A h
    rw [fX9_forecastBalance_L176] at h
    cases h
  | succ n ih =>
    intro x7 A h
    rw [fX9_forecastBalance_L176] at h
    refine wa_iload 178 7 hC dX9_forecastBalance_176 4 rfl rfl ?_
    refine wa_iload_n 179 2 hC dX9_forecastBalance_178 rfl 2 rfl rfl ?_
    refine wa_icmp_ge 182 236 hC dX9_forecastBalance_179 rfl rfl h (fun h => ?_) (fun h => ?_)
    · refine wa_pick [0] rfl ?_
      exact hk236 A h
    · refine wa_aload_n 183 0 hC dX9_forecastBalance_182 rfl 0 rfl rfl ?_
      refine wa_getR 186 hC (vs9 hVC) (sr9_6 _) flX9_54 dX9_forecastBalance_183 rfl ?_
      refine wa_getR 189 hC hVC.2.2.2.2.2.2.2 (sr8_9 _) flX9_204 dX9_forecastBalance_186 rfl ?_
      refine wa_iconst 190 hC dX9_forecastBalance_189 kc_1 rfl ?_
      refine wa_lload 192 5 hC dX9_forecastBalance_190 3 rfl rfl ?_
      obtain ⟨A_2, eA_2, h⟩ := ltb_some h
      refine wa_lastc 193 hC (vc26 hVC hVC.2.2.2.2.2.2.2) ar26 rfl (by decide) eA_2 dX9_forecastBalance_192 rfl ?_
      refine wa_aload_n 194 0 hC dX9_forecastBalance_193 rfl 0 rfl rfl ?_
      refine wa_getR 197 hC (vs9 hVC) (sr9_6 _) flX9_54 dX9_forecastBalance_194 rfl ?_
      refine wa_aload_n 198 0 hC dX9_forecastBalance_197 rfl 0 rfl rfl ?_
      refine wa_getR 201 hC (vs9 hVC) (sr9_5 _) flX9_47 dX9_forecastBalance_198 rfl ?_
      refine wa_getR 204 hC (vs1 hVC) (sr1_1 _) flX9_271 dX9_forecastBalance_201 rfl ?_
      refine wa_iload_n 205 1 hC dX9_forecastBalance_204 rfl 1 rfl rfl ?_
      obtain ⟨g_3, h⟩ := gd_some h
      refine wa_laldc 206 hC (vs13 hVC) ar13 rfl g_3 dX9_forecastBalance_205 rfl ?_
      refine wa_aload_n 207 0 hC dX9_forecastBalance_206 rfl 0 rfl rfl ?_
      refine wa_getR 210 hC (vs9 hVC) (sr9_0 _) flX9_12 dX9_forecastBalance_207 rfl ?_
      refine wa_getIc 213 hC hVC.2.2.2.2.2.1 sh0_4 rfl flX9_224 dX9_forecastBalance_210 rfl ?_
      refine wa_iload 215 7 hC dX9_forecastBalance_213 4 rfl rfl ?_
      refine wa_iadd 216 hC dX9_forecastBalance_215 rfl ?_
      refine wa_aload_n 217 0 hC dX9_forecastBalance_216 rfl 0 rfl rfl ?_
      refine wa_getR 220 hC (vs9 hVC) (sr9_0 _) flX9_12 dX9_forecastBalance_217 rfl ?_
      refine wa_getR 223 hC hVC.2.2.2.2.2.1 (sr0_0 _) flX9_104 dX9_forecastBalance_220 rfl ?_
      refine wa_getIc 226 hC (vc4 hVC hVC.2.2.2.2.2.1) sh4_1 rfl flX9_113 dX9_forecastBalance_223 rfl ?_
      obtain ⟨r_5, A_4, e_7, h⟩ := bd2_some h
      refine wa_callVl 229 hC [.long (A_2.2 13 0 0 x1.toNatClampNeg), .int ((A_2.1 0 4 0 0) + x7), .int (A_2.1 4 1 0 0)] [] knX8_finishMonth mvX9_305 (tX8_finishMonth E.2.1 112 (A_2.2 13 0 0 x1.toNatClampNeg) ((A_2.1 0 4 0 0) + x7) (A_2.1 4 1 0 0) A_2 hVC hVC.2.2.2.2.2.2.2 e_7) hVC.2.2.2.2.2.2.2 kc8 (Nat.le_of_ble_eq_true rfl) (Nat.le_of_ble_eq_true rfl) rfl (Nat.le_of_ble_eq_true rfl) dX9_forecastBalance_226 rfl (by decide) rfl ?_
      refine wa_pop2 230 hC dX9_forecastBalance_229 rfl rfl ?_
      obtain ⟨x7_6, ex7_6, h⟩ := ltb_some h
      refine wa_iinc (lv' := [(7, .int x7_6), (0, .ref (ρ 9 0)), (1, .int x1), (2, .int x2), (5, .long x5)]) 233 7 hC dX9_forecastBalance_230 4 rfl (by rw [kc_1]; exact ex7_6) (by decide) rfl rfl ?_
      refine wa_goto 176 hC dX9_forecastBalance_233 rfl ?_
      refine wa_pick [1, 2, 3, 4, 0] rfl ?_
      exact ih x7_6 A_4 h
set_option maxRecDepth 20000 in
theorem tX9_forecastBalance (l : Launch) (hl9 : l.stackTraces = false) {G : gU} {ρ : Nat → Nat → Nat} {V : Nat → Nat → Prop} {Z : sM} (x1 : Int32) (x2 : Int32) (A : sM) (_ : VC V) {r : Nat ⊕ Int64} {A' : sM} (h : fX9_forecastBalance x1 x2 A = some (r, A')) : MX l yX9_forecastBalance cX9_forecastBalance 8 (some .long) 9 90 3000 G ρ V [.ref (ρ 9 0), .int x1, .int x2] (J A Z) (rL r) (J A' Z) := by
  refine vx_enter (lv := [(0, .ref (ρ 9 0)), (1, .int x1), (2, .int x2)]) RX9 rfl (by decide) (Nat.le_of_ble_eq_true rfl) rfl ?_
  intro E hE1 hC hQ hT9 hVC
  subst hE1
  have hQ : QXX E G ρ V (rL r) (J A' Z) 90 3000 := hQ
  have hE : Ext ρ V ρ V := Ext.rfl
  rw [fX9_forecastBalance] at h
  refine wa_aload_n 1 0 hC dX9_forecastBalance_0 rfl 0 rfl rfl ?_
  refine wa_iload_n 2 1 hC dX9_forecastBalance_1 rfl 1 rfl rfl ?_
  rcases rq_some h with ⟨e_27, h⟩ | ⟨n9, e_27, h⟩
  rotate_left
  · exact wx_reqThrow hC [.int x1] [] knX9_requireSubscriber mwX9_150 (tX9_requireSubscriber E.2.1 hl9 x1 A hVC e_27) (vs9 hVC) kc9 (Nat.le_of_ble_eq_true rfl) (Nat.le_of_ble_eq_true rfl) rfl (Nat.le_of_ble_eq_true rfl) dX9_forecastBalance_2 hT9 hQ hE (xTL h) (jA (sm2 h)) (by decide) rfl
  refine wx_reqOK 5 hC [.int x1] [] knX9_requireSubscriber mwX9_150 (tX9_requireSubscriber E.2.1 hl9 x1 A hVC e_27) (vs9 hVC) kc9 (Nat.le_of_ble_eq_true rfl) (Nat.le_of_ble_eq_true rfl) rfl (Nat.le_of_ble_eq_true rfl) dX9_forecastBalance_2 rfl (by decide) rfl ?_
  refine wa_iload_n 6 2 hC dX9_forecastBalance_5 rfl 2 rfl rfl ?_
  refine wa_iconst 7 hC dX9_forecastBalance_6 kc_1 rfl ?_
  refine wa_icmp_lt 10 16 hC dX9_forecastBalance_7 rfl rfl h (fun h => ?_) (fun h => ?_)
  · exact wx_throwW (st := []) (ix := 31) (is := 299) (n9 := 1) hC hl9 hT9 hQ hE (xTL h) (jA (sm2 h)) xw_IllegalArgumentException rfl (by decide) rfl rfl (by decide) (by decide) (Nat.le_of_ble_eq_true rfl) dX9_forecastBalance_16 dX9_forecastBalance_19 dX9_forecastBalance_20 dX9_forecastBalance_23 dX9_forecastBalance_26
  · refine wa_iload_n 11 2 hC dX9_forecastBalance_10 rfl 2 rfl rfl ?_
    refine wa_bipush 13 hC dX9_forecastBalance_11 kb_12 rfl ?_
    refine wa_icmp_le 16 27 hC dX9_forecastBalance_13 rfl rfl h (fun h => ?_) (fun h => ?_)
    · refine wa_aload_n 28 0 hC dX9_forecastBalance_27 rfl 0 rfl rfl ?_
      refine wa_getR 31 hC (vs9 hVC) (sr9_6 _) flX9_54 dX9_forecastBalance_28 rfl ?_
      refine wa_aload_n 32 0 hC dX9_forecastBalance_31 rfl 0 rfl rfl ?_
      refine wa_getR 35 hC (vs9 hVC) (sr9_0 _) flX9_12 dX9_forecastBalance_32 rfl ?_
      refine wa_getR 38 hC hVC.2.2.2.2.2.1 (sr0_2 _) flX9_159 dX9_forecastBalance_35 rfl ?_
      refine wa_iload_n 39 1 hC dX9_forecastBalance_38 rfl 1 rfl rfl ?_
      obtain ⟨g_1, h⟩ := gd_some h
      refine wa_aald 40 hC (vc11 hVC hVC.2.2.2.2.2.1) g_1 dX9_forecastBalance_39 rfl ?_
      obtain ⟨A_2, e_26, h⟩ := bd_some h
      refine wa_callVv 43 hC [.ref (ρ 8 (16 * 0 + x1.toNatClampNeg))] [] knX8_copyFrom mvX9_301 (tX8_copyFrom E.2.1 112 (16 * 0 + x1.toNatClampNeg) A hVC hVC.2.2.2.2.2.2.2 (vc8 hVC hVC.2.2.2.2.2.1 (inb_lt g_1)) e_26) hVC.2.2.2.2.2.2.2 kc8 (Nat.le_of_ble_eq_true rfl) (Nat.le_of_ble_eq_true rfl) rfl (Nat.le_of_ble_eq_true rfl) dX9_forecastBalance_40 rfl (by decide) rfl ?_
      refine wa_aload_n 44 0 hC dX9_forecastBalance_43 rfl 0 rfl rfl ?_
      refine wa_getR 47 hC (vs9 hVC) (sr9_0 _) flX9_12 dX9_forecastBalance_44 rfl ?_
      refine wa_aload_n 48 0 hC dX9_forecastBalance_47 rfl 0 rfl rfl ?_
      refine wa_getR 51 hC (vs9 hVC) (sr9_0 _) flX9_12 dX9_forecastBalance_48 rfl ?_
      refine wa_getIc 54 hC hVC.2.2.2.2.2.1 sh0_4 rfl flX9_224 dX9_forecastBalance_51 rfl ?_
      obtain ⟨r_3, e_25, h⟩ := bd_some h
      refine wa_callVl 57 hC [.int (A_2.1 0 4 0 0)] [] knX0_valueOfMonth mvX9_252 (tX0_valueOfMonth E.2.1 0 (A_2.1 0 4 0 0) A_2 hVC hVC.2.2.2.2.2.1 e_25) hVC.2.2.2.2.2.1 kc0 (Nat.le_of_ble_eq_true rfl) (Nat.le_of_ble_eq_true rfl) rfl (Nat.le_of_ble_eq_true rfl) dX9_forecastBalance_54 rfl (by decide) rfl ?_
      refine wa_lstore_n (lv' := [(3, .long r_3), (0, .ref (ρ 9 0)), (1, .int x1), (2, .int x2)]) 58 3 hC dX9_forecastBalance_57 rfl rfl (by decide) rfl rfl ?_
      refine wa_aload_n 59 0 hC dX9_forecastBalance_58 rfl 1 rfl rfl ?_
      refine wa_getR 62 hC (vs9 hVC) (sr9_6 _) flX9_54 dX9_forecastBalance_59 rfl ?_
      refine wa_getR 65 hC hVC.2.2.2.2.2.2.2 (sr8_9 _) flX9_204 dX9_forecastBalance_62 rfl ?_
      refine wa_iconst 66 hC dX9_forecastBalance_65 kc_1 rfl ?_
      refine wa_laldc 67 hC (vc26 hVC hVC.2.2.2.2.2.2.2) ar26 rfl (by decide) dX9_forecastBalance_66 rfl ?_
      obtain ⟨x5_5, ex5_5, h⟩ := ltb_some h
      refine wa_lstore (lv' := [(5, .long x5_5), (3, .long r_3), (0, .ref (ρ 9 0)), (1, .int x1), (2, .int x2)]) 69 5 hC dX9_forecastBalance_67 ex5_5 (by decide) rfl rfl ?_
      refine wa_aload_n 70 0 hC dX9_forecastBalance_69 rfl 2 rfl rfl ?_
      obtain ⟨A_6, e_24, h⟩ := bd_some h
      refine wa_callVv 73 hC [] [] knX9_weighProjected mvX9_293 (tX9_weighProjected E.2.1 A_2 hVC e_24) (vs9 hVC) kc9 (Nat.le_of_ble_eq_true rfl) (Nat.le_of_ble_eq_true rfl) rfl (Nat.le_of_ble_eq_true rfl) dX9_forecastBalance_70 rfl (by decide) rfl ?_
      refine wa_aload_n 74 0 hC dX9_forecastBalance_73 rfl 2 rfl rfl ?_
      refine wa_getR 77 hC (vs9 hVC) (sr9_4 _) flX9_40 dX9_forecastBalance_74 rfl ?_
      refine wa_lload_n 78 3 hC dX9_forecastBalance_77 rfl 1 rfl rfl ?_
      obtain ⟨A_7, e_23, h⟩ := bd_some h
      refine wa_callVv 81 hC [.long r_3] [] knX3_divide mvX9_260 (tX3_divide E.2.1 r_3 A_6 hVC e_23) (vs3 hVC) kc3 (Nat.le_of_ble_eq_true rfl) (Nat.le_of_ble_eq_true rfl) rfl (Nat.le_of_ble_eq_true rfl) dX9_forecastBalance_78 rfl (by decide) rfl ?_
      refine wa_aload_n 82 0 hC dX9_forecastBalance_81 rfl 2 rfl rfl ?_
      refine wa_getR 85 hC (vs9 hVC) (sr9_5 _) flX9_47 dX9_forecastBalance_82 rfl ?_
      refine wa_aload_n 86 0 hC dX9_forecastBalance_85 rfl 2 rfl rfl ?_
      refine wa_getR 89 hC (vs9 hVC) (sr9_0 _) flX9_12 dX9_forecastBalance_86 rfl ?_
      refine wa_aload_n 90 0 hC dX9_forecastBalance_89 rfl 2 rfl rfl ?_
      refine wa_getR 93 hC (vs9 hVC) (sr9_4 _) flX9_40 dX9_forecastBalance_90 rfl ?_
      refine wa_getR 96 hC (vs3 hVC) (sr3_3 _) flX9_264 dX9_forecastBalance_93 rfl ?_
      obtain ⟨A_8, e_22, h⟩ := bd_some h
      refine wa_callVv 99 hC [.ref (ρ 0 0), .ref (ρ 17 0)] [] knX1_passOn mvX9_267 (tX1_passOn E.2.1 0 A_7 hVC hVC.2.2.2.2.2.1 e_22) (vs1 hVC) kc1 (Nat.le_of_ble_eq_true rfl) (Nat.le_of_ble_eq_true rfl) rfl (Nat.le_of_ble_eq_true rfl) dX9_forecastBalance_96 rfl (by decide) rfl ?_
      refine wa_aload_n 100 0 hC dX9_forecastBalance_99 rfl 2 rfl rfl ?_
      refine wa_getR 103 hC (vs9 hVC) (sr9_6 _) flX9_54 dX9_forecastBalance_100 rfl ?_
      refine wa_aload_n 104 0 hC dX9_forecastBalance_103 rfl 2 rfl rfl ?_
      refine wa_getR 107 hC (vs9 hVC) (sr9_5 _) flX9_47 dX9_forecastBalance_104 rfl ?_
      refine wa_getR 110 hC (vs1 hVC) (sr1_1 _) flX9_271 dX9_forecastBalance_107 rfl ?_
      refine wa_iload_n 111 1 hC dX9_forecastBalance_110 rfl 3 rfl rfl ?_
      obtain ⟨g_9, h⟩ := gd_some h
      refine wa_laldc 112 hC (vs13 hVC) ar13 rfl g_9 dX9_forecastBalance_111 rfl ?_
      refine wa_aload_n 113 0 hC dX9_forecastBalance_112 rfl 2 rfl rfl ?_
      refine wa_getR 116 hC (vs9 hVC) (sr9_0 _) flX9_12 dX9_forecastBalance_113 rfl ?_
      refine wa_getIc 119 hC hVC.2.2.2.2.2.1 sh0_4 rfl flX9_224 dX9_forecastBalance_116 rfl ?_
      refine wa_aload_n 120 0 hC dX9_forecastBalance_119 rfl 2 rfl rfl ?_
      refine wa_getR 123 hC (vs9 hVC) (sr9_0 _) flX9_12 dX9_forecastBalance_120 rfl ?_
      refine wa_getR 126 hC hVC.2.2.2.2.2.1 (sr0_0 _) flX9_104 dX9_forecastBalance_123 rfl ?_
      refine wa_getIc 129 hC (vc4 hVC hVC.2.2.2.2.2.1) sh4_1 rfl flX9_113 dX9_forecastBalance_126 rfl ?_
      obtain ⟨r_11, A_10, e_21, h⟩ := bd2_some h
      refine wa_callVl 132 hC [.long (A_8.2 13 0 0 x1.toNatClampNeg), .int (A_8.1 0 4 0 0), .int (A_8.1 4 1 0 0)] [] knX8_finishMonth mvX9_305 (tX8_finishMonth E.2.1 112 (A_8.2 13 0 0 x1.toNatClampNeg) (A_8.1 0 4 0 0) (A_8.1 4 1 0 0) A_8 hVC hVC.2.2.2.2.2.2.2 e_21) hVC.2.2.2.2.2.2.2 kc8 (Nat.le_of_ble_eq_true rfl) (Nat.le_of_ble_eq_true rfl) rfl (Nat.le_of_ble_eq_true rfl) dX9_forecastBalance_129 rfl (by decide) rfl ?_
      refine wa_pop2 133 hC dX9_forecastBalance_132 rfl rfl ?_
      refine wa_aload_n 134 0 hC dX9_forecastBalance_133 rfl 2 rfl rfl ?_
      refine wa_getR 137 hC (vs9 hVC) (sr9_4 _) flX9_40 dX9_forecastBalance_134 rfl ?_
      refine wa_aload_n 138 0 hC dX9_forecastBalance_137 rfl 2 rfl rfl ?_
      refine wa_getR 141 hC (vs9 hVC) (sr9_0 _) flX9_12 dX9_forecastBalance_138 rfl ?_
      refine wa_iconst 142 hC dX9_forecastBalance_141 kc_m1 rfl ?_
      refine wa_bipush 144 hC dX9_forecastBalance_142 kb_30 rfl ?_
      obtain ⟨A_12, e_20, h⟩ := bd_some h
      refine wa_callVv 147 hC [.ref (ρ 0 0), .int (-1 : Int32), .int (30 : Int32)] [] knX3_weighShareDays mvX9_256 (tX3_weighShareDays E.2.1 0 (-1 : Int32) (30 : Int32) A_10 hVC hVC.2.2.2.2.2.1 e_20) (vs3 hVC) kc3 (Nat.le_of_ble_eq_true rfl) (Nat.le_of_ble_eq_true rfl) rfl (Nat.le_of_ble_eq_true rfl) dX9_forecastBalance_144 rfl (by decide) rfl ?_
      refine wa_aload_n 148 0 hC dX9_forecastBalance_147 rfl 2 rfl rfl ?_
      refine wa_getR 151 hC (vs9 hVC) (sr9_4 _) flX9_40 dX9_forecastBalance_148 rfl ?_
      refine wa_lload_n 152 3 hC dX9_forecastBalance_151 rfl 1 rfl rfl ?_
      obtain ⟨A_13, e_19, h⟩ := bd_some h
      refine wa_callVv 155 hC [.long r_3] [] knX3_divide mvX9_260 (tX3_divide E.2.1 r_3 A_12 hVC e_19) (vs3 hVC) kc3 (Nat.le_of_ble_eq_true rfl) (Nat.le_of_ble_eq_true rfl) rfl (Nat.le_of_ble_eq_true rfl) dX9_forecastBalance_152 rfl (by decide) rfl ?_
      refine wa_aload_n 156 0 hC dX9_forecastBalance_155 rfl 2 rfl rfl ?_
      refine wa_getR 159 hC (vs9 hVC) (sr9_5 _) flX9_47 dX9_forecastBalance_156 rfl ?_
      refine wa_aload_n 160 0 hC dX9_forecastBalance_159 rfl 2 rfl rfl ?_
      refine wa_getR 163 hC (vs9 hVC) (sr9_0 _) flX9_12 dX9_forecastBalance_160 rfl ?_
      refine wa_aload_n 164 0 hC dX9_forecastBalance_163 rfl 2 rfl rfl ?_
      refine wa_getR 167 hC (vs9 hVC) (sr9_4 _) flX9_40 dX9_forecastBalance_164 rfl ?_
      refine wa_getR 170 hC (vs3 hVC) (sr3_3 _) flX9_264 dX9_forecastBalance_167 rfl ?_
      obtain ⟨A_14, e_18, h⟩ := bd_some h
      refine wa_callVv 173 hC [.ref (ρ 0 0), .ref (ρ 17 0)] [] knX1_passOn mvX9_267 (tX1_passOn E.2.1 0 A_13 hVC hVC.2.2.2.2.2.1 e_18) (vs1 hVC) kc1 (Nat.le_of_ble_eq_true rfl) (Nat.le_of_ble_eq_true rfl) rfl (Nat.le_of_ble_eq_true rfl) dX9_forecastBalance_170 rfl (by decide) rfl ?_
      refine wa_iconst 174 hC dX9_forecastBalance_173 kc_1 rfl ?_
      refine wa_istore (lv' := [(7, .int (1 : Int32)), (5, .long x5_5), (3, .long r_3), (0, .ref (ρ 9 0)), (1, .int x1), (2, .int x2)]) 176 7 hC dX9_forecastBalance_174 rfl (by decide) rfl rfl ?_
      refine wa_pick [3, 4, 5, 1, 0] rfl ?_
      refine wX9_forecastBalance_L176 x1 x2 x5_5 hC hVC (fun A_15 h => ?_) 10000 (1 : Int32) A_14 h
      refine wa_aload_n 237 0 hC dX9_forecastBalance_236 rfl 0 rfl rfl ?_
      refine wa_getR 240 hC (vs9 hVC) (sr9_6 _) flX9_54 dX9_forecastBalance_237 rfl ?_
      obtain ⟨r_16, e_17, h⟩ := bd_some h
      refine wa_callVl 243 hC [] [] knX8_lotSum mvX9_309 (tX8_lotSum E.2.1 112 A_15 hVC hVC.2.2.2.2.2.2.2 e_17) hVC.2.2.2.2.2.2.2 kc8 (Nat.le_of_ble_eq_true rfl) (Nat.le_of_ble_eq_true rfl) rfl (Nat.le_of_ble_eq_true rfl) dX9_forecastBalance_240 rfl (by decide) rfl ?_
      exact wx_lret hC hQ hE (xL h) (jA (sm2 h)) (by decide) dX9_forecastBalance_243
    · exact wx_throwW (st := []) (ix := 31) (is := 299) (n9 := 1) hC hl9 hT9 hQ hE (xTL h) (jA (sm2 h)) xw_IllegalArgumentException rfl (by decide) rfl rfl (by decide) (by decide) (Nat.le_of_ble_eq_true rfl) dX9_forecastBalance_16 dX9_forecastBalance_19 dX9_forecastBalance_20 dX9_forecastBalance_23 dX9_forecastBalance_26
set_option maxRecDepth 20000 in
theorem wX9_neededRate_L81 {E : eU} {G : gU} {ρ : Nat → Nat → Nat} {V : Nat → Nat → Prop} {Z : sM} {r : Nat ⊕ Int32} {A' : sM} (x3 : Int64) (x5 : Int32) (x6 : Int64) (x8 : Int64) {k120 : Int32 → sM → Option ((Nat ⊕ Int32) × sM)} {k129 : sM → Option ((Nat ⊕ Int32) × sM)} (hC : CX E G cX9_neededRate 11 RX9 (some .int) 10 90 3000) (hVC : VC V) (hk120 : ∀ (x10 : Int32) (A : sM), k120 x10 A = some (r, A') → WA E G ρ V 2 12 (J A Z) 120 [(10, .int x10)] []) (hk129 : ∀ (A : sM), k129 A = some (r, A') → WA E G ρ V 2 12 (J A Z) 129 [] []) : ∀ (n : Nat) (x10 : Int32) (A : sM), fX9_neededRate_L81 x3 x5 x6 x8 k120 k129 n x10 A = some (r, A') → WA E G ρ V 2 12 (J A Z) 81 [(0, .ref (ρ 9 0)), (3, .long x3), (5, .int x5), (6, .long x6), (8, .long x8), (10, .int x10)] [] := by
  intro n
  induction n with
  | zero =>
    intro x10 A h
    rw [fX9_neededRate_L81] at h
    cases h
  | succ n ih =>
    intro x10 A h
    rw [fX9_neededRate_L81] at h
    refine wa_iload 83 10 hC dX9_neededRate_81 5 rfl rfl ?_
    refine wa_sipush 86 hC dX9_neededRate_83 ks_200 rfl ?_
    refine wa_icmp_gt 89 129 hC dX9_neededRate_86 rfl rfl h (fun h => ?_) (fun h => ?_)
    · refine wa_pick [] rfl ?_
      exact hk129 A h
    · refine wa_aload_n 90 0 hC dX9_neededRate_89 rfl 0 rfl rfl ?_
      refine wa_getR 93 hC (vs9 hVC) (sr9_4 _) flX9_40 dX9_neededRate_90 rfl ?_
      refine wa_lload 95 8 hC dX9_neededRate_93 4 rfl rfl ?_
      refine wa_lload 97 6 hC dX9_neededRate_95 3 rfl rfl ?_
      refine wa_iload 99 10 hC dX9_neededRate_97 5 rfl rfl ?_
      refine wa_i2l 100 hC dX9_neededRate_99 rfl ?_
      refine wa_lmul 101 hC dX9_neededRate_100 rfl ?_
      refine wa_ladd 102 hC dX9_neededRate_101 rfl ?_
      obtain ⟨A_1, e_4, h⟩ := bd_some h
      refine wa_callVv 105 hC [.long (x8 + (x6 * (x10.toInt64)))] [] knX3_divide mvX9_260 (tX3_divide E.2.1 (x8 + (x6 * (x10.toInt64))) A hVC e_4) (vs3 hVC) kc3 (Nat.le_of_ble_eq_true rfl) (Nat.le_of_ble_eq_true rfl) rfl (Nat.le_of_ble_eq_true rfl) dX9_neededRate_102 rfl (by decide) rfl ?_
      refine wa_aload_n 106 0 hC dX9_neededRate_105 rfl 0 rfl rfl ?_
      refine wa_getR 109 hC (vs9 hVC) (sr9_4 _) flX9_40 dX9_neededRate_106 rfl ?_
      refine wa_getR 112 hC (vs3 hVC) (sr3_3 _) flX9_264 dX9_neededRate_109 rfl ?_
      refine wa_iload 114 5 hC dX9_neededRate_112 2 rfl rfl ?_
      obtain ⟨g_2, h⟩ := gd_some h
      refine wa_laldc 115 hC (vs17 hVC) ar17 rfl g_2 dX9_neededRate_114 rfl ?_
      refine wa_lload_n 116 3 hC dX9_neededRate_115 rfl 1 rfl rfl ?_
      refine wa_lcmp 117 hC dX9_neededRate_116 rfl ?_
      refine wa_lcmp_lt 120 123 hC dX9_neededRate_117 rfl rfl h (fun h => ?_) (fun h => ?_)
      · obtain ⟨x10_3, ex10_3, h⟩ := ltb_some h
        refine wa_iinc (lv' := [(10, .int x10_3), (0, .ref (ρ 9 0)), (3, .long x3), (5, .int x5), (6, .long x6), (8, .long x8)]) 126 10 hC dX9_neededRate_123 5 rfl (by rw [kc_1]; exact ex10_3) (by decide) rfl rfl ?_
        refine wa_goto 81 hC dX9_neededRate_126 rfl ?_
        refine wa_pick [1, 2, 3, 4, 5, 0] rfl ?_
        exact ih x10_3 A_1 h
      · refine wa_pick [5] rfl ?_
        exact hk120 x10 A_1 h
set_option maxRecDepth 20000 in
theorem tX9_neededRate (l : Launch) (hl9 : l.stackTraces = false) {G : gU} {ρ : Nat → Nat → Nat} {V : Nat → Nat → Prop} {Z : sM} (x1 : Int32) (x2 : Int32) (x3 : Int64) (A : sM) (_ : VC V) {r : Nat ⊕ Int32} {A' : sM} (h : fX9_neededRate x1 x2 x3 A = some (r, A')) : MX l yX9_neededRate cX9_neededRate 11 (some .int) 10 90 3000 G ρ V [.ref (ρ 9 0), .int x1, .int x2, .long x3] (J A Z) (rI r) (J A' Z) := by
  refine vx_enter (lv := [(0, .ref (ρ 9 0)), (1, .int x1), (2, .int x2), (3, .long x3)]) RX9 rfl (by decide) (Nat.le_of_ble_eq_true rfl) rfl ?_
  intro E hE1 hC hQ hT9 hVC
  subst hE1
  have hQ : QXX E G ρ V (rI r) (J A' Z) 90 3000 := hQ
  have hE : Ext ρ V ρ V := Ext.rfl
  rw [fX9_neededRate] at h
  refine wa_aload_n 1 0 hC dX9_neededRate_0 rfl 0 rfl rfl ?_
  refine wa_iload_n 2 1 hC dX9_neededRate_1 rfl 1 rfl rfl ?_
  rcases rq_some h with ⟨e_17, h⟩ | ⟨n9, e_17, h⟩
  rotate_left
  · exact wx_reqThrow hC [.int x1] [] knX9_requireParticipant mwX9_284 (tX9_requireParticipant E.2.1 hl9 x1 A hVC e_17) (vs9 hVC) kc9 (Nat.le_of_ble_eq_true rfl) (Nat.le_of_ble_eq_true rfl) rfl (Nat.le_of_ble_eq_true rfl) dX9_neededRate_2 hT9 hQ hE (xTI h) (jA (sm2 h)) (by decide) rfl
  refine wx_reqOK 5 hC [.int x1] [] knX9_requireParticipant mwX9_284 (tX9_requireParticipant E.2.1 hl9 x1 A hVC e_17) (vs9 hVC) kc9 (Nat.le_of_ble_eq_true rfl) (Nat.le_of_ble_eq_true rfl) rfl (Nat.le_of_ble_eq_true rfl) dX9_neededRate_2 rfl (by decide) rfl ?_
  refine wa_aload_n 6 0 hC dX9_neededRate_5 rfl 0 rfl rfl ?_
  refine wa_iload_n 7 2 hC dX9_neededRate_6 rfl 2 rfl rfl ?_
  rcases rq_some h with ⟨e_16, h⟩ | ⟨n9, e_16, h⟩
  rotate_left
  · exact wx_reqThrow hC [.int x2] [] knX9_requirePeriod mwX9_281 (tX9_requirePeriod E.2.1 hl9 x2 A hVC e_16) (vs9 hVC) kc9 (Nat.le_of_ble_eq_true rfl) (Nat.le_of_ble_eq_true rfl) rfl (Nat.le_of_ble_eq_true rfl) dX9_neededRate_7 hT9 hQ hE (xTI h) (jA (sm2 h)) (by decide) rfl
  refine wx_reqOK 10 hC [.int x2] [] knX9_requirePeriod mwX9_281 (tX9_requirePeriod E.2.1 hl9 x2 A hVC e_16) (vs9 hVC) kc9 (Nat.le_of_ble_eq_true rfl) (Nat.le_of_ble_eq_true rfl) rfl (Nat.le_of_ble_eq_true rfl) dX9_neededRate_7 rfl (by decide) rfl ?_
  refine wa_iload_n 11 1 hC dX9_neededRate_10 rfl 1 rfl rfl ?_
  obtain ⟨r_1, e_15, h⟩ := bd_some h
  refine wa_callSi 14 hC [.int x1] [] knX9_placeOf msX9_296 (tX9_placeOf E.2.1 x1 A hVC e_15) (Nat.le_of_ble_eq_true rfl) (Nat.le_of_ble_eq_true rfl) rfl (Nat.le_of_ble_eq_true rfl) dX9_neededRate_11 rfl (by decide) rfl ?_
  refine wa_istore (lv' := [(5, .int r_1), (0, .ref (ρ 9 0)), (1, .int x1), (2, .int x2), (3, .long x3)]) 16 5 hC dX9_neededRate_14 rfl (by decide) rfl rfl ?_
  refine wa_aload_n 17 0 hC dX9_neededRate_16 rfl 1 rfl rfl ?_
  refine wa_getR 20 hC (vs9 hVC) (sr9_0 _) flX9_12 dX9_neededRate_17 rfl ?_
  refine wa_getR 23 hC hVC.2.2.2.2.2.1 (sr0_1 _) flX9_233 dX9_neededRate_20 rfl ?_
  refine wa_getR 26 hC (vc7 hVC hVC.2.2.2.2.2.1) (sr7_0 _) flX9_237 dX9_neededRate_23 rfl ?_
  refine wa_aload_n 27 0 hC dX9_neededRate_26 rfl 1 rfl rfl ?_
  refine wa_getR 30 hC (vs9 hVC) (sr9_0 _) flX9_12 dX9_neededRate_27 rfl ?_
  refine wa_getIc 33 hC hVC.2.2.2.2.2.1 sh0_4 rfl flX9_224 dX9_neededRate_30 rfl ?_
  refine wa_iload_n 34 2 hC dX9_neededRate_33 rfl 3 rfl rfl ?_
  obtain ⟨r_2, e_14, h⟩ := bd_some h
  refine wa_callSi 37 hC [.int (A.1 0 4 0 0), .int x2] [.ref (ρ 22 0)] knX7_cell msX9_227 (tX7_cell E.2.1 (A.1 0 4 0 0) x2 A hVC e_14) (Nat.le_of_ble_eq_true rfl) (Nat.le_of_ble_eq_true rfl) rfl (Nat.le_of_ble_eq_true rfl) dX9_neededRate_34 rfl (by decide) rfl ?_
  obtain ⟨g_3, h⟩ := gd_some h
  refine wa_ialdc 38 hC (vc22 hVC (vc7 hVC hVC.2.2.2.2.2.1)) ar22 rfl g_3 dX9_neededRate_37 rfl ?_
  refine wa_i2l 39 hC dX9_neededRate_38 rfl ?_
  obtain ⟨x6_4, ex6_4, h⟩ := ltb_some h
  refine wa_lstore (lv' := [(6, .long x6_4), (5, .int r_1), (0, .ref (ρ 9 0)), (1, .int x1), (2, .int x2), (3, .long x3)]) 41 6 hC dX9_neededRate_39 ex6_4 (by decide) rfl rfl ?_
  refine wa_aload_n 42 0 hC dX9_neededRate_41 rfl 2 rfl rfl ?_
  refine wa_getR 45 hC (vs9 hVC) (sr9_0 _) flX9_12 dX9_neededRate_42 rfl ?_
  refine wa_aload_n 46 0 hC dX9_neededRate_45 rfl 2 rfl rfl ?_
  refine wa_getR 49 hC (vs9 hVC) (sr9_0 _) flX9_12 dX9_neededRate_46 rfl ?_
  refine wa_getIc 52 hC hVC.2.2.2.2.2.1 sh0_4 rfl flX9_224 dX9_neededRate_49 rfl ?_
  obtain ⟨r_5, e_13, h⟩ := bd_some h
  refine wa_callVl 55 hC [.int (A.1 0 4 0 0)] [] knX0_valueOfMonth mvX9_252 (tX0_valueOfMonth E.2.1 0 (A.1 0 4 0 0) A hVC hVC.2.2.2.2.2.1 e_13) hVC.2.2.2.2.2.1 kc0 (Nat.le_of_ble_eq_true rfl) (Nat.le_of_ble_eq_true rfl) rfl (Nat.le_of_ble_eq_true rfl) dX9_neededRate_52 rfl (by decide) rfl ?_
  refine wa_lload 57 6 hC dX9_neededRate_55 0 rfl rfl ?_
  refine wa_aload_n 58 0 hC dX9_neededRate_57 rfl 2 rfl rfl ?_
  refine wa_getR 61 hC (vs9 hVC) (sr9_0 _) flX9_12 dX9_neededRate_58 rfl ?_
  refine wa_getR 64 hC hVC.2.2.2.2.2.1 (sr0_0 _) flX9_104 dX9_neededRate_61 rfl ?_
  refine wa_getR 67 hC (vc4 hVC hVC.2.2.2.2.2.1) (sr4_5 _) flX9_313 dX9_neededRate_64 rfl ?_
  refine wa_iload_n 68 2 hC dX9_neededRate_67 rfl 4 rfl rfl ?_
  obtain ⟨g_6, h⟩ := gd_some h
  refine wa_ialdc 69 hC (vc18 hVC (vc4 hVC hVC.2.2.2.2.2.1)) ar18 rfl g_6 dX9_neededRate_68 rfl ?_
  refine wa_i2l 70 hC dX9_neededRate_69 rfl ?_
  refine wa_lmul 71 hC dX9_neededRate_70 rfl ?_
  refine wa_lsub 72 hC dX9_neededRate_71 rfl ?_
  obtain ⟨x8_7, ex8_7, h⟩ := ltb_some h
  refine wa_lstore (lv' := [(8, .long x8_7), (6, .long x6_4), (5, .int r_1), (0, .ref (ρ 9 0)), (1, .int x1), (2, .int x2), (3, .long x3)]) 74 8 hC dX9_neededRate_72 ex8_7 (by decide) rfl rfl ?_
  refine wa_aload_n 75 0 hC dX9_neededRate_74 rfl 3 rfl rfl ?_
  obtain ⟨A_8, e_12, h⟩ := bd_some h
  refine wa_callVv 78 hC [] [] knX9_weighProjected mvX9_293 (tX9_weighProjected E.2.1 A hVC e_12) (vs9 hVC) kc9 (Nat.le_of_ble_eq_true rfl) (Nat.le_of_ble_eq_true rfl) rfl (Nat.le_of_ble_eq_true rfl) dX9_neededRate_75 rfl (by decide) rfl ?_
  refine wa_iconst 79 hC dX9_neededRate_78 kc_0 rfl ?_
  refine wa_istore (lv' := [(10, .int (0 : Int32)), (8, .long x8_7), (6, .long x6_4), (5, .int r_1), (0, .ref (ρ 9 0)), (1, .int x1), (2, .int x2), (3, .long x3)]) 81 10 hC dX9_neededRate_79 rfl (by decide) rfl rfl ?_
  refine wa_pick [4, 7, 3, 2, 1, 0] rfl ?_
  refine wX9_neededRate_L81 x3 r_1 x6_4 x8_7 hC hVC (fun x10_9 A_10 h => ?_) (fun A_11 h => ?_) 10000 (0 : Int32) A_8 h
  · refine wa_iload 122 10 hC dX9_neededRate_120 0 rfl rfl ?_
    exact wx_iret hC hQ hE (xI h) (jA (sm2 h)) (by decide) dX9_neededRate_122
  · exact wx_throwN (st := []) (ix := 32) (is := 318) (n9 := 3) hC hl9 hT9 hQ hE (xTI h) (jA (sm2 h)) trivial rfl (by decide) rfl rfl (by decide) (by decide) (Nat.le_of_ble_eq_true rfl) dX9_neededRate_129 dX9_neededRate_132 dX9_neededRate_133 dX9_neededRate_136 dX9_neededRate_139
set_option maxRecDepth 20000 in
theorem tX9_issued (l : Launch) (hl9 : l.stackTraces = false) {G : gU} {ρ : Nat → Nat → Nat} {V : Nat → Nat → Prop} {Z : sM} (x1 : Int32) (A : sM) (_ : VC V) {r : Nat ⊕ Int64} {A' : sM} (h : fX9_issued x1 A = some (r, A')) : MX l yX9_issued cX9_issued 2 (some .long) 9 90 3000 G ρ V [.ref (ρ 9 0), .int x1] (J A Z) (rL r) (J A' Z) := by
  refine vx_enter (lv := [(0, .ref (ρ 9 0)), (1, .int x1)]) RX9 rfl (by decide) (Nat.le_of_ble_eq_true rfl) rfl ?_
  intro E hE1 hC hQ hT9 hVC
  subst hE1
  have hQ : QXX E G ρ V (rL r) (J A' Z) 90 3000 := hQ
  have hE : Ext ρ V ρ V := Ext.rfl
  rw [fX9_issued] at h
  refine wa_aload_n 1 0 hC dX9_issued_0 rfl 0 rfl rfl ?_
  refine wa_iload_n 2 1 hC dX9_issued_1 rfl 1 rfl rfl ?_
  rcases rq_some h with ⟨e_3, h⟩ | ⟨n9, e_3, h⟩
  rotate_left
  · exact wx_reqThrow hC [.int x1] [] knX9_requireMonth mwX9_278 (tX9_requireMonth E.2.1 hl9 x1 A hVC e_3) (vs9 hVC) kc9 (Nat.le_of_ble_eq_true rfl) (Nat.le_of_ble_eq_true rfl) rfl (Nat.le_of_ble_eq_true rfl) dX9_issued_2 hT9 hQ hE (xTL h) (jA (sm2 h)) (by decide) rfl
  refine wx_reqOK 5 hC [.int x1] [] knX9_requireMonth mwX9_278 (tX9_requireMonth E.2.1 hl9 x1 A hVC e_3) (vs9 hVC) kc9 (Nat.le_of_ble_eq_true rfl) (Nat.le_of_ble_eq_true rfl) rfl (Nat.le_of_ble_eq_true rfl) dX9_issued_2 rfl (by decide) rfl ?_
  refine wa_aload_n 6 0 hC dX9_issued_5 rfl 0 rfl rfl ?_
  refine wa_getR 9 hC (vs9 hVC) (sr9_0 _) flX9_12 dX9_issued_6 rfl ?_
  refine wa_iload_n 10 1 hC dX9_issued_9 rfl 1 rfl rfl ?_
  obtain ⟨r_1, e_2, h⟩ := bd_some h
  refine wa_callVl 13 hC [.int x1] [] knX0_valueOfMonth mvX9_252 (tX0_valueOfMonth E.2.1 0 x1 A hVC hVC.2.2.2.2.2.1 e_2) hVC.2.2.2.2.2.1 kc0 (Nat.le_of_ble_eq_true rfl) (Nat.le_of_ble_eq_true rfl) rfl (Nat.le_of_ble_eq_true rfl) dX9_issued_10 rfl (by decide) rfl ?_
  exact wx_lret hC hQ hE (xL h) (jA (sm2 h)) (by decide) dX9_issued_13
set_option maxRecDepth 20000 in
theorem tX9_shareDayValue (l : Launch) (hl9 : l.stackTraces = false) {G : gU} {ρ : Nat → Nat → Nat} {V : Nat → Nat → Prop} {Z : sM} (x1 : Int32) (x2 : Int32) (A : sM) (_ : VC V) {r : Nat ⊕ Int64} {A' : sM} (h : fX9_shareDayValue x1 x2 A = some (r, A')) : MX l yX9_shareDayValue cX9_shareDayValue 9 (some .long) 9 90 3000 G ρ V [.ref (ρ 9 0), .int x1, .int x2] (J A Z) (rL r) (J A' Z) := by
  refine vx_enter (lv := [(0, .ref (ρ 9 0)), (1, .int x1), (2, .int x2)]) RX9 rfl (by decide) (Nat.le_of_ble_eq_true rfl) rfl ?_
  intro E hE1 hC hQ hT9 hVC
  subst hE1
  have hQ : QXX E G ρ V (rL r) (J A' Z) 90 3000 := hQ
  have hE : Ext ρ V ρ V := Ext.rfl
  rw [fX9_shareDayValue] at h
  refine wa_aload_n 1 0 hC dX9_shareDayValue_0 rfl 0 rfl rfl ?_
  refine wa_iload_n 2 1 hC dX9_shareDayValue_1 rfl 1 rfl rfl ?_
  rcases rq_some h with ⟨e_10, h⟩ | ⟨n9, e_10, h⟩
  rotate_left
  · exact wx_reqThrow hC [.int x1] [] knX9_requireMonth mwX9_278 (tX9_requireMonth E.2.1 hl9 x1 A hVC e_10) (vs9 hVC) kc9 (Nat.le_of_ble_eq_true rfl) (Nat.le_of_ble_eq_true rfl) rfl (Nat.le_of_ble_eq_true rfl) dX9_shareDayValue_2 hT9 hQ hE (xTL h) (jA (sm2 h)) (by decide) rfl
  refine wx_reqOK 5 hC [.int x1] [] knX9_requireMonth mwX9_278 (tX9_requireMonth E.2.1 hl9 x1 A hVC e_10) (vs9 hVC) kc9 (Nat.le_of_ble_eq_true rfl) (Nat.le_of_ble_eq_true rfl) rfl (Nat.le_of_ble_eq_true rfl) dX9_shareDayValue_2 rfl (by decide) rfl ?_
  refine wa_aload_n 6 0 hC dX9_shareDayValue_5 rfl 0 rfl rfl ?_
  refine wa_getR 9 hC (vs9 hVC) (sr9_0 _) flX9_12 dX9_shareDayValue_6 rfl ?_
  refine wa_iload_n 10 1 hC dX9_shareDayValue_9 rfl 1 rfl rfl ?_
  obtain ⟨r_1, e_9, h⟩ := bd_some h
  refine wa_callVl 13 hC [.int x1] [] knX0_valueOfMonth mvX9_252 (tX0_valueOfMonth E.2.1 0 x1 A hVC hVC.2.2.2.2.2.1 e_9) hVC.2.2.2.2.2.1 kc0 (Nat.le_of_ble_eq_true rfl) (Nat.le_of_ble_eq_true rfl) rfl (Nat.le_of_ble_eq_true rfl) dX9_shareDayValue_10 rfl (by decide) rfl ?_
  refine wa_lstore_n (lv' := [(3, .long r_1), (0, .ref (ρ 9 0)), (1, .int x1), (2, .int x2)]) 14 3 hC dX9_shareDayValue_13 rfl rfl (by decide) rfl rfl ?_
  refine wa_aload_n 15 0 hC dX9_shareDayValue_14 rfl 1 rfl rfl ?_
  refine wa_getR 18 hC (vs9 hVC) (sr9_0 _) flX9_12 dX9_shareDayValue_15 rfl ?_
  refine wa_getR 21 hC hVC.2.2.2.2.2.1 (sr0_0 _) flX9_104 dX9_shareDayValue_18 rfl ?_
  obtain ⟨r_2, e_8, h⟩ := bd_some h
  refine wa_callVi 24 hC [] [] knX4_monthShareDays mvX9_321 (tX4_monthShareDays E.2.1 0 A hVC (vc4 hVC hVC.2.2.2.2.2.1) e_8) (vc4 hVC hVC.2.2.2.2.2.1) kc4 (Nat.le_of_ble_eq_true rfl) (Nat.le_of_ble_eq_true rfl) rfl (Nat.le_of_ble_eq_true rfl) dX9_shareDayValue_21 rfl (by decide) rfl ?_
  refine wa_i2l 25 hC dX9_shareDayValue_24 rfl ?_
  obtain ⟨x5_3, ex5_3, h⟩ := ltb_some h
  refine wa_lstore (lv' := [(5, .long x5_3), (3, .long r_1), (0, .ref (ρ 9 0)), (1, .int x1), (2, .int x2)]) 27 5 hC dX9_shareDayValue_25 ex5_3 (by decide) rfl rfl ?_
  refine wa_lload_n 28 3 hC dX9_shareDayValue_27 rfl 1 rfl rfl ?_
  refine wa_lload 30 5 hC dX9_shareDayValue_28 0 rfl rfl ?_
  obtain ⟨r_4, e_7, h⟩ := bd_some h
  refine wa_callSl 33 hC [.long r_1, .long x5_3] [] knX9_greatestDivisor msX9_324 (tX9_greatestDivisor E.2.1 r_1 x5_3 A hVC e_7) (Nat.le_of_ble_eq_true rfl) (Nat.le_of_ble_eq_true rfl) rfl (Nat.le_of_ble_eq_true rfl) dX9_shareDayValue_30 rfl (by decide) rfl ?_
  refine wa_lstore (lv' := [(7, .long r_4), (5, .long x5_3), (3, .long r_1), (0, .ref (ρ 9 0)), (1, .int x1), (2, .int x2)]) 35 7 hC dX9_shareDayValue_33 rfl (by decide) rfl rfl ?_
  refine wa_iload_n 36 2 hC dX9_shareDayValue_35 rfl 5 rfl rfl ?_
  refine wa_if_eq 39 44 hC dX9_shareDayValue_36 rfl rfl h (fun h => ?_) (fun h => ?_)
  · refine wa_lload_n 45 3 hC dX9_shareDayValue_44 rfl 2 rfl rfl ?_
    refine wa_lload 47 7 hC dX9_shareDayValue_45 0 rfl rfl ?_
    obtain ⟨g_5, h⟩ := gd_some h
    refine wa_ldiv 48 hC dX9_shareDayValue_47 g_5 rfl ?_
    exact wx_lret hC hQ hE (xL h) (jA (sm2 h)) (by decide) dX9_shareDayValue_48
  · refine wa_lload 41 5 hC dX9_shareDayValue_39 1 rfl rfl ?_
    refine wa_goto 45 hC dX9_shareDayValue_41 rfl ?_
    refine wa_lload 47 7 hC dX9_shareDayValue_45 0 rfl rfl ?_
    obtain ⟨g_6, h⟩ := gd_some h
    refine wa_ldiv 48 hC dX9_shareDayValue_47 g_6 rfl ?_
    exact wx_lret hC hQ hE (xL h) (jA (sm2 h)) (by decide) dX9_shareDayValue_48
set_option maxRecDepth 20000 in
theorem tX9_neededShares (l : Launch) (hl9 : l.stackTraces = false) {G : gU} {ρ : Nat → Nat → Nat} {V : Nat → Nat → Prop} {Z : sM} (x1 : Int64) (A : sM) (_ : VC V) {r : Nat ⊕ Int32} {A' : sM} (h : fX9_neededShares x1 A = some (r, A')) : MX l yX9_neededShares cX9_neededShares 5 (some .int) 8 90 3000 G ρ V [.ref (ρ 9 0), .long x1] (J A Z) (rI r) (J A' Z) := by
  refine vx_enter (lv := [(0, .ref (ρ 9 0)), (1, .long x1)]) RX9 rfl (by decide) (Nat.le_of_ble_eq_true rfl) rfl ?_
  intro E hE1 hC hQ hT9 hVC
  subst hE1
  have hQ : QXX E G ρ V (rI r) (J A' Z) 90 3000 := hQ
  have hE : Ext ρ V ρ V := Ext.rfl
  rw [fX9_neededShares] at h
  refine wa_lload_n 1 1 hC dX9_neededShares_0 rfl 1 rfl rfl ?_
  refine wa_lconst 2 hC dX9_neededShares_1 kl_0 rfl ?_
  refine wa_lcmp 3 hC dX9_neededShares_2 rfl ?_
  refine wa_lcmp_ge 6 17 hC dX9_neededShares_3 rfl rfl h (fun h => ?_) (fun h => ?_)
  · refine wa_aload_n 18 0 hC dX9_neededShares_17 rfl 0 rfl rfl ?_
    refine wa_getR 21 hC (vs9 hVC) (sr9_0 _) flX9_12 dX9_neededShares_18 rfl ?_
    refine wa_aload_n 22 0 hC dX9_neededShares_21 rfl 0 rfl rfl ?_
    refine wa_getR 25 hC (vs9 hVC) (sr9_0 _) flX9_12 dX9_neededShares_22 rfl ?_
    refine wa_getIc 28 hC hVC.2.2.2.2.2.1 sh0_4 rfl flX9_224 dX9_neededShares_25 rfl ?_
    obtain ⟨r_1, e_3, h⟩ := bd_some h
    refine wa_callVl 31 hC [.int (A.1 0 4 0 0)] [] knX0_valueOfMonth mvX9_252 (tX0_valueOfMonth E.2.1 0 (A.1 0 4 0 0) A hVC hVC.2.2.2.2.2.1 e_3) hVC.2.2.2.2.2.1 kc0 (Nat.le_of_ble_eq_true rfl) (Nat.le_of_ble_eq_true rfl) rfl (Nat.le_of_ble_eq_true rfl) dX9_neededShares_28 rfl (by decide) rfl ?_
    refine wa_lstore_n (lv' := [(3, .long r_1), (0, .ref (ρ 9 0)), (1, .long x1)]) 32 3 hC dX9_neededShares_31 rfl rfl (by decide) rfl rfl ?_
    refine wa_lload_n 33 1 hC dX9_neededShares_32 rfl 2 rfl rfl ?_
    refine wa_lload_n 34 3 hC dX9_neededShares_33 rfl 0 rfl rfl ?_
    refine wa_lcmp 35 hC dX9_neededShares_34 rfl ?_
    refine wa_lcmp_le 38 49 hC dX9_neededShares_35 rfl rfl h (fun h => ?_) (fun h => ?_)
    · refine wa_lload_n 50 1 hC dX9_neededShares_49 rfl 2 rfl rfl ?_
      refine wa_lconst 51 hC dX9_neededShares_50 kl_0 rfl ?_
      refine wa_lcmp 52 hC dX9_neededShares_51 rfl ?_
      refine wa_lcmp_eq 55 61 hC dX9_neededShares_52 rfl rfl h (fun h => ?_) (fun h => ?_)
      · refine wa_iconst 62 hC dX9_neededShares_61 kc_1 rfl ?_
        exact wx_iret hC hQ hE (xI h) (jA (sm2 h)) (by decide) dX9_neededShares_62
      · refine wa_lload_n 56 3 hC dX9_neededShares_55 rfl 0 rfl rfl ?_
        refine wa_lconst 57 hC dX9_neededShares_56 kl_1 rfl ?_
        refine wa_lcmp 58 hC dX9_neededShares_57 rfl ?_
        refine wa_lcmp_ge 61 63 hC dX9_neededShares_58 rfl rfl h (fun h => ?_) (fun h => ?_)
        · refine wa_lload_n 64 1 hC dX9_neededShares_63 rfl 2 rfl rfl ?_
          refine wa_aload_n 65 0 hC dX9_neededShares_64 rfl 1 rfl rfl ?_
          refine wa_getR 68 hC (vs9 hVC) (sr9_0 _) flX9_12 dX9_neededShares_65 rfl ?_
          refine wa_getR 71 hC hVC.2.2.2.2.2.1 (sr0_0 _) flX9_104 dX9_neededShares_68 rfl ?_
          refine wa_getIc 74 hC (vc4 hVC hVC.2.2.2.2.2.1) sh4_0 rfl flX9_110 dX9_neededShares_71 rfl ?_
          refine wa_i2l 75 hC dX9_neededShares_74 rfl ?_
          refine wa_lmul 76 hC dX9_neededShares_75 rfl ?_
          refine wa_lload_n 77 3 hC dX9_neededShares_76 rfl 0 rfl rfl ?_
          refine wa_ladd 78 hC dX9_neededShares_77 rfl ?_
          refine wa_lconst 79 hC dX9_neededShares_78 kl_1 rfl ?_
          refine wa_lsub 80 hC dX9_neededShares_79 rfl ?_
          refine wa_lload_n 81 3 hC dX9_neededShares_80 rfl 0 rfl rfl ?_
          obtain ⟨g_2, h⟩ := gd_some h
          refine wa_ldiv 82 hC dX9_neededShares_81 g_2 rfl ?_
          refine wa_l2i 83 hC dX9_neededShares_82 rfl ?_
          exact wx_iret hC hQ hE (xI h) (jA (sm2 h)) (by decide) dX9_neededShares_83
        · refine wa_iconst 62 hC dX9_neededShares_61 kc_1 rfl ?_
          exact wx_iret hC hQ hE (xI h) (jA (sm2 h)) (by decide) dX9_neededShares_62
    · exact wx_throwN (st := []) (ix := 34) (is := 330) (n9 := 3) hC hl9 hT9 hQ hE (xTI h) (jA (sm2 h)) trivial rfl (by decide) rfl rfl (by decide) (by decide) (Nat.le_of_ble_eq_true rfl) dX9_neededShares_38 dX9_neededShares_41 dX9_neededShares_42 dX9_neededShares_45 dX9_neededShares_48
  · exact wx_throwW (st := []) (ix := 33) (is := 328) (n9 := 1) hC hl9 hT9 hQ hE (xTI h) (jA (sm2 h)) xw_IllegalArgumentException rfl (by decide) rfl rfl (by decide) (by decide) (Nat.le_of_ble_eq_true rfl) dX9_neededShares_6 dX9_neededShares_9 dX9_neededShares_10 dX9_neededShares_13 dX9_neededShares_16
set_option maxRecDepth 20000 in
theorem tX9_balance (l : Launch) (hl9 : l.stackTraces = false) {G : gU} {ρ : Nat → Nat → Nat} {V : Nat → Nat → Prop} {Z : sM} (x1 : Int32) (A : sM) (_ : VC V) {r : Nat ⊕ Int64} {A' : sM} (h : fX9_balance x1 A = some (r, A')) : MX l yX9_balance cX9_balance 2 (some .long) 9 90 3000 G ρ V [.ref (ρ 9 0), .int x1] (J A Z) (rL r) (J A' Z) := by
  refine vx_enter (lv := [(0, .ref (ρ 9 0)), (1, .int x1)]) RX9 rfl (by decide) (Nat.le_of_ble_eq_true rfl) rfl ?_
  intro E hE1 hC hQ hT9 hVC
  subst hE1
  have hQ : QXX E G ρ V (rL r) (J A' Z) 90 3000 := hQ
  have hE : Ext ρ V ρ V := Ext.rfl
  rw [fX9_balance] at h
  refine wa_aload_n 1 0 hC dX9_balance_0 rfl 0 rfl rfl ?_
  refine wa_iload_n 2 1 hC dX9_balance_1 rfl 1 rfl rfl ?_
  rcases rq_some h with ⟨e_4, h⟩ | ⟨n9, e_4, h⟩
  rotate_left
  · exact wx_reqThrow hC [.int x1] [] knX9_requireSubscriber mwX9_150 (tX9_requireSubscriber E.2.1 hl9 x1 A hVC e_4) (vs9 hVC) kc9 (Nat.le_of_ble_eq_true rfl) (Nat.le_of_ble_eq_true rfl) rfl (Nat.le_of_ble_eq_true rfl) dX9_balance_2 hT9 hQ hE (xTL h) (jA (sm2 h)) (by decide) rfl
  refine wx_reqOK 5 hC [.int x1] [] knX9_requireSubscriber mwX9_150 (tX9_requireSubscriber E.2.1 hl9 x1 A hVC e_4) (vs9 hVC) kc9 (Nat.le_of_ble_eq_true rfl) (Nat.le_of_ble_eq_true rfl) rfl (Nat.le_of_ble_eq_true rfl) dX9_balance_2 rfl (by decide) rfl ?_
  refine wa_aload_n 6 0 hC dX9_balance_5 rfl 0 rfl rfl ?_
  refine wa_getR 9 hC (vs9 hVC) (sr9_0 _) flX9_12 dX9_balance_6 rfl ?_
  refine wa_getR 12 hC hVC.2.2.2.2.2.1 (sr0_2 _) flX9_159 dX9_balance_9 rfl ?_
  refine wa_iload_n 13 1 hC dX9_balance_12 rfl 1 rfl rfl ?_
  obtain ⟨g_1, h⟩ := gd_some h
  refine wa_aald 14 hC (vc11 hVC hVC.2.2.2.2.2.1) g_1 dX9_balance_13 rfl ?_
  obtain ⟨r_2, e_3, h⟩ := bd_some h
  refine wa_callVl 17 hC [] [] knX8_lotSum mvX9_309 (tX8_lotSum E.2.1 (16 * 0 + x1.toNatClampNeg) A hVC (vc8 hVC hVC.2.2.2.2.2.1 (inb_lt g_1)) e_3) (vc8 hVC hVC.2.2.2.2.2.1 (inb_lt g_1)) kc8 (Nat.le_of_ble_eq_true rfl) (Nat.le_of_ble_eq_true rfl) rfl (Nat.le_of_ble_eq_true rfl) dX9_balance_14 rfl (by decide) rfl ?_
  exact wx_lret hC hQ hE (xL h) (jA (sm2 h)) (by decide) dX9_balance_17
set_option maxRecDepth 20000 in
theorem tX9_lot (l : Launch) (hl9 : l.stackTraces = false) {G : gU} {ρ : Nat → Nat → Nat} {V : Nat → Nat → Prop} {Z : sM} (x1 : Int32) (x2 : Int32) (A : sM) (_ : VC V) {r : Nat ⊕ Int64} {A' : sM} (h : fX9_lot x1 x2 A = some (r, A')) : MX l yX9_lot cX9_lot 3 (some .long) 9 90 3000 G ρ V [.ref (ρ 9 0), .int x1, .int x2] (J A Z) (rL r) (J A' Z) := by
  refine vx_enter (lv := [(0, .ref (ρ 9 0)), (1, .int x1), (2, .int x2)]) RX9 rfl (by decide) (Nat.le_of_ble_eq_true rfl) rfl ?_
  intro E hE1 hC hQ hT9 hVC
  subst hE1
  have hQ : QXX E G ρ V (rL r) (J A' Z) 90 3000 := hQ
  have hE : Ext ρ V ρ V := Ext.rfl
  rw [fX9_lot] at h
  refine wa_aload_n 1 0 hC dX9_lot_0 rfl 0 rfl rfl ?_
  refine wa_iload_n 2 1 hC dX9_lot_1 rfl 1 rfl rfl ?_
  rcases rq_some h with ⟨e_4, h⟩ | ⟨n9, e_4, h⟩
  rotate_left
  · exact wx_reqThrow hC [.int x1] [] knX9_requireSubscriber mwX9_150 (tX9_requireSubscriber E.2.1 hl9 x1 A hVC e_4) (vs9 hVC) kc9 (Nat.le_of_ble_eq_true rfl) (Nat.le_of_ble_eq_true rfl) rfl (Nat.le_of_ble_eq_true rfl) dX9_lot_2 hT9 hQ hE (xTL h) (jA (sm2 h)) (by decide) rfl
  refine wx_reqOK 5 hC [.int x1] [] knX9_requireSubscriber mwX9_150 (tX9_requireSubscriber E.2.1 hl9 x1 A hVC e_4) (vs9 hVC) kc9 (Nat.le_of_ble_eq_true rfl) (Nat.le_of_ble_eq_true rfl) rfl (Nat.le_of_ble_eq_true rfl) dX9_lot_2 rfl (by decide) rfl ?_
  refine wa_aload_n 6 0 hC dX9_lot_5 rfl 0 rfl rfl ?_
  refine wa_iload_n 7 2 hC dX9_lot_6 rfl 2 rfl rfl ?_
  rcases rq_some h with ⟨e_3, h⟩ | ⟨n9, e_3, h⟩
  rotate_left
  · exact wx_reqThrow hC [.int x2] [] knX9_requireMonth mwX9_278 (tX9_requireMonth E.2.1 hl9 x2 A hVC e_3) (vs9 hVC) kc9 (Nat.le_of_ble_eq_true rfl) (Nat.le_of_ble_eq_true rfl) rfl (Nat.le_of_ble_eq_true rfl) dX9_lot_7 hT9 hQ hE (xTL h) (jA (sm2 h)) (by decide) rfl
  refine wx_reqOK 10 hC [.int x2] [] knX9_requireMonth mwX9_278 (tX9_requireMonth E.2.1 hl9 x2 A hVC e_3) (vs9 hVC) kc9 (Nat.le_of_ble_eq_true rfl) (Nat.le_of_ble_eq_true rfl) rfl (Nat.le_of_ble_eq_true rfl) dX9_lot_7 rfl (by decide) rfl ?_
  refine wa_aload_n 11 0 hC dX9_lot_10 rfl 0 rfl rfl ?_
  refine wa_getR 14 hC (vs9 hVC) (sr9_0 _) flX9_12 dX9_lot_11 rfl ?_
  refine wa_getR 17 hC hVC.2.2.2.2.2.1 (sr0_2 _) flX9_159 dX9_lot_14 rfl ?_
  refine wa_iload_n 18 1 hC dX9_lot_17 rfl 1 rfl rfl ?_
  obtain ⟨g_1, h⟩ := gd_some h
  refine wa_aald 19 hC (vc11 hVC hVC.2.2.2.2.2.1) g_1 dX9_lot_18 rfl ?_
  refine wa_getR 22 hC (vc8 hVC hVC.2.2.2.2.2.1 (inb_lt g_1)) (sr8_8 _) flX9_332 dX9_lot_19 rfl ?_
  refine wa_iload_n 23 2 hC dX9_lot_22 rfl 2 rfl rfl ?_
  obtain ⟨g_2, h⟩ := gd_some h
  refine wa_laldc 24 hC (vc25 hVC (vc8 hVC hVC.2.2.2.2.2.1 (inb_lt g_1))) ar25 rfl g_2 dX9_lot_23 rfl ?_
  exact wx_lret hC hQ hE (xL h) (jA (sm2 h)) (by decide) dX9_lot_24
set_option maxRecDepth 20000 in
theorem tX9_account (l : Launch) (hl9 : l.stackTraces = false) {G : gU} {ρ : Nat → Nat → Nat} {V : Nat → Nat → Prop} {Z : sM} (x1 : Int32) (x2 : Int32) (A : sM) (_ : VC V) {r : Nat ⊕ Int64} {A' : sM} (h : fX9_account x1 x2 A = some (r, A')) : MX l yX9_account cX9_account 3 (some .long) 9 90 3000 G ρ V [.ref (ρ 9 0), .int x1, .int x2] (J A Z) (rL r) (J A' Z) := by
  refine vx_enter (lv := [(0, .ref (ρ 9 0)), (1, .int x1), (2, .int x2)]) RX9 rfl (by decide) (Nat.le_of_ble_eq_true rfl) rfl ?_
  intro E hE1 hC hQ hT9 hVC
  subst hE1
  have hQ : QXX E G ρ V (rL r) (J A' Z) 90 3000 := hQ
  have hE : Ext ρ V ρ V := Ext.rfl
  rw [fX9_account] at h
  refine wa_aload_n 1 0 hC dX9_account_0 rfl 0 rfl rfl ?_
  refine wa_iload_n 2 1 hC dX9_account_1 rfl 1 rfl rfl ?_
  rcases rq_some h with ⟨e_3, h⟩ | ⟨n9, e_3, h⟩
  rotate_left
  · exact wx_reqThrow hC [.int x1] [] knX9_requireSubscriber mwX9_150 (tX9_requireSubscriber E.2.1 hl9 x1 A hVC e_3) (vs9 hVC) kc9 (Nat.le_of_ble_eq_true rfl) (Nat.le_of_ble_eq_true rfl) rfl (Nat.le_of_ble_eq_true rfl) dX9_account_2 hT9 hQ hE (xTL h) (jA (sm2 h)) (by decide) rfl
  refine wx_reqOK 5 hC [.int x1] [] knX9_requireSubscriber mwX9_150 (tX9_requireSubscriber E.2.1 hl9 x1 A hVC e_3) (vs9 hVC) kc9 (Nat.le_of_ble_eq_true rfl) (Nat.le_of_ble_eq_true rfl) rfl (Nat.le_of_ble_eq_true rfl) dX9_account_2 rfl (by decide) rfl ?_
  refine wa_iload_n 6 2 hC dX9_account_5 rfl 2 rfl rfl ?_
  refine wa_if_lt 9 15 hC dX9_account_6 rfl rfl h (fun h => ?_) (fun h => ?_)
  · exact wx_throwW (st := []) (ix := 35) (is := 335) (n9 := 1) hC hl9 hT9 hQ hE (xTL h) (jA (sm2 h)) xw_IllegalArgumentException rfl (by decide) rfl rfl (by decide) (by decide) (Nat.le_of_ble_eq_true rfl) dX9_account_15 dX9_account_18 dX9_account_19 dX9_account_22 dX9_account_25
  · refine wa_iload_n 10 2 hC dX9_account_9 rfl 2 rfl rfl ?_
    refine wa_bipush 12 hC dX9_account_10 kb_6 rfl ?_
    refine wa_icmp_lt 15 26 hC dX9_account_12 rfl rfl h (fun h => ?_) (fun h => ?_)
    · refine wa_aload_n 27 0 hC dX9_account_26 rfl 0 rfl rfl ?_
      refine wa_getR 30 hC (vs9 hVC) (sr9_0 _) flX9_12 dX9_account_27 rfl ?_
      refine wa_getR 33 hC hVC.2.2.2.2.2.1 (sr0_2 _) flX9_159 dX9_account_30 rfl ?_
      refine wa_iload_n 34 1 hC dX9_account_33 rfl 1 rfl rfl ?_
      obtain ⟨g_1, h⟩ := gd_some h
      refine wa_aald 35 hC (vc11 hVC hVC.2.2.2.2.2.1) g_1 dX9_account_34 rfl ?_
      refine wa_getR 38 hC (vc8 hVC hVC.2.2.2.2.2.1 (inb_lt g_1)) (sr8_9 _) flX9_204 dX9_account_35 rfl ?_
      refine wa_iload_n 39 2 hC dX9_account_38 rfl 2 rfl rfl ?_
      obtain ⟨g_2, h⟩ := gd_some h
      refine wa_laldc 40 hC (vc26 hVC (vc8 hVC hVC.2.2.2.2.2.1 (inb_lt g_1))) ar26 rfl g_2 dX9_account_39 rfl ?_
      exact wx_lret hC hQ hE (xL h) (jA (sm2 h)) (by decide) dX9_account_40
    · exact wx_throwW (st := []) (ix := 35) (is := 335) (n9 := 1) hC hl9 hT9 hQ hE (xTL h) (jA (sm2 h)) xw_IllegalArgumentException rfl (by decide) rfl rfl (by decide) (by decide) (Nat.le_of_ble_eq_true rfl) dX9_account_15 dX9_account_18 dX9_account_19 dX9_account_22 dX9_account_25
set_option maxRecDepth 20000 in
theorem tX9_expiring (l : Launch) (hl9 : l.stackTraces = false) {G : gU} {ρ : Nat → Nat → Nat} {V : Nat → Nat → Prop} {Z : sM} (x1 : Int32) (A : sM) (_ : VC V) {r : Nat ⊕ Int64} {A' : sM} (h : fX9_expiring x1 A = some (r, A')) : MX l yX9_expiring cX9_expiring 2 (some .long) 9 90 3000 G ρ V [.ref (ρ 9 0), .int x1] (J A Z) (rL r) (J A' Z) := by
  refine vx_enter (lv := [(0, .ref (ρ 9 0)), (1, .int x1)]) RX9 rfl (by decide) (Nat.le_of_ble_eq_true rfl) rfl ?_
  intro E hE1 hC hQ hT9 hVC
  subst hE1
  have hQ : QXX E G ρ V (rL r) (J A' Z) 90 3000 := hQ
  have hE : Ext ρ V ρ V := Ext.rfl
  rw [fX9_expiring] at h
  refine wa_aload_n 1 0 hC dX9_expiring_0 rfl 0 rfl rfl ?_
  refine wa_iload_n 2 1 hC dX9_expiring_1 rfl 1 rfl rfl ?_
  rcases rq_some h with ⟨e_11, h⟩ | ⟨n9, e_11, h⟩
  rotate_left
  · exact wx_reqThrow hC [.int x1] [] knX9_requireSubscriber mwX9_150 (tX9_requireSubscriber E.2.1 hl9 x1 A hVC e_11) (vs9 hVC) kc9 (Nat.le_of_ble_eq_true rfl) (Nat.le_of_ble_eq_true rfl) rfl (Nat.le_of_ble_eq_true rfl) dX9_expiring_2 hT9 hQ hE (xTL h) (jA (sm2 h)) (by decide) rfl
  refine wx_reqOK 5 hC [.int x1] [] knX9_requireSubscriber mwX9_150 (tX9_requireSubscriber E.2.1 hl9 x1 A hVC e_11) (vs9 hVC) kc9 (Nat.le_of_ble_eq_true rfl) (Nat.le_of_ble_eq_true rfl) rfl (Nat.le_of_ble_eq_true rfl) dX9_expiring_2 rfl (by decide) rfl ?_
  refine wa_aload_n 6 0 hC dX9_expiring_5 rfl 0 rfl rfl ?_
  refine wa_getR 9 hC (vs9 hVC) (sr9_6 _) flX9_54 dX9_expiring_6 rfl ?_
  refine wa_aload_n 10 0 hC dX9_expiring_9 rfl 0 rfl rfl ?_
  refine wa_getR 13 hC (vs9 hVC) (sr9_0 _) flX9_12 dX9_expiring_10 rfl ?_
  refine wa_getR 16 hC hVC.2.2.2.2.2.1 (sr0_2 _) flX9_159 dX9_expiring_13 rfl ?_
  refine wa_iload_n 17 1 hC dX9_expiring_16 rfl 1 rfl rfl ?_
  obtain ⟨g_1, h⟩ := gd_some h
  refine wa_aald 18 hC (vc11 hVC hVC.2.2.2.2.2.1) g_1 dX9_expiring_17 rfl ?_
  obtain ⟨A_2, e_10, h⟩ := bd_some h
  refine wa_callVv 21 hC [.ref (ρ 8 (16 * 0 + x1.toNatClampNeg))] [] knX8_copyFrom mvX9_301 (tX8_copyFrom E.2.1 112 (16 * 0 + x1.toNatClampNeg) A hVC hVC.2.2.2.2.2.2.2 (vc8 hVC hVC.2.2.2.2.2.1 (inb_lt g_1)) e_10) hVC.2.2.2.2.2.2.2 kc8 (Nat.le_of_ble_eq_true rfl) (Nat.le_of_ble_eq_true rfl) rfl (Nat.le_of_ble_eq_true rfl) dX9_expiring_18 rfl (by decide) rfl ?_
  refine wa_aload_n 22 0 hC dX9_expiring_21 rfl 0 rfl rfl ?_
  refine wa_getR 25 hC (vs9 hVC) (sr9_6 _) flX9_54 dX9_expiring_22 rfl ?_
  refine wa_aload_n 26 0 hC dX9_expiring_25 rfl 0 rfl rfl ?_
  refine wa_getR 29 hC (vs9 hVC) (sr9_6 _) flX9_54 dX9_expiring_26 rfl ?_
  refine wa_getR 32 hC hVC.2.2.2.2.2.2.2 (sr8_9 _) flX9_204 dX9_expiring_29 rfl ?_
  refine wa_iconst 33 hC dX9_expiring_32 kc_1 rfl ?_
  refine wa_laldc 34 hC (vc26 hVC hVC.2.2.2.2.2.2.2) ar26 rfl (by decide) dX9_expiring_33 rfl ?_
  obtain ⟨r_5, A_4, e_9, h⟩ := bd2_some h
  refine wa_callVl 37 hC [.long (A_2.2 26 0 112 (1 : Int32).toNatClampNeg)] [] knX8_payFromLots mvX9_337 (tX8_payFromLots E.2.1 112 (A_2.2 26 0 112 (1 : Int32).toNatClampNeg) A_2 hVC hVC.2.2.2.2.2.2.2 e_9) hVC.2.2.2.2.2.2.2 kc8 (Nat.le_of_ble_eq_true rfl) (Nat.le_of_ble_eq_true rfl) rfl (Nat.le_of_ble_eq_true rfl) dX9_expiring_34 rfl (by decide) rfl ?_
  refine wa_pop2 38 hC dX9_expiring_37 rfl rfl ?_
  refine wa_aload_n 39 0 hC dX9_expiring_38 rfl 0 rfl rfl ?_
  refine wa_getR 42 hC (vs9 hVC) (sr9_6 _) flX9_54 dX9_expiring_39 rfl ?_
  refine wa_aload_n 43 0 hC dX9_expiring_42 rfl 0 rfl rfl ?_
  refine wa_getR 46 hC (vs9 hVC) (sr9_0 _) flX9_12 dX9_expiring_43 rfl ?_
  refine wa_getIc 49 hC hVC.2.2.2.2.2.1 sh0_4 rfl flX9_224 dX9_expiring_46 rfl ?_
  refine wa_aload_n 50 0 hC dX9_expiring_49 rfl 0 rfl rfl ?_
  refine wa_getR 53 hC (vs9 hVC) (sr9_0 _) flX9_12 dX9_expiring_50 rfl ?_
  refine wa_getR 56 hC hVC.2.2.2.2.2.1 (sr0_0 _) flX9_104 dX9_expiring_53 rfl ?_
  refine wa_getIc 59 hC (vc4 hVC hVC.2.2.2.2.2.1) sh4_1 rfl flX9_113 dX9_expiring_56 rfl ?_
  refine wa_isub 60 hC dX9_expiring_59 rfl ?_
  obtain ⟨r_7, A_6, e_8, h⟩ := bd2_some h
  refine wa_callVl 63 hC [.int ((A_4.1 0 4 0 0) - (A_4.1 4 1 0 0))] [] knX8_takeExpiredLot mvX9_341 (tX8_takeExpiredLot E.2.1 112 ((A_4.1 0 4 0 0) - (A_4.1 4 1 0 0)) A_4 hVC hVC.2.2.2.2.2.2.2 e_8) hVC.2.2.2.2.2.2.2 kc8 (Nat.le_of_ble_eq_true rfl) (Nat.le_of_ble_eq_true rfl) rfl (Nat.le_of_ble_eq_true rfl) dX9_expiring_60 rfl (by decide) rfl ?_
  exact wx_lret hC hQ hE (xL h) (jA (sm2 h)) (by decide) dX9_expiring_63
set_option maxRecDepth 20000 in
theorem wX9_monthsCovered_L53 {E : eU} {G : gU} {ρ : Nat → Nat → Nat} {V : Nat → Nat → Prop} {Z : sM} {r : Nat ⊕ Int32} {A' : sM} (x2 : Int64) (x4 : Int32) {k72 : Int32 → sM → Option ((Nat ⊕ Int32) × sM)} {k111 : sM → Option ((Nat ⊕ Int32) × sM)} (hC : CX E G cX9_monthsCovered 6 RX9 (some .int) 9 90 3000) (hVC : VC V) (hk72 : ∀ (x5 : Int32) (A : sM), k72 x5 A = some (r, A') → WA E G ρ V 1 6 (J A Z) 72 [(5, .int x5)] []) (hk111 : ∀ (A : sM), k111 A = some (r, A') → WA E G ρ V 1 6 (J A Z) 111 [(4, .int x4)] []) : ∀ (n : Nat) (x5 : Int32) (A : sM), fX9_monthsCovered_L53 x2 x4 k72 k111 n x5 A = some (r, A') → WA E G ρ V 1 6 (J A Z) 53 [(0, .ref (ρ 9 0)), (2, .long x2), (4, .int x4), (5, .int x5)] [] := by
  intro n
  induction n with
  | zero =>
    intro x5 A h
    rw [fX9_monthsCovered_L53] at h
    cases h
  | succ n ih =>
    intro x5 A h
    rw [fX9_monthsCovered_L53] at h
    refine wa_iload 55 5 hC dX9_monthsCovered_53 3 rfl rfl ?_
    refine wa_iload 57 4 hC dX9_monthsCovered_55 2 rfl rfl ?_
    refine wa_icmp_gt 60 111 hC dX9_monthsCovered_57 rfl rfl h (fun h => ?_) (fun h => ?_)
    · refine wa_pick [2] rfl ?_
      exact hk111 A h
    · refine wa_aload_n 61 0 hC dX9_monthsCovered_60 rfl 0 rfl rfl ?_
      refine wa_getR 64 hC (vs9 hVC) (sr9_6 _) flX9_54 dX9_monthsCovered_61 rfl ?_
      obtain ⟨r_1, e_9, h⟩ := bd_some h
      refine wa_callVl 67 hC [] [] knX8_lotSum mvX9_309 (tX8_lotSum E.2.1 112 A hVC hVC.2.2.2.2.2.2.2 e_9) hVC.2.2.2.2.2.2.2 kc8 (Nat.le_of_ble_eq_true rfl) (Nat.le_of_ble_eq_true rfl) rfl (Nat.le_of_ble_eq_true rfl) dX9_monthsCovered_64 rfl (by decide) rfl ?_
      refine wa_lload_n 68 2 hC dX9_monthsCovered_67 rfl 1 rfl rfl ?_
      refine wa_lcmp 69 hC dX9_monthsCovered_68 rfl ?_
      refine wa_lcmp_ge 72 75 hC dX9_monthsCovered_69 rfl rfl h (fun h => ?_) (fun h => ?_)
      · refine wa_aload_n 76 0 hC dX9_monthsCovered_75 rfl 0 rfl rfl ?_
        refine wa_getR 79 hC (vs9 hVC) (sr9_6 _) flX9_54 dX9_monthsCovered_76 rfl ?_
        refine wa_lload_n 80 2 hC dX9_monthsCovered_79 rfl 1 rfl rfl ?_
        obtain ⟨r_3, A_2, e_8, h⟩ := bd2_some h
        refine wa_callVl 83 hC [.long x2] [] knX8_payFromLots mvX9_337 (tX8_payFromLots E.2.1 112 x2 A hVC hVC.2.2.2.2.2.2.2 e_8) hVC.2.2.2.2.2.2.2 kc8 (Nat.le_of_ble_eq_true rfl) (Nat.le_of_ble_eq_true rfl) rfl (Nat.le_of_ble_eq_true rfl) dX9_monthsCovered_80 rfl (by decide) rfl ?_
        refine wa_pop2 84 hC dX9_monthsCovered_83 rfl rfl ?_
        refine wa_aload_n 85 0 hC dX9_monthsCovered_84 rfl 0 rfl rfl ?_
        refine wa_getR 88 hC (vs9 hVC) (sr9_6 _) flX9_54 dX9_monthsCovered_85 rfl ?_
        refine wa_aload_n 89 0 hC dX9_monthsCovered_88 rfl 0 rfl rfl ?_
        refine wa_getR 92 hC (vs9 hVC) (sr9_0 _) flX9_12 dX9_monthsCovered_89 rfl ?_
        refine wa_getIc 95 hC hVC.2.2.2.2.2.1 sh0_4 rfl flX9_224 dX9_monthsCovered_92 rfl ?_
        refine wa_iload 97 5 hC dX9_monthsCovered_95 3 rfl rfl ?_
        refine wa_iadd 98 hC dX9_monthsCovered_97 rfl ?_
        refine wa_iload 100 4 hC dX9_monthsCovered_98 2 rfl rfl ?_
        refine wa_isub 101 hC dX9_monthsCovered_100 rfl ?_
        obtain ⟨r_5, A_4, e_7, h⟩ := bd2_some h
        refine wa_callVl 104 hC [.int (((A_2.1 0 4 0 0) + x5) - x4)] [] knX8_takeExpiredLot mvX9_341 (tX8_takeExpiredLot E.2.1 112 (((A_2.1 0 4 0 0) + x5) - x4) A_2 hVC hVC.2.2.2.2.2.2.2 e_7) hVC.2.2.2.2.2.2.2 kc8 (Nat.le_of_ble_eq_true rfl) (Nat.le_of_ble_eq_true rfl) rfl (Nat.le_of_ble_eq_true rfl) dX9_monthsCovered_101 rfl (by decide) rfl ?_
        refine wa_pop2 105 hC dX9_monthsCovered_104 rfl rfl ?_
        obtain ⟨x5_6, ex5_6, h⟩ := ltb_some h
        refine wa_iinc (lv' := [(5, .int x5_6), (0, .ref (ρ 9 0)), (2, .long x2), (4, .int x4)]) 108 5 hC dX9_monthsCovered_105 3 rfl (by rw [kc_1]; exact ex5_6) (by decide) rfl rfl ?_
        refine wa_goto 53 hC dX9_monthsCovered_108 rfl ?_
        refine wa_pick [1, 2, 3, 0] rfl ?_
        exact ih x5_6 A_4 h
      · refine wa_pick [3] rfl ?_
        exact hk72 x5 A h
set_option maxRecDepth 20000 in
theorem tX9_monthsCovered (l : Launch) (hl9 : l.stackTraces = false) {G : gU} {ρ : Nat → Nat → Nat} {V : Nat → Nat → Prop} {Z : sM} (x1 : Int32) (x2 : Int64) (A : sM) (_ : VC V) {r : Nat ⊕ Int32} {A' : sM} (h : fX9_monthsCovered x1 x2 A = some (r, A')) : MX l yX9_monthsCovered cX9_monthsCovered 6 (some .int) 9 90 3000 G ρ V [.ref (ρ 9 0), .int x1, .long x2] (J A Z) (rI r) (J A' Z) := by
  refine vx_enter (lv := [(0, .ref (ρ 9 0)), (1, .int x1), (2, .long x2)]) RX9 rfl (by decide) (Nat.le_of_ble_eq_true rfl) rfl ?_
  intro E hE1 hC hQ hT9 hVC
  subst hE1
  have hQ : QXX E G ρ V (rI r) (J A' Z) 90 3000 := hQ
  have hE : Ext ρ V ρ V := Ext.rfl
  rw [fX9_monthsCovered] at h
  refine wa_aload_n 1 0 hC dX9_monthsCovered_0 rfl 0 rfl rfl ?_
  refine wa_iload_n 2 1 hC dX9_monthsCovered_1 rfl 1 rfl rfl ?_
  rcases rq_some h with ⟨e_8, h⟩ | ⟨n9, e_8, h⟩
  rotate_left
  · exact wx_reqThrow hC [.int x1] [] knX9_requireSubscriber mwX9_150 (tX9_requireSubscriber E.2.1 hl9 x1 A hVC e_8) (vs9 hVC) kc9 (Nat.le_of_ble_eq_true rfl) (Nat.le_of_ble_eq_true rfl) rfl (Nat.le_of_ble_eq_true rfl) dX9_monthsCovered_2 hT9 hQ hE (xTI h) (jA (sm2 h)) (by decide) rfl
  refine wx_reqOK 5 hC [.int x1] [] knX9_requireSubscriber mwX9_150 (tX9_requireSubscriber E.2.1 hl9 x1 A hVC e_8) (vs9 hVC) kc9 (Nat.le_of_ble_eq_true rfl) (Nat.le_of_ble_eq_true rfl) rfl (Nat.le_of_ble_eq_true rfl) dX9_monthsCovered_2 rfl (by decide) rfl ?_
  refine wa_lload_n 6 2 hC dX9_monthsCovered_5 rfl 2 rfl rfl ?_
  refine wa_lconst 7 hC dX9_monthsCovered_6 kl_1 rfl ?_
  refine wa_lcmp 8 hC dX9_monthsCovered_7 rfl ?_
  refine wa_lcmp_ge 11 22 hC dX9_monthsCovered_8 rfl rfl h (fun h => ?_) (fun h => ?_)
  · refine wa_aload_n 23 0 hC dX9_monthsCovered_22 rfl 0 rfl rfl ?_
    refine wa_getR 26 hC (vs9 hVC) (sr9_6 _) flX9_54 dX9_monthsCovered_23 rfl ?_
    refine wa_aload_n 27 0 hC dX9_monthsCovered_26 rfl 0 rfl rfl ?_
    refine wa_getR 30 hC (vs9 hVC) (sr9_0 _) flX9_12 dX9_monthsCovered_27 rfl ?_
    refine wa_getR 33 hC hVC.2.2.2.2.2.1 (sr0_2 _) flX9_159 dX9_monthsCovered_30 rfl ?_
    refine wa_iload_n 34 1 hC dX9_monthsCovered_33 rfl 1 rfl rfl ?_
    obtain ⟨g_1, h⟩ := gd_some h
    refine wa_aald 35 hC (vc11 hVC hVC.2.2.2.2.2.1) g_1 dX9_monthsCovered_34 rfl ?_
    obtain ⟨A_2, e_7, h⟩ := bd_some h
    refine wa_callVv 38 hC [.ref (ρ 8 (16 * 0 + x1.toNatClampNeg))] [] knX8_copyFrom mvX9_301 (tX8_copyFrom E.2.1 112 (16 * 0 + x1.toNatClampNeg) A hVC hVC.2.2.2.2.2.2.2 (vc8 hVC hVC.2.2.2.2.2.1 (inb_lt g_1)) e_7) hVC.2.2.2.2.2.2.2 kc8 (Nat.le_of_ble_eq_true rfl) (Nat.le_of_ble_eq_true rfl) rfl (Nat.le_of_ble_eq_true rfl) dX9_monthsCovered_35 rfl (by decide) rfl ?_
    refine wa_aload_n 39 0 hC dX9_monthsCovered_38 rfl 0 rfl rfl ?_
    refine wa_getR 42 hC (vs9 hVC) (sr9_0 _) flX9_12 dX9_monthsCovered_39 rfl ?_
    refine wa_getR 45 hC hVC.2.2.2.2.2.1 (sr0_0 _) flX9_104 dX9_monthsCovered_42 rfl ?_
    refine wa_getIc 48 hC (vc4 hVC hVC.2.2.2.2.2.1) sh4_1 rfl flX9_113 dX9_monthsCovered_45 rfl ?_
    obtain ⟨x4_3, ex4_3, h⟩ := ltb_some h
    refine wa_istore (lv' := [(4, .int x4_3), (0, .ref (ρ 9 0)), (1, .int x1), (2, .long x2)]) 50 4 hC dX9_monthsCovered_48 ex4_3 (by decide) rfl rfl ?_
    refine wa_iconst 51 hC dX9_monthsCovered_50 kc_0 rfl ?_
    refine wa_istore (lv' := [(5, .int (0 : Int32)), (4, .int x4_3), (0, .ref (ρ 9 0)), (1, .int x1), (2, .long x2)]) 53 5 hC dX9_monthsCovered_51 rfl (by decide) rfl rfl ?_
    refine wa_pick [2, 4, 1, 0] rfl ?_
    refine wX9_monthsCovered_L53 x2 x4_3 hC hVC (fun x5_4 A_5 h => ?_) (fun A_6 h => ?_) 10000 (0 : Int32) A_2 h
    · refine wa_iload 74 5 hC dX9_monthsCovered_72 0 rfl rfl ?_
      exact wx_iret hC hQ hE (xI h) (jA (sm2 h)) (by decide) dX9_monthsCovered_74
    · refine wa_iload 113 4 hC dX9_monthsCovered_111 0 rfl rfl ?_
      refine wa_iconst 114 hC dX9_monthsCovered_113 kc_1 rfl ?_
      refine wa_iadd 115 hC dX9_monthsCovered_114 rfl ?_
      exact wx_iret hC hQ hE (xI h) (jA (sm2 h)) (by decide) dX9_monthsCovered_115
  · exact wx_throwW (st := []) (ix := 36) (is := 344) (n9 := 1) hC hl9 hT9 hQ hE (xTI h) (jA (sm2 h)) xw_IllegalArgumentException rfl (by decide) rfl rfl (by decide) (by decide) (Nat.le_of_ble_eq_true rfl) dX9_monthsCovered_11 dX9_monthsCovered_14 dX9_monthsCovered_15 dX9_monthsCovered_18 dX9_monthsCovered_21
set_option maxRecDepth 20000 in
theorem tX9_correct (l : Launch) (hl9 : l.stackTraces = false) {G : gU} {ρ : Nat → Nat → Nat} {V : Nat → Nat → Prop} {Z : sM} (x1 : Int32) (x2 : Int32) (x3 : Int32) (A : sM) (_ : VC V) {r : Nat ⊕ Int32} {A' : sM} (h : fX9_correct x1 x2 x3 A = some (r, A')) : MX l yX9_correct cX9_correct 6 (some .int) 9 90 3000 G ρ V [.ref (ρ 9 0), .int x1, .int x2, .int x3] (J A Z) (rI r) (J A' Z) := by
  refine vx_enter (lv := [(0, .ref (ρ 9 0)), (1, .int x1), (2, .int x2), (3, .int x3)]) RX9 rfl (by decide) (Nat.le_of_ble_eq_true rfl) rfl ?_
  intro E hE1 hC hQ hT9 hVC
  subst hE1
  have hQ : QXX E G ρ V (rI r) (J A' Z) 90 3000 := hQ
  have hE : Ext ρ V ρ V := Ext.rfl
  rw [fX9_correct] at h
  refine wa_iload_n 1 1 hC dX9_correct_0 rfl 1 rfl rfl ?_
  refine wa_if_lt 4 15 hC dX9_correct_1 rfl rfl h (fun h => ?_) (fun h => ?_)
  · exact wx_throwW (st := []) (ix := 37) (is := 355) (n9 := 0) hC hl9 hT9 hQ hE (xTI h) (jA (sm2 h)) xw_IndexOutOfBoundsException rfl (by decide) rfl rfl (by decide) (by decide) (Nat.le_of_ble_eq_true rfl) dX9_correct_15 dX9_correct_18 dX9_correct_19 dX9_correct_22 dX9_correct_25
  · refine wa_iload_n 5 1 hC dX9_correct_4 rfl 1 rfl rfl ?_
    refine wa_aload_n 6 0 hC dX9_correct_5 rfl 0 rfl rfl ?_
    refine wa_getR 9 hC (vs9 hVC) (sr9_0 _) flX9_12 dX9_correct_6 rfl ?_
    refine wa_getIc 12 hC hVC.2.2.2.2.2.1 sh0_4 rfl flX9_224 dX9_correct_9 rfl ?_
    refine wa_icmp_lt 15 26 hC dX9_correct_12 rfl rfl h (fun h => ?_) (fun h => ?_)
    · refine wa_aload_n 27 0 hC dX9_correct_26 rfl 0 rfl rfl ?_
      refine wa_iload_n 28 2 hC dX9_correct_27 rfl 2 rfl rfl ?_
      rcases rq_some h with ⟨e_9, h⟩ | ⟨n9, e_9, h⟩
      rotate_left
      · exact wx_reqThrow hC [.int x2] [] knX9_requirePeriod mwX9_281 (tX9_requirePeriod E.2.1 hl9 x2 A hVC e_9) (vs9 hVC) kc9 (Nat.le_of_ble_eq_true rfl) (Nat.le_of_ble_eq_true rfl) rfl (Nat.le_of_ble_eq_true rfl) dX9_correct_28 hT9 hQ hE (xTI h) (jA (sm2 h)) (by decide) rfl
      refine wx_reqOK 31 hC [.int x2] [] knX9_requirePeriod mwX9_281 (tX9_requirePeriod E.2.1 hl9 x2 A hVC e_9) (vs9 hVC) kc9 (Nat.le_of_ble_eq_true rfl) (Nat.le_of_ble_eq_true rfl) rfl (Nat.le_of_ble_eq_true rfl) dX9_correct_28 rfl (by decide) rfl ?_
      refine wa_iload_n 32 3 hC dX9_correct_31 rfl 3 rfl rfl ?_
      refine wa_if_lt 35 41 hC dX9_correct_32 rfl rfl h (fun h => ?_) (fun h => ?_)
      · exact wx_throw (st := []) (ix := 23) (is := 222) (n9 := 1) hC hl9 hT9 hQ hE (xTI h) (jA (sm2 h)) xw_IllegalArgumentException rfl (by decide) rfl rfl (by decide) (by decide) (Nat.le_of_ble_eq_true rfl) dX9_correct_41 dX9_correct_44 dX9_correct_45 dX9_correct_47 dX9_correct_50
      · refine wa_iload_n 36 3 hC dX9_correct_35 rfl 3 rfl rfl ?_
        refine wa_ldc 38 hC dX9_correct_36 lcX9_221 rfl ?_
        refine wa_icmp_le 41 51 hC dX9_correct_38 rfl rfl h (fun h => ?_) (fun h => ?_)
        · refine wa_aload_n 52 0 hC dX9_correct_51 rfl 0 rfl rfl ?_
          refine wa_getR 55 hC (vs9 hVC) (sr9_1 _) flX9_19 dX9_correct_52 rfl ?_
          refine wa_aload_n 56 0 hC dX9_correct_55 rfl 0 rfl rfl ?_
          refine wa_getR 59 hC (vs9 hVC) (sr9_0 _) flX9_12 dX9_correct_56 rfl ?_
          obtain ⟨A_1, e_2, h⟩ := bd_some h
          have key : ∀ (ρ1 : Nat → Nat → Nat) (V1 : Nat → Nat → Prop), Ext ρ V ρ1 V1 → VC V1 → WA E G ρ1 V1 73 2915 (J A_1 Z) 62 [(0, .ref (ρ1 9 0)), (1, .int x1), (2, .int x2), (3, .int x3)] [] := by
            intro ρ V hE0 hVC
            have hE := Ext.trans hE hE0
            refine wa_iload_n 63 1 hC dX9_correct_62 rfl 1 rfl rfl ?_
            refine wa_iload_n 64 2 hC dX9_correct_63 rfl 2 rfl rfl ?_
            obtain ⟨r_3, e_8, h⟩ := bd_some h
            refine wa_callSi 67 hC [.int x1, .int x2] [] knX7_cell msX9_227 (tX7_cell E.2.1 x1 x2 A_1 hVC e_8) (Nat.le_of_ble_eq_true rfl) (Nat.le_of_ble_eq_true rfl) rfl (Nat.le_of_ble_eq_true rfl) dX9_correct_64 rfl (by decide) rfl ?_
            refine wa_istore (lv' := [(4, .int r_3), (0, .ref (ρ 9 0)), (1, .int x1), (2, .int x2), (3, .int x3)]) 69 4 hC dX9_correct_67 rfl (by decide) rfl rfl ?_
            refine wa_aload_n 70 0 hC dX9_correct_69 rfl 1 rfl rfl ?_
            refine wa_getR 73 hC (vs9 hVC) (sr9_0 _) flX9_12 dX9_correct_70 rfl ?_
            refine wa_getR 76 hC hVC.2.2.2.2.2.1 (sr0_1 _) flX9_233 dX9_correct_73 rfl ?_
            refine wa_astore (lv' := [(5, .ref (ρ 7 0)), (4, .int r_3), (0, .ref (ρ 9 0)), (1, .int x1), (2, .int x2), (3, .int x3)]) 78 5 hC dX9_correct_76 rfl (by decide) rfl rfl ?_
            refine wa_aload 80 5 hC dX9_correct_78 0 rfl rfl ?_
            refine wa_getR 83 hC (vc7 hVC hVC.2.2.2.2.2.1) (sr7_1 _) flX9_358 dX9_correct_80 rfl ?_
            refine wa_iload 85 4 hC dX9_correct_83 1 rfl rfl ?_
            refine wa_iload_n 86 3 hC dX9_correct_85 rfl 5 rfl rfl ?_
            refine wa_aload 88 5 hC dX9_correct_86 0 rfl rfl ?_
            refine wa_getR 91 hC (vc7 hVC hVC.2.2.2.2.2.1) (sr7_0 _) flX9_237 dX9_correct_88 rfl ?_
            refine wa_iload 93 4 hC dX9_correct_91 1 rfl rfl ?_
            obtain ⟨g_4, h⟩ := gd_some h
            refine wa_ialdc 94 hC (vc22 hVC (vc7 hVC hVC.2.2.2.2.2.1)) ar22 rfl g_4 dX9_correct_93 rfl ?_
            refine wa_isub 95 hC dX9_correct_94 rfl ?_
            obtain ⟨g_5, h⟩ := gd_some h
            obtain ⟨A_6, eA_6, h⟩ := ltb_some h
            refine wa_iastc 96 hC (vc23 hVC (vc7 hVC hVC.2.2.2.2.2.1)) nk23 ar23 rfl g_5 eA_6 dX9_correct_95 rfl ?_
            refine wa_aload 98 5 hC dX9_correct_96 0 rfl rfl ?_
            refine wa_getR 101 hC (vc7 hVC hVC.2.2.2.2.2.1) (sr7_0 _) flX9_237 dX9_correct_98 rfl ?_
            refine wa_iload 103 4 hC dX9_correct_101 1 rfl rfl ?_
            obtain ⟨g_7, h⟩ := gd_some h
            refine wa_ialdc 104 hC (vc22 hVC (vc7 hVC hVC.2.2.2.2.2.1)) ar22 rfl g_7 dX9_correct_103 rfl ?_
            exact wx_iret hC hQ hE (xI h) (jA (sm2 h)) (by decide) dX9_correct_104
          refine wx_keep 62 hC [.ref (ρ 0 0)] [] knX6_keep mvX9_92 (tX6_keep E.2.1 A hVC e_2) (vs6 hVC) kc6 (Nat.le_of_ble_eq_true rfl) (Nat.le_of_ble_eq_true rfl) rfl (Nat.le_of_ble_eq_true rfl) dX9_correct_59 rfl (by decide) rfl (fun ρ1 V1 hE9 hVC9 => ?_)
          rw [← (hE9 9 0 (vs9 hVC)).2]
          exact key ρ1 V1 hE9 hVC9
        · exact wx_throw (st := []) (ix := 23) (is := 222) (n9 := 1) hC hl9 hT9 hQ hE (xTI h) (jA (sm2 h)) xw_IllegalArgumentException rfl (by decide) rfl rfl (by decide) (by decide) (Nat.le_of_ble_eq_true rfl) dX9_correct_41 dX9_correct_44 dX9_correct_45 dX9_correct_47 dX9_correct_50
    · exact wx_throwW (st := []) (ix := 37) (is := 355) (n9 := 0) hC hl9 hT9 hQ hE (xTI h) (jA (sm2 h)) xw_IndexOutOfBoundsException rfl (by decide) rfl rfl (by decide) (by decide) (Nat.le_of_ble_eq_true rfl) dX9_correct_15 dX9_correct_18 dX9_correct_19 dX9_correct_22 dX9_correct_25
set_option maxRecDepth 20000 in
theorem wX9_trueUp_L15 {E : eU} {G : gU} {ρ : Nat → Nat → Nat} {V : Nat → Nat → Prop} {Z : sM} {r : Nat ⊕ Int64} {A' : sM} {k126 : Int64 → sM → Option ((Nat ⊕ Int64) × sM)} (hC : CX E G cX9_trueUp 6 RX9 (some .long) 7 90 3000) (hVC : VC V) (hk126 : ∀ (x1 : Int64) (A : sM), k126 x1 A = some (r, A') → WA E G ρ V 72 2909 (J A Z) 126 [(1, .long x1)] []) : ∀ (n : Nat) (x1 : Int64) (x3 : Int32) (A : sM), fX9_trueUp_L15 k126 n x1 x3 A = some (r, A') → WA E G ρ V 72 2909 (J A Z) 15 [(0, .ref (ρ 9 0)), (1, .long x1), (3, .int x3)] [] := by
  intro n
  induction n with
  | zero =>
    intro x1 x3 A h
    rw [fX9_trueUp_L15] at h
    cases h
  | succ n ih =>
    intro x1 x3 A h
    rw [fX9_trueUp_L15] at h
    refine wa_iload_n 16 3 hC dX9_trueUp_15 rfl 2 rfl rfl ?_
    refine wa_aload_n 17 0 hC dX9_trueUp_16 rfl 0 rfl rfl ?_
    refine wa_getR 20 hC (vs9 hVC) (sr9_0 _) flX9_12 dX9_trueUp_17 rfl ?_
    refine wa_getIc 23 hC hVC.2.2.2.2.2.1 sh0_4 rfl flX9_224 dX9_trueUp_20 rfl ?_
    refine wa_icmp_ge 26 126 hC dX9_trueUp_23 rfl rfl h (fun h => ?_) (fun h => ?_)
    · refine wa_pick [1] rfl ?_
      exact hk126 x1 A h
    · refine wa_aload_n 27 0 hC dX9_trueUp_26 rfl 0 rfl rfl ?_
      refine wa_getR 30 hC (vs9 hVC) (sr9_0 _) flX9_12 dX9_trueUp_27 rfl ?_
      refine wa_getR 33 hC hVC.2.2.2.2.2.1 (sr0_1 _) flX9_233 dX9_trueUp_30 rfl ?_
      refine wa_iload_n 34 3 hC dX9_trueUp_33 rfl 2 rfl rfl ?_
      refine wa_aload_n 35 0 hC dX9_trueUp_34 rfl 0 rfl rfl ?_
      refine wa_getR 38 hC (vs9 hVC) (sr9_0 _) flX9_12 dX9_trueUp_35 rfl ?_
      refine wa_getR 41 hC hVC.2.2.2.2.2.1 (sr0_0 _) flX9_104 dX9_trueUp_38 rfl ?_
      obtain ⟨r_1, e_16, h⟩ := bd_some h
      refine wa_callVl 44 hC [.int x3, .ref (ρ 4 0)] [] knX7_correctionValue mvX9_361 (tX7_correctionValue E.2.1 0 x3 0 A hVC (vc7 hVC hVC.2.2.2.2.2.1) (vc4 hVC hVC.2.2.2.2.2.1) e_16) (vc7 hVC hVC.2.2.2.2.2.1) kc7 (Nat.le_of_ble_eq_true rfl) (Nat.le_of_ble_eq_true rfl) rfl (Nat.le_of_ble_eq_true rfl) dX9_trueUp_41 rfl (by decide) rfl ?_
      refine wa_lstore (lv' := [(4, .long r_1), (0, .ref (ρ 9 0)), (1, .long x1), (3, .int x3)]) 46 4 hC dX9_trueUp_44 rfl (by decide) rfl rfl ?_
      refine wa_lload 48 4 hC dX9_trueUp_46 0 rfl rfl ?_
      refine wa_lconst 49 hC dX9_trueUp_48 kl_0 rfl ?_
      refine wa_lcmp 50 hC dX9_trueUp_49 rfl ?_
      obtain ⟨kj_3, ekj_3, h⟩ := ltb_k1 h
      have hkj_3 : ∀ (A_2 : sM), kj_3 A_2 = some (r, A') → WA E G ρ V 72 2909 (J A_2 Z) 104 [(0, .ref (ρ 9 0)), (1, .long x1), (3, .int x3), (4, .long r_1)] [] := by
        intro A_2 h
        rw [ekj_3] at h
        refine wa_aload_n 105 0 hC dX9_trueUp_104 rfl 0 rfl rfl ?_
        refine wa_getR 108 hC (vs9 hVC) (sr9_0 _) flX9_12 dX9_trueUp_105 rfl ?_
        refine wa_getR 111 hC hVC.2.2.2.2.2.1 (sr0_1 _) flX9_233 dX9_trueUp_108 rfl ?_
        refine wa_iload_n 112 3 hC dX9_trueUp_111 rfl 2 rfl rfl ?_
        obtain ⟨A_4, e_7, h⟩ := bd_some h
        refine wa_callVv 115 hC [.int x3] [] knX7_countCorrections mvX9_374 (tX7_countCorrections E.2.1 0 x3 A_2 hVC (vc7 hVC hVC.2.2.2.2.2.1) e_7) (vc7 hVC hVC.2.2.2.2.2.1) kc7 (Nat.le_of_ble_eq_true rfl) (Nat.le_of_ble_eq_true rfl) rfl (Nat.le_of_ble_eq_true rfl) dX9_trueUp_112 rfl (by decide) rfl ?_
        refine wa_lload_n 116 1 hC dX9_trueUp_115 rfl 1 rfl rfl ?_
        refine wa_lload 118 4 hC dX9_trueUp_116 3 rfl rfl ?_
        refine wa_ladd 119 hC dX9_trueUp_118 rfl ?_
        obtain ⟨x1_5, ex1_5, h⟩ := ltb_some h
        refine wa_lstore_n (lv' := [(1, .long x1_5), (0, .ref (ρ 9 0)), (3, .int x3), (4, .long r_1)]) 120 1 hC dX9_trueUp_119 rfl ex1_5 (by decide) rfl rfl ?_
        obtain ⟨x3_6, ex3_6, h⟩ := ltb_some h
        refine wa_iinc (lv' := [(3, .int x3_6), (1, .long x1_5), (0, .ref (ρ 9 0)), (4, .long r_1)]) 123 3 hC dX9_trueUp_120 2 rfl (by rw [kc_1]; exact ex3_6) (by decide) rfl rfl ?_
        refine wa_goto 15 hC dX9_trueUp_123 rfl ?_
        refine wa_pick [2, 1, 0] rfl ?_
        exact ih x1_5 x3_6 A_4 h
      clear ekj_3
      refine wa_lcmp_eq 53 104 hC dX9_trueUp_50 rfl rfl h (fun h => ?_) (fun h => ?_)
      · refine wa_pick [1, 2, 3, 0] rfl ?_
        exact hkj_3 A h
      · refine wa_aload_n 54 0 hC dX9_trueUp_53 rfl 1 rfl rfl ?_
        refine wa_getR 57 hC (vs9 hVC) (sr9_4 _) flX9_40 dX9_trueUp_54 rfl ?_
        refine wa_aload_n 58 0 hC dX9_trueUp_57 rfl 1 rfl rfl ?_
        refine wa_getR 61 hC (vs9 hVC) (sr9_0 _) flX9_12 dX9_trueUp_58 rfl ?_
        refine wa_iload_n 62 3 hC dX9_trueUp_61 rfl 3 rfl rfl ?_
        refine wa_iconst 63 hC dX9_trueUp_62 kc_0 rfl ?_
        obtain ⟨A_8, e_15, h⟩ := bd_some h
        refine wa_callVv 66 hC [.ref (ρ 0 0), .int x3, .int (0 : Int32)] [] knX3_weighShareDays mvX9_256 (tX3_weighShareDays E.2.1 0 x3 (0 : Int32) A hVC hVC.2.2.2.2.2.1 e_15) (vs3 hVC) kc3 (Nat.le_of_ble_eq_true rfl) (Nat.le_of_ble_eq_true rfl) rfl (Nat.le_of_ble_eq_true rfl) dX9_trueUp_63 rfl (by decide) rfl ?_
        refine wa_aload_n 67 0 hC dX9_trueUp_66 rfl 1 rfl rfl ?_
        refine wa_getR 70 hC (vs9 hVC) (sr9_4 _) flX9_40 dX9_trueUp_67 rfl ?_
        refine wa_lload 72 4 hC dX9_trueUp_70 0 rfl rfl ?_
        refine wa_mabs_long 75 hC maX9_365 (by decide) (Nat.le_of_ble_eq_true rfl) dX9_trueUp_72 rfl (by decide) ?_
        obtain ⟨A_9, e_14, h⟩ := bd_some h
        refine wa_callVv 78 hC [.long (if 0 < r_1 then r_1 else -r_1)] [] knX3_divide mvX9_260 (tX3_divide E.2.1 (if 0 < r_1 then r_1 else -r_1) A_8 hVC e_14) (vs3 hVC) kc3 (Nat.le_of_ble_eq_true rfl) (Nat.le_of_ble_eq_true rfl) rfl (Nat.le_of_ble_eq_true rfl) dX9_trueUp_75 rfl (by decide) rfl ?_
        refine wa_aload_n 79 0 hC dX9_trueUp_78 rfl 1 rfl rfl ?_
        refine wa_getR 82 hC (vs9 hVC) (sr9_0 _) flX9_12 dX9_trueUp_79 rfl ?_
        refine wa_aload_n 83 0 hC dX9_trueUp_82 rfl 1 rfl rfl ?_
        refine wa_getR 86 hC (vs9 hVC) (sr9_4 _) flX9_40 dX9_trueUp_83 rfl ?_
        refine wa_getR 89 hC (vs3 hVC) (sr3_3 _) flX9_264 dX9_trueUp_86 rfl ?_
        refine wa_lload 91 4 hC dX9_trueUp_89 0 rfl rfl ?_
        refine wa_lconst 92 hC dX9_trueUp_91 kl_0 rfl ?_
        refine wa_lcmp 93 hC dX9_trueUp_92 rfl ?_
        obtain ⟨kj_11, ekj_11, h⟩ := ltb_k1 h
        have hkj_11 : ∀ (v_10 : Int32), kj_11 v_10 = some (r, A') → WA E G ρ V 72 2909 (J A_9 Z) 101 [(0, .ref (ρ 9 0)), (1, .long x1), (3, .int x3), (4, .long r_1)] [.int v_10, .ref (ρ 17 0), .ref (ρ 0 0)] := by
          intro v_10 h
          rw [ekj_11] at h
          obtain ⟨A_12, e_13, h⟩ := bd_some h
          refine wa_callVv 104 hC [.ref (ρ 17 0), .int v_10] [] knX0_settleTrueUp mvX9_370 (tX0_settleTrueUp E.2.1 0 v_10 A_9 hVC hVC.2.2.2.2.2.1 e_13) hVC.2.2.2.2.2.1 kc0 (Nat.le_of_ble_eq_true rfl) (Nat.le_of_ble_eq_true rfl) rfl (Nat.le_of_ble_eq_true rfl) dX9_trueUp_101 rfl (by decide) rfl ?_
          exact hkj_3 A_12 h
        clear ekj_11
        refine wa_lcmp_le 96 100 hC dX9_trueUp_93 rfl rfl h (fun h => ?_) (fun h => ?_)
        · refine wa_iconst 101 hC dX9_trueUp_100 kc_0 rfl ?_
          refine wa_pick [1, 2, 3, 0] rfl ?_
          exact hkj_11 (0 : Int32) h
        · refine wa_iconst 97 hC dX9_trueUp_96 kc_1 rfl ?_
          refine wa_goto 101 hC dX9_trueUp_97 rfl ?_
          refine wa_pick [1, 2, 3, 0] rfl ?_
          exact hkj_11 (1 : Int32) h
set_option maxRecDepth 20000 in
theorem tX9_trueUp (l : Launch) (hl9 : l.stackTraces = false) {G : gU} {ρ : Nat → Nat → Nat} {V : Nat → Nat → Prop} {Z : sM} (A : sM) (_ : VC V) {r : Nat ⊕ Int64} {A' : sM} (h : fX9_trueUp A = some (r, A')) : MX l yX9_trueUp cX9_trueUp 6 (some .long) 7 90 3000 G ρ V [.ref (ρ 9 0)] (J A Z) (rL r) (J A' Z) := by
  refine vx_enter (lv := [(0, .ref (ρ 9 0))]) RX9 rfl (by decide) (Nat.le_of_ble_eq_true rfl) rfl ?_
  intro E hE1 hC hQ hT9 hVC
  subst hE1
  have hQ : QXX E G ρ V (rL r) (J A' Z) 90 3000 := hQ
  have hE : Ext ρ V ρ V := Ext.rfl
  rw [fX9_trueUp] at h
  refine wa_aload_n 1 0 hC dX9_trueUp_0 rfl 0 rfl rfl ?_
  refine wa_getR 4 hC (vs9 hVC) (sr9_1 _) flX9_19 dX9_trueUp_1 rfl ?_
  refine wa_aload_n 5 0 hC dX9_trueUp_4 rfl 0 rfl rfl ?_
  refine wa_getR 8 hC (vs9 hVC) (sr9_0 _) flX9_12 dX9_trueUp_5 rfl ?_
  obtain ⟨A_1, e_2, h⟩ := bd_some h
  have key : ∀ (ρ1 : Nat → Nat → Nat) (V1 : Nat → Nat → Prop), Ext ρ V ρ1 V1 → VC V1 → WA E G ρ1 V1 72 2909 (J A_1 Z) 11 [(0, .ref (ρ1 9 0))] [] := by
    intro ρ V hE0 hVC
    have hE := Ext.trans hE hE0
    refine wa_lconst 12 hC dX9_trueUp_11 kl_0 rfl ?_
    refine wa_lstore_n (lv' := [(1, .long (0 : Int64)), (0, .ref (ρ 9 0))]) 13 1 hC dX9_trueUp_12 rfl rfl (by decide) rfl rfl ?_
    refine wa_iconst 14 hC dX9_trueUp_13 kc_0 rfl ?_
    refine wa_istore_n (lv' := [(3, .int (0 : Int32)), (1, .long (0 : Int64)), (0, .ref (ρ 9 0))]) 15 3 hC dX9_trueUp_14 rfl rfl (by decide) rfl rfl ?_
    refine wa_pick [2, 1, 0] rfl ?_
    refine wX9_trueUp_L15 hC hVC (fun x1_3 A_4 h => ?_) 10000 (0 : Int64) (0 : Int32) A_1 h
    refine wa_lload_n 127 1 hC dX9_trueUp_126 rfl 0 rfl rfl ?_
    exact wx_lret hC hQ hE (xL h) (jA (sm2 h)) (by decide) dX9_trueUp_127
  refine wx_keep 11 hC [.ref (ρ 0 0)] [] knX6_keep mvX9_92 (tX6_keep E.2.1 A hVC e_2) (vs6 hVC) kc6 (Nat.le_of_ble_eq_true rfl) (Nat.le_of_ble_eq_true rfl) rfl (Nat.le_of_ble_eq_true rfl) dX9_trueUp_8 rfl (by decide) rfl (fun ρ1 V1 hE9 hVC9 => ?_)
  rw [← (hE9 9 0 (vs9 hVC)).2]
  exact key ρ1 V1 hE9 hVC9
set_option maxRecDepth 20000 in
theorem tX9_shareFund (l : Launch) (hl9 : l.stackTraces = false) {G : gU} {ρ : Nat → Nat → Nat} {V : Nat → Nat → Prop} {Z : sM} (A : sM) (_ : VC V) {r : Nat ⊕ Int64} {A' : sM} (h : fX9_shareFund A = some (r, A')) : MX l yX9_shareFund cX9_shareFund 3 (some .long) 8 90 3000 G ρ V [.ref (ρ 9 0)] (J A Z) (rL r) (J A' Z) := by
  refine vx_enter (lv := [(0, .ref (ρ 9 0))]) RX9 rfl (by decide) (Nat.le_of_ble_eq_true rfl) rfl ?_
  intro E hE1 hC hQ hT9 hVC
  subst hE1
  have hQ : QXX E G ρ V (rL r) (J A' Z) 90 3000 := hQ
  have hE : Ext ρ V ρ V := Ext.rfl
  rw [fX9_shareFund] at h
  refine wa_aload_n 1 0 hC dX9_shareFund_0 rfl 0 rfl rfl ?_
  refine wa_getR 4 hC (vs9 hVC) (sr9_0 _) flX9_12 dX9_shareFund_1 rfl ?_
  refine wa_getLc 7 hC hVC.2.2.2.2.2.1 sh0_6 rfl flX9_346 dX9_shareFund_4 rfl ?_
  refine wa_lconst 8 hC dX9_shareFund_7 kl_0 rfl ?_
  refine wa_lcmp 9 hC dX9_shareFund_8 rfl ?_
  refine wa_lcmp_gt 12 23 hC dX9_shareFund_9 rfl rfl h (fun h => ?_) (fun h => ?_)
  · refine wa_aload_n 24 0 hC dX9_shareFund_23 rfl 0 rfl rfl ?_
    refine wa_getR 27 hC (vs9 hVC) (sr9_0 _) flX9_12 dX9_shareFund_24 rfl ?_
    obtain ⟨r_1, e_12, h⟩ := bd_some h
    refine wa_callVi 30 hC [] [] knX0_heldShares mvX9_379 (tX0_heldShares E.2.1 0 A hVC hVC.2.2.2.2.2.1 e_12) hVC.2.2.2.2.2.1 kc0 (Nat.le_of_ble_eq_true rfl) (Nat.le_of_ble_eq_true rfl) rfl (Nat.le_of_ble_eq_true rfl) dX9_shareFund_27 rfl (by decide) rfl ?_
    refine wa_iconst 31 hC dX9_shareFund_30 kc_1 rfl ?_
    refine wa_icmp_ge 34 45 hC dX9_shareFund_31 rfl rfl h (fun h => ?_) (fun h => ?_)
    · refine wa_aload_n 46 0 hC dX9_shareFund_45 rfl 0 rfl rfl ?_
      refine wa_getR 49 hC (vs9 hVC) (sr9_1 _) flX9_19 dX9_shareFund_46 rfl ?_
      refine wa_aload_n 50 0 hC dX9_shareFund_49 rfl 0 rfl rfl ?_
      refine wa_getR 53 hC (vs9 hVC) (sr9_0 _) flX9_12 dX9_shareFund_50 rfl ?_
      obtain ⟨A_2, e_3, h⟩ := bd_some h
      have key : ∀ (ρ1 : Nat → Nat → Nat) (V1 : Nat → Nat → Prop), Ext ρ V ρ1 V1 → VC V1 → WA E G ρ1 V1 72 2909 (J A_2 Z) 56 [(0, .ref (ρ1 9 0))] [] := by
        intro ρ V hE0 hVC
        have hE := Ext.trans hE hE0
        refine wa_aload_n 57 0 hC dX9_shareFund_56 rfl 0 rfl rfl ?_
        refine wa_getR 60 hC (vs9 hVC) (sr9_0 _) flX9_12 dX9_shareFund_57 rfl ?_
        refine wa_getLc 63 hC hVC.2.2.2.2.2.1 sh0_6 rfl flX9_346 dX9_shareFund_60 rfl ?_
        obtain ⟨x1_4, ex1_4, h⟩ := ltb_some h
        refine wa_lstore_n (lv' := [(1, .long x1_4), (0, .ref (ρ 9 0))]) 64 1 hC dX9_shareFund_63 rfl ex1_4 (by decide) rfl rfl ?_
        refine wa_aload_n 65 0 hC dX9_shareFund_64 rfl 1 rfl rfl ?_
        refine wa_getR 68 hC (vs9 hVC) (sr9_4 _) flX9_40 dX9_shareFund_65 rfl ?_
        refine wa_aload_n 69 0 hC dX9_shareFund_68 rfl 1 rfl rfl ?_
        refine wa_getR 72 hC (vs9 hVC) (sr9_0 _) flX9_12 dX9_shareFund_69 rfl ?_
        obtain ⟨A_5, e_11, h⟩ := bd_some h
        refine wa_callVv 75 hC [.ref (ρ 0 0)] [] knX3_weighHeldShares mvX9_384 (tX3_weighHeldShares E.2.1 0 A_2 hVC hVC.2.2.2.2.2.1 e_11) (vs3 hVC) kc3 (Nat.le_of_ble_eq_true rfl) (Nat.le_of_ble_eq_true rfl) rfl (Nat.le_of_ble_eq_true rfl) dX9_shareFund_72 rfl (by decide) rfl ?_
        refine wa_aload_n 76 0 hC dX9_shareFund_75 rfl 1 rfl rfl ?_
        refine wa_getR 79 hC (vs9 hVC) (sr9_4 _) flX9_40 dX9_shareFund_76 rfl ?_
        refine wa_lload_n 80 1 hC dX9_shareFund_79 rfl 0 rfl rfl ?_
        obtain ⟨A_6, e_10, h⟩ := bd_some h
        refine wa_callVv 83 hC [.long x1_4] [] knX3_divide mvX9_260 (tX3_divide E.2.1 x1_4 A_5 hVC e_10) (vs3 hVC) kc3 (Nat.le_of_ble_eq_true rfl) (Nat.le_of_ble_eq_true rfl) rfl (Nat.le_of_ble_eq_true rfl) dX9_shareFund_80 rfl (by decide) rfl ?_
        refine wa_aload_n 84 0 hC dX9_shareFund_83 rfl 1 rfl rfl ?_
        refine wa_getR 87 hC (vs9 hVC) (sr9_0 _) flX9_12 dX9_shareFund_84 rfl ?_
        refine wa_lconst 88 hC dX9_shareFund_87 kl_0 rfl ?_
        obtain ⟨A_7, eA_7, h⟩ := ltb_some h
        refine wa_putLc 91 hC hVC.2.2.2.2.2.1 eA_7 sh0_6 rfl fpX9_346 dX9_shareFund_88 rfl ?_
        refine wa_aload_n 92 0 hC dX9_shareFund_91 rfl 1 rfl rfl ?_
        refine wa_getR 95 hC (vs9 hVC) (sr9_0 _) flX9_12 dX9_shareFund_92 rfl ?_
        refine wa_aload_n 96 0 hC dX9_shareFund_95 rfl 1 rfl rfl ?_
        refine wa_getR 99 hC (vs9 hVC) (sr9_4 _) flX9_40 dX9_shareFund_96 rfl ?_
        refine wa_getR 102 hC (vs3 hVC) (sr3_3 _) flX9_264 dX9_shareFund_99 rfl ?_
        obtain ⟨A_8, e_9, h⟩ := bd_some h
        refine wa_callVv 105 hC [.ref (ρ 17 0)] [] knX0_creditParts mvX9_387 (tX0_creditParts E.2.1 0 A_7 hVC hVC.2.2.2.2.2.1 e_9) hVC.2.2.2.2.2.1 kc0 (Nat.le_of_ble_eq_true rfl) (Nat.le_of_ble_eq_true rfl) rfl (Nat.le_of_ble_eq_true rfl) dX9_shareFund_102 rfl (by decide) rfl ?_
        refine wa_lload_n 106 1 hC dX9_shareFund_105 rfl 0 rfl rfl ?_
        exact wx_lret hC hQ hE (xL h) (jA (sm2 h)) (by decide) dX9_shareFund_106
      refine wx_keep 56 hC [.ref (ρ 0 0)] [] knX6_keep mvX9_92 (tX6_keep E.2.1 A hVC e_3) (vs6 hVC) kc6 (Nat.le_of_ble_eq_true rfl) (Nat.le_of_ble_eq_true rfl) rfl (Nat.le_of_ble_eq_true rfl) dX9_shareFund_53 rfl (by decide) rfl (fun ρ1 V1 hE9 hVC9 => ?_)
      rw [← (hE9 9 0 (vs9 hVC)).2]
      exact key ρ1 V1 hE9 hVC9
    · exact wx_throwW (st := []) (ix := 39) (is := 382) (n9 := 2) hC hl9 hT9 hQ hE (xTL h) (jA (sm2 h)) xw_IllegalStateException rfl (by decide) rfl rfl (by decide) (by decide) (Nat.le_of_ble_eq_true rfl) dX9_shareFund_34 dX9_shareFund_37 dX9_shareFund_38 dX9_shareFund_41 dX9_shareFund_44
  · exact wx_throwW (st := []) (ix := 38) (is := 377) (n9 := 2) hC hl9 hT9 hQ hE (xTL h) (jA (sm2 h)) xw_IllegalStateException rfl (by decide) rfl rfl (by decide) (by decide) (Nat.le_of_ble_eq_true rfl) dX9_shareFund_12 dX9_shareFund_15 dX9_shareFund_16 dX9_shareFund_19 dX9_shareFund_22
set_option maxRecDepth 20000 in
theorem tX9_describe (l : Launch) (hl9 : l.stackTraces = false) {G : gU} {ρ : Nat → Nat → Nat} {V : Nat → Nat → Prop} {Z : sM} (x1 : Int32) (A : sM) (_ : VC V) {r : Nat ⊕ Int32} {A' : sM} (h : fX9_describe x1 A = some (r, A')) : MX l yX9_describe cX9_describe 2 (some .int) 9 90 3000 G ρ V [.ref (ρ 9 0), .int x1] (J A Z) (rI r) (J A' Z) := by
  refine vx_enter (lv := [(0, .ref (ρ 9 0)), (1, .int x1)]) RX9 rfl (by decide) (Nat.le_of_ble_eq_true rfl) rfl ?_
  intro E hE1 hC hQ hT9 hVC
  subst hE1
  have hQ : QXX E G ρ V (rI r) (J A' Z) 90 3000 := hQ
  have hE : Ext ρ V ρ V := Ext.rfl
  rw [fX9_describe] at h
  refine wa_aload_n 1 0 hC dX9_describe_0 rfl 0 rfl rfl ?_
  refine wa_iload_n 2 1 hC dX9_describe_1 rfl 1 rfl rfl ?_
  rcases rq_some h with ⟨e_3, h⟩ | ⟨n9, e_3, h⟩
  rotate_left
  · exact wx_reqThrow hC [.int x1] [] knX9_requireSubscriber mwX9_150 (tX9_requireSubscriber E.2.1 hl9 x1 A hVC e_3) (vs9 hVC) kc9 (Nat.le_of_ble_eq_true rfl) (Nat.le_of_ble_eq_true rfl) rfl (Nat.le_of_ble_eq_true rfl) dX9_describe_2 hT9 hQ hE (xTI h) (jA (sm2 h)) (by decide) rfl
  refine wx_reqOK 5 hC [.int x1] [] knX9_requireSubscriber mwX9_150 (tX9_requireSubscriber E.2.1 hl9 x1 A hVC e_3) (vs9 hVC) kc9 (Nat.le_of_ble_eq_true rfl) (Nat.le_of_ble_eq_true rfl) rfl (Nat.le_of_ble_eq_true rfl) dX9_describe_2 rfl (by decide) rfl ?_
  refine wa_aload_n 6 0 hC dX9_describe_5 rfl 0 rfl rfl ?_
  refine wa_getR 9 hC (vs9 hVC) (sr9_3 _) flX9_33 dX9_describe_6 rfl ?_
  refine wa_aload_n 10 0 hC dX9_describe_9 rfl 0 rfl rfl ?_
  refine wa_getR 13 hC (vs9 hVC) (sr9_0 _) flX9_12 dX9_describe_10 rfl ?_
  refine wa_iload_n 14 1 hC dX9_describe_13 rfl 1 rfl rfl ?_
  obtain ⟨A_1, e_2, h⟩ := bd_some h
  refine wa_callVv 17 hC [.ref (ρ 0 0), .int x1] [] knX2_write mvX9_391 (tX2_write E.2.1 0 x1 A hVC hVC.2.2.2.2.2.1 e_2) (vs2 hVC) kc2 (Nat.le_of_ble_eq_true rfl) (Nat.le_of_ble_eq_true rfl) rfl (Nat.le_of_ble_eq_true rfl) dX9_describe_14 rfl (by decide) rfl ?_
  refine wa_aload_n 18 0 hC dX9_describe_17 rfl 0 rfl rfl ?_
  refine wa_getR 21 hC (vs9 hVC) (sr9_3 _) flX9_33 dX9_describe_18 rfl ?_
  refine wa_getIc 24 hC (vs2 hVC) sh2_1 rfl flX9_395 dX9_describe_21 rfl ?_
  exact wx_iret hC hQ hE (xI h) (jA (sm2 h)) (by decide) dX9_describe_24
set_option maxRecDepth 20000 in
theorem tX9_describedByte (l : Launch) (hl9 : l.stackTraces = false) {G : gU} {ρ : Nat → Nat → Nat} {V : Nat → Nat → Prop} {Z : sM} (x1 : Int32) (A : sM) (_ : VC V) {r : Nat ⊕ Int32} {A' : sM} (h : fX9_describedByte x1 A = some (r, A')) : MX l yX9_describedByte cX9_describedByte 2 (some .int) 8 90 3000 G ρ V [.ref (ρ 9 0), .int x1] (J A Z) (rI r) (J A' Z) := by
  refine vx_enter (lv := [(0, .ref (ρ 9 0)), (1, .int x1)]) RX9 rfl (by decide) (Nat.le_of_ble_eq_true rfl) rfl ?_
  intro E hE1 hC hQ hT9 hVC
  subst hE1
  have hQ : QXX E G ρ V (rI r) (J A' Z) 90 3000 := hQ
  have hE : Ext ρ V ρ V := Ext.rfl
  rw [fX9_describedByte] at h
  refine wa_iload_n 1 1 hC dX9_describedByte_0 rfl 1 rfl rfl ?_
  refine wa_if_lt 4 15 hC dX9_describedByte_1 rfl rfl h (fun h => ?_) (fun h => ?_)
  · exact wx_throwW (st := []) (ix := 48) (is := 396) (n9 := 0) hC hl9 hT9 hQ hE (xTI h) (jA (sm2 h)) xw_IndexOutOfBoundsException rfl (by decide) rfl rfl (by decide) (by decide) (Nat.le_of_ble_eq_true rfl) dX9_describedByte_15 dX9_describedByte_18 dX9_describedByte_19 dX9_describedByte_22 dX9_describedByte_25
  · refine wa_iload_n 5 1 hC dX9_describedByte_4 rfl 1 rfl rfl ?_
    refine wa_aload_n 6 0 hC dX9_describedByte_5 rfl 0 rfl rfl ?_
    refine wa_getR 9 hC (vs9 hVC) (sr9_3 _) flX9_33 dX9_describedByte_6 rfl ?_
    refine wa_getIc 12 hC (vs2 hVC) sh2_1 rfl flX9_395 dX9_describedByte_9 rfl ?_
    refine wa_icmp_lt 15 26 hC dX9_describedByte_12 rfl rfl h (fun h => ?_) (fun h => ?_)
    · refine wa_aload_n 27 0 hC dX9_describedByte_26 rfl 0 rfl rfl ?_
      refine wa_getR 30 hC (vs9 hVC) (sr9_3 _) flX9_33 dX9_describedByte_27 rfl ?_
      refine wa_getR 33 hC (vs2 hVC) (sr2_0 _) flX9_398 dX9_describedByte_30 rfl ?_
      refine wa_iload_n 34 1 hC dX9_describedByte_33 rfl 1 rfl rfl ?_
      obtain ⟨g_1, h⟩ := gd_some h
      refine wa_baldc 35 hC (vs14 hVC) ar14 rfl g_1 dX9_describedByte_34 rfl ?_
      exact wx_iret hC hQ hE (xI h) (jA (sm2 h)) (by decide) dX9_describedByte_35
    · exact wx_throwW (st := []) (ix := 48) (is := 396) (n9 := 0) hC hl9 hT9 hQ hE (xTI h) (jA (sm2 h)) xw_IndexOutOfBoundsException rfl (by decide) rfl rfl (by decide) (by decide) (Nat.le_of_ble_eq_true rfl) dX9_describedByte_15 dX9_describedByte_18 dX9_describedByte_19 dX9_describedByte_22 dX9_describedByte_25
set_option maxRecDepth 20000 in
theorem tX9_undo (l : Launch) (hl9 : l.stackTraces = false) {G : gU} {ρ : Nat → Nat → Nat} {V : Nat → Nat → Prop} {Z : sM} (A : sM) (_ : VC V) {r : Nat ⊕ Int32} {A' : sM} (h : fX9_undo A = some (r, A')) : MX l yX9_undo cX9_undo 1 (some .int) 8 90 3000 G ρ V [.ref (ρ 9 0)] (J A Z) (rI r) (J A' Z) := by
  refine vx_enter (lv := [(0, .ref (ρ 9 0))]) RX9 rfl (by decide) (Nat.le_of_ble_eq_true rfl) rfl ?_
  intro E hE1 hC hQ hT9 hVC
  subst hE1
  have hQ : QXX E G ρ V (rI r) (J A' Z) 90 3000 := hQ
  have hE : Ext ρ V ρ V := Ext.rfl
  rw [fX9_undo] at h
  refine wa_aload_n 1 0 hC dX9_undo_0 rfl 0 rfl rfl ?_
  refine wa_getR 4 hC (vs9 hVC) (sr9_1 _) flX9_19 dX9_undo_1 rfl ?_
  refine wa_getIc 7 hC (vs6 hVC) sh6_2 rfl flX9_402 dX9_undo_4 rfl ?_
  refine wa_iconst 8 hC dX9_undo_7 kc_1 rfl ?_
  refine wa_icmp_ge 11 22 hC dX9_undo_8 rfl rfl h (fun h => ?_) (fun h => ?_)
  · refine wa_aload_n 23 0 hC dX9_undo_22 rfl 0 rfl rfl ?_
    refine wa_getR 26 hC (vs9 hVC) (sr9_1 _) flX9_19 dX9_undo_23 rfl ?_
    refine wa_aload_n 27 0 hC dX9_undo_26 rfl 0 rfl rfl ?_
    refine wa_getR 30 hC (vs9 hVC) (sr9_0 _) flX9_12 dX9_undo_27 rfl ?_
    obtain ⟨A_1, e_2, h⟩ := bd_some h
    refine wa_callVv 33 hC [.ref (ρ 0 0)] [] knX6_restore mvX9_407 (tX6_restore E.2.1 A hVC e_2) (vs6 hVC) kc6 (Nat.le_of_ble_eq_true rfl) (Nat.le_of_ble_eq_true rfl) rfl (Nat.le_of_ble_eq_true rfl) dX9_undo_30 rfl (by decide) rfl ?_
    refine wa_aload_n 34 0 hC dX9_undo_33 rfl 0 rfl rfl ?_
    refine wa_getR 37 hC (vs9 hVC) (sr9_1 _) flX9_19 dX9_undo_34 rfl ?_
    refine wa_getIc 40 hC (vs6 hVC) sh6_2 rfl flX9_402 dX9_undo_37 rfl ?_
    exact wx_iret hC hQ hE (xI h) (jA (sm2 h)) (by decide) dX9_undo_40
  · exact wx_throwW (st := []) (ix := 49) (is := 405) (n9 := 2) hC hl9 hT9 hQ hE (xTI h) (jA (sm2 h)) xw_IllegalStateException rfl (by decide) rfl rfl (by decide) (by decide) (Nat.le_of_ble_eq_true rfl) dX9_undo_11 dX9_undo_14 dX9_undo_15 dX9_undo_18 dX9_undo_21
