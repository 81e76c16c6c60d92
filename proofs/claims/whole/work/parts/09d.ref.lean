set_option maxRecDepth 20000 in
theorem tX10_divisor (l : Launch) {G : gU} {ρ : Nat → Nat → Nat} {V : Nat → Nat → Prop} {A : sM} : ∀ (n : Nat) (x0 : Int64) (x2 : Int64) (Z : sM) (_ : VC V) {r : Int64} (h : fX10_divisor n x0 x2 Z = some r), MT l yX10_divisor cX10_divisor 4 (some .long) (n + 3) G ρ V [.long x0, .long x2] (J A Z) (some (.long r)) (J A Z) := by
  intro n
  induction n with
  | zero =>
    intro x0 x2 Z hVC0 r h
    rw [fX10_divisor] at h
    cases h
  | succ n ih =>
    intro x0 x2 Z hVC0 r h
    refine vv_enter (lv := [(0, .long x0), (2, .long x2)]) RX10 rfl (by decide) (Nat.le_of_ble_eq_true rfl) rfl ?_
    intro E hE hC hQ hVC
    subst hE
    rw [fX10_divisor] at h
    refine wa_lload_n 1 2 hC dX10_divisor_0 rfl 1 rfl rfl ?_
    refine wa_lconst 2 hC dX10_divisor_1 kl_0 rfl ?_
    refine wa_lcmp 3 hC dX10_divisor_2 rfl ?_
    refine wa_lcmp_ne 6 10 hC dX10_divisor_3 rfl rfl h (fun h => ?_) (fun h => ?_)
    · refine wa_lload_n 11 2 hC dX10_divisor_10 rfl 1 rfl rfl ?_
      refine wa_lload_n 12 0 hC dX10_divisor_11 rfl 0 rfl rfl ?_
      refine wa_lload_n 13 2 hC dX10_divisor_12 rfl 1 rfl rfl ?_
      obtain ⟨g_1, h⟩ := gd_some h
      refine wa_lrem 14 hC dX10_divisor_13 g_1 rfl ?_
      obtain ⟨r_2, e_3, h⟩ := bd_some h
      refine wa_callSl 17 hC [.long x2, .long (x0 - x0 / x2 * x2)] [] knX10_divisor msX10_265 (ih x2 (x0 - x0 / x2 * x2) Z hVC e_3) (by omega) (by omega) rfl (Nat.le_of_ble_eq_true rfl) dX10_divisor_14 rfl le00 rfl ?_
      exact wa_lret hC hQ (sm0 h) rfl dX10_divisor_17
    · refine wa_lload_n 7 0 hC dX10_divisor_6 rfl 0 rfl rfl ?_
      refine wa_goto 17 hC dX10_divisor_7 rfl ?_
      exact wa_lret hC hQ (sm0 h) rfl dX10_divisor_17
set_option maxRecDepth 20000 in
theorem tX10_tells (l : Launch) {G : gU} {ρ : Nat → Nat → Nat} {V : Nat → Nat → Prop} {A : sM} (x1 : Int32) (Z : sM) (_ : VC V) {Z' : sM} (h : fX10_tells x1 Z = some Z') : MT l yX10_tells cX10_tells 2 none 1 G ρ V [.ref (ρ 10 0), .int x1] (J A Z) none (J A Z') := by
  refine vv_enter (lv := [(0, .ref (ρ 10 0)), (1, .int x1)]) RX10 rfl (by decide) (Nat.le_of_ble_eq_true rfl) rfl ?_
  intro E hE hC hQ hVC
  subst hE
  rw [fX10_tells] at h
  refine wa_aload_n 1 0 hC dX10_tells_0 rfl 0 rfl rfl ?_
  refine wa_getR 4 hC (vs10 hVC) (sr10_24 _) flX10_55 dX10_tells_1 rfl ?_
  refine wa_aload_n 5 0 hC dX10_tells_4 rfl 0 rfl rfl ?_
  refine wa_getIr 8 hC (vs10 hVC) sh10_25 rfl flX10_276 dX10_tells_5 rfl ?_
  refine wa_iload_n 9 1 hC dX10_tells_8 rfl 1 rfl rfl ?_
  refine wa_i2b 10 hC dX10_tells_9 rfl ?_
  obtain ⟨g_1, h⟩ := gd_some h
  obtain ⟨Z_2, eZ_2, h⟩ := ltb_some h
  refine wa_bastr 11 hC (vs40 hVC) nk40 ar40 rfl g_1 (pk_nb _) eZ_2 dX10_tells_10 rfl ?_
  refine wa_aload_n 12 0 hC dX10_tells_11 rfl 0 rfl rfl ?_
  refine wa_dup 13 hC dX10_tells_12 rfl rfl ?_
  refine wa_getIr 16 hC (vs10 hVC) sh10_25 rfl flX10_276 dX10_tells_13 rfl ?_
  refine wa_iconst 17 hC dX10_tells_16 kc_1 rfl ?_
  refine wa_iadd 18 hC dX10_tells_17 rfl ?_
  obtain ⟨Z_3, eZ_3, h⟩ := ltb_some h
  refine wa_putIr 21 hC (vs10 hVC) nk10 eZ_3 sh10_25 rfl fpX10_276 dX10_tells_18 rfl ?_
  exact wa_vret hC hQ (jZ (sm0 h)) dX10_tells_21
set_option maxRecDepth 20000 in
theorem tX10_tellsNumber (l : Launch) {G : gU} {ρ : Nat → Nat → Nat} {V : Nat → Nat → Prop} {A : sM} : ∀ (n : Nat) (x1 : Int64) (Z : sM) (_ : VC V) {Z' : sM} (h : fX10_tellsNumber n x1 Z = some Z'), MT l yX10_tellsNumber cX10_tellsNumber 3 none (n + 3) G ρ V [.ref (ρ 10 0), .long x1] (J A Z) none (J A Z') := by
  intro n
  induction n with
  | zero =>
    intro x1 Z hVC0 Z' h
    rw [fX10_tellsNumber] at h
    cases h
  | succ n ih =>
    intro x1 Z hVC0 Z' h
    refine vv_enter (lv := [(0, .ref (ρ 10 0)), (1, .long x1)]) RX10 rfl (by decide) (Nat.le_of_ble_eq_true rfl) rfl ?_
    intro E hE hC hQ hVC
    subst hE
    rw [fX10_tellsNumber] at h
    refine wa_lload_n 1 1 hC dX10_tellsNumber_0 rfl 1 rfl rfl ?_
    refine wa_ldc2 4 hC dX10_tellsNumber_1 lcX10_121 rfl ?_
    refine wa_lcmp 5 hC dX10_tellsNumber_4 rfl ?_
    refine wa_lcmp_lt 8 17 hC dX10_tellsNumber_5 rfl rfl h (fun h => ?_) (fun h => ?_)
    · refine wa_aload_n 18 0 hC dX10_tellsNumber_17 rfl 0 rfl rfl ?_
      refine wa_bipush 20 hC dX10_tellsNumber_18 kb_48 rfl ?_
      refine wa_lload_n 21 1 hC dX10_tellsNumber_20 rfl 1 rfl rfl ?_
      refine wa_ldc2 24 hC dX10_tellsNumber_21 lcX10_121 rfl ?_
      refine wa_lrem 25 hC dX10_tellsNumber_24 (by decide) rfl ?_
      refine wa_l2i 26 hC dX10_tellsNumber_25 rfl ?_
      refine wa_iadd 27 hC dX10_tellsNumber_26 rfl ?_
      obtain ⟨Z_1, e_2, h⟩ := bd_some h
      refine wa_callVv 30 hC [.int ((48 : Int32) + ((x1 - x1 / (10 : Int64) * (10 : Int64)).toInt32))] [] knX10_tells mvX10_283 (tX10_tells E.2.1 ((48 : Int32) + ((x1 - x1 / (10 : Int64) * (10 : Int64)).toInt32)) Z hVC e_2) (vs10 hVC) kc10 (by omega) (by omega) rfl (Nat.le_of_ble_eq_true rfl) dX10_tellsNumber_27 rfl le00 rfl ?_
      exact wa_vret hC hQ (jZ (sm0 h)) dX10_tellsNumber_30
    · refine wa_aload_n 9 0 hC dX10_tellsNumber_8 rfl 0 rfl rfl ?_
      refine wa_lload_n 10 1 hC dX10_tellsNumber_9 rfl 1 rfl rfl ?_
      refine wa_ldc2 13 hC dX10_tellsNumber_10 lcX10_121 rfl ?_
      refine wa_ldiv 14 hC dX10_tellsNumber_13 (by decide) rfl ?_
      obtain ⟨Z_3, e_6, h⟩ := bd_some h
      refine wa_callVv 17 hC [.long (x1 / (10 : Int64))] [] knX10_tellsNumber mvX10_279 (ih (x1 / (10 : Int64)) Z hVC e_6) (vs10 hVC) kc10 (by omega) (by omega) rfl (Nat.le_of_ble_eq_true rfl) dX10_tellsNumber_14 rfl le00 rfl ?_
      refine wa_aload_n 18 0 hC dX10_tellsNumber_17 rfl 0 rfl rfl ?_
      refine wa_bipush 20 hC dX10_tellsNumber_18 kb_48 rfl ?_
      refine wa_lload_n 21 1 hC dX10_tellsNumber_20 rfl 1 rfl rfl ?_
      refine wa_ldc2 24 hC dX10_tellsNumber_21 lcX10_121 rfl ?_
      refine wa_lrem 25 hC dX10_tellsNumber_24 (by decide) rfl ?_
      refine wa_l2i 26 hC dX10_tellsNumber_25 rfl ?_
      refine wa_iadd 27 hC dX10_tellsNumber_26 rfl ?_
      obtain ⟨Z_4, e_5, h⟩ := bd_some h
      refine wa_callVv 30 hC [.int ((48 : Int32) + ((x1 - x1 / (10 : Int64) * (10 : Int64)).toInt32))] [] knX10_tells mvX10_283 (tX10_tells E.2.1 ((48 : Int32) + ((x1 - x1 / (10 : Int64) * (10 : Int64)).toInt32)) Z_3 hVC e_5) (vs10 hVC) kc10 (by omega) (by omega) rfl (Nat.le_of_ble_eq_true rfl) dX10_tellsNumber_27 rfl le00 rfl ?_
      exact wa_vret hC hQ (jZ (sm0 h)) dX10_tellsNumber_30
set_option maxRecDepth 20000 in
theorem wX10_begins_27_L3 {E : eU} {G : gU} {ρ : Nat → Nat → Nat} {V : Nat → Nat → Prop} {A : sM} {Z' : sM} (x1 : Int32) (x2 : Int32) (x3 : Int32) (x4 : Int32) {k34 : sM → Option (sM)} (hC : CX E G cX10_begins 6 RX10 none 1 0 0) (hVC : VC V) (hk34 : ∀ (Z : sM), k34 Z = some Z' → WA E G ρ V 0 0 (J A Z) 34 [(0, .ref (ρ 27 0)), (1, .int x1), (2, .int x2), (3, .int x3), (4, .int x4)] []) : ∀ (n : Nat) (x5 : Int32) (Z : sM), fX10_begins_27_L3 x1 x2 x3 x4 k34 n x5 Z = some Z' → WA E G ρ V 0 0 (J A Z) 3 [(0, .ref (ρ 27 0)), (1, .int x1), (2, .int x2), (3, .int x3), (4, .int x4), (5, .int x5)] [] := by
  intro n
  induction n with
  | zero =>
    intro x5 Z h
    rw [fX10_begins_27_L3] at h
    cases h
  | succ n ih =>
    intro x5 Z h
    rw [fX10_begins_27_L3] at h
    refine wa_iload 5 5 hC dX10_begins_3 5 rfl rfl ?_
    refine wa_sipush 8 hC dX10_begins_5 ks_1588 rfl ?_
    refine wa_icmp_ge 11 34 hC dX10_begins_8 rfl rfl h (fun h => ?_) (fun h => ?_)
    · refine wa_pick [0, 1, 2, 3, 4] rfl ?_
      exact hk34 Z h
    · refine wa_aload_n 12 0 hC dX10_begins_11 rfl 0 rfl rfl ?_
      refine wa_iload 14 5 hC dX10_begins_12 5 rfl rfl ?_
      refine wa_iload 16 5 hC dX10_begins_14 5 rfl rfl ?_
      refine wa_sipush 19 hC dX10_begins_16 ks_1348 rfl ?_
      obtain ⟨kj_2, ekj_2, h⟩ := ltb_k1 h
      have hkj_2 : ∀ (v_1 : Int32), kj_2 v_1 = some Z' → WA E G ρ V 0 0 (J A Z) 27 [(0, .ref (ρ 27 0)), (1, .int x1), (2, .int x2), (3, .int x3), (4, .int x4), (5, .int x5)] [.int v_1, .int x5, .ref (ρ 27 0)] := by
        intro v_1 h
        rw [ekj_2] at h
        obtain ⟨g_3, h⟩ := gd_some h
        obtain ⟨Z_4, eZ_4, h⟩ := ltb_some h
        refine wa_iastr 28 hC (vs27 hVC) nk27 ar27 rfl g_3 eZ_4 dX10_begins_27 rfl ?_
        obtain ⟨x5_5, ex5_5, h⟩ := ltb_some h
        refine wa_iinc (lv' := [(5, .int x5_5), (0, .ref (ρ 27 0)), (1, .int x1), (2, .int x2), (3, .int x3), (4, .int x4)]) 31 5 hC dX10_begins_28 5 rfl (by rw [kc_1]; exact ex5_5) (by decide) rfl rfl ?_
        refine wa_goto 3 hC dX10_begins_31 rfl ?_
        refine wa_pick [1, 2, 3, 4, 5, 0] rfl ?_
        exact ih x5_5 Z_4 h
      clear ekj_2
      refine wa_icmp_lt 22 26 hC dX10_begins_19 rfl rfl h (fun h => ?_) (fun h => ?_)
      · refine wa_iconst 27 hC dX10_begins_26 kc_0 rfl ?_
        exact hkj_2 (0 : Int32) h
      · refine wa_iconst 23 hC dX10_begins_22 kc_m1 rfl ?_
        refine wa_goto 27 hC dX10_begins_23 rfl ?_
        exact hkj_2 (-1 : Int32) h
set_option maxRecDepth 20000 in
theorem tX10_begins_27 (l : Launch) {G : gU} {ρ : Nat → Nat → Nat} {V : Nat → Nat → Prop} {A : sM} (x1 : Int32) (x2 : Int32) (x3 : Int32) (x4 : Int32) (Z : sM) (_ : VC V) {Z' : sM} (h : fX10_begins_27 x1 x2 x3 x4 Z = some Z') : MT l yX10_begins cX10_begins 6 none 1 G ρ V [.ref (ρ 27 0), .int x1, .int x2, .int x3, .int x4] (J A Z) none (J A Z') := by
  refine vv_enter (lv := [(0, .ref (ρ 27 0)), (1, .int x1), (2, .int x2), (3, .int x3), (4, .int x4)]) RX10 rfl (by decide) (Nat.le_of_ble_eq_true rfl) rfl ?_
  intro E hE hC hQ hVC
  subst hE
  rw [fX10_begins_27] at h
  refine wa_iconst 1 hC dX10_begins_0 kc_0 rfl ?_
  refine wa_istore (lv' := [(5, .int (0 : Int32)), (0, .ref (ρ 27 0)), (1, .int x1), (2, .int x2), (3, .int x3), (4, .int x4)]) 3 5 hC dX10_begins_1 rfl (by decide) rfl rfl ?_
  refine wa_pick [1, 2, 3, 4, 5, 0] rfl ?_
  refine wX10_begins_27_L3 x1 x2 x3 x4 hC hVC (fun Z_1 h => ?_) 10000 (0 : Int32) Z h
  refine wa_aload_n 35 0 hC dX10_begins_34 rfl 0 rfl rfl ?_
  refine wa_iconst 36 hC dX10_begins_35 kc_0 rfl ?_
  refine wa_iload_n 37 1 hC dX10_begins_36 rfl 1 rfl rfl ?_
  obtain ⟨Z_3, eZ_3, h⟩ := ltb_some h
  refine wa_iastr 38 hC (vs27 hVC) nk27 ar27 rfl (by decide) eZ_3 dX10_begins_37 rfl ?_
  refine wa_aload_n 39 0 hC dX10_begins_38 rfl 0 rfl rfl ?_
  refine wa_iconst 40 hC dX10_begins_39 kc_1 rfl ?_
  refine wa_iload_n 41 2 hC dX10_begins_40 rfl 2 rfl rfl ?_
  obtain ⟨Z_5, eZ_5, h⟩ := ltb_some h
  refine wa_iastr 42 hC (vs27 hVC) nk27 ar27 rfl (by decide) eZ_5 dX10_begins_41 rfl ?_
  refine wa_aload_n 43 0 hC dX10_begins_42 rfl 0 rfl rfl ?_
  refine wa_iconst 44 hC dX10_begins_43 kc_2 rfl ?_
  refine wa_iload_n 45 3 hC dX10_begins_44 rfl 3 rfl rfl ?_
  obtain ⟨Z_7, eZ_7, h⟩ := ltb_some h
  refine wa_iastr 46 hC (vs27 hVC) nk27 ar27 rfl (by decide) eZ_7 dX10_begins_45 rfl ?_
  refine wa_aload_n 47 0 hC dX10_begins_46 rfl 0 rfl rfl ?_
  refine wa_iconst 48 hC dX10_begins_47 kc_3 rfl ?_
  refine wa_iload 50 4 hC dX10_begins_48 4 rfl rfl ?_
  obtain ⟨Z_9, eZ_9, h⟩ := ltb_some h
  refine wa_iastr 51 hC (vs27 hVC) nk27 ar27 rfl (by decide) eZ_9 dX10_begins_50 rfl ?_
  exact wa_vret hC hQ (jZ (sm0 h)) dX10_begins_51
set_option maxRecDepth 20000 in
theorem wX10_begins_28_L3 {E : eU} {G : gU} {ρ : Nat → Nat → Nat} {V : Nat → Nat → Prop} {A : sM} {Z' : sM} (x1 : Int32) (x2 : Int32) (x3 : Int32) (x4 : Int32) {k34 : sM → Option (sM)} (hC : CX E G cX10_begins 6 RX10 none 1 0 0) (hVC : VC V) (hk34 : ∀ (Z : sM), k34 Z = some Z' → WA E G ρ V 0 0 (J A Z) 34 [(0, .ref (ρ 28 0)), (1, .int x1), (2, .int x2), (3, .int x3), (4, .int x4)] []) : ∀ (n : Nat) (x5 : Int32) (Z : sM), fX10_begins_28_L3 x1 x2 x3 x4 k34 n x5 Z = some Z' → WA E G ρ V 0 0 (J A Z) 3 [(0, .ref (ρ 28 0)), (1, .int x1), (2, .int x2), (3, .int x3), (4, .int x4), (5, .int x5)] [] := by
  intro n
  induction n with
  | zero =>
    intro x5 Z h
    rw [fX10_begins_28_L3] at h
    cases h
  | succ n ih =>
    intro x5 Z h
    rw [fX10_begins_28_L3] at h
    refine wa_iload 5 5 hC dX10_begins_3 5 rfl rfl ?_
    refine wa_sipush 8 hC dX10_begins_5 ks_1588 rfl ?_
    refine wa_icmp_ge 11 34 hC dX10_begins_8 rfl rfl h (fun h => ?_) (fun h => ?_)
    · refine wa_pick [0, 1, 2, 3, 4] rfl ?_
      exact hk34 Z h
    · refine wa_aload_n 12 0 hC dX10_begins_11 rfl 0 rfl rfl ?_
      refine wa_iload 14 5 hC dX10_begins_12 5 rfl rfl ?_
      refine wa_iload 16 5 hC dX10_begins_14 5 rfl rfl ?_
      refine wa_sipush 19 hC dX10_begins_16 ks_1348 rfl ?_
      obtain ⟨kj_2, ekj_2, h⟩ := ltb_k1 h
      have hkj_2 : ∀ (v_1 : Int32), kj_2 v_1 = some Z' → WA E G ρ V 0 0 (J A Z) 27 [(0, .ref (ρ 28 0)), (1, .int x1), (2, .int x2), (3, .int x3), (4, .int x4), (5, .int x5)] [.int v_1, .int x5, .ref (ρ 28 0)] := by
        intro v_1 h
        rw [ekj_2] at h
        obtain ⟨g_3, h⟩ := gd_some h
        obtain ⟨Z_4, eZ_4, h⟩ := ltb_some h
        refine wa_iastr 28 hC (vs28 hVC) nk28 ar28 rfl g_3 eZ_4 dX10_begins_27 rfl ?_
        obtain ⟨x5_5, ex5_5, h⟩ := ltb_some h
        refine wa_iinc (lv' := [(5, .int x5_5), (0, .ref (ρ 28 0)), (1, .int x1), (2, .int x2), (3, .int x3), (4, .int x4)]) 31 5 hC dX10_begins_28 5 rfl (by rw [kc_1]; exact ex5_5) (by decide) rfl rfl ?_
        refine wa_goto 3 hC dX10_begins_31 rfl ?_
        refine wa_pick [1, 2, 3, 4, 5, 0] rfl ?_
        exact ih x5_5 Z_4 h
      clear ekj_2
      refine wa_icmp_lt 22 26 hC dX10_begins_19 rfl rfl h (fun h => ?_) (fun h => ?_)
      · refine wa_iconst 27 hC dX10_begins_26 kc_0 rfl ?_
        exact hkj_2 (0 : Int32) h
      · refine wa_iconst 23 hC dX10_begins_22 kc_m1 rfl ?_
        refine wa_goto 27 hC dX10_begins_23 rfl ?_
        exact hkj_2 (-1 : Int32) h
set_option maxRecDepth 20000 in
theorem tX10_begins_28 (l : Launch) {G : gU} {ρ : Nat → Nat → Nat} {V : Nat → Nat → Prop} {A : sM} (x1 : Int32) (x2 : Int32) (x3 : Int32) (x4 : Int32) (Z : sM) (_ : VC V) {Z' : sM} (h : fX10_begins_28 x1 x2 x3 x4 Z = some Z') : MT l yX10_begins cX10_begins 6 none 1 G ρ V [.ref (ρ 28 0), .int x1, .int x2, .int x3, .int x4] (J A Z) none (J A Z') := by
  refine vv_enter (lv := [(0, .ref (ρ 28 0)), (1, .int x1), (2, .int x2), (3, .int x3), (4, .int x4)]) RX10 rfl (by decide) (Nat.le_of_ble_eq_true rfl) rfl ?_
  intro E hE hC hQ hVC
  subst hE
  rw [fX10_begins_28] at h
  refine wa_iconst 1 hC dX10_begins_0 kc_0 rfl ?_
  refine wa_istore (lv' := [(5, .int (0 : Int32)), (0, .ref (ρ 28 0)), (1, .int x1), (2, .int x2), (3, .int x3), (4, .int x4)]) 3 5 hC dX10_begins_1 rfl (by decide) rfl rfl ?_
  refine wa_pick [1, 2, 3, 4, 5, 0] rfl ?_
  refine wX10_begins_28_L3 x1 x2 x3 x4 hC hVC (fun Z_1 h => ?_) 10000 (0 : Int32) Z h
  refine wa_aload_n 35 0 hC dX10_begins_34 rfl 0 rfl rfl ?_
  refine wa_iconst 36 hC dX10_begins_35 kc_0 rfl ?_
  refine wa_iload_n 37 1 hC dX10_begins_36 rfl 1 rfl rfl ?_
  obtain ⟨Z_3, eZ_3, h⟩ := ltb_some h
  refine wa_iastr 38 hC (vs28 hVC) nk28 ar28 rfl (by decide) eZ_3 dX10_begins_37 rfl ?_
  refine wa_aload_n 39 0 hC dX10_begins_38 rfl 0 rfl rfl ?_
  refine wa_iconst 40 hC dX10_begins_39 kc_1 rfl ?_
  refine wa_iload_n 41 2 hC dX10_begins_40 rfl 2 rfl rfl ?_
  obtain ⟨Z_5, eZ_5, h⟩ := ltb_some h
  refine wa_iastr 42 hC (vs28 hVC) nk28 ar28 rfl (by decide) eZ_5 dX10_begins_41 rfl ?_
  refine wa_aload_n 43 0 hC dX10_begins_42 rfl 0 rfl rfl ?_
  refine wa_iconst 44 hC dX10_begins_43 kc_2 rfl ?_
  refine wa_iload_n 45 3 hC dX10_begins_44 rfl 3 rfl rfl ?_
  obtain ⟨Z_7, eZ_7, h⟩ := ltb_some h
  refine wa_iastr 46 hC (vs28 hVC) nk28 ar28 rfl (by decide) eZ_7 dX10_begins_45 rfl ?_
  refine wa_aload_n 47 0 hC dX10_begins_46 rfl 0 rfl rfl ?_
  refine wa_iconst 48 hC dX10_begins_47 kc_3 rfl ?_
  refine wa_iload 50 4 hC dX10_begins_48 4 rfl rfl ?_
  obtain ⟨Z_9, eZ_9, h⟩ := ltb_some h
  refine wa_iastr 51 hC (vs28 hVC) nk28 ar28 rfl (by decide) eZ_9 dX10_begins_50 rfl ?_
  exact wa_vret hC hQ (jZ (sm0 h)) dX10_begins_51
set_option maxRecDepth 20000 in
theorem tX10_thrown (l : Launch) {G : gU} {ρ : Nat → Nat → Nat} {V : Nat → Nat → Prop} {A : sM} (Z : sM) (_ : VC V) {r : Int32} (h : fX10_thrown Z = some r) : MT l yX10_thrown cX10_thrown 1 (some .int) 1 G ρ V [.ref (ρ 10 0)] (J A Z) (some (.int r)) (J A Z) := by
  refine vv_enter (lv := [(0, .ref (ρ 10 0))]) RX10 rfl (by decide) (Nat.le_of_ble_eq_true rfl) rfl ?_
  intro E hE hC hQ hVC
  subst hE
  rw [fX10_thrown] at h
  refine wa_aload_n 1 0 hC dX10_thrown_0 rfl 0 rfl rfl ?_
  refine wa_getIr 4 hC (vs10 hVC) sh10_6 rfl flX10_63 dX10_thrown_1 rfl ?_
  exact wa_iret hC hQ (sm0 h) rfl dX10_thrown_4
set_option maxRecDepth 20000 in
theorem tX10_isIn (l : Launch) {G : gU} {ρ : Nat → Nat → Nat} {V : Nat → Nat → Prop} {A : sM} (x0 : Int64) (x2 : Int64) (x4 : Int64) (Z : sM) (_ : VC V) {r : Int32} (h : fX10_isIn x0 x2 x4 Z = some r) : MT l yX10_isIn cX10_isIn 6 (some .boolean) 1 G ρ V [.long x0, .long x2, .long x4] (J A Z) (some (.int r)) (J A Z) := by
  refine vv_enter (lv := [(0, .long x0), (2, .long x2), (4, .long x4)]) RX10 rfl (by decide) (Nat.le_of_ble_eq_true rfl) rfl ?_
  intro E hE hC hQ hVC
  subst hE
  rw [fX10_isIn] at h
  refine wa_lload_n 1 0 hC dX10_isIn_0 rfl 0 rfl rfl ?_
  refine wa_lload_n 2 2 hC dX10_isIn_1 rfl 1 rfl rfl ?_
  refine wa_lcmp 3 hC dX10_isIn_2 rfl ?_
  refine wa_lcmp_lt 6 17 hC dX10_isIn_3 rfl rfl h (fun h => ?_) (fun h => ?_)
  · refine wa_iconst 18 hC dX10_isIn_17 kc_0 rfl ?_
    exact wa_zret hC hQ (sm0 h) rfl rfl dX10_isIn_18
  · refine wa_lload_n 7 0 hC dX10_isIn_6 rfl 0 rfl rfl ?_
    refine wa_lload 9 4 hC dX10_isIn_7 2 rfl rfl ?_
    refine wa_lcmp 10 hC dX10_isIn_9 rfl ?_
    refine wa_lcmp_gt 13 17 hC dX10_isIn_10 rfl rfl h (fun h => ?_) (fun h => ?_)
    · refine wa_iconst 18 hC dX10_isIn_17 kc_0 rfl ?_
      exact wa_zret hC hQ (sm0 h) rfl rfl dX10_isIn_18
    · refine wa_iconst 14 hC dX10_isIn_13 kc_1 rfl ?_
      refine wa_goto 18 hC dX10_isIn_14 rfl ?_
      exact wa_zret hC hQ (sm0 h) rfl rfl dX10_isIn_18
set_option maxRecDepth 20000 in
theorem wX10_keeps_L83 {E : eU} {G : gU} {ρ : Nat → Nat → Nat} {V : Nat → Nat → Prop} {A : sM} {Z' : sM} {k117 : sM → Option (sM)} (hC : CX E G cX10_keeps 2 RX10 none 1 0 0) (hVC : VC V) (hk117 : ∀ (Z : sM), k117 Z = some Z' → WA E G ρ V 0 0 (J A Z) 117 [(0, .ref (ρ 10 0))] []) : ∀ (n : Nat) (x1 : Int32) (Z : sM), fX10_keeps_L83 k117 n x1 Z = some Z' → WA E G ρ V 0 0 (J A Z) 83 [(0, .ref (ρ 10 0)), (1, .int x1)] [] := by
  intro n
  induction n with
  | zero =>
    intro x1 Z h
    rw [fX10_keeps_L83] at h
    cases h
  | succ n ih =>
    intro x1 Z h
    rw [fX10_keeps_L83] at h
    refine wa_iload_n 84 1 hC dX10_keeps_83 rfl 1 rfl rfl ?_
    refine wa_sipush 87 hC dX10_keeps_84 ks_1588 rfl ?_
    refine wa_icmp_ge 90 117 hC dX10_keeps_87 rfl rfl h (fun h => ?_) (fun h => ?_)
    · refine wa_pick [0] rfl ?_
      exact hk117 Z h
    · refine wa_aload_n 91 0 hC dX10_keeps_90 rfl 0 rfl rfl ?_
      refine wa_getR 94 hC (vs10 hVC) (sr10_2 _) flX10_16 dX10_keeps_91 rfl ?_
      refine wa_sipush 97 hC dX10_keeps_94 ks_1588 rfl ?_
      refine wa_aload_n 98 0 hC dX10_keeps_97 rfl 0 rfl rfl ?_
      refine wa_getIr 101 hC (vs10 hVC) sh10_5 rfl flX10_66 dX10_keeps_98 rfl ?_
      refine wa_imul 102 hC dX10_keeps_101 rfl ?_
      refine wa_iload_n 103 1 hC dX10_keeps_102 rfl 1 rfl rfl ?_
      refine wa_iadd 104 hC dX10_keeps_103 rfl ?_
      refine wa_aload_n 105 0 hC dX10_keeps_104 rfl 0 rfl rfl ?_
      refine wa_getR 108 hC (vs10 hVC) (sr10_0 _) flX10_7 dX10_keeps_105 rfl ?_
      refine wa_iload_n 109 1 hC dX10_keeps_108 rfl 1 rfl rfl ?_
      obtain ⟨g_1, h⟩ := gd_some h
      refine wa_ialdr 110 hC (vs27 hVC) ar27 rfl g_1 dX10_keeps_109 rfl ?_
      obtain ⟨g_2, h⟩ := gd_some h
      obtain ⟨Z_3, eZ_3, h⟩ := ltb_some h
      refine wa_iastr 111 hC (vs29 hVC) nk29 ar29 rfl g_2 eZ_3 dX10_keeps_110 rfl ?_
      obtain ⟨x1_4, ex1_4, h⟩ := ltb_some h
      refine wa_iinc (lv' := [(1, .int x1_4), (0, .ref (ρ 10 0))]) 114 1 hC dX10_keeps_111 1 rfl (by rw [kc_1]; exact ex1_4) (by decide) rfl rfl ?_
      refine wa_goto 83 hC dX10_keeps_114 rfl ?_
      refine wa_pick [1, 0] rfl ?_
      exact ih x1_4 Z_3 h
set_option maxRecDepth 20000 in
theorem wX10_keeps_L119 {E : eU} {G : gU} {ρ : Nat → Nat → Nat} {V : Nat → Nat → Prop} {A : sM} {Z' : sM} {k153 : sM → Option (sM)} (hC : CX E G cX10_keeps 2 RX10 none 1 0 0) (hVC : VC V) (hk153 : ∀ (Z : sM), k153 Z = some Z' → WA E G ρ V 0 0 (J A Z) 153 [(0, .ref (ρ 10 0))] []) : ∀ (n : Nat) (x1 : Int32) (Z : sM), fX10_keeps_L119 k153 n x1 Z = some Z' → WA E G ρ V 0 0 (J A Z) 119 [(0, .ref (ρ 10 0)), (1, .int x1)] [] := by
  intro n
  induction n with
  | zero =>
    intro x1 Z h
    rw [fX10_keeps_L119] at h
    cases h
  | succ n ih =>
    intro x1 Z h
    rw [fX10_keeps_L119] at h
    refine wa_iload_n 120 1 hC dX10_keeps_119 rfl 1 rfl rfl ?_
    refine wa_sipush 123 hC dX10_keeps_120 ks_1058 rfl ?_
    refine wa_icmp_ge 126 153 hC dX10_keeps_123 rfl rfl h (fun h => ?_) (fun h => ?_)
    · refine wa_pick [0] rfl ?_
      exact hk153 Z h
    · refine wa_aload_n 127 0 hC dX10_keeps_126 rfl 0 rfl rfl ?_
      refine wa_getR 130 hC (vs10 hVC) (sr10_4 _) flX10_23 dX10_keeps_127 rfl ?_
      refine wa_sipush 133 hC dX10_keeps_130 ks_1058 rfl ?_
      refine wa_aload_n 134 0 hC dX10_keeps_133 rfl 0 rfl rfl ?_
      refine wa_getIr 137 hC (vs10 hVC) sh10_5 rfl flX10_66 dX10_keeps_134 rfl ?_
      refine wa_imul 138 hC dX10_keeps_137 rfl ?_
      refine wa_iload_n 139 1 hC dX10_keeps_138 rfl 1 rfl rfl ?_
      refine wa_iadd 140 hC dX10_keeps_139 rfl ?_
      refine wa_aload_n 141 0 hC dX10_keeps_140 rfl 0 rfl rfl ?_
      refine wa_getR 144 hC (vs10 hVC) (sr10_3 _) flX10_19 dX10_keeps_141 rfl ?_
      refine wa_iload_n 145 1 hC dX10_keeps_144 rfl 1 rfl rfl ?_
      obtain ⟨g_1, h⟩ := gd_some h
      refine wa_laldr 146 hC (vs30 hVC) ar30 rfl g_1 dX10_keeps_145 rfl ?_
      obtain ⟨g_2, h⟩ := gd_some h
      obtain ⟨Z_3, eZ_3, h⟩ := ltb_some h
      refine wa_lastr 147 hC (vs31 hVC) ar31 rfl g_2 eZ_3 dX10_keeps_146 rfl ?_
      obtain ⟨x1_4, ex1_4, h⟩ := ltb_some h
      refine wa_iinc (lv' := [(1, .int x1_4), (0, .ref (ρ 10 0))]) 150 1 hC dX10_keeps_147 1 rfl (by rw [kc_1]; exact ex1_4) (by decide) rfl rfl ?_
      refine wa_goto 119 hC dX10_keeps_150 rfl ?_
      refine wa_pick [1, 0] rfl ?_
      exact ih x1_4 Z_3 h
set_option maxRecDepth 20000 in
theorem wX10_keeps_L11 {E : eU} {G : gU} {ρ : Nat → Nat → Nat} {V : Nat → Nat → Prop} {A : sM} {Z' : sM} {k40 : sM → Option (sM)} (hC : CX E G cX10_keeps 2 RX10 none 1 0 0) (hVC : VC V) (hk40 : ∀ (Z : sM), k40 Z = some Z' → WA E G ρ V 0 0 (J A Z) 40 [(0, .ref (ρ 10 0))] []) : ∀ (n : Nat) (x1 : Int32) (Z : sM), fX10_keeps_L11 k40 n x1 Z = some Z' → WA E G ρ V 0 0 (J A Z) 11 [(0, .ref (ρ 10 0)), (1, .int x1)] [] := by
  intro n
  induction n with
  | zero =>
    intro x1 Z h
    rw [fX10_keeps_L11] at h
    cases h
  | succ n ih =>
    intro x1 Z h
    rw [fX10_keeps_L11] at h
    refine wa_iload_n 12 1 hC dX10_keeps_11 rfl 1 rfl rfl ?_
    refine wa_sipush 15 hC dX10_keeps_12 ks_7940 rfl ?_
    refine wa_icmp_ge 18 40 hC dX10_keeps_15 rfl rfl h (fun h => ?_) (fun h => ?_)
    · refine wa_pick [0] rfl ?_
      exact hk40 Z h
    · refine wa_aload_n 19 0 hC dX10_keeps_18 rfl 0 rfl rfl ?_
      refine wa_getR 22 hC (vs10 hVC) (sr10_2 _) flX10_16 dX10_keeps_19 rfl ?_
      refine wa_iload_n 23 1 hC dX10_keeps_22 rfl 1 rfl rfl ?_
      refine wa_aload_n 24 0 hC dX10_keeps_23 rfl 0 rfl rfl ?_
      refine wa_getR 27 hC (vs10 hVC) (sr10_2 _) flX10_16 dX10_keeps_24 rfl ?_
      refine wa_iload_n 28 1 hC dX10_keeps_27 rfl 1 rfl rfl ?_
      refine wa_sipush 31 hC dX10_keeps_28 ks_1588 rfl ?_
      refine wa_iadd 32 hC dX10_keeps_31 rfl ?_
      obtain ⟨g_1, h⟩ := gd_some h
      refine wa_ialdr 33 hC (vs29 hVC) ar29 rfl g_1 dX10_keeps_32 rfl ?_
      obtain ⟨g_2, h⟩ := gd_some h
      obtain ⟨Z_3, eZ_3, h⟩ := ltb_some h
      refine wa_iastr 34 hC (vs29 hVC) nk29 ar29 rfl g_2 eZ_3 dX10_keeps_33 rfl ?_
      obtain ⟨x1_4, ex1_4, h⟩ := ltb_some h
      refine wa_iinc (lv' := [(1, .int x1_4), (0, .ref (ρ 10 0))]) 37 1 hC dX10_keeps_34 1 rfl (by rw [kc_1]; exact ex1_4) (by decide) rfl rfl ?_
      refine wa_goto 11 hC dX10_keeps_37 rfl ?_
      refine wa_pick [1, 0] rfl ?_
      exact ih x1_4 Z_3 h
set_option maxRecDepth 20000 in
theorem wX10_keeps_L42 {E : eU} {G : gU} {ρ : Nat → Nat → Nat} {V : Nat → Nat → Prop} {A : sM} {Z' : sM} {k71 : sM → Option (sM)} (hC : CX E G cX10_keeps 2 RX10 none 1 0 0) (hVC : VC V) (hk71 : ∀ (Z : sM), k71 Z = some Z' → WA E G ρ V 0 0 (J A Z) 71 [(0, .ref (ρ 10 0))] []) : ∀ (n : Nat) (x1 : Int32) (Z : sM), fX10_keeps_L42 k71 n x1 Z = some Z' → WA E G ρ V 0 0 (J A Z) 42 [(0, .ref (ρ 10 0)), (1, .int x1)] [] := by
  intro n
  induction n with
  | zero =>
    intro x1 Z h
    rw [fX10_keeps_L42] at h
    cases h
  | succ n ih =>
    intro x1 Z h
    rw [fX10_keeps_L42] at h
    refine wa_iload_n 43 1 hC dX10_keeps_42 rfl 1 rfl rfl ?_
    refine wa_sipush 46 hC dX10_keeps_43 ks_5290 rfl ?_
    refine wa_icmp_ge 49 71 hC dX10_keeps_46 rfl rfl h (fun h => ?_) (fun h => ?_)
    · refine wa_pick [0] rfl ?_
      exact hk71 Z h
    · refine wa_aload_n 50 0 hC dX10_keeps_49 rfl 0 rfl rfl ?_
      refine wa_getR 53 hC (vs10 hVC) (sr10_4 _) flX10_23 dX10_keeps_50 rfl ?_
      refine wa_iload_n 54 1 hC dX10_keeps_53 rfl 1 rfl rfl ?_
      refine wa_aload_n 55 0 hC dX10_keeps_54 rfl 0 rfl rfl ?_
      refine wa_getR 58 hC (vs10 hVC) (sr10_4 _) flX10_23 dX10_keeps_55 rfl ?_
      refine wa_iload_n 59 1 hC dX10_keeps_58 rfl 1 rfl rfl ?_
      refine wa_sipush 62 hC dX10_keeps_59 ks_1058 rfl ?_
      refine wa_iadd 63 hC dX10_keeps_62 rfl ?_
      obtain ⟨g_1, h⟩ := gd_some h
      refine wa_laldr 64 hC (vs31 hVC) ar31 rfl g_1 dX10_keeps_63 rfl ?_
      obtain ⟨g_2, h⟩ := gd_some h
      obtain ⟨Z_3, eZ_3, h⟩ := ltb_some h
      refine wa_lastr 65 hC (vs31 hVC) ar31 rfl g_2 eZ_3 dX10_keeps_64 rfl ?_
      obtain ⟨x1_4, ex1_4, h⟩ := ltb_some h
      refine wa_iinc (lv' := [(1, .int x1_4), (0, .ref (ρ 10 0))]) 68 1 hC dX10_keeps_65 1 rfl (by rw [kc_1]; exact ex1_4) (by decide) rfl rfl ?_
      refine wa_goto 42 hC dX10_keeps_68 rfl ?_
      refine wa_pick [1, 0] rfl ?_
      exact ih x1_4 Z_3 h
set_option maxRecDepth 20000 in
theorem tX10_keeps (l : Launch) {G : gU} {ρ : Nat → Nat → Nat} {V : Nat → Nat → Prop} {A : sM} (Z : sM) (_ : VC V) {Z' : sM} (h : fX10_keeps Z = some Z') : MT l yX10_keeps cX10_keeps 2 none 1 G ρ V [.ref (ρ 10 0)] (J A Z) none (J A Z') := by
  refine vv_enter (lv := [(0, .ref (ρ 10 0))]) RX10 rfl (by decide) (Nat.le_of_ble_eq_true rfl) rfl ?_
  intro E hE hC hQ hVC
  subst hE
  rw [fX10_keeps] at h
  refine wa_aload_n 1 0 hC dX10_keeps_0 rfl 0 rfl rfl ?_
  refine wa_getIr 4 hC (vs10 hVC) sh10_5 rfl flX10_66 dX10_keeps_1 rfl ?_
  refine wa_bipush 6 hC dX10_keeps_4 kb_6 rfl ?_
  obtain ⟨kj_2, ekj_2, h⟩ := ltb_k1 h
  have hkj_2 : ∀ (Z_1 : sM), kj_2 Z_1 = some Z' → WA E G ρ V 0 0 (J A Z_1) 81 [(0, .ref (ρ 10 0))] [] := by
    intro Z_1 h
    rw [ekj_2] at h
    refine wa_iconst 82 hC dX10_keeps_81 kc_0 rfl ?_
    refine wa_istore_n (lv' := [(1, .int (0 : Int32)), (0, .ref (ρ 10 0))]) 83 1 hC dX10_keeps_82 rfl rfl (by decide) rfl rfl ?_
    refine wa_pick [1, 0] rfl ?_
    refine wX10_keeps_L83 hC hVC (fun Z_3 h => ?_) 10000 (0 : Int32) Z_1 h
    refine wa_iconst 118 hC dX10_keeps_117 kc_0 rfl ?_
    refine wa_istore_n (lv' := [(1, .int (0 : Int32)), (0, .ref (ρ 10 0))]) 119 1 hC dX10_keeps_118 rfl rfl (by decide) rfl rfl ?_
    refine wa_pick [1, 0] rfl ?_
    refine wX10_keeps_L119 hC hVC (fun Z_4 h => ?_) 10000 (0 : Int32) Z_3 h
    refine wa_aload_n 154 0 hC dX10_keeps_153 rfl 0 rfl rfl ?_
    refine wa_dup 155 hC dX10_keeps_154 rfl rfl ?_
    refine wa_getIr 158 hC (vs10 hVC) sh10_5 rfl flX10_66 dX10_keeps_155 rfl ?_
    refine wa_iconst 159 hC dX10_keeps_158 kc_1 rfl ?_
    refine wa_iadd 160 hC dX10_keeps_159 rfl ?_
    obtain ⟨Z_5, eZ_5, h⟩ := ltb_some h
    refine wa_putIr 163 hC (vs10 hVC) nk10 eZ_5 sh10_5 rfl fpX10_66 dX10_keeps_160 rfl ?_
    exact wa_vret hC hQ (jZ (sm0 h)) dX10_keeps_163
  clear ekj_2
  refine wa_icmp_ne 9 81 hC dX10_keeps_6 rfl rfl h (fun h => ?_) (fun h => ?_)
  · exact hkj_2 Z h
  · refine wa_iconst 10 hC dX10_keeps_9 kc_0 rfl ?_
    refine wa_istore_n (lv' := [(1, .int (0 : Int32)), (0, .ref (ρ 10 0))]) 11 1 hC dX10_keeps_10 rfl rfl (by decide) rfl rfl ?_
    refine wa_pick [1, 0] rfl ?_
    refine wX10_keeps_L11 hC hVC (fun Z_6 h => ?_) 10000 (0 : Int32) Z h
    refine wa_iconst 41 hC dX10_keeps_40 kc_0 rfl ?_
    refine wa_istore_n (lv' := [(1, .int (0 : Int32)), (0, .ref (ρ 10 0))]) 42 1 hC dX10_keeps_41 rfl rfl (by decide) rfl rfl ?_
    refine wa_pick [1, 0] rfl ?_
    refine wX10_keeps_L42 hC hVC (fun Z_7 h => ?_) 10000 (0 : Int32) Z_6 h
    refine wa_aload_n 72 0 hC dX10_keeps_71 rfl 0 rfl rfl ?_
    refine wa_dup 73 hC dX10_keeps_72 rfl rfl ?_
    refine wa_getIr 76 hC (vs10 hVC) sh10_5 rfl flX10_66 dX10_keeps_73 rfl ?_
    refine wa_iconst 77 hC dX10_keeps_76 kc_1 rfl ?_
    refine wa_isub 78 hC dX10_keeps_77 rfl ?_
    obtain ⟨Z_8, eZ_8, h⟩ := ltb_some h
    refine wa_putIr 81 hC (vs10 hVC) nk10 eZ_8 sh10_5 rfl fpX10_66 dX10_keeps_78 rfl ?_
    exact hkj_2 Z_8 h
set_option maxRecDepth 20000 in
theorem wX10_undo_L37 {E : eU} {G : gU} {ρ : Nat → Nat → Nat} {V : Nat → Nat → Prop} {A : sM} {r : Int32} {Z' : sM} {k71 : sM → Option (Int32 × sM)} (hC : CX E G cX10_undo 2 RX10 (some .int) 1 0 0) (hVC : VC V) (hk71 : ∀ (Z : sM), k71 Z = some (r, Z') → WA E G ρ V 0 0 (J A Z) 71 [(0, .ref (ρ 10 0))] []) : ∀ (n : Nat) (x1 : Int32) (Z : sM), fX10_undo_L37 k71 n x1 Z = some (r, Z') → WA E G ρ V 0 0 (J A Z) 37 [(0, .ref (ρ 10 0)), (1, .int x1)] [] := by
  intro n
  induction n with
  | zero =>
    intro x1 Z h
    rw [fX10_undo_L37] at h
    cases h
  | succ n ih =>
    intro x1 Z h
    rw [fX10_undo_L37] at h
    refine wa_iload_n 38 1 hC dX10_undo_37 rfl 1 rfl rfl ?_
    refine wa_sipush 41 hC dX10_undo_38 ks_1588 rfl ?_
    refine wa_icmp_ge 44 71 hC dX10_undo_41 rfl rfl h (fun h => ?_) (fun h => ?_)
    · refine wa_pick [0] rfl ?_
      exact hk71 Z h
    · refine wa_aload_n 45 0 hC dX10_undo_44 rfl 0 rfl rfl ?_
      refine wa_getR 48 hC (vs10 hVC) (sr10_0 _) flX10_7 dX10_undo_45 rfl ?_
      refine wa_iload_n 49 1 hC dX10_undo_48 rfl 1 rfl rfl ?_
      refine wa_aload_n 50 0 hC dX10_undo_49 rfl 0 rfl rfl ?_
      refine wa_getR 53 hC (vs10 hVC) (sr10_2 _) flX10_16 dX10_undo_50 rfl ?_
      refine wa_sipush 56 hC dX10_undo_53 ks_1588 rfl ?_
      refine wa_aload_n 57 0 hC dX10_undo_56 rfl 0 rfl rfl ?_
      refine wa_getIr 60 hC (vs10 hVC) sh10_5 rfl flX10_66 dX10_undo_57 rfl ?_
      refine wa_imul 61 hC dX10_undo_60 rfl ?_
      refine wa_iload_n 62 1 hC dX10_undo_61 rfl 1 rfl rfl ?_
      refine wa_iadd 63 hC dX10_undo_62 rfl ?_
      obtain ⟨g_1, h⟩ := gd_some h
      refine wa_ialdr 64 hC (vs29 hVC) ar29 rfl g_1 dX10_undo_63 rfl ?_
      obtain ⟨g_2, h⟩ := gd_some h
      obtain ⟨Z_3, eZ_3, h⟩ := ltb_some h
      refine wa_iastr 65 hC (vs27 hVC) nk27 ar27 rfl g_2 eZ_3 dX10_undo_64 rfl ?_
      obtain ⟨x1_4, ex1_4, h⟩ := ltb_some h
      refine wa_iinc (lv' := [(1, .int x1_4), (0, .ref (ρ 10 0))]) 68 1 hC dX10_undo_65 1 rfl (by rw [kc_1]; exact ex1_4) (by decide) rfl rfl ?_
      refine wa_goto 37 hC dX10_undo_68 rfl ?_
      refine wa_pick [1, 0] rfl ?_
      exact ih x1_4 Z_3 h
set_option maxRecDepth 20000 in
theorem wX10_undo_L73 {E : eU} {G : gU} {ρ : Nat → Nat → Nat} {V : Nat → Nat → Prop} {A : sM} {r : Int32} {Z' : sM} {k107 : sM → Option (Int32 × sM)} (hC : CX E G cX10_undo 2 RX10 (some .int) 1 0 0) (hVC : VC V) (hk107 : ∀ (Z : sM), k107 Z = some (r, Z') → WA E G ρ V 0 0 (J A Z) 107 [(0, .ref (ρ 10 0))] []) : ∀ (n : Nat) (x1 : Int32) (Z : sM), fX10_undo_L73 k107 n x1 Z = some (r, Z') → WA E G ρ V 0 0 (J A Z) 73 [(0, .ref (ρ 10 0)), (1, .int x1)] [] := by
  intro n
  induction n with
  | zero =>
    intro x1 Z h
    rw [fX10_undo_L73] at h
    cases h
  | succ n ih =>
    intro x1 Z h
    rw [fX10_undo_L73] at h
    refine wa_iload_n 74 1 hC dX10_undo_73 rfl 1 rfl rfl ?_
    refine wa_sipush 77 hC dX10_undo_74 ks_1058 rfl ?_
    refine wa_icmp_ge 80 107 hC dX10_undo_77 rfl rfl h (fun h => ?_) (fun h => ?_)
    · refine wa_pick [0] rfl ?_
      exact hk107 Z h
    · refine wa_aload_n 81 0 hC dX10_undo_80 rfl 0 rfl rfl ?_
      refine wa_getR 84 hC (vs10 hVC) (sr10_3 _) flX10_19 dX10_undo_81 rfl ?_
      refine wa_iload_n 85 1 hC dX10_undo_84 rfl 1 rfl rfl ?_
      refine wa_aload_n 86 0 hC dX10_undo_85 rfl 0 rfl rfl ?_
      refine wa_getR 89 hC (vs10 hVC) (sr10_4 _) flX10_23 dX10_undo_86 rfl ?_
      refine wa_sipush 92 hC dX10_undo_89 ks_1058 rfl ?_
      refine wa_aload_n 93 0 hC dX10_undo_92 rfl 0 rfl rfl ?_
      refine wa_getIr 96 hC (vs10 hVC) sh10_5 rfl flX10_66 dX10_undo_93 rfl ?_
      refine wa_imul 97 hC dX10_undo_96 rfl ?_
      refine wa_iload_n 98 1 hC dX10_undo_97 rfl 1 rfl rfl ?_
      refine wa_iadd 99 hC dX10_undo_98 rfl ?_
      obtain ⟨g_1, h⟩ := gd_some h
      refine wa_laldr 100 hC (vs31 hVC) ar31 rfl g_1 dX10_undo_99 rfl ?_
      obtain ⟨g_2, h⟩ := gd_some h
      obtain ⟨Z_3, eZ_3, h⟩ := ltb_some h
      refine wa_lastr 101 hC (vs30 hVC) ar30 rfl g_2 eZ_3 dX10_undo_100 rfl ?_
      obtain ⟨x1_4, ex1_4, h⟩ := ltb_some h
      refine wa_iinc (lv' := [(1, .int x1_4), (0, .ref (ρ 10 0))]) 104 1 hC dX10_undo_101 1 rfl (by rw [kc_1]; exact ex1_4) (by decide) rfl rfl ?_
      refine wa_goto 73 hC dX10_undo_104 rfl ?_
      refine wa_pick [1, 0] rfl ?_
      exact ih x1_4 Z_3 h
set_option maxRecDepth 20000 in
theorem tX10_undo (l : Launch) {G : gU} {ρ : Nat → Nat → Nat} {V : Nat → Nat → Prop} {A : sM} (Z : sM) (_ : VC V) {r : Int32} {Z' : sM} (h : fX10_undo Z = some (r, Z')) : MT l yX10_undo cX10_undo 2 (some .int) 1 G ρ V [.ref (ρ 10 0)] (J A Z) (some (.int r)) (J A Z') := by
  refine vv_enter (lv := [(0, .ref (ρ 10 0))]) RX10 rfl (by decide) (Nat.le_of_ble_eq_true rfl) rfl ?_
  intro E hE hC hQ hVC
  subst hE
  rw [fX10_undo] at h
  refine wa_aload_n 1 0 hC dX10_undo_0 rfl 0 rfl rfl ?_
  refine wa_aload_n 2 0 hC dX10_undo_1 rfl 0 rfl rfl ?_
  refine wa_getIr 5 hC (vs10 hVC) sh10_5 rfl flX10_66 dX10_undo_2 rfl ?_
  obtain ⟨kj_2, ekj_2, h⟩ := ltb_k1 h
  have hkj_2 : ∀ (v_1 : Int32), kj_2 v_1 = some (r, Z') → WA E G ρ V 0 0 (J A Z) 13 [(0, .ref (ρ 10 0))] [.int v_1, .ref (ρ 10 0)] := by
    intro v_1 h
    rw [ekj_2] at h
    obtain ⟨Z_3, eZ_3, h⟩ := ltb_some h
    refine wa_putIr 16 hC (vs10 hVC) nk10 eZ_3 sh10_6 rfl fpX10_63 dX10_undo_13 rfl ?_
    refine wa_aload_n 17 0 hC dX10_undo_16 rfl 0 rfl rfl ?_
    refine wa_getIr 20 hC (vs10 hVC) sh10_6 rfl flX10_63 dX10_undo_17 rfl ?_
    refine wa_if_le 23 25 hC dX10_undo_20 rfl rfl h (fun h => ?_) (fun h => ?_)
    · refine wa_aload_n 26 0 hC dX10_undo_25 rfl 0 rfl rfl ?_
      refine wa_dup 27 hC dX10_undo_26 rfl rfl ?_
      refine wa_getIr 30 hC (vs10 hVC) sh10_5 rfl flX10_66 dX10_undo_27 rfl ?_
      refine wa_iconst 31 hC dX10_undo_30 kc_1 rfl ?_
      refine wa_isub 32 hC dX10_undo_31 rfl ?_
      obtain ⟨Z_4, eZ_4, h⟩ := ltb_some h
      refine wa_putIr 35 hC (vs10 hVC) nk10 eZ_4 sh10_5 rfl fpX10_66 dX10_undo_32 rfl ?_
      refine wa_iconst 36 hC dX10_undo_35 kc_0 rfl ?_
      refine wa_istore_n (lv' := [(1, .int (0 : Int32)), (0, .ref (ρ 10 0))]) 37 1 hC dX10_undo_36 rfl rfl (by decide) rfl rfl ?_
      refine wa_pick [1, 0] rfl ?_
      refine wX10_undo_L37 hC hVC (fun Z_5 h => ?_) 10000 (0 : Int32) Z_4 h
      refine wa_iconst 72 hC dX10_undo_71 kc_0 rfl ?_
      refine wa_istore_n (lv' := [(1, .int (0 : Int32)), (0, .ref (ρ 10 0))]) 73 1 hC dX10_undo_72 rfl rfl (by decide) rfl rfl ?_
      refine wa_pick [1, 0] rfl ?_
      refine wX10_undo_L73 hC hVC (fun Z_6 h => ?_) 10000 (0 : Int32) Z_5 h
      refine wa_aload_n 108 0 hC dX10_undo_107 rfl 0 rfl rfl ?_
      refine wa_getIr 111 hC (vs10 hVC) sh10_5 rfl flX10_66 dX10_undo_108 rfl ?_
      exact wa_iret hC hQ (sm1 h) (jZ (sm2 h)) dX10_undo_111
    · refine wa_iconst 24 hC dX10_undo_23 kc_0 rfl ?_
      exact wa_iret hC hQ (sm1 h) (jZ (sm2 h)) dX10_undo_24
  clear ekj_2
  refine wa_if_ne 8 12 hC dX10_undo_5 rfl rfl h (fun h => ?_) (fun h => ?_)
  · refine wa_iconst 13 hC dX10_undo_12 kc_0 rfl ?_
    exact hkj_2 (0 : Int32) h
  · refine wa_iconst 9 hC dX10_undo_8 kc_1 rfl ?_
    refine wa_goto 13 hC dX10_undo_9 rfl ?_
    exact hkj_2 (1 : Int32) h
set_option maxRecDepth 20000 in
theorem wX10_append_L34 {E : eU} {G : gU} {ρ : Nat → Nat → Nat} {V : Nat → Nat → Prop} {A : sM} {r : Int32} {Z' : sM} (x1 : Int32) (x2 : Int32) (x3 : Int32) (x4 : Int32) (x5 : Int32) {k131 : sM → Option (Int32 × sM)} (hC : CX E G cX10_append 8 RX10 (some .int) 1 0 0) (hVC : VC V) (hk131 : ∀ (Z : sM), k131 Z = some (r, Z') → WA E G ρ V 0 0 (J A Z) 131 [(0, .ref (ρ 10 0))] []) : ∀ (n : Nat) (x6 : Int32) (Z : sM), fX10_append_L34 x1 x2 x3 x4 x5 k131 n x6 Z = some (r, Z') → WA E G ρ V 0 0 (J A Z) 34 [(0, .ref (ρ 10 0)), (1, .int x1), (2, .int x2), (3, .int x3), (4, .int x4), (5, .int x5), (6, .int x6)] [] := by
  intro n
  induction n with
  | zero =>
    intro x6 Z h
    rw [fX10_append_L34] at h
    cases h
  | succ n ih =>
    intro x6 Z h
    rw [fX10_append_L34] at h
    refine wa_iload 36 6 hC dX10_append_34 6 rfl rfl ?_
    refine wa_bipush 38 hC dX10_append_36 kb_20 rfl ?_
    refine wa_icmp_ge 41 131 hC dX10_append_38 rfl rfl h (fun h => ?_) (fun h => ?_)
    · refine wa_pick [0] rfl ?_
      exact hk131 Z h
    · refine wa_iload 43 6 hC dX10_append_41 6 rfl rfl ?_
      refine wa_iconst 44 hC dX10_append_43 kc_4 rfl ?_
      obtain ⟨kj_2, ekj_2, h⟩ := ltb_k1 h
      have hkj_2 : ∀ (v_1 : Int32), kj_2 v_1 = some (r, Z') → WA E G ρ V 0 0 (J A Z) 87 [(0, .ref (ρ 10 0)), (1, .int x1), (2, .int x2), (3, .int x3), (4, .int x4), (5, .int x5), (6, .int x6)] [.int v_1] := by
        intro v_1 h
        rw [ekj_2] at h
        refine wa_istore (lv' := [(7, .int v_1), (0, .ref (ρ 10 0)), (1, .int x1), (2, .int x2), (3, .int x3), (4, .int x4), (5, .int x5), (6, .int x6)]) 89 7 hC dX10_append_87 rfl (by decide) rfl rfl ?_
        refine wa_aload_n 90 0 hC dX10_append_89 rfl 1 rfl rfl ?_
        refine wa_getR 93 hC (vs10 hVC) (sr10_7 _) flX10_26 dX10_append_90 rfl ?_
        refine wa_aload_n 94 0 hC dX10_append_93 rfl 1 rfl rfl ?_
        refine wa_getIr 97 hC (vs10 hVC) sh10_8 rfl flX10_69 dX10_append_94 rfl ?_
        refine wa_iload 99 7 hC dX10_append_97 0 rfl rfl ?_
        refine wa_bipush 101 hC dX10_append_99 kb_24 rfl ?_
        refine wa_bipush 103 hC dX10_append_101 kb_8 rfl ?_
        refine wa_iload 105 6 hC dX10_append_103 7 rfl rfl ?_
        refine wa_iconst 106 hC dX10_append_105 kc_4 rfl ?_
        refine wa_irem 107 hC dX10_append_106 (by decide) rfl ?_
        refine wa_imul 108 hC dX10_append_107 rfl ?_
        refine wa_isub 109 hC dX10_append_108 rfl ?_
        refine wa_ishr 110 hC dX10_append_109 rfl ?_
        refine wa_sipush 113 hC dX10_append_110 ks_255 rfl ?_
        refine wa_iand 114 hC dX10_append_113 rfl ?_
        obtain ⟨g_3, h⟩ := gd_some h
        obtain ⟨Z_4, eZ_4, h⟩ := ltb_some h
        refine wa_iastr 115 hC (vs32 hVC) nk32 ar32 rfl g_3 eZ_4 dX10_append_114 rfl ?_
        refine wa_aload_n 116 0 hC dX10_append_115 rfl 1 rfl rfl ?_
        refine wa_dup 117 hC dX10_append_116 rfl rfl ?_
        refine wa_getIr 120 hC (vs10 hVC) sh10_8 rfl flX10_69 dX10_append_117 rfl ?_
        refine wa_iconst 121 hC dX10_append_120 kc_1 rfl ?_
        refine wa_iadd 122 hC dX10_append_121 rfl ?_
        obtain ⟨Z_5, eZ_5, h⟩ := ltb_some h
        refine wa_putIr 125 hC (vs10 hVC) nk10 eZ_5 sh10_8 rfl fpX10_69 dX10_append_122 rfl ?_
        obtain ⟨x6_6, ex6_6, h⟩ := ltb_some h
        refine wa_iinc (lv' := [(6, .int x6_6), (7, .int v_1), (0, .ref (ρ 10 0)), (1, .int x1), (2, .int x2), (3, .int x3), (4, .int x4), (5, .int x5)]) 128 6 hC dX10_append_125 7 rfl (by rw [kc_1]; exact ex6_6) (by decide) rfl rfl ?_
        refine wa_goto 34 hC dX10_append_128 rfl ?_
        refine wa_pick [2, 3, 4, 5, 6, 7, 0] rfl ?_
        exact ih x6_6 Z_5 h
      clear ekj_2
      refine wa_icmp_ge 47 51 hC dX10_append_44 rfl rfl h (fun h => ?_) (fun h => ?_)
      · refine wa_iload 53 6 hC dX10_append_51 6 rfl rfl ?_
        refine wa_bipush 55 hC dX10_append_53 kb_8 rfl ?_
        refine wa_icmp_ge 58 62 hC dX10_append_55 rfl rfl h (fun h => ?_) (fun h => ?_)
        · refine wa_iload 64 6 hC dX10_append_62 6 rfl rfl ?_
          refine wa_bipush 66 hC dX10_append_64 kb_12 rfl ?_
          refine wa_icmp_ge 69 73 hC dX10_append_66 rfl rfl h (fun h => ?_) (fun h => ?_)
          · refine wa_iload 75 6 hC dX10_append_73 6 rfl rfl ?_
            refine wa_bipush 77 hC dX10_append_75 kb_16 rfl ?_
            refine wa_icmp_ge 80 85 hC dX10_append_77 rfl rfl h (fun h => ?_) (fun h => ?_)
            · refine wa_iload 87 5 hC dX10_append_85 5 rfl rfl ?_
              exact hkj_2 x5 h
            · refine wa_iload 82 4 hC dX10_append_80 4 rfl rfl ?_
              refine wa_goto 87 hC dX10_append_82 rfl ?_
              exact hkj_2 x4 h
          · refine wa_iload_n 70 3 hC dX10_append_69 rfl 3 rfl rfl ?_
            refine wa_goto 87 hC dX10_append_70 rfl ?_
            exact hkj_2 x3 h
        · refine wa_iload_n 59 2 hC dX10_append_58 rfl 2 rfl rfl ?_
          refine wa_goto 87 hC dX10_append_59 rfl ?_
          exact hkj_2 x2 h
      · refine wa_iload_n 48 1 hC dX10_append_47 rfl 1 rfl rfl ?_
        refine wa_goto 87 hC dX10_append_48 rfl ?_
        exact hkj_2 x1 h
set_option maxRecDepth 20000 in
theorem tX10_append (l : Launch) {G : gU} {ρ : Nat → Nat → Nat} {V : Nat → Nat → Prop} {A : sM} (x1 : Int32) (x2 : Int32) (x3 : Int32) (x4 : Int32) (x5 : Int32) (Z : sM) (_ : VC V) {r : Int32} {Z' : sM} (h : fX10_append x1 x2 x3 x4 x5 Z = some (r, Z')) : MT l yX10_append cX10_append 8 (some .int) 1 G ρ V [.ref (ρ 10 0), .int x1, .int x2, .int x3, .int x4, .int x5] (J A Z) (some (.int r)) (J A Z') := by
  refine vv_enter (lv := [(0, .ref (ρ 10 0)), (1, .int x1), (2, .int x2), (3, .int x3), (4, .int x4), (5, .int x5)]) RX10 rfl (by decide) (Nat.le_of_ble_eq_true rfl) rfl ?_
  intro E hE hC hQ hVC
  subst hE
  rw [fX10_append] at h
  refine wa_aload_n 1 0 hC dX10_append_0 rfl 0 rfl rfl ?_
  refine wa_aload_n 2 0 hC dX10_append_1 rfl 0 rfl rfl ?_
  refine wa_getIr 5 hC (vs10 hVC) sh10_8 rfl flX10_69 dX10_append_2 rfl ?_
  refine wa_bipush 7 hC dX10_append_5 kb_20 rfl ?_
  refine wa_iadd 8 hC dX10_append_7 rfl ?_
  refine wa_sipush 11 hC dX10_append_8 ks_300 rfl ?_
  obtain ⟨kj_2, ekj_2, h⟩ := ltb_k1 h
  have hkj_2 : ∀ (v_1 : Int32), kj_2 v_1 = some (r, Z') → WA E G ρ V 0 0 (J A Z) 19 [(0, .ref (ρ 10 0)), (1, .int x1), (2, .int x2), (3, .int x3), (4, .int x4), (5, .int x5)] [.int v_1, .ref (ρ 10 0)] := by
    intro v_1 h
    rw [ekj_2] at h
    obtain ⟨Z_3, eZ_3, h⟩ := ltb_some h
    refine wa_putIr 22 hC (vs10 hVC) nk10 eZ_3 sh10_6 rfl fpX10_63 dX10_append_19 rfl ?_
    refine wa_aload_n 23 0 hC dX10_append_22 rfl 0 rfl rfl ?_
    refine wa_getIr 26 hC (vs10 hVC) sh10_6 rfl flX10_63 dX10_append_23 rfl ?_
    refine wa_if_le 29 31 hC dX10_append_26 rfl rfl h (fun h => ?_) (fun h => ?_)
    · refine wa_iconst 32 hC dX10_append_31 kc_0 rfl ?_
      refine wa_istore (lv' := [(6, .int (0 : Int32)), (0, .ref (ρ 10 0)), (1, .int x1), (2, .int x2), (3, .int x3), (4, .int x4), (5, .int x5)]) 34 6 hC dX10_append_32 rfl (by decide) rfl rfl ?_
      refine wa_pick [1, 2, 3, 4, 5, 6, 0] rfl ?_
      refine wX10_append_L34 x1 x2 x3 x4 x5 hC hVC (fun Z_4 h => ?_) 10000 (0 : Int32) Z_3 h
      refine wa_aload_n 132 0 hC dX10_append_131 rfl 0 rfl rfl ?_
      refine wa_getIr 135 hC (vs10 hVC) sh10_8 rfl flX10_69 dX10_append_132 rfl ?_
      exact wa_iret hC hQ (sm1 h) (jZ (sm2 h)) dX10_append_135
    · refine wa_iconst 30 hC dX10_append_29 kc_0 rfl ?_
      exact wa_iret hC hQ (sm1 h) (jZ (sm2 h)) dX10_append_30
  clear ekj_2
  refine wa_icmp_le 14 18 hC dX10_append_11 rfl rfl h (fun h => ?_) (fun h => ?_)
  · refine wa_iconst 19 hC dX10_append_18 kc_0 rfl ?_
    exact hkj_2 (0 : Int32) h
  · refine wa_iconst 15 hC dX10_append_14 kc_1 rfl ?_
    refine wa_goto 19 hC dX10_append_15 rfl ?_
    exact hkj_2 (1 : Int32) h
set_option maxRecDepth 20000 in
theorem tX10_see (l : Launch) {G : gU} {ρ : Nat → Nat → Nat} {V : Nat → Nat → Prop} {A : sM} (x1 : Int32) (Z : sM) (_ : VC V) {r : Int32} (h : fX10_see x1 Z = some r) : MT l yX10_see cX10_see 2 (some .int) 1 G ρ V [.ref (ρ 10 0), .int x1] (J A Z) (some (.int r)) (J A Z) := by
  refine vv_enter (lv := [(0, .ref (ρ 10 0)), (1, .int x1)]) RX10 rfl (by decide) (Nat.le_of_ble_eq_true rfl) rfl ?_
  intro E hE hC hQ hVC
  subst hE
  rw [fX10_see] at h
  refine wa_iload_n 1 1 hC dX10_see_0 rfl 1 rfl rfl ?_
  refine wa_aload_n 2 0 hC dX10_see_1 rfl 0 rfl rfl ?_
  refine wa_getIr 5 hC (vs10 hVC) sh10_9 rfl flX10_72 dX10_see_2 rfl ?_
  refine wa_icmp_ge 8 17 hC dX10_see_5 rfl rfl h (fun h => ?_) (fun h => ?_)
  · refine wa_iconst 18 hC dX10_see_17 kc_m1 rfl ?_
    exact wa_iret hC hQ (sm0 h) rfl dX10_see_18
  · refine wa_aload_n 9 0 hC dX10_see_8 rfl 0 rfl rfl ?_
    refine wa_getR 12 hC (vs10 hVC) (sr10_7 _) flX10_26 dX10_see_9 rfl ?_
    refine wa_iload_n 13 1 hC dX10_see_12 rfl 1 rfl rfl ?_
    obtain ⟨g_1, h⟩ := gd_some h
    refine wa_ialdr 14 hC (vs32 hVC) ar32 rfl g_1 dX10_see_13 rfl ?_
    refine wa_goto 18 hC dX10_see_14 rfl ?_
    exact wa_iret hC hQ (sm0 h) rfl dX10_see_18
set_option maxRecDepth 20000 in
theorem wX10_wordAt_L15 {E : eU} {G : gU} {ρ : Nat → Nat → Nat} {V : Nat → Nat → Prop} {A : sM} {r : Int32} (x1 : Int32) (x2 : Int32) (Z : sM) {k69 : Int32 → Option (Int32)} (hC : CX E G cX10_wordAt 4 RX10 (some .int) 6 0 0) (hVC : VC V) (hk69 : ∀ (x3 : Int32), k69 x3 = some r → WA E G ρ V 0 0 (J A Z) 69 [(0, .ref (ρ 10 0)), (1, .int x1), (2, .int x2), (3, .int x3)] []) : ∀ (n : Nat) (x3 : Int32), fX10_wordAt_L15 x1 x2 Z k69 n x3 = some r → WA E G ρ V 0 0 (J A Z) 15 [(0, .ref (ρ 10 0)), (1, .int x1), (2, .int x2), (3, .int x3)] [] := by
  intro n
  induction n with
  | zero =>
    intro x3 h
    rw [fX10_wordAt_L15] at h
    cases h
  | succ n ih =>
    intro x3 h
    rw [fX10_wordAt_L15] at h
    refine wa_ldcs 17 50 hC dX10_wordAt_15 (by decide) rfl rfl rfl ?_
    refine wa_iload_n 18 2 hC dX10_wordAt_17 rfl 2 rfl rfl ?_
    refine wa_iload_n 19 3 hC dX10_wordAt_18 rfl 3 rfl rfl ?_
    refine wa_iadd 20 hC dX10_wordAt_19 rfl ?_
    obtain ⟨g_1, h⟩ := gd_some h
    refine wa_schar 23 hC stX10_83 (by decide) g_1 (by decide) (Nat.le_of_ble_eq_true rfl) dX10_wordAt_20 rfl le00 ?_
    refine wa_bipush 25 hC dX10_wordAt_23 kb_32 rfl ?_
    refine wa_icmp_eq 28 69 hC dX10_wordAt_25 rfl rfl h (fun h => ?_) (fun h => ?_)
    · exact hk69 x3 h
    · refine wa_aload_n 29 0 hC dX10_wordAt_28 rfl 0 rfl rfl ?_
      refine wa_getIr 32 hC (vs10 hVC) sh10_10 rfl flX10_87 dX10_wordAt_29 rfl ?_
      refine wa_iload_n 33 3 hC dX10_wordAt_32 rfl 3 rfl rfl ?_
      refine wa_iadd 34 hC dX10_wordAt_33 rfl ?_
      refine wa_aload_n 35 0 hC dX10_wordAt_34 rfl 0 rfl rfl ?_
      refine wa_getIr 38 hC (vs10 hVC) sh10_11 rfl flX10_90 dX10_wordAt_35 rfl ?_
      refine wa_icmp_ge 41 69 hC dX10_wordAt_38 rfl rfl h (fun h => ?_) (fun h => ?_)
      · exact hk69 x3 h
      · refine wa_aload_n 42 0 hC dX10_wordAt_41 rfl 0 rfl rfl ?_
        refine wa_getR 45 hC (vs10 hVC) (sr10_7 _) flX10_26 dX10_wordAt_42 rfl ?_
        refine wa_aload_n 46 0 hC dX10_wordAt_45 rfl 0 rfl rfl ?_
        refine wa_getIr 49 hC (vs10 hVC) sh10_10 rfl flX10_87 dX10_wordAt_46 rfl ?_
        refine wa_iload_n 50 3 hC dX10_wordAt_49 rfl 3 rfl rfl ?_
        refine wa_iadd 51 hC dX10_wordAt_50 rfl ?_
        obtain ⟨g_2, h⟩ := gd_some h
        refine wa_ialdr 52 hC (vs32 hVC) ar32 rfl g_2 dX10_wordAt_51 rfl ?_
        refine wa_ldcs 54 50 hC dX10_wordAt_52 (by decide) rfl rfl rfl ?_
        refine wa_iload_n 55 2 hC dX10_wordAt_54 rfl 2 rfl rfl ?_
        refine wa_iload_n 56 3 hC dX10_wordAt_55 rfl 3 rfl rfl ?_
        refine wa_iadd 57 hC dX10_wordAt_56 rfl ?_
        obtain ⟨g_3, h⟩ := gd_some h
        refine wa_schar 60 hC stX10_83 (by decide) g_3 (by decide) (Nat.le_of_ble_eq_true rfl) dX10_wordAt_57 rfl le00 ?_
        refine wa_icmp_ne 63 69 hC dX10_wordAt_60 rfl rfl h (fun h => ?_) (fun h => ?_)
        · exact hk69 x3 h
        · obtain ⟨x3_4, ex3_4, h⟩ := ltb_some h
          refine wa_iinc (lv' := [(3, .int x3_4), (0, .ref (ρ 10 0)), (1, .int x1), (2, .int x2)]) 66 3 hC dX10_wordAt_63 3 rfl (by rw [kc_1]; exact ex3_4) (by decide) rfl rfl ?_
          refine wa_goto 15 hC dX10_wordAt_66 rfl ?_
          refine wa_pick [1, 2, 3, 0] rfl ?_
          exact ih x3_4 h
set_option maxRecDepth 20000 in
theorem wX10_wordAt_L97 {E : eU} {G : gU} {ρ : Nat → Nat → Nat} {V : Nat → Nat → Prop} {A : sM} {r : Int32} (x1 : Int32) (Z : sM) {k114 : Int32 → Option (Int32)} (hC : CX E G cX10_wordAt 4 RX10 (some .int) 6 0 0) (hVC : VC V) (hk114 : ∀ (x2 : Int32), k114 x2 = some r → WA E G ρ V 0 0 (J A Z) 114 [(0, .ref (ρ 10 0)), (1, .int x1), (2, .int x2)] []) : ∀ (n : Nat) (x2 : Int32), fX10_wordAt_L97 x1 Z k114 n x2 = some r → WA E G ρ V 0 0 (J A Z) 97 [(0, .ref (ρ 10 0)), (1, .int x1), (2, .int x2)] [] := by
  intro n
  induction n with
  | zero =>
    intro x2 h
    rw [fX10_wordAt_L97] at h
    cases h
  | succ n ih =>
    intro x2 h
    rw [fX10_wordAt_L97] at h
    refine wa_ldcs 99 50 hC dX10_wordAt_97 (by decide) rfl rfl rfl ?_
    refine wa_iload_n 100 2 hC dX10_wordAt_99 rfl 2 rfl rfl ?_
    obtain ⟨g_1, h⟩ := gd_some h
    refine wa_schar 103 hC stX10_83 (by decide) g_1 (by decide) (Nat.le_of_ble_eq_true rfl) dX10_wordAt_100 rfl le00 ?_
    refine wa_bipush 105 hC dX10_wordAt_103 kb_32 rfl ?_
    refine wa_icmp_eq 108 114 hC dX10_wordAt_105 rfl rfl h (fun h => ?_) (fun h => ?_)
    · exact hk114 x2 h
    · obtain ⟨x2_2, ex2_2, h⟩ := ltb_some h
      refine wa_iinc (lv' := [(2, .int x2_2), (0, .ref (ρ 10 0)), (1, .int x1)]) 111 2 hC dX10_wordAt_108 2 rfl (by rw [kc_1]; exact ex2_2) (by decide) rfl rfl ?_
      refine wa_goto 97 hC dX10_wordAt_111 rfl ?_
      refine wa_pick [1, 2, 0] rfl ?_
      exact ih x2_2 h
set_option maxRecDepth 20000 in
theorem wX10_wordAt_L4 {E : eU} {G : gU} {ρ : Nat → Nat → Nat} {V : Nat → Nat → Prop} {A : sM} {r : Int32} (Z : sM) {k95 : Int32 → Option (Int32)} {k123 : Option (Int32)} (hC : CX E G cX10_wordAt 4 RX10 (some .int) 6 0 0) (hVC : VC V) (hk95 : ∀ (x1 : Int32), k95 x1 = some r → WA E G ρ V 0 0 (J A Z) 95 [(1, .int x1)] []) (hk123 : k123 = some r → WA E G ρ V 0 0 (J A Z) 123 [] []) : ∀ (n : Nat) (x1 : Int32) (x2 : Int32), fX10_wordAt_L4 Z k95 k123 n x1 x2 = some r → WA E G ρ V 0 0 (J A Z) 4 [(0, .ref (ρ 10 0)), (1, .int x1), (2, .int x2)] [] := by
  intro n
  induction n with
  | zero =>
    intro x1 x2 h
    rw [fX10_wordAt_L4] at h
    cases h
  | succ n ih =>
    intro x1 x2 h
    rw [fX10_wordAt_L4] at h
    refine wa_iload_n 5 2 hC dX10_wordAt_4 rfl 2 rfl rfl ?_
    refine wa_ldcs 7 50 hC dX10_wordAt_5 (by decide) rfl rfl rfl ?_
    refine wa_slen 10 hC stX10_77 (by decide) (by decide) (Nat.le_of_ble_eq_true rfl) dX10_wordAt_7 rfl le00 ?_
    refine wa_icmp_ge 13 123 hC dX10_wordAt_10 rfl rfl h (fun h => ?_) (fun h => ?_)
    · refine wa_pick [] rfl ?_
      exact hk123 h
    · refine wa_iconst 14 hC dX10_wordAt_13 kc_0 rfl ?_
      refine wa_istore_n (lv' := [(3, .int (0 : Int32)), (0, .ref (ρ 10 0)), (1, .int x1), (2, .int x2)]) 15 3 hC dX10_wordAt_14 rfl rfl (by decide) rfl rfl ?_
      refine wa_pick [1, 2, 3, 0] rfl ?_
      refine wX10_wordAt_L15 x1 x2 Z hC hVC (fun x3_1 h => ?_) 10000 (0 : Int32) h
      refine wa_ldcs 71 50 hC dX10_wordAt_69 (by decide) rfl rfl rfl ?_
      refine wa_iload_n 72 2 hC dX10_wordAt_71 rfl 2 rfl rfl ?_
      refine wa_iload_n 73 3 hC dX10_wordAt_72 rfl 3 rfl rfl ?_
      refine wa_iadd 74 hC dX10_wordAt_73 rfl ?_
      obtain ⟨g_2, h⟩ := gd_some h
      refine wa_schar 77 hC stX10_83 (by decide) g_2 (by decide) (Nat.le_of_ble_eq_true rfl) dX10_wordAt_74 rfl le00 ?_
      refine wa_bipush 79 hC dX10_wordAt_77 kb_32 rfl ?_
      obtain ⟨kj_3, ekj_3, h⟩ := ltb_some h
      have hkj_3 : kj_3 = some r → WA E G ρ V 0 0 (J A Z) 97 [(0, .ref (ρ 10 0)), (1, .int x1), (2, .int x2)] [] := by
        intro h
        rw [ekj_3] at h
        refine wX10_wordAt_L97 x1 Z hC hVC (fun x2_4 h => ?_) 10000 x2 h
        obtain ⟨x2_5, ex2_5, h⟩ := ltb_some h
        refine wa_iinc (lv' := [(2, .int x2_5), (0, .ref (ρ 10 0)), (1, .int x1)]) 117 2 hC dX10_wordAt_114 2 rfl (by rw [kc_1]; exact ex2_5) (by decide) rfl rfl ?_
        obtain ⟨x1_6, ex1_6, h⟩ := ltb_some h
        refine wa_iinc (lv' := [(1, .int x1_6), (2, .int x2_5), (0, .ref (ρ 10 0))]) 120 1 hC dX10_wordAt_117 2 rfl (by rw [kc_1]; exact ex1_6) (by decide) rfl rfl ?_
        refine wa_goto 4 hC dX10_wordAt_120 rfl ?_
        refine wa_pick [2, 0, 1] rfl ?_
        exact ih x1_6 x2_5 h
      clear ekj_3
      refine wa_icmp_ne 82 97 hC dX10_wordAt_79 rfl rfl h (fun h => ?_) (fun h => ?_)
      · refine wa_pick [0, 1, 2] rfl ?_
        exact hkj_3 h
      · refine wa_aload_n 83 0 hC dX10_wordAt_82 rfl 0 rfl rfl ?_
        refine wa_getIr 86 hC (vs10 hVC) sh10_10 rfl flX10_87 dX10_wordAt_83 rfl ?_
        refine wa_iload_n 87 3 hC dX10_wordAt_86 rfl 3 rfl rfl ?_
        refine wa_iadd 88 hC dX10_wordAt_87 rfl ?_
        refine wa_aload_n 89 0 hC dX10_wordAt_88 rfl 0 rfl rfl ?_
        refine wa_getIr 92 hC (vs10 hVC) sh10_11 rfl flX10_90 dX10_wordAt_89 rfl ?_
        refine wa_icmp_ne 95 97 hC dX10_wordAt_92 rfl rfl h (fun h => ?_) (fun h => ?_)
        · refine wa_pick [0, 1, 2] rfl ?_
          exact hkj_3 h
        · refine wa_pick [1] rfl ?_
          exact hk95 x1 h
set_option maxRecDepth 20000 in
theorem tX10_wordAt (l : Launch) {G : gU} {ρ : Nat → Nat → Nat} {V : Nat → Nat → Prop} {A : sM} (Z : sM) (_ : VC V) {r : Int32} (h : fX10_wordAt Z = some r) : MT l yX10_wordAt cX10_wordAt 4 (some .int) 6 G ρ V [.ref (ρ 10 0)] (J A Z) (some (.int r)) (J A Z) := by
  refine vv_enter (lv := [(0, .ref (ρ 10 0))]) RX10 rfl (by decide) (Nat.le_of_ble_eq_true rfl) rfl ?_
  intro E hE hC hQ hVC
  subst hE
  rw [fX10_wordAt] at h
  refine wa_iconst 1 hC dX10_wordAt_0 kc_0 rfl ?_
  refine wa_istore_n (lv' := [(1, .int (0 : Int32)), (0, .ref (ρ 10 0))]) 2 1 hC dX10_wordAt_1 rfl rfl (by decide) rfl rfl ?_
  refine wa_iconst 3 hC dX10_wordAt_2 kc_1 rfl ?_
  refine wa_istore_n (lv' := [(2, .int (1 : Int32)), (1, .int (0 : Int32)), (0, .ref (ρ 10 0))]) 4 2 hC dX10_wordAt_3 rfl rfl (by decide) rfl rfl ?_
  refine wa_pick [2, 1, 0] rfl ?_
  refine wX10_wordAt_L4 Z hC hVC (fun x1_1 h => ?_) (fun h => ?_) 10000 (0 : Int32) (1 : Int32) h
  · refine wa_iload_n 96 1 hC dX10_wordAt_95 rfl 0 rfl rfl ?_
    exact wa_iret hC hQ (sm0 h) rfl dX10_wordAt_96
  · refine wa_iconst 124 hC dX10_wordAt_123 kc_3 rfl ?_
    exact wa_iret hC hQ (sm0 h) rfl dX10_wordAt_124
set_option maxRecDepth 20000 in
theorem wX10_next_L8 {E : eU} {G : gU} {ρ : Nat → Nat → Nat} {V : Nat → Nat → Prop} {A : sM} {Z' : sM} {k34 : sM → Option (sM)} (hC : CX E G cX10_next 1 RX10 none 7 0 0) (hVC : VC V) (hk34 : ∀ (Z : sM), k34 Z = some Z' → WA E G ρ V 0 0 (J A Z) 34 [(0, .ref (ρ 10 0))] []) : ∀ (n : Nat) (Z : sM), fX10_next_L8 k34 n Z = some Z' → WA E G ρ V 0 0 (J A Z) 8 [(0, .ref (ρ 10 0))] [] := by
  intro n
  induction n with
  | zero =>
    intro Z h
    rw [fX10_next_L8] at h
    cases h
  | succ n ih =>
    intro Z h
    rw [fX10_next_L8] at h
    refine wa_aload_n 9 0 hC dX10_next_8 rfl 0 rfl rfl ?_
    refine wa_aload_n 10 0 hC dX10_next_9 rfl 0 rfl rfl ?_
    refine wa_getIr 13 hC (vs10 hVC) sh10_10 rfl flX10_87 dX10_next_10 rfl ?_
    obtain ⟨r_1, e_3, h⟩ := bd_some h
    refine wa_callVi 16 hC [.int (Z.1 10 10 0 0)] [] knX10_see mvX10_93 (tX10_see E.2.1 (Z.1 10 10 0 0) Z hVC e_3) (vs10 hVC) kc10 (Nat.le_of_ble_eq_true rfl) (Nat.le_of_ble_eq_true rfl) rfl (Nat.le_of_ble_eq_true rfl) dX10_next_13 rfl le00 rfl ?_
    refine wa_bipush 18 hC dX10_next_16 kb_32 rfl ?_
    refine wa_icmp_ne 21 34 hC dX10_next_18 rfl rfl h (fun h => ?_) (fun h => ?_)
    · exact hk34 Z h
    · refine wa_aload_n 22 0 hC dX10_next_21 rfl 0 rfl rfl ?_
      refine wa_dup 23 hC dX10_next_22 rfl rfl ?_
      refine wa_getIr 26 hC (vs10 hVC) sh10_10 rfl flX10_87 dX10_next_23 rfl ?_
      refine wa_iconst 27 hC dX10_next_26 kc_1 rfl ?_
      refine wa_iadd 28 hC dX10_next_27 rfl ?_
      obtain ⟨Z_2, eZ_2, h⟩ := ltb_some h
      refine wa_putIr 31 hC (vs10 hVC) nk10 eZ_2 sh10_10 rfl fpX10_87 dX10_next_28 rfl ?_
      refine wa_goto 8 hC dX10_next_31 rfl ?_
      exact ih Z_2 h
set_option maxRecDepth 20000 in
theorem wX10_next_L154 {E : eU} {G : gU} {ρ : Nat → Nat → Nat} {V : Nat → Nat → Prop} {A : sM} {Z' : sM} {k225 : sM → Option (sM)} (hC : CX E G cX10_next 1 RX10 none 7 0 0) (hVC : VC V) (hk225 : ∀ (Z : sM), k225 Z = some Z' → WA E G ρ V 0 0 (J A Z) 225 [(0, .ref (ρ 10 0))] []) : ∀ (n : Nat) (Z : sM), fX10_next_L154 k225 n Z = some Z' → WA E G ρ V 0 0 (J A Z) 154 [(0, .ref (ρ 10 0))] [] := by
  intro n
  induction n with
  | zero =>
    intro Z h
    rw [fX10_next_L154] at h
    cases h
  | succ n ih =>
    intro Z h
    rw [fX10_next_L154] at h
    refine wa_aload_n 155 0 hC dX10_next_154 rfl 0 rfl rfl ?_
    refine wa_aload_n 156 0 hC dX10_next_155 rfl 0 rfl rfl ?_
    refine wa_getIr 159 hC (vs10 hVC) sh10_11 rfl flX10_90 dX10_next_156 rfl ?_
    obtain ⟨r_1, e_10, h⟩ := bd_some h
    refine wa_callVi 162 hC [.int (Z.1 10 11 0 0)] [] knX10_see mvX10_93 (tX10_see E.2.1 (Z.1 10 11 0 0) Z hVC e_10) (vs10 hVC) kc10 (Nat.le_of_ble_eq_true rfl) (Nat.le_of_ble_eq_true rfl) rfl (Nat.le_of_ble_eq_true rfl) dX10_next_159 rfl le00 rfl ?_
    refine wa_i2l 163 hC dX10_next_162 rfl ?_
    refine wa_ldc2 166 hC dX10_next_163 lcX10_111 rfl ?_
    refine wa_ldc2 169 hC dX10_next_166 lcX10_113 rfl ?_
    obtain ⟨r_2, e_9, h⟩ := bd_some h
    refine wa_callSi 172 hC [.long (r_1.toInt64), .long (48 : Int64), .long (57 : Int64)] [] knX10_isIn msX10_104 (tX10_isIn E.2.1 (r_1.toInt64) (48 : Int64) (57 : Int64) Z hVC e_9) (Nat.le_of_ble_eq_true rfl) (Nat.le_of_ble_eq_true rfl) rfl (Nat.le_of_ble_eq_true rfl) dX10_next_169 rfl le00 rfl ?_
    refine wa_if_eq 175 225 hC dX10_next_172 rfl rfl h (fun h => ?_) (fun h => ?_)
    · exact hk225 Z h
    · refine wa_aload_n 176 0 hC dX10_next_175 rfl 0 rfl rfl ?_
      refine wa_getLr 179 hC (vs10 hVC) sh10_16 rfl flX10_115 dX10_next_176 rfl ?_
      refine wa_ldc2 182 hC dX10_next_179 lcX10_119 rfl ?_
      refine wa_lcmp 183 hC dX10_next_182 rfl ?_
      obtain ⟨kj_4, ekj_4, h⟩ := ltb_k1 h
      have hkj_4 : ∀ (Z_3 : sM), kj_4 Z_3 = some Z' → WA E G ρ V 0 0 (J A Z_3) 212 [(0, .ref (ρ 10 0))] [] := by
        intro Z_3 h
        rw [ekj_4] at h
        refine wa_aload_n 213 0 hC dX10_next_212 rfl 0 rfl rfl ?_
        refine wa_dup 214 hC dX10_next_213 rfl rfl ?_
        refine wa_getIr 217 hC (vs10 hVC) sh10_11 rfl flX10_90 dX10_next_214 rfl ?_
        refine wa_iconst 218 hC dX10_next_217 kc_1 rfl ?_
        refine wa_iadd 219 hC dX10_next_218 rfl ?_
        obtain ⟨Z_5, eZ_5, h⟩ := ltb_some h
        refine wa_putIr 222 hC (vs10 hVC) nk10 eZ_5 sh10_11 rfl fpX10_90 dX10_next_219 rfl ?_
        refine wa_goto 154 hC dX10_next_222 rfl ?_
        exact ih Z_5 h
      clear ekj_4
      refine wa_lcmp_ge 186 212 hC dX10_next_183 rfl rfl h (fun h => ?_) (fun h => ?_)
      · exact hkj_4 Z h
      · refine wa_aload_n 187 0 hC dX10_next_186 rfl 0 rfl rfl ?_
        refine wa_ldc2 190 hC dX10_next_187 lcX10_121 rfl ?_
        refine wa_aload_n 191 0 hC dX10_next_190 rfl 0 rfl rfl ?_
        refine wa_getLr 194 hC (vs10 hVC) sh10_16 rfl flX10_115 dX10_next_191 rfl ?_
        refine wa_lmul 195 hC dX10_next_194 rfl ?_
        refine wa_aload_n 196 0 hC dX10_next_195 rfl 0 rfl rfl ?_
        refine wa_aload_n 197 0 hC dX10_next_196 rfl 0 rfl rfl ?_
        refine wa_getIr 200 hC (vs10 hVC) sh10_11 rfl flX10_90 dX10_next_197 rfl ?_
        obtain ⟨r_6, e_8, h⟩ := bd_some h
        refine wa_callVi 203 hC [.int (Z.1 10 11 0 0)] [.long ((10 : Int64) * (Z.2 10 16 0 0)), .ref (ρ 10 0)] knX10_see mvX10_93 (tX10_see E.2.1 (Z.1 10 11 0 0) Z hVC e_8) (vs10 hVC) kc10 (Nat.le_of_ble_eq_true rfl) (Nat.le_of_ble_eq_true rfl) rfl (Nat.le_of_ble_eq_true rfl) dX10_next_200 rfl le00 rfl ?_
        refine wa_i2l 204 hC dX10_next_203 rfl ?_
        refine wa_ladd 205 hC dX10_next_204 rfl ?_
        refine wa_ldc2 208 hC dX10_next_205 lcX10_111 rfl ?_
        refine wa_lsub 209 hC dX10_next_208 rfl ?_
        obtain ⟨Z_7, eZ_7, h⟩ := ltb_some h
        refine wa_putLr 212 hC (vs10 hVC) eZ_7 sh10_16 rfl fpX10_115 dX10_next_209 rfl ?_
        exact hkj_4 Z_7 h
set_option maxRecDepth 20000 in
theorem wX10_next_L83 {E : eU} {G : gU} {ρ : Nat → Nat → Nat} {V : Nat → Nat → Prop} {A : sM} {Z' : sM} {k117 : sM → Option (sM)} (hC : CX E G cX10_next 1 RX10 none 7 0 0) (hVC : VC V) (hk117 : ∀ (Z : sM), k117 Z = some Z' → WA E G ρ V 0 0 (J A Z) 117 [(0, .ref (ρ 10 0))] []) : ∀ (n : Nat) (Z : sM), fX10_next_L83 k117 n Z = some Z' → WA E G ρ V 0 0 (J A Z) 83 [(0, .ref (ρ 10 0))] [] := by
  intro n
  induction n with
  | zero =>
    intro Z h
    rw [fX10_next_L83] at h
    cases h
  | succ n ih =>
    intro Z h
    rw [fX10_next_L83] at h
    refine wa_aload_n 84 0 hC dX10_next_83 rfl 0 rfl rfl ?_
    refine wa_aload_n 85 0 hC dX10_next_84 rfl 0 rfl rfl ?_
    refine wa_getIr 88 hC (vs10 hVC) sh10_11 rfl flX10_90 dX10_next_85 rfl ?_
    obtain ⟨r_1, e_5, h⟩ := bd_some h
    refine wa_callVi 91 hC [.int (Z.1 10 11 0 0)] [] knX10_see mvX10_93 (tX10_see E.2.1 (Z.1 10 11 0 0) Z hVC e_5) (vs10 hVC) kc10 (Nat.le_of_ble_eq_true rfl) (Nat.le_of_ble_eq_true rfl) rfl (Nat.le_of_ble_eq_true rfl) dX10_next_88 rfl le00 rfl ?_
    refine wa_i2l 92 hC dX10_next_91 rfl ?_
    refine wa_ldc2 95 hC dX10_next_92 lcX10_100 rfl ?_
    refine wa_ldc2 98 hC dX10_next_95 lcX10_102 rfl ?_
    obtain ⟨r_2, e_4, h⟩ := bd_some h
    refine wa_callSi 101 hC [.long (r_1.toInt64), .long (97 : Int64), .long (122 : Int64)] [] knX10_isIn msX10_104 (tX10_isIn E.2.1 (r_1.toInt64) (97 : Int64) (122 : Int64) Z hVC e_4) (Nat.le_of_ble_eq_true rfl) (Nat.le_of_ble_eq_true rfl) rfl (Nat.le_of_ble_eq_true rfl) dX10_next_98 rfl le00 rfl ?_
    refine wa_if_eq 104 117 hC dX10_next_101 rfl rfl h (fun h => ?_) (fun h => ?_)
    · exact hk117 Z h
    · refine wa_aload_n 105 0 hC dX10_next_104 rfl 0 rfl rfl ?_
      refine wa_dup 106 hC dX10_next_105 rfl rfl ?_
      refine wa_getIr 109 hC (vs10 hVC) sh10_11 rfl flX10_90 dX10_next_106 rfl ?_
      refine wa_iconst 110 hC dX10_next_109 kc_1 rfl ?_
      refine wa_iadd 111 hC dX10_next_110 rfl ?_
      obtain ⟨Z_3, eZ_3, h⟩ := ltb_some h
      refine wa_putIr 114 hC (vs10 hVC) nk10 eZ_3 sh10_11 rfl fpX10_90 dX10_next_111 rfl ?_
      refine wa_goto 83 hC dX10_next_114 rfl ?_
      exact ih Z_3 h
set_option maxRecDepth 20000 in
theorem tX10_next (l : Launch) {G : gU} {ρ : Nat → Nat → Nat} {V : Nat → Nat → Prop} {A : sM} (Z : sM) (_ : VC V) {Z' : sM} (h : fX10_next Z = some Z') : MT l yX10_next cX10_next 1 none 7 G ρ V [.ref (ρ 10 0)] (J A Z) none (J A Z') := by
  refine vv_enter (lv := [(0, .ref (ρ 10 0))]) RX10 rfl (by decide) (Nat.le_of_ble_eq_true rfl) rfl ?_
  intro E hE hC hQ hVC
  subst hE
  rw [fX10_next] at h
  refine wa_aload_n 1 0 hC dX10_next_0 rfl 0 rfl rfl ?_
  refine wa_aload_n 2 0 hC dX10_next_1 rfl 0 rfl rfl ?_
  refine wa_getIr 5 hC (vs10 hVC) sh10_11 rfl flX10_90 dX10_next_2 rfl ?_
  obtain ⟨Z_1, eZ_1, h⟩ := ltb_some h
  refine wa_putIr 8 hC (vs10 hVC) nk10 eZ_1 sh10_10 rfl fpX10_87 dX10_next_5 rfl ?_
  refine wX10_next_L8 hC hVC (fun Z_2 h => ?_) 10000 Z_1 h
  refine wa_aload_n 35 0 hC dX10_next_34 rfl 0 rfl rfl ?_
  refine wa_aload_n 36 0 hC dX10_next_35 rfl 0 rfl rfl ?_
  refine wa_getIr 39 hC (vs10 hVC) sh10_10 rfl flX10_87 dX10_next_36 rfl ?_
  obtain ⟨Z_3, eZ_3, h⟩ := ltb_some h
  refine wa_putIr 42 hC (vs10 hVC) nk10 eZ_3 sh10_11 rfl fpX10_90 dX10_next_39 rfl ?_
  refine wa_aload_n 43 0 hC dX10_next_42 rfl 0 rfl rfl ?_
  refine wa_getIr 46 hC (vs10 hVC) sh10_10 rfl flX10_87 dX10_next_43 rfl ?_
  refine wa_aload_n 47 0 hC dX10_next_46 rfl 0 rfl rfl ?_
  refine wa_getIr 50 hC (vs10 hVC) sh10_9 rfl flX10_72 dX10_next_47 rfl ?_
  refine wa_icmp_lt 53 62 hC dX10_next_50 rfl rfl h (fun h => ?_) (fun h => ?_)
  · refine wa_aload_n 63 0 hC dX10_next_62 rfl 0 rfl rfl ?_
    refine wa_aload_n 64 0 hC dX10_next_63 rfl 0 rfl rfl ?_
    refine wa_getIr 67 hC (vs10 hVC) sh10_10 rfl flX10_87 dX10_next_64 rfl ?_
    obtain ⟨r_4, e_23, h⟩ := bd_some h
    refine wa_callVi 70 hC [.int (Z_3.1 10 10 0 0)] [] knX10_see mvX10_93 (tX10_see E.2.1 (Z_3.1 10 10 0 0) Z_3 hVC e_23) (vs10 hVC) kc10 (Nat.le_of_ble_eq_true rfl) (Nat.le_of_ble_eq_true rfl) rfl (Nat.le_of_ble_eq_true rfl) dX10_next_67 rfl le00 rfl ?_
    refine wa_i2l 71 hC dX10_next_70 rfl ?_
    refine wa_ldc2 74 hC dX10_next_71 lcX10_100 rfl ?_
    refine wa_ldc2 77 hC dX10_next_74 lcX10_102 rfl ?_
    obtain ⟨r_5, e_22, h⟩ := bd_some h
    refine wa_callSi 80 hC [.long (r_4.toInt64), .long (97 : Int64), .long (122 : Int64)] [] knX10_isIn msX10_104 (tX10_isIn E.2.1 (r_4.toInt64) (97 : Int64) (122 : Int64) Z_3 hVC e_22) (Nat.le_of_ble_eq_true rfl) (Nat.le_of_ble_eq_true rfl) rfl (Nat.le_of_ble_eq_true rfl) dX10_next_77 rfl le00 rfl ?_
    refine wa_if_eq 83 128 hC dX10_next_80 rfl rfl h (fun h => ?_) (fun h => ?_)
    · refine wa_aload_n 129 0 hC dX10_next_128 rfl 0 rfl rfl ?_
      refine wa_aload_n 130 0 hC dX10_next_129 rfl 0 rfl rfl ?_
      refine wa_getIr 133 hC (vs10 hVC) sh10_10 rfl flX10_87 dX10_next_130 rfl ?_
      obtain ⟨r_6, e_17, h⟩ := bd_some h
      refine wa_callVi 136 hC [.int (Z_3.1 10 10 0 0)] [] knX10_see mvX10_93 (tX10_see E.2.1 (Z_3.1 10 10 0 0) Z_3 hVC e_17) (vs10 hVC) kc10 (Nat.le_of_ble_eq_true rfl) (Nat.le_of_ble_eq_true rfl) rfl (Nat.le_of_ble_eq_true rfl) dX10_next_133 rfl le00 rfl ?_
      refine wa_i2l 137 hC dX10_next_136 rfl ?_
      refine wa_ldc2 140 hC dX10_next_137 lcX10_111 rfl ?_
      refine wa_ldc2 143 hC dX10_next_140 lcX10_113 rfl ?_
      obtain ⟨r_7, e_16, h⟩ := bd_some h
      refine wa_callSi 146 hC [.long (r_6.toInt64), .long (48 : Int64), .long (57 : Int64)] [] knX10_isIn msX10_104 (tX10_isIn E.2.1 (r_6.toInt64) (48 : Int64) (57 : Int64) Z_3 hVC e_16) (Nat.le_of_ble_eq_true rfl) (Nat.le_of_ble_eq_true rfl) rfl (Nat.le_of_ble_eq_true rfl) dX10_next_143 rfl le00 rfl ?_
      refine wa_if_eq 149 233 hC dX10_next_146 rfl rfl h (fun h => ?_) (fun h => ?_)
      · refine wa_aload_n 234 0 hC dX10_next_233 rfl 0 rfl rfl ?_
        refine wa_dup 235 hC dX10_next_234 rfl rfl ?_
        refine wa_getIr 238 hC (vs10 hVC) sh10_11 rfl flX10_90 dX10_next_235 rfl ?_
        refine wa_iconst 239 hC dX10_next_238 kc_1 rfl ?_
        refine wa_iadd 240 hC dX10_next_239 rfl ?_
        obtain ⟨Z_8, eZ_8, h⟩ := ltb_some h
        refine wa_putIr 243 hC (vs10 hVC) nk10 eZ_8 sh10_11 rfl fpX10_90 dX10_next_240 rfl ?_
        refine wa_aload_n 244 0 hC dX10_next_243 rfl 0 rfl rfl ?_
        refine wa_aload_n 245 0 hC dX10_next_244 rfl 0 rfl rfl ?_
        refine wa_aload_n 246 0 hC dX10_next_245 rfl 0 rfl rfl ?_
        refine wa_getIr 249 hC (vs10 hVC) sh10_10 rfl flX10_87 dX10_next_246 rfl ?_
        obtain ⟨r_9, e_12, h⟩ := bd_some h
        refine wa_callVi 252 hC [.int (Z_8.1 10 10 0 0)] [.ref (ρ 10 0)] knX10_see mvX10_93 (tX10_see E.2.1 (Z_8.1 10 10 0 0) Z_8 hVC e_12) (vs10 hVC) kc10 (Nat.le_of_ble_eq_true rfl) (Nat.le_of_ble_eq_true rfl) rfl (Nat.le_of_ble_eq_true rfl) dX10_next_249 rfl le00 rfl ?_
        refine wa_bipush 254 hC dX10_next_252 kb_59 rfl ?_
        refine wa_icmp_ne 257 261 hC dX10_next_254 rfl rfl h (fun h => ?_) (fun h => ?_)
        · refine wa_bipush 263 hC dX10_next_261 kb_7 rfl ?_
          obtain ⟨Z_10, eZ_10, h⟩ := ltb_some h
          refine wa_putIr 266 hC (vs10 hVC) nk10 eZ_10 sh10_12 rfl fpX10_97 dX10_next_263 rfl ?_
          exact wa_vret hC hQ (jZ (sm0 h)) dX10_next_266
        · refine wa_iconst 258 hC dX10_next_257 kc_5 rfl ?_
          refine wa_goto 263 hC dX10_next_258 rfl ?_
          obtain ⟨Z_11, eZ_11, h⟩ := ltb_some h
          refine wa_putIr 266 hC (vs10 hVC) nk10 eZ_11 sh10_12 rfl fpX10_97 dX10_next_263 rfl ?_
          exact wa_vret hC hQ (jZ (sm0 h)) dX10_next_266
      · refine wa_aload_n 150 0 hC dX10_next_149 rfl 0 rfl rfl ?_
        refine wa_lconst 151 hC dX10_next_150 kl_0 rfl ?_
        obtain ⟨Z_13, eZ_13, h⟩ := ltb_some h
        refine wa_putLr 154 hC (vs10 hVC) eZ_13 sh10_16 rfl fpX10_115 dX10_next_151 rfl ?_
        refine wX10_next_L154 hC hVC (fun Z_14 h => ?_) 10000 Z_13 h
        refine wa_aload_n 226 0 hC dX10_next_225 rfl 0 rfl rfl ?_
        refine wa_iconst 227 hC dX10_next_226 kc_4 rfl ?_
        obtain ⟨Z_15, eZ_15, h⟩ := ltb_some h
        refine wa_putIr 230 hC (vs10 hVC) nk10 eZ_15 sh10_12 rfl fpX10_97 dX10_next_227 rfl ?_
        refine wa_goto 266 hC dX10_next_230 rfl ?_
        exact wa_vret hC hQ (jZ (sm0 h)) dX10_next_266
    · refine wX10_next_L83 hC hVC (fun Z_18 h => ?_) 10000 Z_3 h
      refine wa_aload_n 118 0 hC dX10_next_117 rfl 0 rfl rfl ?_
      refine wa_aload_n 119 0 hC dX10_next_118 rfl 0 rfl rfl ?_
      obtain ⟨r_19, e_21, h⟩ := bd_some h
      refine wa_callVi 122 hC [] [.ref (ρ 10 0)] knX10_wordAt mvX10_108 (tX10_wordAt E.2.1 Z_18 hVC e_21) (vs10 hVC) kc10 (Nat.le_of_ble_eq_true rfl) (Nat.le_of_ble_eq_true rfl) rfl (Nat.le_of_ble_eq_true rfl) dX10_next_119 rfl le00 rfl ?_
      obtain ⟨Z_20, eZ_20, h⟩ := ltb_some h
      refine wa_putIr 125 hC (vs10 hVC) nk10 eZ_20 sh10_12 rfl fpX10_97 dX10_next_122 rfl ?_
      refine wa_goto 266 hC dX10_next_125 rfl ?_
      exact wa_vret hC hQ (jZ (sm0 h)) dX10_next_266
  · refine wa_aload_n 54 0 hC dX10_next_53 rfl 0 rfl rfl ?_
    refine wa_bipush 56 hC dX10_next_54 kb_6 rfl ?_
    obtain ⟨Z_24, eZ_24, h⟩ := ltb_some h
    refine wa_putIr 59 hC (vs10 hVC) nk10 eZ_24 sh10_12 rfl fpX10_97 dX10_next_56 rfl ?_
    refine wa_goto 266 hC dX10_next_59 rfl ?_
    exact wa_vret hC hQ (jZ (sm0 h)) dX10_next_266
set_option maxRecDepth 20000 in
theorem tX10_fails (l : Launch) {G : gU} {ρ : Nat → Nat → Nat} {V : Nat → Nat → Prop} {A : sM} (x1 : Int32) (Z : sM) (_ : VC V) {Z' : sM} (h : fX10_fails x1 Z = some Z') : MT l yX10_fails cX10_fails 2 none 1 G ρ V [.ref (ρ 10 0), .int x1] (J A Z) none (J A Z') := by
  refine vv_enter (lv := [(0, .ref (ρ 10 0)), (1, .int x1)]) RX10 rfl (by decide) (Nat.le_of_ble_eq_true rfl) rfl ?_
  intro E hE hC hQ hVC
  subst hE
  rw [fX10_fails] at h
  refine wa_aload_n 1 0 hC dX10_fails_0 rfl 0 rfl rfl ?_
  refine wa_getIr 4 hC (vs10 hVC) sh10_13 rfl flX10_123 dX10_fails_1 rfl ?_
  refine wa_if_eq 7 8 hC dX10_fails_4 rfl rfl h (fun h => ?_) (fun h => ?_)
  · refine wa_aload_n 9 0 hC dX10_fails_8 rfl 0 rfl rfl ?_
    refine wa_iload_n 10 1 hC dX10_fails_9 rfl 1 rfl rfl ?_
    obtain ⟨Z_1, eZ_1, h⟩ := ltb_some h
    refine wa_putIr 13 hC (vs10 hVC) nk10 eZ_1 sh10_13 rfl fpX10_123 dX10_fails_10 rfl ?_
    refine wa_aload_n 14 0 hC dX10_fails_13 rfl 0 rfl rfl ?_
    refine wa_aload_n 15 0 hC dX10_fails_14 rfl 0 rfl rfl ?_
    refine wa_getIr 18 hC (vs10 hVC) sh10_10 rfl flX10_87 dX10_fails_15 rfl ?_
    obtain ⟨Z_2, eZ_2, h⟩ := ltb_some h
    refine wa_putIr 21 hC (vs10 hVC) nk10 eZ_2 sh10_14 rfl fpX10_126 dX10_fails_18 rfl ?_
    exact wa_vret hC hQ (jZ (sm0 h)) dX10_fails_21
  · exact wa_vret hC hQ (jZ (sm0 h)) dX10_fails_7
set_option maxRecDepth 20000 in
theorem tX10_is (l : Launch) {G : gU} {ρ : Nat → Nat → Nat} {V : Nat → Nat → Prop} {A : sM} (x1 : Int32) (Z : sM) (_ : VC V) {r : Int32} (h : fX10_is x1 Z = some r) : MT l yX10_is cX10_is 2 (some .boolean) 1 G ρ V [.ref (ρ 10 0), .int x1] (J A Z) (some (.int r)) (J A Z) := by
  refine vv_enter (lv := [(0, .ref (ρ 10 0)), (1, .int x1)]) RX10 rfl (by decide) (Nat.le_of_ble_eq_true rfl) rfl ?_
  intro E hE hC hQ hVC
  subst hE
  rw [fX10_is] at h
  refine wa_aload_n 1 0 hC dX10_is_0 rfl 0 rfl rfl ?_
  refine wa_getIr 4 hC (vs10 hVC) sh10_13 rfl flX10_123 dX10_is_1 rfl ?_
  refine wa_if_ne 7 19 hC dX10_is_4 rfl rfl h (fun h => ?_) (fun h => ?_)
  · refine wa_iconst 20 hC dX10_is_19 kc_0 rfl ?_
    exact wa_zret hC hQ (sm0 h) rfl rfl dX10_is_20
  · refine wa_aload_n 8 0 hC dX10_is_7 rfl 0 rfl rfl ?_
    refine wa_getIr 11 hC (vs10 hVC) sh10_12 rfl flX10_97 dX10_is_8 rfl ?_
    refine wa_iload_n 12 1 hC dX10_is_11 rfl 1 rfl rfl ?_
    refine wa_icmp_ne 15 19 hC dX10_is_12 rfl rfl h (fun h => ?_) (fun h => ?_)
    · refine wa_iconst 20 hC dX10_is_19 kc_0 rfl ?_
      exact wa_zret hC hQ (sm0 h) rfl rfl dX10_is_20
    · refine wa_iconst 16 hC dX10_is_15 kc_1 rfl ?_
      refine wa_goto 20 hC dX10_is_16 rfl ?_
      exact wa_zret hC hQ (sm0 h) rfl rfl dX10_is_20
set_option maxRecDepth 20000 in
theorem tX10_must (l : Launch) {G : gU} {ρ : Nat → Nat → Nat} {V : Nat → Nat → Prop} {A : sM} (x1 : Int32) (Z : sM) (_ : VC V) {Z' : sM} (h : fX10_must x1 Z = some Z') : MT l yX10_must cX10_must 2 none 8 G ρ V [.ref (ρ 10 0), .int x1] (J A Z) none (J A Z') := by
  refine vv_enter (lv := [(0, .ref (ρ 10 0)), (1, .int x1)]) RX10 rfl (by decide) (Nat.le_of_ble_eq_true rfl) rfl ?_
  intro E hE hC hQ hVC
  subst hE
  rw [fX10_must] at h
  refine wa_aload_n 1 0 hC dX10_must_0 rfl 0 rfl rfl ?_
  refine wa_iload_n 2 1 hC dX10_must_1 rfl 1 rfl rfl ?_
  obtain ⟨r_1, e_8, h⟩ := bd_some h
  refine wa_callVi 5 hC [.int x1] [] knX10_is mvX10_129 (tX10_is E.2.1 x1 Z hVC e_8) (vs10 hVC) kc10 (Nat.le_of_ble_eq_true rfl) (Nat.le_of_ble_eq_true rfl) rfl (Nat.le_of_ble_eq_true rfl) dX10_must_2 rfl le00 rfl ?_
  refine wa_if_ne 8 14 hC dX10_must_5 rfl rfl h (fun h => ?_) (fun h => ?_)
  · refine wa_aload_n 15 0 hC dX10_must_14 rfl 0 rfl rfl ?_
    refine wa_getIr 18 hC (vs10 hVC) sh10_13 rfl flX10_123 dX10_must_15 rfl ?_
    refine wa_if_ne 21 25 hC dX10_must_18 rfl rfl h (fun h => ?_) (fun h => ?_)
    · exact wa_vret hC hQ (jZ (sm0 h)) dX10_must_25
    · refine wa_aload_n 22 0 hC dX10_must_21 rfl 0 rfl rfl ?_
      obtain ⟨Z_2, e_3, h⟩ := bd_some h
      refine wa_callVv 25 hC [] [] knX10_next mvX10_137 (tX10_next E.2.1 Z hVC e_3) (vs10 hVC) kc10 (Nat.le_of_ble_eq_true rfl) (Nat.le_of_ble_eq_true rfl) rfl (Nat.le_of_ble_eq_true rfl) dX10_must_22 rfl le00 rfl ?_
      exact wa_vret hC hQ (jZ (sm0 h)) dX10_must_25
  · refine wa_aload_n 9 0 hC dX10_must_8 rfl 0 rfl rfl ?_
    refine wa_bipush 11 hC dX10_must_9 kb_m2 rfl ?_
    obtain ⟨Z_4, e_7, h⟩ := bd_some h
    refine wa_callVv 14 hC [.int (-2 : Int32)] [] knX10_fails mvX10_133 (tX10_fails E.2.1 (-2 : Int32) Z hVC e_7) (vs10 hVC) kc10 (Nat.le_of_ble_eq_true rfl) (Nat.le_of_ble_eq_true rfl) rfl (Nat.le_of_ble_eq_true rfl) dX10_must_11 rfl le00 rfl ?_
    refine wa_aload_n 15 0 hC dX10_must_14 rfl 0 rfl rfl ?_
    refine wa_getIr 18 hC (vs10 hVC) sh10_13 rfl flX10_123 dX10_must_15 rfl ?_
    refine wa_if_ne 21 25 hC dX10_must_18 rfl rfl h (fun h => ?_) (fun h => ?_)
    · exact wa_vret hC hQ (jZ (sm0 h)) dX10_must_25
    · refine wa_aload_n 22 0 hC dX10_must_21 rfl 0 rfl rfl ?_
      obtain ⟨Z_5, e_6, h⟩ := bd_some h
      refine wa_callVv 25 hC [] [] knX10_next mvX10_137 (tX10_next E.2.1 Z_4 hVC e_6) (vs10 hVC) kc10 (Nat.le_of_ble_eq_true rfl) (Nat.le_of_ble_eq_true rfl) rfl (Nat.le_of_ble_eq_true rfl) dX10_must_22 rfl le00 rfl ?_
      exact wa_vret hC hQ (jZ (sm0 h)) dX10_must_25
set_option maxRecDepth 20000 in
theorem tX10_takes (l : Launch) {G : gU} {ρ : Nat → Nat → Nat} {V : Nat → Nat → Prop} {A : sM} (x1 : Int32) (x2 : Int32) (Z : sM) (_ : VC V) {r : Int32} {Z' : sM} (h : fX10_takes x1 x2 Z = some (r, Z')) : MT l yX10_takes cX10_takes 4 (some .int) 8 G ρ V [.ref (ρ 10 0), .int x1, .int x2] (J A Z) (some (.int r)) (J A Z') := by
  refine vv_enter (lv := [(0, .ref (ρ 10 0)), (1, .int x1), (2, .int x2)]) RX10 rfl (by decide) (Nat.le_of_ble_eq_true rfl) rfl ?_
  intro E hE hC hQ hVC
  subst hE
  rw [fX10_takes] at h
  refine wa_aload_n 1 0 hC dX10_takes_0 rfl 0 rfl rfl ?_
  refine wa_iconst 2 hC dX10_takes_1 kc_4 rfl ?_
  obtain ⟨r_1, e_15, h⟩ := bd_some h
  refine wa_callVi 5 hC [.int (4 : Int32)] [] knX10_is mvX10_129 (tX10_is E.2.1 (4 : Int32) Z hVC e_15) (vs10 hVC) kc10 (Nat.le_of_ble_eq_true rfl) (Nat.le_of_ble_eq_true rfl) rfl (Nat.le_of_ble_eq_true rfl) dX10_takes_2 rfl le00 rfl ?_
  obtain ⟨kj_3, ekj_3, h⟩ := ltb_k1 h
  have hkj_3 : ∀ (Z_2 : sM), kj_3 Z_2 = some (r, Z') → WA E G ρ V 0 0 (J A Z_2) 37 [(0, .ref (ρ 10 0))] [] := by
    intro Z_2 h
    rw [ekj_3] at h
    refine wa_aload_n 38 0 hC dX10_takes_37 rfl 0 rfl rfl ?_
    refine wa_getIr 41 hC (vs10 hVC) sh10_13 rfl flX10_123 dX10_takes_38 rfl ?_
    refine wa_if_ne 44 52 hC dX10_takes_41 rfl rfl h (fun h => ?_) (fun h => ?_)
    · refine wa_iconst 53 hC dX10_takes_52 kc_0 rfl ?_
      refine wa_istore_n (lv' := [(3, .int (0 : Int32)), (0, .ref (ρ 10 0))]) 54 3 hC dX10_takes_53 rfl rfl (by decide) rfl rfl ?_
      refine wa_aload_n 55 0 hC dX10_takes_54 rfl 1 rfl rfl ?_
      refine wa_getIr 58 hC (vs10 hVC) sh10_13 rfl flX10_123 dX10_takes_55 rfl ?_
      refine wa_if_ne 61 65 hC dX10_takes_58 rfl rfl h (fun h => ?_) (fun h => ?_)
      · refine wa_iload_n 66 3 hC dX10_takes_65 rfl 0 rfl rfl ?_
        exact wa_iret hC hQ (sm1 h) (jZ (sm2 h)) dX10_takes_66
      · refine wa_aload_n 62 0 hC dX10_takes_61 rfl 1 rfl rfl ?_
        obtain ⟨Z_4, e_5, h⟩ := bd_some h
        refine wa_callVv 65 hC [] [] knX10_next mvX10_137 (tX10_next E.2.1 Z_2 hVC e_5) (vs10 hVC) kc10 (Nat.le_of_ble_eq_true rfl) (Nat.le_of_ble_eq_true rfl) rfl (Nat.le_of_ble_eq_true rfl) dX10_takes_62 rfl le00 rfl ?_
        refine wa_iload_n 66 3 hC dX10_takes_65 rfl 0 rfl rfl ?_
        exact wa_iret hC hQ (sm1 h) (jZ (sm2 h)) dX10_takes_66
    · refine wa_aload_n 45 0 hC dX10_takes_44 rfl 0 rfl rfl ?_
      refine wa_getLr 48 hC (vs10 hVC) sh10_16 rfl flX10_115 dX10_takes_45 rfl ?_
      refine wa_l2i 49 hC dX10_takes_48 rfl ?_
      refine wa_goto 53 hC dX10_takes_49 rfl ?_
      obtain ⟨x3_6, ex3_6, h⟩ := ltb_some h
      refine wa_istore_n (lv' := [(3, .int x3_6), (0, .ref (ρ 10 0))]) 54 3 hC dX10_takes_53 rfl ex3_6 (by decide) rfl rfl ?_
      refine wa_aload_n 55 0 hC dX10_takes_54 rfl 1 rfl rfl ?_
      refine wa_getIr 58 hC (vs10 hVC) sh10_13 rfl flX10_123 dX10_takes_55 rfl ?_
      refine wa_if_ne 61 65 hC dX10_takes_58 rfl rfl h (fun h => ?_) (fun h => ?_)
      · refine wa_iload_n 66 3 hC dX10_takes_65 rfl 0 rfl rfl ?_
        exact wa_iret hC hQ (sm1 h) (jZ (sm2 h)) dX10_takes_66
      · refine wa_aload_n 62 0 hC dX10_takes_61 rfl 1 rfl rfl ?_
        obtain ⟨Z_7, e_8, h⟩ := bd_some h
        refine wa_callVv 65 hC [] [] knX10_next mvX10_137 (tX10_next E.2.1 Z_2 hVC e_8) (vs10 hVC) kc10 (Nat.le_of_ble_eq_true rfl) (Nat.le_of_ble_eq_true rfl) rfl (Nat.le_of_ble_eq_true rfl) dX10_takes_62 rfl le00 rfl ?_
        refine wa_iload_n 66 3 hC dX10_takes_65 rfl 0 rfl rfl ?_
        exact wa_iret hC hQ (sm1 h) (jZ (sm2 h)) dX10_takes_66
  clear ekj_3
  refine wa_if_ne 8 17 hC dX10_takes_5 rfl rfl h (fun h => ?_) (fun h => ?_)
  · refine wa_aload_n 18 0 hC dX10_takes_17 rfl 0 rfl rfl ?_
    refine wa_getLr 21 hC (vs10 hVC) sh10_16 rfl flX10_115 dX10_takes_18 rfl ?_
    refine wa_iload_n 22 1 hC dX10_takes_21 rfl 1 rfl rfl ?_
    refine wa_i2l 23 hC dX10_takes_22 rfl ?_
    refine wa_iload_n 24 2 hC dX10_takes_23 rfl 2 rfl rfl ?_
    refine wa_i2l 25 hC dX10_takes_24 rfl ?_
    obtain ⟨r_9, e_12, h⟩ := bd_some h
    refine wa_callSi 28 hC [.long (Z.2 10 16 0 0), .long (x1.toInt64), .long (x2.toInt64)] [] knX10_isIn msX10_104 (tX10_isIn E.2.1 (Z.2 10 16 0 0) (x1.toInt64) (x2.toInt64) Z hVC e_12) (Nat.le_of_ble_eq_true rfl) (Nat.le_of_ble_eq_true rfl) rfl (Nat.le_of_ble_eq_true rfl) dX10_takes_25 rfl le00 rfl ?_
    refine wa_if_ne 31 37 hC dX10_takes_28 rfl rfl h (fun h => ?_) (fun h => ?_)
    · refine wa_pick [0] rfl ?_
      exact hkj_3 Z h
    · refine wa_aload_n 32 0 hC dX10_takes_31 rfl 0 rfl rfl ?_
      refine wa_bipush 34 hC dX10_takes_32 kb_m3 rfl ?_
      obtain ⟨Z_10, e_11, h⟩ := bd_some h
      refine wa_callVv 37 hC [.int (-3 : Int32)] [] knX10_fails mvX10_133 (tX10_fails E.2.1 (-3 : Int32) Z hVC e_11) (vs10 hVC) kc10 (Nat.le_of_ble_eq_true rfl) (Nat.le_of_ble_eq_true rfl) rfl (Nat.le_of_ble_eq_true rfl) dX10_takes_34 rfl le00 rfl ?_
      refine wa_pick [0] rfl ?_
      exact hkj_3 Z_10 h
  · refine wa_aload_n 9 0 hC dX10_takes_8 rfl 0 rfl rfl ?_
    refine wa_bipush 11 hC dX10_takes_9 kb_m2 rfl ?_
    obtain ⟨Z_13, e_14, h⟩ := bd_some h
    refine wa_callVv 14 hC [.int (-2 : Int32)] [] knX10_fails mvX10_133 (tX10_fails E.2.1 (-2 : Int32) Z hVC e_14) (vs10 hVC) kc10 (Nat.le_of_ble_eq_true rfl) (Nat.le_of_ble_eq_true rfl) rfl (Nat.le_of_ble_eq_true rfl) dX10_takes_11 rfl le00 rfl ?_
    refine wa_goto 37 hC dX10_takes_14 rfl ?_
    refine wa_pick [0] rfl ?_
    exact hkj_3 Z_13 h
set_option maxRecDepth 20000 in
theorem tX10_readsPeriod (l : Launch) {G : gU} {ρ : Nat → Nat → Nat} {V : Nat → Nat → Prop} {A : sM} (Z : sM) (_ : VC V) {Z' : sM} (h : fX10_readsPeriod Z = some Z') : MT l yX10_readsPeriod cX10_readsPeriod 2 none 9 G ρ V [.ref (ρ 10 0)] (J A Z) none (J A Z') := by
  refine vv_enter (lv := [(0, .ref (ρ 10 0))]) RX10 rfl (by decide) (Nat.le_of_ble_eq_true rfl) rfl ?_
  intro E hE hC hQ hVC
  subst hE
  rw [fX10_readsPeriod] at h
  refine wa_aload_n 1 0 hC dX10_readsPeriod_0 rfl 0 rfl rfl ?_
  refine wa_iconst 2 hC dX10_readsPeriod_1 kc_1 rfl ?_
  obtain ⟨r_1, e_20, h⟩ := bd_some h
  refine wa_callVi 5 hC [.int (1 : Int32)] [] knX10_is mvX10_129 (tX10_is E.2.1 (1 : Int32) Z hVC e_20) (vs10 hVC) kc10 (Nat.le_of_ble_eq_true rfl) (Nat.le_of_ble_eq_true rfl) rfl (Nat.le_of_ble_eq_true rfl) dX10_readsPeriod_2 rfl le00 rfl ?_
  obtain ⟨kj_3, ekj_3, h⟩ := ltb_k1 h
  have hkj_3 : ∀ (Z_2 : sM), kj_3 Z_2 = some Z' → WA E G ρ V 0 0 (J A Z_2) 24 [(0, .ref (ρ 10 0))] [] := by
    intro Z_2 h
    rw [ekj_3] at h
    refine wa_aload_n 25 0 hC dX10_readsPeriod_24 rfl 0 rfl rfl ?_
    refine wa_iconst 26 hC dX10_readsPeriod_25 kc_1 rfl ?_
    obtain ⟨Z_4, e_16, h⟩ := bd_some h
    refine wa_callVv 29 hC [.int (1 : Int32)] [] knX10_must mvX10_140 (tX10_must E.2.1 (1 : Int32) Z_2 hVC e_16) (vs10 hVC) kc10 (Nat.le_of_ble_eq_true rfl) (Nat.le_of_ble_eq_true rfl) rfl (Nat.le_of_ble_eq_true rfl) dX10_readsPeriod_26 rfl le00 rfl ?_
    refine wa_aload_n 30 0 hC dX10_readsPeriod_29 rfl 0 rfl rfl ?_
    refine wa_iconst 31 hC dX10_readsPeriod_30 kc_0 rfl ?_
    refine wa_sipush 34 hC dX10_readsPeriod_31 ks_200 rfl ?_
    obtain ⟨r_6, Z_5, e_15, h⟩ := bd2_some h
    refine wa_callVi 37 hC [.int (0 : Int32), .int (200 : Int32)] [] knX10_takes mvX10_143 (tX10_takes E.2.1 (0 : Int32) (200 : Int32) Z_4 hVC e_15) (vs10 hVC) kc10 (Nat.le_of_ble_eq_true rfl) (Nat.le_of_ble_eq_true rfl) rfl (Nat.le_of_ble_eq_true rfl) dX10_readsPeriod_34 rfl le00 rfl ?_
    refine wa_istore_n (lv' := [(1, .int r_6), (0, .ref (ρ 10 0))]) 38 1 hC dX10_readsPeriod_37 rfl rfl (by decide) rfl rfl ?_
    refine wa_aload_n 39 0 hC dX10_readsPeriod_38 rfl 1 rfl rfl ?_
    refine wa_iconst 40 hC dX10_readsPeriod_39 kc_5 rfl ?_
    obtain ⟨Z_7, e_14, h⟩ := bd_some h
    refine wa_callVv 43 hC [.int (5 : Int32)] [] knX10_must mvX10_140 (tX10_must E.2.1 (5 : Int32) Z_5 hVC e_14) (vs10 hVC) kc10 (Nat.le_of_ble_eq_true rfl) (Nat.le_of_ble_eq_true rfl) rfl (Nat.le_of_ble_eq_true rfl) dX10_readsPeriod_40 rfl le00 rfl ?_
    refine wa_aload_n 44 0 hC dX10_readsPeriod_43 rfl 1 rfl rfl ?_
    refine wa_getIr 47 hC (vs10 hVC) sh10_13 rfl flX10_123 dX10_readsPeriod_44 rfl ?_
    refine wa_if_eq 50 51 hC dX10_readsPeriod_47 rfl rfl h (fun h => ?_) (fun h => ?_)
    · refine wa_aload_n 52 0 hC dX10_readsPeriod_51 rfl 1 rfl rfl ?_
      refine wa_getR 55 hC (vs10 hVC) (sr10_1 _) flX10_13 dX10_readsPeriod_52 rfl ?_
      refine wa_bipush 57 hC dX10_readsPeriod_55 kb_32 rfl ?_
      refine wa_aload_n 58 0 hC dX10_readsPeriod_57 rfl 1 rfl rfl ?_
      refine wa_getR 61 hC (vs10 hVC) (sr10_1 _) flX10_13 dX10_readsPeriod_58 rfl ?_
      refine wa_iconst 62 hC dX10_readsPeriod_61 kc_4 rfl ?_
      refine wa_ialdr 63 hC (vs28 hVC) ar28 rfl (by decide) dX10_readsPeriod_62 rfl ?_
      refine wa_iadd 64 hC dX10_readsPeriod_63 rfl ?_
      refine wa_iload_n 65 1 hC dX10_readsPeriod_64 rfl 0 rfl rfl ?_
      obtain ⟨g_9, h⟩ := gd_some h
      obtain ⟨Z_10, eZ_10, h⟩ := ltb_some h
      refine wa_iastr 66 hC (vs28 hVC) nk28 ar28 rfl g_9 eZ_10 dX10_readsPeriod_65 rfl ?_
      refine wa_aload_n 67 0 hC dX10_readsPeriod_66 rfl 1 rfl rfl ?_
      refine wa_getR 70 hC (vs10 hVC) (sr10_1 _) flX10_13 dX10_readsPeriod_67 rfl ?_
      refine wa_iconst 71 hC dX10_readsPeriod_70 kc_4 rfl ?_
      refine wa_dup2 72 hC dX10_readsPeriod_71 rfl rfl rfl ?_
      refine wa_ialdr 73 hC (vs28 hVC) ar28 rfl (by decide) dX10_readsPeriod_72 rfl ?_
      refine wa_iconst 74 hC dX10_readsPeriod_73 kc_1 rfl ?_
      refine wa_iadd 75 hC dX10_readsPeriod_74 rfl ?_
      obtain ⟨Z_13, eZ_13, h⟩ := ltb_some h
      refine wa_iastr 76 hC (vs28 hVC) nk28 ar28 rfl (by decide) eZ_13 dX10_readsPeriod_75 rfl ?_
      exact wa_vret hC hQ (jZ (sm0 h)) dX10_readsPeriod_76
    · exact wa_vret hC hQ (jZ (sm0 h)) dX10_readsPeriod_50
  clear ekj_3
  refine wa_if_eq 8 24 hC dX10_readsPeriod_5 rfl rfl h (fun h => ?_) (fun h => ?_)
  · exact hkj_3 Z h
  · refine wa_aload_n 9 0 hC dX10_readsPeriod_8 rfl 0 rfl rfl ?_
    refine wa_getR 12 hC (vs10 hVC) (sr10_1 _) flX10_13 dX10_readsPeriod_9 rfl ?_
    refine wa_iconst 13 hC dX10_readsPeriod_12 kc_4 rfl ?_
    refine wa_ialdr 14 hC (vs28 hVC) ar28 rfl (by decide) dX10_readsPeriod_13 rfl ?_
    refine wa_iconst 15 hC dX10_readsPeriod_14 kc_4 rfl ?_
    refine wa_icmp_ne 18 24 hC dX10_readsPeriod_15 rfl rfl h (fun h => ?_) (fun h => ?_)
    · exact hkj_3 Z h
    · refine wa_aload_n 19 0 hC dX10_readsPeriod_18 rfl 0 rfl rfl ?_
      refine wa_bipush 21 hC dX10_readsPeriod_19 kb_m4 rfl ?_
      obtain ⟨Z_18, e_19, h⟩ := bd_some h
      refine wa_callVv 24 hC [.int (-4 : Int32)] [] knX10_fails mvX10_133 (tX10_fails E.2.1 (-4 : Int32) Z hVC e_19) (vs10 hVC) kc10 (Nat.le_of_ble_eq_true rfl) (Nat.le_of_ble_eq_true rfl) rfl (Nat.le_of_ble_eq_true rfl) dX10_readsPeriod_21 rfl le00 rfl ?_
      exact hkj_3 Z_18 h
set_option maxRecDepth 20000 in
theorem wX10_readsHours_L45 {E : eU} {G : gU} {ρ : Nat → Nat → Nat} {V : Nat → Nat → Prop} {A : sM} {Z' : sM} (x2 : Int32) (x3 : Int32) {k75 : sM → Option (sM)} (hC : CX E G cX10_readsHours 5 RX10 none 9 0 0) (hVC : VC V) (hk75 : ∀ (Z : sM), k75 Z = some Z' → WA E G ρ V 0 0 (J A Z) 75 [] []) : ∀ (n : Nat) (x4 : Int32) (Z : sM), fX10_readsHours_L45 x2 x3 k75 n x4 Z = some Z' → WA E G ρ V 0 0 (J A Z) 45 [(0, .ref (ρ 10 0)), (2, .int x2), (3, .int x3), (4, .int x4)] [] := by
  intro n
  induction n with
  | zero =>
    intro x4 Z h
    rw [fX10_readsHours_L45] at h
    cases h
  | succ n ih =>
    intro x4 Z h
    rw [fX10_readsHours_L45] at h
    refine wa_iload 47 4 hC dX10_readsHours_45 3 rfl rfl ?_
    refine wa_iload_n 48 2 hC dX10_readsHours_47 rfl 1 rfl rfl ?_
    refine wa_icmp_ge 51 75 hC dX10_readsHours_48 rfl rfl h (fun h => ?_) (fun h => ?_)
    · refine wa_pick [] rfl ?_
      exact hk75 Z h
    · refine wa_aload_n 52 0 hC dX10_readsHours_51 rfl 0 rfl rfl ?_
      refine wa_getIr 55 hC (vs10 hVC) sh10_13 rfl flX10_123 dX10_readsHours_52 rfl ?_
      refine wa_if_ne 58 75 hC dX10_readsHours_55 rfl rfl h (fun h => ?_) (fun h => ?_)
      · refine wa_pick [] rfl ?_
        exact hk75 Z h
      · refine wa_aload_n 59 0 hC dX10_readsHours_58 rfl 0 rfl rfl ?_
        refine wa_getR 62 hC (vs10 hVC) (sr10_1 _) flX10_13 dX10_readsHours_59 rfl ?_
        refine wa_bipush 64 hC dX10_readsHours_62 kb_8 rfl ?_
        refine wa_iload 66 4 hC dX10_readsHours_64 3 rfl rfl ?_
        refine wa_iadd 67 hC dX10_readsHours_66 rfl ?_
        refine wa_iload_n 68 3 hC dX10_readsHours_67 rfl 2 rfl rfl ?_
        obtain ⟨g_1, h⟩ := gd_some h
        obtain ⟨Z_2, eZ_2, h⟩ := ltb_some h
        refine wa_iastr 69 hC (vs28 hVC) nk28 ar28 rfl g_1 eZ_2 dX10_readsHours_68 rfl ?_
        obtain ⟨x4_3, ex4_3, h⟩ := ltb_some h
        refine wa_iinc (lv' := [(4, .int x4_3), (0, .ref (ρ 10 0)), (2, .int x2), (3, .int x3)]) 72 4 hC dX10_readsHours_69 3 rfl (by rw [kc_1]; exact ex4_3) (by decide) rfl rfl ?_
        refine wa_goto 45 hC dX10_readsHours_72 rfl ?_
        refine wa_pick [1, 2, 3, 0] rfl ?_
        exact ih x4_3 Z_2 h
set_option maxRecDepth 20000 in
theorem tX10_readsHours (l : Launch) {G : gU} {ρ : Nat → Nat → Nat} {V : Nat → Nat → Prop} {A : sM} (Z : sM) (_ : VC V) {Z' : sM} (h : fX10_readsHours Z = some Z') : MT l yX10_readsHours cX10_readsHours 5 none 9 G ρ V [.ref (ρ 10 0)] (J A Z) none (J A Z') := by
  refine vv_enter (lv := [(0, .ref (ρ 10 0))]) RX10 rfl (by decide) (Nat.le_of_ble_eq_true rfl) rfl ?_
  intro E hE hC hQ hVC
  subst hE
  rw [fX10_readsHours] at h
  refine wa_aload_n 1 0 hC dX10_readsHours_0 rfl 0 rfl rfl ?_
  refine wa_iconst 2 hC dX10_readsHours_1 kc_2 rfl ?_
  obtain ⟨Z_1, e_15, h⟩ := bd_some h
  refine wa_callVv 5 hC [.int (2 : Int32)] [] knX10_must mvX10_140 (tX10_must E.2.1 (2 : Int32) Z hVC e_15) (vs10 hVC) kc10 (Nat.le_of_ble_eq_true rfl) (Nat.le_of_ble_eq_true rfl) rfl (Nat.le_of_ble_eq_true rfl) dX10_readsHours_2 rfl le00 rfl ?_
  refine wa_aload_n 6 0 hC dX10_readsHours_5 rfl 0 rfl rfl ?_
  refine wa_iconst 7 hC dX10_readsHours_6 kc_0 rfl ?_
  refine wa_bipush 9 hC dX10_readsHours_7 kb_23 rfl ?_
  obtain ⟨r_3, Z_2, e_14, h⟩ := bd2_some h
  refine wa_callVi 12 hC [.int (0 : Int32), .int (23 : Int32)] [] knX10_takes mvX10_143 (tX10_takes E.2.1 (0 : Int32) (23 : Int32) Z_1 hVC e_14) (vs10 hVC) kc10 (Nat.le_of_ble_eq_true rfl) (Nat.le_of_ble_eq_true rfl) rfl (Nat.le_of_ble_eq_true rfl) dX10_readsHours_9 rfl le00 rfl ?_
  refine wa_istore_n (lv' := [(1, .int r_3), (0, .ref (ρ 10 0))]) 13 1 hC dX10_readsHours_12 rfl rfl (by decide) rfl rfl ?_
  refine wa_aload_n 14 0 hC dX10_readsHours_13 rfl 1 rfl rfl ?_
  refine wa_iload_n 15 1 hC dX10_readsHours_14 rfl 0 rfl rfl ?_
  refine wa_iconst 16 hC dX10_readsHours_15 kc_1 rfl ?_
  refine wa_iadd 17 hC dX10_readsHours_16 rfl ?_
  refine wa_bipush 19 hC dX10_readsHours_17 kb_24 rfl ?_
  obtain ⟨r_5, Z_4, e_13, h⟩ := bd2_some h
  refine wa_callVi 22 hC [.int (r_3 + (1 : Int32)), .int (24 : Int32)] [] knX10_takes mvX10_143 (tX10_takes E.2.1 (r_3 + (1 : Int32)) (24 : Int32) Z_2 hVC e_13) (vs10 hVC) kc10 (Nat.le_of_ble_eq_true rfl) (Nat.le_of_ble_eq_true rfl) rfl (Nat.le_of_ble_eq_true rfl) dX10_readsHours_19 rfl le00 rfl ?_
  refine wa_istore_n (lv' := [(2, .int r_5), (1, .int r_3), (0, .ref (ρ 10 0))]) 23 2 hC dX10_readsHours_22 rfl rfl (by decide) rfl rfl ?_
  refine wa_aload_n 24 0 hC dX10_readsHours_23 rfl 2 rfl rfl ?_
  refine wa_iconst 25 hC dX10_readsHours_24 kc_0 rfl ?_
  refine wa_aload_n 26 0 hC dX10_readsHours_25 rfl 2 rfl rfl ?_
  refine wa_getR 29 hC (vs10 hVC) (sr10_1 _) flX10_13 dX10_readsHours_26 rfl ?_
  refine wa_iconst 30 hC dX10_readsHours_29 kc_4 rfl ?_
  refine wa_ialdr 31 hC (vs28 hVC) ar28 rfl (by decide) dX10_readsHours_30 rfl ?_
  refine wa_iconst 32 hC dX10_readsHours_31 kc_1 rfl ?_
  refine wa_isub 33 hC dX10_readsHours_32 rfl ?_
  obtain ⟨r_8, Z_7, e_12, h⟩ := bd2_some h
  refine wa_callVi 36 hC [.int (0 : Int32), .int ((Z_4.1 28 0 0 (4 : Int32).toNatClampNeg) - (1 : Int32))] [] knX10_takes mvX10_143 (tX10_takes E.2.1 (0 : Int32) ((Z_4.1 28 0 0 (4 : Int32).toNatClampNeg) - (1 : Int32)) Z_4 hVC e_12) (vs10 hVC) kc10 (Nat.le_of_ble_eq_true rfl) (Nat.le_of_ble_eq_true rfl) rfl (Nat.le_of_ble_eq_true rfl) dX10_readsHours_33 rfl le00 rfl ?_
  refine wa_istore_n (lv' := [(3, .int r_8), (2, .int r_5), (1, .int r_3), (0, .ref (ρ 10 0))]) 37 3 hC dX10_readsHours_36 rfl rfl (by decide) rfl rfl ?_
  refine wa_aload_n 38 0 hC dX10_readsHours_37 rfl 3 rfl rfl ?_
  refine wa_iconst 39 hC dX10_readsHours_38 kc_5 rfl ?_
  obtain ⟨Z_9, e_11, h⟩ := bd_some h
  refine wa_callVv 42 hC [.int (5 : Int32)] [] knX10_must mvX10_140 (tX10_must E.2.1 (5 : Int32) Z_7 hVC e_11) (vs10 hVC) kc10 (Nat.le_of_ble_eq_true rfl) (Nat.le_of_ble_eq_true rfl) rfl (Nat.le_of_ble_eq_true rfl) dX10_readsHours_39 rfl le00 rfl ?_
  refine wa_iload_n 43 1 hC dX10_readsHours_42 rfl 2 rfl rfl ?_
  refine wa_istore (lv' := [(4, .int r_3), (3, .int r_8), (2, .int r_5), (1, .int r_3), (0, .ref (ρ 10 0))]) 45 4 hC dX10_readsHours_43 rfl (by decide) rfl rfl ?_
  refine wa_pick [4, 2, 1, 0] rfl ?_
  refine wX10_readsHours_L45 r_5 r_8 hC hVC (fun Z_10 h => ?_) 10000 r_3 Z_9 h
  exact wa_vret hC hQ (jZ (sm0 h)) dX10_readsHours_75
set_option maxRecDepth 20000 in
theorem wX10_readsAll_L55 {E : eU} {G : gU} {ρ : Nat → Nat → Nat} {V : Nat → Nat → Prop} {A : sM} {Z' : sM} {k70 : sM → Option (sM)} (hC : CX E G cX10_readsAll 4 RX10 none 10 0 0) (hVC : VC V) (hk70 : ∀ (Z : sM), k70 Z = some Z' → WA E G ρ V 0 0 (J A Z) 70 [(0, .ref (ρ 10 0))] []) : ∀ (n : Nat) (Z : sM), fX10_readsAll_L55 k70 n Z = some Z' → WA E G ρ V 0 0 (J A Z) 55 [(0, .ref (ρ 10 0))] [] := by
  intro n
  induction n with
  | zero =>
    intro Z h
    rw [fX10_readsAll_L55] at h
    cases h
  | succ n ih =>
    intro Z h
    rw [fX10_readsAll_L55] at h
    refine wa_aload_n 56 0 hC dX10_readsAll_55 rfl 0 rfl rfl ?_
    refine wa_iconst 57 hC dX10_readsAll_56 kc_1 rfl ?_
    obtain ⟨r_1, e_4, h⟩ := bd_some h
    refine wa_callVi 60 hC [.int (1 : Int32)] [] knX10_is mvX10_129 (tX10_is E.2.1 (1 : Int32) Z hVC e_4) (vs10 hVC) kc10 (Nat.le_of_ble_eq_true rfl) (Nat.le_of_ble_eq_true rfl) rfl (Nat.le_of_ble_eq_true rfl) dX10_readsAll_57 rfl le00 rfl ?_
    refine wa_if_eq 63 70 hC dX10_readsAll_60 rfl rfl h (fun h => ?_) (fun h => ?_)
    · exact hk70 Z h
    · refine wa_aload_n 64 0 hC dX10_readsAll_63 rfl 0 rfl rfl ?_
      obtain ⟨Z_2, e_3, h⟩ := bd_some h
      refine wa_callVv 67 hC [] [] knX10_readsPeriod mvX10_148 (tX10_readsPeriod E.2.1 Z hVC e_3) (vs10 hVC) kc10 (Nat.le_of_ble_eq_true rfl) (Nat.le_of_ble_eq_true rfl) rfl (Nat.le_of_ble_eq_true rfl) dX10_readsAll_64 rfl le00 rfl ?_
      refine wa_goto 55 hC dX10_readsAll_67 rfl ?_
      exact ih Z_2 h
set_option maxRecDepth 20000 in
theorem wX10_readsAll_L70 {E : eU} {G : gU} {ρ : Nat → Nat → Nat} {V : Nat → Nat → Prop} {A : sM} {Z' : sM} {k85 : sM → Option (sM)} (hC : CX E G cX10_readsAll 4 RX10 none 10 0 0) (hVC : VC V) (hk85 : ∀ (Z : sM), k85 Z = some Z' → WA E G ρ V 0 0 (J A Z) 85 [(0, .ref (ρ 10 0))] []) : ∀ (n : Nat) (Z : sM), fX10_readsAll_L70 k85 n Z = some Z' → WA E G ρ V 0 0 (J A Z) 70 [(0, .ref (ρ 10 0))] [] := by
  intro n
  induction n with
  | zero =>
    intro Z h
    rw [fX10_readsAll_L70] at h
    cases h
  | succ n ih =>
    intro Z h
    rw [fX10_readsAll_L70] at h
    refine wa_aload_n 71 0 hC dX10_readsAll_70 rfl 0 rfl rfl ?_
    refine wa_iconst 72 hC dX10_readsAll_71 kc_2 rfl ?_
    obtain ⟨r_1, e_4, h⟩ := bd_some h
    refine wa_callVi 75 hC [.int (2 : Int32)] [] knX10_is mvX10_129 (tX10_is E.2.1 (2 : Int32) Z hVC e_4) (vs10 hVC) kc10 (Nat.le_of_ble_eq_true rfl) (Nat.le_of_ble_eq_true rfl) rfl (Nat.le_of_ble_eq_true rfl) dX10_readsAll_72 rfl le00 rfl ?_
    refine wa_if_eq 78 85 hC dX10_readsAll_75 rfl rfl h (fun h => ?_) (fun h => ?_)
    · exact hk85 Z h
    · refine wa_aload_n 79 0 hC dX10_readsAll_78 rfl 0 rfl rfl ?_
      obtain ⟨Z_2, e_3, h⟩ := bd_some h
      refine wa_callVv 82 hC [] [] knX10_readsHours mvX10_151 (tX10_readsHours E.2.1 Z hVC e_3) (vs10 hVC) kc10 (Nat.le_of_ble_eq_true rfl) (Nat.le_of_ble_eq_true rfl) rfl (Nat.le_of_ble_eq_true rfl) dX10_readsAll_79 rfl le00 rfl ?_
      refine wa_goto 70 hC dX10_readsAll_82 rfl ?_
      exact ih Z_2 h
set_option maxRecDepth 20000 in
theorem tX10_readsAll (l : Launch) {G : gU} {ρ : Nat → Nat → Nat} {V : Nat → Nat → Prop} {A : sM} (Z : sM) (_ : VC V) {Z' : sM} (h : fX10_readsAll Z = some Z') : MT l yX10_readsAll cX10_readsAll 4 none 10 G ρ V [.ref (ρ 10 0)] (J A Z) none (J A Z') := by
  refine vv_enter (lv := [(0, .ref (ρ 10 0))]) RX10 rfl (by decide) (Nat.le_of_ble_eq_true rfl) rfl ?_
  intro E hE hC hQ hVC
  subst hE
  rw [fX10_readsAll] at h
  refine wa_aload_n 1 0 hC dX10_readsAll_0 rfl 0 rfl rfl ?_
  refine wa_iconst 2 hC dX10_readsAll_1 kc_0 rfl ?_
  obtain ⟨Z_1, e_24, h⟩ := bd_some h
  refine wa_callVv 5 hC [.int (0 : Int32)] [] knX10_must mvX10_140 (tX10_must E.2.1 (0 : Int32) Z hVC e_24) (vs10 hVC) kc10 (Nat.le_of_ble_eq_true rfl) (Nat.le_of_ble_eq_true rfl) rfl (Nat.le_of_ble_eq_true rfl) dX10_readsAll_2 rfl le00 rfl ?_
  refine wa_aload_n 6 0 hC dX10_readsAll_5 rfl 0 rfl rfl ?_
  refine wa_iconst 7 hC dX10_readsAll_6 kc_1 rfl ?_
  refine wa_ldc 9 hC dX10_readsAll_7 lcX10_147 rfl ?_
  obtain ⟨r_3, Z_2, e_23, h⟩ := bd2_some h
  refine wa_callVi 12 hC [.int (1 : Int32), .int (100000 : Int32)] [] knX10_takes mvX10_143 (tX10_takes E.2.1 (1 : Int32) (100000 : Int32) Z_1 hVC e_23) (vs10 hVC) kc10 (Nat.le_of_ble_eq_true rfl) (Nat.le_of_ble_eq_true rfl) rfl (Nat.le_of_ble_eq_true rfl) dX10_readsAll_9 rfl le00 rfl ?_
  refine wa_istore_n (lv' := [(1, .int r_3), (0, .ref (ρ 10 0))]) 13 1 hC dX10_readsAll_12 rfl rfl (by decide) rfl rfl ?_
  refine wa_aload_n 14 0 hC dX10_readsAll_13 rfl 1 rfl rfl ?_
  refine wa_iconst 15 hC dX10_readsAll_14 kc_1 rfl ?_
  refine wa_bipush 17 hC dX10_readsAll_15 kb_24 rfl ?_
  obtain ⟨r_5, Z_4, e_22, h⟩ := bd2_some h
  refine wa_callVi 20 hC [.int (1 : Int32), .int (24 : Int32)] [] knX10_takes mvX10_143 (tX10_takes E.2.1 (1 : Int32) (24 : Int32) Z_2 hVC e_22) (vs10 hVC) kc10 (Nat.le_of_ble_eq_true rfl) (Nat.le_of_ble_eq_true rfl) rfl (Nat.le_of_ble_eq_true rfl) dX10_readsAll_17 rfl le00 rfl ?_
  refine wa_istore_n (lv' := [(2, .int r_5), (1, .int r_3), (0, .ref (ρ 10 0))]) 21 2 hC dX10_readsAll_20 rfl rfl (by decide) rfl rfl ?_
  refine wa_aload_n 22 0 hC dX10_readsAll_21 rfl 2 rfl rfl ?_
  refine wa_iconst 23 hC dX10_readsAll_22 kc_0 rfl ?_
  refine wa_bipush 25 hC dX10_readsAll_23 kb_100 rfl ?_
  obtain ⟨r_7, Z_6, e_21, h⟩ := bd2_some h
  refine wa_callVi 28 hC [.int (0 : Int32), .int (100 : Int32)] [] knX10_takes mvX10_143 (tX10_takes E.2.1 (0 : Int32) (100 : Int32) Z_4 hVC e_21) (vs10 hVC) kc10 (Nat.le_of_ble_eq_true rfl) (Nat.le_of_ble_eq_true rfl) rfl (Nat.le_of_ble_eq_true rfl) dX10_readsAll_25 rfl le00 rfl ?_
  refine wa_istore_n (lv' := [(3, .int r_7), (2, .int r_5), (1, .int r_3), (0, .ref (ρ 10 0))]) 29 3 hC dX10_readsAll_28 rfl rfl (by decide) rfl rfl ?_
  refine wa_aload_n 30 0 hC dX10_readsAll_29 rfl 3 rfl rfl ?_
  refine wa_getR 33 hC (vs10 hVC) (sr10_1 _) flX10_13 dX10_readsAll_30 rfl ?_
  refine wa_iload_n 34 1 hC dX10_readsAll_33 rfl 2 rfl rfl ?_
  refine wa_iload_n 35 2 hC dX10_readsAll_34 rfl 1 rfl rfl ?_
  refine wa_iload_n 36 3 hC dX10_readsAll_35 rfl 0 rfl rfl ?_
  refine wa_aload_n 37 0 hC dX10_readsAll_36 rfl 3 rfl rfl ?_
  refine wa_iconst 38 hC dX10_readsAll_37 kc_1 rfl ?_
  refine wa_bipush 40 hC dX10_readsAll_38 kb_100 rfl ?_
  obtain ⟨r_9, Z_8, e_20, h⟩ := bd2_some h
  refine wa_callVi 43 hC [.int (1 : Int32), .int (100 : Int32)] [.int r_7, .int r_5, .int r_3, .ref (ρ 28 0)] knX10_takes mvX10_143 (tX10_takes E.2.1 (1 : Int32) (100 : Int32) Z_6 hVC e_20) (vs10 hVC) kc10 (Nat.le_of_ble_eq_true rfl) (Nat.le_of_ble_eq_true rfl) rfl (Nat.le_of_ble_eq_true rfl) dX10_readsAll_40 rfl le00 rfl ?_
  obtain ⟨Z_10, e_19, h⟩ := bd_some h
  refine wa_callSv 46 hC [.ref (ρ 28 0), .int r_3, .int r_5, .int r_7, .int r_9] [] knX10_begins msX10_59 (tX10_begins_28 E.2.1 r_3 r_5 r_7 r_9 Z_8 hVC e_19) (Nat.le_of_ble_eq_true rfl) (Nat.le_of_ble_eq_true rfl) rfl (Nat.le_of_ble_eq_true rfl) dX10_readsAll_43 rfl le00 rfl ?_
  refine wa_aload_n 47 0 hC dX10_readsAll_46 rfl 3 rfl rfl ?_
  refine wa_iconst 48 hC dX10_readsAll_47 kc_5 rfl ?_
  obtain ⟨Z_11, e_18, h⟩ := bd_some h
  refine wa_callVv 51 hC [.int (5 : Int32)] [] knX10_must mvX10_140 (tX10_must E.2.1 (5 : Int32) Z_10 hVC e_18) (vs10 hVC) kc10 (Nat.le_of_ble_eq_true rfl) (Nat.le_of_ble_eq_true rfl) rfl (Nat.le_of_ble_eq_true rfl) dX10_readsAll_48 rfl le00 rfl ?_
  refine wa_aload_n 52 0 hC dX10_readsAll_51 rfl 3 rfl rfl ?_
  obtain ⟨Z_12, e_17, h⟩ := bd_some h
  refine wa_callVv 55 hC [] [] knX10_readsPeriod mvX10_148 (tX10_readsPeriod E.2.1 Z_11 hVC e_17) (vs10 hVC) kc10 (Nat.le_of_ble_eq_true rfl) (Nat.le_of_ble_eq_true rfl) rfl (Nat.le_of_ble_eq_true rfl) dX10_readsAll_52 rfl le00 rfl ?_
  refine wa_pick [3] rfl ?_
  refine wX10_readsAll_L55 hC hVC (fun Z_13 h => ?_) 10000 Z_12 h
  refine wX10_readsAll_L70 hC hVC (fun Z_14 h => ?_) 10000 Z_13 h
  refine wa_aload_n 86 0 hC dX10_readsAll_85 rfl 0 rfl rfl ?_
  refine wa_getIr 89 hC (vs10 hVC) sh10_13 rfl flX10_123 dX10_readsAll_86 rfl ?_
  refine wa_if_ne 92 107 hC dX10_readsAll_89 rfl rfl h (fun h => ?_) (fun h => ?_)
  · exact wa_vret hC hQ (jZ (sm0 h)) dX10_readsAll_107
  · refine wa_aload_n 93 0 hC dX10_readsAll_92 rfl 0 rfl rfl ?_
    refine wa_getIr 96 hC (vs10 hVC) sh10_12 rfl flX10_97 dX10_readsAll_93 rfl ?_
    refine wa_bipush 98 hC dX10_readsAll_96 kb_6 rfl ?_
    refine wa_icmp_eq 101 107 hC dX10_readsAll_98 rfl rfl h (fun h => ?_) (fun h => ?_)
    · exact wa_vret hC hQ (jZ (sm0 h)) dX10_readsAll_107
    · refine wa_aload_n 102 0 hC dX10_readsAll_101 rfl 0 rfl rfl ?_
      refine wa_bipush 104 hC dX10_readsAll_102 kb_m2 rfl ?_
      obtain ⟨Z_15, e_16, h⟩ := bd_some h
      refine wa_callVv 107 hC [.int (-2 : Int32)] [] knX10_fails mvX10_133 (tX10_fails E.2.1 (-2 : Int32) Z_14 hVC e_16) (vs10 hVC) kc10 (Nat.le_of_ble_eq_true rfl) (Nat.le_of_ble_eq_true rfl) rfl (Nat.le_of_ble_eq_true rfl) dX10_readsAll_104 rfl le00 rfl ?_
      exact wa_vret hC hQ (jZ (sm0 h)) dX10_readsAll_107
set_option maxRecDepth 20000 in
theorem wX10_load_L97 {E : eU} {G : gU} {ρ : Nat → Nat → Nat} {V : Nat → Nat → Prop} {A : sM} {r : Int32} {Z' : sM} {k122 : sM → Option (Int32 × sM)} (hC : CX E G cX10_load 3 RX10 (some .int) 11 0 0) (hVC : VC V) (hk122 : ∀ (Z : sM), k122 Z = some (r, Z') → WA E G ρ V 0 0 (J A Z) 122 [(0, .ref (ρ 10 0))] []) : ∀ (n : Nat) (x2 : Int32) (Z : sM), fX10_load_L97 k122 n x2 Z = some (r, Z') → WA E G ρ V 0 0 (J A Z) 97 [(0, .ref (ρ 10 0)), (2, .int x2)] [] := by
  intro n
  induction n with
  | zero =>
    intro x2 Z h
    rw [fX10_load_L97] at h
    cases h
  | succ n ih =>
    intro x2 Z h
    rw [fX10_load_L97] at h
    refine wa_iload_n 98 2 hC dX10_load_97 rfl 1 rfl rfl ?_
    refine wa_sipush 101 hC dX10_load_98 ks_1588 rfl ?_
    refine wa_icmp_ge 104 122 hC dX10_load_101 rfl rfl h (fun h => ?_) (fun h => ?_)
    · refine wa_pick [0] rfl ?_
      exact hk122 Z h
    · refine wa_aload_n 105 0 hC dX10_load_104 rfl 0 rfl rfl ?_
      refine wa_getR 108 hC (vs10 hVC) (sr10_0 _) flX10_7 dX10_load_105 rfl ?_
      refine wa_iload_n 109 2 hC dX10_load_108 rfl 1 rfl rfl ?_
      refine wa_aload_n 110 0 hC dX10_load_109 rfl 0 rfl rfl ?_
      refine wa_getR 113 hC (vs10 hVC) (sr10_1 _) flX10_13 dX10_load_110 rfl ?_
      refine wa_iload_n 114 2 hC dX10_load_113 rfl 1 rfl rfl ?_
      obtain ⟨g_1, h⟩ := gd_some h
      refine wa_ialdr 115 hC (vs28 hVC) ar28 rfl g_1 dX10_load_114 rfl ?_
      obtain ⟨g_2, h⟩ := gd_some h
      obtain ⟨Z_3, eZ_3, h⟩ := ltb_some h
      refine wa_iastr 116 hC (vs27 hVC) nk27 ar27 rfl g_2 eZ_3 dX10_load_115 rfl ?_
      obtain ⟨x2_4, ex2_4, h⟩ := ltb_some h
      refine wa_iinc (lv' := [(2, .int x2_4), (0, .ref (ρ 10 0))]) 119 2 hC dX10_load_116 1 rfl (by rw [kc_1]; exact ex2_4) (by decide) rfl rfl ?_
      refine wa_goto 97 hC dX10_load_119 rfl ?_
      refine wa_pick [1, 0] rfl ?_
      exact ih x2_4 Z_3 h
set_option maxRecDepth 20000 in
theorem wX10_load_L124 {E : eU} {G : gU} {ρ : Nat → Nat → Nat} {V : Nat → Nat → Prop} {A : sM} {r : Int32} {Z' : sM} {k144 : sM → Option (Int32 × sM)} (hC : CX E G cX10_load 3 RX10 (some .int) 11 0 0) (hVC : VC V) (hk144 : ∀ (Z : sM), k144 Z = some (r, Z') → WA E G ρ V 0 0 (J A Z) 144 [(0, .ref (ρ 10 0))] []) : ∀ (n : Nat) (x2 : Int32) (Z : sM), fX10_load_L124 k144 n x2 Z = some (r, Z') → WA E G ρ V 0 0 (J A Z) 124 [(0, .ref (ρ 10 0)), (2, .int x2)] [] := by
  intro n
  induction n with
  | zero =>
    intro x2 Z h
    rw [fX10_load_L124] at h
    cases h
  | succ n ih =>
    intro x2 Z h
    rw [fX10_load_L124] at h
    refine wa_iload_n 125 2 hC dX10_load_124 rfl 1 rfl rfl ?_
    refine wa_sipush 128 hC dX10_load_125 ks_1058 rfl ?_
    refine wa_icmp_ge 131 144 hC dX10_load_128 rfl rfl h (fun h => ?_) (fun h => ?_)
    · refine wa_pick [0] rfl ?_
      exact hk144 Z h
    · refine wa_aload_n 132 0 hC dX10_load_131 rfl 0 rfl rfl ?_
      refine wa_getR 135 hC (vs10 hVC) (sr10_3 _) flX10_19 dX10_load_132 rfl ?_
      refine wa_iload_n 136 2 hC dX10_load_135 rfl 1 rfl rfl ?_
      refine wa_lconst 137 hC dX10_load_136 kl_0 rfl ?_
      obtain ⟨g_1, h⟩ := gd_some h
      obtain ⟨Z_2, eZ_2, h⟩ := ltb_some h
      refine wa_lastr 138 hC (vs30 hVC) ar30 rfl g_1 eZ_2 dX10_load_137 rfl ?_
      obtain ⟨x2_3, ex2_3, h⟩ := ltb_some h
      refine wa_iinc (lv' := [(2, .int x2_3), (0, .ref (ρ 10 0))]) 141 2 hC dX10_load_138 1 rfl (by rw [kc_1]; exact ex2_3) (by decide) rfl rfl ?_
      refine wa_goto 124 hC dX10_load_141 rfl ?_
      refine wa_pick [1, 0] rfl ?_
      exact ih x2_3 Z_2 h
set_option maxRecDepth 20000 in
theorem tX10_load (l : Launch) {G : gU} {ρ : Nat → Nat → Nat} {V : Nat → Nat → Prop} {A : sM} (x1 : Int32) (Z : sM) (_ : VC V) {r : Int32} {Z' : sM} (h : fX10_load x1 Z = some (r, Z')) : MT l yX10_load cX10_load 3 (some .int) 11 G ρ V [.ref (ρ 10 0), .int x1] (J A Z) (some (.int r)) (J A Z') := by
  refine vv_enter (lv := [(0, .ref (ρ 10 0)), (1, .int x1)]) RX10 rfl (by decide) (Nat.le_of_ble_eq_true rfl) rfl ?_
  intro E hE hC hQ hVC
  subst hE
  rw [fX10_load] at h
  refine wa_aload_n 1 0 hC dX10_load_0 rfl 0 rfl rfl ?_
  refine wa_iload_n 2 1 hC dX10_load_1 rfl 1 rfl rfl ?_
  refine wa_i2l 3 hC dX10_load_2 rfl ?_
  refine wa_lconst 4 hC dX10_load_3 kl_0 rfl ?_
  refine wa_aload_n 5 0 hC dX10_load_4 rfl 0 rfl rfl ?_
  refine wa_getIr 8 hC (vs10 hVC) sh10_8 rfl flX10_69 dX10_load_5 rfl ?_
  refine wa_i2l 9 hC dX10_load_8 rfl ?_
  obtain ⟨r_1, e_21, h⟩ := bd_some h
  refine wa_callSi 12 hC [.long (x1.toInt64), .long (0 : Int64), .long ((Z.1 10 8 0 0).toInt64)] [.ref (ρ 10 0)] knX10_isIn msX10_104 (tX10_isIn E.2.1 (x1.toInt64) (0 : Int64) ((Z.1 10 8 0 0).toInt64) Z hVC e_21) (Nat.le_of_ble_eq_true rfl) (Nat.le_of_ble_eq_true rfl) rfl (Nat.le_of_ble_eq_true rfl) dX10_load_9 rfl le00 rfl ?_
  obtain ⟨kj_3, ekj_3, h⟩ := ltb_k1 h
  have hkj_3 : ∀ (v_2 : Int32), kj_3 v_2 = some (r, Z') → WA E G ρ V 0 0 (J A Z) 20 [(0, .ref (ρ 10 0)), (1, .int x1)] [.int v_2, .ref (ρ 10 0)] := by
    intro v_2 h
    rw [ekj_3] at h
    obtain ⟨Z_4, eZ_4, h⟩ := ltb_some h
    refine wa_putIr 23 hC (vs10 hVC) nk10 eZ_4 sh10_6 rfl fpX10_63 dX10_load_20 rfl ?_
    refine wa_aload_n 24 0 hC dX10_load_23 rfl 0 rfl rfl ?_
    refine wa_getIr 27 hC (vs10 hVC) sh10_6 rfl flX10_63 dX10_load_24 rfl ?_
    refine wa_if_le 30 32 hC dX10_load_27 rfl rfl h (fun h => ?_) (fun h => ?_)
    · refine wa_aload_n 33 0 hC dX10_load_32 rfl 0 rfl rfl ?_
      refine wa_iload_n 34 1 hC dX10_load_33 rfl 1 rfl rfl ?_
      obtain ⟨Z_5, eZ_5, h⟩ := ltb_some h
      refine wa_putIr 37 hC (vs10 hVC) nk10 eZ_5 sh10_9 rfl fpX10_72 dX10_load_34 rfl ?_
      refine wa_aload_n 38 0 hC dX10_load_37 rfl 0 rfl rfl ?_
      refine wa_iconst 39 hC dX10_load_38 kc_0 rfl ?_
      obtain ⟨Z_6, eZ_6, h⟩ := ltb_some h
      refine wa_putIr 42 hC (vs10 hVC) nk10 eZ_6 sh10_8 rfl fpX10_69 dX10_load_39 rfl ?_
      refine wa_aload_n 43 0 hC dX10_load_42 rfl 0 rfl rfl ?_
      refine wa_iconst 44 hC dX10_load_43 kc_0 rfl ?_
      obtain ⟨Z_7, eZ_7, h⟩ := ltb_some h
      refine wa_putIr 47 hC (vs10 hVC) nk10 eZ_7 sh10_11 rfl fpX10_90 dX10_load_44 rfl ?_
      refine wa_aload_n 48 0 hC dX10_load_47 rfl 0 rfl rfl ?_
      refine wa_iconst 49 hC dX10_load_48 kc_0 rfl ?_
      obtain ⟨Z_8, eZ_8, h⟩ := ltb_some h
      refine wa_putIr 52 hC (vs10 hVC) nk10 eZ_8 sh10_13 rfl fpX10_123 dX10_load_49 rfl ?_
      refine wa_aload_n 53 0 hC dX10_load_52 rfl 0 rfl rfl ?_
      obtain ⟨Z_9, e_20, h⟩ := bd_some h
      refine wa_callVv 56 hC [] [] knX10_next mvX10_137 (tX10_next E.2.1 Z_8 hVC e_20) (vs10 hVC) kc10 (Nat.le_of_ble_eq_true rfl) (Nat.le_of_ble_eq_true rfl) rfl (Nat.le_of_ble_eq_true rfl) dX10_load_53 rfl le00 rfl ?_
      refine wa_aload_n 57 0 hC dX10_load_56 rfl 0 rfl rfl ?_
      obtain ⟨Z_10, e_19, h⟩ := bd_some h
      refine wa_callVv 60 hC [] [] knX10_readsAll mvX10_154 (tX10_readsAll E.2.1 Z_9 hVC e_19) (vs10 hVC) kc10 (Nat.le_of_ble_eq_true rfl) (Nat.le_of_ble_eq_true rfl) rfl (Nat.le_of_ble_eq_true rfl) dX10_load_57 rfl le00 rfl ?_
      refine wa_aload_n 61 0 hC dX10_load_60 rfl 0 rfl rfl ?_
      refine wa_aload_n 62 0 hC dX10_load_61 rfl 0 rfl rfl ?_
      refine wa_getIr 65 hC (vs10 hVC) sh10_13 rfl flX10_123 dX10_load_62 rfl ?_
      obtain ⟨kj_12, ekj_12, h⟩ := ltb_k1 h
      have hkj_12 : ∀ (v_11 : Int32), kj_12 v_11 = some (r, Z') → WA E G ρ V 0 0 (J A Z_10) 76 [(0, .ref (ρ 10 0))] [.int v_11, .ref (ρ 10 0)] := by
        intro v_11 h
        rw [ekj_12] at h
        obtain ⟨Z_13, eZ_13, h⟩ := ltb_some h
        refine wa_putIr 79 hC (vs10 hVC) nk10 eZ_13 sh10_15 rfl fpX10_29 dX10_load_76 rfl ?_
        refine wa_aload_n 80 0 hC dX10_load_79 rfl 0 rfl rfl ?_
        refine wa_getIr 83 hC (vs10 hVC) sh10_13 rfl flX10_123 dX10_load_80 rfl ?_
        refine wa_if_eq 86 91 hC dX10_load_83 rfl rfl h (fun h => ?_) (fun h => ?_)
        · refine wa_aload_n 92 0 hC dX10_load_91 rfl 0 rfl rfl ?_
          obtain ⟨Z_14, e_18, h⟩ := bd_some h
          refine wa_callVv 95 hC [] [] knX10_keeps mvX10_157 (tX10_keeps E.2.1 Z_13 hVC e_18) (vs10 hVC) kc10 (Nat.le_of_ble_eq_true rfl) (Nat.le_of_ble_eq_true rfl) rfl (Nat.le_of_ble_eq_true rfl) dX10_load_92 rfl le00 rfl ?_
          refine wa_iconst 96 hC dX10_load_95 kc_0 rfl ?_
          refine wa_istore_n (lv' := [(2, .int (0 : Int32)), (0, .ref (ρ 10 0))]) 97 2 hC dX10_load_96 rfl rfl (by decide) rfl rfl ?_
          refine wa_pick [1, 0] rfl ?_
          refine wX10_load_L97 hC hVC (fun Z_15 h => ?_) 10000 (0 : Int32) Z_14 h
          refine wa_iconst 123 hC dX10_load_122 kc_0 rfl ?_
          refine wa_istore_n (lv' := [(2, .int (0 : Int32)), (0, .ref (ρ 10 0))]) 124 2 hC dX10_load_123 rfl rfl (by decide) rfl rfl ?_
          refine wa_pick [1, 0] rfl ?_
          refine wX10_load_L124 hC hVC (fun Z_16 h => ?_) 10000 (0 : Int32) Z_15 h
          refine wa_aload_n 145 0 hC dX10_load_144 rfl 0 rfl rfl ?_
          refine wa_getR 148 hC (vs10 hVC) (sr10_0 _) flX10_7 dX10_load_145 rfl ?_
          refine wa_iconst 149 hC dX10_load_148 kc_4 rfl ?_
          refine wa_ialdr 150 hC (vs27 hVC) ar27 rfl (by decide) dX10_load_149 rfl ?_
          exact wa_iret hC hQ (sm1 h) (jZ (sm2 h)) dX10_load_150
        · refine wa_aload_n 87 0 hC dX10_load_86 rfl 0 rfl rfl ?_
          refine wa_getIr 90 hC (vs10 hVC) sh10_13 rfl flX10_123 dX10_load_87 rfl ?_
          exact wa_iret hC hQ (sm1 h) (jZ (sm2 h)) dX10_load_90
      clear ekj_12
      refine wa_if_ne 68 72 hC dX10_load_65 rfl rfl h (fun h => ?_) (fun h => ?_)
      · refine wa_aload_n 73 0 hC dX10_load_72 rfl 0 rfl rfl ?_
        refine wa_getIr 76 hC (vs10 hVC) sh10_14 rfl flX10_126 dX10_load_73 rfl ?_
        refine wa_pick [0] rfl ?_
        exact hkj_12 (Z_10.1 10 14 0 0) h
      · refine wa_iconst 69 hC dX10_load_68 kc_m1 rfl ?_
        refine wa_goto 76 hC dX10_load_69 rfl ?_
        refine wa_pick [0] rfl ?_
        exact hkj_12 (-1 : Int32) h
    · refine wa_iconst 31 hC dX10_load_30 kc_0 rfl ?_
      exact wa_iret hC hQ (sm1 h) (jZ (sm2 h)) dX10_load_31
  clear ekj_3
  refine wa_if_eq 15 19 hC dX10_load_12 rfl rfl h (fun h => ?_) (fun h => ?_)
  · refine wa_iconst 20 hC dX10_load_19 kc_1 rfl ?_
    exact hkj_3 (1 : Int32) h
  · refine wa_iconst 16 hC dX10_load_15 kc_0 rfl ?_
    refine wa_goto 20 hC dX10_load_16 rfl ?_
    exact hkj_3 (0 : Int32) h
set_option maxRecDepth 20000 in
theorem tX10_errorPosition (l : Launch) {G : gU} {ρ : Nat → Nat → Nat} {V : Nat → Nat → Prop} {A : sM} (Z : sM) (_ : VC V) {r : Int32} {Z' : sM} (h : fX10_errorPosition Z = some (r, Z')) : MT l yX10_errorPosition cX10_errorPosition 1 (some .int) 1 G ρ V [.ref (ρ 10 0)] (J A Z) (some (.int r)) (J A Z') := by
  refine vv_enter (lv := [(0, .ref (ρ 10 0))]) RX10 rfl (by decide) (Nat.le_of_ble_eq_true rfl) rfl ?_
  intro E hE hC hQ hVC
  subst hE
  rw [fX10_errorPosition] at h
  refine wa_aload_n 1 0 hC dX10_errorPosition_0 rfl 0 rfl rfl ?_
  refine wa_iconst 2 hC dX10_errorPosition_1 kc_0 rfl ?_
  obtain ⟨Z_1, eZ_1, h⟩ := ltb_some h
  refine wa_putIr 5 hC (vs10 hVC) nk10 eZ_1 sh10_6 rfl fpX10_63 dX10_errorPosition_2 rfl ?_
  refine wa_aload_n 6 0 hC dX10_errorPosition_5 rfl 0 rfl rfl ?_
  refine wa_getIr 9 hC (vs10 hVC) sh10_15 rfl flX10_29 dX10_errorPosition_6 rfl ?_
  exact wa_iret hC hQ (sm1 h) (jZ (sm2 h)) dX10_errorPosition_9
set_option maxRecDepth 20000 in
theorem tX10_mostShares (l : Launch) {G : gU} {ρ : Nat → Nat → Nat} {V : Nat → Nat → Prop} {A : sM} (Z : sM) (_ : VC V) {r : Int32} (h : fX10_mostShares Z = some r) : MT l yX10_mostShares cX10_mostShares 2 (some .int) 1 G ρ V [.ref (ρ 10 0)] (J A Z) (some (.int r)) (J A Z) := by
  refine vv_enter (lv := [(0, .ref (ρ 10 0))]) RX10 rfl (by decide) (Nat.le_of_ble_eq_true rfl) rfl ?_
  intro E hE hC hQ hVC
  subst hE
  rw [fX10_mostShares] at h
  refine wa_aload_n 1 0 hC dX10_mostShares_0 rfl 0 rfl rfl ?_
  refine wa_getR 4 hC (vs10 hVC) (sr10_0 _) flX10_7 dX10_mostShares_1 rfl ?_
  refine wa_iconst 5 hC dX10_mostShares_4 kc_0 rfl ?_
  refine wa_ialdr 6 hC (vs27 hVC) ar27 rfl (by decide) dX10_mostShares_5 rfl ?_
  refine wa_i2l 7 hC dX10_mostShares_6 rfl ?_
  refine wa_aload_n 8 0 hC dX10_mostShares_7 rfl 0 rfl rfl ?_
  refine wa_getR 11 hC (vs10 hVC) (sr10_0 _) flX10_7 dX10_mostShares_8 rfl ?_
  refine wa_iconst 12 hC dX10_mostShares_11 kc_3 rfl ?_
  refine wa_ialdr 13 hC (vs27 hVC) ar27 rfl (by decide) dX10_mostShares_12 rfl ?_
  refine wa_i2l 14 hC dX10_mostShares_13 rfl ?_
  refine wa_lmul 15 hC dX10_mostShares_14 rfl ?_
  refine wa_ldc2 18 hC dX10_mostShares_15 lcX10_160 rfl ?_
  refine wa_ldiv 19 hC dX10_mostShares_18 (by decide) rfl ?_
  refine wa_l2i 20 hC dX10_mostShares_19 rfl ?_
  obtain ⟨x1_3, ex1_3, h⟩ := ltb_some h
  refine wa_istore_n (lv' := [(1, .int x1_3), (0, .ref (ρ 10 0))]) 21 1 hC dX10_mostShares_20 rfl ex1_3 (by decide) rfl rfl ?_
  refine wa_iload_n 22 1 hC dX10_mostShares_21 rfl 0 rfl rfl ?_
  refine wa_iconst 23 hC dX10_mostShares_22 kc_1 rfl ?_
  refine wa_icmp_ge 26 30 hC dX10_mostShares_23 rfl rfl h (fun h => ?_) (fun h => ?_)
  · refine wa_iload_n 31 1 hC dX10_mostShares_30 rfl 0 rfl rfl ?_
    exact wa_iret hC hQ (sm0 h) rfl dX10_mostShares_31
  · refine wa_iconst 27 hC dX10_mostShares_26 kc_1 rfl ?_
    refine wa_goto 31 hC dX10_mostShares_27 rfl ?_
    exact wa_iret hC hQ (sm0 h) rfl dX10_mostShares_31
set_option maxRecDepth 20000 in
theorem tX10_setting (l : Launch) {G : gU} {ρ : Nat → Nat → Nat} {V : Nat → Nat → Prop} {A : sM} (x1 : Int32) (Z : sM) (_ : VC V) {r : Int32} {Z' : sM} (h : fX10_setting x1 Z = some (r, Z')) : MT l yX10_setting cX10_setting 2 (some .int) 2 G ρ V [.ref (ρ 10 0), .int x1] (J A Z) (some (.int r)) (J A Z') := by
  refine vv_enter (lv := [(0, .ref (ρ 10 0)), (1, .int x1)]) RX10 rfl (by decide) (Nat.le_of_ble_eq_true rfl) rfl ?_
  intro E hE hC hQ hVC
  subst hE
  rw [fX10_setting] at h
  refine wa_aload_n 1 0 hC dX10_setting_0 rfl 0 rfl rfl ?_
  refine wa_iload_n 2 1 hC dX10_setting_1 rfl 1 rfl rfl ?_
  refine wa_i2l 3 hC dX10_setting_2 rfl ?_
  refine wa_lconst 4 hC dX10_setting_3 kl_0 rfl ?_
  refine wa_ldc2 7 hC dX10_setting_4 lcX10_162 rfl ?_
  obtain ⟨r_1, e_8, h⟩ := bd_some h
  refine wa_callSi 10 hC [.long (x1.toInt64), .long (0 : Int64), .long (5 : Int64)] [.ref (ρ 10 0)] knX10_isIn msX10_104 (tX10_isIn E.2.1 (x1.toInt64) (0 : Int64) (5 : Int64) Z hVC e_8) (Nat.le_of_ble_eq_true rfl) (Nat.le_of_ble_eq_true rfl) rfl (Nat.le_of_ble_eq_true rfl) dX10_setting_7 rfl le00 rfl ?_
  obtain ⟨kj_3, ekj_3, h⟩ := ltb_k1 h
  have hkj_3 : ∀ (v_2 : Int32), kj_3 v_2 = some (r, Z') → WA E G ρ V 0 0 (J A Z) 18 [(0, .ref (ρ 10 0)), (1, .int x1)] [.int v_2, .ref (ρ 10 0)] := by
    intro v_2 h
    rw [ekj_3] at h
    obtain ⟨Z_4, eZ_4, h⟩ := ltb_some h
    refine wa_putIr 21 hC (vs10 hVC) nk10 eZ_4 sh10_6 rfl fpX10_63 dX10_setting_18 rfl ?_
    refine wa_aload_n 22 0 hC dX10_setting_21 rfl 0 rfl rfl ?_
    refine wa_getIr 25 hC (vs10 hVC) sh10_6 rfl flX10_63 dX10_setting_22 rfl ?_
    refine wa_if_le 28 32 hC dX10_setting_25 rfl rfl h (fun h => ?_) (fun h => ?_)
    · refine wa_iload_n 33 1 hC dX10_setting_32 rfl 1 rfl rfl ?_
      refine wa_iconst 34 hC dX10_setting_33 kc_5 rfl ?_
      refine wa_icmp_ne 37 44 hC dX10_setting_34 rfl rfl h (fun h => ?_) (fun h => ?_)
      · refine wa_aload_n 45 0 hC dX10_setting_44 rfl 0 rfl rfl ?_
        refine wa_getR 48 hC (vs10 hVC) (sr10_0 _) flX10_7 dX10_setting_45 rfl ?_
        refine wa_iload_n 49 1 hC dX10_setting_48 rfl 1 rfl rfl ?_
        obtain ⟨g_5, h⟩ := gd_some h
        refine wa_ialdr 50 hC (vs27 hVC) ar27 rfl g_5 dX10_setting_49 rfl ?_
        exact wa_iret hC hQ (sm1 h) (jZ (sm2 h)) dX10_setting_50
      · refine wa_aload_n 38 0 hC dX10_setting_37 rfl 0 rfl rfl ?_
        obtain ⟨r_6, e_7, h⟩ := bd_some h
        refine wa_callVi 41 hC [] [] knX10_mostShares mvX10_164 (tX10_mostShares E.2.1 Z_4 hVC e_7) (vs10 hVC) kc10 (Nat.le_of_ble_eq_true rfl) (Nat.le_of_ble_eq_true rfl) rfl (Nat.le_of_ble_eq_true rfl) dX10_setting_38 rfl le00 rfl ?_
        refine wa_goto 50 hC dX10_setting_41 rfl ?_
        exact wa_iret hC hQ (sm1 h) (jZ (sm2 h)) dX10_setting_50
    · refine wa_iconst 29 hC dX10_setting_28 kc_0 rfl ?_
      refine wa_goto 50 hC dX10_setting_29 rfl ?_
      exact wa_iret hC hQ (sm1 h) (jZ (sm2 h)) dX10_setting_50
  clear ekj_3
  refine wa_if_eq 13 17 hC dX10_setting_10 rfl rfl h (fun h => ?_) (fun h => ?_)
  · refine wa_iconst 18 hC dX10_setting_17 kc_1 rfl ?_
    exact hkj_3 (1 : Int32) h
  · refine wa_iconst 14 hC dX10_setting_13 kc_0 rfl ?_
    refine wa_goto 18 hC dX10_setting_14 rfl ?_
    exact hkj_3 (0 : Int32) h
set_option maxRecDepth 20000 in
theorem tX10_periodOf (l : Launch) {G : gU} {ρ : Nat → Nat → Nat} {V : Nat → Nat → Prop} {A : sM} (x1 : Int32) (Z : sM) (_ : VC V) {r : Int32} {Z' : sM} (h : fX10_periodOf x1 Z = some (r, Z')) : MT l yX10_periodOf cX10_periodOf 2 (some .int) 2 G ρ V [.ref (ρ 10 0), .int x1] (J A Z) (some (.int r)) (J A Z') := by
  refine vv_enter (lv := [(0, .ref (ρ 10 0)), (1, .int x1)]) RX10 rfl (by decide) (Nat.le_of_ble_eq_true rfl) rfl ?_
  intro E hE hC hQ hVC
  subst hE
  rw [fX10_periodOf] at h
  refine wa_aload_n 1 0 hC dX10_periodOf_0 rfl 0 rfl rfl ?_
  refine wa_iload_n 2 1 hC dX10_periodOf_1 rfl 1 rfl rfl ?_
  refine wa_i2l 3 hC dX10_periodOf_2 rfl ?_
  refine wa_lconst 4 hC dX10_periodOf_3 kl_0 rfl ?_
  refine wa_ldc2 7 hC dX10_periodOf_4 lcX10_167 rfl ?_
  obtain ⟨r_1, e_6, h⟩ := bd_some h
  refine wa_callSi 10 hC [.long (x1.toInt64), .long (0 : Int64), .long (23 : Int64)] [.ref (ρ 10 0)] knX10_isIn msX10_104 (tX10_isIn E.2.1 (x1.toInt64) (0 : Int64) (23 : Int64) Z hVC e_6) (Nat.le_of_ble_eq_true rfl) (Nat.le_of_ble_eq_true rfl) rfl (Nat.le_of_ble_eq_true rfl) dX10_periodOf_7 rfl le00 rfl ?_
  refine wa_if_eq 13 17 hC dX10_periodOf_10 rfl rfl h (fun h => ?_) (fun h => ?_)
  · refine wa_iconst 18 hC dX10_periodOf_17 kc_1 rfl ?_
    obtain ⟨Z_2, eZ_2, h⟩ := ltb_some h
    refine wa_putIr 21 hC (vs10 hVC) nk10 eZ_2 sh10_6 rfl fpX10_63 dX10_periodOf_18 rfl ?_
    refine wa_aload_n 22 0 hC dX10_periodOf_21 rfl 0 rfl rfl ?_
    refine wa_getIr 25 hC (vs10 hVC) sh10_6 rfl flX10_63 dX10_periodOf_22 rfl ?_
    refine wa_if_le 28 32 hC dX10_periodOf_25 rfl rfl h (fun h => ?_) (fun h => ?_)
    · refine wa_aload_n 33 0 hC dX10_periodOf_32 rfl 0 rfl rfl ?_
      refine wa_getR 36 hC (vs10 hVC) (sr10_0 _) flX10_7 dX10_periodOf_33 rfl ?_
      refine wa_bipush 38 hC dX10_periodOf_36 kb_8 rfl ?_
      refine wa_iload_n 39 1 hC dX10_periodOf_38 rfl 1 rfl rfl ?_
      refine wa_iadd 40 hC dX10_periodOf_39 rfl ?_
      obtain ⟨g_3, h⟩ := gd_some h
      refine wa_ialdr 41 hC (vs27 hVC) ar27 rfl g_3 dX10_periodOf_40 rfl ?_
      exact wa_iret hC hQ (sm1 h) (jZ (sm2 h)) dX10_periodOf_41
    · refine wa_iconst 29 hC dX10_periodOf_28 kc_0 rfl ?_
      refine wa_goto 41 hC dX10_periodOf_29 rfl ?_
      exact wa_iret hC hQ (sm1 h) (jZ (sm2 h)) dX10_periodOf_41
  · refine wa_iconst 14 hC dX10_periodOf_13 kc_0 rfl ?_
    refine wa_goto 18 hC dX10_periodOf_14 rfl ?_
    obtain ⟨Z_4, eZ_4, h⟩ := ltb_some h
    refine wa_putIr 21 hC (vs10 hVC) nk10 eZ_4 sh10_6 rfl fpX10_63 dX10_periodOf_18 rfl ?_
    refine wa_aload_n 22 0 hC dX10_periodOf_21 rfl 0 rfl rfl ?_
    refine wa_getIr 25 hC (vs10 hVC) sh10_6 rfl flX10_63 dX10_periodOf_22 rfl ?_
    refine wa_if_le 28 32 hC dX10_periodOf_25 rfl rfl h (fun h => ?_) (fun h => ?_)
    · refine wa_aload_n 33 0 hC dX10_periodOf_32 rfl 0 rfl rfl ?_
      refine wa_getR 36 hC (vs10 hVC) (sr10_0 _) flX10_7 dX10_periodOf_33 rfl ?_
      refine wa_bipush 38 hC dX10_periodOf_36 kb_8 rfl ?_
      refine wa_iload_n 39 1 hC dX10_periodOf_38 rfl 1 rfl rfl ?_
      refine wa_iadd 40 hC dX10_periodOf_39 rfl ?_
      obtain ⟨g_5, h⟩ := gd_some h
      refine wa_ialdr 41 hC (vs27 hVC) ar27 rfl g_5 dX10_periodOf_40 rfl ?_
      exact wa_iret hC hQ (sm1 h) (jZ (sm2 h)) dX10_periodOf_41
    · refine wa_iconst 29 hC dX10_periodOf_28 kc_0 rfl ?_
      refine wa_goto 41 hC dX10_periodOf_29 rfl ?_
      exact wa_iret hC hQ (sm1 h) (jZ (sm2 h)) dX10_periodOf_41
set_option maxRecDepth 20000 in
theorem tX10_ofMember (l : Launch) {G : gU} {ρ : Nat → Nat → Nat} {V : Nat → Nat → Prop} {A : sM} (x1 : Int32) (x2 : Int32) (Z : sM) (_ : VC V) {r : Int32} (h : fX10_ofMember x1 x2 Z = some r) : MT l yX10_ofMember cX10_ofMember 3 (some .int) 1 G ρ V [.ref (ρ 10 0), .int x1, .int x2] (J A Z) (some (.int r)) (J A Z) := by
  refine vv_enter (lv := [(0, .ref (ρ 10 0)), (1, .int x1), (2, .int x2)]) RX10 rfl (by decide) (Nat.le_of_ble_eq_true rfl) rfl ?_
  intro E hE hC hQ hVC
  subst hE
  rw [fX10_ofMember] at h
  refine wa_aload_n 1 0 hC dX10_ofMember_0 rfl 0 rfl rfl ?_
  refine wa_getR 4 hC (vs10 hVC) (sr10_0 _) flX10_7 dX10_ofMember_1 rfl ?_
  refine wa_bipush 6 hC dX10_ofMember_4 kb_36 rfl ?_
  refine wa_bipush 8 hC dX10_ofMember_6 kb_7 rfl ?_
  refine wa_iload_n 9 1 hC dX10_ofMember_8 rfl 1 rfl rfl ?_
  refine wa_imul 10 hC dX10_ofMember_9 rfl ?_
  refine wa_iadd 11 hC dX10_ofMember_10 rfl ?_
  refine wa_iload_n 12 2 hC dX10_ofMember_11 rfl 2 rfl rfl ?_
  refine wa_iadd 13 hC dX10_ofMember_12 rfl ?_
  obtain ⟨g_1, h⟩ := gd_some h
  refine wa_ialdr 14 hC (vs27 hVC) ar27 rfl g_1 dX10_ofMember_13 rfl ?_
  exact wa_iret hC hQ (sm0 h) rfl dX10_ofMember_14
set_option maxRecDepth 20000 in
theorem tX10_setMember (l : Launch) {G : gU} {ρ : Nat → Nat → Nat} {V : Nat → Nat → Prop} {A : sM} (x1 : Int32) (x2 : Int32) (x3 : Int32) (Z : sM) (_ : VC V) {Z' : sM} (h : fX10_setMember x1 x2 x3 Z = some Z') : MT l yX10_setMember cX10_setMember 4 none 1 G ρ V [.ref (ρ 10 0), .int x1, .int x2, .int x3] (J A Z) none (J A Z') := by
  refine vv_enter (lv := [(0, .ref (ρ 10 0)), (1, .int x1), (2, .int x2), (3, .int x3)]) RX10 rfl (by decide) (Nat.le_of_ble_eq_true rfl) rfl ?_
  intro E hE hC hQ hVC
  subst hE
  rw [fX10_setMember] at h
  refine wa_aload_n 1 0 hC dX10_setMember_0 rfl 0 rfl rfl ?_
  refine wa_getR 4 hC (vs10 hVC) (sr10_0 _) flX10_7 dX10_setMember_1 rfl ?_
  refine wa_bipush 6 hC dX10_setMember_4 kb_36 rfl ?_
  refine wa_bipush 8 hC dX10_setMember_6 kb_7 rfl ?_
  refine wa_iload_n 9 1 hC dX10_setMember_8 rfl 1 rfl rfl ?_
  refine wa_imul 10 hC dX10_setMember_9 rfl ?_
  refine wa_iadd 11 hC dX10_setMember_10 rfl ?_
  refine wa_iload_n 12 2 hC dX10_setMember_11 rfl 2 rfl rfl ?_
  refine wa_iadd 13 hC dX10_setMember_12 rfl ?_
  refine wa_iload_n 14 3 hC dX10_setMember_13 rfl 3 rfl rfl ?_
  obtain ⟨g_1, h⟩ := gd_some h
  obtain ⟨Z_2, eZ_2, h⟩ := ltb_some h
  refine wa_iastr 15 hC (vs27 hVC) nk27 ar27 rfl g_1 eZ_2 dX10_setMember_14 rfl ?_
  exact wa_vret hC hQ (jZ (sm0 h)) dX10_setMember_15
set_option maxRecDepth 20000 in
theorem tX10_isMember (l : Launch) {G : gU} {ρ : Nat → Nat → Nat} {V : Nat → Nat → Prop} {A : sM} (x1 : Int32) (Z : sM) (_ : VC V) {r : Int32} (h : fX10_isMember x1 Z = some r) : MT l yX10_isMember cX10_isMember 2 (some .boolean) 2 G ρ V [.ref (ρ 10 0), .int x1] (J A Z) (some (.int r)) (J A Z) := by
  refine vv_enter (lv := [(0, .ref (ρ 10 0)), (1, .int x1)]) RX10 rfl (by decide) (Nat.le_of_ble_eq_true rfl) rfl ?_
  intro E hE hC hQ hVC
  subst hE
  rw [fX10_isMember] at h
  refine wa_iload_n 1 1 hC dX10_isMember_0 rfl 1 rfl rfl ?_
  refine wa_i2l 2 hC dX10_isMember_1 rfl ?_
  refine wa_lconst 3 hC dX10_isMember_2 kl_0 rfl ?_
  refine wa_aload_n 4 0 hC dX10_isMember_3 rfl 0 rfl rfl ?_
  refine wa_getR 7 hC (vs10 hVC) (sr10_0 _) flX10_7 dX10_isMember_4 rfl ?_
  refine wa_bipush 9 hC dX10_isMember_7 kb_7 rfl ?_
  refine wa_ialdr 10 hC (vs27 hVC) ar27 rfl (by decide) dX10_isMember_9 rfl ?_
  refine wa_iconst 11 hC dX10_isMember_10 kc_1 rfl ?_
  refine wa_isub 12 hC dX10_isMember_11 rfl ?_
  refine wa_i2l 13 hC dX10_isMember_12 rfl ?_
  obtain ⟨r_2, e_4, h⟩ := bd_some h
  refine wa_callSi 16 hC [.long (x1.toInt64), .long (0 : Int64), .long (((Z.1 27 0 0 (7 : Int32).toNatClampNeg) - (1 : Int32)).toInt64)] [] knX10_isIn msX10_104 (tX10_isIn E.2.1 (x1.toInt64) (0 : Int64) (((Z.1 27 0 0 (7 : Int32).toNatClampNeg) - (1 : Int32)).toInt64) Z hVC e_4) (Nat.le_of_ble_eq_true rfl) (Nat.le_of_ble_eq_true rfl) rfl (Nat.le_of_ble_eq_true rfl) dX10_isMember_13 rfl le00 rfl ?_
  obtain ⟨g_3, h⟩ := gd_some h
  exact wa_zret hC hQ (sm0 h) rfl (isZ_n g_3) dX10_isMember_16
set_option maxRecDepth 20000 in
theorem tX10_isActive (l : Launch) {G : gU} {ρ : Nat → Nat → Nat} {V : Nat → Nat → Prop} {A : sM} (x1 : Int32) (Z : sM) (_ : VC V) {r : Int32} (h : fX10_isActive x1 Z = some r) : MT l yX10_isActive cX10_isActive 2 (some .boolean) 2 G ρ V [.ref (ρ 10 0), .int x1] (J A Z) (some (.int r)) (J A Z) := by
  refine vv_enter (lv := [(0, .ref (ρ 10 0)), (1, .int x1)]) RX10 rfl (by decide) (Nat.le_of_ble_eq_true rfl) rfl ?_
  intro E hE hC hQ hVC
  subst hE
  rw [fX10_isActive] at h
  refine wa_aload_n 1 0 hC dX10_isActive_0 rfl 0 rfl rfl ?_
  refine wa_iload_n 2 1 hC dX10_isActive_1 rfl 1 rfl rfl ?_
  refine wa_iconst 3 hC dX10_isActive_2 kc_3 rfl ?_
  obtain ⟨r_1, e_2, h⟩ := bd_some h
  refine wa_callVi 6 hC [.int x1, .int (3 : Int32)] [] knX10_ofMember mvX10_169 (tX10_ofMember E.2.1 x1 (3 : Int32) Z hVC e_2) (vs10 hVC) kc10 (Nat.le_of_ble_eq_true rfl) (Nat.le_of_ble_eq_true rfl) rfl (Nat.le_of_ble_eq_true rfl) dX10_isActive_3 rfl le00 rfl ?_
  refine wa_iconst 7 hC dX10_isActive_6 kc_1 rfl ?_
  refine wa_icmp_ne 10 14 hC dX10_isActive_7 rfl rfl h (fun h => ?_) (fun h => ?_)
  · refine wa_iconst 15 hC dX10_isActive_14 kc_0 rfl ?_
    exact wa_zret hC hQ (sm0 h) rfl rfl dX10_isActive_15
  · refine wa_iconst 11 hC dX10_isActive_10 kc_1 rfl ?_
    refine wa_goto 15 hC dX10_isActive_11 rfl ?_
    exact wa_zret hC hQ (sm0 h) rfl rfl dX10_isActive_15
set_option maxRecDepth 20000 in
theorem wX10_free_L9 {E : eU} {G : gU} {ρ : Nat → Nat → Nat} {V : Nat → Nat → Prop} {A : sM} {r : Int32} (Z : sM) {k35 : Int32 → Option (Int32)} (hC : CX E G cX10_free 3 RX10 (some .int) 2 0 0) (hVC : VC V) (hk35 : ∀ (x1 : Int32), k35 x1 = some r → WA E G ρ V 0 0 (J A Z) 35 [(1, .int x1)] []) : ∀ (n : Nat) (x1 : Int32) (x2 : Int32), fX10_free_L9 Z k35 n x1 x2 = some r → WA E G ρ V 0 0 (J A Z) 9 [(0, .ref (ρ 10 0)), (1, .int x1), (2, .int x2)] [] := by
  intro n
  induction n with
  | zero =>
    intro x1 x2 h
    rw [fX10_free_L9] at h
    cases h
  | succ n ih =>
    intro x1 x2 h
    rw [fX10_free_L9] at h
    refine wa_iload_n 10 2 hC dX10_free_9 rfl 2 rfl rfl ?_
    refine wa_aload_n 11 0 hC dX10_free_10 rfl 0 rfl rfl ?_
    refine wa_getR 14 hC (vs10 hVC) (sr10_0 _) flX10_7 dX10_free_11 rfl ?_
    refine wa_bipush 16 hC dX10_free_14 kb_7 rfl ?_
    refine wa_ialdr 17 hC (vs27 hVC) ar27 rfl (by decide) dX10_free_16 rfl ?_
    refine wa_icmp_ge 20 35 hC dX10_free_17 rfl rfl h (fun h => ?_) (fun h => ?_)
    · refine wa_pick [1] rfl ?_
      exact hk35 x1 h
    · refine wa_iload_n 21 1 hC dX10_free_20 rfl 1 rfl rfl ?_
      refine wa_aload_n 22 0 hC dX10_free_21 rfl 0 rfl rfl ?_
      refine wa_iload_n 23 2 hC dX10_free_22 rfl 2 rfl rfl ?_
      refine wa_iconst 24 hC dX10_free_23 kc_4 rfl ?_
      obtain ⟨r_2, e_5, h⟩ := bd_some h
      refine wa_callVi 27 hC [.int x2, .int (4 : Int32)] [.int x1] knX10_ofMember mvX10_169 (tX10_ofMember E.2.1 x2 (4 : Int32) Z hVC e_5) (vs10 hVC) kc10 (Nat.le_of_ble_eq_true rfl) (Nat.le_of_ble_eq_true rfl) rfl (Nat.le_of_ble_eq_true rfl) dX10_free_24 rfl le00 rfl ?_
      refine wa_isub 28 hC dX10_free_27 rfl ?_
      obtain ⟨x1_3, ex1_3, h⟩ := ltb_some h
      refine wa_istore_n (lv' := [(1, .int x1_3), (0, .ref (ρ 10 0)), (2, .int x2)]) 29 1 hC dX10_free_28 rfl ex1_3 (by decide) rfl rfl ?_
      obtain ⟨x2_4, ex2_4, h⟩ := ltb_some h
      refine wa_iinc (lv' := [(2, .int x2_4), (1, .int x1_3), (0, .ref (ρ 10 0))]) 32 2 hC dX10_free_29 2 rfl (by rw [kc_1]; exact ex2_4) (by decide) rfl rfl ?_
      refine wa_goto 9 hC dX10_free_32 rfl ?_
      refine wa_pick [2, 1, 0] rfl ?_
      exact ih x1_3 x2_4 h
set_option maxRecDepth 20000 in
theorem tX10_free (l : Launch) {G : gU} {ρ : Nat → Nat → Nat} {V : Nat → Nat → Prop} {A : sM} (Z : sM) (_ : VC V) {r : Int32} (h : fX10_free Z = some r) : MT l yX10_free cX10_free 3 (some .int) 2 G ρ V [.ref (ρ 10 0)] (J A Z) (some (.int r)) (J A Z) := by
  refine vv_enter (lv := [(0, .ref (ρ 10 0))]) RX10 rfl (by decide) (Nat.le_of_ble_eq_true rfl) rfl ?_
  intro E hE hC hQ hVC
  subst hE
  rw [fX10_free] at h
  refine wa_aload_n 1 0 hC dX10_free_0 rfl 0 rfl rfl ?_
  refine wa_getR 4 hC (vs10 hVC) (sr10_0 _) flX10_7 dX10_free_1 rfl ?_
  refine wa_iconst 5 hC dX10_free_4 kc_0 rfl ?_
  refine wa_ialdr 6 hC (vs27 hVC) ar27 rfl (by decide) dX10_free_5 rfl ?_
  obtain ⟨x1_2, ex1_2, h⟩ := ltb_some h
  refine wa_istore_n (lv' := [(1, .int x1_2), (0, .ref (ρ 10 0))]) 7 1 hC dX10_free_6 rfl ex1_2 (by decide) rfl rfl ?_
  refine wa_iconst 8 hC dX10_free_7 kc_0 rfl ?_
  refine wa_istore_n (lv' := [(2, .int (0 : Int32)), (1, .int x1_2), (0, .ref (ρ 10 0))]) 9 2 hC dX10_free_8 rfl rfl (by decide) rfl rfl ?_
  refine wa_pick [2, 1, 0] rfl ?_
  refine wX10_free_L9 Z hC hVC (fun x1_3 h => ?_) 10000 x1_2 (0 : Int32) h
  refine wa_iload_n 36 1 hC dX10_free_35 rfl 0 rfl rfl ?_
  exact wa_iret hC hQ (sm0 h) rfl dX10_free_36
set_option maxRecDepth 20000 in
theorem wX10_placeOf_L4 {E : eU} {G : gU} {ρ : Nat → Nat → Nat} {V : Nat → Nat → Prop} {A : sM} {r : Int32} (x1 : Int32) (Z : sM) {k76 : Int32 → Option (Int32)} (hC : CX E G cX10_placeOf 5 RX10 (some .int) 2 0 0) (hVC : VC V) (hk76 : ∀ (x2 : Int32), k76 x2 = some r → WA E G ρ V 0 0 (J A Z) 76 [(2, .int x2)] []) : ∀ (n : Nat) (x2 : Int32) (x3 : Int32), fX10_placeOf_L4 x1 Z k76 n x2 x3 = some r → WA E G ρ V 0 0 (J A Z) 4 [(0, .ref (ρ 10 0)), (1, .int x1), (2, .int x2), (3, .int x3)] [] := by
  intro n
  induction n with
  | zero =>
    intro x2 x3 h
    rw [fX10_placeOf_L4] at h
    cases h
  | succ n ih =>
    intro x2 x3 h
    rw [fX10_placeOf_L4] at h
    refine wa_iload_n 5 3 hC dX10_placeOf_4 rfl 3 rfl rfl ?_
    refine wa_aload_n 6 0 hC dX10_placeOf_5 rfl 0 rfl rfl ?_
    refine wa_getR 9 hC (vs10 hVC) (sr10_0 _) flX10_7 dX10_placeOf_6 rfl ?_
    refine wa_bipush 11 hC dX10_placeOf_9 kb_7 rfl ?_
    refine wa_ialdr 12 hC (vs27 hVC) ar27 rfl (by decide) dX10_placeOf_11 rfl ?_
    refine wa_icmp_ge 15 76 hC dX10_placeOf_12 rfl rfl h (fun h => ?_) (fun h => ?_)
    · refine wa_pick [2] rfl ?_
      exact hk76 x2 h
    · refine wa_iload_n 16 3 hC dX10_placeOf_15 rfl 3 rfl rfl ?_
      refine wa_iload_n 17 1 hC dX10_placeOf_16 rfl 1 rfl rfl ?_
      obtain ⟨kj_3, ekj_3, h⟩ := ltb_k1 h
      have hkj_3 : ∀ (x2_2 : Int32), kj_3 x2_2 = some r → WA E G ρ V 0 0 (J A Z) 70 [(0, .ref (ρ 10 0)), (1, .int x1), (2, .int x2_2), (3, .int x3)] [] := by
        intro x2_2 h
        rw [ekj_3] at h
        obtain ⟨x3_4, ex3_4, h⟩ := ltb_some h
        refine wa_iinc (lv' := [(3, .int x3_4), (0, .ref (ρ 10 0)), (1, .int x1), (2, .int x2_2)]) 73 3 hC dX10_placeOf_70 3 rfl (by rw [kc_1]; exact ex3_4) (by decide) rfl rfl ?_
        refine wa_goto 4 hC dX10_placeOf_73 rfl ?_
        refine wa_pick [1, 2, 3, 0] rfl ?_
        exact ih x2_2 x3_4 h
      clear ekj_3
      refine wa_icmp_eq 20 70 hC dX10_placeOf_17 rfl rfl h (fun h => ?_) (fun h => ?_)
      · exact hkj_3 x2 h
      · refine wa_aload_n 21 0 hC dX10_placeOf_20 rfl 0 rfl rfl ?_
        refine wa_iload_n 22 3 hC dX10_placeOf_21 rfl 3 rfl rfl ?_
        refine wa_iconst 23 hC dX10_placeOf_22 kc_3 rfl ?_
        obtain ⟨r_5, e_16, h⟩ := bd_some h
        refine wa_callVi 26 hC [.int x3, .int (3 : Int32)] [] knX10_ofMember mvX10_169 (tX10_ofMember E.2.1 x3 (3 : Int32) Z hVC e_16) (vs10 hVC) kc10 (Nat.le_of_ble_eq_true rfl) (Nat.le_of_ble_eq_true rfl) rfl (Nat.le_of_ble_eq_true rfl) dX10_placeOf_23 rfl le00 rfl ?_
        refine wa_if_eq 29 32 hC dX10_placeOf_26 rfl rfl h (fun h => ?_) (fun h => ?_)
        · refine wa_aload_n 33 0 hC dX10_placeOf_32 rfl 0 rfl rfl ?_
          refine wa_iload_n 34 3 hC dX10_placeOf_33 rfl 3 rfl rfl ?_
          refine wa_iconst 35 hC dX10_placeOf_34 kc_2 rfl ?_
          obtain ⟨r_6, e_15, h⟩ := bd_some h
          refine wa_callVi 38 hC [.int x3, .int (2 : Int32)] [] knX10_ofMember mvX10_169 (tX10_ofMember E.2.1 x3 (2 : Int32) Z hVC e_15) (vs10 hVC) kc10 (Nat.le_of_ble_eq_true rfl) (Nat.le_of_ble_eq_true rfl) rfl (Nat.le_of_ble_eq_true rfl) dX10_placeOf_35 rfl le00 rfl ?_
          refine wa_aload_n 39 0 hC dX10_placeOf_38 rfl 0 rfl rfl ?_
          refine wa_iload_n 40 1 hC dX10_placeOf_39 rfl 1 rfl rfl ?_
          refine wa_iconst 41 hC dX10_placeOf_40 kc_2 rfl ?_
          obtain ⟨r_7, e_14, h⟩ := bd_some h
          refine wa_callVi 44 hC [.int x1, .int (2 : Int32)] [.int r_6] knX10_ofMember mvX10_169 (tX10_ofMember E.2.1 x1 (2 : Int32) Z hVC e_14) (vs10 hVC) kc10 (Nat.le_of_ble_eq_true rfl) (Nat.le_of_ble_eq_true rfl) rfl (Nat.le_of_ble_eq_true rfl) dX10_placeOf_41 rfl le00 rfl ?_
          refine wa_isub 45 hC dX10_placeOf_44 rfl ?_
          obtain ⟨x4_8, ex4_8, h⟩ := ltb_some h
          refine wa_istore (lv' := [(4, .int x4_8), (0, .ref (ρ 10 0)), (1, .int x1), (2, .int x2), (3, .int x3)]) 47 4 hC dX10_placeOf_45 ex4_8 (by decide) rfl rfl ?_
          refine wa_iload_n 48 2 hC dX10_placeOf_47 rfl 3 rfl rfl ?_
          refine wa_iload 50 4 hC dX10_placeOf_48 0 rfl rfl ?_
          obtain ⟨kj_10, ekj_10, h⟩ := ltb_k1 h
          have hkj_10 : ∀ (v_9 : Int32), kj_10 v_9 = some r → WA E G ρ V 0 0 (J A Z) 68 [(0, .ref (ρ 10 0)), (1, .int x1), (3, .int x3)] [.int v_9, .int x2] := by
            intro v_9 h
            rw [ekj_10] at h
            refine wa_iadd 69 hC dX10_placeOf_68 rfl ?_
            obtain ⟨x2_11, ex2_11, h⟩ := ltb_some h
            refine wa_istore_n (lv' := [(2, .int x2_11), (0, .ref (ρ 10 0)), (1, .int x1), (3, .int x3)]) 70 2 hC dX10_placeOf_69 rfl ex2_11 (by decide) rfl rfl ?_
            refine wa_pick [1, 2, 0, 3] rfl ?_
            exact hkj_3 x2_11 h
          clear ekj_10
          obtain ⟨kj_12, ekj_12, h⟩ := ltb_some h
          have hkj_12 : kj_12 = some r → WA E G ρ V 0 0 (J A Z) 63 [(0, .ref (ρ 10 0)), (1, .int x1), (3, .int x3)] [.int x2] := by
            intro h
            rw [ekj_12] at h
            refine wa_iconst 64 hC dX10_placeOf_63 kc_1 rfl ?_
            refine wa_goto 68 hC dX10_placeOf_64 rfl ?_
            exact hkj_10 (1 : Int32) h
          clear ekj_12
          refine wa_if_gt 53 63 hC dX10_placeOf_50 rfl rfl h (fun h => ?_) (fun h => ?_)
          · refine wa_pick [1, 2, 4] rfl ?_
            exact hkj_12 h
          · refine wa_iload 55 4 hC dX10_placeOf_53 0 rfl rfl ?_
            obtain ⟨kj_13, ekj_13, h⟩ := ltb_some h
            have hkj_13 : kj_13 = some r → WA E G ρ V 0 0 (J A Z) 67 [(0, .ref (ρ 10 0)), (1, .int x1), (3, .int x3)] [.int x2] := by
              intro h
              rw [ekj_13] at h
              refine wa_iconst 68 hC dX10_placeOf_67 kc_0 rfl ?_
              exact hkj_10 (0 : Int32) h
            clear ekj_13
            refine wa_if_ne 58 67 hC dX10_placeOf_55 rfl rfl h (fun h => ?_) (fun h => ?_)
            · refine wa_pick [1, 2, 4] rfl ?_
              exact hkj_13 h
            · refine wa_iload_n 59 3 hC dX10_placeOf_58 rfl 4 rfl rfl ?_
              refine wa_iload_n 60 1 hC dX10_placeOf_59 rfl 2 rfl rfl ?_
              refine wa_icmp_ge 63 67 hC dX10_placeOf_60 rfl rfl h (fun h => ?_) (fun h => ?_)
              · refine wa_pick [1, 2, 4] rfl ?_
                exact hkj_13 h
              · refine wa_pick [1, 2, 4] rfl ?_
                exact hkj_12 h
        · refine wa_goto 70 hC dX10_placeOf_29 rfl ?_
          exact hkj_3 x2 h
set_option maxRecDepth 20000 in
theorem tX10_placeOf (l : Launch) {G : gU} {ρ : Nat → Nat → Nat} {V : Nat → Nat → Prop} {A : sM} (x1 : Int32) (Z : sM) (_ : VC V) {r : Int32} (h : fX10_placeOf x1 Z = some r) : MT l yX10_placeOf cX10_placeOf 5 (some .int) 2 G ρ V [.ref (ρ 10 0), .int x1] (J A Z) (some (.int r)) (J A Z) := by
  refine vv_enter (lv := [(0, .ref (ρ 10 0)), (1, .int x1)]) RX10 rfl (by decide) (Nat.le_of_ble_eq_true rfl) rfl ?_
  intro E hE hC hQ hVC
  subst hE
  rw [fX10_placeOf] at h
  refine wa_iconst 1 hC dX10_placeOf_0 kc_0 rfl ?_
  refine wa_istore_n (lv' := [(2, .int (0 : Int32)), (0, .ref (ρ 10 0)), (1, .int x1)]) 2 2 hC dX10_placeOf_1 rfl rfl (by decide) rfl rfl ?_
  refine wa_iconst 3 hC dX10_placeOf_2 kc_0 rfl ?_
  refine wa_istore_n (lv' := [(3, .int (0 : Int32)), (2, .int (0 : Int32)), (0, .ref (ρ 10 0)), (1, .int x1)]) 4 3 hC dX10_placeOf_3 rfl rfl (by decide) rfl rfl ?_
  refine wa_pick [2, 3, 1, 0] rfl ?_
  refine wX10_placeOf_L4 x1 Z hC hVC (fun x2_1 h => ?_) 10000 (0 : Int32) (0 : Int32) h
  refine wa_iload_n 77 2 hC dX10_placeOf_76 rfl 0 rfl rfl ?_
  exact wa_iret hC hQ (sm0 h) rfl dX10_placeOf_77
set_option maxRecDepth 20000 in
theorem wX10_goesThrough_L9 {E : eU} {G : gU} {ρ : Nat → Nat → Nat} {V : Nat → Nat → Prop} {A : sM} {Z' : sM} (x1 : Int32) {k118 : sM → Option (sM)} (hC : CX E G cX10_goesThrough 5 RX10 none 3 0 0) (hVC : VC V) (hk118 : ∀ (Z : sM), k118 Z = some Z' → WA E G ρ V 0 0 (J A Z) 118 [(0, .ref (ρ 10 0)), (1, .int x1)] []) : ∀ (n : Nat) (x2 : Int32) (Z : sM), fX10_goesThrough_L9 x1 k118 n x2 Z = some Z' → WA E G ρ V 0 0 (J A Z) 9 [(0, .ref (ρ 10 0)), (1, .int x1), (2, .int x2)] [] := by
  intro n
  induction n with
  | zero =>
    intro x2 Z h
    rw [fX10_goesThrough_L9] at h
    cases h
  | succ n ih =>
    intro x2 Z h
    rw [fX10_goesThrough_L9] at h
    refine wa_iload_n 10 2 hC dX10_goesThrough_9 rfl 2 rfl rfl ?_
    refine wa_aload_n 11 0 hC dX10_goesThrough_10 rfl 0 rfl rfl ?_
    refine wa_getR 14 hC (vs10 hVC) (sr10_0 _) flX10_7 dX10_goesThrough_11 rfl ?_
    refine wa_bipush 16 hC dX10_goesThrough_14 kb_7 rfl ?_
    refine wa_ialdr 17 hC (vs27 hVC) ar27 rfl (by decide) dX10_goesThrough_16 rfl ?_
    refine wa_icmp_ge 20 118 hC dX10_goesThrough_17 rfl rfl h (fun h => ?_) (fun h => ?_)
    · refine wa_pick [0, 1] rfl ?_
      exact hk118 Z h
    · refine wa_aload_n 21 0 hC dX10_goesThrough_20 rfl 0 rfl rfl ?_
      refine wa_iload_n 22 2 hC dX10_goesThrough_21 rfl 2 rfl rfl ?_
      refine wa_iconst 23 hC dX10_goesThrough_22 kc_3 rfl ?_
      obtain ⟨r_2, e_26, h⟩ := bd_some h
      refine wa_callVi 26 hC [.int x2, .int (3 : Int32)] [] knX10_ofMember mvX10_169 (tX10_ofMember E.2.1 x2 (3 : Int32) Z hVC e_26) (vs10 hVC) kc10 (Nat.le_of_ble_eq_true rfl) (Nat.le_of_ble_eq_true rfl) rfl (Nat.le_of_ble_eq_true rfl) dX10_goesThrough_23 rfl le00 rfl ?_
      obtain ⟨kj_4, ekj_4, h⟩ := ltb_k1 h
      have hkj_4 : ∀ (Z_3 : sM), kj_4 Z_3 = some Z' → WA E G ρ V 0 0 (J A Z_3) 112 [(0, .ref (ρ 10 0)), (1, .int x1), (2, .int x2)] [] := by
        intro Z_3 h
        rw [ekj_4] at h
        obtain ⟨x2_5, ex2_5, h⟩ := ltb_some h
        refine wa_iinc (lv' := [(2, .int x2_5), (0, .ref (ρ 10 0)), (1, .int x1)]) 115 2 hC dX10_goesThrough_112 2 rfl (by rw [kc_1]; exact ex2_5) (by decide) rfl rfl ?_
        refine wa_goto 9 hC dX10_goesThrough_115 rfl ?_
        refine wa_pick [1, 2, 0] rfl ?_
        exact ih x2_5 Z_3 h
      clear ekj_4
      refine wa_if_ne 29 112 hC dX10_goesThrough_26 rfl rfl h (fun h => ?_) (fun h => ?_)
      · exact hkj_4 Z h
      · refine wa_aload_n 30 0 hC dX10_goesThrough_29 rfl 0 rfl rfl ?_
        refine wa_iload_n 31 2 hC dX10_goesThrough_30 rfl 2 rfl rfl ?_
        refine wa_iconst 32 hC dX10_goesThrough_31 kc_2 rfl ?_
        obtain ⟨r_6, e_25, h⟩ := bd_some h
        refine wa_callVi 35 hC [.int x2, .int (2 : Int32)] [] knX10_ofMember mvX10_169 (tX10_ofMember E.2.1 x2 (2 : Int32) Z hVC e_25) (vs10 hVC) kc10 (Nat.le_of_ble_eq_true rfl) (Nat.le_of_ble_eq_true rfl) rfl (Nat.le_of_ble_eq_true rfl) dX10_goesThrough_32 rfl le00 rfl ?_
        refine wa_iload_n 36 1 hC dX10_goesThrough_35 rfl 1 rfl rfl ?_
        refine wa_icmp_eq 39 42 hC dX10_goesThrough_36 rfl rfl h (fun h => ?_) (fun h => ?_)
        · refine wa_aload_n 43 0 hC dX10_goesThrough_42 rfl 0 rfl rfl ?_
          refine wa_iload_n 44 2 hC dX10_goesThrough_43 rfl 2 rfl rfl ?_
          refine wa_iconst 45 hC dX10_goesThrough_44 kc_0 rfl ?_
          obtain ⟨r_7, e_24, h⟩ := bd_some h
          refine wa_callVi 48 hC [.int x2, .int (0 : Int32)] [] knX10_ofMember mvX10_169 (tX10_ofMember E.2.1 x2 (0 : Int32) Z hVC e_24) (vs10 hVC) kc10 (Nat.le_of_ble_eq_true rfl) (Nat.le_of_ble_eq_true rfl) rfl (Nat.le_of_ble_eq_true rfl) dX10_goesThrough_45 rfl le00 rfl ?_
          refine wa_istore_n (lv' := [(3, .int r_7), (0, .ref (ρ 10 0)), (1, .int x1), (2, .int x2)]) 49 3 hC dX10_goesThrough_48 rfl rfl (by decide) rfl rfl ?_
          refine wa_aload_n 50 0 hC dX10_goesThrough_49 rfl 1 rfl rfl ?_
          obtain ⟨r_8, e_23, h⟩ := bd_some h
          refine wa_callVi 53 hC [] [] knX10_free mvX10_172 (tX10_free E.2.1 Z hVC e_23) (vs10 hVC) kc10 (Nat.le_of_ble_eq_true rfl) (Nat.le_of_ble_eq_true rfl) rfl (Nat.le_of_ble_eq_true rfl) dX10_goesThrough_50 rfl le00 rfl ?_
          refine wa_istore (lv' := [(4, .int r_8), (3, .int r_7), (0, .ref (ρ 10 0)), (1, .int x1), (2, .int x2)]) 55 4 hC dX10_goesThrough_53 rfl (by decide) rfl rfl ?_
          refine wa_iload 57 4 hC dX10_goesThrough_55 0 rfl rfl ?_
          refine wa_iload_n 58 3 hC dX10_goesThrough_57 rfl 1 rfl rfl ?_
          obtain ⟨kj_10, ekj_10, h⟩ := ltb_k1 h
          have hkj_10 : ∀ (v_9 : Int32), kj_10 v_9 = some Z' → WA E G ρ V 0 0 (J A Z) 67 [(0, .ref (ρ 10 0)), (1, .int x1), (2, .int x2)] [.int v_9] := by
            intro v_9 h
            rw [ekj_10] at h
            refine wa_istore_n (lv' := [(3, .int v_9), (0, .ref (ρ 10 0)), (1, .int x1), (2, .int x2)]) 68 3 hC dX10_goesThrough_67 rfl rfl (by decide) rfl rfl ?_
            refine wa_aload_n 69 0 hC dX10_goesThrough_68 rfl 1 rfl rfl ?_
            obtain ⟨r_11, e_22, h⟩ := bd_some h
            refine wa_callVi 72 hC [] [] knX10_mostShares mvX10_164 (tX10_mostShares E.2.1 Z hVC e_22) (vs10 hVC) kc10 (Nat.le_of_ble_eq_true rfl) (Nat.le_of_ble_eq_true rfl) rfl (Nat.le_of_ble_eq_true rfl) dX10_goesThrough_69 rfl le00 rfl ?_
            refine wa_iload_n 73 3 hC dX10_goesThrough_72 rfl 0 rfl rfl ?_
            obtain ⟨kj_13, ekj_13, h⟩ := ltb_k1 h
            have hkj_13 : ∀ (v_12 : Int32), kj_13 v_12 = some Z' → WA E G ρ V 0 0 (J A Z) 84 [(0, .ref (ρ 10 0)), (1, .int x1), (2, .int x2)] [.int v_12] := by
              intro v_12 h
              rw [ekj_13] at h
              refine wa_istore_n (lv' := [(3, .int v_12), (0, .ref (ρ 10 0)), (1, .int x1), (2, .int x2)]) 85 3 hC dX10_goesThrough_84 rfl rfl (by decide) rfl rfl ?_
              refine wa_iload_n 86 3 hC dX10_goesThrough_85 rfl 0 rfl rfl ?_
              refine wa_aload_n 87 0 hC dX10_goesThrough_86 rfl 1 rfl rfl ?_
              refine wa_iload_n 88 2 hC dX10_goesThrough_87 rfl 3 rfl rfl ?_
              refine wa_iconst 89 hC dX10_goesThrough_88 kc_1 rfl ?_
              obtain ⟨r_14, e_19, h⟩ := bd_some h
              refine wa_callVi 92 hC [.int x2, .int (1 : Int32)] [.int v_12] knX10_ofMember mvX10_169 (tX10_ofMember E.2.1 x2 (1 : Int32) Z hVC e_19) (vs10 hVC) kc10 (Nat.le_of_ble_eq_true rfl) (Nat.le_of_ble_eq_true rfl) rfl (Nat.le_of_ble_eq_true rfl) dX10_goesThrough_89 rfl le00 rfl ?_
              refine wa_icmp_ge 95 98 hC dX10_goesThrough_92 rfl rfl h (fun h => ?_) (fun h => ?_)
              · refine wa_aload_n 99 0 hC dX10_goesThrough_98 rfl 1 rfl rfl ?_
                refine wa_iload_n 100 2 hC dX10_goesThrough_99 rfl 3 rfl rfl ?_
                refine wa_iconst 101 hC dX10_goesThrough_100 kc_3 rfl ?_
                refine wa_iconst 102 hC dX10_goesThrough_101 kc_1 rfl ?_
                obtain ⟨Z_15, e_18, h⟩ := bd_some h
                refine wa_callVv 105 hC [.int x2, .int (3 : Int32), .int (1 : Int32)] [] knX10_setMember mvX10_175 (tX10_setMember E.2.1 x2 (3 : Int32) (1 : Int32) Z hVC e_18) (vs10 hVC) kc10 (Nat.le_of_ble_eq_true rfl) (Nat.le_of_ble_eq_true rfl) rfl (Nat.le_of_ble_eq_true rfl) dX10_goesThrough_102 rfl le00 rfl ?_
                refine wa_aload_n 106 0 hC dX10_goesThrough_105 rfl 1 rfl rfl ?_
                refine wa_iload_n 107 2 hC dX10_goesThrough_106 rfl 3 rfl rfl ?_
                refine wa_iconst 108 hC dX10_goesThrough_107 kc_4 rfl ?_
                refine wa_iload_n 109 3 hC dX10_goesThrough_108 rfl 0 rfl rfl ?_
                obtain ⟨Z_16, e_17, h⟩ := bd_some h
                refine wa_callVv 112 hC [.int x2, .int (4 : Int32), .int v_12] [] knX10_setMember mvX10_175 (tX10_setMember E.2.1 x2 (4 : Int32) v_12 Z_15 hVC e_17) (vs10 hVC) kc10 (Nat.le_of_ble_eq_true rfl) (Nat.le_of_ble_eq_true rfl) rfl (Nat.le_of_ble_eq_true rfl) dX10_goesThrough_109 rfl le00 rfl ?_
                refine wa_pick [1, 2, 3] rfl ?_
                exact hkj_4 Z_16 h
              · refine wa_goto 112 hC dX10_goesThrough_95 rfl ?_
                refine wa_pick [1, 2, 3] rfl ?_
                exact hkj_4 Z h
            clear ekj_13
            refine wa_icmp_ge 76 83 hC dX10_goesThrough_73 rfl rfl h (fun h => ?_) (fun h => ?_)
            · refine wa_iload_n 84 3 hC dX10_goesThrough_83 rfl 0 rfl rfl ?_
              refine wa_pick [1, 2, 3] rfl ?_
              exact hkj_13 v_9 h
            · refine wa_aload_n 77 0 hC dX10_goesThrough_76 rfl 1 rfl rfl ?_
              obtain ⟨r_20, e_21, h⟩ := bd_some h
              refine wa_callVi 80 hC [] [] knX10_mostShares mvX10_164 (tX10_mostShares E.2.1 Z hVC e_21) (vs10 hVC) kc10 (Nat.le_of_ble_eq_true rfl) (Nat.le_of_ble_eq_true rfl) rfl (Nat.le_of_ble_eq_true rfl) dX10_goesThrough_77 rfl le00 rfl ?_
              refine wa_goto 84 hC dX10_goesThrough_80 rfl ?_
              refine wa_pick [1, 2, 3] rfl ?_
              exact hkj_13 r_20 h
          clear ekj_10
          refine wa_icmp_ge 61 66 hC dX10_goesThrough_58 rfl rfl h (fun h => ?_) (fun h => ?_)
          · refine wa_iload_n 67 3 hC dX10_goesThrough_66 rfl 1 rfl rfl ?_
            refine wa_pick [2, 3, 4] rfl ?_
            exact hkj_10 r_7 h
          · refine wa_iload 63 4 hC dX10_goesThrough_61 0 rfl rfl ?_
            refine wa_goto 67 hC dX10_goesThrough_63 rfl ?_
            refine wa_pick [2, 3, 4] rfl ?_
            exact hkj_10 r_8 h
        · refine wa_goto 112 hC dX10_goesThrough_39 rfl ?_
          exact hkj_4 Z h
set_option maxRecDepth 20000 in
theorem wX10_goesThrough_L3 {E : eU} {G : gU} {ρ : Nat → Nat → Nat} {V : Nat → Nat → Prop} {A : sM} {Z' : sM} {k124 : sM → Option (sM)} (hC : CX E G cX10_goesThrough 5 RX10 none 3 0 0) (hVC : VC V) (hk124 : ∀ (Z : sM), k124 Z = some Z' → WA E G ρ V 0 0 (J A Z) 124 [] []) : ∀ (n : Nat) (x1 : Int32) (Z : sM), fX10_goesThrough_L3 k124 n x1 Z = some Z' → WA E G ρ V 0 0 (J A Z) 3 [(0, .ref (ρ 10 0)), (1, .int x1)] [] := by
  intro n
  induction n with
  | zero =>
    intro x1 Z h
    rw [fX10_goesThrough_L3] at h
    cases h
  | succ n ih =>
    intro x1 Z h
    rw [fX10_goesThrough_L3] at h
    refine wa_iload_n 4 1 hC dX10_goesThrough_3 rfl 1 rfl rfl ?_
    refine wa_if_lt 7 124 hC dX10_goesThrough_4 rfl rfl h (fun h => ?_) (fun h => ?_)
    · refine wa_pick [] rfl ?_
      exact hk124 Z h
    · refine wa_iconst 8 hC dX10_goesThrough_7 kc_0 rfl ?_
      refine wa_istore_n (lv' := [(2, .int (0 : Int32)), (0, .ref (ρ 10 0)), (1, .int x1)]) 9 2 hC dX10_goesThrough_8 rfl rfl (by decide) rfl rfl ?_
      refine wa_pick [1, 2, 0] rfl ?_
      refine wX10_goesThrough_L9 x1 hC hVC (fun Z_1 h => ?_) 10000 (0 : Int32) Z h
      obtain ⟨x1_2, ex1_2, h⟩ := ltb_some h
      refine wa_iinc (lv' := [(1, .int x1_2), (0, .ref (ρ 10 0))]) 121 1 hC dX10_goesThrough_118 1 rfl (by rw [kc_m1]; exact ex1_2) (by decide) rfl rfl ?_
      refine wa_goto 3 hC dX10_goesThrough_121 rfl ?_
      refine wa_pick [1, 0] rfl ?_
      exact ih x1_2 Z_1 h
set_option maxRecDepth 20000 in
theorem tX10_goesThrough (l : Launch) {G : gU} {ρ : Nat → Nat → Nat} {V : Nat → Nat → Prop} {A : sM} (Z : sM) (_ : VC V) {Z' : sM} (h : fX10_goesThrough Z = some Z') : MT l yX10_goesThrough cX10_goesThrough 5 none 3 G ρ V [.ref (ρ 10 0)] (J A Z) none (J A Z') := by
  refine vv_enter (lv := [(0, .ref (ρ 10 0))]) RX10 rfl (by decide) (Nat.le_of_ble_eq_true rfl) rfl ?_
  intro E hE hC hQ hVC
  subst hE
  rw [fX10_goesThrough] at h
  refine wa_bipush 2 hC dX10_goesThrough_0 kb_9 rfl ?_
  refine wa_istore_n (lv' := [(1, .int (9 : Int32)), (0, .ref (ρ 10 0))]) 3 1 hC dX10_goesThrough_2 rfl rfl (by decide) rfl rfl ?_
  refine wa_pick [1, 0] rfl ?_
  refine wX10_goesThrough_L3 hC hVC (fun Z_1 h => ?_) 10000 (9 : Int32) Z h
  exact wa_vret hC hQ (jZ (sm0 h)) dX10_goesThrough_124
set_option maxRecDepth 20000 in
theorem tX10_join (l : Launch) {G : gU} {ρ : Nat → Nat → Nat} {V : Nat → Nat → Prop} {A : sM} (x1 : Int32) (x2 : Int32) (x3 : Int32) (Z : sM) (_ : VC V) {r : Int32} {Z' : sM} (h : fX10_join x1 x2 x3 Z = some (r, Z')) : MT l yX10_join cX10_join 5 (some .int) 4 G ρ V [.ref (ρ 10 0), .int x1, .int x2, .int x3] (J A Z) (some (.int r)) (J A Z') := by
  refine vv_enter (lv := [(0, .ref (ρ 10 0)), (1, .int x1), (2, .int x2), (3, .int x3)]) RX10 rfl (by decide) (Nat.le_of_ble_eq_true rfl) rfl ?_
  intro E hE hC hQ hVC
  subst hE
  rw [fX10_join] at h
  refine wa_aload_n 1 0 hC dX10_join_0 rfl 0 rfl rfl ?_
  refine wa_iload_n 2 1 hC dX10_join_1 rfl 1 rfl rfl ?_
  refine wa_i2l 3 hC dX10_join_2 rfl ?_
  refine wa_lconst 4 hC dX10_join_3 kl_1 rfl ?_
  refine wa_aload_n 5 0 hC dX10_join_4 rfl 0 rfl rfl ?_
  refine wa_getR 8 hC (vs10 hVC) (sr10_0 _) flX10_7 dX10_join_5 rfl ?_
  refine wa_iconst 9 hC dX10_join_8 kc_0 rfl ?_
  refine wa_ialdr 10 hC (vs27 hVC) ar27 rfl (by decide) dX10_join_9 rfl ?_
  refine wa_i2l 11 hC dX10_join_10 rfl ?_
  obtain ⟨r_2, e_31, h⟩ := bd_some h
  refine wa_callSi 14 hC [.long (x1.toInt64), .long (1 : Int64), .long ((Z.1 27 0 0 (0 : Int32).toNatClampNeg).toInt64)] [.ref (ρ 10 0)] knX10_isIn msX10_104 (tX10_isIn E.2.1 (x1.toInt64) (1 : Int64) ((Z.1 27 0 0 (0 : Int32).toNatClampNeg).toInt64) Z hVC e_31) (Nat.le_of_ble_eq_true rfl) (Nat.le_of_ble_eq_true rfl) rfl (Nat.le_of_ble_eq_true rfl) dX10_join_11 rfl le00 rfl ?_
  obtain ⟨kj_4, ekj_4, h⟩ := ltb_k1 h
  have hkj_4 : ∀ (v_3 : Int32), kj_4 v_3 = some (r, Z') → WA E G ρ V 0 0 (J A Z) 61 [(0, .ref (ρ 10 0)), (1, .int x1), (2, .int x2), (3, .int x3)] [.int v_3, .ref (ρ 10 0)] := by
    intro v_3 h
    rw [ekj_4] at h
    obtain ⟨Z_5, eZ_5, h⟩ := ltb_some h
    refine wa_putIr 64 hC (vs10 hVC) nk10 eZ_5 sh10_6 rfl fpX10_63 dX10_join_61 rfl ?_
    refine wa_aload_n 65 0 hC dX10_join_64 rfl 0 rfl rfl ?_
    refine wa_getIr 68 hC (vs10 hVC) sh10_6 rfl flX10_63 dX10_join_65 rfl ?_
    refine wa_if_le 71 73 hC dX10_join_68 rfl rfl h (fun h => ?_) (fun h => ?_)
    · refine wa_aload_n 74 0 hC dX10_join_73 rfl 0 rfl rfl ?_
      obtain ⟨Z_6, e_24, h⟩ := bd_some h
      refine wa_callVv 77 hC [] [] knX10_keeps mvX10_157 (tX10_keeps E.2.1 Z_5 hVC e_24) (vs10 hVC) kc10 (Nat.le_of_ble_eq_true rfl) (Nat.le_of_ble_eq_true rfl) rfl (Nat.le_of_ble_eq_true rfl) dX10_join_74 rfl le00 rfl ?_
      refine wa_aload_n 78 0 hC dX10_join_77 rfl 0 rfl rfl ?_
      refine wa_getR 81 hC (vs10 hVC) (sr10_0 _) flX10_7 dX10_join_78 rfl ?_
      refine wa_bipush 83 hC dX10_join_81 kb_7 rfl ?_
      refine wa_ialdr 84 hC (vs27 hVC) ar27 rfl (by decide) dX10_join_83 rfl ?_
      obtain ⟨x4_8, ex4_8, h⟩ := ltb_some h
      refine wa_istore (lv' := [(4, .int x4_8), (0, .ref (ρ 10 0)), (1, .int x1), (2, .int x2), (3, .int x3)]) 86 4 hC dX10_join_84 ex4_8 (by decide) rfl rfl ?_
      refine wa_aload_n 87 0 hC dX10_join_86 rfl 1 rfl rfl ?_
      refine wa_iload 89 4 hC dX10_join_87 0 rfl rfl ?_
      refine wa_iconst 90 hC dX10_join_89 kc_0 rfl ?_
      refine wa_iload_n 91 1 hC dX10_join_90 rfl 2 rfl rfl ?_
      obtain ⟨Z_9, e_23, h⟩ := bd_some h
      refine wa_callVv 94 hC [.int x4_8, .int (0 : Int32), .int x1] [] knX10_setMember mvX10_175 (tX10_setMember E.2.1 x4_8 (0 : Int32) x1 Z_6 hVC e_23) (vs10 hVC) kc10 (Nat.le_of_ble_eq_true rfl) (Nat.le_of_ble_eq_true rfl) rfl (Nat.le_of_ble_eq_true rfl) dX10_join_91 rfl le00 rfl ?_
      refine wa_aload_n 95 0 hC dX10_join_94 rfl 1 rfl rfl ?_
      refine wa_iload 97 4 hC dX10_join_95 0 rfl rfl ?_
      refine wa_iconst 98 hC dX10_join_97 kc_1 rfl ?_
      refine wa_iload_n 99 2 hC dX10_join_98 rfl 3 rfl rfl ?_
      obtain ⟨Z_10, e_22, h⟩ := bd_some h
      refine wa_callVv 102 hC [.int x4_8, .int (1 : Int32), .int x2] [] knX10_setMember mvX10_175 (tX10_setMember E.2.1 x4_8 (1 : Int32) x2 Z_9 hVC e_22) (vs10 hVC) kc10 (Nat.le_of_ble_eq_true rfl) (Nat.le_of_ble_eq_true rfl) rfl (Nat.le_of_ble_eq_true rfl) dX10_join_99 rfl le00 rfl ?_
      refine wa_aload_n 103 0 hC dX10_join_102 rfl 1 rfl rfl ?_
      refine wa_iload 105 4 hC dX10_join_103 0 rfl rfl ?_
      refine wa_iconst 106 hC dX10_join_105 kc_2 rfl ?_
      refine wa_iload_n 107 3 hC dX10_join_106 rfl 4 rfl rfl ?_
      obtain ⟨Z_11, e_21, h⟩ := bd_some h
      refine wa_callVv 110 hC [.int x4_8, .int (2 : Int32), .int x3] [] knX10_setMember mvX10_175 (tX10_setMember E.2.1 x4_8 (2 : Int32) x3 Z_10 hVC e_21) (vs10 hVC) kc10 (Nat.le_of_ble_eq_true rfl) (Nat.le_of_ble_eq_true rfl) rfl (Nat.le_of_ble_eq_true rfl) dX10_join_107 rfl le00 rfl ?_
      refine wa_aload_n 111 0 hC dX10_join_110 rfl 1 rfl rfl ?_
      refine wa_iload 113 4 hC dX10_join_111 0 rfl rfl ?_
      refine wa_iconst 114 hC dX10_join_113 kc_3 rfl ?_
      refine wa_iconst 115 hC dX10_join_114 kc_0 rfl ?_
      obtain ⟨Z_12, e_20, h⟩ := bd_some h
      refine wa_callVv 118 hC [.int x4_8, .int (3 : Int32), .int (0 : Int32)] [] knX10_setMember mvX10_175 (tX10_setMember E.2.1 x4_8 (3 : Int32) (0 : Int32) Z_11 hVC e_20) (vs10 hVC) kc10 (Nat.le_of_ble_eq_true rfl) (Nat.le_of_ble_eq_true rfl) rfl (Nat.le_of_ble_eq_true rfl) dX10_join_115 rfl le00 rfl ?_
      refine wa_aload_n 119 0 hC dX10_join_118 rfl 1 rfl rfl ?_
      refine wa_iload 121 4 hC dX10_join_119 0 rfl rfl ?_
      refine wa_iconst 122 hC dX10_join_121 kc_5 rfl ?_
      refine wa_iconst 123 hC dX10_join_122 kc_m1 rfl ?_
      obtain ⟨Z_13, e_19, h⟩ := bd_some h
      refine wa_callVv 126 hC [.int x4_8, .int (5 : Int32), .int (-1 : Int32)] [] knX10_setMember mvX10_175 (tX10_setMember E.2.1 x4_8 (5 : Int32) (-1 : Int32) Z_12 hVC e_19) (vs10 hVC) kc10 (Nat.le_of_ble_eq_true rfl) (Nat.le_of_ble_eq_true rfl) rfl (Nat.le_of_ble_eq_true rfl) dX10_join_123 rfl le00 rfl ?_
      refine wa_aload_n 127 0 hC dX10_join_126 rfl 1 rfl rfl ?_
      refine wa_getR 130 hC (vs10 hVC) (sr10_0 _) flX10_7 dX10_join_127 rfl ?_
      refine wa_bipush 132 hC dX10_join_130 kb_7 rfl ?_
      refine wa_dup2 133 hC dX10_join_132 rfl rfl rfl ?_
      refine wa_ialdr 134 hC (vs27 hVC) ar27 rfl (by decide) dX10_join_133 rfl ?_
      refine wa_iconst 135 hC dX10_join_134 kc_1 rfl ?_
      refine wa_iadd 136 hC dX10_join_135 rfl ?_
      obtain ⟨Z_16, eZ_16, h⟩ := ltb_some h
      refine wa_iastr 137 hC (vs27 hVC) nk27 ar27 rfl (by decide) eZ_16 dX10_join_136 rfl ?_
      refine wa_aload_n 138 0 hC dX10_join_137 rfl 1 rfl rfl ?_
      obtain ⟨Z_17, e_18, h⟩ := bd_some h
      refine wa_callVv 141 hC [] [] knX10_goesThrough mvX10_181 (tX10_goesThrough E.2.1 Z_16 hVC e_18) (vs10 hVC) kc10 (Nat.le_of_ble_eq_true rfl) (Nat.le_of_ble_eq_true rfl) rfl (Nat.le_of_ble_eq_true rfl) dX10_join_138 rfl le00 rfl ?_
      refine wa_iload 143 4 hC dX10_join_141 0 rfl rfl ?_
      exact wa_iret hC hQ (sm1 h) (jZ (sm2 h)) dX10_join_143
    · refine wa_iconst 72 hC dX10_join_71 kc_0 rfl ?_
      exact wa_iret hC hQ (sm1 h) (jZ (sm2 h)) dX10_join_72
  clear ekj_4
  obtain ⟨kj_25, ekj_25, h⟩ := ltb_some h
  have hkj_25 : kj_25 = some (r, Z') → WA E G ρ V 0 0 (J A Z) 40 [(0, .ref (ρ 10 0)), (1, .int x1), (2, .int x2), (3, .int x3)] [.ref (ρ 10 0)] := by
    intro h
    rw [ekj_25] at h
    refine wa_iconst 41 hC dX10_join_40 kc_1 rfl ?_
    refine wa_goto 61 hC dX10_join_41 rfl ?_
    exact hkj_4 (1 : Int32) h
  clear ekj_25
  refine wa_if_eq 17 40 hC dX10_join_14 rfl rfl h (fun h => ?_) (fun h => ?_)
  · exact hkj_25 h
  · refine wa_iload_n 18 2 hC dX10_join_17 rfl 2 rfl rfl ?_
    refine wa_i2l 19 hC dX10_join_18 rfl ?_
    refine wa_lconst 20 hC dX10_join_19 kl_1 rfl ?_
    refine wa_iload_n 21 1 hC dX10_join_20 rfl 1 rfl rfl ?_
    refine wa_i2l 22 hC dX10_join_21 rfl ?_
    obtain ⟨r_26, e_30, h⟩ := bd_some h
    refine wa_callSi 25 hC [.long (x2.toInt64), .long (1 : Int64), .long (x1.toInt64)] [.ref (ρ 10 0)] knX10_isIn msX10_104 (tX10_isIn E.2.1 (x2.toInt64) (1 : Int64) (x1.toInt64) Z hVC e_30) (Nat.le_of_ble_eq_true rfl) (Nat.le_of_ble_eq_true rfl) rfl (Nat.le_of_ble_eq_true rfl) dX10_join_22 rfl le00 rfl ?_
    refine wa_if_eq 28 40 hC dX10_join_25 rfl rfl h (fun h => ?_) (fun h => ?_)
    · exact hkj_25 h
    · refine wa_iload_n 29 3 hC dX10_join_28 rfl 3 rfl rfl ?_
      refine wa_i2l 30 hC dX10_join_29 rfl ?_
      refine wa_lconst 31 hC dX10_join_30 kl_0 rfl ?_
      refine wa_ldc2 34 hC dX10_join_31 lcX10_179 rfl ?_
      obtain ⟨r_27, e_29, h⟩ := bd_some h
      refine wa_callSi 37 hC [.long (x3.toInt64), .long (0 : Int64), .long (9 : Int64)] [.ref (ρ 10 0)] knX10_isIn msX10_104 (tX10_isIn E.2.1 (x3.toInt64) (0 : Int64) (9 : Int64) Z hVC e_29) (Nat.le_of_ble_eq_true rfl) (Nat.le_of_ble_eq_true rfl) rfl (Nat.le_of_ble_eq_true rfl) dX10_join_34 rfl le00 rfl ?_
      refine wa_if_ne 40 44 hC dX10_join_37 rfl rfl h (fun h => ?_) (fun h => ?_)
      · refine wa_aload_n 45 0 hC dX10_join_44 rfl 0 rfl rfl ?_
        refine wa_getR 48 hC (vs10 hVC) (sr10_0 _) flX10_7 dX10_join_45 rfl ?_
        refine wa_bipush 50 hC dX10_join_48 kb_7 rfl ?_
        refine wa_ialdr 51 hC (vs27 hVC) ar27 rfl (by decide) dX10_join_50 rfl ?_
        refine wa_bipush 53 hC dX10_join_51 kb_16 rfl ?_
        refine wa_icmp_ne 56 60 hC dX10_join_53 rfl rfl h (fun h => ?_) (fun h => ?_)
        · refine wa_iconst 61 hC dX10_join_60 kc_0 rfl ?_
          exact hkj_4 (0 : Int32) h
        · refine wa_iconst 57 hC dX10_join_56 kc_2 rfl ?_
          refine wa_goto 61 hC dX10_join_57 rfl ?_
          exact hkj_4 (2 : Int32) h
      · exact hkj_25 h
set_option maxRecDepth 20000 in
theorem tX10_more (l : Launch) {G : gU} {ρ : Nat → Nat → Nat} {V : Nat → Nat → Prop} {A : sM} (x1 : Int32) (x2 : Int32) (Z : sM) (_ : VC V) {r : Int32} {Z' : sM} (h : fX10_more x1 x2 Z = some (r, Z')) : MT l yX10_more cX10_more 5 (some .int) 3 G ρ V [.ref (ρ 10 0), .int x1, .int x2] (J A Z) (some (.int r)) (J A Z') := by
  refine vv_enter (lv := [(0, .ref (ρ 10 0)), (1, .int x1), (2, .int x2)]) RX10 rfl (by decide) (Nat.le_of_ble_eq_true rfl) rfl ?_
  intro E hE hC hQ hVC
  subst hE
  rw [fX10_more] at h
  refine wa_aload_n 1 0 hC dX10_more_0 rfl 0 rfl rfl ?_
  refine wa_aload_n 2 0 hC dX10_more_1 rfl 0 rfl rfl ?_
  refine wa_iload_n 3 1 hC dX10_more_2 rfl 1 rfl rfl ?_
  obtain ⟨r_1, e_22, h⟩ := bd_some h
  refine wa_callVi 6 hC [.int x1] [.ref (ρ 10 0)] knX10_isMember mvX10_184 (tX10_isMember E.2.1 x1 Z hVC e_22) (vs10 hVC) kc10 (Nat.le_of_ble_eq_true rfl) (Nat.le_of_ble_eq_true rfl) rfl (Nat.le_of_ble_eq_true rfl) dX10_more_3 rfl le00 rfl ?_
  obtain ⟨kj_3, ekj_3, h⟩ := ltb_k1 h
  have hkj_3 : ∀ (v_2 : Int32), kj_3 v_2 = some (r, Z') → WA E G ρ V 0 0 (J A Z) 23 [(0, .ref (ρ 10 0)), (1, .int x1), (2, .int x2)] [.int v_2, .ref (ρ 10 0)] := by
    intro v_2 h
    rw [ekj_3] at h
    obtain ⟨Z_4, eZ_4, h⟩ := ltb_some h
    refine wa_putIr 26 hC (vs10 hVC) nk10 eZ_4 sh10_6 rfl fpX10_63 dX10_more_23 rfl ?_
    refine wa_aload_n 27 0 hC dX10_more_26 rfl 0 rfl rfl ?_
    refine wa_getIr 30 hC (vs10 hVC) sh10_6 rfl flX10_63 dX10_more_27 rfl ?_
    refine wa_if_le 33 35 hC dX10_more_30 rfl rfl h (fun h => ?_) (fun h => ?_)
    · refine wa_aload_n 36 0 hC dX10_more_35 rfl 0 rfl rfl ?_
      refine wa_iload_n 37 1 hC dX10_more_36 rfl 1 rfl rfl ?_
      refine wa_iconst 38 hC dX10_more_37 kc_4 rfl ?_
      obtain ⟨r_5, e_21, h⟩ := bd_some h
      refine wa_callVi 41 hC [.int x1, .int (4 : Int32)] [] knX10_ofMember mvX10_169 (tX10_ofMember E.2.1 x1 (4 : Int32) Z_4 hVC e_21) (vs10 hVC) kc10 (Nat.le_of_ble_eq_true rfl) (Nat.le_of_ble_eq_true rfl) rfl (Nat.le_of_ble_eq_true rfl) dX10_more_38 rfl le00 rfl ?_
      refine wa_i2l 42 hC dX10_more_41 rfl ?_
      refine wa_iload_n 43 2 hC dX10_more_42 rfl 2 rfl rfl ?_
      refine wa_i2l 44 hC dX10_more_43 rfl ?_
      refine wa_ladd 45 hC dX10_more_44 rfl ?_
      obtain ⟨x3_6, ex3_6, h⟩ := ltb_some h
      refine wa_lstore_n (lv' := [(3, .long x3_6), (0, .ref (ρ 10 0)), (1, .int x1), (2, .int x2)]) 46 3 hC dX10_more_45 rfl ex3_6 (by decide) rfl rfl ?_
      refine wa_aload_n 47 0 hC dX10_more_46 rfl 1 rfl rfl ?_
      refine wa_aload_n 48 0 hC dX10_more_47 rfl 1 rfl rfl ?_
      refine wa_iload_n 49 1 hC dX10_more_48 rfl 2 rfl rfl ?_
      obtain ⟨r_7, e_20, h⟩ := bd_some h
      refine wa_callVi 52 hC [.int x1] [.ref (ρ 10 0)] knX10_isActive mvX10_187 (tX10_isActive E.2.1 x1 Z_4 hVC e_20) (vs10 hVC) kc10 (Nat.le_of_ble_eq_true rfl) (Nat.le_of_ble_eq_true rfl) rfl (Nat.le_of_ble_eq_true rfl) dX10_more_49 rfl le00 rfl ?_
      obtain ⟨kj_9, ekj_9, h⟩ := ltb_k1 h
      have hkj_9 : ∀ (v_8 : Int32), kj_9 v_8 = some (r, Z') → WA E G ρ V 0 0 (J A Z_4) 78 [(0, .ref (ρ 10 0)), (1, .int x1), (3, .long x3_6)] [.int v_8, .ref (ρ 10 0)] := by
        intro v_8 h
        rw [ekj_9] at h
        obtain ⟨Z_10, eZ_10, h⟩ := ltb_some h
        refine wa_putIr 81 hC (vs10 hVC) nk10 eZ_10 sh10_6 rfl fpX10_63 dX10_more_78 rfl ?_
        refine wa_aload_n 82 0 hC dX10_more_81 rfl 0 rfl rfl ?_
        refine wa_getIr 85 hC (vs10 hVC) sh10_6 rfl flX10_63 dX10_more_82 rfl ?_
        refine wa_if_le 88 90 hC dX10_more_85 rfl rfl h (fun h => ?_) (fun h => ?_)
        · refine wa_aload_n 91 0 hC dX10_more_90 rfl 0 rfl rfl ?_
          obtain ⟨Z_11, e_14, h⟩ := bd_some h
          refine wa_callVv 94 hC [] [] knX10_keeps mvX10_157 (tX10_keeps E.2.1 Z_10 hVC e_14) (vs10 hVC) kc10 (Nat.le_of_ble_eq_true rfl) (Nat.le_of_ble_eq_true rfl) rfl (Nat.le_of_ble_eq_true rfl) dX10_more_91 rfl le00 rfl ?_
          refine wa_aload_n 95 0 hC dX10_more_94 rfl 0 rfl rfl ?_
          refine wa_iload_n 96 1 hC dX10_more_95 rfl 1 rfl rfl ?_
          refine wa_iconst 97 hC dX10_more_96 kc_4 rfl ?_
          refine wa_lload_n 98 3 hC dX10_more_97 rfl 2 rfl rfl ?_
          refine wa_l2i 99 hC dX10_more_98 rfl ?_
          obtain ⟨Z_12, e_13, h⟩ := bd_some h
          refine wa_callVv 102 hC [.int x1, .int (4 : Int32), .int (x3_6.toInt32)] [] knX10_setMember mvX10_175 (tX10_setMember E.2.1 x1 (4 : Int32) (x3_6.toInt32) Z_11 hVC e_13) (vs10 hVC) kc10 (Nat.le_of_ble_eq_true rfl) (Nat.le_of_ble_eq_true rfl) rfl (Nat.le_of_ble_eq_true rfl) dX10_more_99 rfl le00 rfl ?_
          refine wa_lload_n 103 3 hC dX10_more_102 rfl 2 rfl rfl ?_
          refine wa_l2i 104 hC dX10_more_103 rfl ?_
          exact wa_iret hC hQ (sm1 h) (jZ (sm2 h)) dX10_more_104
        · refine wa_iconst 89 hC dX10_more_88 kc_0 rfl ?_
          exact wa_iret hC hQ (sm1 h) (jZ (sm2 h)) dX10_more_89
      clear ekj_9
      obtain ⟨kj_15, ekj_15, h⟩ := ltb_some h
      have hkj_15 : kj_15 = some (r, Z') → WA E G ρ V 0 0 (J A Z_4) 73 [(0, .ref (ρ 10 0)), (1, .int x1), (3, .long x3_6)] [.ref (ρ 10 0)] := by
        intro h
        rw [ekj_15] at h
        refine wa_iconst 74 hC dX10_more_73 kc_3 rfl ?_
        refine wa_goto 78 hC dX10_more_74 rfl ?_
        exact hkj_9 (3 : Int32) h
      clear ekj_15
      refine wa_if_eq 55 73 hC dX10_more_52 rfl rfl h (fun h => ?_) (fun h => ?_)
      · refine wa_pick [1, 2, 0] rfl ?_
        exact hkj_15 h
      · refine wa_aload_n 56 0 hC dX10_more_55 rfl 1 rfl rfl ?_
        obtain ⟨r_16, e_19, h⟩ := bd_some h
        refine wa_callVi 59 hC [] [.ref (ρ 10 0)] knX10_free mvX10_172 (tX10_free E.2.1 Z_4 hVC e_19) (vs10 hVC) kc10 (Nat.le_of_ble_eq_true rfl) (Nat.le_of_ble_eq_true rfl) rfl (Nat.le_of_ble_eq_true rfl) dX10_more_56 rfl le00 rfl ?_
        refine wa_iload_n 60 2 hC dX10_more_59 rfl 3 rfl rfl ?_
        refine wa_icmp_lt 63 73 hC dX10_more_60 rfl rfl h (fun h => ?_) (fun h => ?_)
        · refine wa_pick [1, 2, 0] rfl ?_
          exact hkj_15 h
        · refine wa_lload_n 64 3 hC dX10_more_63 rfl 0 rfl rfl ?_
          refine wa_aload_n 65 0 hC dX10_more_64 rfl 1 rfl rfl ?_
          obtain ⟨r_17, e_18, h⟩ := bd_some h
          refine wa_callVi 68 hC [] [.long x3_6, .ref (ρ 10 0)] knX10_mostShares mvX10_164 (tX10_mostShares E.2.1 Z_4 hVC e_18) (vs10 hVC) kc10 (Nat.le_of_ble_eq_true rfl) (Nat.le_of_ble_eq_true rfl) rfl (Nat.le_of_ble_eq_true rfl) dX10_more_65 rfl le00 rfl ?_
          refine wa_i2l 69 hC dX10_more_68 rfl ?_
          refine wa_lcmp 70 hC dX10_more_69 rfl ?_
          refine wa_lcmp_le 73 77 hC dX10_more_70 rfl rfl h (fun h => ?_) (fun h => ?_)
          · refine wa_iconst 78 hC dX10_more_77 kc_0 rfl ?_
            refine wa_pick [1, 2, 0] rfl ?_
            exact hkj_9 (0 : Int32) h
          · refine wa_pick [1, 2, 0] rfl ?_
            exact hkj_15 h
    · refine wa_iconst 34 hC dX10_more_33 kc_0 rfl ?_
      exact wa_iret hC hQ (sm1 h) (jZ (sm2 h)) dX10_more_34
  clear ekj_3
  refine wa_if_ne 9 13 hC dX10_more_6 rfl rfl h (fun h => ?_) (fun h => ?_)
  · refine wa_iload_n 14 2 hC dX10_more_13 rfl 2 rfl rfl ?_
    refine wa_iconst 15 hC dX10_more_14 kc_1 rfl ?_
    refine wa_icmp_ge 18 22 hC dX10_more_15 rfl rfl h (fun h => ?_) (fun h => ?_)
    · refine wa_iconst 23 hC dX10_more_22 kc_0 rfl ?_
      exact hkj_3 (0 : Int32) h
    · refine wa_iconst 19 hC dX10_more_18 kc_2 rfl ?_
      refine wa_goto 23 hC dX10_more_19 rfl ?_
      exact hkj_3 (2 : Int32) h
  · refine wa_iconst 10 hC dX10_more_9 kc_1 rfl ?_
    refine wa_goto 23 hC dX10_more_10 rfl ?_
    exact hkj_3 (1 : Int32) h
set_option maxRecDepth 20000 in
theorem tX10_reduce (l : Launch) {G : gU} {ρ : Nat → Nat → Nat} {V : Nat → Nat → Prop} {A : sM} (x1 : Int32) (x2 : Int32) (Z : sM) (_ : VC V) {r : Int32} {Z' : sM} (h : fX10_reduce x1 x2 Z = some (r, Z')) : MT l yX10_reduce cX10_reduce 3 (some .int) 4 G ρ V [.ref (ρ 10 0), .int x1, .int x2] (J A Z) (some (.int r)) (J A Z') := by
  refine vv_enter (lv := [(0, .ref (ρ 10 0)), (1, .int x1), (2, .int x2)]) RX10 rfl (by decide) (Nat.le_of_ble_eq_true rfl) rfl ?_
  intro E hE hC hQ hVC
  subst hE
  rw [fX10_reduce] at h
  refine wa_aload_n 1 0 hC dX10_reduce_0 rfl 0 rfl rfl ?_
  refine wa_aload_n 2 0 hC dX10_reduce_1 rfl 0 rfl rfl ?_
  refine wa_iload_n 3 1 hC dX10_reduce_2 rfl 1 rfl rfl ?_
  obtain ⟨r_1, e_20, h⟩ := bd_some h
  refine wa_callVi 6 hC [.int x1] [.ref (ρ 10 0)] knX10_isMember mvX10_184 (tX10_isMember E.2.1 x1 Z hVC e_20) (vs10 hVC) kc10 (Nat.le_of_ble_eq_true rfl) (Nat.le_of_ble_eq_true rfl) rfl (Nat.le_of_ble_eq_true rfl) dX10_reduce_3 rfl le00 rfl ?_
  obtain ⟨kj_3, ekj_3, h⟩ := ltb_k1 h
  have hkj_3 : ∀ (v_2 : Int32), kj_3 v_2 = some (r, Z') → WA E G ρ V 0 0 (J A Z) 45 [(0, .ref (ρ 10 0)), (1, .int x1), (2, .int x2)] [.int v_2, .ref (ρ 10 0)] := by
    intro v_2 h
    rw [ekj_3] at h
    obtain ⟨Z_4, eZ_4, h⟩ := ltb_some h
    refine wa_putIr 48 hC (vs10 hVC) nk10 eZ_4 sh10_6 rfl fpX10_63 dX10_reduce_45 rfl ?_
    refine wa_aload_n 49 0 hC dX10_reduce_48 rfl 0 rfl rfl ?_
    refine wa_getIr 52 hC (vs10 hVC) sh10_6 rfl flX10_63 dX10_reduce_49 rfl ?_
    refine wa_if_le 55 57 hC dX10_reduce_52 rfl rfl h (fun h => ?_) (fun h => ?_)
    · refine wa_aload_n 58 0 hC dX10_reduce_57 rfl 0 rfl rfl ?_
      obtain ⟨Z_5, e_14, h⟩ := bd_some h
      refine wa_callVv 61 hC [] [] knX10_keeps mvX10_157 (tX10_keeps E.2.1 Z_4 hVC e_14) (vs10 hVC) kc10 (Nat.le_of_ble_eq_true rfl) (Nat.le_of_ble_eq_true rfl) rfl (Nat.le_of_ble_eq_true rfl) dX10_reduce_58 rfl le00 rfl ?_
      refine wa_aload_n 62 0 hC dX10_reduce_61 rfl 0 rfl rfl ?_
      refine wa_iload_n 63 1 hC dX10_reduce_62 rfl 1 rfl rfl ?_
      refine wa_iconst 64 hC dX10_reduce_63 kc_4 rfl ?_
      refine wa_aload_n 65 0 hC dX10_reduce_64 rfl 0 rfl rfl ?_
      refine wa_iload_n 66 1 hC dX10_reduce_65 rfl 1 rfl rfl ?_
      refine wa_iconst 67 hC dX10_reduce_66 kc_4 rfl ?_
      obtain ⟨r_6, e_13, h⟩ := bd_some h
      refine wa_callVi 70 hC [.int x1, .int (4 : Int32)] [.int (4 : Int32), .int x1, .ref (ρ 10 0)] knX10_ofMember mvX10_169 (tX10_ofMember E.2.1 x1 (4 : Int32) Z_5 hVC e_13) (vs10 hVC) kc10 (Nat.le_of_ble_eq_true rfl) (Nat.le_of_ble_eq_true rfl) rfl (Nat.le_of_ble_eq_true rfl) dX10_reduce_67 rfl le00 rfl ?_
      refine wa_iload_n 71 2 hC dX10_reduce_70 rfl 2 rfl rfl ?_
      refine wa_isub 72 hC dX10_reduce_71 rfl ?_
      obtain ⟨Z_7, e_12, h⟩ := bd_some h
      refine wa_callVv 75 hC [.int x1, .int (4 : Int32), .int (r_6 - x2)] [] knX10_setMember mvX10_175 (tX10_setMember E.2.1 x1 (4 : Int32) (r_6 - x2) Z_5 hVC e_12) (vs10 hVC) kc10 (Nat.le_of_ble_eq_true rfl) (Nat.le_of_ble_eq_true rfl) rfl (Nat.le_of_ble_eq_true rfl) dX10_reduce_72 rfl le00 rfl ?_
      refine wa_aload_n 76 0 hC dX10_reduce_75 rfl 0 rfl rfl ?_
      obtain ⟨Z_8, e_11, h⟩ := bd_some h
      refine wa_callVv 79 hC [] [] knX10_goesThrough mvX10_181 (tX10_goesThrough E.2.1 Z_7 hVC e_11) (vs10 hVC) kc10 (Nat.le_of_ble_eq_true rfl) (Nat.le_of_ble_eq_true rfl) rfl (Nat.le_of_ble_eq_true rfl) dX10_reduce_76 rfl le00 rfl ?_
      refine wa_aload_n 80 0 hC dX10_reduce_79 rfl 0 rfl rfl ?_
      obtain ⟨r_9, e_10, h⟩ := bd_some h
      refine wa_callVi 83 hC [] [] knX10_free mvX10_172 (tX10_free E.2.1 Z_8 hVC e_10) (vs10 hVC) kc10 (Nat.le_of_ble_eq_true rfl) (Nat.le_of_ble_eq_true rfl) rfl (Nat.le_of_ble_eq_true rfl) dX10_reduce_80 rfl le00 rfl ?_
      exact wa_iret hC hQ (sm1 h) (jZ (sm2 h)) dX10_reduce_83
    · refine wa_iconst 56 hC dX10_reduce_55 kc_0 rfl ?_
      exact wa_iret hC hQ (sm1 h) (jZ (sm2 h)) dX10_reduce_56
  clear ekj_3
  refine wa_if_ne 9 13 hC dX10_reduce_6 rfl rfl h (fun h => ?_) (fun h => ?_)
  · refine wa_iload_n 14 2 hC dX10_reduce_13 rfl 2 rfl rfl ?_
    refine wa_iconst 15 hC dX10_reduce_14 kc_1 rfl ?_
    refine wa_icmp_ge 18 22 hC dX10_reduce_15 rfl rfl h (fun h => ?_) (fun h => ?_)
    · refine wa_aload_n 23 0 hC dX10_reduce_22 rfl 0 rfl rfl ?_
      refine wa_iload_n 24 1 hC dX10_reduce_23 rfl 1 rfl rfl ?_
      obtain ⟨r_15, e_19, h⟩ := bd_some h
      refine wa_callVi 27 hC [.int x1] [.ref (ρ 10 0)] knX10_isActive mvX10_187 (tX10_isActive E.2.1 x1 Z hVC e_19) (vs10 hVC) kc10 (Nat.le_of_ble_eq_true rfl) (Nat.le_of_ble_eq_true rfl) rfl (Nat.le_of_ble_eq_true rfl) dX10_reduce_24 rfl le00 rfl ?_
      obtain ⟨kj_16, ekj_16, h⟩ := ltb_some h
      have hkj_16 : kj_16 = some (r, Z') → WA E G ρ V 0 0 (J A Z) 40 [(0, .ref (ρ 10 0)), (1, .int x1), (2, .int x2)] [.ref (ρ 10 0)] := by
        intro h
        rw [ekj_16] at h
        refine wa_iconst 41 hC dX10_reduce_40 kc_3 rfl ?_
        refine wa_goto 45 hC dX10_reduce_41 rfl ?_
        exact hkj_3 (3 : Int32) h
      clear ekj_16
      refine wa_if_eq 30 40 hC dX10_reduce_27 rfl rfl h (fun h => ?_) (fun h => ?_)
      · exact hkj_16 h
      · refine wa_aload_n 31 0 hC dX10_reduce_30 rfl 0 rfl rfl ?_
        refine wa_iload_n 32 1 hC dX10_reduce_31 rfl 1 rfl rfl ?_
        refine wa_iconst 33 hC dX10_reduce_32 kc_4 rfl ?_
        obtain ⟨r_17, e_18, h⟩ := bd_some h
        refine wa_callVi 36 hC [.int x1, .int (4 : Int32)] [.ref (ρ 10 0)] knX10_ofMember mvX10_169 (tX10_ofMember E.2.1 x1 (4 : Int32) Z hVC e_18) (vs10 hVC) kc10 (Nat.le_of_ble_eq_true rfl) (Nat.le_of_ble_eq_true rfl) rfl (Nat.le_of_ble_eq_true rfl) dX10_reduce_33 rfl le00 rfl ?_
        refine wa_iload_n 37 2 hC dX10_reduce_36 rfl 2 rfl rfl ?_
        refine wa_icmp_gt 40 44 hC dX10_reduce_37 rfl rfl h (fun h => ?_) (fun h => ?_)
        · refine wa_iconst 45 hC dX10_reduce_44 kc_0 rfl ?_
          exact hkj_3 (0 : Int32) h
        · exact hkj_16 h
    · refine wa_iconst 19 hC dX10_reduce_18 kc_2 rfl ?_
      refine wa_goto 45 hC dX10_reduce_19 rfl ?_
      exact hkj_3 (2 : Int32) h
  · refine wa_iconst 10 hC dX10_reduce_9 kc_1 rfl ?_
    refine wa_goto 45 hC dX10_reduce_10 rfl ?_
    exact hkj_3 (1 : Int32) h
set_option maxRecDepth 20000 in
theorem tX10_transfer (l : Launch) {G : gU} {ρ : Nat → Nat → Nat} {V : Nat → Nat → Prop} {A : sM} (x1 : Int32) (x2 : Int32) (x3 : Int32) (Z : sM) (_ : VC V) {r : Int32} {Z' : sM} (h : fX10_transfer x1 x2 x3 Z = some (r, Z')) : MT l yX10_transfer cX10_transfer 6 (some .int) 3 G ρ V [.ref (ρ 10 0), .int x1, .int x2, .int x3] (J A Z) (some (.int r)) (J A Z') := by
  refine vv_enter (lv := [(0, .ref (ρ 10 0)), (1, .int x1), (2, .int x2), (3, .int x3)]) RX10 rfl (by decide) (Nat.le_of_ble_eq_true rfl) rfl ?_
  intro E hE hC hQ hVC
  subst hE
  rw [fX10_transfer] at h
  refine wa_aload_n 1 0 hC dX10_transfer_0 rfl 0 rfl rfl ?_
  refine wa_aload_n 2 0 hC dX10_transfer_1 rfl 0 rfl rfl ?_
  refine wa_iload_n 3 1 hC dX10_transfer_2 rfl 1 rfl rfl ?_
  obtain ⟨r_1, e_32, h⟩ := bd_some h
  refine wa_callVi 6 hC [.int x1] [.ref (ρ 10 0)] knX10_isMember mvX10_184 (tX10_isMember E.2.1 x1 Z hVC e_32) (vs10 hVC) kc10 (Nat.le_of_ble_eq_true rfl) (Nat.le_of_ble_eq_true rfl) rfl (Nat.le_of_ble_eq_true rfl) dX10_transfer_3 rfl le00 rfl ?_
  obtain ⟨kj_3, ekj_3, h⟩ := ltb_k1 h
  have hkj_3 : ∀ (v_2 : Int32), kj_3 v_2 = some (r, Z') → WA E G ρ V 0 0 (J A Z) 36 [(0, .ref (ρ 10 0)), (1, .int x1), (2, .int x2), (3, .int x3)] [.int v_2, .ref (ρ 10 0)] := by
    intro v_2 h
    rw [ekj_3] at h
    obtain ⟨Z_4, eZ_4, h⟩ := ltb_some h
    refine wa_putIr 39 hC (vs10 hVC) nk10 eZ_4 sh10_6 rfl fpX10_63 dX10_transfer_36 rfl ?_
    refine wa_aload_n 40 0 hC dX10_transfer_39 rfl 0 rfl rfl ?_
    refine wa_getIr 43 hC (vs10 hVC) sh10_6 rfl flX10_63 dX10_transfer_40 rfl ?_
    refine wa_if_le 46 48 hC dX10_transfer_43 rfl rfl h (fun h => ?_) (fun h => ?_)
    · refine wa_aload_n 49 0 hC dX10_transfer_48 rfl 0 rfl rfl ?_
      refine wa_iload_n 50 2 hC dX10_transfer_49 rfl 2 rfl rfl ?_
      refine wa_iconst 51 hC dX10_transfer_50 kc_4 rfl ?_
      obtain ⟨r_5, e_27, h⟩ := bd_some h
      refine wa_callVi 54 hC [.int x2, .int (4 : Int32)] [] knX10_ofMember mvX10_169 (tX10_ofMember E.2.1 x2 (4 : Int32) Z_4 hVC e_27) (vs10 hVC) kc10 (Nat.le_of_ble_eq_true rfl) (Nat.le_of_ble_eq_true rfl) rfl (Nat.le_of_ble_eq_true rfl) dX10_transfer_51 rfl le00 rfl ?_
      refine wa_i2l 55 hC dX10_transfer_54 rfl ?_
      refine wa_iload_n 56 3 hC dX10_transfer_55 rfl 3 rfl rfl ?_
      refine wa_i2l 57 hC dX10_transfer_56 rfl ?_
      refine wa_ladd 58 hC dX10_transfer_57 rfl ?_
      obtain ⟨x4_6, ex4_6, h⟩ := ltb_some h
      refine wa_lstore (lv' := [(4, .long x4_6), (0, .ref (ρ 10 0)), (1, .int x1), (2, .int x2), (3, .int x3)]) 60 4 hC dX10_transfer_58 ex4_6 (by decide) rfl rfl ?_
      refine wa_aload_n 61 0 hC dX10_transfer_60 rfl 1 rfl rfl ?_
      refine wa_aload_n 62 0 hC dX10_transfer_61 rfl 1 rfl rfl ?_
      refine wa_iload_n 63 1 hC dX10_transfer_62 rfl 2 rfl rfl ?_
      obtain ⟨r_7, e_26, h⟩ := bd_some h
      refine wa_callVi 66 hC [.int x1] [.ref (ρ 10 0)] knX10_isActive mvX10_187 (tX10_isActive E.2.1 x1 Z_4 hVC e_26) (vs10 hVC) kc10 (Nat.le_of_ble_eq_true rfl) (Nat.le_of_ble_eq_true rfl) rfl (Nat.le_of_ble_eq_true rfl) dX10_transfer_63 rfl le00 rfl ?_
      obtain ⟨kj_9, ekj_9, h⟩ := ltb_k1 h
      have hkj_9 : ∀ (v_8 : Int32), kj_9 v_8 = some (r, Z') → WA E G ρ V 0 0 (J A Z_4) 103 [(0, .ref (ρ 10 0)), (1, .int x1), (2, .int x2), (3, .int x3), (4, .long x4_6)] [.int v_8, .ref (ρ 10 0)] := by
        intro v_8 h
        rw [ekj_9] at h
        obtain ⟨Z_10, eZ_10, h⟩ := ltb_some h
        refine wa_putIr 106 hC (vs10 hVC) nk10 eZ_10 sh10_6 rfl fpX10_63 dX10_transfer_103 rfl ?_
        refine wa_aload_n 107 0 hC dX10_transfer_106 rfl 0 rfl rfl ?_
        refine wa_getIr 110 hC (vs10 hVC) sh10_6 rfl flX10_63 dX10_transfer_107 rfl ?_
        refine wa_if_le 113 115 hC dX10_transfer_110 rfl rfl h (fun h => ?_) (fun h => ?_)
        · refine wa_aload_n 116 0 hC dX10_transfer_115 rfl 0 rfl rfl ?_
          obtain ⟨Z_11, e_18, h⟩ := bd_some h
          refine wa_callVv 119 hC [] [] knX10_keeps mvX10_157 (tX10_keeps E.2.1 Z_10 hVC e_18) (vs10 hVC) kc10 (Nat.le_of_ble_eq_true rfl) (Nat.le_of_ble_eq_true rfl) rfl (Nat.le_of_ble_eq_true rfl) dX10_transfer_116 rfl le00 rfl ?_
          refine wa_aload_n 120 0 hC dX10_transfer_119 rfl 0 rfl rfl ?_
          refine wa_iload_n 121 1 hC dX10_transfer_120 rfl 1 rfl rfl ?_
          refine wa_iconst 122 hC dX10_transfer_121 kc_4 rfl ?_
          refine wa_aload_n 123 0 hC dX10_transfer_122 rfl 0 rfl rfl ?_
          refine wa_iload_n 124 1 hC dX10_transfer_123 rfl 1 rfl rfl ?_
          refine wa_iconst 125 hC dX10_transfer_124 kc_4 rfl ?_
          obtain ⟨r_12, e_17, h⟩ := bd_some h
          refine wa_callVi 128 hC [.int x1, .int (4 : Int32)] [.int (4 : Int32), .int x1, .ref (ρ 10 0)] knX10_ofMember mvX10_169 (tX10_ofMember E.2.1 x1 (4 : Int32) Z_11 hVC e_17) (vs10 hVC) kc10 (Nat.le_of_ble_eq_true rfl) (Nat.le_of_ble_eq_true rfl) rfl (Nat.le_of_ble_eq_true rfl) dX10_transfer_125 rfl le00 rfl ?_
          refine wa_iload_n 129 3 hC dX10_transfer_128 rfl 3 rfl rfl ?_
          refine wa_isub 130 hC dX10_transfer_129 rfl ?_
          obtain ⟨Z_13, e_16, h⟩ := bd_some h
          refine wa_callVv 133 hC [.int x1, .int (4 : Int32), .int (r_12 - x3)] [] knX10_setMember mvX10_175 (tX10_setMember E.2.1 x1 (4 : Int32) (r_12 - x3) Z_11 hVC e_16) (vs10 hVC) kc10 (Nat.le_of_ble_eq_true rfl) (Nat.le_of_ble_eq_true rfl) rfl (Nat.le_of_ble_eq_true rfl) dX10_transfer_130 rfl le00 rfl ?_
          refine wa_aload_n 134 0 hC dX10_transfer_133 rfl 0 rfl rfl ?_
          refine wa_iload_n 135 2 hC dX10_transfer_134 rfl 2 rfl rfl ?_
          refine wa_iconst 136 hC dX10_transfer_135 kc_4 rfl ?_
          refine wa_lload 138 4 hC dX10_transfer_136 4 rfl rfl ?_
          refine wa_l2i 139 hC dX10_transfer_138 rfl ?_
          obtain ⟨Z_14, e_15, h⟩ := bd_some h
          refine wa_callVv 142 hC [.int x2, .int (4 : Int32), .int (x4_6.toInt32)] [] knX10_setMember mvX10_175 (tX10_setMember E.2.1 x2 (4 : Int32) (x4_6.toInt32) Z_13 hVC e_15) (vs10 hVC) kc10 (Nat.le_of_ble_eq_true rfl) (Nat.le_of_ble_eq_true rfl) rfl (Nat.le_of_ble_eq_true rfl) dX10_transfer_139 rfl le00 rfl ?_
          refine wa_lload 144 4 hC dX10_transfer_142 4 rfl rfl ?_
          refine wa_l2i 145 hC dX10_transfer_144 rfl ?_
          exact wa_iret hC hQ (sm1 h) (jZ (sm2 h)) dX10_transfer_145
        · refine wa_iconst 114 hC dX10_transfer_113 kc_0 rfl ?_
          exact wa_iret hC hQ (sm1 h) (jZ (sm2 h)) dX10_transfer_114
      clear ekj_9
      obtain ⟨kj_19, ekj_19, h⟩ := ltb_some h
      have hkj_19 : kj_19 = some (r, Z') → WA E G ρ V 0 0 (J A Z_4) 98 [(0, .ref (ρ 10 0)), (1, .int x1), (2, .int x2), (3, .int x3), (4, .long x4_6)] [.ref (ρ 10 0)] := by
        intro h
        rw [ekj_19] at h
        refine wa_iconst 99 hC dX10_transfer_98 kc_3 rfl ?_
        refine wa_goto 103 hC dX10_transfer_99 rfl ?_
        exact hkj_9 (3 : Int32) h
      clear ekj_19
      refine wa_if_eq 69 98 hC dX10_transfer_66 rfl rfl h (fun h => ?_) (fun h => ?_)
      · refine wa_pick [1, 2, 3, 4, 0] rfl ?_
        exact hkj_19 h
      · refine wa_aload_n 70 0 hC dX10_transfer_69 rfl 1 rfl rfl ?_
        refine wa_iload_n 71 2 hC dX10_transfer_70 rfl 3 rfl rfl ?_
        obtain ⟨r_20, e_25, h⟩ := bd_some h
        refine wa_callVi 74 hC [.int x2] [.ref (ρ 10 0)] knX10_isActive mvX10_187 (tX10_isActive E.2.1 x2 Z_4 hVC e_25) (vs10 hVC) kc10 (Nat.le_of_ble_eq_true rfl) (Nat.le_of_ble_eq_true rfl) rfl (Nat.le_of_ble_eq_true rfl) dX10_transfer_71 rfl le00 rfl ?_
        refine wa_if_eq 77 98 hC dX10_transfer_74 rfl rfl h (fun h => ?_) (fun h => ?_)
        · refine wa_pick [1, 2, 3, 4, 0] rfl ?_
          exact hkj_19 h
        · refine wa_aload_n 78 0 hC dX10_transfer_77 rfl 1 rfl rfl ?_
          refine wa_iload_n 79 1 hC dX10_transfer_78 rfl 2 rfl rfl ?_
          refine wa_iconst 80 hC dX10_transfer_79 kc_4 rfl ?_
          obtain ⟨r_21, e_24, h⟩ := bd_some h
          refine wa_callVi 83 hC [.int x1, .int (4 : Int32)] [.ref (ρ 10 0)] knX10_ofMember mvX10_169 (tX10_ofMember E.2.1 x1 (4 : Int32) Z_4 hVC e_24) (vs10 hVC) kc10 (Nat.le_of_ble_eq_true rfl) (Nat.le_of_ble_eq_true rfl) rfl (Nat.le_of_ble_eq_true rfl) dX10_transfer_80 rfl le00 rfl ?_
          refine wa_iload_n 84 3 hC dX10_transfer_83 rfl 4 rfl rfl ?_
          refine wa_icmp_le 87 98 hC dX10_transfer_84 rfl rfl h (fun h => ?_) (fun h => ?_)
          · refine wa_pick [1, 2, 3, 4, 0] rfl ?_
            exact hkj_19 h
          · refine wa_lload 89 4 hC dX10_transfer_87 0 rfl rfl ?_
            refine wa_aload_n 90 0 hC dX10_transfer_89 rfl 1 rfl rfl ?_
            obtain ⟨r_22, e_23, h⟩ := bd_some h
            refine wa_callVi 93 hC [] [.long x4_6, .ref (ρ 10 0)] knX10_mostShares mvX10_164 (tX10_mostShares E.2.1 Z_4 hVC e_23) (vs10 hVC) kc10 (Nat.le_of_ble_eq_true rfl) (Nat.le_of_ble_eq_true rfl) rfl (Nat.le_of_ble_eq_true rfl) dX10_transfer_90 rfl le00 rfl ?_
            refine wa_i2l 94 hC dX10_transfer_93 rfl ?_
            refine wa_lcmp 95 hC dX10_transfer_94 rfl ?_
            refine wa_lcmp_le 98 102 hC dX10_transfer_95 rfl rfl h (fun h => ?_) (fun h => ?_)
            · refine wa_iconst 103 hC dX10_transfer_102 kc_0 rfl ?_
              refine wa_pick [1, 2, 3, 4, 0] rfl ?_
              exact hkj_9 (0 : Int32) h
            · refine wa_pick [1, 2, 3, 4, 0] rfl ?_
              exact hkj_19 h
    · refine wa_iconst 47 hC dX10_transfer_46 kc_0 rfl ?_
      exact wa_iret hC hQ (sm1 h) (jZ (sm2 h)) dX10_transfer_47
  clear ekj_3
  obtain ⟨kj_28, ekj_28, h⟩ := ltb_some h
  have hkj_28 : kj_28 = some (r, Z') → WA E G ρ V 0 0 (J A Z) 17 [(0, .ref (ρ 10 0)), (1, .int x1), (2, .int x2), (3, .int x3)] [.ref (ρ 10 0)] := by
    intro h
    rw [ekj_28] at h
    refine wa_iconst 18 hC dX10_transfer_17 kc_1 rfl ?_
    refine wa_goto 36 hC dX10_transfer_18 rfl ?_
    exact hkj_3 (1 : Int32) h
  clear ekj_28
  refine wa_if_eq 9 17 hC dX10_transfer_6 rfl rfl h (fun h => ?_) (fun h => ?_)
  · exact hkj_28 h
  · refine wa_aload_n 10 0 hC dX10_transfer_9 rfl 0 rfl rfl ?_
    refine wa_iload_n 11 2 hC dX10_transfer_10 rfl 2 rfl rfl ?_
    obtain ⟨r_29, e_31, h⟩ := bd_some h
    refine wa_callVi 14 hC [.int x2] [.ref (ρ 10 0)] knX10_isMember mvX10_184 (tX10_isMember E.2.1 x2 Z hVC e_31) (vs10 hVC) kc10 (Nat.le_of_ble_eq_true rfl) (Nat.le_of_ble_eq_true rfl) rfl (Nat.le_of_ble_eq_true rfl) dX10_transfer_11 rfl le00 rfl ?_
    refine wa_if_ne 17 21 hC dX10_transfer_14 rfl rfl h (fun h => ?_) (fun h => ?_)
    · refine wa_iload_n 22 1 hC dX10_transfer_21 rfl 1 rfl rfl ?_
      refine wa_iload_n 23 2 hC dX10_transfer_22 rfl 2 rfl rfl ?_
      obtain ⟨kj_30, ekj_30, h⟩ := ltb_some h
      have hkj_30 : kj_30 = some (r, Z') → WA E G ρ V 0 0 (J A Z) 31 [(0, .ref (ρ 10 0)), (1, .int x1), (2, .int x2), (3, .int x3)] [.ref (ρ 10 0)] := by
        intro h
        rw [ekj_30] at h
        refine wa_iconst 32 hC dX10_transfer_31 kc_2 rfl ?_
        refine wa_goto 36 hC dX10_transfer_32 rfl ?_
        exact hkj_3 (2 : Int32) h
      clear ekj_30
      refine wa_icmp_eq 26 31 hC dX10_transfer_23 rfl rfl h (fun h => ?_) (fun h => ?_)
      · exact hkj_30 h
      · refine wa_iload_n 27 3 hC dX10_transfer_26 rfl 3 rfl rfl ?_
        refine wa_iconst 28 hC dX10_transfer_27 kc_1 rfl ?_
        refine wa_icmp_ge 31 35 hC dX10_transfer_28 rfl rfl h (fun h => ?_) (fun h => ?_)
        · refine wa_iconst 36 hC dX10_transfer_35 kc_0 rfl ?_
          exact hkj_3 (0 : Int32) h
        · exact hkj_30 h
    · exact hkj_28 h
set_option maxRecDepth 20000 in
theorem wX10_comesTo_L5 {E : eU} {G : gU} {ρ : Nat → Nat → Nat} {V : Nat → Nat → Prop} {A : sM} {r : Int32} (x2 : Int32) (Z : sM) {k35 : Int32 → Option (Int32)} (hC : CX E G cX10_comesTo 5 RX10 (some .boolean) 2 0 0) (hVC : VC V) (hk35 : ∀ (x3 : Int32), k35 x3 = some r → WA E G ρ V 0 0 (J A Z) 35 [(2, .int x2), (3, .int x3)] []) : ∀ (n : Nat) (x3 : Int32) (x4 : Int32), fX10_comesTo_L5 x2 Z k35 n x3 x4 = some r → WA E G ρ V 0 0 (J A Z) 5 [(0, .ref (ρ 10 0)), (2, .int x2), (3, .int x3), (4, .int x4)] [] := by
  intro n
  induction n with
  | zero =>
    intro x3 x4 h
    rw [fX10_comesTo_L5] at h
    cases h
  | succ n ih =>
    intro x3 x4 h
    rw [fX10_comesTo_L5] at h
    refine wa_iload 7 4 hC dX10_comesTo_5 3 rfl rfl ?_
    refine wa_bipush 9 hC dX10_comesTo_7 kb_16 rfl ?_
    refine wa_icmp_ge 12 35 hC dX10_comesTo_9 rfl rfl h (fun h => ?_) (fun h => ?_)
    · refine wa_pick [1, 2] rfl ?_
      exact hk35 x3 h
    · refine wa_iload_n 13 3 hC dX10_comesTo_12 rfl 2 rfl rfl ?_
      refine wa_iload_n 14 2 hC dX10_comesTo_13 rfl 1 rfl rfl ?_
      refine wa_icmp_eq 17 35 hC dX10_comesTo_14 rfl rfl h (fun h => ?_) (fun h => ?_)
      · refine wa_pick [1, 2] rfl ?_
        exact hk35 x3 h
      · refine wa_iload_n 18 3 hC dX10_comesTo_17 rfl 2 rfl rfl ?_
        refine wa_iconst 19 hC dX10_comesTo_18 kc_m1 rfl ?_
        refine wa_icmp_eq 22 35 hC dX10_comesTo_19 rfl rfl h (fun h => ?_) (fun h => ?_)
        · refine wa_pick [1, 2] rfl ?_
          exact hk35 x3 h
        · refine wa_aload_n 23 0 hC dX10_comesTo_22 rfl 0 rfl rfl ?_
          refine wa_iload_n 24 3 hC dX10_comesTo_23 rfl 2 rfl rfl ?_
          refine wa_iconst 25 hC dX10_comesTo_24 kc_5 rfl ?_
          obtain ⟨r_1, e_3, h⟩ := bd_some h
          refine wa_callVi 28 hC [.int x3, .int (5 : Int32)] [] knX10_ofMember mvX10_169 (tX10_ofMember E.2.1 x3 (5 : Int32) Z hVC e_3) (vs10 hVC) kc10 (Nat.le_of_ble_eq_true rfl) (Nat.le_of_ble_eq_true rfl) rfl (Nat.le_of_ble_eq_true rfl) dX10_comesTo_25 rfl le00 rfl ?_
          refine wa_istore_n (lv' := [(3, .int r_1), (0, .ref (ρ 10 0)), (2, .int x2), (4, .int x4)]) 29 3 hC dX10_comesTo_28 rfl rfl (by decide) rfl rfl ?_
          obtain ⟨x4_2, ex4_2, h⟩ := ltb_some h
          refine wa_iinc (lv' := [(4, .int x4_2), (3, .int r_1), (0, .ref (ρ 10 0)), (2, .int x2)]) 32 4 hC dX10_comesTo_29 3 rfl (by rw [kc_1]; exact ex4_2) (by decide) rfl rfl ?_
          refine wa_goto 5 hC dX10_comesTo_32 rfl ?_
          refine wa_pick [2, 3, 1, 0] rfl ?_
          exact ih r_1 x4_2 h
set_option maxRecDepth 20000 in
theorem tX10_comesTo (l : Launch) {G : gU} {ρ : Nat → Nat → Nat} {V : Nat → Nat → Prop} {A : sM} (x1 : Int32) (x2 : Int32) (Z : sM) (_ : VC V) {r : Int32} (h : fX10_comesTo x1 x2 Z = some r) : MT l yX10_comesTo cX10_comesTo 5 (some .boolean) 2 G ρ V [.ref (ρ 10 0), .int x1, .int x2] (J A Z) (some (.int r)) (J A Z) := by
  refine vv_enter (lv := [(0, .ref (ρ 10 0)), (1, .int x1), (2, .int x2)]) RX10 rfl (by decide) (Nat.le_of_ble_eq_true rfl) rfl ?_
  intro E hE hC hQ hVC
  subst hE
  rw [fX10_comesTo] at h
  refine wa_iload_n 1 1 hC dX10_comesTo_0 rfl 1 rfl rfl ?_
  refine wa_istore_n (lv' := [(3, .int x1), (0, .ref (ρ 10 0)), (1, .int x1), (2, .int x2)]) 2 3 hC dX10_comesTo_1 rfl rfl (by decide) rfl rfl ?_
  refine wa_iconst 3 hC dX10_comesTo_2 kc_0 rfl ?_
  refine wa_istore (lv' := [(4, .int (0 : Int32)), (3, .int x1), (0, .ref (ρ 10 0)), (1, .int x1), (2, .int x2)]) 5 4 hC dX10_comesTo_3 rfl (by decide) rfl rfl ?_
  refine wa_pick [2, 4, 1, 0] rfl ?_
  refine wX10_comesTo_L5 x2 Z hC hVC (fun x3_1 h => ?_) 10000 x1 (0 : Int32) h
  refine wa_iload_n 36 3 hC dX10_comesTo_35 rfl 1 rfl rfl ?_
  refine wa_iload_n 37 2 hC dX10_comesTo_36 rfl 0 rfl rfl ?_
  refine wa_icmp_ne 40 44 hC dX10_comesTo_37 rfl rfl h (fun h => ?_) (fun h => ?_)
  · refine wa_iconst 45 hC dX10_comesTo_44 kc_0 rfl ?_
    exact wa_zret hC hQ (sm0 h) rfl rfl dX10_comesTo_45
  · refine wa_iconst 41 hC dX10_comesTo_40 kc_1 rfl ?_
    refine wa_goto 45 hC dX10_comesTo_41 rfl ?_
    exact wa_zret hC hQ (sm0 h) rfl rfl dX10_comesTo_45
set_option maxRecDepth 20000 in
theorem tX10_assign (l : Launch) {G : gU} {ρ : Nat → Nat → Nat} {V : Nat → Nat → Prop} {A : sM} (x1 : Int32) (x2 : Int32) (x3 : Int32) (Z : sM) (_ : VC V) {Z' : sM} (h : fX10_assign x1 x2 x3 Z = some Z') : MT l yX10_assign cX10_assign 4 none 3 G ρ V [.ref (ρ 10 0), .int x1, .int x2, .int x3] (J A Z) none (J A Z') := by
  refine vv_enter (lv := [(0, .ref (ρ 10 0)), (1, .int x1), (2, .int x2), (3, .int x3)]) RX10 rfl (by decide) (Nat.le_of_ble_eq_true rfl) rfl ?_
  intro E hE hC hQ hVC
  subst hE
  rw [fX10_assign] at h
  refine wa_aload_n 1 0 hC dX10_assign_0 rfl 0 rfl rfl ?_
  refine wa_aload_n 2 0 hC dX10_assign_1 rfl 0 rfl rfl ?_
  refine wa_iload_n 3 1 hC dX10_assign_2 rfl 1 rfl rfl ?_
  obtain ⟨r_1, e_33, h⟩ := bd_some h
  refine wa_callVi 6 hC [.int x1] [.ref (ρ 10 0)] knX10_isMember mvX10_184 (tX10_isMember E.2.1 x1 Z hVC e_33) (vs10 hVC) kc10 (Nat.le_of_ble_eq_true rfl) (Nat.le_of_ble_eq_true rfl) rfl (Nat.le_of_ble_eq_true rfl) dX10_assign_3 rfl le00 rfl ?_
  obtain ⟨kj_3, ekj_3, h⟩ := ltb_k1 h
  have hkj_3 : ∀ (v_2 : Int32), kj_3 v_2 = some Z' → WA E G ρ V 0 0 (J A Z) 22 [(0, .ref (ρ 10 0)), (1, .int x1), (2, .int x2), (3, .int x3)] [.int v_2, .ref (ρ 10 0)] := by
    intro v_2 h
    rw [ekj_3] at h
    obtain ⟨Z_4, eZ_4, h⟩ := ltb_some h
    refine wa_putIr 25 hC (vs10 hVC) nk10 eZ_4 sh10_6 rfl fpX10_63 dX10_assign_22 rfl ?_
    refine wa_aload_n 26 0 hC dX10_assign_25 rfl 0 rfl rfl ?_
    refine wa_getIr 29 hC (vs10 hVC) sh10_6 rfl flX10_63 dX10_assign_26 rfl ?_
    refine wa_if_le 32 33 hC dX10_assign_29 rfl rfl h (fun h => ?_) (fun h => ?_)
    · refine wa_iload_n 34 1 hC dX10_assign_33 rfl 1 rfl rfl ?_
      refine wa_iload_n 35 2 hC dX10_assign_34 rfl 2 rfl rfl ?_
      obtain ⟨kj_6, ekj_6, h⟩ := ltb_k1 h
      have hkj_6 : ∀ (Z_5 : sM), kj_6 Z_5 = some Z' → WA E G ρ V 0 0 (J A Z_5) 92 [(0, .ref (ρ 10 0)), (1, .int x1), (2, .int x2), (3, .int x3)] [] := by
        intro Z_5 h
        rw [ekj_6] at h
        refine wa_aload_n 93 0 hC dX10_assign_92 rfl 0 rfl rfl ?_
        refine wa_getIr 96 hC (vs10 hVC) sh10_6 rfl flX10_63 dX10_assign_93 rfl ?_
        refine wa_if_le 99 100 hC dX10_assign_96 rfl rfl h (fun h => ?_) (fun h => ?_)
        · refine wa_aload_n 101 0 hC dX10_assign_100 rfl 0 rfl rfl ?_
          obtain ⟨Z_7, e_16, h⟩ := bd_some h
          refine wa_callVv 104 hC [] [] knX10_keeps mvX10_157 (tX10_keeps E.2.1 Z_5 hVC e_16) (vs10 hVC) kc10 (Nat.le_of_ble_eq_true rfl) (Nat.le_of_ble_eq_true rfl) rfl (Nat.le_of_ble_eq_true rfl) dX10_assign_101 rfl le00 rfl ?_
          refine wa_aload_n 105 0 hC dX10_assign_104 rfl 0 rfl rfl ?_
          refine wa_iload_n 106 1 hC dX10_assign_105 rfl 1 rfl rfl ?_
          refine wa_iconst 107 hC dX10_assign_106 kc_5 rfl ?_
          refine wa_iload_n 108 3 hC dX10_assign_107 rfl 3 rfl rfl ?_
          refine wa_if_le 111 115 hC dX10_assign_108 rfl rfl h (fun h => ?_) (fun h => ?_)
          · refine wa_iconst 116 hC dX10_assign_115 kc_m1 rfl ?_
            obtain ⟨Z_8, e_11, h⟩ := bd_some h
            refine wa_callVv 119 hC [.int x1, .int (5 : Int32), .int (-1 : Int32)] [] knX10_setMember mvX10_175 (tX10_setMember E.2.1 x1 (5 : Int32) (-1 : Int32) Z_7 hVC e_11) (vs10 hVC) kc10 (Nat.le_of_ble_eq_true rfl) (Nat.le_of_ble_eq_true rfl) rfl (Nat.le_of_ble_eq_true rfl) dX10_assign_116 rfl le00 rfl ?_
            refine wa_aload_n 120 0 hC dX10_assign_119 rfl 0 rfl rfl ?_
            refine wa_iload_n 121 1 hC dX10_assign_120 rfl 1 rfl rfl ?_
            refine wa_bipush 123 hC dX10_assign_121 kb_6 rfl ?_
            refine wa_iload_n 124 3 hC dX10_assign_123 rfl 3 rfl rfl ?_
            obtain ⟨Z_9, e_10, h⟩ := bd_some h
            refine wa_callVv 127 hC [.int x1, .int (6 : Int32), .int x3] [] knX10_setMember mvX10_175 (tX10_setMember E.2.1 x1 (6 : Int32) x3 Z_8 hVC e_10) (vs10 hVC) kc10 (Nat.le_of_ble_eq_true rfl) (Nat.le_of_ble_eq_true rfl) rfl (Nat.le_of_ble_eq_true rfl) dX10_assign_124 rfl le00 rfl ?_
            exact wa_vret hC hQ (jZ (sm0 h)) dX10_assign_127
          · refine wa_iload_n 112 2 hC dX10_assign_111 rfl 2 rfl rfl ?_
            refine wa_goto 116 hC dX10_assign_112 rfl ?_
            obtain ⟨Z_12, e_15, h⟩ := bd_some h
            refine wa_callVv 119 hC [.int x1, .int (5 : Int32), .int x2] [] knX10_setMember mvX10_175 (tX10_setMember E.2.1 x1 (5 : Int32) x2 Z_7 hVC e_15) (vs10 hVC) kc10 (Nat.le_of_ble_eq_true rfl) (Nat.le_of_ble_eq_true rfl) rfl (Nat.le_of_ble_eq_true rfl) dX10_assign_116 rfl le00 rfl ?_
            refine wa_aload_n 120 0 hC dX10_assign_119 rfl 0 rfl rfl ?_
            refine wa_iload_n 121 1 hC dX10_assign_120 rfl 1 rfl rfl ?_
            refine wa_bipush 123 hC dX10_assign_121 kb_6 rfl ?_
            refine wa_iload_n 124 3 hC dX10_assign_123 rfl 3 rfl rfl ?_
            obtain ⟨Z_13, e_14, h⟩ := bd_some h
            refine wa_callVv 127 hC [.int x1, .int (6 : Int32), .int x3] [] knX10_setMember mvX10_175 (tX10_setMember E.2.1 x1 (6 : Int32) x3 Z_12 hVC e_14) (vs10 hVC) kc10 (Nat.le_of_ble_eq_true rfl) (Nat.le_of_ble_eq_true rfl) rfl (Nat.le_of_ble_eq_true rfl) dX10_assign_124 rfl le00 rfl ?_
            exact wa_vret hC hQ (jZ (sm0 h)) dX10_assign_127
        · exact wa_vret hC hQ (jZ (sm0 h)) dX10_assign_99
      clear ekj_6
      obtain ⟨kj_17, ekj_17, h⟩ := ltb_some h
      have hkj_17 : kj_17 = some Z' → WA E G ρ V 0 0 (J A Z_4) 63 [(0, .ref (ρ 10 0)), (1, .int x1), (2, .int x2), (3, .int x3)] [] := by
        intro h
        rw [ekj_17] at h
        refine wa_aload_n 64 0 hC dX10_assign_63 rfl 0 rfl rfl ?_
        refine wa_iconst 65 hC dX10_assign_64 kc_2 rfl ?_
        obtain ⟨Z_18, eZ_18, h⟩ := ltb_some h
        refine wa_putIr 68 hC (vs10 hVC) nk10 eZ_18 sh10_6 rfl fpX10_63 dX10_assign_65 rfl ?_
        refine wa_goto 92 hC dX10_assign_68 rfl ?_
        exact hkj_6 Z_18 h
      clear ekj_17
      refine wa_icmp_eq 38 63 hC dX10_assign_35 rfl rfl h (fun h => ?_) (fun h => ?_)
      · exact hkj_17 h
      · refine wa_iload_n 39 3 hC dX10_assign_38 rfl 3 rfl rfl ?_
        refine wa_i2l 40 hC dX10_assign_39 rfl ?_
        refine wa_lconst 41 hC dX10_assign_40 kl_0 rfl ?_
        refine wa_ldc2 44 hC dX10_assign_41 lcX10_160 rfl ?_
        obtain ⟨r_19, e_29, h⟩ := bd_some h
        refine wa_callSi 47 hC [.long (x3.toInt64), .long (0 : Int64), .long (100 : Int64)] [] knX10_isIn msX10_104 (tX10_isIn E.2.1 (x3.toInt64) (0 : Int64) (100 : Int64) Z_4 hVC e_29) (Nat.le_of_ble_eq_true rfl) (Nat.le_of_ble_eq_true rfl) rfl (Nat.le_of_ble_eq_true rfl) dX10_assign_44 rfl le00 rfl ?_
        refine wa_if_eq 50 63 hC dX10_assign_47 rfl rfl h (fun h => ?_) (fun h => ?_)
        · exact hkj_17 h
        · refine wa_iload_n 51 3 hC dX10_assign_50 rfl 3 rfl rfl ?_
          obtain ⟨kj_20, ekj_20, h⟩ := ltb_some h
          have hkj_20 : kj_20 = some Z' → WA E G ρ V 0 0 (J A Z_4) 71 [(0, .ref (ρ 10 0)), (1, .int x1), (2, .int x2), (3, .int x3)] [] := by
            intro h
            rw [ekj_20] at h
            refine wa_aload_n 72 0 hC dX10_assign_71 rfl 0 rfl rfl ?_
            refine wa_iload_n 73 1 hC dX10_assign_72 rfl 1 rfl rfl ?_
            obtain ⟨r_21, e_26, h⟩ := bd_some h
            refine wa_callVi 76 hC [.int x1] [] knX10_isActive mvX10_187 (tX10_isActive E.2.1 x1 Z_4 hVC e_26) (vs10 hVC) kc10 (Nat.le_of_ble_eq_true rfl) (Nat.le_of_ble_eq_true rfl) rfl (Nat.le_of_ble_eq_true rfl) dX10_assign_73 rfl le00 rfl ?_
            obtain ⟨kj_22, ekj_22, h⟩ := ltb_some h
            have hkj_22 : kj_22 = some Z' → WA E G ρ V 0 0 (J A Z_4) 87 [(0, .ref (ρ 10 0)), (1, .int x1), (2, .int x2), (3, .int x3)] [] := by
              intro h
              rw [ekj_22] at h
              refine wa_aload_n 88 0 hC dX10_assign_87 rfl 0 rfl rfl ?_
              refine wa_iconst 89 hC dX10_assign_88 kc_3 rfl ?_
              obtain ⟨Z_23, eZ_23, h⟩ := ltb_some h
              refine wa_putIr 92 hC (vs10 hVC) nk10 eZ_23 sh10_6 rfl fpX10_63 dX10_assign_89 rfl ?_
              exact hkj_6 Z_23 h
            clear ekj_22
            refine wa_if_eq 79 87 hC dX10_assign_76 rfl rfl h (fun h => ?_) (fun h => ?_)
            · exact hkj_22 h
            · refine wa_aload_n 80 0 hC dX10_assign_79 rfl 0 rfl rfl ?_
              refine wa_iload_n 81 2 hC dX10_assign_80 rfl 2 rfl rfl ?_
              obtain ⟨r_24, e_25, h⟩ := bd_some h
              refine wa_callVi 84 hC [.int x2] [] knX10_isActive mvX10_187 (tX10_isActive E.2.1 x2 Z_4 hVC e_25) (vs10 hVC) kc10 (Nat.le_of_ble_eq_true rfl) (Nat.le_of_ble_eq_true rfl) rfl (Nat.le_of_ble_eq_true rfl) dX10_assign_81 rfl le00 rfl ?_
              refine wa_if_ne 87 92 hC dX10_assign_84 rfl rfl h (fun h => ?_) (fun h => ?_)
              · exact hkj_6 Z_4 h
              · exact hkj_22 h
          clear ekj_20
          refine wa_if_le 54 71 hC dX10_assign_51 rfl rfl h (fun h => ?_) (fun h => ?_)
          · exact hkj_20 h
          · refine wa_aload_n 55 0 hC dX10_assign_54 rfl 0 rfl rfl ?_
            refine wa_iload_n 56 2 hC dX10_assign_55 rfl 2 rfl rfl ?_
            refine wa_iload_n 57 1 hC dX10_assign_56 rfl 1 rfl rfl ?_
            obtain ⟨r_27, e_28, h⟩ := bd_some h
            refine wa_callVi 60 hC [.int x2, .int x1] [] knX10_comesTo mvX10_190 (tX10_comesTo E.2.1 x2 x1 Z_4 hVC e_28) (vs10 hVC) kc10 (Nat.le_of_ble_eq_true rfl) (Nat.le_of_ble_eq_true rfl) rfl (Nat.le_of_ble_eq_true rfl) dX10_assign_57 rfl le00 rfl ?_
            refine wa_if_eq 63 71 hC dX10_assign_60 rfl rfl h (fun h => ?_) (fun h => ?_)
            · exact hkj_20 h
            · exact hkj_17 h
    · exact wa_vret hC hQ (jZ (sm0 h)) dX10_assign_32
  clear ekj_3
  obtain ⟨kj_30, ekj_30, h⟩ := ltb_some h
  have hkj_30 : kj_30 = some Z' → WA E G ρ V 0 0 (J A Z) 17 [(0, .ref (ρ 10 0)), (1, .int x1), (2, .int x2), (3, .int x3)] [.ref (ρ 10 0)] := by
    intro h
    rw [ekj_30] at h
    refine wa_iconst 18 hC dX10_assign_17 kc_1 rfl ?_
    refine wa_goto 22 hC dX10_assign_18 rfl ?_
    exact hkj_3 (1 : Int32) h
  clear ekj_30
  refine wa_if_eq 9 17 hC dX10_assign_6 rfl rfl h (fun h => ?_) (fun h => ?_)
  · exact hkj_30 h
  · refine wa_aload_n 10 0 hC dX10_assign_9 rfl 0 rfl rfl ?_
    refine wa_iload_n 11 2 hC dX10_assign_10 rfl 2 rfl rfl ?_
    obtain ⟨r_31, e_32, h⟩ := bd_some h
    refine wa_callVi 14 hC [.int x2] [.ref (ρ 10 0)] knX10_isMember mvX10_184 (tX10_isMember E.2.1 x2 Z hVC e_32) (vs10 hVC) kc10 (Nat.le_of_ble_eq_true rfl) (Nat.le_of_ble_eq_true rfl) rfl (Nat.le_of_ble_eq_true rfl) dX10_assign_11 rfl le00 rfl ?_
    refine wa_if_ne 17 21 hC dX10_assign_14 rfl rfl h (fun h => ?_) (fun h => ?_)
    · refine wa_iconst 22 hC dX10_assign_21 kc_0 rfl ?_
      exact hkj_3 (0 : Int32) h
    · exact hkj_30 h
set_option maxRecDepth 20000 in
theorem tX10_accountAt (l : Launch) {G : gU} {ρ : Nat → Nat → Nat} {V : Nat → Nat → Prop} {A : sM} (x1 : Int32) (x2 : Int32) (Z : sM) (_ : VC V) {r : Int32} (h : fX10_accountAt x1 x2 Z = some r) : MT l yX10_accountAt cX10_accountAt 3 (some .int) 1 G ρ V [.ref (ρ 10 0), .int x1, .int x2] (J A Z) (some (.int r)) (J A Z) := by
  refine vv_enter (lv := [(0, .ref (ρ 10 0)), (1, .int x1), (2, .int x2)]) RX10 rfl (by decide) (Nat.le_of_ble_eq_true rfl) rfl ?_
  intro E hE hC hQ hVC
  subst hE
  rw [fX10_accountAt] at h
  refine wa_iconst 1 hC dX10_accountAt_0 kc_2 rfl ?_
  refine wa_bipush 3 hC dX10_accountAt_1 kb_6 rfl ?_
  refine wa_iload_n 4 1 hC dX10_accountAt_3 rfl 1 rfl rfl ?_
  refine wa_imul 5 hC dX10_accountAt_4 rfl ?_
  refine wa_iadd 6 hC dX10_accountAt_5 rfl ?_
  refine wa_iload_n 7 2 hC dX10_accountAt_6 rfl 2 rfl rfl ?_
  refine wa_iadd 8 hC dX10_accountAt_7 rfl ?_
  exact wa_iret hC hQ (sm0 h) rfl dX10_accountAt_8
set_option maxRecDepth 20000 in
theorem tX10_lotAt (l : Launch) {G : gU} {ρ : Nat → Nat → Nat} {V : Nat → Nat → Prop} {A : sM} (x1 : Int32) (x2 : Int32) (Z : sM) (_ : VC V) {r : Int32} (h : fX10_lotAt x1 x2 Z = some r) : MT l yX10_lotAt cX10_lotAt 3 (some .int) 1 G ρ V [.ref (ρ 10 0), .int x1, .int x2] (J A Z) (some (.int r)) (J A Z) := by
  refine vv_enter (lv := [(0, .ref (ρ 10 0)), (1, .int x1), (2, .int x2)]) RX10 rfl (by decide) (Nat.le_of_ble_eq_true rfl) rfl ?_
  intro E hE hC hQ hVC
  subst hE
  rw [fX10_lotAt] at h
  refine wa_bipush 2 hC dX10_lotAt_0 kb_98 rfl ?_
  refine wa_bipush 4 hC dX10_lotAt_2 kb_60 rfl ?_
  refine wa_iload_n 5 1 hC dX10_lotAt_4 rfl 1 rfl rfl ?_
  refine wa_imul 6 hC dX10_lotAt_5 rfl ?_
  refine wa_iadd 7 hC dX10_lotAt_6 rfl ?_
  refine wa_iload_n 8 2 hC dX10_lotAt_7 rfl 2 rfl rfl ?_
  refine wa_iadd 9 hC dX10_lotAt_8 rfl ?_
  exact wa_iret hC hQ (sm0 h) rfl dX10_lotAt_9
set_option maxRecDepth 20000 in
theorem wX10_balanceOf_L5 {E : eU} {G : gU} {ρ : Nat → Nat → Nat} {V : Nat → Nat → Prop} {A : sM} {r : Int64} (x1 : Int32) (Z : sM) {k33 : Int64 → Option (Int64)} (hC : CX E G cX10_balanceOf 5 RX10 (some .long) 2 0 0) (hVC : VC V) (hk33 : ∀ (x2 : Int64), k33 x2 = some r → WA E G ρ V 0 0 (J A Z) 33 [(2, .long x2)] []) : ∀ (n : Nat) (x2 : Int64) (x4 : Int32), fX10_balanceOf_L5 x1 Z k33 n x2 x4 = some r → WA E G ρ V 0 0 (J A Z) 5 [(0, .ref (ρ 10 0)), (1, .int x1), (2, .long x2), (4, .int x4)] [] := by
  intro n
  induction n with
  | zero =>
    intro x2 x4 h
    rw [fX10_balanceOf_L5] at h
    cases h
  | succ n ih =>
    intro x2 x4 h
    rw [fX10_balanceOf_L5] at h
    refine wa_iload 7 4 hC dX10_balanceOf_5 3 rfl rfl ?_
    refine wa_bipush 9 hC dX10_balanceOf_7 kb_60 rfl ?_
    refine wa_icmp_ge 12 33 hC dX10_balanceOf_9 rfl rfl h (fun h => ?_) (fun h => ?_)
    · refine wa_pick [2] rfl ?_
      exact hk33 x2 h
    · refine wa_lload_n 13 2 hC dX10_balanceOf_12 rfl 2 rfl rfl ?_
      refine wa_aload_n 14 0 hC dX10_balanceOf_13 rfl 0 rfl rfl ?_
      refine wa_getR 17 hC (vs10 hVC) (sr10_3 _) flX10_19 dX10_balanceOf_14 rfl ?_
      refine wa_aload_n 18 0 hC dX10_balanceOf_17 rfl 0 rfl rfl ?_
      refine wa_iload_n 19 1 hC dX10_balanceOf_18 rfl 1 rfl rfl ?_
      refine wa_iload 21 4 hC dX10_balanceOf_19 3 rfl rfl ?_
      obtain ⟨r_1, e_5, h⟩ := bd_some h
      refine wa_callVi 24 hC [.int x1, .int x4] [.ref (ρ 30 0), .long x2] knX10_lotAt mvX10_194 (tX10_lotAt E.2.1 x1 x4 Z hVC e_5) (vs10 hVC) kc10 (Nat.le_of_ble_eq_true rfl) (Nat.le_of_ble_eq_true rfl) rfl (Nat.le_of_ble_eq_true rfl) dX10_balanceOf_21 rfl le00 rfl ?_
      obtain ⟨g_2, h⟩ := gd_some h
      refine wa_laldr 25 hC (vs30 hVC) ar30 rfl g_2 dX10_balanceOf_24 rfl ?_
      refine wa_ladd 26 hC dX10_balanceOf_25 rfl ?_
      obtain ⟨x2_3, ex2_3, h⟩ := ltb_some h
      refine wa_lstore_n (lv' := [(2, .long x2_3), (0, .ref (ρ 10 0)), (1, .int x1), (4, .int x4)]) 27 2 hC dX10_balanceOf_26 rfl ex2_3 (by decide) rfl rfl ?_
      obtain ⟨x4_4, ex4_4, h⟩ := ltb_some h
      refine wa_iinc (lv' := [(4, .int x4_4), (2, .long x2_3), (0, .ref (ρ 10 0)), (1, .int x1)]) 30 4 hC dX10_balanceOf_27 3 rfl (by rw [kc_1]; exact ex4_4) (by decide) rfl rfl ?_
      refine wa_goto 5 hC dX10_balanceOf_30 rfl ?_
      refine wa_pick [2, 3, 1, 0] rfl ?_
      exact ih x2_3 x4_4 h
set_option maxRecDepth 20000 in
theorem tX10_balanceOf (l : Launch) {G : gU} {ρ : Nat → Nat → Nat} {V : Nat → Nat → Prop} {A : sM} (x1 : Int32) (Z : sM) (_ : VC V) {r : Int64} (h : fX10_balanceOf x1 Z = some r) : MT l yX10_balanceOf cX10_balanceOf 5 (some .long) 2 G ρ V [.ref (ρ 10 0), .int x1] (J A Z) (some (.long r)) (J A Z) := by
  refine vv_enter (lv := [(0, .ref (ρ 10 0)), (1, .int x1)]) RX10 rfl (by decide) (Nat.le_of_ble_eq_true rfl) rfl ?_
  intro E hE hC hQ hVC
  subst hE
  rw [fX10_balanceOf] at h
  refine wa_lconst 1 hC dX10_balanceOf_0 kl_0 rfl ?_
  refine wa_lstore_n (lv' := [(2, .long (0 : Int64)), (0, .ref (ρ 10 0)), (1, .int x1)]) 2 2 hC dX10_balanceOf_1 rfl rfl (by decide) rfl rfl ?_
  refine wa_iconst 3 hC dX10_balanceOf_2 kc_0 rfl ?_
  refine wa_istore (lv' := [(4, .int (0 : Int32)), (2, .long (0 : Int64)), (0, .ref (ρ 10 0)), (1, .int x1)]) 5 4 hC dX10_balanceOf_3 rfl (by decide) rfl rfl ?_
  refine wa_pick [2, 3, 1, 0] rfl ?_
  refine wX10_balanceOf_L5 x1 Z hC hVC (fun x2_1 h => ?_) 10000 (0 : Int64) (0 : Int32) h
  refine wa_lload_n 34 2 hC dX10_balanceOf_33 rfl 0 rfl rfl ?_
  exact wa_lret hC hQ (sm0 h) rfl dX10_balanceOf_34
set_option maxRecDepth 20000 in
theorem wX10_takesLots_L6 {E : eU} {G : gU} {ρ : Nat → Nat → Nat} {V : Nat → Nat → Prop} {A : sM} {r : Int64} {Z' : sM} (x1 : Int32) (x4 : Int32) {k87 : Int64 → sM → Option (Int64 × sM)} (hC : CX E G cX10_takesLots 11 RX10 (some .long) 2 0 0) (hVC : VC V) (hk87 : ∀ (x5 : Int64) (Z : sM), k87 x5 Z = some (r, Z') → WA E G ρ V 0 0 (J A Z) 87 [(5, .long x5)] []) : ∀ (n : Nat) (x5 : Int64) (x7 : Int32) (Z : sM), fX10_takesLots_L6 x1 x4 k87 n x5 x7 Z = some (r, Z') → WA E G ρ V 0 0 (J A Z) 6 [(0, .ref (ρ 10 0)), (1, .int x1), (4, .int x4), (5, .long x5), (7, .int x7)] [] := by
  intro n
  induction n with
  | zero =>
    intro x5 x7 Z h
    rw [fX10_takesLots_L6] at h
    cases h
  | succ n ih =>
    intro x5 x7 Z h
    rw [fX10_takesLots_L6] at h
    refine wa_iload 8 7 hC dX10_takesLots_6 4 rfl rfl ?_
    refine wa_bipush 10 hC dX10_takesLots_8 kb_60 rfl ?_
    refine wa_icmp_ge 13 87 hC dX10_takesLots_10 rfl rfl h (fun h => ?_) (fun h => ?_)
    · refine wa_pick [3] rfl ?_
      exact hk87 x5 Z h
    · refine wa_aload_n 14 0 hC dX10_takesLots_13 rfl 0 rfl rfl ?_
      refine wa_iload_n 15 1 hC dX10_takesLots_14 rfl 1 rfl rfl ?_
      refine wa_iload 17 4 hC dX10_takesLots_15 2 rfl rfl ?_
      obtain ⟨kj_2, ekj_2, h⟩ := ltb_k1 h
      have hkj_2 : ∀ (v_1 : Int32), kj_2 v_1 = some (r, Z') → WA E G ρ V 0 0 (J A Z) 30 [(0, .ref (ρ 10 0)), (1, .int x1), (4, .int x4), (5, .long x5), (7, .int x7)] [.int v_1, .int x1, .ref (ρ 10 0)] := by
        intro v_1 h
        rw [ekj_2] at h
        obtain ⟨r_3, e_13, h⟩ := bd_some h
        refine wa_callVi 33 hC [.int x1, .int v_1] [] knX10_lotAt mvX10_194 (tX10_lotAt E.2.1 x1 v_1 Z hVC e_13) (vs10 hVC) kc10 (Nat.le_of_ble_eq_true rfl) (Nat.le_of_ble_eq_true rfl) rfl (Nat.le_of_ble_eq_true rfl) dX10_takesLots_30 rfl le00 rfl ?_
        refine wa_istore (lv' := [(8, .int r_3), (0, .ref (ρ 10 0)), (1, .int x1), (4, .int x4), (5, .long x5), (7, .int x7)]) 35 8 hC dX10_takesLots_33 rfl (by decide) rfl rfl ?_
        refine wa_aload_n 36 0 hC dX10_takesLots_35 rfl 1 rfl rfl ?_
        refine wa_getR 39 hC (vs10 hVC) (sr10_3 _) flX10_19 dX10_takesLots_36 rfl ?_
        refine wa_iload 41 8 hC dX10_takesLots_39 0 rfl rfl ?_
        obtain ⟨g_4, h⟩ := gd_some h
        refine wa_laldr 42 hC (vs30 hVC) ar30 rfl g_4 dX10_takesLots_41 rfl ?_
        refine wa_lload 44 5 hC dX10_takesLots_42 4 rfl rfl ?_
        refine wa_lcmp 45 hC dX10_takesLots_44 rfl ?_
        obtain ⟨kj_6, ekj_6, h⟩ := ltb_k1 h
        have hkj_6 : ∀ (v_5 : Int64), kj_6 v_5 = some (r, Z') → WA E G ρ V 0 0 (J A Z) 60 [(0, .ref (ρ 10 0)), (1, .int x1), (4, .int x4), (5, .long x5), (7, .int x7), (8, .int r_3)] [.long v_5] := by
          intro v_5 h
          rw [ekj_6] at h
          refine wa_lstore (lv' := [(9, .long v_5), (0, .ref (ρ 10 0)), (1, .int x1), (4, .int x4), (5, .long x5), (7, .int x7), (8, .int r_3)]) 62 9 hC dX10_takesLots_60 rfl (by decide) rfl rfl ?_
          refine wa_aload_n 63 0 hC dX10_takesLots_62 rfl 1 rfl rfl ?_
          refine wa_getR 66 hC (vs10 hVC) (sr10_3 _) flX10_19 dX10_takesLots_63 rfl ?_
          refine wa_iload 68 8 hC dX10_takesLots_66 6 rfl rfl ?_
          refine wa_dup2 69 hC dX10_takesLots_68 rfl rfl rfl ?_
          obtain ⟨g_7, h⟩ := gd_some h
          refine wa_laldr 70 hC (vs30 hVC) ar30 rfl g_7 dX10_takesLots_69 rfl ?_
          refine wa_lload 72 9 hC dX10_takesLots_70 0 rfl rfl ?_
          refine wa_lsub 73 hC dX10_takesLots_72 rfl ?_
          obtain ⟨g_8, h⟩ := gd_some h
          obtain ⟨Z_9, eZ_9, h⟩ := ltb_some h
          refine wa_lastr 74 hC (vs30 hVC) ar30 rfl g_8 eZ_9 dX10_takesLots_73 rfl ?_
          refine wa_lload 76 5 hC dX10_takesLots_74 4 rfl rfl ?_
          refine wa_lload 78 9 hC dX10_takesLots_76 0 rfl rfl ?_
          refine wa_lsub 79 hC dX10_takesLots_78 rfl ?_
          obtain ⟨x5_10, ex5_10, h⟩ := ltb_some h
          refine wa_lstore (lv' := [(5, .long x5_10), (9, .long v_5), (0, .ref (ρ 10 0)), (1, .int x1), (4, .int x4), (7, .int x7), (8, .int r_3)]) 81 5 hC dX10_takesLots_79 ex5_10 (by decide) rfl rfl ?_
          obtain ⟨x7_11, ex7_11, h⟩ := ltb_some h
          refine wa_iinc (lv' := [(7, .int x7_11), (5, .long x5_10), (9, .long v_5), (0, .ref (ρ 10 0)), (1, .int x1), (4, .int x4), (8, .int r_3)]) 84 7 hC dX10_takesLots_81 5 rfl (by rw [kc_1]; exact ex7_11) (by decide) rfl rfl ?_
          refine wa_goto 6 hC dX10_takesLots_84 rfl ?_
          refine wa_pick [3, 4, 5, 1, 0] rfl ?_
          exact ih x5_10 x7_11 Z_9 h
        clear ekj_6
        refine wa_lcmp_ge 48 58 hC dX10_takesLots_45 rfl rfl h (fun h => ?_) (fun h => ?_)
        · refine wa_lload 60 5 hC dX10_takesLots_58 4 rfl rfl ?_
          refine wa_pick [1, 2, 3, 4, 5, 0] rfl ?_
          exact hkj_6 x5 h
        · refine wa_aload_n 49 0 hC dX10_takesLots_48 rfl 1 rfl rfl ?_
          refine wa_getR 52 hC (vs10 hVC) (sr10_3 _) flX10_19 dX10_takesLots_49 rfl ?_
          refine wa_iload 54 8 hC dX10_takesLots_52 0 rfl rfl ?_
          obtain ⟨g_12, h⟩ := gd_some h
          refine wa_laldr 55 hC (vs30 hVC) ar30 rfl g_12 dX10_takesLots_54 rfl ?_
          refine wa_goto 60 hC dX10_takesLots_55 rfl ?_
          refine wa_pick [1, 2, 3, 4, 5, 0] rfl ?_
          exact hkj_6 (Z.2 30 0 0 r_3.toNatClampNeg) h
      clear ekj_2
      refine wa_if_eq 20 28 hC dX10_takesLots_17 rfl rfl h (fun h => ?_) (fun h => ?_)
      · refine wa_iload 30 7 hC dX10_takesLots_28 4 rfl rfl ?_
        exact hkj_2 x7 h
      · refine wa_bipush 22 hC dX10_takesLots_20 kb_59 rfl ?_
        refine wa_iload 24 7 hC dX10_takesLots_22 4 rfl rfl ?_
        refine wa_isub 25 hC dX10_takesLots_24 rfl ?_
        refine wa_goto 30 hC dX10_takesLots_25 rfl ?_
        exact hkj_2 ((59 : Int32) - x7) h
set_option maxRecDepth 20000 in
theorem tX10_takesLots (l : Launch) {G : gU} {ρ : Nat → Nat → Nat} {V : Nat → Nat → Prop} {A : sM} (x1 : Int32) (x2 : Int64) (x4 : Int32) (Z : sM) (_ : VC V) {r : Int64} {Z' : sM} (h : fX10_takesLots x1 x2 x4 Z = some (r, Z')) : MT l yX10_takesLots cX10_takesLots 11 (some .long) 2 G ρ V [.ref (ρ 10 0), .int x1, .long x2, .int x4] (J A Z) (some (.long r)) (J A Z') := by
  refine vv_enter (lv := [(0, .ref (ρ 10 0)), (1, .int x1), (2, .long x2), (4, .int x4)]) RX10 rfl (by decide) (Nat.le_of_ble_eq_true rfl) rfl ?_
  intro E hE hC hQ hVC
  subst hE
  rw [fX10_takesLots] at h
  refine wa_lload_n 1 2 hC dX10_takesLots_0 rfl 2 rfl rfl ?_
  refine wa_lstore (lv' := [(5, .long x2), (0, .ref (ρ 10 0)), (1, .int x1), (2, .long x2), (4, .int x4)]) 3 5 hC dX10_takesLots_1 rfl (by decide) rfl rfl ?_
  refine wa_iconst 4 hC dX10_takesLots_3 kc_0 rfl ?_
  refine wa_istore (lv' := [(7, .int (0 : Int32)), (5, .long x2), (0, .ref (ρ 10 0)), (1, .int x1), (2, .long x2), (4, .int x4)]) 6 7 hC dX10_takesLots_4 rfl (by decide) rfl rfl ?_
  refine wa_pick [2, 3, 5, 1, 0] rfl ?_
  refine wX10_takesLots_L6 x1 x4 hC hVC (fun x5_1 Z_2 h => ?_) 10000 x2 (0 : Int32) Z h
  refine wa_lload 89 5 hC dX10_takesLots_87 0 rfl rfl ?_
  exact wa_lret hC hQ (sm1 h) (jZ (sm2 h)) dX10_takesLots_89
set_option maxRecDepth 20000 in
theorem tX10_credits (l : Launch) {G : gU} {ρ : Nat → Nat → Nat} {V : Nat → Nat → Prop} {A : sM} (x1 : Int32) (x2 : Int64) (Z : sM) (_ : VC V) {Z' : sM} (h : fX10_credits x1 x2 Z = some Z') : MT l yX10_credits cX10_credits 7 none 2 G ρ V [.ref (ρ 10 0), .int x1, .long x2] (J A Z) none (J A Z') := by
  refine vv_enter (lv := [(0, .ref (ρ 10 0)), (1, .int x1), (2, .long x2)]) RX10 rfl (by decide) (Nat.le_of_ble_eq_true rfl) rfl ?_
  intro E hE hC hQ hVC
  subst hE
  rw [fX10_credits] at h
  refine wa_aload_n 1 0 hC dX10_credits_0 rfl 0 rfl rfl ?_
  refine wa_iload_n 2 1 hC dX10_credits_1 rfl 1 rfl rfl ?_
  refine wa_iconst 3 hC dX10_credits_2 kc_0 rfl ?_
  obtain ⟨r_1, e_15, h⟩ := bd_some h
  refine wa_callVi 6 hC [.int x1, .int (0 : Int32)] [] knX10_accountAt mvX10_197 (tX10_accountAt E.2.1 x1 (0 : Int32) Z hVC e_15) (vs10 hVC) kc10 (Nat.le_of_ble_eq_true rfl) (Nat.le_of_ble_eq_true rfl) rfl (Nat.le_of_ble_eq_true rfl) dX10_credits_3 rfl le00 rfl ?_
  refine wa_istore (lv' := [(4, .int r_1), (0, .ref (ρ 10 0)), (1, .int x1), (2, .long x2)]) 8 4 hC dX10_credits_6 rfl (by decide) rfl rfl ?_
  refine wa_aload_n 9 0 hC dX10_credits_8 rfl 1 rfl rfl ?_
  refine wa_getR 12 hC (vs10 hVC) (sr10_3 _) flX10_19 dX10_credits_9 rfl ?_
  refine wa_iload 14 4 hC dX10_credits_12 0 rfl rfl ?_
  obtain ⟨g_2, h⟩ := gd_some h
  refine wa_laldr 15 hC (vs30 hVC) ar30 rfl g_2 dX10_credits_14 rfl ?_
  refine wa_lload_n 16 2 hC dX10_credits_15 rfl 3 rfl rfl ?_
  refine wa_lcmp 17 hC dX10_credits_16 rfl ?_
  obtain ⟨kj_4, ekj_4, h⟩ := ltb_k1 h
  have hkj_4 : ∀ (v_3 : Int64), kj_4 v_3 = some Z' → WA E G ρ V 0 0 (J A Z) 31 [(0, .ref (ρ 10 0)), (1, .int x1), (2, .long x2), (4, .int r_1)] [.long v_3] := by
    intro v_3 h
    rw [ekj_4] at h
    refine wa_lstore (lv' := [(5, .long v_3), (0, .ref (ρ 10 0)), (1, .int x1), (2, .long x2), (4, .int r_1)]) 33 5 hC dX10_credits_31 rfl (by decide) rfl rfl ?_
    refine wa_aload_n 34 0 hC dX10_credits_33 rfl 1 rfl rfl ?_
    refine wa_getR 37 hC (vs10 hVC) (sr10_3 _) flX10_19 dX10_credits_34 rfl ?_
    refine wa_iload 39 4 hC dX10_credits_37 4 rfl rfl ?_
    refine wa_dup2 40 hC dX10_credits_39 rfl rfl rfl ?_
    obtain ⟨g_5, h⟩ := gd_some h
    refine wa_laldr 41 hC (vs30 hVC) ar30 rfl g_5 dX10_credits_40 rfl ?_
    refine wa_lload 43 5 hC dX10_credits_41 0 rfl rfl ?_
    refine wa_lsub 44 hC dX10_credits_43 rfl ?_
    obtain ⟨g_6, h⟩ := gd_some h
    obtain ⟨Z_7, eZ_7, h⟩ := ltb_some h
    refine wa_lastr 45 hC (vs30 hVC) ar30 rfl g_6 eZ_7 dX10_credits_44 rfl ?_
    refine wa_aload_n 46 0 hC dX10_credits_45 rfl 1 rfl rfl ?_
    refine wa_getR 49 hC (vs10 hVC) (sr10_3 _) flX10_19 dX10_credits_46 rfl ?_
    refine wa_aload_n 50 0 hC dX10_credits_49 rfl 1 rfl rfl ?_
    refine wa_iload_n 51 1 hC dX10_credits_50 rfl 2 rfl rfl ?_
    refine wa_aload_n 52 0 hC dX10_credits_51 rfl 1 rfl rfl ?_
    refine wa_getR 55 hC (vs10 hVC) (sr10_0 _) flX10_7 dX10_credits_52 rfl ?_
    refine wa_iconst 56 hC dX10_credits_55 kc_5 rfl ?_
    refine wa_ialdr 57 hC (vs27 hVC) ar27 rfl (by decide) dX10_credits_56 rfl ?_
    obtain ⟨r_9, e_13, h⟩ := bd_some h
    refine wa_callVi 60 hC [.int x1, .int (Z_7.1 27 0 0 (5 : Int32).toNatClampNeg)] [.ref (ρ 30 0)] knX10_lotAt mvX10_194 (tX10_lotAt E.2.1 x1 (Z_7.1 27 0 0 (5 : Int32).toNatClampNeg) Z_7 hVC e_13) (vs10 hVC) kc10 (Nat.le_of_ble_eq_true rfl) (Nat.le_of_ble_eq_true rfl) rfl (Nat.le_of_ble_eq_true rfl) dX10_credits_57 rfl le00 rfl ?_
    refine wa_dup2 61 hC dX10_credits_60 rfl rfl rfl ?_
    obtain ⟨g_10, h⟩ := gd_some h
    refine wa_laldr 62 hC (vs30 hVC) ar30 rfl g_10 dX10_credits_61 rfl ?_
    refine wa_lload_n 63 2 hC dX10_credits_62 rfl 3 rfl rfl ?_
    refine wa_lload 65 5 hC dX10_credits_63 0 rfl rfl ?_
    refine wa_lsub 66 hC dX10_credits_65 rfl ?_
    refine wa_ladd 67 hC dX10_credits_66 rfl ?_
    obtain ⟨g_11, h⟩ := gd_some h
    obtain ⟨Z_12, eZ_12, h⟩ := ltb_some h
    refine wa_lastr 68 hC (vs30 hVC) ar30 rfl g_11 eZ_12 dX10_credits_67 rfl ?_
    exact wa_vret hC hQ (jZ (sm0 h)) dX10_credits_68
  clear ekj_4
  refine wa_lcmp_ge 20 30 hC dX10_credits_17 rfl rfl h (fun h => ?_) (fun h => ?_)
  · refine wa_lload_n 31 2 hC dX10_credits_30 rfl 3 rfl rfl ?_
    refine wa_pick [1, 2, 3, 0] rfl ?_
    exact hkj_4 x2 h
  · refine wa_aload_n 21 0 hC dX10_credits_20 rfl 1 rfl rfl ?_
    refine wa_getR 24 hC (vs10 hVC) (sr10_3 _) flX10_19 dX10_credits_21 rfl ?_
    refine wa_iload 26 4 hC dX10_credits_24 0 rfl rfl ?_
    obtain ⟨g_14, h⟩ := gd_some h
    refine wa_laldr 27 hC (vs30 hVC) ar30 rfl g_14 dX10_credits_26 rfl ?_
    refine wa_goto 31 hC dX10_credits_27 rfl ?_
    refine wa_pick [1, 2, 3, 0] rfl ?_
    exact hkj_4 (Z.2 30 0 0 r_1.toNatClampNeg) h
set_option maxRecDepth 20000 in
theorem wX10_leave_L138 {E : eU} {G : gU} {ρ : Nat → Nat → Nat} {V : Nat → Nat → Prop} {A : sM} {r : Int64} {Z' : sM} (x1 : Int32) (x5 : Int64) {k164 : sM → Option (Int64 × sM)} (hC : CX E G cX10_leave 8 RX10 (some .long) 4 0 0) (hVC : VC V) (hk164 : ∀ (Z : sM), k164 Z = some (r, Z') → WA E G ρ V 0 0 (J A Z) 164 [(0, .ref (ρ 10 0)), (1, .int x1), (5, .long x5)] []) : ∀ (n : Nat) (x7 : Int32) (Z : sM), fX10_leave_L138 x1 x5 k164 n x7 Z = some (r, Z') → WA E G ρ V 0 0 (J A Z) 138 [(0, .ref (ρ 10 0)), (1, .int x1), (5, .long x5), (7, .int x7)] [] := by
  intro n
  induction n with
  | zero =>
    intro x7 Z h
    rw [fX10_leave_L138] at h
    cases h
  | succ n ih =>
    intro x7 Z h
    rw [fX10_leave_L138] at h
    refine wa_iload 140 7 hC dX10_leave_138 3 rfl rfl ?_
    refine wa_bipush 142 hC dX10_leave_140 kb_60 rfl ?_
    refine wa_icmp_ge 145 164 hC dX10_leave_142 rfl rfl h (fun h => ?_) (fun h => ?_)
    · refine wa_pick [0, 1, 2] rfl ?_
      exact hk164 Z h
    · refine wa_aload_n 146 0 hC dX10_leave_145 rfl 0 rfl rfl ?_
      refine wa_getR 149 hC (vs10 hVC) (sr10_3 _) flX10_19 dX10_leave_146 rfl ?_
      refine wa_aload_n 150 0 hC dX10_leave_149 rfl 0 rfl rfl ?_
      refine wa_iload_n 151 1 hC dX10_leave_150 rfl 1 rfl rfl ?_
      refine wa_iload 153 7 hC dX10_leave_151 3 rfl rfl ?_
      obtain ⟨r_1, e_5, h⟩ := bd_some h
      refine wa_callVi 156 hC [.int x1, .int x7] [.ref (ρ 30 0)] knX10_lotAt mvX10_194 (tX10_lotAt E.2.1 x1 x7 Z hVC e_5) (vs10 hVC) kc10 (Nat.le_of_ble_eq_true rfl) (Nat.le_of_ble_eq_true rfl) rfl (Nat.le_of_ble_eq_true rfl) dX10_leave_153 rfl le00 rfl ?_
      refine wa_lconst 157 hC dX10_leave_156 kl_0 rfl ?_
      obtain ⟨g_2, h⟩ := gd_some h
      obtain ⟨Z_3, eZ_3, h⟩ := ltb_some h
      refine wa_lastr 158 hC (vs30 hVC) ar30 rfl g_2 eZ_3 dX10_leave_157 rfl ?_
      obtain ⟨x7_4, ex7_4, h⟩ := ltb_some h
      refine wa_iinc (lv' := [(7, .int x7_4), (0, .ref (ρ 10 0)), (1, .int x1), (5, .long x5)]) 161 7 hC dX10_leave_158 3 rfl (by rw [kc_1]; exact ex7_4) (by decide) rfl rfl ?_
      refine wa_goto 138 hC dX10_leave_161 rfl ?_
      refine wa_pick [1, 2, 3, 0] rfl ?_
      exact ih x7_4 Z_3 h
set_option maxRecDepth 20000 in
theorem wX10_leave_L231 {E : eU} {G : gU} {ρ : Nat → Nat → Nat} {V : Nat → Nat → Prop} {A : sM} {r : Int64} {Z' : sM} (x1 : Int32) (x5 : Int64) {k268 : sM → Option (Int64 × sM)} (hC : CX E G cX10_leave 8 RX10 (some .long) 4 0 0) (hVC : VC V) (hk268 : ∀ (Z : sM), k268 Z = some (r, Z') → WA E G ρ V 0 0 (J A Z) 268 [(0, .ref (ρ 10 0)), (5, .long x5)] []) : ∀ (n : Nat) (x7 : Int32) (Z : sM), fX10_leave_L231 x1 x5 k268 n x7 Z = some (r, Z') → WA E G ρ V 0 0 (J A Z) 231 [(0, .ref (ρ 10 0)), (1, .int x1), (5, .long x5), (7, .int x7)] [] := by
  intro n
  induction n with
  | zero =>
    intro x7 Z h
    rw [fX10_leave_L231] at h
    cases h
  | succ n ih =>
    intro x7 Z h
    rw [fX10_leave_L231] at h
    refine wa_iload 233 7 hC dX10_leave_231 3 rfl rfl ?_
    refine wa_aload_n 234 0 hC dX10_leave_233 rfl 0 rfl rfl ?_
    refine wa_getR 237 hC (vs10 hVC) (sr10_0 _) flX10_7 dX10_leave_234 rfl ?_
    refine wa_bipush 239 hC dX10_leave_237 kb_7 rfl ?_
    refine wa_ialdr 240 hC (vs27 hVC) ar27 rfl (by decide) dX10_leave_239 rfl ?_
    refine wa_icmp_ge 243 268 hC dX10_leave_240 rfl rfl h (fun h => ?_) (fun h => ?_)
    · refine wa_pick [0, 2] rfl ?_
      exact hk268 Z h
    · refine wa_aload_n 244 0 hC dX10_leave_243 rfl 0 rfl rfl ?_
      refine wa_iload 246 7 hC dX10_leave_244 3 rfl rfl ?_
      refine wa_iconst 247 hC dX10_leave_246 kc_5 rfl ?_
      obtain ⟨r_2, e_8, h⟩ := bd_some h
      refine wa_callVi 250 hC [.int x7, .int (5 : Int32)] [] knX10_ofMember mvX10_169 (tX10_ofMember E.2.1 x7 (5 : Int32) Z hVC e_8) (vs10 hVC) kc10 (Nat.le_of_ble_eq_true rfl) (Nat.le_of_ble_eq_true rfl) rfl (Nat.le_of_ble_eq_true rfl) dX10_leave_247 rfl le00 rfl ?_
      refine wa_iload_n 251 1 hC dX10_leave_250 rfl 1 rfl rfl ?_
      obtain ⟨kj_4, ekj_4, h⟩ := ltb_k1 h
      have hkj_4 : ∀ (Z_3 : sM), kj_4 Z_3 = some (r, Z') → WA E G ρ V 0 0 (J A Z_3) 262 [(0, .ref (ρ 10 0)), (1, .int x1), (5, .long x5), (7, .int x7)] [] := by
        intro Z_3 h
        rw [ekj_4] at h
        obtain ⟨x7_5, ex7_5, h⟩ := ltb_some h
        refine wa_iinc (lv' := [(7, .int x7_5), (0, .ref (ρ 10 0)), (1, .int x1), (5, .long x5)]) 265 7 hC dX10_leave_262 3 rfl (by rw [kc_1]; exact ex7_5) (by decide) rfl rfl ?_
        refine wa_goto 231 hC dX10_leave_265 rfl ?_
        refine wa_pick [1, 2, 3, 0] rfl ?_
        exact ih x7_5 Z_3 h
      clear ekj_4
      refine wa_icmp_ne 254 262 hC dX10_leave_251 rfl rfl h (fun h => ?_) (fun h => ?_)
      · exact hkj_4 Z h
      · refine wa_aload_n 255 0 hC dX10_leave_254 rfl 0 rfl rfl ?_
        refine wa_iload 257 7 hC dX10_leave_255 3 rfl rfl ?_
        refine wa_iconst 258 hC dX10_leave_257 kc_5 rfl ?_
        refine wa_iconst 259 hC dX10_leave_258 kc_m1 rfl ?_
        obtain ⟨Z_6, e_7, h⟩ := bd_some h
        refine wa_callVv 262 hC [.int x7, .int (5 : Int32), .int (-1 : Int32)] [] knX10_setMember mvX10_175 (tX10_setMember E.2.1 x7 (5 : Int32) (-1 : Int32) Z hVC e_7) (vs10 hVC) kc10 (Nat.le_of_ble_eq_true rfl) (Nat.le_of_ble_eq_true rfl) rfl (Nat.le_of_ble_eq_true rfl) dX10_leave_259 rfl le00 rfl ?_
        exact hkj_4 Z_6 h
set_option maxRecDepth 20000 in
theorem tX10_leave (l : Launch) {G : gU} {ρ : Nat → Nat → Nat} {V : Nat → Nat → Prop} {A : sM} (x1 : Int32) (Z : sM) (_ : VC V) {r : Int64} {Z' : sM} (h : fX10_leave x1 Z = some (r, Z')) : MT l yX10_leave cX10_leave 8 (some .long) 4 G ρ V [.ref (ρ 10 0), .int x1] (J A Z) (some (.long r)) (J A Z') := by
  refine vv_enter (lv := [(0, .ref (ρ 10 0)), (1, .int x1)]) RX10 rfl (by decide) (Nat.le_of_ble_eq_true rfl) rfl ?_
  intro E hE hC hQ hVC
  subst hE
  rw [fX10_leave] at h
  refine wa_aload_n 1 0 hC dX10_leave_0 rfl 0 rfl rfl ?_
  refine wa_aload_n 2 0 hC dX10_leave_1 rfl 0 rfl rfl ?_
  refine wa_iload_n 3 1 hC dX10_leave_2 rfl 1 rfl rfl ?_
  obtain ⟨r_1, e_57, h⟩ := bd_some h
  refine wa_callVi 6 hC [.int x1] [.ref (ρ 10 0)] knX10_isMember mvX10_184 (tX10_isMember E.2.1 x1 Z hVC e_57) (vs10 hVC) kc10 (Nat.le_of_ble_eq_true rfl) (Nat.le_of_ble_eq_true rfl) rfl (Nat.le_of_ble_eq_true rfl) dX10_leave_3 rfl le00 rfl ?_
  obtain ⟨kj_3, ekj_3, h⟩ := ltb_k1 h
  have hkj_3 : ∀ (v_2 : Int32), kj_3 v_2 = some (r, Z') → WA E G ρ V 0 0 (J A Z) 28 [(0, .ref (ρ 10 0)), (1, .int x1)] [.int v_2, .ref (ρ 10 0)] := by
    intro v_2 h
    rw [ekj_3] at h
    obtain ⟨Z_4, eZ_4, h⟩ := ltb_some h
    refine wa_putIr 31 hC (vs10 hVC) nk10 eZ_4 sh10_6 rfl fpX10_63 dX10_leave_28 rfl ?_
    refine wa_aload_n 32 0 hC dX10_leave_31 rfl 0 rfl rfl ?_
    refine wa_getIr 35 hC (vs10 hVC) sh10_6 rfl flX10_63 dX10_leave_32 rfl ?_
    refine wa_if_le 38 40 hC dX10_leave_35 rfl rfl h (fun h => ?_) (fun h => ?_)
    · refine wa_aload_n 41 0 hC dX10_leave_40 rfl 0 rfl rfl ?_
      obtain ⟨Z_5, e_54, h⟩ := bd_some h
      refine wa_callVv 44 hC [] [] knX10_keeps mvX10_157 (tX10_keeps E.2.1 Z_4 hVC e_54) (vs10 hVC) kc10 (Nat.le_of_ble_eq_true rfl) (Nat.le_of_ble_eq_true rfl) rfl (Nat.le_of_ble_eq_true rfl) dX10_leave_41 rfl le00 rfl ?_
      refine wa_aload_n 45 0 hC dX10_leave_44 rfl 0 rfl rfl ?_
      refine wa_iload_n 46 1 hC dX10_leave_45 rfl 1 rfl rfl ?_
      obtain ⟨r_6, e_53, h⟩ := bd_some h
      refine wa_callVi 49 hC [.int x1] [] knX10_isActive mvX10_187 (tX10_isActive E.2.1 x1 Z_5 hVC e_53) (vs10 hVC) kc10 (Nat.le_of_ble_eq_true rfl) (Nat.le_of_ble_eq_true rfl) rfl (Nat.le_of_ble_eq_true rfl) dX10_leave_46 rfl le00 rfl ?_
      refine wa_istore_n (lv' := [(2, .int r_6), (0, .ref (ρ 10 0)), (1, .int x1)]) 50 2 hC dX10_leave_49 rfl rfl (by decide) rfl rfl ?_
      refine wa_aload_n 51 0 hC dX10_leave_50 rfl 1 rfl rfl ?_
      refine wa_iload_n 52 1 hC dX10_leave_51 rfl 2 rfl rfl ?_
      refine wa_iconst 53 hC dX10_leave_52 kc_3 rfl ?_
      refine wa_iconst 54 hC dX10_leave_53 kc_2 rfl ?_
      obtain ⟨Z_7, e_52, h⟩ := bd_some h
      refine wa_callVv 57 hC [.int x1, .int (3 : Int32), .int (2 : Int32)] [] knX10_setMember mvX10_175 (tX10_setMember E.2.1 x1 (3 : Int32) (2 : Int32) Z_5 hVC e_52) (vs10 hVC) kc10 (Nat.le_of_ble_eq_true rfl) (Nat.le_of_ble_eq_true rfl) rfl (Nat.le_of_ble_eq_true rfl) dX10_leave_54 rfl le00 rfl ?_
      refine wa_iload_n 58 2 hC dX10_leave_57 rfl 0 rfl rfl ?_
      refine wa_if_ne 61 63 hC dX10_leave_58 rfl rfl h (fun h => ?_) (fun h => ?_)
      · refine wa_aload_n 64 0 hC dX10_leave_63 rfl 1 rfl rfl ?_
        refine wa_getR 67 hC (vs10 hVC) (sr10_3 _) flX10_19 dX10_leave_64 rfl ?_
        refine wa_iconst 68 hC dX10_leave_67 kc_0 rfl ?_
        refine wa_dup2 69 hC dX10_leave_68 rfl rfl rfl ?_
        refine wa_laldr 70 hC (vs30 hVC) ar30 rfl (by decide) dX10_leave_69 rfl ?_
        refine wa_aload_n 71 0 hC dX10_leave_70 rfl 1 rfl rfl ?_
        refine wa_iload_n 72 1 hC dX10_leave_71 rfl 2 rfl rfl ?_
        refine wa_aload_n 73 0 hC dX10_leave_72 rfl 1 rfl rfl ?_
        refine wa_getR 76 hC (vs10 hVC) (sr10_3 _) flX10_19 dX10_leave_73 rfl ?_
        refine wa_aload_n 77 0 hC dX10_leave_76 rfl 1 rfl rfl ?_
        refine wa_iload_n 78 1 hC dX10_leave_77 rfl 2 rfl rfl ?_
        refine wa_iconst 79 hC dX10_leave_78 kc_0 rfl ?_
        obtain ⟨r_9, e_51, h⟩ := bd_some h
        refine wa_callVi 82 hC [.int x1, .int (0 : Int32)] [.ref (ρ 30 0), .int x1, .ref (ρ 10 0), .long (Z_7.2 30 0 0 (0 : Int32).toNatClampNeg), .int (0 : Int32), .ref (ρ 30 0)] knX10_accountAt mvX10_197 (tX10_accountAt E.2.1 x1 (0 : Int32) Z_7 hVC e_51) (vs10 hVC) kc10 (Nat.le_of_ble_eq_true rfl) (Nat.le_of_ble_eq_true rfl) rfl (Nat.le_of_ble_eq_true rfl) dX10_leave_79 rfl le00 rfl ?_
        obtain ⟨g_10, h⟩ := gd_some h
        refine wa_laldr 83 hC (vs30 hVC) ar30 rfl g_10 dX10_leave_82 rfl ?_
        refine wa_iconst 84 hC dX10_leave_83 kc_0 rfl ?_
        obtain ⟨r_12, Z_11, e_50, h⟩ := bd2_some h
        refine wa_callVl 87 hC [.int x1, .long (Z_7.2 30 0 0 r_9.toNatClampNeg), .int (0 : Int32)] [.long (Z_7.2 30 0 0 (0 : Int32).toNatClampNeg), .int (0 : Int32), .ref (ρ 30 0)] knX10_takesLots mvX10_200 (tX10_takesLots E.2.1 x1 (Z_7.2 30 0 0 r_9.toNatClampNeg) (0 : Int32) Z_7 hVC e_50) (vs10 hVC) kc10 (Nat.le_of_ble_eq_true rfl) (Nat.le_of_ble_eq_true rfl) rfl (Nat.le_of_ble_eq_true rfl) dX10_leave_84 rfl le00 rfl ?_
        refine wa_lsub 88 hC dX10_leave_87 rfl ?_
        obtain ⟨Z_14, eZ_14, h⟩ := ltb_some h
        refine wa_lastr 89 hC (vs30 hVC) ar30 rfl (by decide) eZ_14 dX10_leave_88 rfl ?_
        refine wa_aload_n 90 0 hC dX10_leave_89 rfl 1 rfl rfl ?_
        refine wa_getR 93 hC (vs10 hVC) (sr10_3 _) flX10_19 dX10_leave_90 rfl ?_
        refine wa_aload_n 94 0 hC dX10_leave_93 rfl 1 rfl rfl ?_
        refine wa_iload_n 95 1 hC dX10_leave_94 rfl 2 rfl rfl ?_
        refine wa_iconst 96 hC dX10_leave_95 kc_0 rfl ?_
        obtain ⟨r_15, e_49, h⟩ := bd_some h
        refine wa_callVi 99 hC [.int x1, .int (0 : Int32)] [.ref (ρ 30 0)] knX10_accountAt mvX10_197 (tX10_accountAt E.2.1 x1 (0 : Int32) Z_14 hVC e_49) (vs10 hVC) kc10 (Nat.le_of_ble_eq_true rfl) (Nat.le_of_ble_eq_true rfl) rfl (Nat.le_of_ble_eq_true rfl) dX10_leave_96 rfl le00 rfl ?_
        refine wa_lconst 100 hC dX10_leave_99 kl_0 rfl ?_
        obtain ⟨g_16, h⟩ := gd_some h
        obtain ⟨Z_17, eZ_17, h⟩ := ltb_some h
        refine wa_lastr 101 hC (vs30 hVC) ar30 rfl g_16 eZ_17 dX10_leave_100 rfl ?_
        refine wa_aload_n 102 0 hC dX10_leave_101 rfl 1 rfl rfl ?_
        refine wa_iload_n 103 1 hC dX10_leave_102 rfl 2 rfl rfl ?_
        obtain ⟨r_18, e_48, h⟩ := bd_some h
        refine wa_callVl 106 hC [.int x1] [] knX10_balanceOf mvX10_204 (tX10_balanceOf E.2.1 x1 Z_17 hVC e_48) (vs10 hVC) kc10 (Nat.le_of_ble_eq_true rfl) (Nat.le_of_ble_eq_true rfl) rfl (Nat.le_of_ble_eq_true rfl) dX10_leave_103 rfl le00 rfl ?_
        refine wa_lstore_n (lv' := [(3, .long r_18), (2, .int r_6), (0, .ref (ρ 10 0)), (1, .int x1)]) 107 3 hC dX10_leave_106 rfl rfl (by decide) rfl rfl ?_
        refine wa_lload_n 108 3 hC dX10_leave_107 rfl 0 rfl rfl ?_
        refine wa_aload_n 109 0 hC dX10_leave_108 rfl 2 rfl rfl ?_
        refine wa_getR 112 hC (vs10 hVC) (sr10_0 _) flX10_7 dX10_leave_109 rfl ?_
        refine wa_iconst 113 hC dX10_leave_112 kc_2 rfl ?_
        refine wa_ialdr 114 hC (vs27 hVC) ar27 rfl (by decide) dX10_leave_113 rfl ?_
        refine wa_i2l 115 hC dX10_leave_114 rfl ?_
        refine wa_lmul 116 hC dX10_leave_115 rfl ?_
        refine wa_ldc2 119 hC dX10_leave_116 lcX10_160 rfl ?_
        refine wa_ldiv 120 hC dX10_leave_119 (by decide) rfl ?_
        obtain ⟨x5_20, ex5_20, h⟩ := ltb_some h
        refine wa_lstore (lv' := [(5, .long x5_20), (3, .long r_18), (2, .int r_6), (0, .ref (ρ 10 0)), (1, .int x1)]) 122 5 hC dX10_leave_120 ex5_20 (by decide) rfl rfl ?_
        refine wa_aload_n 123 0 hC dX10_leave_122 rfl 3 rfl rfl ?_
        refine wa_getR 126 hC (vs10 hVC) (sr10_3 _) flX10_19 dX10_leave_123 rfl ?_
        refine wa_iconst 127 hC dX10_leave_126 kc_0 rfl ?_
        refine wa_dup2 128 hC dX10_leave_127 rfl rfl rfl ?_
        refine wa_laldr 129 hC (vs30 hVC) ar30 rfl (by decide) dX10_leave_128 rfl ?_
        refine wa_lload_n 130 3 hC dX10_leave_129 rfl 1 rfl rfl ?_
        refine wa_lload 132 5 hC dX10_leave_130 0 rfl rfl ?_
        refine wa_lsub 133 hC dX10_leave_132 rfl ?_
        refine wa_ladd 134 hC dX10_leave_133 rfl ?_
        obtain ⟨Z_23, eZ_23, h⟩ := ltb_some h
        refine wa_lastr 135 hC (vs30 hVC) ar30 rfl (by decide) eZ_23 dX10_leave_134 rfl ?_
        refine wa_iconst 136 hC dX10_leave_135 kc_0 rfl ?_
        refine wa_istore (lv' := [(7, .int (0 : Int32)), (5, .long x5_20), (3, .long r_18), (2, .int r_6), (0, .ref (ρ 10 0)), (1, .int x1)]) 138 7 hC dX10_leave_136 rfl (by decide) rfl rfl ?_
        refine wa_pick [4, 5, 1, 0] rfl ?_
        refine wX10_leave_L138 x1 x5_20 hC hVC (fun Z_24 h => ?_) 10000 (0 : Int32) Z_23 h
        refine wa_aload_n 165 0 hC dX10_leave_164 rfl 0 rfl rfl ?_
        refine wa_getR 168 hC (vs10 hVC) (sr10_3 _) flX10_19 dX10_leave_165 rfl ?_
        refine wa_aload_n 169 0 hC dX10_leave_168 rfl 0 rfl rfl ?_
        refine wa_iload_n 170 1 hC dX10_leave_169 rfl 1 rfl rfl ?_
        refine wa_iconst 171 hC dX10_leave_170 kc_3 rfl ?_
        obtain ⟨r_25, e_47, h⟩ := bd_some h
        refine wa_callVi 174 hC [.int x1, .int (3 : Int32)] [.ref (ρ 30 0)] knX10_accountAt mvX10_197 (tX10_accountAt E.2.1 x1 (3 : Int32) Z_24 hVC e_47) (vs10 hVC) kc10 (Nat.le_of_ble_eq_true rfl) (Nat.le_of_ble_eq_true rfl) rfl (Nat.le_of_ble_eq_true rfl) dX10_leave_171 rfl le00 rfl ?_
        refine wa_lload 176 5 hC dX10_leave_174 2 rfl rfl ?_
        obtain ⟨g_26, h⟩ := gd_some h
        obtain ⟨Z_27, eZ_27, h⟩ := ltb_some h
        refine wa_lastr 177 hC (vs30 hVC) ar30 rfl g_26 eZ_27 dX10_leave_176 rfl ?_
        refine wa_aload_n 178 0 hC dX10_leave_177 rfl 0 rfl rfl ?_
        refine wa_getR 181 hC (vs10 hVC) (sr10_3 _) flX10_19 dX10_leave_178 rfl ?_
        refine wa_aload_n 182 0 hC dX10_leave_181 rfl 0 rfl rfl ?_
        refine wa_iload_n 183 1 hC dX10_leave_182 rfl 1 rfl rfl ?_
        refine wa_iconst 184 hC dX10_leave_183 kc_2 rfl ?_
        obtain ⟨r_28, e_46, h⟩ := bd_some h
        refine wa_callVi 187 hC [.int x1, .int (2 : Int32)] [.ref (ρ 30 0)] knX10_accountAt mvX10_197 (tX10_accountAt E.2.1 x1 (2 : Int32) Z_27 hVC e_46) (vs10 hVC) kc10 (Nat.le_of_ble_eq_true rfl) (Nat.le_of_ble_eq_true rfl) rfl (Nat.le_of_ble_eq_true rfl) dX10_leave_184 rfl le00 rfl ?_
        refine wa_dup2 188 hC dX10_leave_187 rfl rfl rfl ?_
        obtain ⟨g_29, h⟩ := gd_some h
        refine wa_laldr 189 hC (vs30 hVC) ar30 rfl g_29 dX10_leave_188 rfl ?_
        refine wa_aload_n 190 0 hC dX10_leave_189 rfl 0 rfl rfl ?_
        refine wa_getR 193 hC (vs10 hVC) (sr10_3 _) flX10_19 dX10_leave_190 rfl ?_
        refine wa_aload_n 194 0 hC dX10_leave_193 rfl 0 rfl rfl ?_
        refine wa_iload_n 195 1 hC dX10_leave_194 rfl 1 rfl rfl ?_
        refine wa_iconst 196 hC dX10_leave_195 kc_1 rfl ?_
        obtain ⟨r_30, e_45, h⟩ := bd_some h
        refine wa_callVi 199 hC [.int x1, .int (1 : Int32)] [.ref (ρ 30 0), .long (Z_27.2 30 0 0 r_28.toNatClampNeg), .int r_28, .ref (ρ 30 0)] knX10_accountAt mvX10_197 (tX10_accountAt E.2.1 x1 (1 : Int32) Z_27 hVC e_45) (vs10 hVC) kc10 (Nat.le_of_ble_eq_true rfl) (Nat.le_of_ble_eq_true rfl) rfl (Nat.le_of_ble_eq_true rfl) dX10_leave_196 rfl le00 rfl ?_
        obtain ⟨g_31, h⟩ := gd_some h
        refine wa_laldr 200 hC (vs30 hVC) ar30 rfl g_31 dX10_leave_199 rfl ?_
        refine wa_ladd 201 hC dX10_leave_200 rfl ?_
        obtain ⟨g_32, h⟩ := gd_some h
        obtain ⟨Z_33, eZ_33, h⟩ := ltb_some h
        refine wa_lastr 202 hC (vs30 hVC) ar30 rfl g_32 eZ_33 dX10_leave_201 rfl ?_
        refine wa_aload_n 203 0 hC dX10_leave_202 rfl 0 rfl rfl ?_
        refine wa_getR 206 hC (vs10 hVC) (sr10_3 _) flX10_19 dX10_leave_203 rfl ?_
        refine wa_aload_n 207 0 hC dX10_leave_206 rfl 0 rfl rfl ?_
        refine wa_iload_n 208 1 hC dX10_leave_207 rfl 1 rfl rfl ?_
        refine wa_iconst 209 hC dX10_leave_208 kc_1 rfl ?_
        obtain ⟨r_34, e_44, h⟩ := bd_some h
        refine wa_callVi 212 hC [.int x1, .int (1 : Int32)] [.ref (ρ 30 0)] knX10_accountAt mvX10_197 (tX10_accountAt E.2.1 x1 (1 : Int32) Z_33 hVC e_44) (vs10 hVC) kc10 (Nat.le_of_ble_eq_true rfl) (Nat.le_of_ble_eq_true rfl) rfl (Nat.le_of_ble_eq_true rfl) dX10_leave_209 rfl le00 rfl ?_
        refine wa_lconst 213 hC dX10_leave_212 kl_0 rfl ?_
        obtain ⟨g_35, h⟩ := gd_some h
        obtain ⟨Z_36, eZ_36, h⟩ := ltb_some h
        refine wa_lastr 214 hC (vs30 hVC) ar30 rfl g_35 eZ_36 dX10_leave_213 rfl ?_
        refine wa_aload_n 215 0 hC dX10_leave_214 rfl 0 rfl rfl ?_
        refine wa_iload_n 216 1 hC dX10_leave_215 rfl 1 rfl rfl ?_
        refine wa_iconst 217 hC dX10_leave_216 kc_4 rfl ?_
        refine wa_iconst 218 hC dX10_leave_217 kc_0 rfl ?_
        obtain ⟨Z_37, e_43, h⟩ := bd_some h
        refine wa_callVv 221 hC [.int x1, .int (4 : Int32), .int (0 : Int32)] [] knX10_setMember mvX10_175 (tX10_setMember E.2.1 x1 (4 : Int32) (0 : Int32) Z_36 hVC e_43) (vs10 hVC) kc10 (Nat.le_of_ble_eq_true rfl) (Nat.le_of_ble_eq_true rfl) rfl (Nat.le_of_ble_eq_true rfl) dX10_leave_218 rfl le00 rfl ?_
        refine wa_aload_n 222 0 hC dX10_leave_221 rfl 0 rfl rfl ?_
        refine wa_iload_n 223 1 hC dX10_leave_222 rfl 1 rfl rfl ?_
        refine wa_iconst 224 hC dX10_leave_223 kc_5 rfl ?_
        refine wa_iconst 225 hC dX10_leave_224 kc_m1 rfl ?_
        obtain ⟨Z_38, e_42, h⟩ := bd_some h
        refine wa_callVv 228 hC [.int x1, .int (5 : Int32), .int (-1 : Int32)] [] knX10_setMember mvX10_175 (tX10_setMember E.2.1 x1 (5 : Int32) (-1 : Int32) Z_37 hVC e_42) (vs10 hVC) kc10 (Nat.le_of_ble_eq_true rfl) (Nat.le_of_ble_eq_true rfl) rfl (Nat.le_of_ble_eq_true rfl) dX10_leave_225 rfl le00 rfl ?_
        refine wa_iconst 229 hC dX10_leave_228 kc_0 rfl ?_
        refine wa_istore (lv' := [(7, .int (0 : Int32)), (0, .ref (ρ 10 0)), (1, .int x1), (5, .long x5_20)]) 231 7 hC dX10_leave_229 rfl (by decide) rfl rfl ?_
        refine wa_pick [1, 2, 3, 0] rfl ?_
        refine wX10_leave_L231 x1 x5_20 hC hVC (fun Z_39 h => ?_) 10000 (0 : Int32) Z_38 h
        refine wa_aload_n 269 0 hC dX10_leave_268 rfl 0 rfl rfl ?_
        obtain ⟨Z_40, e_41, h⟩ := bd_some h
        refine wa_callVv 272 hC [] [] knX10_goesThrough mvX10_181 (tX10_goesThrough E.2.1 Z_39 hVC e_41) (vs10 hVC) kc10 (Nat.le_of_ble_eq_true rfl) (Nat.le_of_ble_eq_true rfl) rfl (Nat.le_of_ble_eq_true rfl) dX10_leave_269 rfl le00 rfl ?_
        refine wa_lload 274 5 hC dX10_leave_272 1 rfl rfl ?_
        exact wa_lret hC hQ (sm1 h) (jZ (sm2 h)) dX10_leave_274
      · refine wa_lconst 62 hC dX10_leave_61 kl_0 rfl ?_
        exact wa_lret hC hQ (sm1 h) (jZ (sm2 h)) dX10_leave_62
    · refine wa_lconst 39 hC dX10_leave_38 kl_0 rfl ?_
      exact wa_lret hC hQ (sm1 h) (jZ (sm2 h)) dX10_leave_39
  clear ekj_3
  refine wa_if_ne 9 13 hC dX10_leave_6 rfl rfl h (fun h => ?_) (fun h => ?_)
  · refine wa_aload_n 14 0 hC dX10_leave_13 rfl 0 rfl rfl ?_
    refine wa_iload_n 15 1 hC dX10_leave_14 rfl 1 rfl rfl ?_
    refine wa_iconst 16 hC dX10_leave_15 kc_3 rfl ?_
    obtain ⟨r_55, e_56, h⟩ := bd_some h
    refine wa_callVi 19 hC [.int x1, .int (3 : Int32)] [.ref (ρ 10 0)] knX10_ofMember mvX10_169 (tX10_ofMember E.2.1 x1 (3 : Int32) Z hVC e_56) (vs10 hVC) kc10 (Nat.le_of_ble_eq_true rfl) (Nat.le_of_ble_eq_true rfl) rfl (Nat.le_of_ble_eq_true rfl) dX10_leave_16 rfl le00 rfl ?_
    refine wa_iconst 20 hC dX10_leave_19 kc_2 rfl ?_
    refine wa_icmp_ne 23 27 hC dX10_leave_20 rfl rfl h (fun h => ?_) (fun h => ?_)
    · refine wa_iconst 28 hC dX10_leave_27 kc_0 rfl ?_
      exact hkj_3 (0 : Int32) h
    · refine wa_iconst 24 hC dX10_leave_23 kc_2 rfl ?_
      refine wa_goto 28 hC dX10_leave_24 rfl ?_
      exact hkj_3 (2 : Int32) h
  · refine wa_iconst 10 hC dX10_leave_9 kc_1 rfl ?_
    refine wa_goto 28 hC dX10_leave_10 rfl ?_
    exact hkj_3 (1 : Int32) h
set_option maxRecDepth 20000 in
theorem tX10_subscriberCount (l : Launch) {G : gU} {ρ : Nat → Nat → Nat} {V : Nat → Nat → Prop} {A : sM} (Z : sM) (_ : VC V) {r : Int32} {Z' : sM} (h : fX10_subscriberCount Z = some (r, Z')) : MT l yX10_subscriberCount cX10_subscriberCount 1 (some .int) 1 G ρ V [.ref (ρ 10 0)] (J A Z) (some (.int r)) (J A Z') := by
  refine vv_enter (lv := [(0, .ref (ρ 10 0))]) RX10 rfl (by decide) (Nat.le_of_ble_eq_true rfl) rfl ?_
  intro E hE hC hQ hVC
  subst hE
  rw [fX10_subscriberCount] at h
  refine wa_aload_n 1 0 hC dX10_subscriberCount_0 rfl 0 rfl rfl ?_
  refine wa_iconst 2 hC dX10_subscriberCount_1 kc_0 rfl ?_
  obtain ⟨Z_1, eZ_1, h⟩ := ltb_some h
  refine wa_putIr 5 hC (vs10 hVC) nk10 eZ_1 sh10_6 rfl fpX10_63 dX10_subscriberCount_2 rfl ?_
  refine wa_aload_n 6 0 hC dX10_subscriberCount_5 rfl 0 rfl rfl ?_
  refine wa_getR 9 hC (vs10 hVC) (sr10_0 _) flX10_7 dX10_subscriberCount_6 rfl ?_
  refine wa_bipush 11 hC dX10_subscriberCount_9 kb_7 rfl ?_
  refine wa_ialdr 12 hC (vs27 hVC) ar27 rfl (by decide) dX10_subscriberCount_11 rfl ?_
  exact wa_iret hC hQ (sm1 h) (jZ (sm2 h)) dX10_subscriberCount_12
set_option maxRecDepth 20000 in
theorem tX10_lacks (l : Launch) {G : gU} {ρ : Nat → Nat → Nat} {V : Nat → Nat → Prop} {A : sM} (x1 : Int32) (Z : sM) (_ : VC V) {r : Int32} {Z' : sM} (h : fX10_lacks x1 Z = some (r, Z')) : MT l yX10_lacks cX10_lacks 2 (some .boolean) 3 G ρ V [.ref (ρ 10 0), .int x1] (J A Z) (some (.int r)) (J A Z') := by
  refine vv_enter (lv := [(0, .ref (ρ 10 0)), (1, .int x1)]) RX10 rfl (by decide) (Nat.le_of_ble_eq_true rfl) rfl ?_
  intro E hE hC hQ hVC
  subst hE
  rw [fX10_lacks] at h
  refine wa_aload_n 1 0 hC dX10_lacks_0 rfl 0 rfl rfl ?_
  refine wa_aload_n 2 0 hC dX10_lacks_1 rfl 0 rfl rfl ?_
  refine wa_iload_n 3 1 hC dX10_lacks_2 rfl 1 rfl rfl ?_
  obtain ⟨r_1, e_4, h⟩ := bd_some h
  refine wa_callVi 6 hC [.int x1] [.ref (ρ 10 0)] knX10_isMember mvX10_184 (tX10_isMember E.2.1 x1 Z hVC e_4) (vs10 hVC) kc10 (Nat.le_of_ble_eq_true rfl) (Nat.le_of_ble_eq_true rfl) rfl (Nat.le_of_ble_eq_true rfl) dX10_lacks_3 rfl le00 rfl ?_
  refine wa_if_eq 9 13 hC dX10_lacks_6 rfl rfl h (fun h => ?_) (fun h => ?_)
  · refine wa_iconst 14 hC dX10_lacks_13 kc_1 rfl ?_
    obtain ⟨Z_2, eZ_2, h⟩ := ltb_some h
    refine wa_putIr 17 hC (vs10 hVC) nk10 eZ_2 sh10_6 rfl fpX10_63 dX10_lacks_14 rfl ?_
    refine wa_aload_n 18 0 hC dX10_lacks_17 rfl 0 rfl rfl ?_
    refine wa_getIr 21 hC (vs10 hVC) sh10_6 rfl flX10_63 dX10_lacks_18 rfl ?_
    refine wa_if_le 24 28 hC dX10_lacks_21 rfl rfl h (fun h => ?_) (fun h => ?_)
    · refine wa_iconst 29 hC dX10_lacks_28 kc_0 rfl ?_
      exact wa_zret hC hQ (sm1 h) (jZ (sm2 h)) rfl dX10_lacks_29
    · refine wa_iconst 25 hC dX10_lacks_24 kc_1 rfl ?_
      refine wa_goto 29 hC dX10_lacks_25 rfl ?_
      exact wa_zret hC hQ (sm1 h) (jZ (sm2 h)) rfl dX10_lacks_29
  · refine wa_iconst 10 hC dX10_lacks_9 kc_0 rfl ?_
    refine wa_goto 14 hC dX10_lacks_10 rfl ?_
    obtain ⟨Z_3, eZ_3, h⟩ := ltb_some h
    refine wa_putIr 17 hC (vs10 hVC) nk10 eZ_3 sh10_6 rfl fpX10_63 dX10_lacks_14 rfl ?_
    refine wa_aload_n 18 0 hC dX10_lacks_17 rfl 0 rfl rfl ?_
    refine wa_getIr 21 hC (vs10 hVC) sh10_6 rfl flX10_63 dX10_lacks_18 rfl ?_
    refine wa_if_le 24 28 hC dX10_lacks_21 rfl rfl h (fun h => ?_) (fun h => ?_)
    · refine wa_iconst 29 hC dX10_lacks_28 kc_0 rfl ?_
      exact wa_zret hC hQ (sm1 h) (jZ (sm2 h)) rfl dX10_lacks_29
    · refine wa_iconst 25 hC dX10_lacks_24 kc_1 rfl ?_
      refine wa_goto 29 hC dX10_lacks_25 rfl ?_
      exact wa_zret hC hQ (sm1 h) (jZ (sm2 h)) rfl dX10_lacks_29
set_option maxRecDepth 20000 in
theorem tX10_state (l : Launch) {G : gU} {ρ : Nat → Nat → Nat} {V : Nat → Nat → Prop} {A : sM} (x1 : Int32) (Z : sM) (_ : VC V) {r : Int32} {Z' : sM} (h : fX10_state x1 Z = some (r, Z')) : MT l yX10_state cX10_state 2 (some .int) 4 G ρ V [.ref (ρ 10 0), .int x1] (J A Z) (some (.int r)) (J A Z') := by
  refine vv_enter (lv := [(0, .ref (ρ 10 0)), (1, .int x1)]) RX10 rfl (by decide) (Nat.le_of_ble_eq_true rfl) rfl ?_
  intro E hE hC hQ hVC
  subst hE
  rw [fX10_state] at h
  refine wa_aload_n 1 0 hC dX10_state_0 rfl 0 rfl rfl ?_
  refine wa_iload_n 2 1 hC dX10_state_1 rfl 1 rfl rfl ?_
  obtain ⟨r_2, Z_1, e_5, h⟩ := bd2_some h
  refine wa_callVi 5 hC [.int x1] [] knX10_lacks mvX10_208 (tX10_lacks E.2.1 x1 Z hVC e_5) (vs10 hVC) kc10 (Nat.le_of_ble_eq_true rfl) (Nat.le_of_ble_eq_true rfl) rfl (Nat.le_of_ble_eq_true rfl) dX10_state_2 rfl le00 rfl ?_
  refine wa_if_eq 8 12 hC dX10_state_5 rfl rfl h (fun h => ?_) (fun h => ?_)
  · refine wa_aload_n 13 0 hC dX10_state_12 rfl 0 rfl rfl ?_
    refine wa_iload_n 14 1 hC dX10_state_13 rfl 1 rfl rfl ?_
    refine wa_iconst 15 hC dX10_state_14 kc_3 rfl ?_
    obtain ⟨r_3, e_4, h⟩ := bd_some h
    refine wa_callVi 18 hC [.int x1, .int (3 : Int32)] [] knX10_ofMember mvX10_169 (tX10_ofMember E.2.1 x1 (3 : Int32) Z_1 hVC e_4) (vs10 hVC) kc10 (Nat.le_of_ble_eq_true rfl) (Nat.le_of_ble_eq_true rfl) rfl (Nat.le_of_ble_eq_true rfl) dX10_state_15 rfl le00 rfl ?_
    exact wa_iret hC hQ (sm1 h) (jZ (sm2 h)) dX10_state_18
  · refine wa_iconst 9 hC dX10_state_8 kc_0 rfl ?_
    refine wa_goto 18 hC dX10_state_9 rfl ?_
    exact wa_iret hC hQ (sm1 h) (jZ (sm2 h)) dX10_state_18
set_option maxRecDepth 20000 in
theorem tX10_shares (l : Launch) {G : gU} {ρ : Nat → Nat → Nat} {V : Nat → Nat → Prop} {A : sM} (x1 : Int32) (Z : sM) (_ : VC V) {r : Int32} {Z' : sM} (h : fX10_shares x1 Z = some (r, Z')) : MT l yX10_shares cX10_shares 2 (some .int) 4 G ρ V [.ref (ρ 10 0), .int x1] (J A Z) (some (.int r)) (J A Z') := by
  refine vv_enter (lv := [(0, .ref (ρ 10 0)), (1, .int x1)]) RX10 rfl (by decide) (Nat.le_of_ble_eq_true rfl) rfl ?_
  intro E hE hC hQ hVC
  subst hE
  rw [fX10_shares] at h
  refine wa_aload_n 1 0 hC dX10_shares_0 rfl 0 rfl rfl ?_
  refine wa_iload_n 2 1 hC dX10_shares_1 rfl 1 rfl rfl ?_
  obtain ⟨r_2, Z_1, e_5, h⟩ := bd2_some h
  refine wa_callVi 5 hC [.int x1] [] knX10_lacks mvX10_208 (tX10_lacks E.2.1 x1 Z hVC e_5) (vs10 hVC) kc10 (Nat.le_of_ble_eq_true rfl) (Nat.le_of_ble_eq_true rfl) rfl (Nat.le_of_ble_eq_true rfl) dX10_shares_2 rfl le00 rfl ?_
  refine wa_if_eq 8 12 hC dX10_shares_5 rfl rfl h (fun h => ?_) (fun h => ?_)
  · refine wa_aload_n 13 0 hC dX10_shares_12 rfl 0 rfl rfl ?_
    refine wa_iload_n 14 1 hC dX10_shares_13 rfl 1 rfl rfl ?_
    refine wa_iconst 15 hC dX10_shares_14 kc_4 rfl ?_
    obtain ⟨r_3, e_4, h⟩ := bd_some h
    refine wa_callVi 18 hC [.int x1, .int (4 : Int32)] [] knX10_ofMember mvX10_169 (tX10_ofMember E.2.1 x1 (4 : Int32) Z_1 hVC e_4) (vs10 hVC) kc10 (Nat.le_of_ble_eq_true rfl) (Nat.le_of_ble_eq_true rfl) rfl (Nat.le_of_ble_eq_true rfl) dX10_shares_15 rfl le00 rfl ?_
    exact wa_iret hC hQ (sm1 h) (jZ (sm2 h)) dX10_shares_18
  · refine wa_iconst 9 hC dX10_shares_8 kc_0 rfl ?_
    refine wa_goto 18 hC dX10_shares_9 rfl ?_
    exact wa_iret hC hQ (sm1 h) (jZ (sm2 h)) dX10_shares_18
set_option maxRecDepth 20000 in
theorem tX10_freeShares (l : Launch) {G : gU} {ρ : Nat → Nat → Nat} {V : Nat → Nat → Prop} {A : sM} (Z : sM) (_ : VC V) {r : Int32} {Z' : sM} (h : fX10_freeShares Z = some (r, Z')) : MT l yX10_freeShares cX10_freeShares 1 (some .int) 3 G ρ V [.ref (ρ 10 0)] (J A Z) (some (.int r)) (J A Z') := by
  refine vv_enter (lv := [(0, .ref (ρ 10 0))]) RX10 rfl (by decide) (Nat.le_of_ble_eq_true rfl) rfl ?_
  intro E hE hC hQ hVC
  subst hE
  rw [fX10_freeShares] at h
  refine wa_aload_n 1 0 hC dX10_freeShares_0 rfl 0 rfl rfl ?_
  refine wa_iconst 2 hC dX10_freeShares_1 kc_0 rfl ?_
  obtain ⟨Z_1, eZ_1, h⟩ := ltb_some h
  refine wa_putIr 5 hC (vs10 hVC) nk10 eZ_1 sh10_6 rfl fpX10_63 dX10_freeShares_2 rfl ?_
  refine wa_aload_n 6 0 hC dX10_freeShares_5 rfl 0 rfl rfl ?_
  obtain ⟨r_2, e_3, h⟩ := bd_some h
  refine wa_callVi 9 hC [] [] knX10_free mvX10_172 (tX10_free E.2.1 Z_1 hVC e_3) (vs10 hVC) kc10 (Nat.le_of_ble_eq_true rfl) (Nat.le_of_ble_eq_true rfl) rfl (Nat.le_of_ble_eq_true rfl) dX10_freeShares_6 rfl le00 rfl ?_
  exact wa_iret hC hQ (sm1 h) (jZ (sm2 h)) dX10_freeShares_9
set_option maxRecDepth 20000 in
theorem tX10_waitingPlace (l : Launch) {G : gU} {ρ : Nat → Nat → Nat} {V : Nat → Nat → Prop} {A : sM} (x1 : Int32) (Z : sM) (_ : VC V) {r : Int32} {Z' : sM} (h : fX10_waitingPlace x1 Z = some (r, Z')) : MT l yX10_waitingPlace cX10_waitingPlace 2 (some .int) 4 G ρ V [.ref (ρ 10 0), .int x1] (J A Z) (some (.int r)) (J A Z') := by
  refine vv_enter (lv := [(0, .ref (ρ 10 0)), (1, .int x1)]) RX10 rfl (by decide) (Nat.le_of_ble_eq_true rfl) rfl ?_
  intro E hE hC hQ hVC
  subst hE
  rw [fX10_waitingPlace] at h
  refine wa_aload_n 1 0 hC dX10_waitingPlace_0 rfl 0 rfl rfl ?_
  refine wa_iload_n 2 1 hC dX10_waitingPlace_1 rfl 1 rfl rfl ?_
  obtain ⟨r_2, Z_1, e_7, h⟩ := bd2_some h
  refine wa_callVi 5 hC [.int x1] [] knX10_lacks mvX10_208 (tX10_lacks E.2.1 x1 Z hVC e_7) (vs10 hVC) kc10 (Nat.le_of_ble_eq_true rfl) (Nat.le_of_ble_eq_true rfl) rfl (Nat.le_of_ble_eq_true rfl) dX10_waitingPlace_2 rfl le00 rfl ?_
  refine wa_if_eq 8 12 hC dX10_waitingPlace_5 rfl rfl h (fun h => ?_) (fun h => ?_)
  · refine wa_aload_n 13 0 hC dX10_waitingPlace_12 rfl 0 rfl rfl ?_
    refine wa_iload_n 14 1 hC dX10_waitingPlace_13 rfl 1 rfl rfl ?_
    refine wa_iconst 15 hC dX10_waitingPlace_14 kc_3 rfl ?_
    obtain ⟨r_3, e_6, h⟩ := bd_some h
    refine wa_callVi 18 hC [.int x1, .int (3 : Int32)] [] knX10_ofMember mvX10_169 (tX10_ofMember E.2.1 x1 (3 : Int32) Z_1 hVC e_6) (vs10 hVC) kc10 (Nat.le_of_ble_eq_true rfl) (Nat.le_of_ble_eq_true rfl) rfl (Nat.le_of_ble_eq_true rfl) dX10_waitingPlace_15 rfl le00 rfl ?_
    refine wa_if_ne 21 29 hC dX10_waitingPlace_18 rfl rfl h (fun h => ?_) (fun h => ?_)
    · refine wa_iconst 30 hC dX10_waitingPlace_29 kc_m1 rfl ?_
      exact wa_iret hC hQ (sm1 h) (jZ (sm2 h)) dX10_waitingPlace_30
    · refine wa_aload_n 22 0 hC dX10_waitingPlace_21 rfl 0 rfl rfl ?_
      refine wa_iload_n 23 1 hC dX10_waitingPlace_22 rfl 1 rfl rfl ?_
      obtain ⟨r_4, e_5, h⟩ := bd_some h
      refine wa_callVi 26 hC [.int x1] [] knX10_placeOf mvX10_211 (tX10_placeOf E.2.1 x1 Z_1 hVC e_5) (vs10 hVC) kc10 (Nat.le_of_ble_eq_true rfl) (Nat.le_of_ble_eq_true rfl) rfl (Nat.le_of_ble_eq_true rfl) dX10_waitingPlace_23 rfl le00 rfl ?_
      refine wa_goto 30 hC dX10_waitingPlace_26 rfl ?_
      exact wa_iret hC hQ (sm1 h) (jZ (sm2 h)) dX10_waitingPlace_30
  · refine wa_iconst 9 hC dX10_waitingPlace_8 kc_0 rfl ?_
    refine wa_goto 30 hC dX10_waitingPlace_9 rfl ?_
    exact wa_iret hC hQ (sm1 h) (jZ (sm2 h)) dX10_waitingPlace_30
set_option maxRecDepth 20000 in
theorem tX10_daysAt (l : Launch) {G : gU} {ρ : Nat → Nat → Nat} {V : Nat → Nat → Prop} {A : sM} (x1 : Int32) (x2 : Int32) (Z : sM) (_ : VC V) {r : Int32} (h : fX10_daysAt x1 x2 Z = some r) : MT l yX10_daysAt cX10_daysAt 3 (some .int) 1 G ρ V [.ref (ρ 10 0), .int x1, .int x2] (J A Z) (some (.int r)) (J A Z) := by
  refine vv_enter (lv := [(0, .ref (ρ 10 0)), (1, .int x1), (2, .int x2)]) RX10 rfl (by decide) (Nat.le_of_ble_eq_true rfl) rfl ?_
  intro E hE hC hQ hVC
  subst hE
  rw [fX10_daysAt] at h
  refine wa_sipush 3 hC dX10_daysAt_0 ks_148 rfl ?_
  refine wa_bipush 5 hC dX10_daysAt_3 kb_16 rfl ?_
  refine wa_iload_n 6 1 hC dX10_daysAt_5 rfl 1 rfl rfl ?_
  refine wa_imul 7 hC dX10_daysAt_6 rfl ?_
  refine wa_iadd 8 hC dX10_daysAt_7 rfl ?_
  refine wa_iload_n 9 2 hC dX10_daysAt_8 rfl 2 rfl rfl ?_
  refine wa_iadd 10 hC dX10_daysAt_9 rfl ?_
  exact wa_iret hC hQ (sm0 h) rfl dX10_daysAt_10
set_option maxRecDepth 20000 in
theorem wX10_passDays_L65 {E : eU} {G : gU} {ρ : Nat → Nat → Nat} {V : Nat → Nat → Prop} {A : sM} {r : Int32} {Z' : sM} (x1 : Int32) {k109 : sM → Option (Int32 × sM)} (hC : CX E G cX10_passDays 3 RX10 (some .int) 2 0 0) (hVC : VC V) (hk109 : ∀ (Z : sM), k109 Z = some (r, Z') → WA E G ρ V 0 0 (J A Z) 109 [(0, .ref (ρ 10 0))] []) : ∀ (n : Nat) (x2 : Int32) (Z : sM), fX10_passDays_L65 x1 k109 n x2 Z = some (r, Z') → WA E G ρ V 0 0 (J A Z) 65 [(0, .ref (ρ 10 0)), (1, .int x1), (2, .int x2)] [] := by
  intro n
  induction n with
  | zero =>
    intro x2 Z h
    rw [fX10_passDays_L65] at h
    cases h
  | succ n ih =>
    intro x2 Z h
    rw [fX10_passDays_L65] at h
    refine wa_iload_n 66 2 hC dX10_passDays_65 rfl 2 rfl rfl ?_
    refine wa_aload_n 67 0 hC dX10_passDays_66 rfl 0 rfl rfl ?_
    refine wa_getR 70 hC (vs10 hVC) (sr10_0 _) flX10_7 dX10_passDays_67 rfl ?_
    refine wa_bipush 72 hC dX10_passDays_70 kb_7 rfl ?_
    refine wa_ialdr 73 hC (vs27 hVC) ar27 rfl (by decide) dX10_passDays_72 rfl ?_
    refine wa_icmp_ge 76 109 hC dX10_passDays_73 rfl rfl h (fun h => ?_) (fun h => ?_)
    · refine wa_pick [0] rfl ?_
      exact hk109 Z h
    · refine wa_aload_n 77 0 hC dX10_passDays_76 rfl 0 rfl rfl ?_
      refine wa_getR 80 hC (vs10 hVC) (sr10_0 _) flX10_7 dX10_passDays_77 rfl ?_
      refine wa_aload_n 81 0 hC dX10_passDays_80 rfl 0 rfl rfl ?_
      refine wa_aload_n 82 0 hC dX10_passDays_81 rfl 0 rfl rfl ?_
      refine wa_getR 85 hC (vs10 hVC) (sr10_0 _) flX10_7 dX10_passDays_82 rfl ?_
      refine wa_iconst 86 hC dX10_passDays_85 kc_5 rfl ?_
      refine wa_ialdr 87 hC (vs27 hVC) ar27 rfl (by decide) dX10_passDays_86 rfl ?_
      refine wa_iload_n 88 2 hC dX10_passDays_87 rfl 2 rfl rfl ?_
      obtain ⟨r_3, e_10, h⟩ := bd_some h
      refine wa_callVi 91 hC [.int (Z.1 27 0 0 (5 : Int32).toNatClampNeg), .int x2] [.ref (ρ 27 0)] knX10_daysAt mvX10_216 (tX10_daysAt E.2.1 (Z.1 27 0 0 (5 : Int32).toNatClampNeg) x2 Z hVC e_10) (vs10 hVC) kc10 (Nat.le_of_ble_eq_true rfl) (Nat.le_of_ble_eq_true rfl) rfl (Nat.le_of_ble_eq_true rfl) dX10_passDays_88 rfl le00 rfl ?_
      refine wa_dup2 92 hC dX10_passDays_91 rfl rfl rfl ?_
      obtain ⟨g_4, h⟩ := gd_some h
      refine wa_ialdr 93 hC (vs27 hVC) ar27 rfl g_4 dX10_passDays_92 rfl ?_
      refine wa_iload_n 94 1 hC dX10_passDays_93 rfl 1 rfl rfl ?_
      refine wa_aload_n 95 0 hC dX10_passDays_94 rfl 0 rfl rfl ?_
      refine wa_iload_n 96 2 hC dX10_passDays_95 rfl 2 rfl rfl ?_
      refine wa_iconst 97 hC dX10_passDays_96 kc_4 rfl ?_
      obtain ⟨r_5, e_9, h⟩ := bd_some h
      refine wa_callVi 100 hC [.int x2, .int (4 : Int32)] [.int x1, .int (Z.1 27 0 0 r_3.toNatClampNeg), .int r_3, .ref (ρ 27 0)] knX10_ofMember mvX10_169 (tX10_ofMember E.2.1 x2 (4 : Int32) Z hVC e_9) (vs10 hVC) kc10 (Nat.le_of_ble_eq_true rfl) (Nat.le_of_ble_eq_true rfl) rfl (Nat.le_of_ble_eq_true rfl) dX10_passDays_97 rfl le00 rfl ?_
      refine wa_imul 101 hC dX10_passDays_100 rfl ?_
      refine wa_iadd 102 hC dX10_passDays_101 rfl ?_
      obtain ⟨g_6, h⟩ := gd_some h
      obtain ⟨Z_7, eZ_7, h⟩ := ltb_some h
      refine wa_iastr 103 hC (vs27 hVC) nk27 ar27 rfl g_6 eZ_7 dX10_passDays_102 rfl ?_
      obtain ⟨x2_8, ex2_8, h⟩ := ltb_some h
      refine wa_iinc (lv' := [(2, .int x2_8), (0, .ref (ρ 10 0)), (1, .int x1)]) 106 2 hC dX10_passDays_103 2 rfl (by rw [kc_1]; exact ex2_8) (by decide) rfl rfl ?_
      refine wa_goto 65 hC dX10_passDays_106 rfl ?_
      refine wa_pick [1, 2, 0] rfl ?_
      exact ih x2_8 Z_7 h
set_option maxRecDepth 20000 in
theorem tX10_passDays (l : Launch) {G : gU} {ρ : Nat → Nat → Nat} {V : Nat → Nat → Prop} {A : sM} (x1 : Int32) (Z : sM) (_ : VC V) {r : Int32} {Z' : sM} (h : fX10_passDays x1 Z = some (r, Z')) : MT l yX10_passDays cX10_passDays 3 (some .int) 2 G ρ V [.ref (ρ 10 0), .int x1] (J A Z) (some (.int r)) (J A Z') := by
  refine vv_enter (lv := [(0, .ref (ρ 10 0)), (1, .int x1)]) RX10 rfl (by decide) (Nat.le_of_ble_eq_true rfl) rfl ?_
  intro E hE hC hQ hVC
  subst hE
  rw [fX10_passDays] at h
  refine wa_aload_n 1 0 hC dX10_passDays_0 rfl 0 rfl rfl ?_
  refine wa_iload_n 2 1 hC dX10_passDays_1 rfl 1 rfl rfl ?_
  refine wa_i2l 3 hC dX10_passDays_2 rfl ?_
  refine wa_lconst 4 hC dX10_passDays_3 kl_1 rfl ?_
  refine wa_ldc2 7 hC dX10_passDays_4 lcX10_214 rfl ?_
  obtain ⟨r_1, e_13, h⟩ := bd_some h
  refine wa_callSi 10 hC [.long (x1.toInt64), .long (1 : Int64), .long (30 : Int64)] [.ref (ρ 10 0)] knX10_isIn msX10_104 (tX10_isIn E.2.1 (x1.toInt64) (1 : Int64) (30 : Int64) Z hVC e_13) (Nat.le_of_ble_eq_true rfl) (Nat.le_of_ble_eq_true rfl) rfl (Nat.le_of_ble_eq_true rfl) dX10_passDays_7 rfl le00 rfl ?_
  obtain ⟨kj_3, ekj_3, h⟩ := ltb_k1 h
  have hkj_3 : ∀ (v_2 : Int32), kj_3 v_2 = some (r, Z') → WA E G ρ V 0 0 (J A Z) 36 [(0, .ref (ρ 10 0)), (1, .int x1)] [.int v_2, .ref (ρ 10 0)] := by
    intro v_2 h
    rw [ekj_3] at h
    obtain ⟨Z_4, eZ_4, h⟩ := ltb_some h
    refine wa_putIr 39 hC (vs10 hVC) nk10 eZ_4 sh10_6 rfl fpX10_63 dX10_passDays_36 rfl ?_
    refine wa_aload_n 40 0 hC dX10_passDays_39 rfl 0 rfl rfl ?_
    refine wa_getIr 43 hC (vs10 hVC) sh10_6 rfl flX10_63 dX10_passDays_40 rfl ?_
    refine wa_if_le 46 48 hC dX10_passDays_43 rfl rfl h (fun h => ?_) (fun h => ?_)
    · refine wa_aload_n 49 0 hC dX10_passDays_48 rfl 0 rfl rfl ?_
      obtain ⟨Z_5, e_11, h⟩ := bd_some h
      refine wa_callVv 52 hC [] [] knX10_keeps mvX10_157 (tX10_keeps E.2.1 Z_4 hVC e_11) (vs10 hVC) kc10 (Nat.le_of_ble_eq_true rfl) (Nat.le_of_ble_eq_true rfl) rfl (Nat.le_of_ble_eq_true rfl) dX10_passDays_49 rfl le00 rfl ?_
      refine wa_aload_n 53 0 hC dX10_passDays_52 rfl 0 rfl rfl ?_
      refine wa_getR 56 hC (vs10 hVC) (sr10_0 _) flX10_7 dX10_passDays_53 rfl ?_
      refine wa_bipush 58 hC dX10_passDays_56 kb_6 rfl ?_
      refine wa_dup2 59 hC dX10_passDays_58 rfl rfl rfl ?_
      refine wa_ialdr 60 hC (vs27 hVC) ar27 rfl (by decide) dX10_passDays_59 rfl ?_
      refine wa_iload_n 61 1 hC dX10_passDays_60 rfl 1 rfl rfl ?_
      refine wa_iadd 62 hC dX10_passDays_61 rfl ?_
      obtain ⟨Z_8, eZ_8, h⟩ := ltb_some h
      refine wa_iastr 63 hC (vs27 hVC) nk27 ar27 rfl (by decide) eZ_8 dX10_passDays_62 rfl ?_
      refine wa_iconst 64 hC dX10_passDays_63 kc_0 rfl ?_
      refine wa_istore_n (lv' := [(2, .int (0 : Int32)), (0, .ref (ρ 10 0)), (1, .int x1)]) 65 2 hC dX10_passDays_64 rfl rfl (by decide) rfl rfl ?_
      refine wa_pick [1, 2, 0] rfl ?_
      refine wX10_passDays_L65 x1 hC hVC (fun Z_9 h => ?_) 10000 (0 : Int32) Z_8 h
      refine wa_aload_n 110 0 hC dX10_passDays_109 rfl 0 rfl rfl ?_
      refine wa_getR 113 hC (vs10 hVC) (sr10_0 _) flX10_7 dX10_passDays_110 rfl ?_
      refine wa_bipush 115 hC dX10_passDays_113 kb_6 rfl ?_
      refine wa_ialdr 116 hC (vs27 hVC) ar27 rfl (by decide) dX10_passDays_115 rfl ?_
      exact wa_iret hC hQ (sm1 h) (jZ (sm2 h)) dX10_passDays_116
    · refine wa_iconst 47 hC dX10_passDays_46 kc_0 rfl ?_
      exact wa_iret hC hQ (sm1 h) (jZ (sm2 h)) dX10_passDays_47
  clear ekj_3
  refine wa_if_ne 13 17 hC dX10_passDays_10 rfl rfl h (fun h => ?_) (fun h => ?_)
  · refine wa_aload_n 18 0 hC dX10_passDays_17 rfl 0 rfl rfl ?_
    refine wa_getR 21 hC (vs10 hVC) (sr10_0 _) flX10_7 dX10_passDays_18 rfl ?_
    refine wa_bipush 23 hC dX10_passDays_21 kb_6 rfl ?_
    refine wa_ialdr 24 hC (vs27 hVC) ar27 rfl (by decide) dX10_passDays_23 rfl ?_
    refine wa_iload_n 25 1 hC dX10_passDays_24 rfl 1 rfl rfl ?_
    refine wa_iadd 26 hC dX10_passDays_25 rfl ?_
    refine wa_bipush 28 hC dX10_passDays_26 kb_30 rfl ?_
    refine wa_icmp_le 31 35 hC dX10_passDays_28 rfl rfl h (fun h => ?_) (fun h => ?_)
    · refine wa_iconst 36 hC dX10_passDays_35 kc_0 rfl ?_
      exact hkj_3 (0 : Int32) h
    · refine wa_iconst 32 hC dX10_passDays_31 kc_2 rfl ?_
      refine wa_goto 36 hC dX10_passDays_32 rfl ?_
      exact hkj_3 (2 : Int32) h
  · refine wa_iconst 14 hC dX10_passDays_13 kc_1 rfl ?_
    refine wa_goto 36 hC dX10_passDays_14 rfl ?_
    exact hkj_3 (1 : Int32) h
set_option maxRecDepth 20000 in
theorem tX10_generatedAt (l : Launch) {G : gU} {ρ : Nat → Nat → Nat} {V : Nat → Nat → Prop} {A : sM} (x1 : Int32) (x2 : Int32) (Z : sM) (_ : VC V) {r : Int32} (h : fX10_generatedAt x1 x2 Z = some r) : MT l yX10_generatedAt cX10_generatedAt 3 (some .int) 1 G ρ V [.ref (ρ 10 0), .int x1, .int x2] (J A Z) (some (.int r)) (J A Z) := by
  refine vv_enter (lv := [(0, .ref (ρ 10 0)), (1, .int x1), (2, .int x2)]) RX10 rfl (by decide) (Nat.le_of_ble_eq_true rfl) rfl ?_
  intro E hE hC hQ hVC
  subst hE
  rw [fX10_generatedAt] at h
  refine wa_sipush 3 hC dX10_generatedAt_0 ks_1108 rfl ?_
  refine wa_iconst 4 hC dX10_generatedAt_3 kc_4 rfl ?_
  refine wa_iload_n 5 1 hC dX10_generatedAt_4 rfl 1 rfl rfl ?_
  refine wa_imul 6 hC dX10_generatedAt_5 rfl ?_
  refine wa_iadd 7 hC dX10_generatedAt_6 rfl ?_
  refine wa_iload_n 8 2 hC dX10_generatedAt_7 rfl 2 rfl rfl ?_
  refine wa_iadd 9 hC dX10_generatedAt_8 rfl ?_
  exact wa_iret hC hQ (sm0 h) rfl dX10_generatedAt_9
set_option maxRecDepth 20000 in
theorem tX10_generate (l : Launch) {G : gU} {ρ : Nat → Nat → Nat} {V : Nat → Nat → Prop} {A : sM} (x1 : Int32) (x2 : Int32) (Z : sM) (_ : VC V) {r : Int32} {Z' : sM} (h : fX10_generate x1 x2 Z = some (r, Z')) : MT l yX10_generate cX10_generate 4 (some .int) 2 G ρ V [.ref (ρ 10 0), .int x1, .int x2] (J A Z) (some (.int r)) (J A Z') := by
  refine vv_enter (lv := [(0, .ref (ρ 10 0)), (1, .int x1), (2, .int x2)]) RX10 rfl (by decide) (Nat.le_of_ble_eq_true rfl) rfl ?_
  intro E hE hC hQ hVC
  subst hE
  rw [fX10_generate] at h
  refine wa_aload_n 1 0 hC dX10_generate_0 rfl 0 rfl rfl ?_
  refine wa_iload_n 2 1 hC dX10_generate_1 rfl 1 rfl rfl ?_
  refine wa_i2l 3 hC dX10_generate_2 rfl ?_
  refine wa_lconst 4 hC dX10_generate_3 kl_0 rfl ?_
  refine wa_ldc2 7 hC dX10_generate_4 lcX10_167 rfl ?_
  obtain ⟨r_1, e_21, h⟩ := bd_some h
  refine wa_callSi 10 hC [.long (x1.toInt64), .long (0 : Int64), .long (23 : Int64)] [.ref (ρ 10 0)] knX10_isIn msX10_104 (tX10_isIn E.2.1 (x1.toInt64) (0 : Int64) (23 : Int64) Z hVC e_21) (Nat.le_of_ble_eq_true rfl) (Nat.le_of_ble_eq_true rfl) rfl (Nat.le_of_ble_eq_true rfl) dX10_generate_7 rfl le00 rfl ?_
  obtain ⟨kj_3, ekj_3, h⟩ := ltb_k1 h
  have hkj_3 : ∀ (v_2 : Int32), kj_3 v_2 = some (r, Z') → WA E G ρ V 0 0 (J A Z) 34 [(0, .ref (ρ 10 0)), (1, .int x1), (2, .int x2)] [.int v_2, .ref (ρ 10 0)] := by
    intro v_2 h
    rw [ekj_3] at h
    obtain ⟨Z_4, eZ_4, h⟩ := ltb_some h
    refine wa_putIr 37 hC (vs10 hVC) nk10 eZ_4 sh10_6 rfl fpX10_63 dX10_generate_34 rfl ?_
    refine wa_aload_n 38 0 hC dX10_generate_37 rfl 0 rfl rfl ?_
    refine wa_getIr 41 hC (vs10 hVC) sh10_6 rfl flX10_63 dX10_generate_38 rfl ?_
    refine wa_if_le 44 46 hC dX10_generate_41 rfl rfl h (fun h => ?_) (fun h => ?_)
    · refine wa_aload_n 47 0 hC dX10_generate_46 rfl 0 rfl rfl ?_
      refine wa_aload_n 48 0 hC dX10_generate_47 rfl 0 rfl rfl ?_
      refine wa_getR 51 hC (vs10 hVC) (sr10_0 _) flX10_7 dX10_generate_48 rfl ?_
      refine wa_iconst 52 hC dX10_generate_51 kc_5 rfl ?_
      refine wa_ialdr 53 hC (vs27 hVC) ar27 rfl (by decide) dX10_generate_52 rfl ?_
      refine wa_aload_n 54 0 hC dX10_generate_53 rfl 0 rfl rfl ?_
      refine wa_getR 57 hC (vs10 hVC) (sr10_0 _) flX10_7 dX10_generate_54 rfl ?_
      refine wa_bipush 59 hC dX10_generate_57 kb_8 rfl ?_
      refine wa_iload_n 60 1 hC dX10_generate_59 rfl 1 rfl rfl ?_
      refine wa_iadd 61 hC dX10_generate_60 rfl ?_
      obtain ⟨g_6, h⟩ := gd_some h
      refine wa_ialdr 62 hC (vs27 hVC) ar27 rfl g_6 dX10_generate_61 rfl ?_
      obtain ⟨r_7, e_18, h⟩ := bd_some h
      refine wa_callVi 65 hC [.int (Z_4.1 27 0 0 (5 : Int32).toNatClampNeg), .int (Z_4.1 27 0 0 ((8 : Int32) + x1).toNatClampNeg)] [] knX10_generatedAt mvX10_221 (tX10_generatedAt E.2.1 (Z_4.1 27 0 0 (5 : Int32).toNatClampNeg) (Z_4.1 27 0 0 ((8 : Int32) + x1).toNatClampNeg) Z_4 hVC e_18) (vs10 hVC) kc10 (Nat.le_of_ble_eq_true rfl) (Nat.le_of_ble_eq_true rfl) rfl (Nat.le_of_ble_eq_true rfl) dX10_generate_62 rfl le00 rfl ?_
      refine wa_istore_n (lv' := [(3, .int r_7), (0, .ref (ρ 10 0)), (1, .int x1), (2, .int x2)]) 66 3 hC dX10_generate_65 rfl rfl (by decide) rfl rfl ?_
      refine wa_aload_n 67 0 hC dX10_generate_66 rfl 1 rfl rfl ?_
      refine wa_aload_n 68 0 hC dX10_generate_67 rfl 1 rfl rfl ?_
      refine wa_getR 71 hC (vs10 hVC) (sr10_0 _) flX10_7 dX10_generate_68 rfl ?_
      refine wa_iload_n 72 3 hC dX10_generate_71 rfl 0 rfl rfl ?_
      obtain ⟨g_8, h⟩ := gd_some h
      refine wa_ialdr 73 hC (vs27 hVC) ar27 rfl g_8 dX10_generate_72 rfl ?_
      refine wa_i2l 74 hC dX10_generate_73 rfl ?_
      refine wa_iload_n 75 2 hC dX10_generate_74 rfl 3 rfl rfl ?_
      refine wa_i2l 76 hC dX10_generate_75 rfl ?_
      refine wa_ladd 77 hC dX10_generate_76 rfl ?_
      refine wa_ldc2 80 hC dX10_generate_77 lcX10_219 rfl ?_
      refine wa_lcmp 81 hC dX10_generate_80 rfl ?_
      obtain ⟨kj_10, ekj_10, h⟩ := ltb_k1 h
      have hkj_10 : ∀ (v_9 : Int32), kj_10 v_9 = some (r, Z') → WA E G ρ V 0 0 (J A Z_4) 89 [(0, .ref (ρ 10 0)), (2, .int x2), (3, .int r_7)] [.int v_9, .ref (ρ 10 0)] := by
        intro v_9 h
        rw [ekj_10] at h
        obtain ⟨Z_11, eZ_11, h⟩ := ltb_some h
        refine wa_putIr 92 hC (vs10 hVC) nk10 eZ_11 sh10_6 rfl fpX10_63 dX10_generate_89 rfl ?_
        refine wa_aload_n 93 0 hC dX10_generate_92 rfl 0 rfl rfl ?_
        refine wa_getIr 96 hC (vs10 hVC) sh10_6 rfl flX10_63 dX10_generate_93 rfl ?_
        refine wa_if_le 99 101 hC dX10_generate_96 rfl rfl h (fun h => ?_) (fun h => ?_)
        · refine wa_aload_n 102 0 hC dX10_generate_101 rfl 0 rfl rfl ?_
          obtain ⟨Z_12, e_17, h⟩ := bd_some h
          refine wa_callVv 105 hC [] [] knX10_keeps mvX10_157 (tX10_keeps E.2.1 Z_11 hVC e_17) (vs10 hVC) kc10 (Nat.le_of_ble_eq_true rfl) (Nat.le_of_ble_eq_true rfl) rfl (Nat.le_of_ble_eq_true rfl) dX10_generate_102 rfl le00 rfl ?_
          refine wa_aload_n 106 0 hC dX10_generate_105 rfl 0 rfl rfl ?_
          refine wa_getR 109 hC (vs10 hVC) (sr10_0 _) flX10_7 dX10_generate_106 rfl ?_
          refine wa_iload_n 110 3 hC dX10_generate_109 rfl 2 rfl rfl ?_
          refine wa_dup2 111 hC dX10_generate_110 rfl rfl rfl ?_
          obtain ⟨g_13, h⟩ := gd_some h
          refine wa_ialdr 112 hC (vs27 hVC) ar27 rfl g_13 dX10_generate_111 rfl ?_
          refine wa_iload_n 113 2 hC dX10_generate_112 rfl 1 rfl rfl ?_
          refine wa_iadd 114 hC dX10_generate_113 rfl ?_
          obtain ⟨g_14, h⟩ := gd_some h
          obtain ⟨Z_15, eZ_15, h⟩ := ltb_some h
          refine wa_iastr 115 hC (vs27 hVC) nk27 ar27 rfl g_14 eZ_15 dX10_generate_114 rfl ?_
          refine wa_aload_n 116 0 hC dX10_generate_115 rfl 0 rfl rfl ?_
          refine wa_getR 119 hC (vs10 hVC) (sr10_0 _) flX10_7 dX10_generate_116 rfl ?_
          refine wa_iload_n 120 3 hC dX10_generate_119 rfl 2 rfl rfl ?_
          obtain ⟨g_16, h⟩ := gd_some h
          refine wa_ialdr 121 hC (vs27 hVC) ar27 rfl g_16 dX10_generate_120 rfl ?_
          exact wa_iret hC hQ (sm1 h) (jZ (sm2 h)) dX10_generate_121
        · refine wa_iconst 100 hC dX10_generate_99 kc_0 rfl ?_
          exact wa_iret hC hQ (sm1 h) (jZ (sm2 h)) dX10_generate_100
      clear ekj_10
      refine wa_lcmp_le 84 88 hC dX10_generate_81 rfl rfl h (fun h => ?_) (fun h => ?_)
      · refine wa_iconst 89 hC dX10_generate_88 kc_0 rfl ?_
        refine wa_pick [1, 3, 0] rfl ?_
        exact hkj_10 (0 : Int32) h
      · refine wa_iconst 85 hC dX10_generate_84 kc_3 rfl ?_
        refine wa_goto 89 hC dX10_generate_85 rfl ?_
        refine wa_pick [1, 3, 0] rfl ?_
        exact hkj_10 (3 : Int32) h
    · refine wa_iconst 45 hC dX10_generate_44 kc_0 rfl ?_
      exact wa_iret hC hQ (sm1 h) (jZ (sm2 h)) dX10_generate_45
  clear ekj_3
  refine wa_if_ne 13 17 hC dX10_generate_10 rfl rfl h (fun h => ?_) (fun h => ?_)
  · refine wa_iload_n 18 2 hC dX10_generate_17 rfl 2 rfl rfl ?_
    refine wa_i2l 19 hC dX10_generate_18 rfl ?_
    refine wa_lconst 20 hC dX10_generate_19 kl_1 rfl ?_
    refine wa_ldc2 23 hC dX10_generate_20 lcX10_219 rfl ?_
    obtain ⟨r_19, e_20, h⟩ := bd_some h
    refine wa_callSi 26 hC [.long (x2.toInt64), .long (1 : Int64), .long (1000000000 : Int64)] [.ref (ρ 10 0)] knX10_isIn msX10_104 (tX10_isIn E.2.1 (x2.toInt64) (1 : Int64) (1000000000 : Int64) Z hVC e_20) (Nat.le_of_ble_eq_true rfl) (Nat.le_of_ble_eq_true rfl) rfl (Nat.le_of_ble_eq_true rfl) dX10_generate_23 rfl le00 rfl ?_
    refine wa_if_ne 29 33 hC dX10_generate_26 rfl rfl h (fun h => ?_) (fun h => ?_)
    · refine wa_iconst 34 hC dX10_generate_33 kc_0 rfl ?_
      exact hkj_3 (0 : Int32) h
    · refine wa_iconst 30 hC dX10_generate_29 kc_2 rfl ?_
      refine wa_goto 34 hC dX10_generate_30 rfl ?_
      exact hkj_3 (2 : Int32) h
  · refine wa_iconst 14 hC dX10_generate_13 kc_1 rfl ?_
    refine wa_goto 34 hC dX10_generate_14 rfl ?_
    exact hkj_3 (1 : Int32) h
set_option maxRecDepth 20000 in
theorem tX10_bill (l : Launch) {G : gU} {ρ : Nat → Nat → Nat} {V : Nat → Nat → Prop} {A : sM} (x1 : Int32) (x2 : Int32) (Z : sM) (_ : VC V) {r : Int64} {Z' : sM} (h : fX10_bill x1 x2 Z = some (r, Z')) : MT l yX10_bill cX10_bill 4 (some .long) 3 G ρ V [.ref (ρ 10 0), .int x1, .int x2] (J A Z) (some (.long r)) (J A Z') := by
  refine vv_enter (lv := [(0, .ref (ρ 10 0)), (1, .int x1), (2, .int x2)]) RX10 rfl (by decide) (Nat.le_of_ble_eq_true rfl) rfl ?_
  intro E hE hC hQ hVC
  subst hE
  rw [fX10_bill] at h
  refine wa_aload_n 1 0 hC dX10_bill_0 rfl 0 rfl rfl ?_
  refine wa_aload_n 2 0 hC dX10_bill_1 rfl 0 rfl rfl ?_
  refine wa_iload_n 3 1 hC dX10_bill_2 rfl 1 rfl rfl ?_
  obtain ⟨r_1, e_22, h⟩ := bd_some h
  refine wa_callVi 6 hC [.int x1] [.ref (ρ 10 0)] knX10_isMember mvX10_184 (tX10_isMember E.2.1 x1 Z hVC e_22) (vs10 hVC) kc10 (Nat.le_of_ble_eq_true rfl) (Nat.le_of_ble_eq_true rfl) rfl (Nat.le_of_ble_eq_true rfl) dX10_bill_3 rfl le00 rfl ?_
  obtain ⟨kj_3, ekj_3, h⟩ := ltb_k1 h
  have hkj_3 : ∀ (v_2 : Int32), kj_3 v_2 = some (r, Z') → WA E G ρ V 0 0 (J A Z) 30 [(0, .ref (ρ 10 0)), (1, .int x1), (2, .int x2)] [.int v_2, .ref (ρ 10 0)] := by
    intro v_2 h
    rw [ekj_3] at h
    obtain ⟨Z_4, eZ_4, h⟩ := ltb_some h
    refine wa_putIr 33 hC (vs10 hVC) nk10 eZ_4 sh10_6 rfl fpX10_63 dX10_bill_30 rfl ?_
    refine wa_aload_n 34 0 hC dX10_bill_33 rfl 0 rfl rfl ?_
    refine wa_getIr 37 hC (vs10 hVC) sh10_6 rfl flX10_63 dX10_bill_34 rfl ?_
    refine wa_if_le 40 42 hC dX10_bill_37 rfl rfl h (fun h => ?_) (fun h => ?_)
    · refine wa_aload_n 43 0 hC dX10_bill_42 rfl 0 rfl rfl ?_
      refine wa_iload_n 44 1 hC dX10_bill_43 rfl 1 rfl rfl ?_
      refine wa_iconst 45 hC dX10_bill_44 kc_1 rfl ?_
      obtain ⟨r_5, e_19, h⟩ := bd_some h
      refine wa_callVi 48 hC [.int x1, .int (1 : Int32)] [] knX10_accountAt mvX10_197 (tX10_accountAt E.2.1 x1 (1 : Int32) Z_4 hVC e_19) (vs10 hVC) kc10 (Nat.le_of_ble_eq_true rfl) (Nat.le_of_ble_eq_true rfl) rfl (Nat.le_of_ble_eq_true rfl) dX10_bill_45 rfl le00 rfl ?_
      refine wa_istore_n (lv' := [(3, .int r_5), (0, .ref (ρ 10 0)), (1, .int x1), (2, .int x2)]) 49 3 hC dX10_bill_48 rfl rfl (by decide) rfl rfl ?_
      refine wa_aload_n 50 0 hC dX10_bill_49 rfl 1 rfl rfl ?_
      refine wa_aload_n 51 0 hC dX10_bill_50 rfl 1 rfl rfl ?_
      refine wa_iload_n 52 1 hC dX10_bill_51 rfl 2 rfl rfl ?_
      obtain ⟨r_6, e_18, h⟩ := bd_some h
      refine wa_callVi 55 hC [.int x1] [.ref (ρ 10 0)] knX10_isActive mvX10_187 (tX10_isActive E.2.1 x1 Z_4 hVC e_18) (vs10 hVC) kc10 (Nat.le_of_ble_eq_true rfl) (Nat.le_of_ble_eq_true rfl) rfl (Nat.le_of_ble_eq_true rfl) dX10_bill_52 rfl le00 rfl ?_
      obtain ⟨kj_8, ekj_8, h⟩ := ltb_k1 h
      have hkj_8 : ∀ (v_7 : Int32), kj_8 v_7 = some (r, Z') → WA E G ρ V 0 0 (J A Z_4) 79 [(0, .ref (ρ 10 0)), (2, .int x2), (3, .int r_5)] [.int v_7, .ref (ρ 10 0)] := by
        intro v_7 h
        rw [ekj_8] at h
        obtain ⟨Z_9, eZ_9, h⟩ := ltb_some h
        refine wa_putIr 82 hC (vs10 hVC) nk10 eZ_9 sh10_6 rfl fpX10_63 dX10_bill_79 rfl ?_
        refine wa_aload_n 83 0 hC dX10_bill_82 rfl 0 rfl rfl ?_
        refine wa_getIr 86 hC (vs10 hVC) sh10_6 rfl flX10_63 dX10_bill_83 rfl ?_
        refine wa_if_le 89 91 hC dX10_bill_86 rfl rfl h (fun h => ?_) (fun h => ?_)
        · refine wa_aload_n 92 0 hC dX10_bill_91 rfl 0 rfl rfl ?_
          obtain ⟨Z_10, e_15, h⟩ := bd_some h
          refine wa_callVv 95 hC [] [] knX10_keeps mvX10_157 (tX10_keeps E.2.1 Z_9 hVC e_15) (vs10 hVC) kc10 (Nat.le_of_ble_eq_true rfl) (Nat.le_of_ble_eq_true rfl) rfl (Nat.le_of_ble_eq_true rfl) dX10_bill_92 rfl le00 rfl ?_
          refine wa_aload_n 96 0 hC dX10_bill_95 rfl 0 rfl rfl ?_
          refine wa_getR 99 hC (vs10 hVC) (sr10_3 _) flX10_19 dX10_bill_96 rfl ?_
          refine wa_iload_n 100 3 hC dX10_bill_99 rfl 2 rfl rfl ?_
          refine wa_dup2 101 hC dX10_bill_100 rfl rfl rfl ?_
          obtain ⟨g_11, h⟩ := gd_some h
          refine wa_laldr 102 hC (vs30 hVC) ar30 rfl g_11 dX10_bill_101 rfl ?_
          refine wa_iload_n 103 2 hC dX10_bill_102 rfl 1 rfl rfl ?_
          refine wa_i2l 104 hC dX10_bill_103 rfl ?_
          refine wa_ladd 105 hC dX10_bill_104 rfl ?_
          obtain ⟨g_12, h⟩ := gd_some h
          obtain ⟨Z_13, eZ_13, h⟩ := ltb_some h
          refine wa_lastr 106 hC (vs30 hVC) ar30 rfl g_12 eZ_13 dX10_bill_105 rfl ?_
          refine wa_aload_n 107 0 hC dX10_bill_106 rfl 0 rfl rfl ?_
          refine wa_getR 110 hC (vs10 hVC) (sr10_3 _) flX10_19 dX10_bill_107 rfl ?_
          refine wa_iload_n 111 3 hC dX10_bill_110 rfl 2 rfl rfl ?_
          obtain ⟨g_14, h⟩ := gd_some h
          refine wa_laldr 112 hC (vs30 hVC) ar30 rfl g_14 dX10_bill_111 rfl ?_
          exact wa_lret hC hQ (sm1 h) (jZ (sm2 h)) dX10_bill_112
        · refine wa_lconst 90 hC dX10_bill_89 kl_0 rfl ?_
          exact wa_lret hC hQ (sm1 h) (jZ (sm2 h)) dX10_bill_90
      clear ekj_8
      obtain ⟨kj_16, ekj_16, h⟩ := ltb_some h
      have hkj_16 : kj_16 = some (r, Z') → WA E G ρ V 0 0 (J A Z_4) 74 [(0, .ref (ρ 10 0)), (2, .int x2), (3, .int r_5)] [.ref (ρ 10 0)] := by
        intro h
        rw [ekj_16] at h
        refine wa_iconst 75 hC dX10_bill_74 kc_3 rfl ?_
        refine wa_goto 79 hC dX10_bill_75 rfl ?_
        exact hkj_8 (3 : Int32) h
      clear ekj_16
      refine wa_if_eq 58 74 hC dX10_bill_55 rfl rfl h (fun h => ?_) (fun h => ?_)
      · refine wa_pick [1, 3, 0] rfl ?_
        exact hkj_16 h
      · refine wa_aload_n 59 0 hC dX10_bill_58 rfl 1 rfl rfl ?_
        refine wa_getR 62 hC (vs10 hVC) (sr10_3 _) flX10_19 dX10_bill_59 rfl ?_
        refine wa_iload_n 63 3 hC dX10_bill_62 rfl 0 rfl rfl ?_
        obtain ⟨g_17, h⟩ := gd_some h
        refine wa_laldr 64 hC (vs30 hVC) ar30 rfl g_17 dX10_bill_63 rfl ?_
        refine wa_iload_n 65 2 hC dX10_bill_64 rfl 3 rfl rfl ?_
        refine wa_i2l 66 hC dX10_bill_65 rfl ?_
        refine wa_ladd 67 hC dX10_bill_66 rfl ?_
        refine wa_ldc2 70 hC dX10_bill_67 lcX10_224 rfl ?_
        refine wa_lcmp 71 hC dX10_bill_70 rfl ?_
        refine wa_lcmp_le 74 78 hC dX10_bill_71 rfl rfl h (fun h => ?_) (fun h => ?_)
        · refine wa_iconst 79 hC dX10_bill_78 kc_0 rfl ?_
          refine wa_pick [1, 3, 0] rfl ?_
          exact hkj_8 (0 : Int32) h
        · refine wa_pick [1, 3, 0] rfl ?_
          exact hkj_16 h
    · refine wa_lconst 41 hC dX10_bill_40 kl_0 rfl ?_
      exact wa_lret hC hQ (sm1 h) (jZ (sm2 h)) dX10_bill_41
  clear ekj_3
  refine wa_if_ne 9 13 hC dX10_bill_6 rfl rfl h (fun h => ?_) (fun h => ?_)
  · refine wa_iload_n 14 2 hC dX10_bill_13 rfl 2 rfl rfl ?_
    refine wa_i2l 15 hC dX10_bill_14 rfl ?_
    refine wa_lconst 16 hC dX10_bill_15 kl_1 rfl ?_
    refine wa_ldc2 19 hC dX10_bill_16 lcX10_219 rfl ?_
    obtain ⟨r_20, e_21, h⟩ := bd_some h
    refine wa_callSi 22 hC [.long (x2.toInt64), .long (1 : Int64), .long (1000000000 : Int64)] [.ref (ρ 10 0)] knX10_isIn msX10_104 (tX10_isIn E.2.1 (x2.toInt64) (1 : Int64) (1000000000 : Int64) Z hVC e_21) (Nat.le_of_ble_eq_true rfl) (Nat.le_of_ble_eq_true rfl) rfl (Nat.le_of_ble_eq_true rfl) dX10_bill_19 rfl le00 rfl ?_
    refine wa_if_ne 25 29 hC dX10_bill_22 rfl rfl h (fun h => ?_) (fun h => ?_)
    · refine wa_iconst 30 hC dX10_bill_29 kc_0 rfl ?_
      exact hkj_3 (0 : Int32) h
    · refine wa_iconst 26 hC dX10_bill_25 kc_2 rfl ?_
      refine wa_goto 30 hC dX10_bill_26 rfl ?_
      exact hkj_3 (2 : Int32) h
  · refine wa_iconst 10 hC dX10_bill_9 kc_1 rfl ?_
    refine wa_goto 30 hC dX10_bill_10 rfl ?_
    exact hkj_3 (1 : Int32) h
set_option maxRecDepth 20000 in
theorem wX10_divides_L6 {E : eU} {G : gU} {ρ : Nat → Nat → Nat} {V : Nat → Nat → Prop} {A : sM} {Z' : sM} (x1 : Int64) (x3 : Int32) (x4 : Int64) {k76 : Int64 → sM → Option (sM)} (hC : CX E G cX10_divides 10 RX10 none 1 0 0) (hVC : VC V) (hk76 : ∀ (x6 : Int64) (Z : sM), k76 x6 Z = some Z' → WA E G ρ V 0 0 (J A Z) 76 [(0, .ref (ρ 10 0)), (3, .int x3), (6, .long x6)] []) : ∀ (n : Nat) (x6 : Int64) (x8 : Int32) (Z : sM), fX10_divides_L6 x1 x3 x4 k76 n x6 x8 Z = some Z' → WA E G ρ V 0 0 (J A Z) 6 [(0, .ref (ρ 10 0)), (1, .long x1), (3, .int x3), (4, .long x4), (6, .long x6), (8, .int x8)] [] := by
  intro n
  induction n with
  | zero =>
    intro x6 x8 Z h
    rw [fX10_divides_L6] at h
    cases h
  | succ n ih =>
    intro x6 x8 Z h
    rw [fX10_divides_L6] at h
    refine wa_iload 8 8 hC dX10_divides_6 5 rfl rfl ?_
    refine wa_iload_n 9 3 hC dX10_divides_8 rfl 2 rfl rfl ?_
    refine wa_icmp_ge 12 76 hC dX10_divides_9 rfl rfl h (fun h => ?_) (fun h => ?_)
    · refine wa_pick [0, 2, 4] rfl ?_
      exact hk76 x6 Z h
    · refine wa_aload_n 13 0 hC dX10_divides_12 rfl 0 rfl rfl ?_
      refine wa_getR 16 hC (vs10 hVC) (sr10_18 _) flX10_36 dX10_divides_13 rfl ?_
      refine wa_iload 18 8 hC dX10_divides_16 5 rfl rfl ?_
      refine wa_lload_n 19 1 hC dX10_divides_18 rfl 1 rfl rfl ?_
      refine wa_aload_n 20 0 hC dX10_divides_19 rfl 0 rfl rfl ?_
      refine wa_getR 23 hC (vs10 hVC) (sr10_17 _) flX10_33 dX10_divides_20 rfl ?_
      refine wa_iload 25 8 hC dX10_divides_23 5 rfl rfl ?_
      obtain ⟨g_1, h⟩ := gd_some h
      refine wa_laldr 26 hC (vs33 hVC) ar33 rfl g_1 dX10_divides_25 rfl ?_
      refine wa_lmul 27 hC dX10_divides_26 rfl ?_
      refine wa_lload 29 4 hC dX10_divides_27 3 rfl rfl ?_
      obtain ⟨g_2, h⟩ := gd_some h
      refine wa_ldiv 30 hC dX10_divides_29 g_2 rfl ?_
      obtain ⟨g_3, h⟩ := gd_some h
      obtain ⟨Z_4, eZ_4, h⟩ := ltb_some h
      refine wa_lastr 31 hC (vs34 hVC) ar34 rfl g_3 eZ_4 dX10_divides_30 rfl ?_
      refine wa_aload_n 32 0 hC dX10_divides_31 rfl 0 rfl rfl ?_
      refine wa_getR 35 hC (vs10 hVC) (sr10_19 _) flX10_39 dX10_divides_32 rfl ?_
      refine wa_iload 37 8 hC dX10_divides_35 5 rfl rfl ?_
      refine wa_lload_n 38 1 hC dX10_divides_37 rfl 1 rfl rfl ?_
      refine wa_aload_n 39 0 hC dX10_divides_38 rfl 0 rfl rfl ?_
      refine wa_getR 42 hC (vs10 hVC) (sr10_17 _) flX10_33 dX10_divides_39 rfl ?_
      refine wa_iload 44 8 hC dX10_divides_42 5 rfl rfl ?_
      obtain ⟨g_5, h⟩ := gd_some h
      refine wa_laldr 45 hC (vs33 hVC) ar33 rfl g_5 dX10_divides_44 rfl ?_
      refine wa_lmul 46 hC dX10_divides_45 rfl ?_
      refine wa_lload 48 4 hC dX10_divides_46 3 rfl rfl ?_
      obtain ⟨g_6, h⟩ := gd_some h
      refine wa_lrem 49 hC dX10_divides_48 g_6 rfl ?_
      obtain ⟨g_7, h⟩ := gd_some h
      obtain ⟨Z_8, eZ_8, h⟩ := ltb_some h
      refine wa_lastr 50 hC (vs35 hVC) ar35 rfl g_7 eZ_8 dX10_divides_49 rfl ?_
      refine wa_aload_n 51 0 hC dX10_divides_50 rfl 0 rfl rfl ?_
      refine wa_getR 54 hC (vs10 hVC) (sr10_20 _) flX10_42 dX10_divides_51 rfl ?_
      refine wa_iload 56 8 hC dX10_divides_54 5 rfl rfl ?_
      refine wa_iconst 57 hC dX10_divides_56 kc_0 rfl ?_
      obtain ⟨g_9, h⟩ := gd_some h
      obtain ⟨Z_10, eZ_10, h⟩ := ltb_some h
      refine wa_zastr 58 hC (vs36 hVC) nk36 ar36 rfl g_9 rfl eZ_10 dX10_divides_57 rfl ?_
      refine wa_lload 60 6 hC dX10_divides_58 4 rfl rfl ?_
      refine wa_aload_n 61 0 hC dX10_divides_60 rfl 0 rfl rfl ?_
      refine wa_getR 64 hC (vs10 hVC) (sr10_18 _) flX10_36 dX10_divides_61 rfl ?_
      refine wa_iload 66 8 hC dX10_divides_64 5 rfl rfl ?_
      obtain ⟨g_11, h⟩ := gd_some h
      refine wa_laldr 67 hC (vs34 hVC) ar34 rfl g_11 dX10_divides_66 rfl ?_
      refine wa_lsub 68 hC dX10_divides_67 rfl ?_
      obtain ⟨x6_12, ex6_12, h⟩ := ltb_some h
      refine wa_lstore (lv' := [(6, .long x6_12), (0, .ref (ρ 10 0)), (1, .long x1), (3, .int x3), (4, .long x4), (8, .int x8)]) 70 6 hC dX10_divides_68 ex6_12 (by decide) rfl rfl ?_
      obtain ⟨x8_13, ex8_13, h⟩ := ltb_some h
      refine wa_iinc (lv' := [(8, .int x8_13), (6, .long x6_12), (0, .ref (ρ 10 0)), (1, .long x1), (3, .int x3), (4, .long x4)]) 73 8 hC dX10_divides_70 5 rfl (by rw [kc_1]; exact ex8_13) (by decide) rfl rfl ?_
      refine wa_goto 6 hC dX10_divides_73 rfl ?_
      refine wa_pick [2, 3, 4, 5, 1, 0] rfl ?_
      exact ih x6_12 x8_13 Z_10 h
set_option maxRecDepth 20000 in
theorem wX10_divides_L89 {E : eU} {G : gU} {ρ : Nat → Nat → Nat} {V : Nat → Nat → Prop} {A : sM} {Z' : sM} (x3 : Int32) (x6 : Int64) (Z : sM) {k139 : Int32 → Option (sM)} (hC : CX E G cX10_divides 10 RX10 none 1 0 0) (hVC : VC V) (hk139 : ∀ (x8 : Int32), k139 x8 = some Z' → WA E G ρ V 0 0 (J A Z) 139 [(0, .ref (ρ 10 0)), (3, .int x3), (6, .long x6), (8, .int x8)] []) : ∀ (n : Nat) (x8 : Int32) (x9 : Int32), fX10_divides_L89 x3 x6 Z k139 n x8 x9 = some Z' → WA E G ρ V 0 0 (J A Z) 89 [(0, .ref (ρ 10 0)), (3, .int x3), (6, .long x6), (8, .int x8), (9, .int x9)] [] := by
  intro n
  induction n with
  | zero =>
    intro x8 x9 h
    rw [fX10_divides_L89] at h
    cases h
  | succ n ih =>
    intro x8 x9 h
    rw [fX10_divides_L89] at h
    refine wa_iload 91 9 hC dX10_divides_89 4 rfl rfl ?_
    refine wa_iload_n 92 3 hC dX10_divides_91 rfl 1 rfl rfl ?_
    refine wa_icmp_ge 95 139 hC dX10_divides_92 rfl rfl h (fun h => ?_) (fun h => ?_)
    · refine wa_pick [0, 1, 2, 3] rfl ?_
      exact hk139 x8 h
    · refine wa_aload_n 96 0 hC dX10_divides_95 rfl 0 rfl rfl ?_
      refine wa_getR 99 hC (vs10 hVC) (sr10_20 _) flX10_42 dX10_divides_96 rfl ?_
      refine wa_iload 101 9 hC dX10_divides_99 4 rfl rfl ?_
      obtain ⟨g_1, h⟩ := gd_some h
      refine wa_zaldr 102 hC (vs36 hVC) ar36 rfl g_1 dX10_divides_101 rfl ?_
      obtain ⟨kj_3, ekj_3, h⟩ := ltb_k1 h
      have hkj_3 : ∀ (x8_2 : Int32), kj_3 x8_2 = some Z' → WA E G ρ V 0 0 (J A Z) 133 [(0, .ref (ρ 10 0)), (3, .int x3), (6, .long x6), (8, .int x8_2), (9, .int x9)] [] := by
        intro x8_2 h
        rw [ekj_3] at h
        obtain ⟨x9_4, ex9_4, h⟩ := ltb_some h
        refine wa_iinc (lv' := [(9, .int x9_4), (0, .ref (ρ 10 0)), (3, .int x3), (6, .long x6), (8, .int x8_2)]) 136 9 hC dX10_divides_133 4 rfl (by rw [kc_1]; exact ex9_4) (by decide) rfl rfl ?_
        refine wa_goto 89 hC dX10_divides_136 rfl ?_
        refine wa_pick [1, 2, 3, 4, 0] rfl ?_
        exact ih x8_2 x9_4 h
      clear ekj_3
      refine wa_if_ne 105 133 hC dX10_divides_102 rfl rfl h (fun h => ?_) (fun h => ?_)
      · exact hkj_3 x8 h
      · refine wa_iload 107 8 hC dX10_divides_105 3 rfl rfl ?_
        refine wa_iconst 108 hC dX10_divides_107 kc_m1 rfl ?_
        obtain ⟨kj_5, ekj_5, h⟩ := ltb_some h
        have hkj_5 : kj_5 = some Z' → WA E G ρ V 0 0 (J A Z) 129 [(0, .ref (ρ 10 0)), (3, .int x3), (6, .long x6), (9, .int x9)] [] := by
          intro h
          rw [ekj_5] at h
          refine wa_iload 131 9 hC dX10_divides_129 3 rfl rfl ?_
          refine wa_istore (lv' := [(8, .int x9), (0, .ref (ρ 10 0)), (3, .int x3), (6, .long x6), (9, .int x9)]) 133 8 hC dX10_divides_131 rfl (by decide) rfl rfl ?_
          refine wa_pick [1, 2, 3, 0, 4] rfl ?_
          exact hkj_3 x9 h
        clear ekj_5
        refine wa_icmp_eq 111 129 hC dX10_divides_108 rfl rfl h (fun h => ?_) (fun h => ?_)
        · refine wa_pick [0, 1, 2, 4] rfl ?_
          exact hkj_5 h
        · refine wa_aload_n 112 0 hC dX10_divides_111 rfl 0 rfl rfl ?_
          refine wa_getR 115 hC (vs10 hVC) (sr10_19 _) flX10_39 dX10_divides_112 rfl ?_
          refine wa_iload 117 9 hC dX10_divides_115 4 rfl rfl ?_
          obtain ⟨g_6, h⟩ := gd_some h
          refine wa_laldr 118 hC (vs35 hVC) ar35 rfl g_6 dX10_divides_117 rfl ?_
          refine wa_aload_n 119 0 hC dX10_divides_118 rfl 0 rfl rfl ?_
          refine wa_getR 122 hC (vs10 hVC) (sr10_19 _) flX10_39 dX10_divides_119 rfl ?_
          refine wa_iload 124 8 hC dX10_divides_122 3 rfl rfl ?_
          obtain ⟨g_7, h⟩ := gd_some h
          refine wa_laldr 125 hC (vs35 hVC) ar35 rfl g_7 dX10_divides_124 rfl ?_
          refine wa_lcmp 126 hC dX10_divides_125 rfl ?_
          refine wa_lcmp_le 129 133 hC dX10_divides_126 rfl rfl h (fun h => ?_) (fun h => ?_)
          · exact hkj_3 x8 h
          · refine wa_pick [0, 1, 2, 4] rfl ?_
            exact hkj_5 h
set_option maxRecDepth 20000 in
theorem wX10_divides_L76 {E : eU} {G : gU} {ρ : Nat → Nat → Nat} {V : Nat → Nat → Prop} {A : sM} {Z' : sM} (x3 : Int32) {k167 : sM → Option (sM)} (hC : CX E G cX10_divides 10 RX10 none 1 0 0) (hVC : VC V) (hk167 : ∀ (Z : sM), k167 Z = some Z' → WA E G ρ V 0 0 (J A Z) 167 [] []) : ∀ (n : Nat) (x6 : Int64) (Z : sM), fX10_divides_L76 x3 k167 n x6 Z = some Z' → WA E G ρ V 0 0 (J A Z) 76 [(0, .ref (ρ 10 0)), (3, .int x3), (6, .long x6)] [] := by
  intro n
  induction n with
  | zero =>
    intro x6 Z h
    rw [fX10_divides_L76] at h
    cases h
  | succ n ih =>
    intro x6 Z h
    rw [fX10_divides_L76] at h
    refine wa_lload 78 6 hC dX10_divides_76 2 rfl rfl ?_
    refine wa_lconst 79 hC dX10_divides_78 kl_0 rfl ?_
    refine wa_lcmp 80 hC dX10_divides_79 rfl ?_
    refine wa_lcmp_le 83 167 hC dX10_divides_80 rfl rfl h (fun h => ?_) (fun h => ?_)
    · refine wa_pick [] rfl ?_
      exact hk167 Z h
    · refine wa_iconst 84 hC dX10_divides_83 kc_m1 rfl ?_
      refine wa_istore (lv' := [(8, .int (-1 : Int32)), (0, .ref (ρ 10 0)), (3, .int x3), (6, .long x6)]) 86 8 hC dX10_divides_84 rfl (by decide) rfl rfl ?_
      refine wa_iconst 87 hC dX10_divides_86 kc_0 rfl ?_
      refine wa_istore (lv' := [(9, .int (0 : Int32)), (8, .int (-1 : Int32)), (0, .ref (ρ 10 0)), (3, .int x3), (6, .long x6)]) 89 9 hC dX10_divides_87 rfl (by decide) rfl rfl ?_
      refine wa_pick [2, 3, 4, 1, 0] rfl ?_
      refine wX10_divides_L89 x3 x6 Z hC hVC (fun x8_1 h => ?_) 10000 (-1 : Int32) (0 : Int32) h
      refine wa_aload_n 140 0 hC dX10_divides_139 rfl 0 rfl rfl ?_
      refine wa_getR 143 hC (vs10 hVC) (sr10_18 _) flX10_36 dX10_divides_140 rfl ?_
      refine wa_iload 145 8 hC dX10_divides_143 3 rfl rfl ?_
      refine wa_dup2 146 hC dX10_divides_145 rfl rfl rfl ?_
      obtain ⟨g_2, h⟩ := gd_some h
      refine wa_laldr 147 hC (vs34 hVC) ar34 rfl g_2 dX10_divides_146 rfl ?_
      refine wa_lconst 148 hC dX10_divides_147 kl_1 rfl ?_
      refine wa_ladd 149 hC dX10_divides_148 rfl ?_
      obtain ⟨g_3, h⟩ := gd_some h
      obtain ⟨Z_4, eZ_4, h⟩ := ltb_some h
      refine wa_lastr 150 hC (vs34 hVC) ar34 rfl g_3 eZ_4 dX10_divides_149 rfl ?_
      refine wa_aload_n 151 0 hC dX10_divides_150 rfl 0 rfl rfl ?_
      refine wa_getR 154 hC (vs10 hVC) (sr10_20 _) flX10_42 dX10_divides_151 rfl ?_
      refine wa_iload 156 8 hC dX10_divides_154 3 rfl rfl ?_
      refine wa_iconst 157 hC dX10_divides_156 kc_1 rfl ?_
      obtain ⟨g_5, h⟩ := gd_some h
      obtain ⟨Z_6, eZ_6, h⟩ := ltb_some h
      refine wa_zastr 158 hC (vs36 hVC) nk36 ar36 rfl g_5 rfl eZ_6 dX10_divides_157 rfl ?_
      refine wa_lload 160 6 hC dX10_divides_158 2 rfl rfl ?_
      refine wa_lconst 161 hC dX10_divides_160 kl_1 rfl ?_
      refine wa_lsub 162 hC dX10_divides_161 rfl ?_
      obtain ⟨x6_7, ex6_7, h⟩ := ltb_some h
      refine wa_lstore (lv' := [(6, .long x6_7), (0, .ref (ρ 10 0)), (3, .int x3), (8, .int x8_1)]) 164 6 hC dX10_divides_162 ex6_7 (by decide) rfl rfl ?_
      refine wa_goto 76 hC dX10_divides_164 rfl ?_
      refine wa_pick [1, 2, 0] rfl ?_
      exact ih x6_7 Z_6 h
set_option maxRecDepth 20000 in
theorem tX10_divides (l : Launch) {G : gU} {ρ : Nat → Nat → Nat} {V : Nat → Nat → Prop} {A : sM} (x1 : Int64) (x3 : Int32) (x4 : Int64) (Z : sM) (_ : VC V) {Z' : sM} (h : fX10_divides x1 x3 x4 Z = some Z') : MT l yX10_divides cX10_divides 10 none 1 G ρ V [.ref (ρ 10 0), .long x1, .int x3, .long x4] (J A Z) none (J A Z') := by
  refine vv_enter (lv := [(0, .ref (ρ 10 0)), (1, .long x1), (3, .int x3), (4, .long x4)]) RX10 rfl (by decide) (Nat.le_of_ble_eq_true rfl) rfl ?_
  intro E hE hC hQ hVC
  subst hE
  rw [fX10_divides] at h
  refine wa_lload_n 1 1 hC dX10_divides_0 rfl 1 rfl rfl ?_
  refine wa_lstore (lv' := [(6, .long x1), (0, .ref (ρ 10 0)), (1, .long x1), (3, .int x3), (4, .long x4)]) 3 6 hC dX10_divides_1 rfl (by decide) rfl rfl ?_
  refine wa_iconst 4 hC dX10_divides_3 kc_0 rfl ?_
  refine wa_istore (lv' := [(8, .int (0 : Int32)), (6, .long x1), (0, .ref (ρ 10 0)), (1, .long x1), (3, .int x3), (4, .long x4)]) 6 8 hC dX10_divides_4 rfl (by decide) rfl rfl ?_
  refine wa_pick [2, 3, 4, 5, 1, 0] rfl ?_
  refine wX10_divides_L6 x1 x3 x4 hC hVC (fun x6_1 Z_2 h => ?_) 10000 x1 (0 : Int32) Z h
  refine wX10_divides_L76 x3 hC hVC (fun Z_3 h => ?_) 10000 x6_1 Z_2 h
  exact wa_vret hC hQ (jZ (sm0 h)) dX10_divides_167
set_option maxRecDepth 20000 in
theorem wX10_dividesMonth_L16 {E : eU} {G : gU} {ρ : Nat → Nat → Nat} {V : Nat → Nat → Prop} {A : sM} {Z' : sM} (x1 : Int64) (x3 : Int32) (x4 : Int32) {k79 : Int64 → sM → Option (sM)} (hC : CX E G cX10_dividesMonth 8 RX10 none 2 0 0) (hVC : VC V) (hk79 : ∀ (x5 : Int64) (Z : sM), k79 x5 Z = some Z' → WA E G ρ V 0 0 (J A Z) 79 [(0, .ref (ρ 10 0)), (1, .long x1), (5, .long x5)] []) : ∀ (n : Nat) (x5 : Int64) (x7 : Int32) (Z : sM), fX10_dividesMonth_L16 x1 x3 x4 k79 n x5 x7 Z = some Z' → WA E G ρ V 0 0 (J A Z) 16 [(0, .ref (ρ 10 0)), (1, .long x1), (3, .int x3), (4, .int x4), (5, .long x5), (7, .int x7)] [] := by
  intro n
  induction n with
  | zero =>
    intro x5 x7 Z h
    rw [fX10_dividesMonth_L16] at h
    cases h
  | succ n ih =>
    intro x5 x7 Z h
    rw [fX10_dividesMonth_L16] at h
    refine wa_iload 18 7 hC dX10_dividesMonth_16 5 rfl rfl ?_
    refine wa_aload_n 19 0 hC dX10_dividesMonth_18 rfl 0 rfl rfl ?_
    refine wa_getR 22 hC (vs10 hVC) (sr10_0 _) flX10_7 dX10_dividesMonth_19 rfl ?_
    refine wa_bipush 24 hC dX10_dividesMonth_22 kb_7 rfl ?_
    refine wa_ialdr 25 hC (vs27 hVC) ar27 rfl (by decide) dX10_dividesMonth_24 rfl ?_
    refine wa_icmp_ge 28 79 hC dX10_dividesMonth_25 rfl rfl h (fun h => ?_) (fun h => ?_)
    · refine wa_pick [0, 1, 4] rfl ?_
      exact hk79 x5 Z h
    · refine wa_aload_n 29 0 hC dX10_dividesMonth_28 rfl 0 rfl rfl ?_
      refine wa_getR 32 hC (vs10 hVC) (sr10_17 _) flX10_33 dX10_dividesMonth_29 rfl ?_
      refine wa_iload 34 7 hC dX10_dividesMonth_32 5 rfl rfl ?_
      refine wa_aload_n 35 0 hC dX10_dividesMonth_34 rfl 0 rfl rfl ?_
      refine wa_getR 38 hC (vs10 hVC) (sr10_0 _) flX10_7 dX10_dividesMonth_35 rfl ?_
      refine wa_aload_n 39 0 hC dX10_dividesMonth_38 rfl 0 rfl rfl ?_
      refine wa_iload_n 40 3 hC dX10_dividesMonth_39 rfl 2 rfl rfl ?_
      refine wa_iload 42 7 hC dX10_dividesMonth_40 5 rfl rfl ?_
      obtain ⟨r_2, e_11, h⟩ := bd_some h
      refine wa_callVi 45 hC [.int x3, .int x7] [.ref (ρ 27 0), .int x7, .ref (ρ 33 0)] knX10_daysAt mvX10_216 (tX10_daysAt E.2.1 x3 x7 Z hVC e_11) (vs10 hVC) kc10 (Nat.le_of_ble_eq_true rfl) (Nat.le_of_ble_eq_true rfl) rfl (Nat.le_of_ble_eq_true rfl) dX10_dividesMonth_42 rfl le00 rfl ?_
      obtain ⟨g_3, h⟩ := gd_some h
      refine wa_ialdr 46 hC (vs27 hVC) ar27 rfl g_3 dX10_dividesMonth_45 rfl ?_
      refine wa_i2l 47 hC dX10_dividesMonth_46 rfl ?_
      refine wa_iload 49 4 hC dX10_dividesMonth_47 3 rfl rfl ?_
      refine wa_i2l 50 hC dX10_dividesMonth_49 rfl ?_
      refine wa_aload_n 51 0 hC dX10_dividesMonth_50 rfl 0 rfl rfl ?_
      refine wa_iload 53 7 hC dX10_dividesMonth_51 5 rfl rfl ?_
      refine wa_iconst 54 hC dX10_dividesMonth_53 kc_4 rfl ?_
      obtain ⟨r_4, e_10, h⟩ := bd_some h
      refine wa_callVi 57 hC [.int x7, .int (4 : Int32)] [.long (x4.toInt64), .long ((Z.1 27 0 0 r_2.toNatClampNeg).toInt64), .int x7, .ref (ρ 33 0)] knX10_ofMember mvX10_169 (tX10_ofMember E.2.1 x7 (4 : Int32) Z hVC e_10) (vs10 hVC) kc10 (Nat.le_of_ble_eq_true rfl) (Nat.le_of_ble_eq_true rfl) rfl (Nat.le_of_ble_eq_true rfl) dX10_dividesMonth_54 rfl le00 rfl ?_
      refine wa_i2l 58 hC dX10_dividesMonth_57 rfl ?_
      refine wa_lmul 59 hC dX10_dividesMonth_58 rfl ?_
      refine wa_ladd 60 hC dX10_dividesMonth_59 rfl ?_
      obtain ⟨g_5, h⟩ := gd_some h
      obtain ⟨Z_6, eZ_6, h⟩ := ltb_some h
      refine wa_lastr 61 hC (vs33 hVC) ar33 rfl g_5 eZ_6 dX10_dividesMonth_60 rfl ?_
      refine wa_lload 63 5 hC dX10_dividesMonth_61 4 rfl rfl ?_
      refine wa_aload_n 64 0 hC dX10_dividesMonth_63 rfl 0 rfl rfl ?_
      refine wa_getR 67 hC (vs10 hVC) (sr10_17 _) flX10_33 dX10_dividesMonth_64 rfl ?_
      refine wa_iload 69 7 hC dX10_dividesMonth_67 5 rfl rfl ?_
      obtain ⟨g_7, h⟩ := gd_some h
      refine wa_laldr 70 hC (vs33 hVC) ar33 rfl g_7 dX10_dividesMonth_69 rfl ?_
      refine wa_lsub 71 hC dX10_dividesMonth_70 rfl ?_
      obtain ⟨x5_8, ex5_8, h⟩ := ltb_some h
      refine wa_lstore (lv' := [(5, .long x5_8), (0, .ref (ρ 10 0)), (1, .long x1), (3, .int x3), (4, .int x4), (7, .int x7)]) 73 5 hC dX10_dividesMonth_71 ex5_8 (by decide) rfl rfl ?_
      obtain ⟨x7_9, ex7_9, h⟩ := ltb_some h
      refine wa_iinc (lv' := [(7, .int x7_9), (5, .long x5_8), (0, .ref (ρ 10 0)), (1, .long x1), (3, .int x3), (4, .int x4)]) 76 7 hC dX10_dividesMonth_73 5 rfl (by rw [kc_1]; exact ex7_9) (by decide) rfl rfl ?_
      refine wa_goto 16 hC dX10_dividesMonth_76 rfl ?_
      refine wa_pick [2, 3, 4, 5, 1, 0] rfl ?_
      exact ih x5_8 x7_9 Z_6 h
set_option maxRecDepth 20000 in
theorem tX10_dividesMonth (l : Launch) {G : gU} {ρ : Nat → Nat → Nat} {V : Nat → Nat → Prop} {A : sM} (x1 : Int64) (x3 : Int32) (x4 : Int32) (Z : sM) (_ : VC V) {Z' : sM} (h : fX10_dividesMonth x1 x3 x4 Z = some Z') : MT l yX10_dividesMonth cX10_dividesMonth 8 none 2 G ρ V [.ref (ρ 10 0), .long x1, .int x3, .int x4] (J A Z) none (J A Z') := by
  refine vv_enter (lv := [(0, .ref (ρ 10 0)), (1, .long x1), (3, .int x3), (4, .int x4)]) RX10 rfl (by decide) (Nat.le_of_ble_eq_true rfl) rfl ?_
  intro E hE hC hQ hVC
  subst hE
  rw [fX10_dividesMonth] at h
  refine wa_ldc2 3 hC dX10_dividesMonth_0 lcX10_214 rfl ?_
  refine wa_aload_n 4 0 hC dX10_dividesMonth_3 rfl 0 rfl rfl ?_
  refine wa_getR 7 hC (vs10 hVC) (sr10_0 _) flX10_7 dX10_dividesMonth_4 rfl ?_
  refine wa_iconst 8 hC dX10_dividesMonth_7 kc_0 rfl ?_
  refine wa_ialdr 9 hC (vs27 hVC) ar27 rfl (by decide) dX10_dividesMonth_8 rfl ?_
  refine wa_i2l 10 hC dX10_dividesMonth_9 rfl ?_
  refine wa_lmul 11 hC dX10_dividesMonth_10 rfl ?_
  obtain ⟨x5_2, ex5_2, h⟩ := ltb_some h
  refine wa_lstore (lv' := [(5, .long x5_2), (0, .ref (ρ 10 0)), (1, .long x1), (3, .int x3), (4, .int x4)]) 13 5 hC dX10_dividesMonth_11 ex5_2 (by decide) rfl rfl ?_
  refine wa_iconst 14 hC dX10_dividesMonth_13 kc_0 rfl ?_
  refine wa_istore (lv' := [(7, .int (0 : Int32)), (5, .long x5_2), (0, .ref (ρ 10 0)), (1, .long x1), (3, .int x3), (4, .int x4)]) 16 7 hC dX10_dividesMonth_14 rfl (by decide) rfl rfl ?_
  refine wa_pick [2, 3, 4, 5, 1, 0] rfl ?_
  refine wX10_dividesMonth_L16 x1 x3 x4 hC hVC (fun x5_3 Z_4 h => ?_) 10000 x5_2 (0 : Int32) Z h
  refine wa_aload_n 80 0 hC dX10_dividesMonth_79 rfl 0 rfl rfl ?_
  refine wa_getR 83 hC (vs10 hVC) (sr10_17 _) flX10_33 dX10_dividesMonth_80 rfl ?_
  refine wa_aload_n 84 0 hC dX10_dividesMonth_83 rfl 0 rfl rfl ?_
  refine wa_getR 87 hC (vs10 hVC) (sr10_0 _) flX10_7 dX10_dividesMonth_84 rfl ?_
  refine wa_bipush 89 hC dX10_dividesMonth_87 kb_7 rfl ?_
  refine wa_ialdr 90 hC (vs27 hVC) ar27 rfl (by decide) dX10_dividesMonth_89 rfl ?_
  refine wa_lload 92 5 hC dX10_dividesMonth_90 2 rfl rfl ?_
  obtain ⟨g_6, h⟩ := gd_some h
  obtain ⟨Z_7, eZ_7, h⟩ := ltb_some h
  refine wa_lastr 93 hC (vs33 hVC) ar33 rfl g_6 eZ_7 dX10_dividesMonth_92 rfl ?_
  refine wa_aload_n 94 0 hC dX10_dividesMonth_93 rfl 0 rfl rfl ?_
  refine wa_lload_n 95 1 hC dX10_dividesMonth_94 rfl 1 rfl rfl ?_
  refine wa_aload_n 96 0 hC dX10_dividesMonth_95 rfl 0 rfl rfl ?_
  refine wa_getR 99 hC (vs10 hVC) (sr10_0 _) flX10_7 dX10_dividesMonth_96 rfl ?_
  refine wa_bipush 101 hC dX10_dividesMonth_99 kb_7 rfl ?_
  refine wa_ialdr 102 hC (vs27 hVC) ar27 rfl (by decide) dX10_dividesMonth_101 rfl ?_
  refine wa_iconst 103 hC dX10_dividesMonth_102 kc_1 rfl ?_
  refine wa_iadd 104 hC dX10_dividesMonth_103 rfl ?_
  refine wa_ldc2 107 hC dX10_dividesMonth_104 lcX10_214 rfl ?_
  refine wa_aload_n 108 0 hC dX10_dividesMonth_107 rfl 0 rfl rfl ?_
  refine wa_getR 111 hC (vs10 hVC) (sr10_0 _) flX10_7 dX10_dividesMonth_108 rfl ?_
  refine wa_iconst 112 hC dX10_dividesMonth_111 kc_0 rfl ?_
  refine wa_ialdr 113 hC (vs27 hVC) ar27 rfl (by decide) dX10_dividesMonth_112 rfl ?_
  refine wa_i2l 114 hC dX10_dividesMonth_113 rfl ?_
  refine wa_lmul 115 hC dX10_dividesMonth_114 rfl ?_
  obtain ⟨Z_10, e_11, h⟩ := bd_some h
  refine wa_callVv 118 hC [.long x1, .int ((Z_7.1 27 0 0 (7 : Int32).toNatClampNeg) + (1 : Int32)), .long ((30 : Int64) * ((Z_7.1 27 0 0 (0 : Int32).toNatClampNeg).toInt64))] [] knX10_divides mvX10_226 (tX10_divides E.2.1 x1 ((Z_7.1 27 0 0 (7 : Int32).toNatClampNeg) + (1 : Int32)) ((30 : Int64) * ((Z_7.1 27 0 0 (0 : Int32).toNatClampNeg).toInt64)) Z_7 hVC e_11) (vs10 hVC) kc10 (Nat.le_of_ble_eq_true rfl) (Nat.le_of_ble_eq_true rfl) rfl (Nat.le_of_ble_eq_true rfl) dX10_dividesMonth_115 rfl le00 rfl ?_
  exact wa_vret hC hQ (jZ (sm0 h)) dX10_dividesMonth_118
set_option maxRecDepth 20000 in
theorem wX10_worthOf_L5 {E : eU} {G : gU} {ρ : Nat → Nat → Nat} {V : Nat → Nat → Prop} {A : sM} {r : Int64} (x1 : Int32) (Z : sM) {k50 : Int64 → Option (Int64)} (hC : CX E G cX10_worthOf 5 RX10 (some .long) 2 0 0) (hVC : VC V) (hk50 : ∀ (x2 : Int64), k50 x2 = some r → WA E G ρ V 0 0 (J A Z) 50 [(2, .long x2)] []) : ∀ (n : Nat) (x2 : Int64) (x4 : Int32), fX10_worthOf_L5 x1 Z k50 n x2 x4 = some r → WA E G ρ V 0 0 (J A Z) 5 [(0, .ref (ρ 10 0)), (1, .int x1), (2, .long x2), (4, .int x4)] [] := by
  intro n
  induction n with
  | zero =>
    intro x2 x4 h
    rw [fX10_worthOf_L5] at h
    cases h
  | succ n ih =>
    intro x2 x4 h
    rw [fX10_worthOf_L5] at h
    refine wa_iload 7 4 hC dX10_worthOf_5 3 rfl rfl ?_
    refine wa_aload_n 8 0 hC dX10_worthOf_7 rfl 0 rfl rfl ?_
    refine wa_getR 11 hC (vs10 hVC) (sr10_0 _) flX10_7 dX10_worthOf_8 rfl ?_
    refine wa_iconst 12 hC dX10_worthOf_11 kc_4 rfl ?_
    refine wa_ialdr 13 hC (vs27 hVC) ar27 rfl (by decide) dX10_worthOf_12 rfl ?_
    refine wa_icmp_ge 16 50 hC dX10_worthOf_13 rfl rfl h (fun h => ?_) (fun h => ?_)
    · refine wa_pick [2] rfl ?_
      exact hk50 x2 h
    · refine wa_lload_n 17 2 hC dX10_worthOf_16 rfl 2 rfl rfl ?_
      refine wa_aload_n 18 0 hC dX10_worthOf_17 rfl 0 rfl rfl ?_
      refine wa_getR 21 hC (vs10 hVC) (sr10_0 _) flX10_7 dX10_worthOf_18 rfl ?_
      refine wa_aload_n 22 0 hC dX10_worthOf_21 rfl 0 rfl rfl ?_
      refine wa_iload_n 23 1 hC dX10_worthOf_22 rfl 1 rfl rfl ?_
      refine wa_iload 25 4 hC dX10_worthOf_23 3 rfl rfl ?_
      obtain ⟨r_2, e_7, h⟩ := bd_some h
      refine wa_callVi 28 hC [.int x1, .int x4] [.ref (ρ 27 0), .long x2] knX10_generatedAt mvX10_221 (tX10_generatedAt E.2.1 x1 x4 Z hVC e_7) (vs10 hVC) kc10 (Nat.le_of_ble_eq_true rfl) (Nat.le_of_ble_eq_true rfl) rfl (Nat.le_of_ble_eq_true rfl) dX10_worthOf_25 rfl le00 rfl ?_
      obtain ⟨g_3, h⟩ := gd_some h
      refine wa_ialdr 29 hC (vs27 hVC) ar27 rfl g_3 dX10_worthOf_28 rfl ?_
      refine wa_i2l 30 hC dX10_worthOf_29 rfl ?_
      refine wa_aload_n 31 0 hC dX10_worthOf_30 rfl 0 rfl rfl ?_
      refine wa_getR 34 hC (vs10 hVC) (sr10_0 _) flX10_7 dX10_worthOf_31 rfl ?_
      refine wa_bipush 36 hC dX10_worthOf_34 kb_32 rfl ?_
      refine wa_iload 38 4 hC dX10_worthOf_36 3 rfl rfl ?_
      refine wa_iadd 39 hC dX10_worthOf_38 rfl ?_
      obtain ⟨g_4, h⟩ := gd_some h
      refine wa_ialdr 40 hC (vs27 hVC) ar27 rfl g_4 dX10_worthOf_39 rfl ?_
      refine wa_i2l 41 hC dX10_worthOf_40 rfl ?_
      refine wa_lmul 42 hC dX10_worthOf_41 rfl ?_
      refine wa_ladd 43 hC dX10_worthOf_42 rfl ?_
      obtain ⟨x2_5, ex2_5, h⟩ := ltb_some h
      refine wa_lstore_n (lv' := [(2, .long x2_5), (0, .ref (ρ 10 0)), (1, .int x1), (4, .int x4)]) 44 2 hC dX10_worthOf_43 rfl ex2_5 (by decide) rfl rfl ?_
      obtain ⟨x4_6, ex4_6, h⟩ := ltb_some h
      refine wa_iinc (lv' := [(4, .int x4_6), (2, .long x2_5), (0, .ref (ρ 10 0)), (1, .int x1)]) 47 4 hC dX10_worthOf_44 3 rfl (by rw [kc_1]; exact ex4_6) (by decide) rfl rfl ?_
      refine wa_goto 5 hC dX10_worthOf_47 rfl ?_
      refine wa_pick [2, 3, 1, 0] rfl ?_
      exact ih x2_5 x4_6 h
set_option maxRecDepth 20000 in
theorem tX10_worthOf (l : Launch) {G : gU} {ρ : Nat → Nat → Nat} {V : Nat → Nat → Prop} {A : sM} (x1 : Int32) (Z : sM) (_ : VC V) {r : Int64} (h : fX10_worthOf x1 Z = some r) : MT l yX10_worthOf cX10_worthOf 5 (some .long) 2 G ρ V [.ref (ρ 10 0), .int x1] (J A Z) (some (.long r)) (J A Z) := by
  refine vv_enter (lv := [(0, .ref (ρ 10 0)), (1, .int x1)]) RX10 rfl (by decide) (Nat.le_of_ble_eq_true rfl) rfl ?_
  intro E hE hC hQ hVC
  subst hE
  rw [fX10_worthOf] at h
  refine wa_lconst 1 hC dX10_worthOf_0 kl_0 rfl ?_
  refine wa_lstore_n (lv' := [(2, .long (0 : Int64)), (0, .ref (ρ 10 0)), (1, .int x1)]) 2 2 hC dX10_worthOf_1 rfl rfl (by decide) rfl rfl ?_
  refine wa_iconst 3 hC dX10_worthOf_2 kc_0 rfl ?_
  refine wa_istore (lv' := [(4, .int (0 : Int32)), (2, .long (0 : Int64)), (0, .ref (ρ 10 0)), (1, .int x1)]) 5 4 hC dX10_worthOf_3 rfl (by decide) rfl rfl ?_
  refine wa_pick [2, 3, 1, 0] rfl ?_
  refine wX10_worthOf_L5 x1 Z hC hVC (fun x2_1 h => ?_) 10000 (0 : Int64) (0 : Int32) h
  refine wa_lload_n 51 2 hC dX10_worthOf_50 rfl 0 rfl rfl ?_
  exact wa_lret hC hQ (sm0 h) rfl dX10_worthOf_51
set_option maxRecDepth 20000 in
theorem wX10_isNext_L13 {E : eU} {G : gU} {ρ : Nat → Nat → Nat} {V : Nat → Nat → Prop} {A : sM} {r : Int32} (x1 : Int32) (Z : sM) {k43 : Option (Int32)} {k51 : Option (Int32)} (hC : CX E G cX10_isNext 3 RX10 (some .boolean) 2 0 0) (hVC : VC V) (hk43 : k43 = some r → WA E G ρ V 0 0 (J A Z) 43 [] []) (hk51 : k51 = some r → WA E G ρ V 0 0 (J A Z) 51 [] []) : ∀ (n : Nat) (x2 : Int32), fX10_isNext_L13 x1 Z k43 k51 n x2 = some r → WA E G ρ V 0 0 (J A Z) 13 [(0, .ref (ρ 10 0)), (1, .int x1), (2, .int x2)] [] := by
  intro n
  induction n with
  | zero =>
    intro x2 h
    rw [fX10_isNext_L13] at h
    cases h
  | succ n ih =>
    intro x2 h
    rw [fX10_isNext_L13] at h
    refine wa_iload_n 14 2 hC dX10_isNext_13 rfl 2 rfl rfl ?_
    refine wa_aload_n 15 0 hC dX10_isNext_14 rfl 0 rfl rfl ?_
    refine wa_getR 18 hC (vs10 hVC) (sr10_0 _) flX10_7 dX10_isNext_15 rfl ?_
    refine wa_bipush 20 hC dX10_isNext_18 kb_7 rfl ?_
    refine wa_ialdr 21 hC (vs27 hVC) ar27 rfl (by decide) dX10_isNext_20 rfl ?_
    refine wa_icmp_ge 24 51 hC dX10_isNext_21 rfl rfl h (fun h => ?_) (fun h => ?_)
    · refine wa_pick [] rfl ?_
      exact hk51 h
    · refine wa_aload_n 25 0 hC dX10_isNext_24 rfl 0 rfl rfl ?_
      refine wa_iload_n 26 2 hC dX10_isNext_25 rfl 2 rfl rfl ?_
      refine wa_iconst 27 hC dX10_isNext_26 kc_5 rfl ?_
      obtain ⟨r_2, e_6, h⟩ := bd_some h
      refine wa_callVi 30 hC [.int x2, .int (5 : Int32)] [] knX10_ofMember mvX10_169 (tX10_ofMember E.2.1 x2 (5 : Int32) Z hVC e_6) (vs10 hVC) kc10 (Nat.le_of_ble_eq_true rfl) (Nat.le_of_ble_eq_true rfl) rfl (Nat.le_of_ble_eq_true rfl) dX10_isNext_27 rfl le00 rfl ?_
      refine wa_iload_n 31 1 hC dX10_isNext_30 rfl 1 rfl rfl ?_
      obtain ⟨kj_3, ekj_3, h⟩ := ltb_some h
      have hkj_3 : kj_3 = some r → WA E G ρ V 0 0 (J A Z) 45 [(0, .ref (ρ 10 0)), (1, .int x1), (2, .int x2)] [] := by
        intro h
        rw [ekj_3] at h
        obtain ⟨x2_4, ex2_4, h⟩ := ltb_some h
        refine wa_iinc (lv' := [(2, .int x2_4), (0, .ref (ρ 10 0)), (1, .int x1)]) 48 2 hC dX10_isNext_45 2 rfl (by rw [kc_1]; exact ex2_4) (by decide) rfl rfl ?_
        refine wa_goto 13 hC dX10_isNext_48 rfl ?_
        refine wa_pick [1, 2, 0] rfl ?_
        exact ih x2_4 h
      clear ekj_3
      refine wa_icmp_ne 34 45 hC dX10_isNext_31 rfl rfl h (fun h => ?_) (fun h => ?_)
      · exact hkj_3 h
      · refine wa_aload_n 35 0 hC dX10_isNext_34 rfl 0 rfl rfl ?_
        refine wa_getR 38 hC (vs10 hVC) (sr10_22 _) flX10_49 dX10_isNext_35 rfl ?_
        refine wa_iload_n 39 2 hC dX10_isNext_38 rfl 2 rfl rfl ?_
        obtain ⟨g_5, h⟩ := gd_some h
        refine wa_zaldr 40 hC (vs38 hVC) ar38 rfl g_5 dX10_isNext_39 rfl ?_
        refine wa_if_ne 43 45 hC dX10_isNext_40 rfl rfl h (fun h => ?_) (fun h => ?_)
        · exact hkj_3 h
        · refine wa_pick [] rfl ?_
          exact hk43 h
set_option maxRecDepth 20000 in
theorem tX10_isNext (l : Launch) {G : gU} {ρ : Nat → Nat → Nat} {V : Nat → Nat → Prop} {A : sM} (x1 : Int32) (Z : sM) (_ : VC V) {r : Int32} (h : fX10_isNext x1 Z = some r) : MT l yX10_isNext cX10_isNext 3 (some .boolean) 2 G ρ V [.ref (ρ 10 0), .int x1] (J A Z) (some (.int r)) (J A Z) := by
  refine vv_enter (lv := [(0, .ref (ρ 10 0)), (1, .int x1)]) RX10 rfl (by decide) (Nat.le_of_ble_eq_true rfl) rfl ?_
  intro E hE hC hQ hVC
  subst hE
  rw [fX10_isNext] at h
  refine wa_aload_n 1 0 hC dX10_isNext_0 rfl 0 rfl rfl ?_
  refine wa_getR 4 hC (vs10 hVC) (sr10_22 _) flX10_49 dX10_isNext_1 rfl ?_
  refine wa_iload_n 5 1 hC dX10_isNext_4 rfl 1 rfl rfl ?_
  obtain ⟨g_1, h⟩ := gd_some h
  refine wa_zaldr 6 hC (vs38 hVC) ar38 rfl g_1 dX10_isNext_5 rfl ?_
  refine wa_if_eq 9 11 hC dX10_isNext_6 rfl rfl h (fun h => ?_) (fun h => ?_)
  · refine wa_iconst 12 hC dX10_isNext_11 kc_0 rfl ?_
    refine wa_istore_n (lv' := [(2, .int (0 : Int32)), (0, .ref (ρ 10 0)), (1, .int x1)]) 13 2 hC dX10_isNext_12 rfl rfl (by decide) rfl rfl ?_
    refine wa_pick [1, 2, 0] rfl ?_
    refine wX10_isNext_L13 x1 Z hC hVC (fun h => ?_) (fun h => ?_) 10000 (0 : Int32) h
    · refine wa_iconst 44 hC dX10_isNext_43 kc_0 rfl ?_
      exact wa_zret hC hQ (sm0 h) rfl rfl dX10_isNext_44
    · refine wa_iconst 52 hC dX10_isNext_51 kc_1 rfl ?_
      exact wa_zret hC hQ (sm0 h) rfl rfl dX10_isNext_52
  · refine wa_iconst 10 hC dX10_isNext_9 kc_0 rfl ?_
    exact wa_zret hC hQ (sm0 h) rfl rfl dX10_isNext_10
set_option maxRecDepth 20000 in
theorem wX10_passesOn_L2 {E : eU} {G : gU} {ρ : Nat → Nat → Nat} {V : Nat → Nat → Prop} {A : sM} {Z' : sM} {k26 : sM → Option (sM)} (hC : CX E G cX10_passesOn 6 RX10 none 3 0 0) (hVC : VC V) (hk26 : ∀ (Z : sM), k26 Z = some Z' → WA E G ρ V 0 0 (J A Z) 26 [(0, .ref (ρ 10 0))] []) : ∀ (n : Nat) (x1 : Int32) (Z : sM), fX10_passesOn_L2 k26 n x1 Z = some Z' → WA E G ρ V 0 0 (J A Z) 2 [(0, .ref (ρ 10 0)), (1, .int x1)] [] := by
  intro n
  induction n with
  | zero =>
    intro x1 Z h
    rw [fX10_passesOn_L2] at h
    cases h
  | succ n ih =>
    intro x1 Z h
    rw [fX10_passesOn_L2] at h
    refine wa_iload_n 3 1 hC dX10_passesOn_2 rfl 1 rfl rfl ?_
    refine wa_aload_n 4 0 hC dX10_passesOn_3 rfl 0 rfl rfl ?_
    refine wa_getR 7 hC (vs10 hVC) (sr10_0 _) flX10_7 dX10_passesOn_4 rfl ?_
    refine wa_bipush 9 hC dX10_passesOn_7 kb_7 rfl ?_
    refine wa_ialdr 10 hC (vs27 hVC) ar27 rfl (by decide) dX10_passesOn_9 rfl ?_
    refine wa_icmp_ge 13 26 hC dX10_passesOn_10 rfl rfl h (fun h => ?_) (fun h => ?_)
    · refine wa_pick [0] rfl ?_
      exact hk26 Z h
    · refine wa_aload_n 14 0 hC dX10_passesOn_13 rfl 0 rfl rfl ?_
      refine wa_getR 17 hC (vs10 hVC) (sr10_22 _) flX10_49 dX10_passesOn_14 rfl ?_
      refine wa_iload_n 18 1 hC dX10_passesOn_17 rfl 1 rfl rfl ?_
      refine wa_iconst 19 hC dX10_passesOn_18 kc_0 rfl ?_
      obtain ⟨g_2, h⟩ := gd_some h
      obtain ⟨Z_3, eZ_3, h⟩ := ltb_some h
      refine wa_zastr 20 hC (vs38 hVC) nk38 ar38 rfl g_2 rfl eZ_3 dX10_passesOn_19 rfl ?_
      obtain ⟨x1_4, ex1_4, h⟩ := ltb_some h
      refine wa_iinc (lv' := [(1, .int x1_4), (0, .ref (ρ 10 0))]) 23 1 hC dX10_passesOn_20 1 rfl (by rw [kc_1]; exact ex1_4) (by decide) rfl rfl ?_
      refine wa_goto 2 hC dX10_passesOn_23 rfl ?_
      refine wa_pick [1, 0] rfl ?_
      exact ih x1_4 Z_3 h
set_option maxRecDepth 20000 in
theorem wX10_passesOn_L41 {E : eU} {G : gU} {ρ : Nat → Nat → Nat} {V : Nat → Nat → Prop} {A : sM} {Z' : sM} (x1 : Int32) (Z : sM) {k55 : Int32 → Option (sM)} (hC : CX E G cX10_passesOn 6 RX10 none 3 0 0) (hVC : VC V) (hk55 : ∀ (x2 : Int32), k55 x2 = some Z' → WA E G ρ V 0 0 (J A Z) 55 [(0, .ref (ρ 10 0)), (1, .int x1), (2, .int x2)] []) : ∀ (n : Nat) (x2 : Int32), fX10_passesOn_L41 x1 Z k55 n x2 = some Z' → WA E G ρ V 0 0 (J A Z) 41 [(0, .ref (ρ 10 0)), (1, .int x1), (2, .int x2)] [] := by
  intro n
  induction n with
  | zero =>
    intro x2 h
    rw [fX10_passesOn_L41] at h
    cases h
  | succ n ih =>
    intro x2 h
    rw [fX10_passesOn_L41] at h
    refine wa_aload_n 42 0 hC dX10_passesOn_41 rfl 0 rfl rfl ?_
    refine wa_iload_n 43 2 hC dX10_passesOn_42 rfl 2 rfl rfl ?_
    obtain ⟨r_1, e_3, h⟩ := bd_some h
    refine wa_callVi 46 hC [.int x2] [] knX10_isNext mvX10_230 (tX10_isNext E.2.1 x2 Z hVC e_3) (vs10 hVC) kc10 (Nat.le_of_ble_eq_true rfl) (Nat.le_of_ble_eq_true rfl) rfl (Nat.le_of_ble_eq_true rfl) dX10_passesOn_43 rfl le00 rfl ?_
    refine wa_if_ne 49 55 hC dX10_passesOn_46 rfl rfl h (fun h => ?_) (fun h => ?_)
    · exact hk55 x2 h
    · obtain ⟨x2_2, ex2_2, h⟩ := ltb_some h
      refine wa_iinc (lv' := [(2, .int x2_2), (0, .ref (ρ 10 0)), (1, .int x1)]) 52 2 hC dX10_passesOn_49 2 rfl (by rw [kc_1]; exact ex2_2) (by decide) rfl rfl ?_
      refine wa_goto 41 hC dX10_passesOn_52 rfl ?_
      refine wa_pick [1, 2, 0] rfl ?_
      exact ih x2_2 h
set_option maxRecDepth 20000 in
theorem wX10_passesOn_L28 {E : eU} {G : gU} {ρ : Nat → Nat → Nat} {V : Nat → Nat → Prop} {A : sM} {Z' : sM} {k126 : sM → Option (sM)} (hC : CX E G cX10_passesOn 6 RX10 none 3 0 0) (hVC : VC V) (hk126 : ∀ (Z : sM), k126 Z = some Z' → WA E G ρ V 0 0 (J A Z) 126 [] []) : ∀ (n : Nat) (x1 : Int32) (Z : sM), fX10_passesOn_L28 k126 n x1 Z = some Z' → WA E G ρ V 0 0 (J A Z) 28 [(0, .ref (ρ 10 0)), (1, .int x1)] [] := by
  intro n
  induction n with
  | zero =>
    intro x1 Z h
    rw [fX10_passesOn_L28] at h
    cases h
  | succ n ih =>
    intro x1 Z h
    rw [fX10_passesOn_L28] at h
    refine wa_iload_n 29 1 hC dX10_passesOn_28 rfl 1 rfl rfl ?_
    refine wa_aload_n 30 0 hC dX10_passesOn_29 rfl 0 rfl rfl ?_
    refine wa_getR 33 hC (vs10 hVC) (sr10_0 _) flX10_7 dX10_passesOn_30 rfl ?_
    refine wa_bipush 35 hC dX10_passesOn_33 kb_7 rfl ?_
    refine wa_ialdr 36 hC (vs27 hVC) ar27 rfl (by decide) dX10_passesOn_35 rfl ?_
    refine wa_icmp_ge 39 126 hC dX10_passesOn_36 rfl rfl h (fun h => ?_) (fun h => ?_)
    · refine wa_pick [] rfl ?_
      exact hk126 Z h
    · refine wa_iconst 40 hC dX10_passesOn_39 kc_0 rfl ?_
      refine wa_istore_n (lv' := [(2, .int (0 : Int32)), (0, .ref (ρ 10 0)), (1, .int x1)]) 41 2 hC dX10_passesOn_40 rfl rfl (by decide) rfl rfl ?_
      refine wa_pick [1, 2, 0] rfl ?_
      refine wX10_passesOn_L41 x1 Z hC hVC (fun x2_2 h => ?_) 10000 (0 : Int32) h
      refine wa_aload_n 56 0 hC dX10_passesOn_55 rfl 0 rfl rfl ?_
      refine wa_getR 59 hC (vs10 hVC) (sr10_22 _) flX10_49 dX10_passesOn_56 rfl ?_
      refine wa_iload_n 60 2 hC dX10_passesOn_59 rfl 2 rfl rfl ?_
      refine wa_iconst 61 hC dX10_passesOn_60 kc_1 rfl ?_
      obtain ⟨g_3, h⟩ := gd_some h
      obtain ⟨Z_4, eZ_4, h⟩ := ltb_some h
      refine wa_zastr 62 hC (vs38 hVC) nk38 ar38 rfl g_3 rfl eZ_4 dX10_passesOn_61 rfl ?_
      refine wa_aload_n 63 0 hC dX10_passesOn_62 rfl 0 rfl rfl ?_
      refine wa_iload_n 64 2 hC dX10_passesOn_63 rfl 2 rfl rfl ?_
      refine wa_iconst 65 hC dX10_passesOn_64 kc_5 rfl ?_
      obtain ⟨r_5, e_19, h⟩ := bd_some h
      refine wa_callVi 68 hC [.int x2_2, .int (5 : Int32)] [] knX10_ofMember mvX10_169 (tX10_ofMember E.2.1 x2_2 (5 : Int32) Z_4 hVC e_19) (vs10 hVC) kc10 (Nat.le_of_ble_eq_true rfl) (Nat.le_of_ble_eq_true rfl) rfl (Nat.le_of_ble_eq_true rfl) dX10_passesOn_65 rfl le00 rfl ?_
      refine wa_istore_n (lv' := [(3, .int r_5), (0, .ref (ρ 10 0)), (1, .int x1), (2, .int x2_2)]) 69 3 hC dX10_passesOn_68 rfl rfl (by decide) rfl rfl ?_
      refine wa_iload_n 70 3 hC dX10_passesOn_69 rfl 0 rfl rfl ?_
      refine wa_iconst 71 hC dX10_passesOn_70 kc_m1 rfl ?_
      obtain ⟨kj_7, ekj_7, h⟩ := ltb_k1 h
      have hkj_7 : ∀ (Z_6 : sM), kj_7 Z_6 = some Z' → WA E G ρ V 0 0 (J A Z_6) 120 [(0, .ref (ρ 10 0)), (1, .int x1)] [] := by
        intro Z_6 h
        rw [ekj_7] at h
        obtain ⟨x1_8, ex1_8, h⟩ := ltb_some h
        refine wa_iinc (lv' := [(1, .int x1_8), (0, .ref (ρ 10 0))]) 123 1 hC dX10_passesOn_120 1 rfl (by rw [kc_1]; exact ex1_8) (by decide) rfl rfl ?_
        refine wa_goto 28 hC dX10_passesOn_123 rfl ?_
        refine wa_pick [1, 0] rfl ?_
        exact ih x1_8 Z_6 h
      clear ekj_7
      refine wa_icmp_ne 74 77 hC dX10_passesOn_71 rfl rfl h (fun h => ?_) (fun h => ?_)
      · refine wa_aload_n 78 0 hC dX10_passesOn_77 rfl 1 rfl rfl ?_
        refine wa_getR 81 hC (vs10 hVC) (sr10_21 _) flX10_46 dX10_passesOn_78 rfl ?_
        refine wa_iload_n 82 2 hC dX10_passesOn_81 rfl 3 rfl rfl ?_
        obtain ⟨g_9, h⟩ := gd_some h
        refine wa_laldr 83 hC (vs37 hVC) ar37 rfl g_9 dX10_passesOn_82 rfl ?_
        refine wa_aload_n 84 0 hC dX10_passesOn_83 rfl 1 rfl rfl ?_
        refine wa_iload_n 85 2 hC dX10_passesOn_84 rfl 3 rfl rfl ?_
        refine wa_bipush 87 hC dX10_passesOn_85 kb_6 rfl ?_
        obtain ⟨r_10, e_18, h⟩ := bd_some h
        refine wa_callVi 90 hC [.int x2_2, .int (6 : Int32)] [.long (Z_4.2 37 0 0 x2_2.toNatClampNeg)] knX10_ofMember mvX10_169 (tX10_ofMember E.2.1 x2_2 (6 : Int32) Z_4 hVC e_18) (vs10 hVC) kc10 (Nat.le_of_ble_eq_true rfl) (Nat.le_of_ble_eq_true rfl) rfl (Nat.le_of_ble_eq_true rfl) dX10_passesOn_87 rfl le00 rfl ?_
        refine wa_i2l 91 hC dX10_passesOn_90 rfl ?_
        refine wa_lmul 92 hC dX10_passesOn_91 rfl ?_
        refine wa_ldc2 95 hC dX10_passesOn_92 lcX10_160 rfl ?_
        refine wa_ldiv 96 hC dX10_passesOn_95 (by decide) rfl ?_
        obtain ⟨x4_11, ex4_11, h⟩ := ltb_some h
        refine wa_lstore (lv' := [(4, .long x4_11), (3, .int r_5), (0, .ref (ρ 10 0)), (1, .int x1), (2, .int x2_2)]) 98 4 hC dX10_passesOn_96 ex4_11 (by decide) rfl rfl ?_
        refine wa_aload_n 99 0 hC dX10_passesOn_98 rfl 2 rfl rfl ?_
        refine wa_getR 102 hC (vs10 hVC) (sr10_21 _) flX10_46 dX10_passesOn_99 rfl ?_
        refine wa_iload_n 103 2 hC dX10_passesOn_102 rfl 4 rfl rfl ?_
        refine wa_dup2 104 hC dX10_passesOn_103 rfl rfl rfl ?_
        obtain ⟨g_12, h⟩ := gd_some h
        refine wa_laldr 105 hC (vs37 hVC) ar37 rfl g_12 dX10_passesOn_104 rfl ?_
        refine wa_lload 107 4 hC dX10_passesOn_105 0 rfl rfl ?_
        refine wa_lsub 108 hC dX10_passesOn_107 rfl ?_
        obtain ⟨g_13, h⟩ := gd_some h
        obtain ⟨Z_14, eZ_14, h⟩ := ltb_some h
        refine wa_lastr 109 hC (vs37 hVC) ar37 rfl g_13 eZ_14 dX10_passesOn_108 rfl ?_
        refine wa_aload_n 110 0 hC dX10_passesOn_109 rfl 2 rfl rfl ?_
        refine wa_getR 113 hC (vs10 hVC) (sr10_21 _) flX10_46 dX10_passesOn_110 rfl ?_
        refine wa_iload_n 114 3 hC dX10_passesOn_113 rfl 1 rfl rfl ?_
        refine wa_dup2 115 hC dX10_passesOn_114 rfl rfl rfl ?_
        obtain ⟨g_15, h⟩ := gd_some h
        refine wa_laldr 116 hC (vs37 hVC) ar37 rfl g_15 dX10_passesOn_115 rfl ?_
        refine wa_lload 118 4 hC dX10_passesOn_116 0 rfl rfl ?_
        refine wa_ladd 119 hC dX10_passesOn_118 rfl ?_
        obtain ⟨g_16, h⟩ := gd_some h
        obtain ⟨Z_17, eZ_17, h⟩ := ltb_some h
        refine wa_lastr 120 hC (vs37 hVC) ar37 rfl g_16 eZ_17 dX10_passesOn_119 rfl ?_
        refine wa_pick [2, 3] rfl ?_
        exact hkj_7 Z_17 h
      · refine wa_goto 120 hC dX10_passesOn_74 rfl ?_
        refine wa_pick [1, 2] rfl ?_
        exact hkj_7 Z_4 h
set_option maxRecDepth 20000 in
theorem tX10_passesOn (l : Launch) {G : gU} {ρ : Nat → Nat → Nat} {V : Nat → Nat → Prop} {A : sM} (Z : sM) (_ : VC V) {Z' : sM} (h : fX10_passesOn Z = some Z') : MT l yX10_passesOn cX10_passesOn 6 none 3 G ρ V [.ref (ρ 10 0)] (J A Z) none (J A Z') := by
  refine vv_enter (lv := [(0, .ref (ρ 10 0))]) RX10 rfl (by decide) (Nat.le_of_ble_eq_true rfl) rfl ?_
  intro E hE hC hQ hVC
  subst hE
  rw [fX10_passesOn] at h
  refine wa_iconst 1 hC dX10_passesOn_0 kc_0 rfl ?_
  refine wa_istore_n (lv' := [(1, .int (0 : Int32)), (0, .ref (ρ 10 0))]) 2 1 hC dX10_passesOn_1 rfl rfl (by decide) rfl rfl ?_
  refine wa_pick [1, 0] rfl ?_
  refine wX10_passesOn_L2 hC hVC (fun Z_1 h => ?_) 10000 (0 : Int32) Z h
  refine wa_iconst 27 hC dX10_passesOn_26 kc_0 rfl ?_
  refine wa_istore_n (lv' := [(1, .int (0 : Int32)), (0, .ref (ρ 10 0))]) 28 1 hC dX10_passesOn_27 rfl rfl (by decide) rfl rfl ?_
  refine wa_pick [1, 0] rfl ?_
  refine wX10_passesOn_L28 hC hVC (fun Z_2 h => ?_) 10000 (0 : Int32) Z_1 h
  exact wa_vret hC hQ (jZ (sm0 h)) dX10_passesOn_126
set_option maxRecDepth 20000 in
theorem tX10_ends (l : Launch) {G : gU} {ρ : Nat → Nat → Nat} {V : Nat → Nat → Prop} {A : sM} (x1 : Int32) (Z : sM) (_ : VC V) {Z' : sM} (h : fX10_ends x1 Z = some Z') : MT l yX10_ends cX10_ends 6 none 3 G ρ V [.ref (ρ 10 0), .int x1] (J A Z) none (J A Z') := by
  refine vv_enter (lv := [(0, .ref (ρ 10 0)), (1, .int x1)]) RX10 rfl (by decide) (Nat.le_of_ble_eq_true rfl) rfl ?_
  intro E hE hC hQ hVC
  subst hE
  rw [fX10_ends] at h
  refine wa_aload_n 1 0 hC dX10_ends_0 rfl 0 rfl rfl ?_
  refine wa_iload_n 2 1 hC dX10_ends_1 rfl 1 rfl rfl ?_
  refine wa_aload_n 3 0 hC dX10_ends_2 rfl 0 rfl rfl ?_
  refine wa_getR 6 hC (vs10 hVC) (sr10_21 _) flX10_46 dX10_ends_3 rfl ?_
  refine wa_iload_n 7 1 hC dX10_ends_6 rfl 1 rfl rfl ?_
  obtain ⟨g_1, h⟩ := gd_some h
  refine wa_laldr 8 hC (vs37 hVC) ar37 rfl g_1 dX10_ends_7 rfl ?_
  obtain ⟨Z_2, e_43, h⟩ := bd_some h
  refine wa_callVv 11 hC [.int x1, .long (Z.2 37 0 0 x1.toNatClampNeg)] [] knX10_credits mvX10_233 (tX10_credits E.2.1 x1 (Z.2 37 0 0 x1.toNatClampNeg) Z hVC e_43) (vs10 hVC) kc10 (Nat.le_of_ble_eq_true rfl) (Nat.le_of_ble_eq_true rfl) rfl (Nat.le_of_ble_eq_true rfl) dX10_ends_8 rfl le00 rfl ?_
  refine wa_aload_n 12 0 hC dX10_ends_11 rfl 0 rfl rfl ?_
  refine wa_iload_n 13 1 hC dX10_ends_12 rfl 1 rfl rfl ?_
  refine wa_iconst 14 hC dX10_ends_13 kc_1 rfl ?_
  obtain ⟨r_3, e_42, h⟩ := bd_some h
  refine wa_callVi 17 hC [.int x1, .int (1 : Int32)] [] knX10_accountAt mvX10_197 (tX10_accountAt E.2.1 x1 (1 : Int32) Z_2 hVC e_42) (vs10 hVC) kc10 (Nat.le_of_ble_eq_true rfl) (Nat.le_of_ble_eq_true rfl) rfl (Nat.le_of_ble_eq_true rfl) dX10_ends_14 rfl le00 rfl ?_
  refine wa_istore_n (lv' := [(2, .int r_3), (0, .ref (ρ 10 0)), (1, .int x1)]) 18 2 hC dX10_ends_17 rfl rfl (by decide) rfl rfl ?_
  refine wa_aload_n 19 0 hC dX10_ends_18 rfl 1 rfl rfl ?_
  refine wa_iload_n 20 1 hC dX10_ends_19 rfl 2 rfl rfl ?_
  refine wa_aload_n 21 0 hC dX10_ends_20 rfl 1 rfl rfl ?_
  refine wa_getR 24 hC (vs10 hVC) (sr10_3 _) flX10_19 dX10_ends_21 rfl ?_
  refine wa_iload_n 25 2 hC dX10_ends_24 rfl 0 rfl rfl ?_
  obtain ⟨g_4, h⟩ := gd_some h
  refine wa_laldr 26 hC (vs30 hVC) ar30 rfl g_4 dX10_ends_25 rfl ?_
  refine wa_iconst 27 hC dX10_ends_26 kc_0 rfl ?_
  obtain ⟨r_6, Z_5, e_41, h⟩ := bd2_some h
  refine wa_callVl 30 hC [.int x1, .long (Z_2.2 30 0 0 r_3.toNatClampNeg), .int (0 : Int32)] [] knX10_takesLots mvX10_200 (tX10_takesLots E.2.1 x1 (Z_2.2 30 0 0 r_3.toNatClampNeg) (0 : Int32) Z_2 hVC e_41) (vs10 hVC) kc10 (Nat.le_of_ble_eq_true rfl) (Nat.le_of_ble_eq_true rfl) rfl (Nat.le_of_ble_eq_true rfl) dX10_ends_27 rfl le00 rfl ?_
  refine wa_lstore_n (lv' := [(3, .long r_6), (2, .int r_3), (0, .ref (ρ 10 0)), (1, .int x1)]) 31 3 hC dX10_ends_30 rfl rfl (by decide) rfl rfl ?_
  refine wa_aload_n 32 0 hC dX10_ends_31 rfl 2 rfl rfl ?_
  refine wa_getR 35 hC (vs10 hVC) (sr10_3 _) flX10_19 dX10_ends_32 rfl ?_
  refine wa_aload_n 36 0 hC dX10_ends_35 rfl 2 rfl rfl ?_
  refine wa_iload_n 37 1 hC dX10_ends_36 rfl 3 rfl rfl ?_
  refine wa_iconst 38 hC dX10_ends_37 kc_4 rfl ?_
  obtain ⟨r_7, e_40, h⟩ := bd_some h
  refine wa_callVi 41 hC [.int x1, .int (4 : Int32)] [.ref (ρ 30 0)] knX10_accountAt mvX10_197 (tX10_accountAt E.2.1 x1 (4 : Int32) Z_5 hVC e_40) (vs10 hVC) kc10 (Nat.le_of_ble_eq_true rfl) (Nat.le_of_ble_eq_true rfl) rfl (Nat.le_of_ble_eq_true rfl) dX10_ends_38 rfl le00 rfl ?_
  refine wa_dup2 42 hC dX10_ends_41 rfl rfl rfl ?_
  obtain ⟨g_8, h⟩ := gd_some h
  refine wa_laldr 43 hC (vs30 hVC) ar30 rfl g_8 dX10_ends_42 rfl ?_
  refine wa_aload_n 44 0 hC dX10_ends_43 rfl 2 rfl rfl ?_
  refine wa_getR 47 hC (vs10 hVC) (sr10_3 _) flX10_19 dX10_ends_44 rfl ?_
  refine wa_iload_n 48 2 hC dX10_ends_47 rfl 1 rfl rfl ?_
  obtain ⟨g_9, h⟩ := gd_some h
  refine wa_laldr 49 hC (vs30 hVC) ar30 rfl g_9 dX10_ends_48 rfl ?_
  refine wa_lload_n 50 3 hC dX10_ends_49 rfl 0 rfl rfl ?_
  refine wa_lsub 51 hC dX10_ends_50 rfl ?_
  refine wa_ladd 52 hC dX10_ends_51 rfl ?_
  obtain ⟨g_10, h⟩ := gd_some h
  obtain ⟨Z_11, eZ_11, h⟩ := ltb_some h
  refine wa_lastr 53 hC (vs30 hVC) ar30 rfl g_10 eZ_11 dX10_ends_52 rfl ?_
  refine wa_aload_n 54 0 hC dX10_ends_53 rfl 2 rfl rfl ?_
  refine wa_getR 57 hC (vs10 hVC) (sr10_3 _) flX10_19 dX10_ends_54 rfl ?_
  refine wa_aload_n 58 0 hC dX10_ends_57 rfl 2 rfl rfl ?_
  refine wa_iload_n 59 1 hC dX10_ends_58 rfl 3 rfl rfl ?_
  refine wa_iconst 60 hC dX10_ends_59 kc_2 rfl ?_
  obtain ⟨r_12, e_39, h⟩ := bd_some h
  refine wa_callVi 63 hC [.int x1, .int (2 : Int32)] [.ref (ρ 30 0)] knX10_accountAt mvX10_197 (tX10_accountAt E.2.1 x1 (2 : Int32) Z_11 hVC e_39) (vs10 hVC) kc10 (Nat.le_of_ble_eq_true rfl) (Nat.le_of_ble_eq_true rfl) rfl (Nat.le_of_ble_eq_true rfl) dX10_ends_60 rfl le00 rfl ?_
  refine wa_dup2 64 hC dX10_ends_63 rfl rfl rfl ?_
  obtain ⟨g_13, h⟩ := gd_some h
  refine wa_laldr 65 hC (vs30 hVC) ar30 rfl g_13 dX10_ends_64 rfl ?_
  refine wa_lload_n 66 3 hC dX10_ends_65 rfl 0 rfl rfl ?_
  refine wa_ladd 67 hC dX10_ends_66 rfl ?_
  obtain ⟨g_14, h⟩ := gd_some h
  obtain ⟨Z_15, eZ_15, h⟩ := ltb_some h
  refine wa_lastr 68 hC (vs30 hVC) ar30 rfl g_14 eZ_15 dX10_ends_67 rfl ?_
  refine wa_aload_n 69 0 hC dX10_ends_68 rfl 2 rfl rfl ?_
  refine wa_getR 72 hC (vs10 hVC) (sr10_3 _) flX10_19 dX10_ends_69 rfl ?_
  refine wa_iload_n 73 2 hC dX10_ends_72 rfl 1 rfl rfl ?_
  refine wa_lconst 74 hC dX10_ends_73 kl_0 rfl ?_
  obtain ⟨g_16, h⟩ := gd_some h
  obtain ⟨Z_17, eZ_17, h⟩ := ltb_some h
  refine wa_lastr 75 hC (vs30 hVC) ar30 rfl g_16 eZ_17 dX10_ends_74 rfl ?_
  refine wa_aload_n 76 0 hC dX10_ends_75 rfl 2 rfl rfl ?_
  refine wa_getR 79 hC (vs10 hVC) (sr10_0 _) flX10_7 dX10_ends_76 rfl ?_
  refine wa_iconst 80 hC dX10_ends_79 kc_5 rfl ?_
  refine wa_ialdr 81 hC (vs27 hVC) ar27 rfl (by decide) dX10_ends_80 rfl ?_
  refine wa_aload_n 82 0 hC dX10_ends_81 rfl 2 rfl rfl ?_
  refine wa_getR 85 hC (vs10 hVC) (sr10_0 _) flX10_7 dX10_ends_82 rfl ?_
  refine wa_iconst 86 hC dX10_ends_85 kc_1 rfl ?_
  refine wa_ialdr 87 hC (vs27 hVC) ar27 rfl (by decide) dX10_ends_86 rfl ?_
  refine wa_isub 88 hC dX10_ends_87 rfl ?_
  obtain ⟨x5_20, ex5_20, h⟩ := ltb_some h
  refine wa_istore (lv' := [(5, .int x5_20), (3, .long r_6), (2, .int r_3), (0, .ref (ρ 10 0)), (1, .int x1)]) 90 5 hC dX10_ends_88 ex5_20 (by decide) rfl rfl ?_
  refine wa_iload 92 5 hC dX10_ends_90 0 rfl rfl ?_
  refine wa_if_ge 95 96 hC dX10_ends_92 rfl rfl h (fun h => ?_) (fun h => ?_)
  · refine wa_aload_n 97 0 hC dX10_ends_96 rfl 3 rfl rfl ?_
    refine wa_getR 100 hC (vs10 hVC) (sr10_3 _) flX10_19 dX10_ends_97 rfl ?_
    refine wa_iconst 101 hC dX10_ends_100 kc_0 rfl ?_
    refine wa_dup2 102 hC dX10_ends_101 rfl rfl rfl ?_
    refine wa_laldr 103 hC (vs30 hVC) ar30 rfl (by decide) dX10_ends_102 rfl ?_
    refine wa_aload_n 104 0 hC dX10_ends_103 rfl 3 rfl rfl ?_
    refine wa_getR 107 hC (vs10 hVC) (sr10_3 _) flX10_19 dX10_ends_104 rfl ?_
    refine wa_aload_n 108 0 hC dX10_ends_107 rfl 3 rfl rfl ?_
    refine wa_iload_n 109 1 hC dX10_ends_108 rfl 4 rfl rfl ?_
    refine wa_iload 111 5 hC dX10_ends_109 0 rfl rfl ?_
    obtain ⟨r_22, e_38, h⟩ := bd_some h
    refine wa_callVi 114 hC [.int x1, .int x5_20] [.ref (ρ 30 0), .long (Z_17.2 30 0 0 (0 : Int32).toNatClampNeg), .int (0 : Int32), .ref (ρ 30 0)] knX10_lotAt mvX10_194 (tX10_lotAt E.2.1 x1 x5_20 Z_17 hVC e_38) (vs10 hVC) kc10 (Nat.le_of_ble_eq_true rfl) (Nat.le_of_ble_eq_true rfl) rfl (Nat.le_of_ble_eq_true rfl) dX10_ends_111 rfl le00 rfl ?_
    obtain ⟨g_23, h⟩ := gd_some h
    refine wa_laldr 115 hC (vs30 hVC) ar30 rfl g_23 dX10_ends_114 rfl ?_
    refine wa_ladd 116 hC dX10_ends_115 rfl ?_
    obtain ⟨Z_25, eZ_25, h⟩ := ltb_some h
    refine wa_lastr 117 hC (vs30 hVC) ar30 rfl (by decide) eZ_25 dX10_ends_116 rfl ?_
    refine wa_aload_n 118 0 hC dX10_ends_117 rfl 3 rfl rfl ?_
    refine wa_getR 121 hC (vs10 hVC) (sr10_3 _) flX10_19 dX10_ends_118 rfl ?_
    refine wa_aload_n 122 0 hC dX10_ends_121 rfl 3 rfl rfl ?_
    refine wa_iload_n 123 1 hC dX10_ends_122 rfl 4 rfl rfl ?_
    refine wa_iconst 124 hC dX10_ends_123 kc_5 rfl ?_
    obtain ⟨r_26, e_37, h⟩ := bd_some h
    refine wa_callVi 127 hC [.int x1, .int (5 : Int32)] [.ref (ρ 30 0)] knX10_accountAt mvX10_197 (tX10_accountAt E.2.1 x1 (5 : Int32) Z_25 hVC e_37) (vs10 hVC) kc10 (Nat.le_of_ble_eq_true rfl) (Nat.le_of_ble_eq_true rfl) rfl (Nat.le_of_ble_eq_true rfl) dX10_ends_124 rfl le00 rfl ?_
    refine wa_dup2 128 hC dX10_ends_127 rfl rfl rfl ?_
    obtain ⟨g_27, h⟩ := gd_some h
    refine wa_laldr 129 hC (vs30 hVC) ar30 rfl g_27 dX10_ends_128 rfl ?_
    refine wa_aload_n 130 0 hC dX10_ends_129 rfl 3 rfl rfl ?_
    refine wa_getR 133 hC (vs10 hVC) (sr10_3 _) flX10_19 dX10_ends_130 rfl ?_
    refine wa_aload_n 134 0 hC dX10_ends_133 rfl 3 rfl rfl ?_
    refine wa_iload_n 135 1 hC dX10_ends_134 rfl 4 rfl rfl ?_
    refine wa_iload 137 5 hC dX10_ends_135 0 rfl rfl ?_
    obtain ⟨r_28, e_36, h⟩ := bd_some h
    refine wa_callVi 140 hC [.int x1, .int x5_20] [.ref (ρ 30 0), .long (Z_25.2 30 0 0 r_26.toNatClampNeg), .int r_26, .ref (ρ 30 0)] knX10_lotAt mvX10_194 (tX10_lotAt E.2.1 x1 x5_20 Z_25 hVC e_36) (vs10 hVC) kc10 (Nat.le_of_ble_eq_true rfl) (Nat.le_of_ble_eq_true rfl) rfl (Nat.le_of_ble_eq_true rfl) dX10_ends_137 rfl le00 rfl ?_
    obtain ⟨g_29, h⟩ := gd_some h
    refine wa_laldr 141 hC (vs30 hVC) ar30 rfl g_29 dX10_ends_140 rfl ?_
    refine wa_ladd 142 hC dX10_ends_141 rfl ?_
    obtain ⟨g_30, h⟩ := gd_some h
    obtain ⟨Z_31, eZ_31, h⟩ := ltb_some h
    refine wa_lastr 143 hC (vs30 hVC) ar30 rfl g_30 eZ_31 dX10_ends_142 rfl ?_
    refine wa_aload_n 144 0 hC dX10_ends_143 rfl 3 rfl rfl ?_
    refine wa_getR 147 hC (vs10 hVC) (sr10_3 _) flX10_19 dX10_ends_144 rfl ?_
    refine wa_aload_n 148 0 hC dX10_ends_147 rfl 3 rfl rfl ?_
    refine wa_iload_n 149 1 hC dX10_ends_148 rfl 4 rfl rfl ?_
    refine wa_iload 151 5 hC dX10_ends_149 0 rfl rfl ?_
    obtain ⟨r_32, e_35, h⟩ := bd_some h
    refine wa_callVi 154 hC [.int x1, .int x5_20] [.ref (ρ 30 0)] knX10_lotAt mvX10_194 (tX10_lotAt E.2.1 x1 x5_20 Z_31 hVC e_35) (vs10 hVC) kc10 (Nat.le_of_ble_eq_true rfl) (Nat.le_of_ble_eq_true rfl) rfl (Nat.le_of_ble_eq_true rfl) dX10_ends_151 rfl le00 rfl ?_
    refine wa_lconst 155 hC dX10_ends_154 kl_0 rfl ?_
    obtain ⟨g_33, h⟩ := gd_some h
    obtain ⟨Z_34, eZ_34, h⟩ := ltb_some h
    refine wa_lastr 156 hC (vs30 hVC) ar30 rfl g_33 eZ_34 dX10_ends_155 rfl ?_
    exact wa_vret hC hQ (jZ (sm0 h)) dX10_ends_156
  · exact wa_vret hC hQ (jZ (sm0 h)) dX10_ends_95
set_option maxRecDepth 20000 in
theorem wX10_endMonth_L91 {E : eU} {G : gU} {ρ : Nat → Nat → Nat} {V : Nat → Nat → Prop} {A : sM} {r : Int64} {Z' : sM} (x1 : Int64) {k159 : sM → Option (Int64 × sM)} (hC : CX E G cX10_endMonth 4 RX10 (some .long) 4 0 0) (hVC : VC V) (hk159 : ∀ (Z : sM), k159 Z = some (r, Z') → WA E G ρ V 0 0 (J A Z) 159 [(0, .ref (ρ 10 0)), (1, .long x1)] []) : ∀ (n : Nat) (x3 : Int32) (Z : sM), fX10_endMonth_L91 x1 k159 n x3 Z = some (r, Z') → WA E G ρ V 0 0 (J A Z) 91 [(0, .ref (ρ 10 0)), (1, .long x1), (3, .int x3)] [] := by
  intro n
  induction n with
  | zero =>
    intro x3 Z h
    rw [fX10_endMonth_L91] at h
    cases h
  | succ n ih =>
    intro x3 Z h
    rw [fX10_endMonth_L91] at h
    refine wa_iload_n 92 3 hC dX10_endMonth_91 rfl 2 rfl rfl ?_
    refine wa_aload_n 93 0 hC dX10_endMonth_92 rfl 0 rfl rfl ?_
    refine wa_getR 96 hC (vs10 hVC) (sr10_0 _) flX10_7 dX10_endMonth_93 rfl ?_
    refine wa_bipush 98 hC dX10_endMonth_96 kb_7 rfl ?_
    refine wa_ialdr 99 hC (vs27 hVC) ar27 rfl (by decide) dX10_endMonth_98 rfl ?_
    refine wa_icmp_ge 102 159 hC dX10_endMonth_99 rfl rfl h (fun h => ?_) (fun h => ?_)
    · refine wa_pick [0, 1] rfl ?_
      exact hk159 Z h
    · refine wa_aload_n 103 0 hC dX10_endMonth_102 rfl 0 rfl rfl ?_
      refine wa_getR 106 hC (vs10 hVC) (sr10_21 _) flX10_46 dX10_endMonth_103 rfl ?_
      refine wa_iload_n 107 3 hC dX10_endMonth_106 rfl 2 rfl rfl ?_
      refine wa_aload_n 108 0 hC dX10_endMonth_107 rfl 0 rfl rfl ?_
      refine wa_iload_n 109 3 hC dX10_endMonth_108 rfl 2 rfl rfl ?_
      obtain ⟨r_2, e_17, h⟩ := bd_some h
      refine wa_callVi 112 hC [.int x3] [.int x3, .ref (ρ 37 0)] knX10_isActive mvX10_187 (tX10_isActive E.2.1 x3 Z hVC e_17) (vs10 hVC) kc10 (Nat.le_of_ble_eq_true rfl) (Nat.le_of_ble_eq_true rfl) rfl (Nat.le_of_ble_eq_true rfl) dX10_endMonth_109 rfl le00 rfl ?_
      obtain ⟨kj_4, ekj_4, h⟩ := ltb_k1 h
      have hkj_4 : ∀ (v_3 : Int64), kj_4 v_3 = some (r, Z') → WA E G ρ V 0 0 (J A Z) 125 [(0, .ref (ρ 10 0)), (1, .long x1), (3, .int x3)] [.long v_3, .int x3, .ref (ρ 37 0)] := by
        intro v_3 h
        rw [ekj_4] at h
        obtain ⟨g_5, h⟩ := gd_some h
        obtain ⟨Z_6, eZ_6, h⟩ := ltb_some h
        refine wa_lastr 126 hC (vs37 hVC) ar37 rfl g_5 eZ_6 dX10_endMonth_125 rfl ?_
        refine wa_aload_n 127 0 hC dX10_endMonth_126 rfl 0 rfl rfl ?_
        refine wa_getR 130 hC (vs10 hVC) (sr10_3 _) flX10_19 dX10_endMonth_127 rfl ?_
        refine wa_iconst 131 hC dX10_endMonth_130 kc_0 rfl ?_
        refine wa_dup2 132 hC dX10_endMonth_131 rfl rfl rfl ?_
        refine wa_laldr 133 hC (vs30 hVC) ar30 rfl (by decide) dX10_endMonth_132 rfl ?_
        refine wa_aload_n 134 0 hC dX10_endMonth_133 rfl 0 rfl rfl ?_
        refine wa_iload_n 135 3 hC dX10_endMonth_134 rfl 2 rfl rfl ?_
        obtain ⟨r_8, e_15, h⟩ := bd_some h
        refine wa_callVi 138 hC [.int x3] [.long (Z_6.2 30 0 0 (0 : Int32).toNatClampNeg), .int (0 : Int32), .ref (ρ 30 0)] knX10_isActive mvX10_187 (tX10_isActive E.2.1 x3 Z_6 hVC e_15) (vs10 hVC) kc10 (Nat.le_of_ble_eq_true rfl) (Nat.le_of_ble_eq_true rfl) rfl (Nat.le_of_ble_eq_true rfl) dX10_endMonth_135 rfl le00 rfl ?_
        obtain ⟨kj_10, ekj_10, h⟩ := ltb_k1 h
        have hkj_10 : ∀ (v_9 : Int64), kj_10 v_9 = some (r, Z') → WA E G ρ V 0 0 (J A Z_6) 151 [(0, .ref (ρ 10 0)), (1, .long x1), (3, .int x3)] [.long v_9, .long (Z_6.2 30 0 0 (0 : Int32).toNatClampNeg), .int (0 : Int32), .ref (ρ 30 0)] := by
          intro v_9 h
          rw [ekj_10] at h
          refine wa_ladd 152 hC dX10_endMonth_151 rfl ?_
          obtain ⟨Z_12, eZ_12, h⟩ := ltb_some h
          refine wa_lastr 153 hC (vs30 hVC) ar30 rfl (by decide) eZ_12 dX10_endMonth_152 rfl ?_
          obtain ⟨x3_13, ex3_13, h⟩ := ltb_some h
          refine wa_iinc (lv' := [(3, .int x3_13), (0, .ref (ρ 10 0)), (1, .long x1)]) 156 3 hC dX10_endMonth_153 2 rfl (by rw [kc_1]; exact ex3_13) (by decide) rfl rfl ?_
          refine wa_goto 91 hC dX10_endMonth_156 rfl ?_
          refine wa_pick [1, 2, 0] rfl ?_
          exact ih x3_13 Z_12 h
        clear ekj_10
        refine wa_if_eq 141 145 hC dX10_endMonth_138 rfl rfl h (fun h => ?_) (fun h => ?_)
        · refine wa_aload_n 146 0 hC dX10_endMonth_145 rfl 0 rfl rfl ?_
          refine wa_getR 149 hC (vs10 hVC) (sr10_18 _) flX10_36 dX10_endMonth_146 rfl ?_
          refine wa_iload_n 150 3 hC dX10_endMonth_149 rfl 2 rfl rfl ?_
          obtain ⟨g_14, h⟩ := gd_some h
          refine wa_laldr 151 hC (vs34 hVC) ar34 rfl g_14 dX10_endMonth_150 rfl ?_
          exact hkj_10 (Z_6.2 34 0 0 x3.toNatClampNeg) h
        · refine wa_lconst 142 hC dX10_endMonth_141 kl_0 rfl ?_
          refine wa_goto 151 hC dX10_endMonth_142 rfl ?_
          exact hkj_10 (0 : Int64) h
      clear ekj_4
      refine wa_if_eq 115 124 hC dX10_endMonth_112 rfl rfl h (fun h => ?_) (fun h => ?_)
      · refine wa_lconst 125 hC dX10_endMonth_124 kl_0 rfl ?_
        exact hkj_4 (0 : Int64) h
      · refine wa_aload_n 116 0 hC dX10_endMonth_115 rfl 0 rfl rfl ?_
        refine wa_getR 119 hC (vs10 hVC) (sr10_18 _) flX10_36 dX10_endMonth_116 rfl ?_
        refine wa_iload_n 120 3 hC dX10_endMonth_119 rfl 2 rfl rfl ?_
        obtain ⟨g_16, h⟩ := gd_some h
        refine wa_laldr 121 hC (vs34 hVC) ar34 rfl g_16 dX10_endMonth_120 rfl ?_
        refine wa_goto 125 hC dX10_endMonth_121 rfl ?_
        exact hkj_4 (Z.2 34 0 0 x3.toNatClampNeg) h
set_option maxRecDepth 20000 in
theorem wX10_endMonth_L165 {E : eU} {G : gU} {ρ : Nat → Nat → Nat} {V : Nat → Nat → Prop} {A : sM} {r : Int64} {Z' : sM} (x1 : Int64) {k195 : sM → Option (Int64 × sM)} (hC : CX E G cX10_endMonth 4 RX10 (some .long) 4 0 0) (hVC : VC V) (hk195 : ∀ (Z : sM), k195 Z = some (r, Z') → WA E G ρ V 0 0 (J A Z) 195 [(0, .ref (ρ 10 0)), (1, .long x1)] []) : ∀ (n : Nat) (x3 : Int32) (Z : sM), fX10_endMonth_L165 x1 k195 n x3 Z = some (r, Z') → WA E G ρ V 0 0 (J A Z) 165 [(0, .ref (ρ 10 0)), (1, .long x1), (3, .int x3)] [] := by
  intro n
  induction n with
  | zero =>
    intro x3 Z h
    rw [fX10_endMonth_L165] at h
    cases h
  | succ n ih =>
    intro x3 Z h
    rw [fX10_endMonth_L165] at h
    refine wa_iload_n 166 3 hC dX10_endMonth_165 rfl 2 rfl rfl ?_
    refine wa_aload_n 167 0 hC dX10_endMonth_166 rfl 0 rfl rfl ?_
    refine wa_getR 170 hC (vs10 hVC) (sr10_0 _) flX10_7 dX10_endMonth_167 rfl ?_
    refine wa_bipush 172 hC dX10_endMonth_170 kb_7 rfl ?_
    refine wa_ialdr 173 hC (vs27 hVC) ar27 rfl (by decide) dX10_endMonth_172 rfl ?_
    refine wa_icmp_ge 176 195 hC dX10_endMonth_173 rfl rfl h (fun h => ?_) (fun h => ?_)
    · refine wa_pick [0, 1] rfl ?_
      exact hk195 Z h
    · refine wa_aload_n 177 0 hC dX10_endMonth_176 rfl 0 rfl rfl ?_
      refine wa_iload_n 178 3 hC dX10_endMonth_177 rfl 2 rfl rfl ?_
      obtain ⟨r_2, e_8, h⟩ := bd_some h
      refine wa_callVi 181 hC [.int x3] [] knX10_isActive mvX10_187 (tX10_isActive E.2.1 x3 Z hVC e_8) (vs10 hVC) kc10 (Nat.le_of_ble_eq_true rfl) (Nat.le_of_ble_eq_true rfl) rfl (Nat.le_of_ble_eq_true rfl) dX10_endMonth_178 rfl le00 rfl ?_
      obtain ⟨kj_4, ekj_4, h⟩ := ltb_k1 h
      have hkj_4 : ∀ (Z_3 : sM), kj_4 Z_3 = some (r, Z') → WA E G ρ V 0 0 (J A Z_3) 189 [(0, .ref (ρ 10 0)), (1, .long x1), (3, .int x3)] [] := by
        intro Z_3 h
        rw [ekj_4] at h
        obtain ⟨x3_5, ex3_5, h⟩ := ltb_some h
        refine wa_iinc (lv' := [(3, .int x3_5), (0, .ref (ρ 10 0)), (1, .long x1)]) 192 3 hC dX10_endMonth_189 2 rfl (by rw [kc_1]; exact ex3_5) (by decide) rfl rfl ?_
        refine wa_goto 165 hC dX10_endMonth_192 rfl ?_
        refine wa_pick [1, 2, 0] rfl ?_
        exact ih x3_5 Z_3 h
      clear ekj_4
      refine wa_if_eq 184 189 hC dX10_endMonth_181 rfl rfl h (fun h => ?_) (fun h => ?_)
      · exact hkj_4 Z h
      · refine wa_aload_n 185 0 hC dX10_endMonth_184 rfl 0 rfl rfl ?_
        refine wa_iload_n 186 3 hC dX10_endMonth_185 rfl 2 rfl rfl ?_
        obtain ⟨Z_6, e_7, h⟩ := bd_some h
        refine wa_callVv 189 hC [.int x3] [] knX10_ends mvX10_247 (tX10_ends E.2.1 x3 Z hVC e_7) (vs10 hVC) kc10 (Nat.le_of_ble_eq_true rfl) (Nat.le_of_ble_eq_true rfl) rfl (Nat.le_of_ble_eq_true rfl) dX10_endMonth_186 rfl le00 rfl ?_
        exact hkj_4 Z_6 h
set_option maxRecDepth 20000 in
theorem tX10_endMonth (l : Launch) {G : gU} {ρ : Nat → Nat → Nat} {V : Nat → Nat → Prop} {A : sM} (Z : sM) (_ : VC V) {r : Int64} {Z' : sM} (h : fX10_endMonth Z = some (r, Z')) : MT l yX10_endMonth cX10_endMonth 4 (some .long) 4 G ρ V [.ref (ρ 10 0)] (J A Z) (some (.long r)) (J A Z') := by
  refine vv_enter (lv := [(0, .ref (ρ 10 0))]) RX10 rfl (by decide) (Nat.le_of_ble_eq_true rfl) rfl ?_
  intro E hE hC hQ hVC
  subst hE
  rw [fX10_endMonth] at h
  refine wa_aload_n 1 0 hC dX10_endMonth_0 rfl 0 rfl rfl ?_
  refine wa_aload_n 2 0 hC dX10_endMonth_1 rfl 0 rfl rfl ?_
  refine wa_getR 5 hC (vs10 hVC) (sr10_0 _) flX10_7 dX10_endMonth_2 rfl ?_
  refine wa_bipush 7 hC dX10_endMonth_5 kb_6 rfl ?_
  refine wa_ialdr 8 hC (vs27 hVC) ar27 rfl (by decide) dX10_endMonth_7 rfl ?_
  refine wa_bipush 10 hC dX10_endMonth_8 kb_30 rfl ?_
  obtain ⟨kj_3, ekj_3, h⟩ := ltb_k1 h
  have hkj_3 : ∀ (v_2 : Int32), kj_3 v_2 = some (r, Z') → WA E G ρ V 0 0 (J A Z) 29 [(0, .ref (ρ 10 0))] [.int v_2, .ref (ρ 10 0)] := by
    intro v_2 h
    rw [ekj_3] at h
    obtain ⟨Z_4, eZ_4, h⟩ := ltb_some h
    refine wa_putIr 32 hC (vs10 hVC) nk10 eZ_4 sh10_6 rfl fpX10_63 dX10_endMonth_29 rfl ?_
    refine wa_aload_n 33 0 hC dX10_endMonth_32 rfl 0 rfl rfl ?_
    refine wa_getIr 36 hC (vs10 hVC) sh10_6 rfl flX10_63 dX10_endMonth_33 rfl ?_
    refine wa_if_le 39 41 hC dX10_endMonth_36 rfl rfl h (fun h => ?_) (fun h => ?_)
    · refine wa_aload_n 42 0 hC dX10_endMonth_41 rfl 0 rfl rfl ?_
      obtain ⟨Z_5, e_26, h⟩ := bd_some h
      refine wa_callVv 45 hC [] [] knX10_keeps mvX10_157 (tX10_keeps E.2.1 Z_4 hVC e_26) (vs10 hVC) kc10 (Nat.le_of_ble_eq_true rfl) (Nat.le_of_ble_eq_true rfl) rfl (Nat.le_of_ble_eq_true rfl) dX10_endMonth_42 rfl le00 rfl ?_
      refine wa_aload_n 46 0 hC dX10_endMonth_45 rfl 0 rfl rfl ?_
      refine wa_aload_n 47 0 hC dX10_endMonth_46 rfl 0 rfl rfl ?_
      refine wa_getR 50 hC (vs10 hVC) (sr10_0 _) flX10_7 dX10_endMonth_47 rfl ?_
      refine wa_iconst 51 hC dX10_endMonth_50 kc_5 rfl ?_
      refine wa_ialdr 52 hC (vs27 hVC) ar27 rfl (by decide) dX10_endMonth_51 rfl ?_
      obtain ⟨r_7, e_25, h⟩ := bd_some h
      refine wa_callVl 55 hC [.int (Z_5.1 27 0 0 (5 : Int32).toNatClampNeg)] [] knX10_worthOf mvX10_237 (tX10_worthOf E.2.1 (Z_5.1 27 0 0 (5 : Int32).toNatClampNeg) Z_5 hVC e_25) (vs10 hVC) kc10 (Nat.le_of_ble_eq_true rfl) (Nat.le_of_ble_eq_true rfl) rfl (Nat.le_of_ble_eq_true rfl) dX10_endMonth_52 rfl le00 rfl ?_
      refine wa_lstore_n (lv' := [(1, .long r_7), (0, .ref (ρ 10 0))]) 56 1 hC dX10_endMonth_55 rfl rfl (by decide) rfl rfl ?_
      refine wa_aload_n 57 0 hC dX10_endMonth_56 rfl 1 rfl rfl ?_
      refine wa_lload_n 58 1 hC dX10_endMonth_57 rfl 0 rfl rfl ?_
      refine wa_aload_n 59 0 hC dX10_endMonth_58 rfl 1 rfl rfl ?_
      refine wa_getR 62 hC (vs10 hVC) (sr10_0 _) flX10_7 dX10_endMonth_59 rfl ?_
      refine wa_iconst 63 hC dX10_endMonth_62 kc_5 rfl ?_
      refine wa_ialdr 64 hC (vs27 hVC) ar27 rfl (by decide) dX10_endMonth_63 rfl ?_
      refine wa_iconst 65 hC dX10_endMonth_64 kc_0 rfl ?_
      obtain ⟨Z_9, e_24, h⟩ := bd_some h
      refine wa_callVv 68 hC [.long r_7, .int (Z_5.1 27 0 0 (5 : Int32).toNatClampNeg), .int (0 : Int32)] [] knX10_dividesMonth mvX10_240 (tX10_dividesMonth E.2.1 r_7 (Z_5.1 27 0 0 (5 : Int32).toNatClampNeg) (0 : Int32) Z_5 hVC e_24) (vs10 hVC) kc10 (Nat.le_of_ble_eq_true rfl) (Nat.le_of_ble_eq_true rfl) rfl (Nat.le_of_ble_eq_true rfl) dX10_endMonth_65 rfl le00 rfl ?_
      refine wa_aload_n 69 0 hC dX10_endMonth_68 rfl 1 rfl rfl ?_
      refine wa_getR 72 hC (vs10 hVC) (sr10_3 _) flX10_19 dX10_endMonth_69 rfl ?_
      refine wa_iconst 73 hC dX10_endMonth_72 kc_1 rfl ?_
      refine wa_dup2 74 hC dX10_endMonth_73 rfl rfl rfl ?_
      refine wa_laldr 75 hC (vs30 hVC) ar30 rfl (by decide) dX10_endMonth_74 rfl ?_
      refine wa_aload_n 76 0 hC dX10_endMonth_75 rfl 1 rfl rfl ?_
      refine wa_getR 79 hC (vs10 hVC) (sr10_18 _) flX10_36 dX10_endMonth_76 rfl ?_
      refine wa_aload_n 80 0 hC dX10_endMonth_79 rfl 1 rfl rfl ?_
      refine wa_getR 83 hC (vs10 hVC) (sr10_0 _) flX10_7 dX10_endMonth_80 rfl ?_
      refine wa_bipush 85 hC dX10_endMonth_83 kb_7 rfl ?_
      refine wa_ialdr 86 hC (vs27 hVC) ar27 rfl (by decide) dX10_endMonth_85 rfl ?_
      obtain ⟨g_12, h⟩ := gd_some h
      refine wa_laldr 87 hC (vs34 hVC) ar34 rfl g_12 dX10_endMonth_86 rfl ?_
      refine wa_ladd 88 hC dX10_endMonth_87 rfl ?_
      obtain ⟨Z_14, eZ_14, h⟩ := ltb_some h
      refine wa_lastr 89 hC (vs30 hVC) ar30 rfl (by decide) eZ_14 dX10_endMonth_88 rfl ?_
      refine wa_iconst 90 hC dX10_endMonth_89 kc_0 rfl ?_
      refine wa_istore_n (lv' := [(3, .int (0 : Int32)), (1, .long r_7), (0, .ref (ρ 10 0))]) 91 3 hC dX10_endMonth_90 rfl rfl (by decide) rfl rfl ?_
      refine wa_pick [2, 1, 0] rfl ?_
      refine wX10_endMonth_L91 r_7 hC hVC (fun Z_15 h => ?_) 10000 (0 : Int32) Z_14 h
      refine wa_aload_n 160 0 hC dX10_endMonth_159 rfl 0 rfl rfl ?_
      obtain ⟨Z_16, e_23, h⟩ := bd_some h
      refine wa_callVv 163 hC [] [] knX10_passesOn mvX10_244 (tX10_passesOn E.2.1 Z_15 hVC e_23) (vs10 hVC) kc10 (Nat.le_of_ble_eq_true rfl) (Nat.le_of_ble_eq_true rfl) rfl (Nat.le_of_ble_eq_true rfl) dX10_endMonth_160 rfl le00 rfl ?_
      refine wa_iconst 164 hC dX10_endMonth_163 kc_0 rfl ?_
      refine wa_istore_n (lv' := [(3, .int (0 : Int32)), (0, .ref (ρ 10 0)), (1, .long r_7)]) 165 3 hC dX10_endMonth_164 rfl rfl (by decide) rfl rfl ?_
      refine wa_pick [1, 2, 0] rfl ?_
      refine wX10_endMonth_L165 r_7 hC hVC (fun Z_17 h => ?_) 10000 (0 : Int32) Z_16 h
      refine wa_aload_n 196 0 hC dX10_endMonth_195 rfl 0 rfl rfl ?_
      refine wa_getR 199 hC (vs10 hVC) (sr10_0 _) flX10_7 dX10_endMonth_196 rfl ?_
      refine wa_iconst 200 hC dX10_endMonth_199 kc_5 rfl ?_
      refine wa_dup2 201 hC dX10_endMonth_200 rfl rfl rfl ?_
      refine wa_ialdr 202 hC (vs27 hVC) ar27 rfl (by decide) dX10_endMonth_201 rfl ?_
      refine wa_iconst 203 hC dX10_endMonth_202 kc_1 rfl ?_
      refine wa_iadd 204 hC dX10_endMonth_203 rfl ?_
      obtain ⟨Z_20, eZ_20, h⟩ := ltb_some h
      refine wa_iastr 205 hC (vs27 hVC) nk27 ar27 rfl (by decide) eZ_20 dX10_endMonth_204 rfl ?_
      refine wa_aload_n 206 0 hC dX10_endMonth_205 rfl 0 rfl rfl ?_
      refine wa_getR 209 hC (vs10 hVC) (sr10_0 _) flX10_7 dX10_endMonth_206 rfl ?_
      refine wa_bipush 211 hC dX10_endMonth_209 kb_6 rfl ?_
      refine wa_iconst 212 hC dX10_endMonth_211 kc_0 rfl ?_
      obtain ⟨Z_22, eZ_22, h⟩ := ltb_some h
      refine wa_iastr 213 hC (vs27 hVC) nk27 ar27 rfl (by decide) eZ_22 dX10_endMonth_212 rfl ?_
      refine wa_lload_n 214 1 hC dX10_endMonth_213 rfl 1 rfl rfl ?_
      exact wa_lret hC hQ (sm1 h) (jZ (sm2 h)) dX10_endMonth_214
    · refine wa_lconst 40 hC dX10_endMonth_39 kl_0 rfl ?_
      exact wa_lret hC hQ (sm1 h) (jZ (sm2 h)) dX10_endMonth_40
  clear ekj_3
  obtain ⟨kj_27, ekj_27, h⟩ := ltb_some h
  have hkj_27 : kj_27 = some (r, Z') → WA E G ρ V 0 0 (J A Z) 24 [(0, .ref (ρ 10 0))] [.ref (ρ 10 0)] := by
    intro h
    rw [ekj_27] at h
    refine wa_iconst 25 hC dX10_endMonth_24 kc_1 rfl ?_
    refine wa_goto 29 hC dX10_endMonth_25 rfl ?_
    exact hkj_3 (1 : Int32) h
  clear ekj_27
  refine wa_icmp_lt 13 24 hC dX10_endMonth_10 rfl rfl h (fun h => ?_) (fun h => ?_)
  · exact hkj_27 h
  · refine wa_aload_n 14 0 hC dX10_endMonth_13 rfl 0 rfl rfl ?_
    refine wa_getR 17 hC (vs10 hVC) (sr10_0 _) flX10_7 dX10_endMonth_14 rfl ?_
    refine wa_iconst 18 hC dX10_endMonth_17 kc_5 rfl ?_
    refine wa_ialdr 19 hC (vs27 hVC) ar27 rfl (by decide) dX10_endMonth_18 rfl ?_
    refine wa_bipush 21 hC dX10_endMonth_19 kb_59 rfl ?_
    refine wa_icmp_ne 24 28 hC dX10_endMonth_21 rfl rfl h (fun h => ?_) (fun h => ?_)
    · refine wa_iconst 29 hC dX10_endMonth_28 kc_0 rfl ?_
      exact hkj_3 (0 : Int32) h
    · exact hkj_27 h
set_option maxRecDepth 20000 in
theorem tX10_month (l : Launch) {G : gU} {ρ : Nat → Nat → Nat} {V : Nat → Nat → Prop} {A : sM} (Z : sM) (_ : VC V) {r : Int32} {Z' : sM} (h : fX10_month Z = some (r, Z')) : MT l yX10_month cX10_month 1 (some .int) 1 G ρ V [.ref (ρ 10 0)] (J A Z) (some (.int r)) (J A Z') := by
  refine vv_enter (lv := [(0, .ref (ρ 10 0))]) RX10 rfl (by decide) (Nat.le_of_ble_eq_true rfl) rfl ?_
  intro E hE hC hQ hVC
  subst hE
  rw [fX10_month] at h
  refine wa_aload_n 1 0 hC dX10_month_0 rfl 0 rfl rfl ?_
  refine wa_iconst 2 hC dX10_month_1 kc_0 rfl ?_
  obtain ⟨Z_1, eZ_1, h⟩ := ltb_some h
  refine wa_putIr 5 hC (vs10 hVC) nk10 eZ_1 sh10_6 rfl fpX10_63 dX10_month_2 rfl ?_
  refine wa_aload_n 6 0 hC dX10_month_5 rfl 0 rfl rfl ?_
  refine wa_getR 9 hC (vs10 hVC) (sr10_0 _) flX10_7 dX10_month_6 rfl ?_
  refine wa_iconst 10 hC dX10_month_9 kc_5 rfl ?_
  refine wa_ialdr 11 hC (vs27 hVC) ar27 rfl (by decide) dX10_month_10 rfl ?_
  exact wa_iret hC hQ (sm1 h) (jZ (sm2 h)) dX10_month_11
set_option maxRecDepth 20000 in
theorem tX10_isMonth (l : Launch) {G : gU} {ρ : Nat → Nat → Nat} {V : Nat → Nat → Prop} {A : sM} (x1 : Int32) (Z : sM) (_ : VC V) {r : Int32} (h : fX10_isMonth x1 Z = some r) : MT l yX10_isMonth cX10_isMonth 2 (some .boolean) 2 G ρ V [.ref (ρ 10 0), .int x1] (J A Z) (some (.int r)) (J A Z) := by
  refine vv_enter (lv := [(0, .ref (ρ 10 0)), (1, .int x1)]) RX10 rfl (by decide) (Nat.le_of_ble_eq_true rfl) rfl ?_
  intro E hE hC hQ hVC
  subst hE
  rw [fX10_isMonth] at h
  refine wa_iload_n 1 1 hC dX10_isMonth_0 rfl 1 rfl rfl ?_
  refine wa_i2l 2 hC dX10_isMonth_1 rfl ?_
  refine wa_lconst 3 hC dX10_isMonth_2 kl_0 rfl ?_
  refine wa_aload_n 4 0 hC dX10_isMonth_3 rfl 0 rfl rfl ?_
  refine wa_getR 7 hC (vs10 hVC) (sr10_0 _) flX10_7 dX10_isMonth_4 rfl ?_
  refine wa_iconst 8 hC dX10_isMonth_7 kc_5 rfl ?_
  refine wa_ialdr 9 hC (vs27 hVC) ar27 rfl (by decide) dX10_isMonth_8 rfl ?_
  refine wa_i2l 10 hC dX10_isMonth_9 rfl ?_
  obtain ⟨r_2, e_4, h⟩ := bd_some h
  refine wa_callSi 13 hC [.long (x1.toInt64), .long (0 : Int64), .long ((Z.1 27 0 0 (5 : Int32).toNatClampNeg).toInt64)] [] knX10_isIn msX10_104 (tX10_isIn E.2.1 (x1.toInt64) (0 : Int64) ((Z.1 27 0 0 (5 : Int32).toNatClampNeg).toInt64) Z hVC e_4) (Nat.le_of_ble_eq_true rfl) (Nat.le_of_ble_eq_true rfl) rfl (Nat.le_of_ble_eq_true rfl) dX10_isMonth_10 rfl le00 rfl ?_
  obtain ⟨g_3, h⟩ := gd_some h
  exact wa_zret hC hQ (sm0 h) rfl (isZ_n g_3) dX10_isMonth_13
set_option maxRecDepth 20000 in
theorem tX10_generation (l : Launch) {G : gU} {ρ : Nat → Nat → Nat} {V : Nat → Nat → Prop} {A : sM} (x1 : Int32) (x2 : Int32) (Z : sM) (_ : VC V) {r : Int32} {Z' : sM} (h : fX10_generation x1 x2 Z = some (r, Z')) : MT l yX10_generation cX10_generation 3 (some .int) 3 G ρ V [.ref (ρ 10 0), .int x1, .int x2] (J A Z) (some (.int r)) (J A Z') := by
  refine vv_enter (lv := [(0, .ref (ρ 10 0)), (1, .int x1), (2, .int x2)]) RX10 rfl (by decide) (Nat.le_of_ble_eq_true rfl) rfl ?_
  intro E hE hC hQ hVC
  subst hE
  rw [fX10_generation] at h
  refine wa_aload_n 1 0 hC dX10_generation_0 rfl 0 rfl rfl ?_
  refine wa_aload_n 2 0 hC dX10_generation_1 rfl 0 rfl rfl ?_
  refine wa_iload_n 3 1 hC dX10_generation_2 rfl 1 rfl rfl ?_
  obtain ⟨r_1, e_14, h⟩ := bd_some h
  refine wa_callVi 6 hC [.int x1] [.ref (ρ 10 0)] knX10_isMonth mvX10_250 (tX10_isMonth E.2.1 x1 Z hVC e_14) (vs10 hVC) kc10 (Nat.le_of_ble_eq_true rfl) (Nat.le_of_ble_eq_true rfl) rfl (Nat.le_of_ble_eq_true rfl) dX10_generation_3 rfl le00 rfl ?_
  obtain ⟨kj_2, ekj_2, h⟩ := ltb_some h
  have hkj_2 : kj_2 = some (r, Z') → WA E G ρ V 0 0 (J A Z) 31 [(0, .ref (ρ 10 0)), (1, .int x1), (2, .int x2)] [.ref (ρ 10 0)] := by
    intro h
    rw [ekj_2] at h
    refine wa_iconst 32 hC dX10_generation_31 kc_1 rfl ?_
    obtain ⟨Z_3, eZ_3, h⟩ := ltb_some h
    refine wa_putIr 35 hC (vs10 hVC) nk10 eZ_3 sh10_6 rfl fpX10_63 dX10_generation_32 rfl ?_
    refine wa_aload_n 36 0 hC dX10_generation_35 rfl 0 rfl rfl ?_
    refine wa_getIr 39 hC (vs10 hVC) sh10_6 rfl flX10_63 dX10_generation_36 rfl ?_
    refine wa_if_le 42 46 hC dX10_generation_39 rfl rfl h (fun h => ?_) (fun h => ?_)
    · refine wa_aload_n 47 0 hC dX10_generation_46 rfl 0 rfl rfl ?_
      refine wa_getR 50 hC (vs10 hVC) (sr10_0 _) flX10_7 dX10_generation_47 rfl ?_
      refine wa_aload_n 51 0 hC dX10_generation_50 rfl 0 rfl rfl ?_
      refine wa_iload_n 52 1 hC dX10_generation_51 rfl 1 rfl rfl ?_
      refine wa_iload_n 53 2 hC dX10_generation_52 rfl 2 rfl rfl ?_
      obtain ⟨r_4, e_6, h⟩ := bd_some h
      refine wa_callVi 56 hC [.int x1, .int x2] [.ref (ρ 27 0)] knX10_generatedAt mvX10_221 (tX10_generatedAt E.2.1 x1 x2 Z_3 hVC e_6) (vs10 hVC) kc10 (Nat.le_of_ble_eq_true rfl) (Nat.le_of_ble_eq_true rfl) rfl (Nat.le_of_ble_eq_true rfl) dX10_generation_53 rfl le00 rfl ?_
      obtain ⟨g_5, h⟩ := gd_some h
      refine wa_ialdr 57 hC (vs27 hVC) ar27 rfl g_5 dX10_generation_56 rfl ?_
      exact wa_iret hC hQ (sm1 h) (jZ (sm2 h)) dX10_generation_57
    · refine wa_iconst 43 hC dX10_generation_42 kc_0 rfl ?_
      refine wa_goto 57 hC dX10_generation_43 rfl ?_
      exact wa_iret hC hQ (sm1 h) (jZ (sm2 h)) dX10_generation_57
  clear ekj_2
  refine wa_if_eq 9 31 hC dX10_generation_6 rfl rfl h (fun h => ?_) (fun h => ?_)
  · exact hkj_2 h
  · refine wa_iload_n 10 2 hC dX10_generation_9 rfl 2 rfl rfl ?_
    refine wa_i2l 11 hC dX10_generation_10 rfl ?_
    refine wa_lconst 12 hC dX10_generation_11 kl_0 rfl ?_
    refine wa_aload_n 13 0 hC dX10_generation_12 rfl 0 rfl rfl ?_
    refine wa_getR 16 hC (vs10 hVC) (sr10_0 _) flX10_7 dX10_generation_13 rfl ?_
    refine wa_iconst 17 hC dX10_generation_16 kc_4 rfl ?_
    refine wa_ialdr 18 hC (vs27 hVC) ar27 rfl (by decide) dX10_generation_17 rfl ?_
    refine wa_iconst 19 hC dX10_generation_18 kc_1 rfl ?_
    refine wa_isub 20 hC dX10_generation_19 rfl ?_
    refine wa_i2l 21 hC dX10_generation_20 rfl ?_
    obtain ⟨r_8, e_13, h⟩ := bd_some h
    refine wa_callSi 24 hC [.long (x2.toInt64), .long (0 : Int64), .long (((Z.1 27 0 0 (4 : Int32).toNatClampNeg) - (1 : Int32)).toInt64)] [.ref (ρ 10 0)] knX10_isIn msX10_104 (tX10_isIn E.2.1 (x2.toInt64) (0 : Int64) (((Z.1 27 0 0 (4 : Int32).toNatClampNeg) - (1 : Int32)).toInt64) Z hVC e_13) (Nat.le_of_ble_eq_true rfl) (Nat.le_of_ble_eq_true rfl) rfl (Nat.le_of_ble_eq_true rfl) dX10_generation_21 rfl le00 rfl ?_
    refine wa_if_eq 27 31 hC dX10_generation_24 rfl rfl h (fun h => ?_) (fun h => ?_)
    · exact hkj_2 h
    · refine wa_iconst 28 hC dX10_generation_27 kc_0 rfl ?_
      refine wa_goto 32 hC dX10_generation_28 rfl ?_
      obtain ⟨Z_9, eZ_9, h⟩ := ltb_some h
      refine wa_putIr 35 hC (vs10 hVC) nk10 eZ_9 sh10_6 rfl fpX10_63 dX10_generation_32 rfl ?_
      refine wa_aload_n 36 0 hC dX10_generation_35 rfl 0 rfl rfl ?_
      refine wa_getIr 39 hC (vs10 hVC) sh10_6 rfl flX10_63 dX10_generation_36 rfl ?_
      refine wa_if_le 42 46 hC dX10_generation_39 rfl rfl h (fun h => ?_) (fun h => ?_)
      · refine wa_aload_n 47 0 hC dX10_generation_46 rfl 0 rfl rfl ?_
        refine wa_getR 50 hC (vs10 hVC) (sr10_0 _) flX10_7 dX10_generation_47 rfl ?_
        refine wa_aload_n 51 0 hC dX10_generation_50 rfl 0 rfl rfl ?_
        refine wa_iload_n 52 1 hC dX10_generation_51 rfl 1 rfl rfl ?_
        refine wa_iload_n 53 2 hC dX10_generation_52 rfl 2 rfl rfl ?_
        obtain ⟨r_10, e_12, h⟩ := bd_some h
        refine wa_callVi 56 hC [.int x1, .int x2] [.ref (ρ 27 0)] knX10_generatedAt mvX10_221 (tX10_generatedAt E.2.1 x1 x2 Z_9 hVC e_12) (vs10 hVC) kc10 (Nat.le_of_ble_eq_true rfl) (Nat.le_of_ble_eq_true rfl) rfl (Nat.le_of_ble_eq_true rfl) dX10_generation_53 rfl le00 rfl ?_
        obtain ⟨g_11, h⟩ := gd_some h
        refine wa_ialdr 57 hC (vs27 hVC) ar27 rfl g_11 dX10_generation_56 rfl ?_
        exact wa_iret hC hQ (sm1 h) (jZ (sm2 h)) dX10_generation_57
      · refine wa_iconst 43 hC dX10_generation_42 kc_0 rfl ?_
        refine wa_goto 57 hC dX10_generation_43 rfl ?_
        exact wa_iret hC hQ (sm1 h) (jZ (sm2 h)) dX10_generation_57
set_option maxRecDepth 20000 in
theorem wX10_shareDays_L89 {E : eU} {G : gU} {ρ : Nat → Nat → Nat} {V : Nat → Nat → Prop} {A : sM} {r : Int32} {Z' : sM} (x1 : Int32) (Z : sM) {k122 : Int32 → Option (Int32 × sM)} (hC : CX E G cX10_shareDays 5 RX10 (some .int) 3 0 0) (hVC : VC V) (hk122 : ∀ (x3 : Int32), k122 x3 = some (r, Z') → WA E G ρ V 0 0 (J A Z) 122 [(3, .int x3)] []) : ∀ (n : Nat) (x3 : Int32) (x4 : Int32), fX10_shareDays_L89 x1 Z k122 n x3 x4 = some (r, Z') → WA E G ρ V 0 0 (J A Z) 89 [(0, .ref (ρ 10 0)), (1, .int x1), (3, .int x3), (4, .int x4)] [] := by
  intro n
  induction n with
  | zero =>
    intro x3 x4 h
    rw [fX10_shareDays_L89] at h
    cases h
  | succ n ih =>
    intro x3 x4 h
    rw [fX10_shareDays_L89] at h
    refine wa_iload 91 4 hC dX10_shareDays_89 3 rfl rfl ?_
    refine wa_aload_n 92 0 hC dX10_shareDays_91 rfl 0 rfl rfl ?_
    refine wa_getR 95 hC (vs10 hVC) (sr10_0 _) flX10_7 dX10_shareDays_92 rfl ?_
    refine wa_bipush 97 hC dX10_shareDays_95 kb_7 rfl ?_
    refine wa_ialdr 98 hC (vs27 hVC) ar27 rfl (by decide) dX10_shareDays_97 rfl ?_
    refine wa_icmp_ge 101 122 hC dX10_shareDays_98 rfl rfl h (fun h => ?_) (fun h => ?_)
    · refine wa_pick [2] rfl ?_
      exact hk122 x3 h
    · refine wa_iload_n 102 3 hC dX10_shareDays_101 rfl 2 rfl rfl ?_
      refine wa_aload_n 103 0 hC dX10_shareDays_102 rfl 0 rfl rfl ?_
      refine wa_getR 106 hC (vs10 hVC) (sr10_0 _) flX10_7 dX10_shareDays_103 rfl ?_
      refine wa_aload_n 107 0 hC dX10_shareDays_106 rfl 0 rfl rfl ?_
      refine wa_iload_n 108 1 hC dX10_shareDays_107 rfl 1 rfl rfl ?_
      refine wa_iload 110 4 hC dX10_shareDays_108 3 rfl rfl ?_
      obtain ⟨r_2, e_6, h⟩ := bd_some h
      refine wa_callVi 113 hC [.int x1, .int x4] [.ref (ρ 27 0), .int x3] knX10_daysAt mvX10_216 (tX10_daysAt E.2.1 x1 x4 Z hVC e_6) (vs10 hVC) kc10 (Nat.le_of_ble_eq_true rfl) (Nat.le_of_ble_eq_true rfl) rfl (Nat.le_of_ble_eq_true rfl) dX10_shareDays_110 rfl le00 rfl ?_
      obtain ⟨g_3, h⟩ := gd_some h
      refine wa_ialdr 114 hC (vs27 hVC) ar27 rfl g_3 dX10_shareDays_113 rfl ?_
      refine wa_isub 115 hC dX10_shareDays_114 rfl ?_
      obtain ⟨x3_4, ex3_4, h⟩ := ltb_some h
      refine wa_istore_n (lv' := [(3, .int x3_4), (0, .ref (ρ 10 0)), (1, .int x1), (4, .int x4)]) 116 3 hC dX10_shareDays_115 rfl ex3_4 (by decide) rfl rfl ?_
      obtain ⟨x4_5, ex4_5, h⟩ := ltb_some h
      refine wa_iinc (lv' := [(4, .int x4_5), (3, .int x3_4), (0, .ref (ρ 10 0)), (1, .int x1)]) 119 4 hC dX10_shareDays_116 3 rfl (by rw [kc_1]; exact ex4_5) (by decide) rfl rfl ?_
      refine wa_goto 89 hC dX10_shareDays_119 rfl ?_
      refine wa_pick [2, 3, 1, 0] rfl ?_
      exact ih x3_4 x4_5 h
set_option maxRecDepth 20000 in
theorem tX10_shareDays (l : Launch) {G : gU} {ρ : Nat → Nat → Nat} {V : Nat → Nat → Prop} {A : sM} (x1 : Int32) (x2 : Int32) (Z : sM) (_ : VC V) {r : Int32} {Z' : sM} (h : fX10_shareDays x1 x2 Z = some (r, Z')) : MT l yX10_shareDays cX10_shareDays 5 (some .int) 3 G ρ V [.ref (ρ 10 0), .int x1, .int x2] (J A Z) (some (.int r)) (J A Z') := by
  refine vv_enter (lv := [(0, .ref (ρ 10 0)), (1, .int x1), (2, .int x2)]) RX10 rfl (by decide) (Nat.le_of_ble_eq_true rfl) rfl ?_
  intro E hE hC hQ hVC
  subst hE
  rw [fX10_shareDays] at h
  refine wa_aload_n 1 0 hC dX10_shareDays_0 rfl 0 rfl rfl ?_
  refine wa_aload_n 2 0 hC dX10_shareDays_1 rfl 0 rfl rfl ?_
  refine wa_iload_n 3 1 hC dX10_shareDays_2 rfl 1 rfl rfl ?_
  obtain ⟨r_1, e_19, h⟩ := bd_some h
  refine wa_callVi 6 hC [.int x1] [.ref (ρ 10 0)] knX10_isMonth mvX10_250 (tX10_isMonth E.2.1 x1 Z hVC e_19) (vs10 hVC) kc10 (Nat.le_of_ble_eq_true rfl) (Nat.le_of_ble_eq_true rfl) rfl (Nat.le_of_ble_eq_true rfl) dX10_shareDays_3 rfl le00 rfl ?_
  obtain ⟨kj_3, ekj_3, h⟩ := ltb_k1 h
  have hkj_3 : ∀ (v_2 : Int32), kj_3 v_2 = some (r, Z') → WA E G ρ V 0 0 (J A Z) 27 [(0, .ref (ρ 10 0)), (1, .int x1), (2, .int x2)] [.int v_2, .ref (ρ 10 0)] := by
    intro v_2 h
    rw [ekj_3] at h
    obtain ⟨Z_4, eZ_4, h⟩ := ltb_some h
    refine wa_putIr 30 hC (vs10 hVC) nk10 eZ_4 sh10_6 rfl fpX10_63 dX10_shareDays_27 rfl ?_
    refine wa_aload_n 31 0 hC dX10_shareDays_30 rfl 0 rfl rfl ?_
    refine wa_getIr 34 hC (vs10 hVC) sh10_6 rfl flX10_63 dX10_shareDays_31 rfl ?_
    refine wa_if_le 37 39 hC dX10_shareDays_34 rfl rfl h (fun h => ?_) (fun h => ?_)
    · refine wa_iload_n 40 2 hC dX10_shareDays_39 rfl 2 rfl rfl ?_
      refine wa_iconst 41 hC dX10_shareDays_40 kc_m1 rfl ?_
      refine wa_icmp_eq 44 56 hC dX10_shareDays_41 rfl rfl h (fun h => ?_) (fun h => ?_)
      · refine wa_aload_n 57 0 hC dX10_shareDays_56 rfl 0 rfl rfl ?_
        refine wa_getR 60 hC (vs10 hVC) (sr10_0 _) flX10_7 dX10_shareDays_57 rfl ?_
        refine wa_iconst 61 hC dX10_shareDays_60 kc_0 rfl ?_
        refine wa_ialdr 62 hC (vs27 hVC) ar27 rfl (by decide) dX10_shareDays_61 rfl ?_
        refine wa_iload_n 63 1 hC dX10_shareDays_62 rfl 1 rfl rfl ?_
        refine wa_aload_n 64 0 hC dX10_shareDays_63 rfl 0 rfl rfl ?_
        refine wa_getR 67 hC (vs10 hVC) (sr10_0 _) flX10_7 dX10_shareDays_64 rfl ?_
        refine wa_iconst 68 hC dX10_shareDays_67 kc_5 rfl ?_
        refine wa_ialdr 69 hC (vs27 hVC) ar27 rfl (by decide) dX10_shareDays_68 rfl ?_
        obtain ⟨kj_8, ekj_8, h⟩ := ltb_k1 h
        have hkj_8 : ∀ (v_7 : Int32), kj_8 v_7 = some (r, Z') → WA E G ρ V 0 0 (J A Z_4) 84 [(0, .ref (ρ 10 0)), (1, .int x1)] [.int v_7, .int (Z_4.1 27 0 0 (0 : Int32).toNatClampNeg)] := by
          intro v_7 h
          rw [ekj_8] at h
          refine wa_imul 85 hC dX10_shareDays_84 rfl ?_
          obtain ⟨x3_9, ex3_9, h⟩ := ltb_some h
          refine wa_istore_n (lv' := [(3, .int x3_9), (0, .ref (ρ 10 0)), (1, .int x1)]) 86 3 hC dX10_shareDays_85 rfl ex3_9 (by decide) rfl rfl ?_
          refine wa_iconst 87 hC dX10_shareDays_86 kc_0 rfl ?_
          refine wa_istore (lv' := [(4, .int (0 : Int32)), (3, .int x3_9), (0, .ref (ρ 10 0)), (1, .int x1)]) 89 4 hC dX10_shareDays_87 rfl (by decide) rfl rfl ?_
          refine wa_pick [2, 3, 1, 0] rfl ?_
          refine wX10_shareDays_L89 x1 Z_4 hC hVC (fun x3_10 h => ?_) 10000 x3_9 (0 : Int32) h
          refine wa_iload_n 123 3 hC dX10_shareDays_122 rfl 0 rfl rfl ?_
          exact wa_iret hC hQ (sm1 h) (jZ (sm2 h)) dX10_shareDays_123
        clear ekj_8
        refine wa_icmp_ne 72 82 hC dX10_shareDays_69 rfl rfl h (fun h => ?_) (fun h => ?_)
        · refine wa_bipush 84 hC dX10_shareDays_82 kb_30 rfl ?_
          refine wa_pick [0, 1] rfl ?_
          exact hkj_8 (30 : Int32) h
        · refine wa_aload_n 73 0 hC dX10_shareDays_72 rfl 0 rfl rfl ?_
          refine wa_getR 76 hC (vs10 hVC) (sr10_0 _) flX10_7 dX10_shareDays_73 rfl ?_
          refine wa_bipush 78 hC dX10_shareDays_76 kb_6 rfl ?_
          refine wa_ialdr 79 hC (vs27 hVC) ar27 rfl (by decide) dX10_shareDays_78 rfl ?_
          refine wa_goto 84 hC dX10_shareDays_79 rfl ?_
          refine wa_pick [0, 1] rfl ?_
          exact hkj_8 (Z_4.1 27 0 0 (6 : Int32).toNatClampNeg) h
      · refine wa_aload_n 45 0 hC dX10_shareDays_44 rfl 0 rfl rfl ?_
        refine wa_getR 48 hC (vs10 hVC) (sr10_0 _) flX10_7 dX10_shareDays_45 rfl ?_
        refine wa_aload_n 49 0 hC dX10_shareDays_48 rfl 0 rfl rfl ?_
        refine wa_iload_n 50 1 hC dX10_shareDays_49 rfl 1 rfl rfl ?_
        refine wa_iload_n 51 2 hC dX10_shareDays_50 rfl 2 rfl rfl ?_
        obtain ⟨r_12, e_14, h⟩ := bd_some h
        refine wa_callVi 54 hC [.int x1, .int x2] [.ref (ρ 27 0)] knX10_daysAt mvX10_216 (tX10_daysAt E.2.1 x1 x2 Z_4 hVC e_14) (vs10 hVC) kc10 (Nat.le_of_ble_eq_true rfl) (Nat.le_of_ble_eq_true rfl) rfl (Nat.le_of_ble_eq_true rfl) dX10_shareDays_51 rfl le00 rfl ?_
        obtain ⟨g_13, h⟩ := gd_some h
        refine wa_ialdr 55 hC (vs27 hVC) ar27 rfl g_13 dX10_shareDays_54 rfl ?_
        exact wa_iret hC hQ (sm1 h) (jZ (sm2 h)) dX10_shareDays_55
    · refine wa_iconst 38 hC dX10_shareDays_37 kc_0 rfl ?_
      exact wa_iret hC hQ (sm1 h) (jZ (sm2 h)) dX10_shareDays_38
  clear ekj_3
  obtain ⟨kj_15, ekj_15, h⟩ := ltb_some h
  have hkj_15 : kj_15 = some (r, Z') → WA E G ρ V 0 0 (J A Z) 26 [(0, .ref (ρ 10 0)), (1, .int x1), (2, .int x2)] [.ref (ρ 10 0)] := by
    intro h
    rw [ekj_15] at h
    refine wa_iconst 27 hC dX10_shareDays_26 kc_1 rfl ?_
    exact hkj_3 (1 : Int32) h
  clear ekj_15
  refine wa_if_eq 9 26 hC dX10_shareDays_6 rfl rfl h (fun h => ?_) (fun h => ?_)
  · exact hkj_15 h
  · refine wa_iload_n 10 2 hC dX10_shareDays_9 rfl 2 rfl rfl ?_
    refine wa_iconst 11 hC dX10_shareDays_10 kc_m1 rfl ?_
    obtain ⟨kj_16, ekj_16, h⟩ := ltb_some h
    have hkj_16 : kj_16 = some (r, Z') → WA E G ρ V 0 0 (J A Z) 22 [(0, .ref (ρ 10 0)), (1, .int x1), (2, .int x2)] [.ref (ρ 10 0)] := by
      intro h
      rw [ekj_16] at h
      refine wa_iconst 23 hC dX10_shareDays_22 kc_0 rfl ?_
      refine wa_goto 27 hC dX10_shareDays_23 rfl ?_
      exact hkj_3 (0 : Int32) h
    clear ekj_16
    refine wa_icmp_eq 14 22 hC dX10_shareDays_11 rfl rfl h (fun h => ?_) (fun h => ?_)
    · exact hkj_16 h
    · refine wa_aload_n 15 0 hC dX10_shareDays_14 rfl 0 rfl rfl ?_
      refine wa_iload_n 16 2 hC dX10_shareDays_15 rfl 2 rfl rfl ?_
      obtain ⟨r_17, e_18, h⟩ := bd_some h
      refine wa_callVi 19 hC [.int x2] [.ref (ρ 10 0)] knX10_isMember mvX10_184 (tX10_isMember E.2.1 x2 Z hVC e_18) (vs10 hVC) kc10 (Nat.le_of_ble_eq_true rfl) (Nat.le_of_ble_eq_true rfl) rfl (Nat.le_of_ble_eq_true rfl) dX10_shareDays_16 rfl le00 rfl ?_
      refine wa_if_eq 22 26 hC dX10_shareDays_19 rfl rfl h (fun h => ?_) (fun h => ?_)
      · exact hkj_15 h
      · exact hkj_16 h
set_option maxRecDepth 20000 in
theorem tX10_projectedPart (l : Launch) {G : gU} {ρ : Nat → Nat → Nat} {V : Nat → Nat → Prop} {A : sM} (x1 : Int32) (Z : sM) (_ : VC V) {r : Int64} {Z' : sM} (h : fX10_projectedPart x1 Z = some (r, Z')) : MT l yX10_projectedPart cX10_projectedPart 2 (some .long) 3 G ρ V [.ref (ρ 10 0), .int x1] (J A Z) (some (.long r)) (J A Z') := by
  refine vv_enter (lv := [(0, .ref (ρ 10 0)), (1, .int x1)]) RX10 rfl (by decide) (Nat.le_of_ble_eq_true rfl) rfl ?_
  intro E hE hC hQ hVC
  subst hE
  rw [fX10_projectedPart] at h
  refine wa_aload_n 1 0 hC dX10_projectedPart_0 rfl 0 rfl rfl ?_
  refine wa_iload_n 2 1 hC dX10_projectedPart_1 rfl 1 rfl rfl ?_
  refine wa_iconst 3 hC dX10_projectedPart_2 kc_m1 rfl ?_
  obtain ⟨kj_2, ekj_2, h⟩ := ltb_k1 h
  have hkj_2 : ∀ (v_1 : Int32), kj_2 v_1 = some (r, Z') → WA E G ρ V 0 0 (J A Z) 19 [(0, .ref (ρ 10 0)), (1, .int x1)] [.int v_1, .ref (ρ 10 0)] := by
    intro v_1 h
    rw [ekj_2] at h
    obtain ⟨Z_3, eZ_3, h⟩ := ltb_some h
    refine wa_putIr 22 hC (vs10 hVC) nk10 eZ_3 sh10_6 rfl fpX10_63 dX10_projectedPart_19 rfl ?_
    refine wa_aload_n 23 0 hC dX10_projectedPart_22 rfl 0 rfl rfl ?_
    refine wa_getIr 26 hC (vs10 hVC) sh10_6 rfl flX10_63 dX10_projectedPart_23 rfl ?_
    refine wa_if_le 29 31 hC dX10_projectedPart_26 rfl rfl h (fun h => ?_) (fun h => ?_)
    · refine wa_aload_n 32 0 hC dX10_projectedPart_31 rfl 0 rfl rfl ?_
      refine wa_aload_n 33 0 hC dX10_projectedPart_32 rfl 0 rfl rfl ?_
      refine wa_aload_n 34 0 hC dX10_projectedPart_33 rfl 0 rfl rfl ?_
      refine wa_getR 37 hC (vs10 hVC) (sr10_0 _) flX10_7 dX10_projectedPart_34 rfl ?_
      refine wa_iconst 38 hC dX10_projectedPart_37 kc_5 rfl ?_
      refine wa_ialdr 39 hC (vs27 hVC) ar27 rfl (by decide) dX10_projectedPart_38 rfl ?_
      obtain ⟨r_5, e_13, h⟩ := bd_some h
      refine wa_callVl 42 hC [.int (Z_3.1 27 0 0 (5 : Int32).toNatClampNeg)] [.ref (ρ 10 0)] knX10_worthOf mvX10_237 (tX10_worthOf E.2.1 (Z_3.1 27 0 0 (5 : Int32).toNatClampNeg) Z_3 hVC e_13) (vs10 hVC) kc10 (Nat.le_of_ble_eq_true rfl) (Nat.le_of_ble_eq_true rfl) rfl (Nat.le_of_ble_eq_true rfl) dX10_projectedPart_39 rfl le00 rfl ?_
      refine wa_aload_n 43 0 hC dX10_projectedPart_42 rfl 0 rfl rfl ?_
      refine wa_getR 46 hC (vs10 hVC) (sr10_0 _) flX10_7 dX10_projectedPart_43 rfl ?_
      refine wa_iconst 47 hC dX10_projectedPart_46 kc_5 rfl ?_
      refine wa_ialdr 48 hC (vs27 hVC) ar27 rfl (by decide) dX10_projectedPart_47 rfl ?_
      refine wa_bipush 50 hC dX10_projectedPart_48 kb_30 rfl ?_
      refine wa_aload_n 51 0 hC dX10_projectedPart_50 rfl 0 rfl rfl ?_
      refine wa_getR 54 hC (vs10 hVC) (sr10_0 _) flX10_7 dX10_projectedPart_51 rfl ?_
      refine wa_bipush 56 hC dX10_projectedPart_54 kb_6 rfl ?_
      refine wa_ialdr 57 hC (vs27 hVC) ar27 rfl (by decide) dX10_projectedPart_56 rfl ?_
      refine wa_isub 58 hC dX10_projectedPart_57 rfl ?_
      obtain ⟨Z_8, e_12, h⟩ := bd_some h
      refine wa_callVv 61 hC [.long r_5, .int (Z_3.1 27 0 0 (5 : Int32).toNatClampNeg), .int ((30 : Int32) - (Z_3.1 27 0 0 (6 : Int32).toNatClampNeg))] [] knX10_dividesMonth mvX10_240 (tX10_dividesMonth E.2.1 r_5 (Z_3.1 27 0 0 (5 : Int32).toNatClampNeg) ((30 : Int32) - (Z_3.1 27 0 0 (6 : Int32).toNatClampNeg)) Z_3 hVC e_12) (vs10 hVC) kc10 (Nat.le_of_ble_eq_true rfl) (Nat.le_of_ble_eq_true rfl) rfl (Nat.le_of_ble_eq_true rfl) dX10_projectedPart_58 rfl le00 rfl ?_
      refine wa_aload_n 62 0 hC dX10_projectedPart_61 rfl 0 rfl rfl ?_
      refine wa_getR 65 hC (vs10 hVC) (sr10_18 _) flX10_36 dX10_projectedPart_62 rfl ?_
      refine wa_iload_n 66 1 hC dX10_projectedPart_65 rfl 1 rfl rfl ?_
      refine wa_iconst 67 hC dX10_projectedPart_66 kc_m1 rfl ?_
      refine wa_icmp_ne 70 80 hC dX10_projectedPart_67 rfl rfl h (fun h => ?_) (fun h => ?_)
      · refine wa_iload_n 81 1 hC dX10_projectedPart_80 rfl 1 rfl rfl ?_
        obtain ⟨g_9, h⟩ := gd_some h
        refine wa_laldr 82 hC (vs34 hVC) ar34 rfl g_9 dX10_projectedPart_81 rfl ?_
        exact wa_lret hC hQ (sm1 h) (jZ (sm2 h)) dX10_projectedPart_82
      · refine wa_aload_n 71 0 hC dX10_projectedPart_70 rfl 0 rfl rfl ?_
        refine wa_getR 74 hC (vs10 hVC) (sr10_0 _) flX10_7 dX10_projectedPart_71 rfl ?_
        refine wa_bipush 76 hC dX10_projectedPart_74 kb_7 rfl ?_
        refine wa_ialdr 77 hC (vs27 hVC) ar27 rfl (by decide) dX10_projectedPart_76 rfl ?_
        refine wa_goto 81 hC dX10_projectedPart_77 rfl ?_
        obtain ⟨g_11, h⟩ := gd_some h
        refine wa_laldr 82 hC (vs34 hVC) ar34 rfl g_11 dX10_projectedPart_81 rfl ?_
        exact wa_lret hC hQ (sm1 h) (jZ (sm2 h)) dX10_projectedPart_82
    · refine wa_lconst 30 hC dX10_projectedPart_29 kl_0 rfl ?_
      exact wa_lret hC hQ (sm1 h) (jZ (sm2 h)) dX10_projectedPart_30
  clear ekj_2
  obtain ⟨kj_14, ekj_14, h⟩ := ltb_some h
  have hkj_14 : kj_14 = some (r, Z') → WA E G ρ V 0 0 (J A Z) 14 [(0, .ref (ρ 10 0)), (1, .int x1)] [.ref (ρ 10 0)] := by
    intro h
    rw [ekj_14] at h
    refine wa_iconst 15 hC dX10_projectedPart_14 kc_0 rfl ?_
    refine wa_goto 19 hC dX10_projectedPart_15 rfl ?_
    exact hkj_2 (0 : Int32) h
  clear ekj_14
  refine wa_icmp_eq 6 14 hC dX10_projectedPart_3 rfl rfl h (fun h => ?_) (fun h => ?_)
  · exact hkj_14 h
  · refine wa_aload_n 7 0 hC dX10_projectedPart_6 rfl 0 rfl rfl ?_
    refine wa_iload_n 8 1 hC dX10_projectedPart_7 rfl 1 rfl rfl ?_
    obtain ⟨r_15, e_16, h⟩ := bd_some h
    refine wa_callVi 11 hC [.int x1] [.ref (ρ 10 0)] knX10_isMember mvX10_184 (tX10_isMember E.2.1 x1 Z hVC e_16) (vs10 hVC) kc10 (Nat.le_of_ble_eq_true rfl) (Nat.le_of_ble_eq_true rfl) rfl (Nat.le_of_ble_eq_true rfl) dX10_projectedPart_8 rfl le00 rfl ?_
    refine wa_if_eq 14 18 hC dX10_projectedPart_11 rfl rfl h (fun h => ?_) (fun h => ?_)
    · refine wa_iconst 19 hC dX10_projectedPart_18 kc_1 rfl ?_
      exact hkj_2 (1 : Int32) h
    · exact hkj_14 h
set_option maxRecDepth 20000 in
theorem wX10_projects_L32 {E : eU} {G : gU} {ρ : Nat → Nat → Nat} {V : Nat → Nat → Prop} {A : sM} {Z' : sM} {k73 : sM → Option (sM)} (hC : CX E G cX10_projects 2 RX10 none 4 0 0) (hVC : VC V) (hk73 : ∀ (Z : sM), k73 Z = some Z' → WA E G ρ V 0 0 (J A Z) 73 [(0, .ref (ρ 10 0))] []) : ∀ (n : Nat) (x1 : Int32) (Z : sM), fX10_projects_L32 k73 n x1 Z = some Z' → WA E G ρ V 0 0 (J A Z) 32 [(0, .ref (ρ 10 0)), (1, .int x1)] [] := by
  intro n
  induction n with
  | zero =>
    intro x1 Z h
    rw [fX10_projects_L32] at h
    cases h
  | succ n ih =>
    intro x1 Z h
    rw [fX10_projects_L32] at h
    refine wa_iload_n 33 1 hC dX10_projects_32 rfl 1 rfl rfl ?_
    refine wa_aload_n 34 0 hC dX10_projects_33 rfl 0 rfl rfl ?_
    refine wa_getR 37 hC (vs10 hVC) (sr10_0 _) flX10_7 dX10_projects_34 rfl ?_
    refine wa_bipush 39 hC dX10_projects_37 kb_7 rfl ?_
    refine wa_ialdr 40 hC (vs27 hVC) ar27 rfl (by decide) dX10_projects_39 rfl ?_
    refine wa_icmp_ge 43 73 hC dX10_projects_40 rfl rfl h (fun h => ?_) (fun h => ?_)
    · refine wa_pick [0] rfl ?_
      exact hk73 Z h
    · refine wa_aload_n 44 0 hC dX10_projects_43 rfl 0 rfl rfl ?_
      refine wa_getR 47 hC (vs10 hVC) (sr10_21 _) flX10_46 dX10_projects_44 rfl ?_
      refine wa_iload_n 48 1 hC dX10_projects_47 rfl 1 rfl rfl ?_
      refine wa_aload_n 49 0 hC dX10_projects_48 rfl 0 rfl rfl ?_
      refine wa_iload_n 50 1 hC dX10_projects_49 rfl 1 rfl rfl ?_
      obtain ⟨r_2, e_9, h⟩ := bd_some h
      refine wa_callVi 53 hC [.int x1] [.int x1, .ref (ρ 37 0)] knX10_isActive mvX10_187 (tX10_isActive E.2.1 x1 Z hVC e_9) (vs10 hVC) kc10 (Nat.le_of_ble_eq_true rfl) (Nat.le_of_ble_eq_true rfl) rfl (Nat.le_of_ble_eq_true rfl) dX10_projects_50 rfl le00 rfl ?_
      obtain ⟨kj_4, ekj_4, h⟩ := ltb_k1 h
      have hkj_4 : ∀ (v_3 : Int64), kj_4 v_3 = some Z' → WA E G ρ V 0 0 (J A Z) 66 [(0, .ref (ρ 10 0)), (1, .int x1)] [.long v_3, .int x1, .ref (ρ 37 0)] := by
        intro v_3 h
        rw [ekj_4] at h
        obtain ⟨g_5, h⟩ := gd_some h
        obtain ⟨Z_6, eZ_6, h⟩ := ltb_some h
        refine wa_lastr 67 hC (vs37 hVC) ar37 rfl g_5 eZ_6 dX10_projects_66 rfl ?_
        obtain ⟨x1_7, ex1_7, h⟩ := ltb_some h
        refine wa_iinc (lv' := [(1, .int x1_7), (0, .ref (ρ 10 0))]) 70 1 hC dX10_projects_67 1 rfl (by rw [kc_1]; exact ex1_7) (by decide) rfl rfl ?_
        refine wa_goto 32 hC dX10_projects_70 rfl ?_
        refine wa_pick [1, 0] rfl ?_
        exact ih x1_7 Z_6 h
      clear ekj_4
      refine wa_if_eq 56 65 hC dX10_projects_53 rfl rfl h (fun h => ?_) (fun h => ?_)
      · refine wa_lconst 66 hC dX10_projects_65 kl_0 rfl ?_
        exact hkj_4 (0 : Int64) h
      · refine wa_aload_n 57 0 hC dX10_projects_56 rfl 0 rfl rfl ?_
        refine wa_getR 60 hC (vs10 hVC) (sr10_18 _) flX10_36 dX10_projects_57 rfl ?_
        refine wa_iload_n 61 1 hC dX10_projects_60 rfl 1 rfl rfl ?_
        obtain ⟨g_8, h⟩ := gd_some h
        refine wa_laldr 62 hC (vs34 hVC) ar34 rfl g_8 dX10_projects_61 rfl ?_
        refine wa_goto 66 hC dX10_projects_62 rfl ?_
        exact hkj_4 (Z.2 34 0 0 x1.toNatClampNeg) h
set_option maxRecDepth 20000 in
theorem tX10_projects (l : Launch) {G : gU} {ρ : Nat → Nat → Nat} {V : Nat → Nat → Prop} {A : sM} (Z : sM) (_ : VC V) {Z' : sM} (h : fX10_projects Z = some Z') : MT l yX10_projects cX10_projects 2 none 4 G ρ V [.ref (ρ 10 0)] (J A Z) none (J A Z') := by
  refine vv_enter (lv := [(0, .ref (ρ 10 0))]) RX10 rfl (by decide) (Nat.le_of_ble_eq_true rfl) rfl ?_
  intro E hE hC hQ hVC
  subst hE
  rw [fX10_projects] at h
  refine wa_aload_n 1 0 hC dX10_projects_0 rfl 0 rfl rfl ?_
  refine wa_aload_n 2 0 hC dX10_projects_1 rfl 0 rfl rfl ?_
  refine wa_aload_n 3 0 hC dX10_projects_2 rfl 0 rfl rfl ?_
  refine wa_getR 6 hC (vs10 hVC) (sr10_0 _) flX10_7 dX10_projects_3 rfl ?_
  refine wa_iconst 7 hC dX10_projects_6 kc_5 rfl ?_
  refine wa_ialdr 8 hC (vs27 hVC) ar27 rfl (by decide) dX10_projects_7 rfl ?_
  obtain ⟨r_2, e_10, h⟩ := bd_some h
  refine wa_callVl 11 hC [.int (Z.1 27 0 0 (5 : Int32).toNatClampNeg)] [.ref (ρ 10 0)] knX10_worthOf mvX10_237 (tX10_worthOf E.2.1 (Z.1 27 0 0 (5 : Int32).toNatClampNeg) Z hVC e_10) (vs10 hVC) kc10 (Nat.le_of_ble_eq_true rfl) (Nat.le_of_ble_eq_true rfl) rfl (Nat.le_of_ble_eq_true rfl) dX10_projects_8 rfl le00 rfl ?_
  refine wa_aload_n 12 0 hC dX10_projects_11 rfl 0 rfl rfl ?_
  refine wa_getR 15 hC (vs10 hVC) (sr10_0 _) flX10_7 dX10_projects_12 rfl ?_
  refine wa_iconst 16 hC dX10_projects_15 kc_5 rfl ?_
  refine wa_ialdr 17 hC (vs27 hVC) ar27 rfl (by decide) dX10_projects_16 rfl ?_
  refine wa_bipush 19 hC dX10_projects_17 kb_30 rfl ?_
  refine wa_aload_n 20 0 hC dX10_projects_19 rfl 0 rfl rfl ?_
  refine wa_getR 23 hC (vs10 hVC) (sr10_0 _) flX10_7 dX10_projects_20 rfl ?_
  refine wa_bipush 25 hC dX10_projects_23 kb_6 rfl ?_
  refine wa_ialdr 26 hC (vs27 hVC) ar27 rfl (by decide) dX10_projects_25 rfl ?_
  refine wa_isub 27 hC dX10_projects_26 rfl ?_
  obtain ⟨Z_5, e_9, h⟩ := bd_some h
  refine wa_callVv 30 hC [.long r_2, .int (Z.1 27 0 0 (5 : Int32).toNatClampNeg), .int ((30 : Int32) - (Z.1 27 0 0 (6 : Int32).toNatClampNeg))] [] knX10_dividesMonth mvX10_240 (tX10_dividesMonth E.2.1 r_2 (Z.1 27 0 0 (5 : Int32).toNatClampNeg) ((30 : Int32) - (Z.1 27 0 0 (6 : Int32).toNatClampNeg)) Z hVC e_9) (vs10 hVC) kc10 (Nat.le_of_ble_eq_true rfl) (Nat.le_of_ble_eq_true rfl) rfl (Nat.le_of_ble_eq_true rfl) dX10_projects_27 rfl le00 rfl ?_
  refine wa_iconst 31 hC dX10_projects_30 kc_0 rfl ?_
  refine wa_istore_n (lv' := [(1, .int (0 : Int32)), (0, .ref (ρ 10 0))]) 32 1 hC dX10_projects_31 rfl rfl (by decide) rfl rfl ?_
  refine wa_pick [1, 0] rfl ?_
  refine wX10_projects_L32 hC hVC (fun Z_6 h => ?_) 10000 (0 : Int32) Z_5 h
  refine wa_aload_n 74 0 hC dX10_projects_73 rfl 0 rfl rfl ?_
  obtain ⟨Z_7, e_8, h⟩ := bd_some h
  refine wa_callVv 77 hC [] [] knX10_passesOn mvX10_244 (tX10_passesOn E.2.1 Z_6 hVC e_8) (vs10 hVC) kc10 (Nat.le_of_ble_eq_true rfl) (Nat.le_of_ble_eq_true rfl) rfl (Nat.le_of_ble_eq_true rfl) dX10_projects_74 rfl le00 rfl ?_
  exact wa_vret hC hQ (jZ (sm0 h)) dX10_projects_77
set_option maxRecDepth 20000 in
theorem tX10_projectedCredit (l : Launch) {G : gU} {ρ : Nat → Nat → Nat} {V : Nat → Nat → Prop} {A : sM} (x1 : Int32) (Z : sM) (_ : VC V) {r : Int64} {Z' : sM} (h : fX10_projectedCredit x1 Z = some (r, Z')) : MT l yX10_projectedCredit cX10_projectedCredit 2 (some .long) 5 G ρ V [.ref (ρ 10 0), .int x1] (J A Z) (some (.long r)) (J A Z') := by
  refine vv_enter (lv := [(0, .ref (ρ 10 0)), (1, .int x1)]) RX10 rfl (by decide) (Nat.le_of_ble_eq_true rfl) rfl ?_
  intro E hE hC hQ hVC
  subst hE
  rw [fX10_projectedCredit] at h
  refine wa_aload_n 1 0 hC dX10_projectedCredit_0 rfl 0 rfl rfl ?_
  refine wa_iload_n 2 1 hC dX10_projectedCredit_1 rfl 1 rfl rfl ?_
  obtain ⟨r_2, Z_1, e_8, h⟩ := bd2_some h
  refine wa_callVi 5 hC [.int x1] [] knX10_lacks mvX10_208 (tX10_lacks E.2.1 x1 Z hVC e_8) (vs10 hVC) kc10 (Nat.le_of_ble_eq_true rfl) (Nat.le_of_ble_eq_true rfl) rfl (Nat.le_of_ble_eq_true rfl) dX10_projectedCredit_2 rfl le00 rfl ?_
  refine wa_if_ne 8 16 hC dX10_projectedCredit_5 rfl rfl h (fun h => ?_) (fun h => ?_)
  · refine wa_lconst 17 hC dX10_projectedCredit_16 kl_0 rfl ?_
    exact wa_lret hC hQ (sm1 h) (jZ (sm2 h)) dX10_projectedCredit_17
  · refine wa_aload_n 9 0 hC dX10_projectedCredit_8 rfl 0 rfl rfl ?_
    refine wa_iload_n 10 1 hC dX10_projectedCredit_9 rfl 1 rfl rfl ?_
    obtain ⟨r_3, e_7, h⟩ := bd_some h
    refine wa_callVi 13 hC [.int x1] [] knX10_isActive mvX10_187 (tX10_isActive E.2.1 x1 Z_1 hVC e_7) (vs10 hVC) kc10 (Nat.le_of_ble_eq_true rfl) (Nat.le_of_ble_eq_true rfl) rfl (Nat.le_of_ble_eq_true rfl) dX10_projectedCredit_10 rfl le00 rfl ?_
    refine wa_if_ne 16 18 hC dX10_projectedCredit_13 rfl rfl h (fun h => ?_) (fun h => ?_)
    · refine wa_aload_n 19 0 hC dX10_projectedCredit_18 rfl 0 rfl rfl ?_
      obtain ⟨Z_4, e_6, h⟩ := bd_some h
      refine wa_callVv 22 hC [] [] knX10_projects mvX10_253 (tX10_projects E.2.1 Z_1 hVC e_6) (vs10 hVC) kc10 (Nat.le_of_ble_eq_true rfl) (Nat.le_of_ble_eq_true rfl) rfl (Nat.le_of_ble_eq_true rfl) dX10_projectedCredit_19 rfl le00 rfl ?_
      refine wa_aload_n 23 0 hC dX10_projectedCredit_22 rfl 0 rfl rfl ?_
      refine wa_getR 26 hC (vs10 hVC) (sr10_21 _) flX10_46 dX10_projectedCredit_23 rfl ?_
      refine wa_iload_n 27 1 hC dX10_projectedCredit_26 rfl 1 rfl rfl ?_
      obtain ⟨g_5, h⟩ := gd_some h
      refine wa_laldr 28 hC (vs37 hVC) ar37 rfl g_5 dX10_projectedCredit_27 rfl ?_
      exact wa_lret hC hQ (sm1 h) (jZ (sm2 h)) dX10_projectedCredit_28
    · refine wa_lconst 17 hC dX10_projectedCredit_16 kl_0 rfl ?_
      exact wa_lret hC hQ (sm1 h) (jZ (sm2 h)) dX10_projectedCredit_17
set_option maxRecDepth 20000 in
theorem wX10_projectsWhole_L27 {E : eU} {G : gU} {ρ : Nat → Nat → Nat} {V : Nat → Nat → Prop} {A : sM} {Z' : sM} (x1 : Int64) {k57 : sM → Option (sM)} (hC : CX E G cX10_projectsWhole 4 RX10 none 4 0 0) (hVC : VC V) (hk57 : ∀ (Z : sM), k57 Z = some Z' → WA E G ρ V 0 0 (J A Z) 57 [(0, .ref (ρ 10 0)), (1, .long x1)] []) : ∀ (n : Nat) (x3 : Int32) (Z : sM), fX10_projectsWhole_L27 x1 k57 n x3 Z = some Z' → WA E G ρ V 0 0 (J A Z) 27 [(0, .ref (ρ 10 0)), (1, .long x1), (3, .int x3)] [] := by
  intro n
  induction n with
  | zero =>
    intro x3 Z h
    rw [fX10_projectsWhole_L27] at h
    cases h
  | succ n ih =>
    intro x3 Z h
    rw [fX10_projectsWhole_L27] at h
    refine wa_iload_n 28 3 hC dX10_projectsWhole_27 rfl 2 rfl rfl ?_
    refine wa_aload_n 29 0 hC dX10_projectsWhole_28 rfl 0 rfl rfl ?_
    refine wa_getR 32 hC (vs10 hVC) (sr10_0 _) flX10_7 dX10_projectsWhole_29 rfl ?_
    refine wa_bipush 34 hC dX10_projectsWhole_32 kb_7 rfl ?_
    refine wa_ialdr 35 hC (vs27 hVC) ar27 rfl (by decide) dX10_projectsWhole_34 rfl ?_
    refine wa_icmp_ge 38 57 hC dX10_projectsWhole_35 rfl rfl h (fun h => ?_) (fun h => ?_)
    · refine wa_pick [0, 1] rfl ?_
      exact hk57 Z h
    · refine wa_aload_n 39 0 hC dX10_projectsWhole_38 rfl 0 rfl rfl ?_
      refine wa_getR 42 hC (vs10 hVC) (sr10_17 _) flX10_33 dX10_projectsWhole_39 rfl ?_
      refine wa_iload_n 43 3 hC dX10_projectsWhole_42 rfl 2 rfl rfl ?_
      refine wa_aload_n 44 0 hC dX10_projectsWhole_43 rfl 0 rfl rfl ?_
      refine wa_iload_n 45 3 hC dX10_projectsWhole_44 rfl 2 rfl rfl ?_
      refine wa_iconst 46 hC dX10_projectsWhole_45 kc_4 rfl ?_
      obtain ⟨r_2, e_6, h⟩ := bd_some h
      refine wa_callVi 49 hC [.int x3, .int (4 : Int32)] [.int x3, .ref (ρ 33 0)] knX10_ofMember mvX10_169 (tX10_ofMember E.2.1 x3 (4 : Int32) Z hVC e_6) (vs10 hVC) kc10 (Nat.le_of_ble_eq_true rfl) (Nat.le_of_ble_eq_true rfl) rfl (Nat.le_of_ble_eq_true rfl) dX10_projectsWhole_46 rfl le00 rfl ?_
      refine wa_i2l 50 hC dX10_projectsWhole_49 rfl ?_
      obtain ⟨g_3, h⟩ := gd_some h
      obtain ⟨Z_4, eZ_4, h⟩ := ltb_some h
      refine wa_lastr 51 hC (vs33 hVC) ar33 rfl g_3 eZ_4 dX10_projectsWhole_50 rfl ?_
      obtain ⟨x3_5, ex3_5, h⟩ := ltb_some h
      refine wa_iinc (lv' := [(3, .int x3_5), (0, .ref (ρ 10 0)), (1, .long x1)]) 54 3 hC dX10_projectsWhole_51 2 rfl (by rw [kc_1]; exact ex3_5) (by decide) rfl rfl ?_
      refine wa_goto 27 hC dX10_projectsWhole_54 rfl ?_
      refine wa_pick [1, 2, 0] rfl ?_
      exact ih x3_5 Z_4 h
set_option maxRecDepth 20000 in
theorem wX10_projectsWhole_L83 {E : eU} {G : gU} {ρ : Nat → Nat → Nat} {V : Nat → Nat → Prop} {A : sM} {Z' : sM} {k124 : sM → Option (sM)} (hC : CX E G cX10_projectsWhole 4 RX10 none 4 0 0) (hVC : VC V) (hk124 : ∀ (Z : sM), k124 Z = some Z' → WA E G ρ V 0 0 (J A Z) 124 [(0, .ref (ρ 10 0))] []) : ∀ (n : Nat) (x3 : Int32) (Z : sM), fX10_projectsWhole_L83 k124 n x3 Z = some Z' → WA E G ρ V 0 0 (J A Z) 83 [(0, .ref (ρ 10 0)), (3, .int x3)] [] := by
  intro n
  induction n with
  | zero =>
    intro x3 Z h
    rw [fX10_projectsWhole_L83] at h
    cases h
  | succ n ih =>
    intro x3 Z h
    rw [fX10_projectsWhole_L83] at h
    refine wa_iload_n 84 3 hC dX10_projectsWhole_83 rfl 1 rfl rfl ?_
    refine wa_aload_n 85 0 hC dX10_projectsWhole_84 rfl 0 rfl rfl ?_
    refine wa_getR 88 hC (vs10 hVC) (sr10_0 _) flX10_7 dX10_projectsWhole_85 rfl ?_
    refine wa_bipush 90 hC dX10_projectsWhole_88 kb_7 rfl ?_
    refine wa_ialdr 91 hC (vs27 hVC) ar27 rfl (by decide) dX10_projectsWhole_90 rfl ?_
    refine wa_icmp_ge 94 124 hC dX10_projectsWhole_91 rfl rfl h (fun h => ?_) (fun h => ?_)
    · refine wa_pick [0] rfl ?_
      exact hk124 Z h
    · refine wa_aload_n 95 0 hC dX10_projectsWhole_94 rfl 0 rfl rfl ?_
      refine wa_getR 98 hC (vs10 hVC) (sr10_21 _) flX10_46 dX10_projectsWhole_95 rfl ?_
      refine wa_iload_n 99 3 hC dX10_projectsWhole_98 rfl 1 rfl rfl ?_
      refine wa_aload_n 100 0 hC dX10_projectsWhole_99 rfl 0 rfl rfl ?_
      refine wa_iload_n 101 3 hC dX10_projectsWhole_100 rfl 1 rfl rfl ?_
      obtain ⟨r_2, e_9, h⟩ := bd_some h
      refine wa_callVi 104 hC [.int x3] [.int x3, .ref (ρ 37 0)] knX10_isActive mvX10_187 (tX10_isActive E.2.1 x3 Z hVC e_9) (vs10 hVC) kc10 (Nat.le_of_ble_eq_true rfl) (Nat.le_of_ble_eq_true rfl) rfl (Nat.le_of_ble_eq_true rfl) dX10_projectsWhole_101 rfl le00 rfl ?_
      obtain ⟨kj_4, ekj_4, h⟩ := ltb_k1 h
      have hkj_4 : ∀ (v_3 : Int64), kj_4 v_3 = some Z' → WA E G ρ V 0 0 (J A Z) 117 [(0, .ref (ρ 10 0)), (3, .int x3)] [.long v_3, .int x3, .ref (ρ 37 0)] := by
        intro v_3 h
        rw [ekj_4] at h
        obtain ⟨g_5, h⟩ := gd_some h
        obtain ⟨Z_6, eZ_6, h⟩ := ltb_some h
        refine wa_lastr 118 hC (vs37 hVC) ar37 rfl g_5 eZ_6 dX10_projectsWhole_117 rfl ?_
        obtain ⟨x3_7, ex3_7, h⟩ := ltb_some h
        refine wa_iinc (lv' := [(3, .int x3_7), (0, .ref (ρ 10 0))]) 121 3 hC dX10_projectsWhole_118 1 rfl (by rw [kc_1]; exact ex3_7) (by decide) rfl rfl ?_
        refine wa_goto 83 hC dX10_projectsWhole_121 rfl ?_
        refine wa_pick [1, 0] rfl ?_
        exact ih x3_7 Z_6 h
      clear ekj_4
      refine wa_if_eq 107 116 hC dX10_projectsWhole_104 rfl rfl h (fun h => ?_) (fun h => ?_)
      · refine wa_lconst 117 hC dX10_projectsWhole_116 kl_0 rfl ?_
        exact hkj_4 (0 : Int64) h
      · refine wa_aload_n 108 0 hC dX10_projectsWhole_107 rfl 0 rfl rfl ?_
        refine wa_getR 111 hC (vs10 hVC) (sr10_18 _) flX10_36 dX10_projectsWhole_108 rfl ?_
        refine wa_iload_n 112 3 hC dX10_projectsWhole_111 rfl 1 rfl rfl ?_
        obtain ⟨g_8, h⟩ := gd_some h
        refine wa_laldr 113 hC (vs34 hVC) ar34 rfl g_8 dX10_projectsWhole_112 rfl ?_
        refine wa_goto 117 hC dX10_projectsWhole_113 rfl ?_
        exact hkj_4 (Z.2 34 0 0 x3.toNatClampNeg) h
set_option maxRecDepth 20000 in
theorem tX10_projectsWhole (l : Launch) {G : gU} {ρ : Nat → Nat → Nat} {V : Nat → Nat → Prop} {A : sM} (Z : sM) (_ : VC V) {Z' : sM} (h : fX10_projectsWhole Z = some Z') : MT l yX10_projectsWhole cX10_projectsWhole 4 none 4 G ρ V [.ref (ρ 10 0)] (J A Z) none (J A Z') := by
  refine vv_enter (lv := [(0, .ref (ρ 10 0))]) RX10 rfl (by decide) (Nat.le_of_ble_eq_true rfl) rfl ?_
  intro E hE hC hQ hVC
  subst hE
  rw [fX10_projectsWhole] at h
  refine wa_aload_n 1 0 hC dX10_projectsWhole_0 rfl 0 rfl rfl ?_
  refine wa_getR 4 hC (vs10 hVC) (sr10_0 _) flX10_7 dX10_projectsWhole_1 rfl ?_
  refine wa_iconst 5 hC dX10_projectsWhole_4 kc_0 rfl ?_
  refine wa_ialdr 6 hC (vs27 hVC) ar27 rfl (by decide) dX10_projectsWhole_5 rfl ?_
  refine wa_i2l 7 hC dX10_projectsWhole_6 rfl ?_
  obtain ⟨x1_2, ex1_2, h⟩ := ltb_some h
  refine wa_lstore_n (lv' := [(1, .long x1_2), (0, .ref (ρ 10 0))]) 8 1 hC dX10_projectsWhole_7 rfl ex1_2 (by decide) rfl rfl ?_
  refine wa_aload_n 9 0 hC dX10_projectsWhole_8 rfl 1 rfl rfl ?_
  refine wa_getR 12 hC (vs10 hVC) (sr10_17 _) flX10_33 dX10_projectsWhole_9 rfl ?_
  refine wa_aload_n 13 0 hC dX10_projectsWhole_12 rfl 1 rfl rfl ?_
  refine wa_getR 16 hC (vs10 hVC) (sr10_0 _) flX10_7 dX10_projectsWhole_13 rfl ?_
  refine wa_bipush 18 hC dX10_projectsWhole_16 kb_7 rfl ?_
  refine wa_ialdr 19 hC (vs27 hVC) ar27 rfl (by decide) dX10_projectsWhole_18 rfl ?_
  refine wa_aload_n 20 0 hC dX10_projectsWhole_19 rfl 1 rfl rfl ?_
  obtain ⟨r_4, e_17, h⟩ := bd_some h
  refine wa_callVi 23 hC [] [.int (Z.1 27 0 0 (7 : Int32).toNatClampNeg), .ref (ρ 33 0)] knX10_free mvX10_172 (tX10_free E.2.1 Z hVC e_17) (vs10 hVC) kc10 (Nat.le_of_ble_eq_true rfl) (Nat.le_of_ble_eq_true rfl) rfl (Nat.le_of_ble_eq_true rfl) dX10_projectsWhole_20 rfl le00 rfl ?_
  refine wa_i2l 24 hC dX10_projectsWhole_23 rfl ?_
  obtain ⟨g_5, h⟩ := gd_some h
  obtain ⟨Z_6, eZ_6, h⟩ := ltb_some h
  refine wa_lastr 25 hC (vs33 hVC) ar33 rfl g_5 eZ_6 dX10_projectsWhole_24 rfl ?_
  refine wa_iconst 26 hC dX10_projectsWhole_25 kc_0 rfl ?_
  refine wa_istore_n (lv' := [(3, .int (0 : Int32)), (1, .long x1_2), (0, .ref (ρ 10 0))]) 27 3 hC dX10_projectsWhole_26 rfl rfl (by decide) rfl rfl ?_
  refine wa_pick [2, 1, 0] rfl ?_
  refine wX10_projectsWhole_L27 x1_2 hC hVC (fun Z_7 h => ?_) 10000 (0 : Int32) Z_6 h
  refine wa_aload_n 58 0 hC dX10_projectsWhole_57 rfl 0 rfl rfl ?_
  refine wa_aload_n 59 0 hC dX10_projectsWhole_58 rfl 0 rfl rfl ?_
  refine wa_aload_n 60 0 hC dX10_projectsWhole_59 rfl 0 rfl rfl ?_
  refine wa_getR 63 hC (vs10 hVC) (sr10_0 _) flX10_7 dX10_projectsWhole_60 rfl ?_
  refine wa_iconst 64 hC dX10_projectsWhole_63 kc_5 rfl ?_
  refine wa_ialdr 65 hC (vs27 hVC) ar27 rfl (by decide) dX10_projectsWhole_64 rfl ?_
  obtain ⟨r_9, e_16, h⟩ := bd_some h
  refine wa_callVl 68 hC [.int (Z_7.1 27 0 0 (5 : Int32).toNatClampNeg)] [.ref (ρ 10 0)] knX10_worthOf mvX10_237 (tX10_worthOf E.2.1 (Z_7.1 27 0 0 (5 : Int32).toNatClampNeg) Z_7 hVC e_16) (vs10 hVC) kc10 (Nat.le_of_ble_eq_true rfl) (Nat.le_of_ble_eq_true rfl) rfl (Nat.le_of_ble_eq_true rfl) dX10_projectsWhole_65 rfl le00 rfl ?_
  refine wa_aload_n 69 0 hC dX10_projectsWhole_68 rfl 0 rfl rfl ?_
  refine wa_getR 72 hC (vs10 hVC) (sr10_0 _) flX10_7 dX10_projectsWhole_69 rfl ?_
  refine wa_bipush 74 hC dX10_projectsWhole_72 kb_7 rfl ?_
  refine wa_ialdr 75 hC (vs27 hVC) ar27 rfl (by decide) dX10_projectsWhole_74 rfl ?_
  refine wa_iconst 76 hC dX10_projectsWhole_75 kc_1 rfl ?_
  refine wa_iadd 77 hC dX10_projectsWhole_76 rfl ?_
  refine wa_lload_n 78 1 hC dX10_projectsWhole_77 rfl 1 rfl rfl ?_
  obtain ⟨Z_11, e_15, h⟩ := bd_some h
  refine wa_callVv 81 hC [.long r_9, .int ((Z_7.1 27 0 0 (7 : Int32).toNatClampNeg) + (1 : Int32)), .long x1_2] [] knX10_divides mvX10_226 (tX10_divides E.2.1 r_9 ((Z_7.1 27 0 0 (7 : Int32).toNatClampNeg) + (1 : Int32)) x1_2 Z_7 hVC e_15) (vs10 hVC) kc10 (Nat.le_of_ble_eq_true rfl) (Nat.le_of_ble_eq_true rfl) rfl (Nat.le_of_ble_eq_true rfl) dX10_projectsWhole_78 rfl le00 rfl ?_
  refine wa_iconst 82 hC dX10_projectsWhole_81 kc_0 rfl ?_
  refine wa_istore_n (lv' := [(3, .int (0 : Int32)), (0, .ref (ρ 10 0)), (1, .long x1_2)]) 83 3 hC dX10_projectsWhole_82 rfl rfl (by decide) rfl rfl ?_
  refine wa_pick [1, 0] rfl ?_
  refine wX10_projectsWhole_L83 hC hVC (fun Z_12 h => ?_) 10000 (0 : Int32) Z_11 h
  refine wa_aload_n 125 0 hC dX10_projectsWhole_124 rfl 0 rfl rfl ?_
  obtain ⟨Z_13, e_14, h⟩ := bd_some h
  refine wa_callVv 128 hC [] [] knX10_passesOn mvX10_244 (tX10_passesOn E.2.1 Z_12 hVC e_14) (vs10 hVC) kc10 (Nat.le_of_ble_eq_true rfl) (Nat.le_of_ble_eq_true rfl) rfl (Nat.le_of_ble_eq_true rfl) dX10_projectsWhole_125 rfl le00 rfl ?_
  exact wa_vret hC hQ (jZ (sm0 h)) dX10_projectsWhole_128
set_option maxRecDepth 20000 in
theorem wX10_pays_L5 {E : eU} {G : gU} {ρ : Nat → Nat → Nat} {V : Nat → Nat → Prop} {A : sM} {r : Int32} {Z' : sM} {k66 : Int64 → sM → Option (Int32 × sM)} (hC : CX E G cX10_pays 8 RX10 (some .boolean) 1 0 0) (hVC : VC V) (hk66 : ∀ (x3 : Int64) (Z : sM), k66 x3 Z = some (r, Z') → WA E G ρ V 0 0 (J A Z) 66 [(3, .long x3)] []) : ∀ (n : Nat) (x3 : Int64) (x5 : Int32) (Z : sM), fX10_pays_L5 k66 n x3 x5 Z = some (r, Z') → WA E G ρ V 0 0 (J A Z) 5 [(0, .ref (ρ 10 0)), (3, .long x3), (5, .int x5)] [] := by
  intro n
  induction n with
  | zero =>
    intro x3 x5 Z h
    rw [fX10_pays_L5] at h
    cases h
  | succ n ih =>
    intro x3 x5 Z h
    rw [fX10_pays_L5] at h
    refine wa_iload 7 5 hC dX10_pays_5 2 rfl rfl ?_
    refine wa_bipush 9 hC dX10_pays_7 kb_84 rfl ?_
    refine wa_icmp_ge 12 66 hC dX10_pays_9 rfl rfl h (fun h => ?_) (fun h => ?_)
    · refine wa_pick [1] rfl ?_
      exact hk66 x3 Z h
    · refine wa_lload_n 13 3 hC dX10_pays_12 rfl 1 rfl rfl ?_
      refine wa_lconst 14 hC dX10_pays_13 kl_0 rfl ?_
      refine wa_lcmp 15 hC dX10_pays_14 rfl ?_
      refine wa_lcmp_le 18 66 hC dX10_pays_15 rfl rfl h (fun h => ?_) (fun h => ?_)
      · refine wa_pick [1] rfl ?_
        exact hk66 x3 Z h
      · refine wa_aload_n 19 0 hC dX10_pays_18 rfl 0 rfl rfl ?_
        refine wa_getR 22 hC (vs10 hVC) (sr10_23 _) flX10_52 dX10_pays_19 rfl ?_
        refine wa_iload 24 5 hC dX10_pays_22 2 rfl rfl ?_
        obtain ⟨g_1, h⟩ := gd_some h
        refine wa_laldr 25 hC (vs39 hVC) ar39 rfl g_1 dX10_pays_24 rfl ?_
        refine wa_lload_n 26 3 hC dX10_pays_25 rfl 1 rfl rfl ?_
        refine wa_lcmp 27 hC dX10_pays_26 rfl ?_
        obtain ⟨kj_3, ekj_3, h⟩ := ltb_k1 h
        have hkj_3 : ∀ (v_2 : Int64), kj_3 v_2 = some (r, Z') → WA E G ρ V 0 0 (J A Z) 41 [(0, .ref (ρ 10 0)), (3, .long x3), (5, .int x5)] [.long v_2] := by
          intro v_2 h
          rw [ekj_3] at h
          refine wa_lstore (lv' := [(6, .long v_2), (0, .ref (ρ 10 0)), (3, .long x3), (5, .int x5)]) 43 6 hC dX10_pays_41 rfl (by decide) rfl rfl ?_
          refine wa_aload_n 44 0 hC dX10_pays_43 rfl 1 rfl rfl ?_
          refine wa_getR 47 hC (vs10 hVC) (sr10_23 _) flX10_52 dX10_pays_44 rfl ?_
          refine wa_iload 49 5 hC dX10_pays_47 3 rfl rfl ?_
          refine wa_dup2 50 hC dX10_pays_49 rfl rfl rfl ?_
          obtain ⟨g_4, h⟩ := gd_some h
          refine wa_laldr 51 hC (vs39 hVC) ar39 rfl g_4 dX10_pays_50 rfl ?_
          refine wa_lload 53 6 hC dX10_pays_51 0 rfl rfl ?_
          refine wa_lsub 54 hC dX10_pays_53 rfl ?_
          obtain ⟨g_5, h⟩ := gd_some h
          obtain ⟨Z_6, eZ_6, h⟩ := ltb_some h
          refine wa_lastr 55 hC (vs39 hVC) ar39 rfl g_5 eZ_6 dX10_pays_54 rfl ?_
          refine wa_lload_n 56 3 hC dX10_pays_55 rfl 2 rfl rfl ?_
          refine wa_lload 58 6 hC dX10_pays_56 0 rfl rfl ?_
          refine wa_lsub 59 hC dX10_pays_58 rfl ?_
          obtain ⟨x3_7, ex3_7, h⟩ := ltb_some h
          refine wa_lstore_n (lv' := [(3, .long x3_7), (6, .long v_2), (0, .ref (ρ 10 0)), (5, .int x5)]) 60 3 hC dX10_pays_59 rfl ex3_7 (by decide) rfl rfl ?_
          obtain ⟨x5_8, ex5_8, h⟩ := ltb_some h
          refine wa_iinc (lv' := [(5, .int x5_8), (3, .long x3_7), (6, .long v_2), (0, .ref (ρ 10 0))]) 63 5 hC dX10_pays_60 3 rfl (by rw [kc_1]; exact ex5_8) (by decide) rfl rfl ?_
          refine wa_goto 5 hC dX10_pays_63 rfl ?_
          refine wa_pick [3, 1, 0] rfl ?_
          exact ih x3_7 x5_8 Z_6 h
        clear ekj_3
        refine wa_lcmp_ge 30 40 hC dX10_pays_27 rfl rfl h (fun h => ?_) (fun h => ?_)
        · refine wa_lload_n 41 3 hC dX10_pays_40 rfl 1 rfl rfl ?_
          exact hkj_3 x3 h
        · refine wa_aload_n 31 0 hC dX10_pays_30 rfl 0 rfl rfl ?_
          refine wa_getR 34 hC (vs10 hVC) (sr10_23 _) flX10_52 dX10_pays_31 rfl ?_
          refine wa_iload 36 5 hC dX10_pays_34 2 rfl rfl ?_
          obtain ⟨g_9, h⟩ := gd_some h
          refine wa_laldr 37 hC (vs39 hVC) ar39 rfl g_9 dX10_pays_36 rfl ?_
          refine wa_goto 41 hC dX10_pays_37 rfl ?_
          exact hkj_3 (Z.2 39 0 0 x5.toNatClampNeg) h
set_option maxRecDepth 20000 in
theorem tX10_pays (l : Launch) {G : gU} {ρ : Nat → Nat → Nat} {V : Nat → Nat → Prop} {A : sM} (x1 : Int64) (Z : sM) (_ : VC V) {r : Int32} {Z' : sM} (h : fX10_pays x1 Z = some (r, Z')) : MT l yX10_pays cX10_pays 8 (some .boolean) 1 G ρ V [.ref (ρ 10 0), .long x1] (J A Z) (some (.int r)) (J A Z') := by
  refine vv_enter (lv := [(0, .ref (ρ 10 0)), (1, .long x1)]) RX10 rfl (by decide) (Nat.le_of_ble_eq_true rfl) rfl ?_
  intro E hE hC hQ hVC
  subst hE
  rw [fX10_pays] at h
  refine wa_lload_n 1 1 hC dX10_pays_0 rfl 1 rfl rfl ?_
  refine wa_lstore_n (lv' := [(3, .long x1), (0, .ref (ρ 10 0)), (1, .long x1)]) 2 3 hC dX10_pays_1 rfl rfl (by decide) rfl rfl ?_
  refine wa_iconst 3 hC dX10_pays_2 kc_0 rfl ?_
  refine wa_istore (lv' := [(5, .int (0 : Int32)), (3, .long x1), (0, .ref (ρ 10 0)), (1, .long x1)]) 5 5 hC dX10_pays_3 rfl (by decide) rfl rfl ?_
  refine wa_pick [2, 1, 0] rfl ?_
  refine wX10_pays_L5 hC hVC (fun x3_1 Z_2 h => ?_) 10000 x1 (0 : Int32) Z h
  refine wa_lload_n 67 3 hC dX10_pays_66 rfl 0 rfl rfl ?_
  refine wa_lconst 68 hC dX10_pays_67 kl_0 rfl ?_
  refine wa_lcmp 69 hC dX10_pays_68 rfl ?_
  refine wa_lcmp_ne 72 76 hC dX10_pays_69 rfl rfl h (fun h => ?_) (fun h => ?_)
  · refine wa_iconst 77 hC dX10_pays_76 kc_0 rfl ?_
    exact wa_zret hC hQ (sm1 h) (jZ (sm2 h)) rfl dX10_pays_77
  · refine wa_iconst 73 hC dX10_pays_72 kc_1 rfl ?_
    refine wa_goto 77 hC dX10_pays_73 rfl ?_
    exact wa_zret hC hQ (sm1 h) (jZ (sm2 h)) rfl dX10_pays_77
set_option maxRecDepth 20000 in
theorem wX10_forecastBalance_L54 {E : eU} {G : gU} {ρ : Nat → Nat → Nat} {V : Nat → Nat → Prop} {A : sM} {r : Int64} {Z' : sM} (x1 : Int32) (x2 : Int32) {k93 : sM → Option (Int64 × sM)} (hC : CX E G cX10_forecastBalance 12 RX10 (some .long) 5 0 0) (hVC : VC V) (hk93 : ∀ (Z : sM), k93 Z = some (r, Z') → WA E G ρ V 0 0 (J A Z) 93 [(0, .ref (ρ 10 0)), (1, .int x1), (2, .int x2)] []) : ∀ (n : Nat) (x3 : Int32) (Z : sM), fX10_forecastBalance_L54 x1 x2 k93 n x3 Z = some (r, Z') → WA E G ρ V 0 0 (J A Z) 54 [(0, .ref (ρ 10 0)), (1, .int x1), (2, .int x2), (3, .int x3)] [] := by
  intro n
  induction n with
  | zero =>
    intro x3 Z h
    rw [fX10_forecastBalance_L54] at h
    cases h
  | succ n ih =>
    intro x3 Z h
    rw [fX10_forecastBalance_L54] at h
    refine wa_iload_n 55 3 hC dX10_forecastBalance_54 rfl 3 rfl rfl ?_
    refine wa_bipush 57 hC dX10_forecastBalance_55 kb_84 rfl ?_
    refine wa_icmp_ge 60 93 hC dX10_forecastBalance_57 rfl rfl h (fun h => ?_) (fun h => ?_)
    · refine wa_pick [0, 1, 2] rfl ?_
      exact hk93 Z h
    · refine wa_aload_n 61 0 hC dX10_forecastBalance_60 rfl 0 rfl rfl ?_
      refine wa_getR 64 hC (vs10 hVC) (sr10_23 _) flX10_52 dX10_forecastBalance_61 rfl ?_
      refine wa_iload_n 65 3 hC dX10_forecastBalance_64 rfl 3 rfl rfl ?_
      refine wa_iload_n 66 3 hC dX10_forecastBalance_65 rfl 3 rfl rfl ?_
      refine wa_bipush 68 hC dX10_forecastBalance_66 kb_60 rfl ?_
      obtain ⟨kj_2, ekj_2, h⟩ := ltb_k1 h
      have hkj_2 : ∀ (v_1 : Int64), kj_2 v_1 = some (r, Z') → WA E G ρ V 0 0 (J A Z) 86 [(0, .ref (ρ 10 0)), (1, .int x1), (2, .int x2), (3, .int x3)] [.long v_1, .int x3, .ref (ρ 39 0)] := by
        intro v_1 h
        rw [ekj_2] at h
        obtain ⟨g_3, h⟩ := gd_some h
        obtain ⟨Z_4, eZ_4, h⟩ := ltb_some h
        refine wa_lastr 87 hC (vs39 hVC) ar39 rfl g_3 eZ_4 dX10_forecastBalance_86 rfl ?_
        obtain ⟨x3_5, ex3_5, h⟩ := ltb_some h
        refine wa_iinc (lv' := [(3, .int x3_5), (0, .ref (ρ 10 0)), (1, .int x1), (2, .int x2)]) 90 3 hC dX10_forecastBalance_87 3 rfl (by rw [kc_1]; exact ex3_5) (by decide) rfl rfl ?_
        refine wa_goto 54 hC dX10_forecastBalance_90 rfl ?_
        refine wa_pick [1, 2, 3, 0] rfl ?_
        exact ih x3_5 Z_4 h
      clear ekj_2
      refine wa_icmp_ge 71 85 hC dX10_forecastBalance_68 rfl rfl h (fun h => ?_) (fun h => ?_)
      · refine wa_lconst 86 hC dX10_forecastBalance_85 kl_0 rfl ?_
        exact hkj_2 (0 : Int64) h
      · refine wa_aload_n 72 0 hC dX10_forecastBalance_71 rfl 0 rfl rfl ?_
        refine wa_getR 75 hC (vs10 hVC) (sr10_3 _) flX10_19 dX10_forecastBalance_72 rfl ?_
        refine wa_aload_n 76 0 hC dX10_forecastBalance_75 rfl 0 rfl rfl ?_
        refine wa_iload_n 77 1 hC dX10_forecastBalance_76 rfl 1 rfl rfl ?_
        refine wa_iload_n 78 3 hC dX10_forecastBalance_77 rfl 3 rfl rfl ?_
        obtain ⟨r_6, e_8, h⟩ := bd_some h
        refine wa_callVi 81 hC [.int x1, .int x3] [.ref (ρ 30 0), .int x3, .ref (ρ 39 0)] knX10_lotAt mvX10_194 (tX10_lotAt E.2.1 x1 x3 Z hVC e_8) (vs10 hVC) kc10 (Nat.le_of_ble_eq_true rfl) (Nat.le_of_ble_eq_true rfl) rfl (Nat.le_of_ble_eq_true rfl) dX10_forecastBalance_78 rfl le00 rfl ?_
        obtain ⟨g_7, h⟩ := gd_some h
        refine wa_laldr 82 hC (vs30 hVC) ar30 rfl g_7 dX10_forecastBalance_81 rfl ?_
        refine wa_goto 86 hC dX10_forecastBalance_82 rfl ?_
        exact hkj_2 (Z.2 30 0 0 r_6.toNatClampNeg) h
set_option maxRecDepth 20000 in
theorem wX10_forecastBalance_L108 {E : eU} {G : gU} {ρ : Nat → Nat → Nat} {V : Nat → Nat → Prop} {A : sM} {r : Int64} {Z' : sM} (x1 : Int32) (x2 : Int32) {k234 : sM → Option (Int64 × sM)} (hC : CX E G cX10_forecastBalance 12 RX10 (some .long) 5 0 0) (hVC : VC V) (hk234 : ∀ (Z : sM), k234 Z = some (r, Z') → WA E G ρ V 0 0 (J A Z) 234 [(0, .ref (ρ 10 0))] []) : ∀ (n : Nat) (x3 : Int64) (x5 : Int32) (Z : sM), fX10_forecastBalance_L108 x1 x2 k234 n x3 x5 Z = some (r, Z') → WA E G ρ V 0 0 (J A Z) 108 [(0, .ref (ρ 10 0)), (1, .int x1), (2, .int x2), (3, .long x3), (5, .int x5)] [] := by
  intro n
  induction n with
  | zero =>
    intro x3 x5 Z h
    rw [fX10_forecastBalance_L108] at h
    cases h
  | succ n ih =>
    intro x3 x5 Z h
    rw [fX10_forecastBalance_L108] at h
    refine wa_iload 110 5 hC dX10_forecastBalance_108 4 rfl rfl ?_
    refine wa_iload_n 111 2 hC dX10_forecastBalance_110 rfl 2 rfl rfl ?_
    refine wa_icmp_ge 114 234 hC dX10_forecastBalance_111 rfl rfl h (fun h => ?_) (fun h => ?_)
    · refine wa_pick [0] rfl ?_
      exact hk234 Z h
    · refine wa_iload 116 5 hC dX10_forecastBalance_114 4 rfl rfl ?_
      obtain ⟨kj_2, ekj_2, h⟩ := ltb_k1 h
      have hkj_2 : ∀ (Z_1 : sM), kj_2 Z_1 = some (r, Z') → WA E G ρ V 0 0 (J A Z_1) 130 [(0, .ref (ρ 10 0)), (1, .int x1), (2, .int x2), (3, .long x3), (5, .int x5)] [] := by
        intro Z_1 h
        rw [ekj_2] at h
        refine wa_aload_n 131 0 hC dX10_forecastBalance_130 rfl 0 rfl rfl ?_
        refine wa_getR 134 hC (vs10 hVC) (sr10_21 _) flX10_46 dX10_forecastBalance_131 rfl ?_
        refine wa_iload_n 135 1 hC dX10_forecastBalance_134 rfl 1 rfl rfl ?_
        obtain ⟨g_3, h⟩ := gd_some h
        refine wa_laldr 136 hC (vs37 hVC) ar37 rfl g_3 dX10_forecastBalance_135 rfl ?_
        obtain ⟨x6_4, ex6_4, h⟩ := ltb_some h
        refine wa_lstore (lv' := [(6, .long x6_4), (0, .ref (ρ 10 0)), (1, .int x1), (2, .int x2), (3, .long x3), (5, .int x5)]) 138 6 hC dX10_forecastBalance_136 ex6_4 (by decide) rfl rfl ?_
        refine wa_lload_n 139 3 hC dX10_forecastBalance_138 rfl 4 rfl rfl ?_
        refine wa_lload 141 6 hC dX10_forecastBalance_139 0 rfl rfl ?_
        refine wa_lcmp 142 hC dX10_forecastBalance_141 rfl ?_
        obtain ⟨kj_6, ekj_6, h⟩ := ltb_k1 h
        have hkj_6 : ∀ (v_5 : Int64), kj_6 v_5 = some (r, Z') → WA E G ρ V 0 0 (J A Z_1) 151 [(0, .ref (ρ 10 0)), (1, .int x1), (2, .int x2), (3, .long x3), (5, .int x5), (6, .long x6_4)] [.long v_5] := by
          intro v_5 h
          rw [ekj_6] at h
          refine wa_lstore (lv' := [(8, .long v_5), (0, .ref (ρ 10 0)), (1, .int x1), (2, .int x2), (3, .long x3), (5, .int x5), (6, .long x6_4)]) 153 8 hC dX10_forecastBalance_151 rfl (by decide) rfl rfl ?_
          refine wa_lload_n 154 3 hC dX10_forecastBalance_153 rfl 4 rfl rfl ?_
          refine wa_lload 156 8 hC dX10_forecastBalance_154 0 rfl rfl ?_
          refine wa_lsub 157 hC dX10_forecastBalance_156 rfl ?_
          obtain ⟨x3_7, ex3_7, h⟩ := ltb_some h
          refine wa_lstore_n (lv' := [(3, .long x3_7), (8, .long v_5), (0, .ref (ρ 10 0)), (1, .int x1), (2, .int x2), (5, .int x5), (6, .long x6_4)]) 158 3 hC dX10_forecastBalance_157 rfl ex3_7 (by decide) rfl rfl ?_
          refine wa_aload_n 159 0 hC dX10_forecastBalance_158 rfl 2 rfl rfl ?_
          refine wa_getR 162 hC (vs10 hVC) (sr10_23 _) flX10_52 dX10_forecastBalance_159 rfl ?_
          refine wa_aload_n 163 0 hC dX10_forecastBalance_162 rfl 2 rfl rfl ?_
          refine wa_getR 166 hC (vs10 hVC) (sr10_0 _) flX10_7 dX10_forecastBalance_163 rfl ?_
          refine wa_iconst 167 hC dX10_forecastBalance_166 kc_5 rfl ?_
          refine wa_ialdr 168 hC (vs27 hVC) ar27 rfl (by decide) dX10_forecastBalance_167 rfl ?_
          refine wa_iload 170 5 hC dX10_forecastBalance_168 5 rfl rfl ?_
          refine wa_iadd 171 hC dX10_forecastBalance_170 rfl ?_
          refine wa_dup2 172 hC dX10_forecastBalance_171 rfl rfl rfl ?_
          obtain ⟨g_9, h⟩ := gd_some h
          refine wa_laldr 173 hC (vs39 hVC) ar39 rfl g_9 dX10_forecastBalance_172 rfl ?_
          refine wa_lload 175 6 hC dX10_forecastBalance_173 6 rfl rfl ?_
          refine wa_lload 177 8 hC dX10_forecastBalance_175 1 rfl rfl ?_
          refine wa_lsub 178 hC dX10_forecastBalance_177 rfl ?_
          refine wa_ladd 179 hC dX10_forecastBalance_178 rfl ?_
          obtain ⟨g_10, h⟩ := gd_some h
          obtain ⟨Z_11, eZ_11, h⟩ := ltb_some h
          refine wa_lastr 180 hC (vs39 hVC) ar39 rfl g_10 eZ_11 dX10_forecastBalance_179 rfl ?_
          refine wa_aload_n 181 0 hC dX10_forecastBalance_180 rfl 2 rfl rfl ?_
          refine wa_aload_n 182 0 hC dX10_forecastBalance_181 rfl 2 rfl rfl ?_
          refine wa_getR 185 hC (vs10 hVC) (sr10_3 _) flX10_19 dX10_forecastBalance_182 rfl ?_
          refine wa_aload_n 186 0 hC dX10_forecastBalance_185 rfl 2 rfl rfl ?_
          refine wa_iload_n 187 1 hC dX10_forecastBalance_186 rfl 3 rfl rfl ?_
          refine wa_iconst 188 hC dX10_forecastBalance_187 kc_1 rfl ?_
          obtain ⟨r_12, e_25, h⟩ := bd_some h
          refine wa_callVi 191 hC [.int x1, .int (1 : Int32)] [.ref (ρ 30 0), .ref (ρ 10 0)] knX10_accountAt mvX10_197 (tX10_accountAt E.2.1 x1 (1 : Int32) Z_11 hVC e_25) (vs10 hVC) kc10 (Nat.le_of_ble_eq_true rfl) (Nat.le_of_ble_eq_true rfl) rfl (Nat.le_of_ble_eq_true rfl) dX10_forecastBalance_188 rfl le00 rfl ?_
          obtain ⟨g_13, h⟩ := gd_some h
          refine wa_laldr 192 hC (vs30 hVC) ar30 rfl g_13 dX10_forecastBalance_191 rfl ?_
          obtain ⟨r_15, Z_14, e_24, h⟩ := bd2_some h
          refine wa_callVi 195 hC [.long (Z_11.2 30 0 0 r_12.toNatClampNeg)] [] knX10_pays mvX10_261 (tX10_pays E.2.1 (Z_11.2 30 0 0 r_12.toNatClampNeg) Z_11 hVC e_24) (vs10 hVC) kc10 (Nat.le_of_ble_eq_true rfl) (Nat.le_of_ble_eq_true rfl) rfl (Nat.le_of_ble_eq_true rfl) dX10_forecastBalance_192 rfl le00 rfl ?_
          refine wa_istore (lv' := [(10, .int r_15), (3, .long x3_7), (8, .long v_5), (0, .ref (ρ 10 0)), (1, .int x1), (2, .int x2), (5, .int x5), (6, .long x6_4)]) 197 10 hC dX10_forecastBalance_195 rfl (by decide) rfl rfl ?_
          refine wa_aload_n 198 0 hC dX10_forecastBalance_197 rfl 3 rfl rfl ?_
          refine wa_getR 201 hC (vs10 hVC) (sr10_0 _) flX10_7 dX10_forecastBalance_198 rfl ?_
          refine wa_iconst 202 hC dX10_forecastBalance_201 kc_5 rfl ?_
          refine wa_ialdr 203 hC (vs27 hVC) ar27 rfl (by decide) dX10_forecastBalance_202 rfl ?_
          refine wa_iload 205 5 hC dX10_forecastBalance_203 6 rfl rfl ?_
          refine wa_iadd 206 hC dX10_forecastBalance_205 rfl ?_
          refine wa_aload_n 207 0 hC dX10_forecastBalance_206 rfl 3 rfl rfl ?_
          refine wa_getR 210 hC (vs10 hVC) (sr10_0 _) flX10_7 dX10_forecastBalance_207 rfl ?_
          refine wa_iconst 211 hC dX10_forecastBalance_210 kc_1 rfl ?_
          refine wa_ialdr 212 hC (vs27 hVC) ar27 rfl (by decide) dX10_forecastBalance_211 rfl ?_
          refine wa_isub 213 hC dX10_forecastBalance_212 rfl ?_
          obtain ⟨x11_18, ex11_18, h⟩ := ltb_some h
          refine wa_istore (lv' := [(11, .int x11_18), (10, .int r_15), (3, .long x3_7), (8, .long v_5), (0, .ref (ρ 10 0)), (1, .int x1), (2, .int x2), (5, .int x5), (6, .long x6_4)]) 215 11 hC dX10_forecastBalance_213 ex11_18 (by decide) rfl rfl ?_
          refine wa_iload 217 11 hC dX10_forecastBalance_215 0 rfl rfl ?_
          obtain ⟨kj_20, ekj_20, h⟩ := ltb_k1 h
          have hkj_20 : ∀ (Z_19 : sM), kj_20 Z_19 = some (r, Z') → WA E G ρ V 0 0 (J A Z_19) 228 [(0, .ref (ρ 10 0)), (1, .int x1), (2, .int x2), (3, .long x3_7), (5, .int x5)] [] := by
            intro Z_19 h
            rw [ekj_20] at h
            obtain ⟨x5_21, ex5_21, h⟩ := ltb_some h
            refine wa_iinc (lv' := [(5, .int x5_21), (0, .ref (ρ 10 0)), (1, .int x1), (2, .int x2), (3, .long x3_7)]) 231 5 hC dX10_forecastBalance_228 4 rfl (by rw [kc_1]; exact ex5_21) (by decide) rfl rfl ?_
            refine wa_goto 108 hC dX10_forecastBalance_231 rfl ?_
            refine wa_pick [1, 2, 3, 4, 0] rfl ?_
            exact ih x3_7 x5_21 Z_19 h
          clear ekj_20
          refine wa_if_lt 220 228 hC dX10_forecastBalance_217 rfl rfl h (fun h => ?_) (fun h => ?_)
          · refine wa_pick [4, 5, 6, 2, 7] rfl ?_
            exact hkj_20 Z_14 h
          · refine wa_aload_n 221 0 hC dX10_forecastBalance_220 rfl 4 rfl rfl ?_
            refine wa_getR 224 hC (vs10 hVC) (sr10_23 _) flX10_52 dX10_forecastBalance_221 rfl ?_
            refine wa_iload 226 11 hC dX10_forecastBalance_224 0 rfl rfl ?_
            refine wa_lconst 227 hC dX10_forecastBalance_226 kl_0 rfl ?_
            obtain ⟨g_22, h⟩ := gd_some h
            obtain ⟨Z_23, eZ_23, h⟩ := ltb_some h
            refine wa_lastr 228 hC (vs39 hVC) ar39 rfl g_22 eZ_23 dX10_forecastBalance_227 rfl ?_
            refine wa_pick [4, 5, 6, 2, 7] rfl ?_
            exact hkj_20 Z_23 h
        clear ekj_6
        refine wa_lcmp_ge 145 149 hC dX10_forecastBalance_142 rfl rfl h (fun h => ?_) (fun h => ?_)
        · refine wa_lload 151 6 hC dX10_forecastBalance_149 0 rfl rfl ?_
          refine wa_pick [1, 2, 3, 4, 5, 0] rfl ?_
          exact hkj_6 x6_4 h
        · refine wa_lload_n 146 3 hC dX10_forecastBalance_145 rfl 4 rfl rfl ?_
          refine wa_goto 151 hC dX10_forecastBalance_146 rfl ?_
          refine wa_pick [1, 2, 3, 4, 5, 0] rfl ?_
          exact hkj_6 x3 h
      clear ekj_2
      refine wa_if_ne 119 126 hC dX10_forecastBalance_116 rfl rfl h (fun h => ?_) (fun h => ?_)
      · refine wa_aload_n 127 0 hC dX10_forecastBalance_126 rfl 0 rfl rfl ?_
        obtain ⟨Z_26, e_27, h⟩ := bd_some h
        refine wa_callVv 130 hC [] [] knX10_projectsWhole mvX10_258 (tX10_projectsWhole E.2.1 Z hVC e_27) (vs10 hVC) kc10 (Nat.le_of_ble_eq_true rfl) (Nat.le_of_ble_eq_true rfl) rfl (Nat.le_of_ble_eq_true rfl) dX10_forecastBalance_127 rfl le00 rfl ?_
        exact hkj_2 Z_26 h
      · refine wa_aload_n 120 0 hC dX10_forecastBalance_119 rfl 0 rfl rfl ?_
        obtain ⟨Z_28, e_29, h⟩ := bd_some h
        refine wa_callVv 123 hC [] [] knX10_projects mvX10_253 (tX10_projects E.2.1 Z hVC e_29) (vs10 hVC) kc10 (Nat.le_of_ble_eq_true rfl) (Nat.le_of_ble_eq_true rfl) rfl (Nat.le_of_ble_eq_true rfl) dX10_forecastBalance_120 rfl le00 rfl ?_
        refine wa_goto 130 hC dX10_forecastBalance_123 rfl ?_
        exact hkj_2 Z_28 h
set_option maxRecDepth 20000 in
theorem wX10_forecastBalance_L240 {E : eU} {G : gU} {ρ : Nat → Nat → Nat} {V : Nat → Nat → Prop} {A : sM} {r : Int64} {Z' : sM} (Z : sM) {k265 : Int64 → Option (Int64 × sM)} (hC : CX E G cX10_forecastBalance 12 RX10 (some .long) 5 0 0) (hVC : VC V) (hk265 : ∀ (x5 : Int64), k265 x5 = some (r, Z') → WA E G ρ V 0 0 (J A Z) 265 [(5, .long x5)] []) : ∀ (n : Nat) (x5 : Int64) (x7 : Int32), fX10_forecastBalance_L240 Z k265 n x5 x7 = some (r, Z') → WA E G ρ V 0 0 (J A Z) 240 [(0, .ref (ρ 10 0)), (5, .long x5), (7, .int x7)] [] := by
  intro n
  induction n with
  | zero =>
    intro x5 x7 h
    rw [fX10_forecastBalance_L240] at h
    cases h
  | succ n ih =>
    intro x5 x7 h
    rw [fX10_forecastBalance_L240] at h
    refine wa_iload 242 7 hC dX10_forecastBalance_240 2 rfl rfl ?_
    refine wa_bipush 244 hC dX10_forecastBalance_242 kb_84 rfl ?_
    refine wa_icmp_ge 247 265 hC dX10_forecastBalance_244 rfl rfl h (fun h => ?_) (fun h => ?_)
    · refine wa_pick [1] rfl ?_
      exact hk265 x5 h
    · refine wa_lload 249 5 hC dX10_forecastBalance_247 1 rfl rfl ?_
      refine wa_aload_n 250 0 hC dX10_forecastBalance_249 rfl 0 rfl rfl ?_
      refine wa_getR 253 hC (vs10 hVC) (sr10_23 _) flX10_52 dX10_forecastBalance_250 rfl ?_
      refine wa_iload 255 7 hC dX10_forecastBalance_253 2 rfl rfl ?_
      obtain ⟨g_1, h⟩ := gd_some h
      refine wa_laldr 256 hC (vs39 hVC) ar39 rfl g_1 dX10_forecastBalance_255 rfl ?_
      refine wa_ladd 257 hC dX10_forecastBalance_256 rfl ?_
      obtain ⟨x5_2, ex5_2, h⟩ := ltb_some h
      refine wa_lstore (lv' := [(5, .long x5_2), (0, .ref (ρ 10 0)), (7, .int x7)]) 259 5 hC dX10_forecastBalance_257 ex5_2 (by decide) rfl rfl ?_
      obtain ⟨x7_3, ex7_3, h⟩ := ltb_some h
      refine wa_iinc (lv' := [(7, .int x7_3), (5, .long x5_2), (0, .ref (ρ 10 0))]) 262 7 hC dX10_forecastBalance_259 2 rfl (by rw [kc_1]; exact ex7_3) (by decide) rfl rfl ?_
      refine wa_goto 240 hC dX10_forecastBalance_262 rfl ?_
      refine wa_pick [2, 1, 0] rfl ?_
      exact ih x5_2 x7_3 h
set_option maxRecDepth 20000 in
theorem tX10_forecastBalance (l : Launch) {G : gU} {ρ : Nat → Nat → Nat} {V : Nat → Nat → Prop} {A : sM} (x1 : Int32) (x2 : Int32) (Z : sM) (_ : VC V) {r : Int64} {Z' : sM} (h : fX10_forecastBalance x1 x2 Z = some (r, Z')) : MT l yX10_forecastBalance cX10_forecastBalance 12 (some .long) 5 G ρ V [.ref (ρ 10 0), .int x1, .int x2] (J A Z) (some (.long r)) (J A Z') := by
  refine vv_enter (lv := [(0, .ref (ρ 10 0)), (1, .int x1), (2, .int x2)]) RX10 rfl (by decide) (Nat.le_of_ble_eq_true rfl) rfl ?_
  intro E hE hC hQ hVC
  subst hE
  rw [fX10_forecastBalance] at h
  refine wa_aload_n 1 0 hC dX10_forecastBalance_0 rfl 0 rfl rfl ?_
  refine wa_aload_n 2 0 hC dX10_forecastBalance_1 rfl 0 rfl rfl ?_
  refine wa_iload_n 3 1 hC dX10_forecastBalance_2 rfl 1 rfl rfl ?_
  obtain ⟨r_1, e_16, h⟩ := bd_some h
  refine wa_callVi 6 hC [.int x1] [.ref (ρ 10 0)] knX10_isMember mvX10_184 (tX10_isMember E.2.1 x1 Z hVC e_16) (vs10 hVC) kc10 (Nat.le_of_ble_eq_true rfl) (Nat.le_of_ble_eq_true rfl) rfl (Nat.le_of_ble_eq_true rfl) dX10_forecastBalance_3 rfl le00 rfl ?_
  obtain ⟨kj_3, ekj_3, h⟩ := ltb_k1 h
  have hkj_3 : ∀ (v_2 : Int32), kj_3 v_2 = some (r, Z') → WA E G ρ V 0 0 (J A Z) 30 [(0, .ref (ρ 10 0)), (1, .int x1), (2, .int x2)] [.int v_2, .ref (ρ 10 0)] := by
    intro v_2 h
    rw [ekj_3] at h
    obtain ⟨Z_4, eZ_4, h⟩ := ltb_some h
    refine wa_putIr 33 hC (vs10 hVC) nk10 eZ_4 sh10_6 rfl fpX10_63 dX10_forecastBalance_30 rfl ?_
    refine wa_aload_n 34 0 hC dX10_forecastBalance_33 rfl 0 rfl rfl ?_
    refine wa_getIr 37 hC (vs10 hVC) sh10_6 rfl flX10_63 dX10_forecastBalance_34 rfl ?_
    refine wa_if_le 40 42 hC dX10_forecastBalance_37 rfl rfl h (fun h => ?_) (fun h => ?_)
    · refine wa_aload_n 43 0 hC dX10_forecastBalance_42 rfl 0 rfl rfl ?_
      refine wa_iload_n 44 1 hC dX10_forecastBalance_43 rfl 1 rfl rfl ?_
      obtain ⟨r_5, e_13, h⟩ := bd_some h
      refine wa_callVi 47 hC [.int x1] [] knX10_isActive mvX10_187 (tX10_isActive E.2.1 x1 Z_4 hVC e_13) (vs10 hVC) kc10 (Nat.le_of_ble_eq_true rfl) (Nat.le_of_ble_eq_true rfl) rfl (Nat.le_of_ble_eq_true rfl) dX10_forecastBalance_44 rfl le00 rfl ?_
      refine wa_if_ne 50 52 hC dX10_forecastBalance_47 rfl rfl h (fun h => ?_) (fun h => ?_)
      · refine wa_iconst 53 hC dX10_forecastBalance_52 kc_0 rfl ?_
        refine wa_istore_n (lv' := [(3, .int (0 : Int32)), (0, .ref (ρ 10 0)), (1, .int x1), (2, .int x2)]) 54 3 hC dX10_forecastBalance_53 rfl rfl (by decide) rfl rfl ?_
        refine wa_pick [1, 2, 3, 0] rfl ?_
        refine wX10_forecastBalance_L54 x1 x2 hC hVC (fun Z_6 h => ?_) 10000 (0 : Int32) Z_4 h
        refine wa_aload_n 94 0 hC dX10_forecastBalance_93 rfl 0 rfl rfl ?_
        refine wa_getR 97 hC (vs10 hVC) (sr10_3 _) flX10_19 dX10_forecastBalance_94 rfl ?_
        refine wa_aload_n 98 0 hC dX10_forecastBalance_97 rfl 0 rfl rfl ?_
        refine wa_iload_n 99 1 hC dX10_forecastBalance_98 rfl 1 rfl rfl ?_
        refine wa_iconst 100 hC dX10_forecastBalance_99 kc_0 rfl ?_
        obtain ⟨r_7, e_12, h⟩ := bd_some h
        refine wa_callVi 103 hC [.int x1, .int (0 : Int32)] [.ref (ρ 30 0)] knX10_accountAt mvX10_197 (tX10_accountAt E.2.1 x1 (0 : Int32) Z_6 hVC e_12) (vs10 hVC) kc10 (Nat.le_of_ble_eq_true rfl) (Nat.le_of_ble_eq_true rfl) rfl (Nat.le_of_ble_eq_true rfl) dX10_forecastBalance_100 rfl le00 rfl ?_
        obtain ⟨g_8, h⟩ := gd_some h
        refine wa_laldr 104 hC (vs30 hVC) ar30 rfl g_8 dX10_forecastBalance_103 rfl ?_
        obtain ⟨x3_9, ex3_9, h⟩ := ltb_some h
        refine wa_lstore_n (lv' := [(3, .long x3_9), (0, .ref (ρ 10 0)), (1, .int x1), (2, .int x2)]) 105 3 hC dX10_forecastBalance_104 rfl ex3_9 (by decide) rfl rfl ?_
        refine wa_iconst 106 hC dX10_forecastBalance_105 kc_0 rfl ?_
        refine wa_istore (lv' := [(5, .int (0 : Int32)), (3, .long x3_9), (0, .ref (ρ 10 0)), (1, .int x1), (2, .int x2)]) 108 5 hC dX10_forecastBalance_106 rfl (by decide) rfl rfl ?_
        refine wa_pick [2, 3, 4, 1, 0] rfl ?_
        refine wX10_forecastBalance_L108 x1 x2 hC hVC (fun Z_10 h => ?_) 10000 x3_9 (0 : Int32) Z_6 h
        refine wa_lconst 235 hC dX10_forecastBalance_234 kl_0 rfl ?_
        refine wa_lstore (lv' := [(5, .long (0 : Int64)), (0, .ref (ρ 10 0))]) 237 5 hC dX10_forecastBalance_235 rfl (by decide) rfl rfl ?_
        refine wa_iconst 238 hC dX10_forecastBalance_237 kc_0 rfl ?_
        refine wa_istore (lv' := [(7, .int (0 : Int32)), (5, .long (0 : Int64)), (0, .ref (ρ 10 0))]) 240 7 hC dX10_forecastBalance_238 rfl (by decide) rfl rfl ?_
        refine wa_pick [2, 1, 0] rfl ?_
        refine wX10_forecastBalance_L240 Z_10 hC hVC (fun x5_11 h => ?_) 10000 (0 : Int64) (0 : Int32) h
        refine wa_lload 267 5 hC dX10_forecastBalance_265 0 rfl rfl ?_
        exact wa_lret hC hQ (sm1 h) (jZ (sm2 h)) dX10_forecastBalance_267
      · refine wa_lconst 51 hC dX10_forecastBalance_50 kl_0 rfl ?_
        exact wa_lret hC hQ (sm1 h) (jZ (sm2 h)) dX10_forecastBalance_51
    · refine wa_lconst 41 hC dX10_forecastBalance_40 kl_0 rfl ?_
      exact wa_lret hC hQ (sm1 h) (jZ (sm2 h)) dX10_forecastBalance_41
  clear ekj_3
  refine wa_if_ne 9 13 hC dX10_forecastBalance_6 rfl rfl h (fun h => ?_) (fun h => ?_)
  · refine wa_iload_n 14 2 hC dX10_forecastBalance_13 rfl 2 rfl rfl ?_
    refine wa_i2l 15 hC dX10_forecastBalance_14 rfl ?_
    refine wa_lconst 16 hC dX10_forecastBalance_15 kl_1 rfl ?_
    refine wa_ldc2 19 hC dX10_forecastBalance_16 lcX10_256 rfl ?_
    obtain ⟨r_14, e_15, h⟩ := bd_some h
    refine wa_callSi 22 hC [.long (x2.toInt64), .long (1 : Int64), .long (12 : Int64)] [.ref (ρ 10 0)] knX10_isIn msX10_104 (tX10_isIn E.2.1 (x2.toInt64) (1 : Int64) (12 : Int64) Z hVC e_15) (Nat.le_of_ble_eq_true rfl) (Nat.le_of_ble_eq_true rfl) rfl (Nat.le_of_ble_eq_true rfl) dX10_forecastBalance_19 rfl le00 rfl ?_
    refine wa_if_ne 25 29 hC dX10_forecastBalance_22 rfl rfl h (fun h => ?_) (fun h => ?_)
    · refine wa_iconst 30 hC dX10_forecastBalance_29 kc_0 rfl ?_
      exact hkj_3 (0 : Int32) h
    · refine wa_iconst 26 hC dX10_forecastBalance_25 kc_2 rfl ?_
      refine wa_goto 30 hC dX10_forecastBalance_26 rfl ?_
      exact hkj_3 (2 : Int32) h
  · refine wa_iconst 10 hC dX10_forecastBalance_9 kc_1 rfl ?_
    refine wa_goto 30 hC dX10_forecastBalance_10 rfl ?_
    exact hkj_3 (1 : Int32) h
set_option maxRecDepth 20000 in
theorem wX10_neededRate_L97 {E : eU} {G : gU} {ρ : Nat → Nat → Nat} {V : Nat → Nat → Prop} {A : sM} {r : Int32} {Z' : sM} (x1 : Int32) (x3 : Int64) (x5 : Int64) (x7 : Int64) {k160 : Int32 → sM → Option (Int32 × sM)} {k169 : sM → Option (Int32 × sM)} (hC : CX E G cX10_neededRate 10 RX10 (some .int) 3 0 0) (hVC : VC V) (hk160 : ∀ (x9 : Int32) (Z : sM), k160 x9 Z = some (r, Z') → WA E G ρ V 0 0 (J A Z) 160 [(9, .int x9)] []) (hk169 : ∀ (Z : sM), k169 Z = some (r, Z') → WA E G ρ V 0 0 (J A Z) 169 [(0, .ref (ρ 10 0))] []) : ∀ (n : Nat) (x9 : Int32) (Z : sM), fX10_neededRate_L97 x1 x3 x5 x7 k160 k169 n x9 Z = some (r, Z') → WA E G ρ V 0 0 (J A Z) 97 [(0, .ref (ρ 10 0)), (1, .int x1), (3, .long x3), (5, .long x5), (7, .long x7), (9, .int x9)] [] := by
  intro n
  induction n with
  | zero =>
    intro x9 Z h
    rw [fX10_neededRate_L97] at h
    cases h
  | succ n ih =>
    intro x9 Z h
    rw [fX10_neededRate_L97] at h
    refine wa_iload 99 9 hC dX10_neededRate_97 5 rfl rfl ?_
    refine wa_sipush 102 hC dX10_neededRate_99 ks_200 rfl ?_
    refine wa_icmp_gt 105 169 hC dX10_neededRate_102 rfl rfl h (fun h => ?_) (fun h => ?_)
    · refine wa_pick [0] rfl ?_
      exact hk169 Z h
    · refine wa_aload_n 106 0 hC dX10_neededRate_105 rfl 0 rfl rfl ?_
      refine wa_lload 108 7 hC dX10_neededRate_106 4 rfl rfl ?_
      refine wa_lload 110 5 hC dX10_neededRate_108 3 rfl rfl ?_
      refine wa_iload 112 9 hC dX10_neededRate_110 5 rfl rfl ?_
      refine wa_i2l 113 hC dX10_neededRate_112 rfl ?_
      refine wa_lmul 114 hC dX10_neededRate_113 rfl ?_
      refine wa_ladd 115 hC dX10_neededRate_114 rfl ?_
      refine wa_aload_n 116 0 hC dX10_neededRate_115 rfl 0 rfl rfl ?_
      refine wa_getR 119 hC (vs10 hVC) (sr10_0 _) flX10_7 dX10_neededRate_116 rfl ?_
      refine wa_iconst 120 hC dX10_neededRate_119 kc_5 rfl ?_
      refine wa_ialdr 121 hC (vs27 hVC) ar27 rfl (by decide) dX10_neededRate_120 rfl ?_
      refine wa_bipush 123 hC dX10_neededRate_121 kb_30 rfl ?_
      refine wa_aload_n 124 0 hC dX10_neededRate_123 rfl 0 rfl rfl ?_
      refine wa_getR 127 hC (vs10 hVC) (sr10_0 _) flX10_7 dX10_neededRate_124 rfl ?_
      refine wa_bipush 129 hC dX10_neededRate_127 kb_6 rfl ?_
      refine wa_ialdr 130 hC (vs27 hVC) ar27 rfl (by decide) dX10_neededRate_129 rfl ?_
      refine wa_isub 131 hC dX10_neededRate_130 rfl ?_
      obtain ⟨Z_3, e_9, h⟩ := bd_some h
      refine wa_callVv 134 hC [.long (x7 + (x5 * (x9.toInt64))), .int (Z.1 27 0 0 (5 : Int32).toNatClampNeg), .int ((30 : Int32) - (Z.1 27 0 0 (6 : Int32).toNatClampNeg))] [] knX10_dividesMonth mvX10_240 (tX10_dividesMonth E.2.1 (x7 + (x5 * (x9.toInt64))) (Z.1 27 0 0 (5 : Int32).toNatClampNeg) ((30 : Int32) - (Z.1 27 0 0 (6 : Int32).toNatClampNeg)) Z hVC e_9) (vs10 hVC) kc10 (Nat.le_of_ble_eq_true rfl) (Nat.le_of_ble_eq_true rfl) rfl (Nat.le_of_ble_eq_true rfl) dX10_neededRate_131 rfl le00 rfl ?_
      refine wa_aload_n 135 0 hC dX10_neededRate_134 rfl 0 rfl rfl ?_
      refine wa_getR 138 hC (vs10 hVC) (sr10_18 _) flX10_36 dX10_neededRate_135 rfl ?_
      refine wa_iload_n 139 1 hC dX10_neededRate_138 rfl 1 rfl rfl ?_
      refine wa_iconst 140 hC dX10_neededRate_139 kc_m1 rfl ?_
      obtain ⟨kj_5, ekj_5, h⟩ := ltb_k1 h
      have hkj_5 : ∀ (v_4 : Int32), kj_5 v_4 = some (r, Z') → WA E G ρ V 0 0 (J A Z_3) 154 [(0, .ref (ρ 10 0)), (1, .int x1), (3, .long x3), (5, .long x5), (7, .long x7), (9, .int x9)] [.int v_4, .ref (ρ 34 0)] := by
        intro v_4 h
        rw [ekj_5] at h
        obtain ⟨g_6, h⟩ := gd_some h
        refine wa_laldr 155 hC (vs34 hVC) ar34 rfl g_6 dX10_neededRate_154 rfl ?_
        refine wa_lload_n 156 3 hC dX10_neededRate_155 rfl 2 rfl rfl ?_
        refine wa_lcmp 157 hC dX10_neededRate_156 rfl ?_
        refine wa_lcmp_lt 160 163 hC dX10_neededRate_157 rfl rfl h (fun h => ?_) (fun h => ?_)
        · obtain ⟨x9_7, ex9_7, h⟩ := ltb_some h
          refine wa_iinc (lv' := [(9, .int x9_7), (0, .ref (ρ 10 0)), (1, .int x1), (3, .long x3), (5, .long x5), (7, .long x7)]) 166 9 hC dX10_neededRate_163 5 rfl (by rw [kc_1]; exact ex9_7) (by decide) rfl rfl ?_
          refine wa_goto 97 hC dX10_neededRate_166 rfl ?_
          refine wa_pick [1, 2, 3, 4, 5, 0] rfl ?_
          exact ih x9_7 Z_3 h
        · refine wa_pick [5] rfl ?_
          exact hk160 x9 Z_3 h
      clear ekj_5
      refine wa_icmp_ne 143 153 hC dX10_neededRate_140 rfl rfl h (fun h => ?_) (fun h => ?_)
      · refine wa_iload_n 154 1 hC dX10_neededRate_153 rfl 1 rfl rfl ?_
        exact hkj_5 x1 h
      · refine wa_aload_n 144 0 hC dX10_neededRate_143 rfl 0 rfl rfl ?_
        refine wa_getR 147 hC (vs10 hVC) (sr10_0 _) flX10_7 dX10_neededRate_144 rfl ?_
        refine wa_bipush 149 hC dX10_neededRate_147 kb_7 rfl ?_
        refine wa_ialdr 150 hC (vs27 hVC) ar27 rfl (by decide) dX10_neededRate_149 rfl ?_
        refine wa_goto 154 hC dX10_neededRate_150 rfl ?_
        exact hkj_5 (Z_3.1 27 0 0 (7 : Int32).toNatClampNeg) h
set_option maxRecDepth 20000 in
theorem tX10_neededRate (l : Launch) {G : gU} {ρ : Nat → Nat → Nat} {V : Nat → Nat → Prop} {A : sM} (x1 : Int32) (x2 : Int32) (x3 : Int64) (Z : sM) (_ : VC V) {r : Int32} {Z' : sM} (h : fX10_neededRate x1 x2 x3 Z = some (r, Z')) : MT l yX10_neededRate cX10_neededRate 10 (some .int) 3 G ρ V [.ref (ρ 10 0), .int x1, .int x2, .long x3] (J A Z) (some (.int r)) (J A Z') := by
  refine vv_enter (lv := [(0, .ref (ρ 10 0)), (1, .int x1), (2, .int x2), (3, .long x3)]) RX10 rfl (by decide) (Nat.le_of_ble_eq_true rfl) rfl ?_
  intro E hE hC hQ hVC
  subst hE
  rw [fX10_neededRate] at h
  refine wa_aload_n 1 0 hC dX10_neededRate_0 rfl 0 rfl rfl ?_
  refine wa_iload_n 2 1 hC dX10_neededRate_1 rfl 1 rfl rfl ?_
  refine wa_iconst 3 hC dX10_neededRate_2 kc_m1 rfl ?_
  obtain ⟨kj_2, ekj_2, h⟩ := ltb_k1 h
  have hkj_2 : ∀ (v_1 : Int32), kj_2 v_1 = some (r, Z') → WA E G ρ V 0 0 (J A Z) 37 [(0, .ref (ρ 10 0)), (1, .int x1), (2, .int x2), (3, .long x3)] [.int v_1, .ref (ρ 10 0)] := by
    intro v_1 h
    rw [ekj_2] at h
    obtain ⟨Z_3, eZ_3, h⟩ := ltb_some h
    refine wa_putIr 40 hC (vs10 hVC) nk10 eZ_3 sh10_6 rfl fpX10_63 dX10_neededRate_37 rfl ?_
    refine wa_aload_n 41 0 hC dX10_neededRate_40 rfl 0 rfl rfl ?_
    refine wa_getIr 44 hC (vs10 hVC) sh10_6 rfl flX10_63 dX10_neededRate_41 rfl ?_
    refine wa_if_le 47 49 hC dX10_neededRate_44 rfl rfl h (fun h => ?_) (fun h => ?_)
    · refine wa_aload_n 50 0 hC dX10_neededRate_49 rfl 0 rfl rfl ?_
      refine wa_getR 53 hC (vs10 hVC) (sr10_0 _) flX10_7 dX10_neededRate_50 rfl ?_
      refine wa_aload_n 54 0 hC dX10_neededRate_53 rfl 0 rfl rfl ?_
      refine wa_aload_n 55 0 hC dX10_neededRate_54 rfl 0 rfl rfl ?_
      refine wa_getR 58 hC (vs10 hVC) (sr10_0 _) flX10_7 dX10_neededRate_55 rfl ?_
      refine wa_iconst 59 hC dX10_neededRate_58 kc_5 rfl ?_
      refine wa_ialdr 60 hC (vs27 hVC) ar27 rfl (by decide) dX10_neededRate_59 rfl ?_
      refine wa_iload_n 61 2 hC dX10_neededRate_60 rfl 2 rfl rfl ?_
      obtain ⟨r_5, e_17, h⟩ := bd_some h
      refine wa_callVi 64 hC [.int (Z_3.1 27 0 0 (5 : Int32).toNatClampNeg), .int x2] [.ref (ρ 27 0)] knX10_generatedAt mvX10_221 (tX10_generatedAt E.2.1 (Z_3.1 27 0 0 (5 : Int32).toNatClampNeg) x2 Z_3 hVC e_17) (vs10 hVC) kc10 (Nat.le_of_ble_eq_true rfl) (Nat.le_of_ble_eq_true rfl) rfl (Nat.le_of_ble_eq_true rfl) dX10_neededRate_61 rfl le00 rfl ?_
      obtain ⟨g_6, h⟩ := gd_some h
      refine wa_ialdr 65 hC (vs27 hVC) ar27 rfl g_6 dX10_neededRate_64 rfl ?_
      refine wa_i2l 66 hC dX10_neededRate_65 rfl ?_
      obtain ⟨x5_7, ex5_7, h⟩ := ltb_some h
      refine wa_lstore (lv' := [(5, .long x5_7), (0, .ref (ρ 10 0)), (1, .int x1), (2, .int x2), (3, .long x3)]) 68 5 hC dX10_neededRate_66 ex5_7 (by decide) rfl rfl ?_
      refine wa_aload_n 69 0 hC dX10_neededRate_68 rfl 1 rfl rfl ?_
      refine wa_aload_n 70 0 hC dX10_neededRate_69 rfl 1 rfl rfl ?_
      refine wa_getR 73 hC (vs10 hVC) (sr10_0 _) flX10_7 dX10_neededRate_70 rfl ?_
      refine wa_iconst 74 hC dX10_neededRate_73 kc_5 rfl ?_
      refine wa_ialdr 75 hC (vs27 hVC) ar27 rfl (by decide) dX10_neededRate_74 rfl ?_
      obtain ⟨r_9, e_16, h⟩ := bd_some h
      refine wa_callVl 78 hC [.int (Z_3.1 27 0 0 (5 : Int32).toNatClampNeg)] [] knX10_worthOf mvX10_237 (tX10_worthOf E.2.1 (Z_3.1 27 0 0 (5 : Int32).toNatClampNeg) Z_3 hVC e_16) (vs10 hVC) kc10 (Nat.le_of_ble_eq_true rfl) (Nat.le_of_ble_eq_true rfl) rfl (Nat.le_of_ble_eq_true rfl) dX10_neededRate_75 rfl le00 rfl ?_
      refine wa_lload 80 5 hC dX10_neededRate_78 0 rfl rfl ?_
      refine wa_aload_n 81 0 hC dX10_neededRate_80 rfl 1 rfl rfl ?_
      refine wa_getR 84 hC (vs10 hVC) (sr10_0 _) flX10_7 dX10_neededRate_81 rfl ?_
      refine wa_bipush 86 hC dX10_neededRate_84 kb_32 rfl ?_
      refine wa_iload_n 87 2 hC dX10_neededRate_86 rfl 3 rfl rfl ?_
      refine wa_iadd 88 hC dX10_neededRate_87 rfl ?_
      obtain ⟨g_10, h⟩ := gd_some h
      refine wa_ialdr 89 hC (vs27 hVC) ar27 rfl g_10 dX10_neededRate_88 rfl ?_
      refine wa_i2l 90 hC dX10_neededRate_89 rfl ?_
      refine wa_lmul 91 hC dX10_neededRate_90 rfl ?_
      refine wa_lsub 92 hC dX10_neededRate_91 rfl ?_
      obtain ⟨x7_11, ex7_11, h⟩ := ltb_some h
      refine wa_lstore (lv' := [(7, .long x7_11), (5, .long x5_7), (0, .ref (ρ 10 0)), (1, .int x1), (2, .int x2), (3, .long x3)]) 94 7 hC dX10_neededRate_92 ex7_11 (by decide) rfl rfl ?_
      refine wa_iconst 95 hC dX10_neededRate_94 kc_0 rfl ?_
      refine wa_istore (lv' := [(9, .int (0 : Int32)), (7, .long x7_11), (5, .long x5_7), (0, .ref (ρ 10 0)), (1, .int x1), (2, .int x2), (3, .long x3)]) 97 9 hC dX10_neededRate_95 rfl (by decide) rfl rfl ?_
      refine wa_pick [3, 4, 6, 2, 1, 0] rfl ?_
      refine wX10_neededRate_L97 x1 x3 x5_7 x7_11 hC hVC (fun x9_12 Z_13 h => ?_) (fun Z_14 h => ?_) 10000 (0 : Int32) Z_3 h
      · refine wa_iload 162 9 hC dX10_neededRate_160 0 rfl rfl ?_
        exact wa_iret hC hQ (sm1 h) (jZ (sm2 h)) dX10_neededRate_162
      · refine wa_aload_n 170 0 hC dX10_neededRate_169 rfl 0 rfl rfl ?_
        refine wa_iconst 171 hC dX10_neededRate_170 kc_2 rfl ?_
        obtain ⟨Z_15, eZ_15, h⟩ := ltb_some h
        refine wa_putIr 174 hC (vs10 hVC) nk10 eZ_15 sh10_6 rfl fpX10_63 dX10_neededRate_171 rfl ?_
        refine wa_iconst 175 hC dX10_neededRate_174 kc_0 rfl ?_
        exact wa_iret hC hQ (sm1 h) (jZ (sm2 h)) dX10_neededRate_175
    · refine wa_iconst 48 hC dX10_neededRate_47 kc_0 rfl ?_
      exact wa_iret hC hQ (sm1 h) (jZ (sm2 h)) dX10_neededRate_48
  clear ekj_2
  obtain ⟨kj_18, ekj_18, h⟩ := ltb_some h
  have hkj_18 : kj_18 = some (r, Z') → WA E G ρ V 0 0 (J A Z) 32 [(0, .ref (ρ 10 0)), (1, .int x1), (2, .int x2), (3, .long x3)] [.ref (ρ 10 0)] := by
    intro h
    rw [ekj_18] at h
    refine wa_iconst 33 hC dX10_neededRate_32 kc_1 rfl ?_
    refine wa_goto 37 hC dX10_neededRate_33 rfl ?_
    exact hkj_2 (1 : Int32) h
  clear ekj_18
  obtain ⟨kj_19, ekj_19, h⟩ := ltb_some h
  have hkj_19 : kj_19 = some (r, Z') → WA E G ρ V 0 0 (J A Z) 14 [(0, .ref (ρ 10 0)), (1, .int x1), (2, .int x2), (3, .long x3)] [.ref (ρ 10 0)] := by
    intro h
    rw [ekj_19] at h
    refine wa_iload_n 15 2 hC dX10_neededRate_14 rfl 2 rfl rfl ?_
    refine wa_i2l 16 hC dX10_neededRate_15 rfl ?_
    refine wa_lconst 17 hC dX10_neededRate_16 kl_0 rfl ?_
    refine wa_aload_n 18 0 hC dX10_neededRate_17 rfl 0 rfl rfl ?_
    refine wa_getR 21 hC (vs10 hVC) (sr10_0 _) flX10_7 dX10_neededRate_18 rfl ?_
    refine wa_iconst 22 hC dX10_neededRate_21 kc_4 rfl ?_
    refine wa_ialdr 23 hC (vs27 hVC) ar27 rfl (by decide) dX10_neededRate_22 rfl ?_
    refine wa_iconst 24 hC dX10_neededRate_23 kc_1 rfl ?_
    refine wa_isub 25 hC dX10_neededRate_24 rfl ?_
    refine wa_i2l 26 hC dX10_neededRate_25 rfl ?_
    obtain ⟨r_21, e_22, h⟩ := bd_some h
    refine wa_callSi 29 hC [.long (x2.toInt64), .long (0 : Int64), .long (((Z.1 27 0 0 (4 : Int32).toNatClampNeg) - (1 : Int32)).toInt64)] [.ref (ρ 10 0)] knX10_isIn msX10_104 (tX10_isIn E.2.1 (x2.toInt64) (0 : Int64) (((Z.1 27 0 0 (4 : Int32).toNatClampNeg) - (1 : Int32)).toInt64) Z hVC e_22) (Nat.le_of_ble_eq_true rfl) (Nat.le_of_ble_eq_true rfl) rfl (Nat.le_of_ble_eq_true rfl) dX10_neededRate_26 rfl le00 rfl ?_
    refine wa_if_ne 32 36 hC dX10_neededRate_29 rfl rfl h (fun h => ?_) (fun h => ?_)
    · refine wa_iconst 37 hC dX10_neededRate_36 kc_0 rfl ?_
      exact hkj_2 (0 : Int32) h
    · exact hkj_18 h
  clear ekj_19
  refine wa_icmp_eq 6 14 hC dX10_neededRate_3 rfl rfl h (fun h => ?_) (fun h => ?_)
  · exact hkj_19 h
  · refine wa_aload_n 7 0 hC dX10_neededRate_6 rfl 0 rfl rfl ?_
    refine wa_iload_n 8 1 hC dX10_neededRate_7 rfl 1 rfl rfl ?_
    obtain ⟨r_23, e_24, h⟩ := bd_some h
    refine wa_callVi 11 hC [.int x1] [.ref (ρ 10 0)] knX10_isMember mvX10_184 (tX10_isMember E.2.1 x1 Z hVC e_24) (vs10 hVC) kc10 (Nat.le_of_ble_eq_true rfl) (Nat.le_of_ble_eq_true rfl) rfl (Nat.le_of_ble_eq_true rfl) dX10_neededRate_8 rfl le00 rfl ?_
    refine wa_if_eq 14 32 hC dX10_neededRate_11 rfl rfl h (fun h => ?_) (fun h => ?_)
    · exact hkj_18 h
    · exact hkj_19 h
set_option maxRecDepth 20000 in
theorem tX10_issued (l : Launch) {G : gU} {ρ : Nat → Nat → Nat} {V : Nat → Nat → Prop} {A : sM} (x1 : Int32) (Z : sM) (_ : VC V) {r : Int64} {Z' : sM} (h : fX10_issued x1 Z = some (r, Z')) : MT l yX10_issued cX10_issued 2 (some .long) 3 G ρ V [.ref (ρ 10 0), .int x1] (J A Z) (some (.long r)) (J A Z') := by
  refine vv_enter (lv := [(0, .ref (ρ 10 0)), (1, .int x1)]) RX10 rfl (by decide) (Nat.le_of_ble_eq_true rfl) rfl ?_
  intro E hE hC hQ hVC
  subst hE
  rw [fX10_issued] at h
  refine wa_aload_n 1 0 hC dX10_issued_0 rfl 0 rfl rfl ?_
  refine wa_aload_n 2 0 hC dX10_issued_1 rfl 0 rfl rfl ?_
  refine wa_iload_n 3 1 hC dX10_issued_2 rfl 1 rfl rfl ?_
  obtain ⟨r_1, e_8, h⟩ := bd_some h
  refine wa_callVi 6 hC [.int x1] [.ref (ρ 10 0)] knX10_isMonth mvX10_250 (tX10_isMonth E.2.1 x1 Z hVC e_8) (vs10 hVC) kc10 (Nat.le_of_ble_eq_true rfl) (Nat.le_of_ble_eq_true rfl) rfl (Nat.le_of_ble_eq_true rfl) dX10_issued_3 rfl le00 rfl ?_
  refine wa_if_eq 9 13 hC dX10_issued_6 rfl rfl h (fun h => ?_) (fun h => ?_)
  · refine wa_iconst 14 hC dX10_issued_13 kc_1 rfl ?_
    obtain ⟨Z_2, eZ_2, h⟩ := ltb_some h
    refine wa_putIr 17 hC (vs10 hVC) nk10 eZ_2 sh10_6 rfl fpX10_63 dX10_issued_14 rfl ?_
    refine wa_aload_n 18 0 hC dX10_issued_17 rfl 0 rfl rfl ?_
    refine wa_getIr 21 hC (vs10 hVC) sh10_6 rfl flX10_63 dX10_issued_18 rfl ?_
    refine wa_if_le 24 28 hC dX10_issued_21 rfl rfl h (fun h => ?_) (fun h => ?_)
    · refine wa_aload_n 29 0 hC dX10_issued_28 rfl 0 rfl rfl ?_
      refine wa_iload_n 30 1 hC dX10_issued_29 rfl 1 rfl rfl ?_
      obtain ⟨r_3, e_4, h⟩ := bd_some h
      refine wa_callVl 33 hC [.int x1] [] knX10_worthOf mvX10_237 (tX10_worthOf E.2.1 x1 Z_2 hVC e_4) (vs10 hVC) kc10 (Nat.le_of_ble_eq_true rfl) (Nat.le_of_ble_eq_true rfl) rfl (Nat.le_of_ble_eq_true rfl) dX10_issued_30 rfl le00 rfl ?_
      exact wa_lret hC hQ (sm1 h) (jZ (sm2 h)) dX10_issued_33
    · refine wa_lconst 25 hC dX10_issued_24 kl_0 rfl ?_
      refine wa_goto 33 hC dX10_issued_25 rfl ?_
      exact wa_lret hC hQ (sm1 h) (jZ (sm2 h)) dX10_issued_33
  · refine wa_iconst 10 hC dX10_issued_9 kc_0 rfl ?_
    refine wa_goto 14 hC dX10_issued_10 rfl ?_
    obtain ⟨Z_5, eZ_5, h⟩ := ltb_some h
    refine wa_putIr 17 hC (vs10 hVC) nk10 eZ_5 sh10_6 rfl fpX10_63 dX10_issued_14 rfl ?_
    refine wa_aload_n 18 0 hC dX10_issued_17 rfl 0 rfl rfl ?_
    refine wa_getIr 21 hC (vs10 hVC) sh10_6 rfl flX10_63 dX10_issued_18 rfl ?_
    refine wa_if_le 24 28 hC dX10_issued_21 rfl rfl h (fun h => ?_) (fun h => ?_)
    · refine wa_aload_n 29 0 hC dX10_issued_28 rfl 0 rfl rfl ?_
      refine wa_iload_n 30 1 hC dX10_issued_29 rfl 1 rfl rfl ?_
      obtain ⟨r_6, e_7, h⟩ := bd_some h
      refine wa_callVl 33 hC [.int x1] [] knX10_worthOf mvX10_237 (tX10_worthOf E.2.1 x1 Z_5 hVC e_7) (vs10 hVC) kc10 (Nat.le_of_ble_eq_true rfl) (Nat.le_of_ble_eq_true rfl) rfl (Nat.le_of_ble_eq_true rfl) dX10_issued_30 rfl le00 rfl ?_
      exact wa_lret hC hQ (sm1 h) (jZ (sm2 h)) dX10_issued_33
    · refine wa_lconst 25 hC dX10_issued_24 kl_0 rfl ?_
      refine wa_goto 33 hC dX10_issued_25 rfl ?_
      exact wa_lret hC hQ (sm1 h) (jZ (sm2 h)) dX10_issued_33
set_option maxRecDepth 20000 in
theorem tX10_shareDayValue (l : Launch) {G : gU} {ρ : Nat → Nat → Nat} {V : Nat → Nat → Prop} {A : sM} (x1 : Int32) (x2 : Int32) (Z : sM) (_ : VC V) {r : Int64} {Z' : sM} (h : fX10_shareDayValue x1 x2 Z = some (r, Z')) : MT l yX10_shareDayValue cX10_shareDayValue 7 (some .long) 104 G ρ V [.ref (ρ 10 0), .int x1, .int x2] (J A Z) (some (.long r)) (J A Z') := by
  refine vv_enter (lv := [(0, .ref (ρ 10 0)), (1, .int x1), (2, .int x2)]) RX10 rfl (by decide) (Nat.le_of_ble_eq_true rfl) rfl ?_
  intro E hE hC hQ hVC
  subst hE
  rw [fX10_shareDayValue] at h
  refine wa_aload_n 1 0 hC dX10_shareDayValue_0 rfl 0 rfl rfl ?_
  refine wa_aload_n 2 0 hC dX10_shareDayValue_1 rfl 0 rfl rfl ?_
  refine wa_iload_n 3 1 hC dX10_shareDayValue_2 rfl 1 rfl rfl ?_
  obtain ⟨r_1, e_15, h⟩ := bd_some h
  refine wa_callVi 6 hC [.int x1] [.ref (ρ 10 0)] knX10_isMonth mvX10_250 (tX10_isMonth E.2.1 x1 Z hVC e_15) (vs10 hVC) kc10 (Nat.le_of_ble_eq_true rfl) (Nat.le_of_ble_eq_true rfl) rfl (Nat.le_of_ble_eq_true rfl) dX10_shareDayValue_3 rfl le00 rfl ?_
  obtain ⟨kj_3, ekj_3, h⟩ := ltb_k1 h
  have hkj_3 : ∀ (v_2 : Int32), kj_3 v_2 = some (r, Z') → WA E G ρ V 0 0 (J A Z) 14 [(0, .ref (ρ 10 0)), (1, .int x1), (2, .int x2)] [.int v_2, .ref (ρ 10 0)] := by
    intro v_2 h
    rw [ekj_3] at h
    obtain ⟨Z_4, eZ_4, h⟩ := ltb_some h
    refine wa_putIr 17 hC (vs10 hVC) nk10 eZ_4 sh10_6 rfl fpX10_63 dX10_shareDayValue_14 rfl ?_
    refine wa_aload_n 18 0 hC dX10_shareDayValue_17 rfl 0 rfl rfl ?_
    refine wa_getIr 21 hC (vs10 hVC) sh10_6 rfl flX10_63 dX10_shareDayValue_18 rfl ?_
    refine wa_if_le 24 26 hC dX10_shareDayValue_21 rfl rfl h (fun h => ?_) (fun h => ?_)
    · refine wa_aload_n 27 0 hC dX10_shareDayValue_26 rfl 0 rfl rfl ?_
      refine wa_iload_n 28 1 hC dX10_shareDayValue_27 rfl 1 rfl rfl ?_
      obtain ⟨r_5, e_14, h⟩ := bd_some h
      refine wa_callVl 31 hC [.int x1] [] knX10_worthOf mvX10_237 (tX10_worthOf E.2.1 x1 Z_4 hVC e_14) (vs10 hVC) kc10 (Nat.le_of_ble_eq_true rfl) (Nat.le_of_ble_eq_true rfl) rfl (Nat.le_of_ble_eq_true rfl) dX10_shareDayValue_28 rfl le00 rfl ?_
      refine wa_lstore_n (lv' := [(3, .long r_5), (0, .ref (ρ 10 0)), (1, .int x1), (2, .int x2)]) 32 3 hC dX10_shareDayValue_31 rfl rfl (by decide) rfl rfl ?_
      refine wa_ldc2 35 hC dX10_shareDayValue_32 lcX10_214 rfl ?_
      refine wa_aload_n 36 0 hC dX10_shareDayValue_35 rfl 1 rfl rfl ?_
      refine wa_getR 39 hC (vs10 hVC) (sr10_0 _) flX10_7 dX10_shareDayValue_36 rfl ?_
      refine wa_iconst 40 hC dX10_shareDayValue_39 kc_0 rfl ?_
      refine wa_ialdr 41 hC (vs27 hVC) ar27 rfl (by decide) dX10_shareDayValue_40 rfl ?_
      refine wa_i2l 42 hC dX10_shareDayValue_41 rfl ?_
      refine wa_lmul 43 hC dX10_shareDayValue_42 rfl ?_
      obtain ⟨x5_7, ex5_7, h⟩ := ltb_some h
      refine wa_lstore (lv' := [(5, .long x5_7), (3, .long r_5), (0, .ref (ρ 10 0)), (1, .int x1), (2, .int x2)]) 45 5 hC dX10_shareDayValue_43 ex5_7 (by decide) rfl rfl ?_
      refine wa_iload_n 46 2 hC dX10_shareDayValue_45 rfl 4 rfl rfl ?_
      refine wa_if_eq 49 54 hC dX10_shareDayValue_46 rfl rfl h (fun h => ?_) (fun h => ?_)
      · refine wa_lload_n 55 3 hC dX10_shareDayValue_54 rfl 1 rfl rfl ?_
        refine wa_lload_n 56 3 hC dX10_shareDayValue_55 rfl 1 rfl rfl ?_
        refine wa_lload 58 5 hC dX10_shareDayValue_56 0 rfl rfl ?_
        obtain ⟨r_8, e_10, h⟩ := bd_some h
        refine wa_callSl 61 hC [.long r_5, .long x5_7] [.long r_5] knX10_divisor msX10_265 (tX10_divisor E.2.1 100 r_5 x5_7 Z_4 hVC e_10) (Nat.le_of_ble_eq_true rfl) (Nat.le_of_ble_eq_true rfl) rfl (Nat.le_of_ble_eq_true rfl) dX10_shareDayValue_58 rfl le00 rfl ?_
        obtain ⟨g_9, h⟩ := gd_some h
        refine wa_ldiv 62 hC dX10_shareDayValue_61 g_9 rfl ?_
        exact wa_lret hC hQ (sm1 h) (jZ (sm2 h)) dX10_shareDayValue_62
      · refine wa_lload 51 5 hC dX10_shareDayValue_49 0 rfl rfl ?_
        refine wa_goto 55 hC dX10_shareDayValue_51 rfl ?_
        refine wa_lload_n 56 3 hC dX10_shareDayValue_55 rfl 1 rfl rfl ?_
        refine wa_lload 58 5 hC dX10_shareDayValue_56 0 rfl rfl ?_
        obtain ⟨r_11, e_13, h⟩ := bd_some h
        refine wa_callSl 61 hC [.long r_5, .long x5_7] [.long x5_7] knX10_divisor msX10_265 (tX10_divisor E.2.1 100 r_5 x5_7 Z_4 hVC e_13) (Nat.le_of_ble_eq_true rfl) (Nat.le_of_ble_eq_true rfl) rfl (Nat.le_of_ble_eq_true rfl) dX10_shareDayValue_58 rfl le00 rfl ?_
        obtain ⟨g_12, h⟩ := gd_some h
        refine wa_ldiv 62 hC dX10_shareDayValue_61 g_12 rfl ?_
        exact wa_lret hC hQ (sm1 h) (jZ (sm2 h)) dX10_shareDayValue_62
    · refine wa_lconst 25 hC dX10_shareDayValue_24 kl_0 rfl ?_
      exact wa_lret hC hQ (sm1 h) (jZ (sm2 h)) dX10_shareDayValue_25
  clear ekj_3
  refine wa_if_eq 9 13 hC dX10_shareDayValue_6 rfl rfl h (fun h => ?_) (fun h => ?_)
  · refine wa_iconst 14 hC dX10_shareDayValue_13 kc_1 rfl ?_
    exact hkj_3 (1 : Int32) h
  · refine wa_iconst 10 hC dX10_shareDayValue_9 kc_0 rfl ?_
    refine wa_goto 14 hC dX10_shareDayValue_10 rfl ?_
    exact hkj_3 (0 : Int32) h
set_option maxRecDepth 20000 in
theorem tX10_neededShares (l : Launch) {G : gU} {ρ : Nat → Nat → Nat} {V : Nat → Nat → Prop} {A : sM} (x1 : Int64) (Z : sM) (_ : VC V) {r : Int32} {Z' : sM} (h : fX10_neededShares x1 Z = some (r, Z')) : MT l yX10_neededShares cX10_neededShares 5 (some .int) 3 G ρ V [.ref (ρ 10 0), .long x1] (J A Z) (some (.int r)) (J A Z') := by
  refine vv_enter (lv := [(0, .ref (ρ 10 0)), (1, .long x1)]) RX10 rfl (by decide) (Nat.le_of_ble_eq_true rfl) rfl ?_
  intro E hE hC hQ hVC
  subst hE
  rw [fX10_neededShares] at h
  refine wa_aload_n 1 0 hC dX10_neededShares_0 rfl 0 rfl rfl ?_
  refine wa_aload_n 2 0 hC dX10_neededShares_1 rfl 0 rfl rfl ?_
  refine wa_getR 5 hC (vs10 hVC) (sr10_0 _) flX10_7 dX10_neededShares_2 rfl ?_
  refine wa_iconst 6 hC dX10_neededShares_5 kc_5 rfl ?_
  refine wa_ialdr 7 hC (vs27 hVC) ar27 rfl (by decide) dX10_neededShares_6 rfl ?_
  obtain ⟨r_2, e_8, h⟩ := bd_some h
  refine wa_callVl 10 hC [.int (Z.1 27 0 0 (5 : Int32).toNatClampNeg)] [] knX10_worthOf mvX10_237 (tX10_worthOf E.2.1 (Z.1 27 0 0 (5 : Int32).toNatClampNeg) Z hVC e_8) (vs10 hVC) kc10 (Nat.le_of_ble_eq_true rfl) (Nat.le_of_ble_eq_true rfl) rfl (Nat.le_of_ble_eq_true rfl) dX10_neededShares_7 rfl le00 rfl ?_
  refine wa_lstore_n (lv' := [(3, .long r_2), (0, .ref (ρ 10 0)), (1, .long x1)]) 11 3 hC dX10_neededShares_10 rfl rfl (by decide) rfl rfl ?_
  refine wa_aload_n 12 0 hC dX10_neededShares_11 rfl 1 rfl rfl ?_
  refine wa_lload_n 13 1 hC dX10_neededShares_12 rfl 2 rfl rfl ?_
  refine wa_lconst 14 hC dX10_neededShares_13 kl_0 rfl ?_
  refine wa_lcmp 15 hC dX10_neededShares_14 rfl ?_
  obtain ⟨kj_4, ekj_4, h⟩ := ltb_k1 h
  have hkj_4 : ∀ (v_3 : Int32), kj_4 v_3 = some (r, Z') → WA E G ρ V 0 0 (J A Z) 33 [(0, .ref (ρ 10 0)), (1, .long x1), (3, .long r_2)] [.int v_3, .ref (ρ 10 0)] := by
    intro v_3 h
    rw [ekj_4] at h
    obtain ⟨Z_5, eZ_5, h⟩ := ltb_some h
    refine wa_putIr 36 hC (vs10 hVC) nk10 eZ_5 sh10_6 rfl fpX10_63 dX10_neededShares_33 rfl ?_
    refine wa_aload_n 37 0 hC dX10_neededShares_36 rfl 0 rfl rfl ?_
    refine wa_getIr 40 hC (vs10 hVC) sh10_6 rfl flX10_63 dX10_neededShares_37 rfl ?_
    refine wa_if_le 43 45 hC dX10_neededShares_40 rfl rfl h (fun h => ?_) (fun h => ?_)
    · refine wa_lload_n 46 1 hC dX10_neededShares_45 rfl 1 rfl rfl ?_
      refine wa_lconst 47 hC dX10_neededShares_46 kl_0 rfl ?_
      refine wa_lcmp 48 hC dX10_neededShares_47 rfl ?_
      refine wa_lcmp_ne 51 55 hC dX10_neededShares_48 rfl rfl h (fun h => ?_) (fun h => ?_)
      · refine wa_lload_n 56 1 hC dX10_neededShares_55 rfl 1 rfl rfl ?_
        refine wa_aload_n 57 0 hC dX10_neededShares_56 rfl 0 rfl rfl ?_
        refine wa_getR 60 hC (vs10 hVC) (sr10_0 _) flX10_7 dX10_neededShares_57 rfl ?_
        refine wa_iconst 61 hC dX10_neededShares_60 kc_0 rfl ?_
        refine wa_ialdr 62 hC (vs27 hVC) ar27 rfl (by decide) dX10_neededShares_61 rfl ?_
        refine wa_i2l 63 hC dX10_neededShares_62 rfl ?_
        refine wa_lmul 64 hC dX10_neededShares_63 rfl ?_
        refine wa_lload_n 65 3 hC dX10_neededShares_64 rfl 2 rfl rfl ?_
        refine wa_ladd 66 hC dX10_neededShares_65 rfl ?_
        refine wa_lconst 67 hC dX10_neededShares_66 kl_1 rfl ?_
        refine wa_lsub 68 hC dX10_neededShares_67 rfl ?_
        refine wa_lload_n 69 3 hC dX10_neededShares_68 rfl 2 rfl rfl ?_
        obtain ⟨g_7, h⟩ := gd_some h
        refine wa_ldiv 70 hC dX10_neededShares_69 g_7 rfl ?_
        refine wa_l2i 71 hC dX10_neededShares_70 rfl ?_
        exact wa_iret hC hQ (sm1 h) (jZ (sm2 h)) dX10_neededShares_71
      · refine wa_iconst 52 hC dX10_neededShares_51 kc_1 rfl ?_
        refine wa_goto 71 hC dX10_neededShares_52 rfl ?_
        exact wa_iret hC hQ (sm1 h) (jZ (sm2 h)) dX10_neededShares_71
    · refine wa_iconst 44 hC dX10_neededShares_43 kc_0 rfl ?_
      exact wa_iret hC hQ (sm1 h) (jZ (sm2 h)) dX10_neededShares_44
  clear ekj_4
  refine wa_lcmp_ge 18 22 hC dX10_neededShares_15 rfl rfl h (fun h => ?_) (fun h => ?_)
  · refine wa_lload_n 23 3 hC dX10_neededShares_22 rfl 0 rfl rfl ?_
    refine wa_lload_n 24 1 hC dX10_neededShares_23 rfl 2 rfl rfl ?_
    refine wa_lcmp 25 hC dX10_neededShares_24 rfl ?_
    refine wa_lcmp_ge 28 32 hC dX10_neededShares_25 rfl rfl h (fun h => ?_) (fun h => ?_)
    · refine wa_iconst 33 hC dX10_neededShares_32 kc_0 rfl ?_
      refine wa_pick [1, 2, 0] rfl ?_
      exact hkj_4 (0 : Int32) h
    · refine wa_iconst 29 hC dX10_neededShares_28 kc_2 rfl ?_
      refine wa_goto 33 hC dX10_neededShares_29 rfl ?_
      refine wa_pick [1, 2, 0] rfl ?_
      exact hkj_4 (2 : Int32) h
  · refine wa_iconst 19 hC dX10_neededShares_18 kc_1 rfl ?_
    refine wa_goto 33 hC dX10_neededShares_19 rfl ?_
    refine wa_pick [1, 2, 0] rfl ?_
    exact hkj_4 (1 : Int32) h
set_option maxRecDepth 20000 in
theorem tX10_balance (l : Launch) {G : gU} {ρ : Nat → Nat → Nat} {V : Nat → Nat → Prop} {A : sM} (x1 : Int32) (Z : sM) (_ : VC V) {r : Int64} {Z' : sM} (h : fX10_balance x1 Z = some (r, Z')) : MT l yX10_balance cX10_balance 2 (some .long) 4 G ρ V [.ref (ρ 10 0), .int x1] (J A Z) (some (.long r)) (J A Z') := by
  refine vv_enter (lv := [(0, .ref (ρ 10 0)), (1, .int x1)]) RX10 rfl (by decide) (Nat.le_of_ble_eq_true rfl) rfl ?_
  intro E hE hC hQ hVC
  subst hE
  rw [fX10_balance] at h
  refine wa_aload_n 1 0 hC dX10_balance_0 rfl 0 rfl rfl ?_
  refine wa_iload_n 2 1 hC dX10_balance_1 rfl 1 rfl rfl ?_
  obtain ⟨r_2, Z_1, e_5, h⟩ := bd2_some h
  refine wa_callVi 5 hC [.int x1] [] knX10_lacks mvX10_208 (tX10_lacks E.2.1 x1 Z hVC e_5) (vs10 hVC) kc10 (Nat.le_of_ble_eq_true rfl) (Nat.le_of_ble_eq_true rfl) rfl (Nat.le_of_ble_eq_true rfl) dX10_balance_2 rfl le00 rfl ?_
  refine wa_if_eq 8 12 hC dX10_balance_5 rfl rfl h (fun h => ?_) (fun h => ?_)
  · refine wa_aload_n 13 0 hC dX10_balance_12 rfl 0 rfl rfl ?_
    refine wa_iload_n 14 1 hC dX10_balance_13 rfl 1 rfl rfl ?_
    obtain ⟨r_3, e_4, h⟩ := bd_some h
    refine wa_callVl 17 hC [.int x1] [] knX10_balanceOf mvX10_204 (tX10_balanceOf E.2.1 x1 Z_1 hVC e_4) (vs10 hVC) kc10 (Nat.le_of_ble_eq_true rfl) (Nat.le_of_ble_eq_true rfl) rfl (Nat.le_of_ble_eq_true rfl) dX10_balance_14 rfl le00 rfl ?_
    exact wa_lret hC hQ (sm1 h) (jZ (sm2 h)) dX10_balance_17
  · refine wa_lconst 9 hC dX10_balance_8 kl_0 rfl ?_
    refine wa_goto 17 hC dX10_balance_9 rfl ?_
    exact wa_lret hC hQ (sm1 h) (jZ (sm2 h)) dX10_balance_17
set_option maxRecDepth 20000 in
theorem tX10_lot (l : Launch) {G : gU} {ρ : Nat → Nat → Nat} {V : Nat → Nat → Prop} {A : sM} (x1 : Int32) (x2 : Int32) (Z : sM) (_ : VC V) {r : Int64} {Z' : sM} (h : fX10_lot x1 x2 Z = some (r, Z')) : MT l yX10_lot cX10_lot 3 (some .long) 3 G ρ V [.ref (ρ 10 0), .int x1, .int x2] (J A Z) (some (.long r)) (J A Z') := by
  refine vv_enter (lv := [(0, .ref (ρ 10 0)), (1, .int x1), (2, .int x2)]) RX10 rfl (by decide) (Nat.le_of_ble_eq_true rfl) rfl ?_
  intro E hE hC hQ hVC
  subst hE
  rw [fX10_lot] at h
  refine wa_aload_n 1 0 hC dX10_lot_0 rfl 0 rfl rfl ?_
  refine wa_aload_n 2 0 hC dX10_lot_1 rfl 0 rfl rfl ?_
  refine wa_iload_n 3 1 hC dX10_lot_2 rfl 1 rfl rfl ?_
  obtain ⟨r_1, e_13, h⟩ := bd_some h
  refine wa_callVi 6 hC [.int x1] [.ref (ρ 10 0)] knX10_isMember mvX10_184 (tX10_isMember E.2.1 x1 Z hVC e_13) (vs10 hVC) kc10 (Nat.le_of_ble_eq_true rfl) (Nat.le_of_ble_eq_true rfl) rfl (Nat.le_of_ble_eq_true rfl) dX10_lot_3 rfl le00 rfl ?_
  obtain ⟨kj_2, ekj_2, h⟩ := ltb_some h
  have hkj_2 : kj_2 = some (r, Z') → WA E G ρ V 0 0 (J A Z) 21 [(0, .ref (ρ 10 0)), (1, .int x1), (2, .int x2)] [.ref (ρ 10 0)] := by
    intro h
    rw [ekj_2] at h
    refine wa_iconst 22 hC dX10_lot_21 kc_1 rfl ?_
    obtain ⟨Z_3, eZ_3, h⟩ := ltb_some h
    refine wa_putIr 25 hC (vs10 hVC) nk10 eZ_3 sh10_6 rfl fpX10_63 dX10_lot_22 rfl ?_
    refine wa_aload_n 26 0 hC dX10_lot_25 rfl 0 rfl rfl ?_
    refine wa_getIr 29 hC (vs10 hVC) sh10_6 rfl flX10_63 dX10_lot_26 rfl ?_
    refine wa_if_le 32 36 hC dX10_lot_29 rfl rfl h (fun h => ?_) (fun h => ?_)
    · refine wa_aload_n 37 0 hC dX10_lot_36 rfl 0 rfl rfl ?_
      refine wa_getR 40 hC (vs10 hVC) (sr10_3 _) flX10_19 dX10_lot_37 rfl ?_
      refine wa_aload_n 41 0 hC dX10_lot_40 rfl 0 rfl rfl ?_
      refine wa_iload_n 42 1 hC dX10_lot_41 rfl 1 rfl rfl ?_
      refine wa_iload_n 43 2 hC dX10_lot_42 rfl 2 rfl rfl ?_
      obtain ⟨r_4, e_6, h⟩ := bd_some h
      refine wa_callVi 46 hC [.int x1, .int x2] [.ref (ρ 30 0)] knX10_lotAt mvX10_194 (tX10_lotAt E.2.1 x1 x2 Z_3 hVC e_6) (vs10 hVC) kc10 (Nat.le_of_ble_eq_true rfl) (Nat.le_of_ble_eq_true rfl) rfl (Nat.le_of_ble_eq_true rfl) dX10_lot_43 rfl le00 rfl ?_
      obtain ⟨g_5, h⟩ := gd_some h
      refine wa_laldr 47 hC (vs30 hVC) ar30 rfl g_5 dX10_lot_46 rfl ?_
      exact wa_lret hC hQ (sm1 h) (jZ (sm2 h)) dX10_lot_47
    · refine wa_lconst 33 hC dX10_lot_32 kl_0 rfl ?_
      refine wa_goto 47 hC dX10_lot_33 rfl ?_
      exact wa_lret hC hQ (sm1 h) (jZ (sm2 h)) dX10_lot_47
  clear ekj_2
  refine wa_if_eq 9 21 hC dX10_lot_6 rfl rfl h (fun h => ?_) (fun h => ?_)
  · exact hkj_2 h
  · refine wa_aload_n 10 0 hC dX10_lot_9 rfl 0 rfl rfl ?_
    refine wa_iload_n 11 2 hC dX10_lot_10 rfl 2 rfl rfl ?_
    obtain ⟨r_7, e_12, h⟩ := bd_some h
    refine wa_callVi 14 hC [.int x2] [.ref (ρ 10 0)] knX10_isMonth mvX10_250 (tX10_isMonth E.2.1 x2 Z hVC e_12) (vs10 hVC) kc10 (Nat.le_of_ble_eq_true rfl) (Nat.le_of_ble_eq_true rfl) rfl (Nat.le_of_ble_eq_true rfl) dX10_lot_11 rfl le00 rfl ?_
    refine wa_if_eq 17 21 hC dX10_lot_14 rfl rfl h (fun h => ?_) (fun h => ?_)
    · exact hkj_2 h
    · refine wa_iconst 18 hC dX10_lot_17 kc_0 rfl ?_
      refine wa_goto 22 hC dX10_lot_18 rfl ?_
      obtain ⟨Z_8, eZ_8, h⟩ := ltb_some h
      refine wa_putIr 25 hC (vs10 hVC) nk10 eZ_8 sh10_6 rfl fpX10_63 dX10_lot_22 rfl ?_
      refine wa_aload_n 26 0 hC dX10_lot_25 rfl 0 rfl rfl ?_
      refine wa_getIr 29 hC (vs10 hVC) sh10_6 rfl flX10_63 dX10_lot_26 rfl ?_
      refine wa_if_le 32 36 hC dX10_lot_29 rfl rfl h (fun h => ?_) (fun h => ?_)
      · refine wa_aload_n 37 0 hC dX10_lot_36 rfl 0 rfl rfl ?_
        refine wa_getR 40 hC (vs10 hVC) (sr10_3 _) flX10_19 dX10_lot_37 rfl ?_
        refine wa_aload_n 41 0 hC dX10_lot_40 rfl 0 rfl rfl ?_
        refine wa_iload_n 42 1 hC dX10_lot_41 rfl 1 rfl rfl ?_
        refine wa_iload_n 43 2 hC dX10_lot_42 rfl 2 rfl rfl ?_
        obtain ⟨r_9, e_11, h⟩ := bd_some h
        refine wa_callVi 46 hC [.int x1, .int x2] [.ref (ρ 30 0)] knX10_lotAt mvX10_194 (tX10_lotAt E.2.1 x1 x2 Z_8 hVC e_11) (vs10 hVC) kc10 (Nat.le_of_ble_eq_true rfl) (Nat.le_of_ble_eq_true rfl) rfl (Nat.le_of_ble_eq_true rfl) dX10_lot_43 rfl le00 rfl ?_
        obtain ⟨g_10, h⟩ := gd_some h
        refine wa_laldr 47 hC (vs30 hVC) ar30 rfl g_10 dX10_lot_46 rfl ?_
        exact wa_lret hC hQ (sm1 h) (jZ (sm2 h)) dX10_lot_47
      · refine wa_lconst 33 hC dX10_lot_32 kl_0 rfl ?_
        refine wa_goto 47 hC dX10_lot_33 rfl ?_
        exact wa_lret hC hQ (sm1 h) (jZ (sm2 h)) dX10_lot_47
set_option maxRecDepth 20000 in
theorem tX10_account (l : Launch) {G : gU} {ρ : Nat → Nat → Nat} {V : Nat → Nat → Prop} {A : sM} (x1 : Int32) (x2 : Int32) (Z : sM) (_ : VC V) {r : Int64} {Z' : sM} (h : fX10_account x1 x2 Z = some (r, Z')) : MT l yX10_account cX10_account 3 (some .long) 3 G ρ V [.ref (ρ 10 0), .int x1, .int x2] (J A Z) (some (.long r)) (J A Z') := by
  refine vv_enter (lv := [(0, .ref (ρ 10 0)), (1, .int x1), (2, .int x2)]) RX10 rfl (by decide) (Nat.le_of_ble_eq_true rfl) rfl ?_
  intro E hE hC hQ hVC
  subst hE
  rw [fX10_account] at h
  refine wa_aload_n 1 0 hC dX10_account_0 rfl 0 rfl rfl ?_
  refine wa_aload_n 2 0 hC dX10_account_1 rfl 0 rfl rfl ?_
  refine wa_iload_n 3 1 hC dX10_account_2 rfl 1 rfl rfl ?_
  obtain ⟨r_1, e_16, h⟩ := bd_some h
  refine wa_callVi 6 hC [.int x1] [.ref (ρ 10 0)] knX10_isMember mvX10_184 (tX10_isMember E.2.1 x1 Z hVC e_16) (vs10 hVC) kc10 (Nat.le_of_ble_eq_true rfl) (Nat.le_of_ble_eq_true rfl) rfl (Nat.le_of_ble_eq_true rfl) dX10_account_3 rfl le00 rfl ?_
  refine wa_if_ne 9 13 hC dX10_account_6 rfl rfl h (fun h => ?_) (fun h => ?_)
  · refine wa_iload_n 14 2 hC dX10_account_13 rfl 2 rfl rfl ?_
    refine wa_i2l 15 hC dX10_account_14 rfl ?_
    refine wa_lconst 16 hC dX10_account_15 kl_0 rfl ?_
    refine wa_ldc2 19 hC dX10_account_16 lcX10_162 rfl ?_
    obtain ⟨r_2, e_11, h⟩ := bd_some h
    refine wa_callSi 22 hC [.long (x2.toInt64), .long (0 : Int64), .long (5 : Int64)] [.ref (ρ 10 0)] knX10_isIn msX10_104 (tX10_isIn E.2.1 (x2.toInt64) (0 : Int64) (5 : Int64) Z hVC e_11) (Nat.le_of_ble_eq_true rfl) (Nat.le_of_ble_eq_true rfl) rfl (Nat.le_of_ble_eq_true rfl) dX10_account_19 rfl le00 rfl ?_
    refine wa_if_ne 25 29 hC dX10_account_22 rfl rfl h (fun h => ?_) (fun h => ?_)
    · refine wa_iconst 30 hC dX10_account_29 kc_0 rfl ?_
      obtain ⟨Z_3, eZ_3, h⟩ := ltb_some h
      refine wa_putIr 33 hC (vs10 hVC) nk10 eZ_3 sh10_6 rfl fpX10_63 dX10_account_30 rfl ?_
      refine wa_aload_n 34 0 hC dX10_account_33 rfl 0 rfl rfl ?_
      refine wa_getIr 37 hC (vs10 hVC) sh10_6 rfl flX10_63 dX10_account_34 rfl ?_
      refine wa_if_le 40 44 hC dX10_account_37 rfl rfl h (fun h => ?_) (fun h => ?_)
      · refine wa_aload_n 45 0 hC dX10_account_44 rfl 0 rfl rfl ?_
        refine wa_getR 48 hC (vs10 hVC) (sr10_3 _) flX10_19 dX10_account_45 rfl ?_
        refine wa_aload_n 49 0 hC dX10_account_48 rfl 0 rfl rfl ?_
        refine wa_iload_n 50 1 hC dX10_account_49 rfl 1 rfl rfl ?_
        refine wa_iload_n 51 2 hC dX10_account_50 rfl 2 rfl rfl ?_
        obtain ⟨r_4, e_6, h⟩ := bd_some h
        refine wa_callVi 54 hC [.int x1, .int x2] [.ref (ρ 30 0)] knX10_accountAt mvX10_197 (tX10_accountAt E.2.1 x1 x2 Z_3 hVC e_6) (vs10 hVC) kc10 (Nat.le_of_ble_eq_true rfl) (Nat.le_of_ble_eq_true rfl) rfl (Nat.le_of_ble_eq_true rfl) dX10_account_51 rfl le00 rfl ?_
        obtain ⟨g_5, h⟩ := gd_some h
        refine wa_laldr 55 hC (vs30 hVC) ar30 rfl g_5 dX10_account_54 rfl ?_
        exact wa_lret hC hQ (sm1 h) (jZ (sm2 h)) dX10_account_55
      · refine wa_lconst 41 hC dX10_account_40 kl_0 rfl ?_
        refine wa_goto 55 hC dX10_account_41 rfl ?_
        exact wa_lret hC hQ (sm1 h) (jZ (sm2 h)) dX10_account_55
    · refine wa_iconst 26 hC dX10_account_25 kc_2 rfl ?_
      refine wa_goto 30 hC dX10_account_26 rfl ?_
      obtain ⟨Z_7, eZ_7, h⟩ := ltb_some h
      refine wa_putIr 33 hC (vs10 hVC) nk10 eZ_7 sh10_6 rfl fpX10_63 dX10_account_30 rfl ?_
      refine wa_aload_n 34 0 hC dX10_account_33 rfl 0 rfl rfl ?_
      refine wa_getIr 37 hC (vs10 hVC) sh10_6 rfl flX10_63 dX10_account_34 rfl ?_
      refine wa_if_le 40 44 hC dX10_account_37 rfl rfl h (fun h => ?_) (fun h => ?_)
      · refine wa_aload_n 45 0 hC dX10_account_44 rfl 0 rfl rfl ?_
        refine wa_getR 48 hC (vs10 hVC) (sr10_3 _) flX10_19 dX10_account_45 rfl ?_
        refine wa_aload_n 49 0 hC dX10_account_48 rfl 0 rfl rfl ?_
        refine wa_iload_n 50 1 hC dX10_account_49 rfl 1 rfl rfl ?_
        refine wa_iload_n 51 2 hC dX10_account_50 rfl 2 rfl rfl ?_
        obtain ⟨r_8, e_10, h⟩ := bd_some h
        refine wa_callVi 54 hC [.int x1, .int x2] [.ref (ρ 30 0)] knX10_accountAt mvX10_197 (tX10_accountAt E.2.1 x1 x2 Z_7 hVC e_10) (vs10 hVC) kc10 (Nat.le_of_ble_eq_true rfl) (Nat.le_of_ble_eq_true rfl) rfl (Nat.le_of_ble_eq_true rfl) dX10_account_51 rfl le00 rfl ?_
        obtain ⟨g_9, h⟩ := gd_some h
        refine wa_laldr 55 hC (vs30 hVC) ar30 rfl g_9 dX10_account_54 rfl ?_
        exact wa_lret hC hQ (sm1 h) (jZ (sm2 h)) dX10_account_55
      · refine wa_lconst 41 hC dX10_account_40 kl_0 rfl ?_
        refine wa_goto 55 hC dX10_account_41 rfl ?_
        exact wa_lret hC hQ (sm1 h) (jZ (sm2 h)) dX10_account_55
  · refine wa_iconst 10 hC dX10_account_9 kc_1 rfl ?_
    refine wa_goto 30 hC dX10_account_10 rfl ?_
    obtain ⟨Z_12, eZ_12, h⟩ := ltb_some h
    refine wa_putIr 33 hC (vs10 hVC) nk10 eZ_12 sh10_6 rfl fpX10_63 dX10_account_30 rfl ?_
    refine wa_aload_n 34 0 hC dX10_account_33 rfl 0 rfl rfl ?_
    refine wa_getIr 37 hC (vs10 hVC) sh10_6 rfl flX10_63 dX10_account_34 rfl ?_
    refine wa_if_le 40 44 hC dX10_account_37 rfl rfl h (fun h => ?_) (fun h => ?_)
    · refine wa_aload_n 45 0 hC dX10_account_44 rfl 0 rfl rfl ?_
      refine wa_getR 48 hC (vs10 hVC) (sr10_3 _) flX10_19 dX10_account_45 rfl ?_
      refine wa_aload_n 49 0 hC dX10_account_48 rfl 0 rfl rfl ?_
      refine wa_iload_n 50 1 hC dX10_account_49 rfl 1 rfl rfl ?_
      refine wa_iload_n 51 2 hC dX10_account_50 rfl 2 rfl rfl ?_
      obtain ⟨r_13, e_15, h⟩ := bd_some h
      refine wa_callVi 54 hC [.int x1, .int x2] [.ref (ρ 30 0)] knX10_accountAt mvX10_197 (tX10_accountAt E.2.1 x1 x2 Z_12 hVC e_15) (vs10 hVC) kc10 (Nat.le_of_ble_eq_true rfl) (Nat.le_of_ble_eq_true rfl) rfl (Nat.le_of_ble_eq_true rfl) dX10_account_51 rfl le00 rfl ?_
      obtain ⟨g_14, h⟩ := gd_some h
      refine wa_laldr 55 hC (vs30 hVC) ar30 rfl g_14 dX10_account_54 rfl ?_
      exact wa_lret hC hQ (sm1 h) (jZ (sm2 h)) dX10_account_55
    · refine wa_lconst 41 hC dX10_account_40 kl_0 rfl ?_
      refine wa_goto 55 hC dX10_account_41 rfl ?_
      exact wa_lret hC hQ (sm1 h) (jZ (sm2 h)) dX10_account_55
set_option maxRecDepth 20000 in
theorem tX10_expiring (l : Launch) {G : gU} {ρ : Nat → Nat → Nat} {V : Nat → Nat → Prop} {A : sM} (x1 : Int32) (Z : sM) (_ : VC V) {r : Int64} {Z' : sM} (h : fX10_expiring x1 Z = some (r, Z')) : MT l yX10_expiring cX10_expiring 5 (some .long) 4 G ρ V [.ref (ρ 10 0), .int x1] (J A Z) (some (.long r)) (J A Z') := by
  refine vv_enter (lv := [(0, .ref (ρ 10 0)), (1, .int x1)]) RX10 rfl (by decide) (Nat.le_of_ble_eq_true rfl) rfl ?_
  intro E hE hC hQ hVC
  subst hE
  rw [fX10_expiring] at h
  refine wa_aload_n 1 0 hC dX10_expiring_0 rfl 0 rfl rfl ?_
  refine wa_getR 4 hC (vs10 hVC) (sr10_0 _) flX10_7 dX10_expiring_1 rfl ?_
  refine wa_iconst 5 hC dX10_expiring_4 kc_5 rfl ?_
  refine wa_ialdr 6 hC (vs27 hVC) ar27 rfl (by decide) dX10_expiring_5 rfl ?_
  refine wa_aload_n 7 0 hC dX10_expiring_6 rfl 0 rfl rfl ?_
  refine wa_getR 10 hC (vs10 hVC) (sr10_0 _) flX10_7 dX10_expiring_7 rfl ?_
  refine wa_iconst 11 hC dX10_expiring_10 kc_1 rfl ?_
  refine wa_ialdr 12 hC (vs27 hVC) ar27 rfl (by decide) dX10_expiring_11 rfl ?_
  refine wa_isub 13 hC dX10_expiring_12 rfl ?_
  obtain ⟨x2_3, ex2_3, h⟩ := ltb_some h
  refine wa_istore_n (lv' := [(2, .int x2_3), (0, .ref (ρ 10 0)), (1, .int x1)]) 14 2 hC dX10_expiring_13 rfl ex2_3 (by decide) rfl rfl ?_
  refine wa_aload_n 15 0 hC dX10_expiring_14 rfl 1 rfl rfl ?_
  refine wa_iload_n 16 1 hC dX10_expiring_15 rfl 2 rfl rfl ?_
  obtain ⟨r_5, Z_4, e_13, h⟩ := bd2_some h
  refine wa_callVi 19 hC [.int x1] [] knX10_lacks mvX10_208 (tX10_lacks E.2.1 x1 Z hVC e_13) (vs10 hVC) kc10 (Nat.le_of_ble_eq_true rfl) (Nat.le_of_ble_eq_true rfl) rfl (Nat.le_of_ble_eq_true rfl) dX10_expiring_16 rfl le00 rfl ?_
  refine wa_if_ne 22 26 hC dX10_expiring_19 rfl rfl h (fun h => ?_) (fun h => ?_)
  · refine wa_lconst 27 hC dX10_expiring_26 kl_0 rfl ?_
    exact wa_lret hC hQ (sm1 h) (jZ (sm2 h)) dX10_expiring_27
  · refine wa_iload_n 23 2 hC dX10_expiring_22 rfl 0 rfl rfl ?_
    refine wa_if_ge 26 28 hC dX10_expiring_23 rfl rfl h (fun h => ?_) (fun h => ?_)
    · refine wa_aload_n 29 0 hC dX10_expiring_28 rfl 1 rfl rfl ?_
      refine wa_getR 32 hC (vs10 hVC) (sr10_3 _) flX10_19 dX10_expiring_29 rfl ?_
      refine wa_aload_n 33 0 hC dX10_expiring_32 rfl 1 rfl rfl ?_
      refine wa_iload_n 34 1 hC dX10_expiring_33 rfl 2 rfl rfl ?_
      refine wa_iload_n 35 2 hC dX10_expiring_34 rfl 0 rfl rfl ?_
      obtain ⟨r_6, e_12, h⟩ := bd_some h
      refine wa_callVi 38 hC [.int x1, .int x2_3] [.ref (ρ 30 0)] knX10_lotAt mvX10_194 (tX10_lotAt E.2.1 x1 x2_3 Z_4 hVC e_12) (vs10 hVC) kc10 (Nat.le_of_ble_eq_true rfl) (Nat.le_of_ble_eq_true rfl) rfl (Nat.le_of_ble_eq_true rfl) dX10_expiring_35 rfl le00 rfl ?_
      obtain ⟨g_7, h⟩ := gd_some h
      refine wa_laldr 39 hC (vs30 hVC) ar30 rfl g_7 dX10_expiring_38 rfl ?_
      refine wa_aload_n 40 0 hC dX10_expiring_39 rfl 1 rfl rfl ?_
      refine wa_getR 43 hC (vs10 hVC) (sr10_3 _) flX10_19 dX10_expiring_40 rfl ?_
      refine wa_aload_n 44 0 hC dX10_expiring_43 rfl 1 rfl rfl ?_
      refine wa_iload_n 45 1 hC dX10_expiring_44 rfl 2 rfl rfl ?_
      refine wa_iconst 46 hC dX10_expiring_45 kc_1 rfl ?_
      obtain ⟨r_8, e_11, h⟩ := bd_some h
      refine wa_callVi 49 hC [.int x1, .int (1 : Int32)] [.ref (ρ 30 0), .long (Z_4.2 30 0 0 r_6.toNatClampNeg)] knX10_accountAt mvX10_197 (tX10_accountAt E.2.1 x1 (1 : Int32) Z_4 hVC e_11) (vs10 hVC) kc10 (Nat.le_of_ble_eq_true rfl) (Nat.le_of_ble_eq_true rfl) rfl (Nat.le_of_ble_eq_true rfl) dX10_expiring_46 rfl le00 rfl ?_
      obtain ⟨g_9, h⟩ := gd_some h
      refine wa_laldr 50 hC (vs30 hVC) ar30 rfl g_9 dX10_expiring_49 rfl ?_
      refine wa_lsub 51 hC dX10_expiring_50 rfl ?_
      obtain ⟨x3_10, ex3_10, h⟩ := ltb_some h
      refine wa_lstore_n (lv' := [(3, .long x3_10), (2, .int x2_3), (0, .ref (ρ 10 0)), (1, .int x1)]) 52 3 hC dX10_expiring_51 rfl ex3_10 (by decide) rfl rfl ?_
      refine wa_lload_n 53 3 hC dX10_expiring_52 rfl 0 rfl rfl ?_
      refine wa_lconst 54 hC dX10_expiring_53 kl_0 rfl ?_
      refine wa_lcmp 55 hC dX10_expiring_54 rfl ?_
      refine wa_lcmp_le 58 62 hC dX10_expiring_55 rfl rfl h (fun h => ?_) (fun h => ?_)
      · refine wa_lconst 63 hC dX10_expiring_62 kl_0 rfl ?_
        exact wa_lret hC hQ (sm1 h) (jZ (sm2 h)) dX10_expiring_63
      · refine wa_lload_n 59 3 hC dX10_expiring_58 rfl 0 rfl rfl ?_
        refine wa_goto 63 hC dX10_expiring_59 rfl ?_
        exact wa_lret hC hQ (sm1 h) (jZ (sm2 h)) dX10_expiring_63
    · refine wa_lconst 27 hC dX10_expiring_26 kl_0 rfl ?_
      exact wa_lret hC hQ (sm1 h) (jZ (sm2 h)) dX10_expiring_27
set_option maxRecDepth 20000 in
theorem wX10_monthsCovered_L39 {E : eU} {G : gU} {ρ : Nat → Nat → Nat} {V : Nat → Nat → Prop} {A : sM} {r : Int32} {Z' : sM} (x1 : Int32) (x2 : Int64) {k82 : sM → Option (Int32 × sM)} (hC : CX E G cX10_monthsCovered 6 RX10 (some .int) 3 0 0) (hVC : VC V) (hk82 : ∀ (Z : sM), k82 Z = some (r, Z') → WA E G ρ V 0 0 (J A Z) 82 [(0, .ref (ρ 10 0)), (2, .long x2)] []) : ∀ (n : Nat) (x4 : Int32) (Z : sM), fX10_monthsCovered_L39 x1 x2 k82 n x4 Z = some (r, Z') → WA E G ρ V 0 0 (J A Z) 39 [(0, .ref (ρ 10 0)), (1, .int x1), (2, .long x2), (4, .int x4)] [] := by
  intro n
  induction n with
  | zero =>
    intro x4 Z h
    rw [fX10_monthsCovered_L39] at h
    cases h
  | succ n ih =>
    intro x4 Z h
    rw [fX10_monthsCovered_L39] at h
    refine wa_iload 41 4 hC dX10_monthsCovered_39 3 rfl rfl ?_
    refine wa_bipush 43 hC dX10_monthsCovered_41 kb_84 rfl ?_
    refine wa_icmp_ge 46 82 hC dX10_monthsCovered_43 rfl rfl h (fun h => ?_) (fun h => ?_)
    · refine wa_pick [0, 2] rfl ?_
      exact hk82 Z h
    · refine wa_aload_n 47 0 hC dX10_monthsCovered_46 rfl 0 rfl rfl ?_
      refine wa_getR 50 hC (vs10 hVC) (sr10_23 _) flX10_52 dX10_monthsCovered_47 rfl ?_
      refine wa_iload 52 4 hC dX10_monthsCovered_50 3 rfl rfl ?_
      refine wa_iload 54 4 hC dX10_monthsCovered_52 3 rfl rfl ?_
      refine wa_bipush 56 hC dX10_monthsCovered_54 kb_60 rfl ?_
      obtain ⟨kj_2, ekj_2, h⟩ := ltb_k1 h
      have hkj_2 : ∀ (v_1 : Int64), kj_2 v_1 = some (r, Z') → WA E G ρ V 0 0 (J A Z) 75 [(0, .ref (ρ 10 0)), (1, .int x1), (2, .long x2), (4, .int x4)] [.long v_1, .int x4, .ref (ρ 39 0)] := by
        intro v_1 h
        rw [ekj_2] at h
        obtain ⟨g_3, h⟩ := gd_some h
        obtain ⟨Z_4, eZ_4, h⟩ := ltb_some h
        refine wa_lastr 76 hC (vs39 hVC) ar39 rfl g_3 eZ_4 dX10_monthsCovered_75 rfl ?_
        obtain ⟨x4_5, ex4_5, h⟩ := ltb_some h
        refine wa_iinc (lv' := [(4, .int x4_5), (0, .ref (ρ 10 0)), (1, .int x1), (2, .long x2)]) 79 4 hC dX10_monthsCovered_76 3 rfl (by rw [kc_1]; exact ex4_5) (by decide) rfl rfl ?_
        refine wa_goto 39 hC dX10_monthsCovered_79 rfl ?_
        refine wa_pick [1, 2, 3, 0] rfl ?_
        exact ih x4_5 Z_4 h
      clear ekj_2
      refine wa_icmp_ge 59 74 hC dX10_monthsCovered_56 rfl rfl h (fun h => ?_) (fun h => ?_)
      · refine wa_lconst 75 hC dX10_monthsCovered_74 kl_0 rfl ?_
        exact hkj_2 (0 : Int64) h
      · refine wa_aload_n 60 0 hC dX10_monthsCovered_59 rfl 0 rfl rfl ?_
        refine wa_getR 63 hC (vs10 hVC) (sr10_3 _) flX10_19 dX10_monthsCovered_60 rfl ?_
        refine wa_aload_n 64 0 hC dX10_monthsCovered_63 rfl 0 rfl rfl ?_
        refine wa_iload_n 65 1 hC dX10_monthsCovered_64 rfl 1 rfl rfl ?_
        refine wa_iload 67 4 hC dX10_monthsCovered_65 3 rfl rfl ?_
        obtain ⟨r_6, e_8, h⟩ := bd_some h
        refine wa_callVi 70 hC [.int x1, .int x4] [.ref (ρ 30 0), .int x4, .ref (ρ 39 0)] knX10_lotAt mvX10_194 (tX10_lotAt E.2.1 x1 x4 Z hVC e_8) (vs10 hVC) kc10 (Nat.le_of_ble_eq_true rfl) (Nat.le_of_ble_eq_true rfl) rfl (Nat.le_of_ble_eq_true rfl) dX10_monthsCovered_67 rfl le00 rfl ?_
        obtain ⟨g_7, h⟩ := gd_some h
        refine wa_laldr 71 hC (vs30 hVC) ar30 rfl g_7 dX10_monthsCovered_70 rfl ?_
        refine wa_goto 75 hC dX10_monthsCovered_71 rfl ?_
        exact hkj_2 (Z.2 30 0 0 r_6.toNatClampNeg) h
set_option maxRecDepth 20000 in
theorem wX10_monthsCovered_L85 {E : eU} {G : gU} {ρ : Nat → Nat → Nat} {V : Nat → Nat → Prop} {A : sM} {r : Int32} {Z' : sM} (x2 : Int64) {k138 : Int32 → sM → Option (Int32 × sM)} (hC : CX E G cX10_monthsCovered 6 RX10 (some .int) 3 0 0) (hVC : VC V) (hk138 : ∀ (x4 : Int32) (Z : sM), k138 x4 Z = some (r, Z') → WA E G ρ V 0 0 (J A Z) 138 [(4, .int x4)] []) : ∀ (n : Nat) (x4 : Int32) (Z : sM), fX10_monthsCovered_L85 x2 k138 n x4 Z = some (r, Z') → WA E G ρ V 0 0 (J A Z) 85 [(0, .ref (ρ 10 0)), (2, .long x2), (4, .int x4)] [] := by
  intro n
  induction n with
  | zero =>
    intro x4 Z h
    rw [fX10_monthsCovered_L85] at h
    cases h
  | succ n ih =>
    intro x4 Z h
    rw [fX10_monthsCovered_L85] at h
    refine wa_aload_n 86 0 hC dX10_monthsCovered_85 rfl 0 rfl rfl ?_
    refine wa_lload_n 87 2 hC dX10_monthsCovered_86 rfl 1 rfl rfl ?_
    obtain ⟨r_2, Z_1, e_13, h⟩ := bd2_some h
    refine wa_callVi 90 hC [.long x2] [] knX10_pays mvX10_261 (tX10_pays E.2.1 x2 Z hVC e_13) (vs10 hVC) kc10 (Nat.le_of_ble_eq_true rfl) (Nat.le_of_ble_eq_true rfl) rfl (Nat.le_of_ble_eq_true rfl) dX10_monthsCovered_87 rfl le00 rfl ?_
    refine wa_if_eq 93 138 hC dX10_monthsCovered_90 rfl rfl h (fun h => ?_) (fun h => ?_)
    · refine wa_pick [2] rfl ?_
      exact hk138 x4 Z_1 h
    · refine wa_aload_n 94 0 hC dX10_monthsCovered_93 rfl 0 rfl rfl ?_
      refine wa_getR 97 hC (vs10 hVC) (sr10_0 _) flX10_7 dX10_monthsCovered_94 rfl ?_
      refine wa_iconst 98 hC dX10_monthsCovered_97 kc_5 rfl ?_
      refine wa_ialdr 99 hC (vs27 hVC) ar27 rfl (by decide) dX10_monthsCovered_98 rfl ?_
      refine wa_iload 101 4 hC dX10_monthsCovered_99 2 rfl rfl ?_
      refine wa_iadd 102 hC dX10_monthsCovered_101 rfl ?_
      refine wa_aload_n 103 0 hC dX10_monthsCovered_102 rfl 0 rfl rfl ?_
      refine wa_getR 106 hC (vs10 hVC) (sr10_0 _) flX10_7 dX10_monthsCovered_103 rfl ?_
      refine wa_iconst 107 hC dX10_monthsCovered_106 kc_1 rfl ?_
      refine wa_ialdr 108 hC (vs27 hVC) ar27 rfl (by decide) dX10_monthsCovered_107 rfl ?_
      refine wa_isub 109 hC dX10_monthsCovered_108 rfl ?_
      obtain ⟨x5_5, ex5_5, h⟩ := ltb_some h
      refine wa_istore (lv' := [(5, .int x5_5), (0, .ref (ρ 10 0)), (2, .long x2), (4, .int x4)]) 111 5 hC dX10_monthsCovered_109 ex5_5 (by decide) rfl rfl ?_
      refine wa_iload 113 5 hC dX10_monthsCovered_111 0 rfl rfl ?_
      refine wa_i2l 114 hC dX10_monthsCovered_113 rfl ?_
      refine wa_lconst 115 hC dX10_monthsCovered_114 kl_0 rfl ?_
      refine wa_ldc2 118 hC dX10_monthsCovered_115 lcX10_269 rfl ?_
      obtain ⟨r_6, e_12, h⟩ := bd_some h
      refine wa_callSi 121 hC [.long (x5_5.toInt64), .long (0 : Int64), .long (59 : Int64)] [] knX10_isIn msX10_104 (tX10_isIn E.2.1 (x5_5.toInt64) (0 : Int64) (59 : Int64) Z_1 hVC e_12) (Nat.le_of_ble_eq_true rfl) (Nat.le_of_ble_eq_true rfl) rfl (Nat.le_of_ble_eq_true rfl) dX10_monthsCovered_118 rfl le00 rfl ?_
      obtain ⟨kj_8, ekj_8, h⟩ := ltb_k1 h
      have hkj_8 : ∀ (Z_7 : sM), kj_8 Z_7 = some (r, Z') → WA E G ρ V 0 0 (J A Z_7) 132 [(0, .ref (ρ 10 0)), (2, .long x2), (4, .int x4)] [] := by
        intro Z_7 h
        rw [ekj_8] at h
        obtain ⟨x4_9, ex4_9, h⟩ := ltb_some h
        refine wa_iinc (lv' := [(4, .int x4_9), (0, .ref (ρ 10 0)), (2, .long x2)]) 135 4 hC dX10_monthsCovered_132 2 rfl (by rw [kc_1]; exact ex4_9) (by decide) rfl rfl ?_
        refine wa_goto 85 hC dX10_monthsCovered_135 rfl ?_
        refine wa_pick [1, 2, 0] rfl ?_
        exact ih x4_9 Z_7 h
      clear ekj_8
      refine wa_if_eq 124 132 hC dX10_monthsCovered_121 rfl rfl h (fun h => ?_) (fun h => ?_)
      · refine wa_pick [1, 2, 3] rfl ?_
        exact hkj_8 Z_1 h
      · refine wa_aload_n 125 0 hC dX10_monthsCovered_124 rfl 1 rfl rfl ?_
        refine wa_getR 128 hC (vs10 hVC) (sr10_23 _) flX10_52 dX10_monthsCovered_125 rfl ?_
        refine wa_iload 130 5 hC dX10_monthsCovered_128 0 rfl rfl ?_
        refine wa_lconst 131 hC dX10_monthsCovered_130 kl_0 rfl ?_
        obtain ⟨g_10, h⟩ := gd_some h
        obtain ⟨Z_11, eZ_11, h⟩ := ltb_some h
        refine wa_lastr 132 hC (vs39 hVC) ar39 rfl g_10 eZ_11 dX10_monthsCovered_131 rfl ?_
        refine wa_pick [1, 2, 3] rfl ?_
        exact hkj_8 Z_11 h
set_option maxRecDepth 20000 in
theorem tX10_monthsCovered (l : Launch) {G : gU} {ρ : Nat → Nat → Nat} {V : Nat → Nat → Prop} {A : sM} (x1 : Int32) (x2 : Int64) (Z : sM) (_ : VC V) {r : Int32} {Z' : sM} (h : fX10_monthsCovered x1 x2 Z = some (r, Z')) : MT l yX10_monthsCovered cX10_monthsCovered 6 (some .int) 3 G ρ V [.ref (ρ 10 0), .int x1, .long x2] (J A Z) (some (.int r)) (J A Z') := by
  refine vv_enter (lv := [(0, .ref (ρ 10 0)), (1, .int x1), (2, .long x2)]) RX10 rfl (by decide) (Nat.le_of_ble_eq_true rfl) rfl ?_
  intro E hE hC hQ hVC
  subst hE
  rw [fX10_monthsCovered] at h
  refine wa_aload_n 1 0 hC dX10_monthsCovered_0 rfl 0 rfl rfl ?_
  refine wa_aload_n 2 0 hC dX10_monthsCovered_1 rfl 0 rfl rfl ?_
  refine wa_iload_n 3 1 hC dX10_monthsCovered_2 rfl 1 rfl rfl ?_
  obtain ⟨r_1, e_8, h⟩ := bd_some h
  refine wa_callVi 6 hC [.int x1] [.ref (ρ 10 0)] knX10_isMember mvX10_184 (tX10_isMember E.2.1 x1 Z hVC e_8) (vs10 hVC) kc10 (Nat.le_of_ble_eq_true rfl) (Nat.le_of_ble_eq_true rfl) rfl (Nat.le_of_ble_eq_true rfl) dX10_monthsCovered_3 rfl le00 rfl ?_
  obtain ⟨kj_3, ekj_3, h⟩ := ltb_k1 h
  have hkj_3 : ∀ (v_2 : Int32), kj_3 v_2 = some (r, Z') → WA E G ρ V 0 0 (J A Z) 24 [(0, .ref (ρ 10 0)), (1, .int x1), (2, .long x2)] [.int v_2, .ref (ρ 10 0)] := by
    intro v_2 h
    rw [ekj_3] at h
    obtain ⟨Z_4, eZ_4, h⟩ := ltb_some h
    refine wa_putIr 27 hC (vs10 hVC) nk10 eZ_4 sh10_6 rfl fpX10_63 dX10_monthsCovered_24 rfl ?_
    refine wa_aload_n 28 0 hC dX10_monthsCovered_27 rfl 0 rfl rfl ?_
    refine wa_getIr 31 hC (vs10 hVC) sh10_6 rfl flX10_63 dX10_monthsCovered_28 rfl ?_
    refine wa_if_le 34 36 hC dX10_monthsCovered_31 rfl rfl h (fun h => ?_) (fun h => ?_)
    · refine wa_iconst 37 hC dX10_monthsCovered_36 kc_0 rfl ?_
      refine wa_istore (lv' := [(4, .int (0 : Int32)), (0, .ref (ρ 10 0)), (1, .int x1), (2, .long x2)]) 39 4 hC dX10_monthsCovered_37 rfl (by decide) rfl rfl ?_
      refine wa_pick [1, 2, 3, 0] rfl ?_
      refine wX10_monthsCovered_L39 x1 x2 hC hVC (fun Z_5 h => ?_) 10000 (0 : Int32) Z_4 h
      refine wa_iconst 83 hC dX10_monthsCovered_82 kc_0 rfl ?_
      refine wa_istore (lv' := [(4, .int (0 : Int32)), (0, .ref (ρ 10 0)), (2, .long x2)]) 85 4 hC dX10_monthsCovered_83 rfl (by decide) rfl rfl ?_
      refine wa_pick [1, 2, 0] rfl ?_
      refine wX10_monthsCovered_L85 x2 hC hVC (fun x4_6 Z_7 h => ?_) 10000 (0 : Int32) Z_5 h
      refine wa_iload 140 4 hC dX10_monthsCovered_138 0 rfl rfl ?_
      exact wa_iret hC hQ (sm1 h) (jZ (sm2 h)) dX10_monthsCovered_140
    · refine wa_iconst 35 hC dX10_monthsCovered_34 kc_0 rfl ?_
      exact wa_iret hC hQ (sm1 h) (jZ (sm2 h)) dX10_monthsCovered_35
  clear ekj_3
  refine wa_if_ne 9 13 hC dX10_monthsCovered_6 rfl rfl h (fun h => ?_) (fun h => ?_)
  · refine wa_lload_n 14 2 hC dX10_monthsCovered_13 rfl 2 rfl rfl ?_
    refine wa_lconst 15 hC dX10_monthsCovered_14 kl_1 rfl ?_
    refine wa_lcmp 16 hC dX10_monthsCovered_15 rfl ?_
    refine wa_lcmp_ge 19 23 hC dX10_monthsCovered_16 rfl rfl h (fun h => ?_) (fun h => ?_)
    · refine wa_iconst 24 hC dX10_monthsCovered_23 kc_0 rfl ?_
      exact hkj_3 (0 : Int32) h
    · refine wa_iconst 20 hC dX10_monthsCovered_19 kc_2 rfl ?_
      refine wa_goto 24 hC dX10_monthsCovered_20 rfl ?_
      exact hkj_3 (2 : Int32) h
  · refine wa_iconst 10 hC dX10_monthsCovered_9 kc_1 rfl ?_
    refine wa_goto 24 hC dX10_monthsCovered_10 rfl ?_
    exact hkj_3 (1 : Int32) h
set_option maxRecDepth 20000 in
theorem tX10_fund (l : Launch) {G : gU} {ρ : Nat → Nat → Nat} {V : Nat → Nat → Prop} {A : sM} (Z : sM) (_ : VC V) {r : Int64} {Z' : sM} (h : fX10_fund Z = some (r, Z')) : MT l yX10_fund cX10_fund 1 (some .long) 1 G ρ V [.ref (ρ 10 0)] (J A Z) (some (.long r)) (J A Z') := by
  refine vv_enter (lv := [(0, .ref (ρ 10 0))]) RX10 rfl (by decide) (Nat.le_of_ble_eq_true rfl) rfl ?_
  intro E hE hC hQ hVC
  subst hE
  rw [fX10_fund] at h
  refine wa_aload_n 1 0 hC dX10_fund_0 rfl 0 rfl rfl ?_
  refine wa_iconst 2 hC dX10_fund_1 kc_0 rfl ?_
  obtain ⟨Z_1, eZ_1, h⟩ := ltb_some h
  refine wa_putIr 5 hC (vs10 hVC) nk10 eZ_1 sh10_6 rfl fpX10_63 dX10_fund_2 rfl ?_
  refine wa_aload_n 6 0 hC dX10_fund_5 rfl 0 rfl rfl ?_
  refine wa_getR 9 hC (vs10 hVC) (sr10_3 _) flX10_19 dX10_fund_6 rfl ?_
  refine wa_iconst 10 hC dX10_fund_9 kc_0 rfl ?_
  refine wa_laldr 11 hC (vs30 hVC) ar30 rfl (by decide) dX10_fund_10 rfl ?_
  exact wa_lret hC hQ (sm1 h) (jZ (sm2 h)) dX10_fund_11
set_option maxRecDepth 20000 in
theorem tX10_operatorAccount (l : Launch) {G : gU} {ρ : Nat → Nat → Nat} {V : Nat → Nat → Prop} {A : sM} (Z : sM) (_ : VC V) {r : Int64} {Z' : sM} (h : fX10_operatorAccount Z = some (r, Z')) : MT l yX10_operatorAccount cX10_operatorAccount 1 (some .long) 1 G ρ V [.ref (ρ 10 0)] (J A Z) (some (.long r)) (J A Z') := by
  refine vv_enter (lv := [(0, .ref (ρ 10 0))]) RX10 rfl (by decide) (Nat.le_of_ble_eq_true rfl) rfl ?_
  intro E hE hC hQ hVC
  subst hE
  rw [fX10_operatorAccount] at h
  refine wa_aload_n 1 0 hC dX10_operatorAccount_0 rfl 0 rfl rfl ?_
  refine wa_iconst 2 hC dX10_operatorAccount_1 kc_0 rfl ?_
  obtain ⟨Z_1, eZ_1, h⟩ := ltb_some h
  refine wa_putIr 5 hC (vs10 hVC) nk10 eZ_1 sh10_6 rfl fpX10_63 dX10_operatorAccount_2 rfl ?_
  refine wa_aload_n 6 0 hC dX10_operatorAccount_5 rfl 0 rfl rfl ?_
  refine wa_getR 9 hC (vs10 hVC) (sr10_3 _) flX10_19 dX10_operatorAccount_6 rfl ?_
  refine wa_iconst 10 hC dX10_operatorAccount_9 kc_1 rfl ?_
  refine wa_laldr 11 hC (vs30 hVC) ar30 rfl (by decide) dX10_operatorAccount_10 rfl ?_
  exact wa_lret hC hQ (sm1 h) (jZ (sm2 h)) dX10_operatorAccount_11
set_option maxRecDepth 20000 in
theorem tX10_correct (l : Launch) {G : gU} {ρ : Nat → Nat → Nat} {V : Nat → Nat → Prop} {A : sM} (x1 : Int32) (x2 : Int32) (x3 : Int32) (Z : sM) (_ : VC V) {r : Int32} {Z' : sM} (h : fX10_correct x1 x2 x3 Z = some (r, Z')) : MT l yX10_correct cX10_correct 4 (some .int) 2 G ρ V [.ref (ρ 10 0), .int x1, .int x2, .int x3] (J A Z) (some (.int r)) (J A Z') := by
  refine vv_enter (lv := [(0, .ref (ρ 10 0)), (1, .int x1), (2, .int x2), (3, .int x3)]) RX10 rfl (by decide) (Nat.le_of_ble_eq_true rfl) rfl ?_
  intro E hE hC hQ hVC
  subst hE
  rw [fX10_correct] at h
  refine wa_aload_n 1 0 hC dX10_correct_0 rfl 0 rfl rfl ?_
  refine wa_iload_n 2 1 hC dX10_correct_1 rfl 1 rfl rfl ?_
  refine wa_i2l 3 hC dX10_correct_2 rfl ?_
  refine wa_lconst 4 hC dX10_correct_3 kl_0 rfl ?_
  refine wa_aload_n 5 0 hC dX10_correct_4 rfl 0 rfl rfl ?_
  refine wa_getR 8 hC (vs10 hVC) (sr10_0 _) flX10_7 dX10_correct_5 rfl ?_
  refine wa_iconst 9 hC dX10_correct_8 kc_5 rfl ?_
  refine wa_ialdr 10 hC (vs27 hVC) ar27 rfl (by decide) dX10_correct_9 rfl ?_
  refine wa_iconst 11 hC dX10_correct_10 kc_1 rfl ?_
  refine wa_isub 12 hC dX10_correct_11 rfl ?_
  refine wa_i2l 13 hC dX10_correct_12 rfl ?_
  obtain ⟨r_2, e_19, h⟩ := bd_some h
  refine wa_callSi 16 hC [.long (x1.toInt64), .long (0 : Int64), .long (((Z.1 27 0 0 (5 : Int32).toNatClampNeg) - (1 : Int32)).toInt64)] [.ref (ρ 10 0)] knX10_isIn msX10_104 (tX10_isIn E.2.1 (x1.toInt64) (0 : Int64) (((Z.1 27 0 0 (5 : Int32).toNatClampNeg) - (1 : Int32)).toInt64) Z hVC e_19) (Nat.le_of_ble_eq_true rfl) (Nat.le_of_ble_eq_true rfl) rfl (Nat.le_of_ble_eq_true rfl) dX10_correct_13 rfl le00 rfl ?_
  obtain ⟨kj_4, ekj_4, h⟩ := ltb_k1 h
  have hkj_4 : ∀ (v_3 : Int32), kj_4 v_3 = some (r, Z') → WA E G ρ V 0 0 (J A Z) 58 [(0, .ref (ρ 10 0)), (1, .int x1), (2, .int x2), (3, .int x3)] [.int v_3, .ref (ρ 10 0)] := by
    intro v_3 h
    rw [ekj_4] at h
    obtain ⟨Z_5, eZ_5, h⟩ := ltb_some h
    refine wa_putIr 61 hC (vs10 hVC) nk10 eZ_5 sh10_6 rfl fpX10_63 dX10_correct_58 rfl ?_
    refine wa_aload_n 62 0 hC dX10_correct_61 rfl 0 rfl rfl ?_
    refine wa_getIr 65 hC (vs10 hVC) sh10_6 rfl flX10_63 dX10_correct_62 rfl ?_
    refine wa_if_le 68 70 hC dX10_correct_65 rfl rfl h (fun h => ?_) (fun h => ?_)
    · refine wa_aload_n 71 0 hC dX10_correct_70 rfl 0 rfl rfl ?_
      obtain ⟨Z_6, e_12, h⟩ := bd_some h
      refine wa_callVv 74 hC [] [] knX10_keeps mvX10_157 (tX10_keeps E.2.1 Z_5 hVC e_12) (vs10 hVC) kc10 (Nat.le_of_ble_eq_true rfl) (Nat.le_of_ble_eq_true rfl) rfl (Nat.le_of_ble_eq_true rfl) dX10_correct_71 rfl le00 rfl ?_
      refine wa_aload_n 75 0 hC dX10_correct_74 rfl 0 rfl rfl ?_
      refine wa_getR 78 hC (vs10 hVC) (sr10_0 _) flX10_7 dX10_correct_75 rfl ?_
      refine wa_sipush 81 hC dX10_correct_78 ks_1348 rfl ?_
      refine wa_iconst 82 hC dX10_correct_81 kc_4 rfl ?_
      refine wa_iload_n 83 1 hC dX10_correct_82 rfl 1 rfl rfl ?_
      refine wa_imul 84 hC dX10_correct_83 rfl ?_
      refine wa_iadd 85 hC dX10_correct_84 rfl ?_
      refine wa_iload_n 86 2 hC dX10_correct_85 rfl 2 rfl rfl ?_
      refine wa_iadd 87 hC dX10_correct_86 rfl ?_
      refine wa_iload_n 88 3 hC dX10_correct_87 rfl 3 rfl rfl ?_
      obtain ⟨g_7, h⟩ := gd_some h
      obtain ⟨Z_8, eZ_8, h⟩ := ltb_some h
      refine wa_iastr 89 hC (vs27 hVC) nk27 ar27 rfl g_7 eZ_8 dX10_correct_88 rfl ?_
      refine wa_aload_n 90 0 hC dX10_correct_89 rfl 0 rfl rfl ?_
      refine wa_getR 93 hC (vs10 hVC) (sr10_0 _) flX10_7 dX10_correct_90 rfl ?_
      refine wa_aload_n 94 0 hC dX10_correct_93 rfl 0 rfl rfl ?_
      refine wa_iload_n 95 1 hC dX10_correct_94 rfl 1 rfl rfl ?_
      refine wa_iload_n 96 2 hC dX10_correct_95 rfl 2 rfl rfl ?_
      obtain ⟨r_9, e_11, h⟩ := bd_some h
      refine wa_callVi 99 hC [.int x1, .int x2] [.ref (ρ 27 0)] knX10_generatedAt mvX10_221 (tX10_generatedAt E.2.1 x1 x2 Z_8 hVC e_11) (vs10 hVC) kc10 (Nat.le_of_ble_eq_true rfl) (Nat.le_of_ble_eq_true rfl) rfl (Nat.le_of_ble_eq_true rfl) dX10_correct_96 rfl le00 rfl ?_
      obtain ⟨g_10, h⟩ := gd_some h
      refine wa_ialdr 100 hC (vs27 hVC) ar27 rfl g_10 dX10_correct_99 rfl ?_
      exact wa_iret hC hQ (sm1 h) (jZ (sm2 h)) dX10_correct_100
    · refine wa_iconst 69 hC dX10_correct_68 kc_0 rfl ?_
      exact wa_iret hC hQ (sm1 h) (jZ (sm2 h)) dX10_correct_69
  clear ekj_4
  obtain ⟨kj_13, ekj_13, h⟩ := ltb_some h
  have hkj_13 : kj_13 = some (r, Z') → WA E G ρ V 0 0 (J A Z) 37 [(0, .ref (ρ 10 0)), (1, .int x1), (2, .int x2), (3, .int x3)] [.ref (ρ 10 0)] := by
    intro h
    rw [ekj_13] at h
    refine wa_iconst 38 hC dX10_correct_37 kc_1 rfl ?_
    refine wa_goto 58 hC dX10_correct_38 rfl ?_
    exact hkj_4 (1 : Int32) h
  clear ekj_13
  refine wa_if_eq 19 37 hC dX10_correct_16 rfl rfl h (fun h => ?_) (fun h => ?_)
  · exact hkj_13 h
  · refine wa_iload_n 20 2 hC dX10_correct_19 rfl 2 rfl rfl ?_
    refine wa_i2l 21 hC dX10_correct_20 rfl ?_
    refine wa_lconst 22 hC dX10_correct_21 kl_0 rfl ?_
    refine wa_aload_n 23 0 hC dX10_correct_22 rfl 0 rfl rfl ?_
    refine wa_getR 26 hC (vs10 hVC) (sr10_0 _) flX10_7 dX10_correct_23 rfl ?_
    refine wa_iconst 27 hC dX10_correct_26 kc_4 rfl ?_
    refine wa_ialdr 28 hC (vs27 hVC) ar27 rfl (by decide) dX10_correct_27 rfl ?_
    refine wa_iconst 29 hC dX10_correct_28 kc_1 rfl ?_
    refine wa_isub 30 hC dX10_correct_29 rfl ?_
    refine wa_i2l 31 hC dX10_correct_30 rfl ?_
    obtain ⟨r_15, e_18, h⟩ := bd_some h
    refine wa_callSi 34 hC [.long (x2.toInt64), .long (0 : Int64), .long (((Z.1 27 0 0 (4 : Int32).toNatClampNeg) - (1 : Int32)).toInt64)] [.ref (ρ 10 0)] knX10_isIn msX10_104 (tX10_isIn E.2.1 (x2.toInt64) (0 : Int64) (((Z.1 27 0 0 (4 : Int32).toNatClampNeg) - (1 : Int32)).toInt64) Z hVC e_18) (Nat.le_of_ble_eq_true rfl) (Nat.le_of_ble_eq_true rfl) rfl (Nat.le_of_ble_eq_true rfl) dX10_correct_31 rfl le00 rfl ?_
    refine wa_if_ne 37 41 hC dX10_correct_34 rfl rfl h (fun h => ?_) (fun h => ?_)
    · refine wa_iload_n 42 3 hC dX10_correct_41 rfl 3 rfl rfl ?_
      refine wa_i2l 43 hC dX10_correct_42 rfl ?_
      refine wa_lconst 44 hC dX10_correct_43 kl_0 rfl ?_
      refine wa_ldc2 47 hC dX10_correct_44 lcX10_219 rfl ?_
      obtain ⟨r_16, e_17, h⟩ := bd_some h
      refine wa_callSi 50 hC [.long (x3.toInt64), .long (0 : Int64), .long (1000000000 : Int64)] [.ref (ρ 10 0)] knX10_isIn msX10_104 (tX10_isIn E.2.1 (x3.toInt64) (0 : Int64) (1000000000 : Int64) Z hVC e_17) (Nat.le_of_ble_eq_true rfl) (Nat.le_of_ble_eq_true rfl) rfl (Nat.le_of_ble_eq_true rfl) dX10_correct_47 rfl le00 rfl ?_
      refine wa_if_ne 53 57 hC dX10_correct_50 rfl rfl h (fun h => ?_) (fun h => ?_)
      · refine wa_iconst 58 hC dX10_correct_57 kc_0 rfl ?_
        exact hkj_4 (0 : Int32) h
      · refine wa_iconst 54 hC dX10_correct_53 kc_2 rfl ?_
        refine wa_goto 58 hC dX10_correct_54 rfl ?_
        exact hkj_4 (2 : Int32) h
    · exact hkj_13 h
set_option maxRecDepth 20000 in
theorem wX10_truesUp_L60 {E : eU} {G : gU} {ρ : Nat → Nat → Nat} {V : Nat → Nat → Prop} {A : sM} {Z' : sM} (x2 : Int64) (x4 : Int64) {k160 : sM → Option (sM)} (hC : CX E G cX10_truesUp 7 RX10 none 3 0 0) (hVC : VC V) (hk160 : ∀ (Z : sM), k160 Z = some Z' → WA E G ρ V 0 0 (J A Z) 160 [] []) : ∀ (n : Nat) (x6 : Int32) (Z : sM), fX10_truesUp_L60 x2 x4 k160 n x6 Z = some Z' → WA E G ρ V 0 0 (J A Z) 60 [(0, .ref (ρ 10 0)), (2, .long x2), (4, .long x4), (6, .int x6)] [] := by
  intro n
  induction n with
  | zero =>
    intro x6 Z h
    rw [fX10_truesUp_L60] at h
    cases h
  | succ n ih =>
    intro x6 Z h
    rw [fX10_truesUp_L60] at h
    refine wa_iload 62 6 hC dX10_truesUp_60 3 rfl rfl ?_
    refine wa_aload_n 63 0 hC dX10_truesUp_62 rfl 0 rfl rfl ?_
    refine wa_getR 66 hC (vs10 hVC) (sr10_0 _) flX10_7 dX10_truesUp_63 rfl ?_
    refine wa_bipush 68 hC dX10_truesUp_66 kb_7 rfl ?_
    refine wa_ialdr 69 hC (vs27 hVC) ar27 rfl (by decide) dX10_truesUp_68 rfl ?_
    refine wa_icmp_ge 72 160 hC dX10_truesUp_69 rfl rfl h (fun h => ?_) (fun h => ?_)
    · refine wa_pick [] rfl ?_
      exact hk160 Z h
    · refine wa_aload_n 73 0 hC dX10_truesUp_72 rfl 0 rfl rfl ?_
      refine wa_iload 75 6 hC dX10_truesUp_73 3 rfl rfl ?_
      obtain ⟨r_2, e_22, h⟩ := bd_some h
      refine wa_callVi 78 hC [.int x6] [] knX10_isActive mvX10_187 (tX10_isActive E.2.1 x6 Z hVC e_22) (vs10 hVC) kc10 (Nat.le_of_ble_eq_true rfl) (Nat.le_of_ble_eq_true rfl) rfl (Nat.le_of_ble_eq_true rfl) dX10_truesUp_75 rfl le00 rfl ?_
      obtain ⟨kj_4, ekj_4, h⟩ := ltb_k1 h
      have hkj_4 : ∀ (Z_3 : sM), kj_4 Z_3 = some Z' → WA E G ρ V 0 0 (J A Z_3) 154 [(0, .ref (ρ 10 0)), (2, .long x2), (4, .long x4), (6, .int x6)] [] := by
        intro Z_3 h
        rw [ekj_4] at h
        obtain ⟨x6_5, ex6_5, h⟩ := ltb_some h
        refine wa_iinc (lv' := [(6, .int x6_5), (0, .ref (ρ 10 0)), (2, .long x2), (4, .long x4)]) 157 6 hC dX10_truesUp_154 3 rfl (by rw [kc_1]; exact ex6_5) (by decide) rfl rfl ?_
        refine wa_goto 60 hC dX10_truesUp_157 rfl ?_
        refine wa_pick [1, 2, 3, 0] rfl ?_
        exact ih x6_5 Z_3 h
      clear ekj_4
      refine wa_if_ne 81 103 hC dX10_truesUp_78 rfl rfl h (fun h => ?_) (fun h => ?_)
      · refine wa_lload_n 104 2 hC dX10_truesUp_103 rfl 1 rfl rfl ?_
        refine wa_lconst 105 hC dX10_truesUp_104 kl_0 rfl ?_
        refine wa_lcmp 106 hC dX10_truesUp_105 rfl ?_
        refine wa_lcmp_le 109 125 hC dX10_truesUp_106 rfl rfl h (fun h => ?_) (fun h => ?_)
        · refine wa_aload_n 126 0 hC dX10_truesUp_125 rfl 0 rfl rfl ?_
          refine wa_getR 129 hC (vs10 hVC) (sr10_3 _) flX10_19 dX10_truesUp_126 rfl ?_
          refine wa_aload_n 130 0 hC dX10_truesUp_129 rfl 0 rfl rfl ?_
          refine wa_iload 132 6 hC dX10_truesUp_130 3 rfl rfl ?_
          refine wa_iconst 133 hC dX10_truesUp_132 kc_0 rfl ?_
          obtain ⟨r_6, e_14, h⟩ := bd_some h
          refine wa_callVi 136 hC [.int x6, .int (0 : Int32)] [.ref (ρ 30 0)] knX10_accountAt mvX10_197 (tX10_accountAt E.2.1 x6 (0 : Int32) Z hVC e_14) (vs10 hVC) kc10 (Nat.le_of_ble_eq_true rfl) (Nat.le_of_ble_eq_true rfl) rfl (Nat.le_of_ble_eq_true rfl) dX10_truesUp_133 rfl le00 rfl ?_
          refine wa_dup2 137 hC dX10_truesUp_136 rfl rfl rfl ?_
          obtain ⟨g_7, h⟩ := gd_some h
          refine wa_laldr 138 hC (vs30 hVC) ar30 rfl g_7 dX10_truesUp_137 rfl ?_
          refine wa_aload_n 139 0 hC dX10_truesUp_138 rfl 0 rfl rfl ?_
          refine wa_iload 141 6 hC dX10_truesUp_139 3 rfl rfl ?_
          refine wa_aload_n 142 0 hC dX10_truesUp_141 rfl 0 rfl rfl ?_
          refine wa_getR 145 hC (vs10 hVC) (sr10_18 _) flX10_36 dX10_truesUp_142 rfl ?_
          refine wa_iload 147 6 hC dX10_truesUp_145 3 rfl rfl ?_
          obtain ⟨g_8, h⟩ := gd_some h
          refine wa_laldr 148 hC (vs34 hVC) ar34 rfl g_8 dX10_truesUp_147 rfl ?_
          refine wa_iconst 149 hC dX10_truesUp_148 kc_1 rfl ?_
          obtain ⟨r_10, Z_9, e_13, h⟩ := bd2_some h
          refine wa_callVl 152 hC [.int x6, .long (Z.2 34 0 0 x6.toNatClampNeg), .int (1 : Int32)] [.long (Z.2 30 0 0 r_6.toNatClampNeg), .int r_6, .ref (ρ 30 0)] knX10_takesLots mvX10_200 (tX10_takesLots E.2.1 x6 (Z.2 34 0 0 x6.toNatClampNeg) (1 : Int32) Z hVC e_13) (vs10 hVC) kc10 (Nat.le_of_ble_eq_true rfl) (Nat.le_of_ble_eq_true rfl) rfl (Nat.le_of_ble_eq_true rfl) dX10_truesUp_149 rfl le00 rfl ?_
          refine wa_ladd 153 hC dX10_truesUp_152 rfl ?_
          obtain ⟨g_11, h⟩ := gd_some h
          obtain ⟨Z_12, eZ_12, h⟩ := ltb_some h
          refine wa_lastr 154 hC (vs30 hVC) ar30 rfl g_11 eZ_12 dX10_truesUp_153 rfl ?_
          exact hkj_4 Z_12 h
        · refine wa_aload_n 110 0 hC dX10_truesUp_109 rfl 0 rfl rfl ?_
          refine wa_iload 112 6 hC dX10_truesUp_110 3 rfl rfl ?_
          refine wa_aload_n 113 0 hC dX10_truesUp_112 rfl 0 rfl rfl ?_
          refine wa_getR 116 hC (vs10 hVC) (sr10_18 _) flX10_36 dX10_truesUp_113 rfl ?_
          refine wa_iload 118 6 hC dX10_truesUp_116 3 rfl rfl ?_
          obtain ⟨g_15, h⟩ := gd_some h
          refine wa_laldr 119 hC (vs34 hVC) ar34 rfl g_15 dX10_truesUp_118 rfl ?_
          obtain ⟨Z_16, e_17, h⟩ := bd_some h
          refine wa_callVv 122 hC [.int x6, .long (Z.2 34 0 0 x6.toNatClampNeg)] [] knX10_credits mvX10_233 (tX10_credits E.2.1 x6 (Z.2 34 0 0 x6.toNatClampNeg) Z hVC e_17) (vs10 hVC) kc10 (Nat.le_of_ble_eq_true rfl) (Nat.le_of_ble_eq_true rfl) rfl (Nat.le_of_ble_eq_true rfl) dX10_truesUp_119 rfl le00 rfl ?_
          refine wa_goto 154 hC dX10_truesUp_122 rfl ?_
          exact hkj_4 Z_16 h
      · refine wa_aload_n 82 0 hC dX10_truesUp_81 rfl 0 rfl rfl ?_
        refine wa_getR 85 hC (vs10 hVC) (sr10_3 _) flX10_19 dX10_truesUp_82 rfl ?_
        refine wa_iconst 86 hC dX10_truesUp_85 kc_0 rfl ?_
        refine wa_dup2 87 hC dX10_truesUp_86 rfl rfl rfl ?_
        refine wa_laldr 88 hC (vs30 hVC) ar30 rfl (by decide) dX10_truesUp_87 rfl ?_
        refine wa_lload 90 4 hC dX10_truesUp_88 2 rfl rfl ?_
        refine wa_aload_n 91 0 hC dX10_truesUp_90 rfl 0 rfl rfl ?_
        refine wa_getR 94 hC (vs10 hVC) (sr10_18 _) flX10_36 dX10_truesUp_91 rfl ?_
        refine wa_iload 96 6 hC dX10_truesUp_94 3 rfl rfl ?_
        obtain ⟨g_19, h⟩ := gd_some h
        refine wa_laldr 97 hC (vs34 hVC) ar34 rfl g_19 dX10_truesUp_96 rfl ?_
        refine wa_lmul 98 hC dX10_truesUp_97 rfl ?_
        refine wa_ladd 99 hC dX10_truesUp_98 rfl ?_
        obtain ⟨Z_21, eZ_21, h⟩ := ltb_some h
        refine wa_lastr 100 hC (vs30 hVC) ar30 rfl (by decide) eZ_21 dX10_truesUp_99 rfl ?_
        refine wa_goto 154 hC dX10_truesUp_100 rfl ?_
        exact hkj_4 Z_21 h
set_option maxRecDepth 20000 in
theorem tX10_truesUp (l : Launch) {G : gU} {ρ : Nat → Nat → Nat} {V : Nat → Nat → Prop} {A : sM} (x1 : Int32) (x2 : Int64) (Z : sM) (_ : VC V) {Z' : sM} (h : fX10_truesUp x1 x2 Z = some Z') : MT l yX10_truesUp cX10_truesUp 7 none 3 G ρ V [.ref (ρ 10 0), .int x1, .long x2] (J A Z) none (J A Z') := by
  refine vv_enter (lv := [(0, .ref (ρ 10 0)), (1, .int x1), (2, .long x2)]) RX10 rfl (by decide) (Nat.le_of_ble_eq_true rfl) rfl ?_
  intro E hE hC hQ hVC
  subst hE
  rw [fX10_truesUp] at h
  refine wa_aload_n 1 0 hC dX10_truesUp_0 rfl 0 rfl rfl ?_
  refine wa_lload_n 2 2 hC dX10_truesUp_1 rfl 2 rfl rfl ?_
  refine wa_lconst 3 hC dX10_truesUp_2 kl_0 rfl ?_
  refine wa_lcmp 4 hC dX10_truesUp_3 rfl ?_
  obtain ⟨kj_2, ekj_2, h⟩ := ltb_k1 h
  have hkj_2 : ∀ (v_1 : Int64), kj_2 v_1 = some Z' → WA E G ρ V 0 0 (J A Z) 13 [(0, .ref (ρ 10 0)), (1, .int x1), (2, .long x2)] [.long v_1, .ref (ρ 10 0)] := by
    intro v_1 h
    rw [ekj_2] at h
    refine wa_iload_n 14 1 hC dX10_truesUp_13 rfl 1 rfl rfl ?_
    refine wa_iconst 15 hC dX10_truesUp_14 kc_0 rfl ?_
    obtain ⟨Z_3, e_12, h⟩ := bd_some h
    refine wa_callVv 18 hC [.long v_1, .int x1, .int (0 : Int32)] [] knX10_dividesMonth mvX10_240 (tX10_dividesMonth E.2.1 v_1 x1 (0 : Int32) Z hVC e_12) (vs10 hVC) kc10 (Nat.le_of_ble_eq_true rfl) (Nat.le_of_ble_eq_true rfl) rfl (Nat.le_of_ble_eq_true rfl) dX10_truesUp_15 rfl le00 rfl ?_
    refine wa_lload_n 19 2 hC dX10_truesUp_18 rfl 2 rfl rfl ?_
    refine wa_lconst 20 hC dX10_truesUp_19 kl_0 rfl ?_
    refine wa_lcmp 21 hC dX10_truesUp_20 rfl ?_
    obtain ⟨kj_5, ekj_5, h⟩ := ltb_k1 h
    have hkj_5 : ∀ (v_4 : Int64), kj_5 v_4 = some Z' → WA E G ρ V 0 0 (J A Z_3) 31 [(0, .ref (ρ 10 0)), (2, .long x2)] [.long v_4] := by
      intro v_4 h
      rw [ekj_5] at h
      refine wa_lstore (lv' := [(4, .long v_4), (0, .ref (ρ 10 0)), (2, .long x2)]) 33 4 hC dX10_truesUp_31 rfl (by decide) rfl rfl ?_
      refine wa_aload_n 34 0 hC dX10_truesUp_33 rfl 1 rfl rfl ?_
      refine wa_getR 37 hC (vs10 hVC) (sr10_3 _) flX10_19 dX10_truesUp_34 rfl ?_
      refine wa_iconst 38 hC dX10_truesUp_37 kc_1 rfl ?_
      refine wa_dup2 39 hC dX10_truesUp_38 rfl rfl rfl ?_
      refine wa_laldr 40 hC (vs30 hVC) ar30 rfl (by decide) dX10_truesUp_39 rfl ?_
      refine wa_lload 42 4 hC dX10_truesUp_40 0 rfl rfl ?_
      refine wa_aload_n 43 0 hC dX10_truesUp_42 rfl 1 rfl rfl ?_
      refine wa_getR 46 hC (vs10 hVC) (sr10_18 _) flX10_36 dX10_truesUp_43 rfl ?_
      refine wa_aload_n 47 0 hC dX10_truesUp_46 rfl 1 rfl rfl ?_
      refine wa_getR 50 hC (vs10 hVC) (sr10_0 _) flX10_7 dX10_truesUp_47 rfl ?_
      refine wa_bipush 52 hC dX10_truesUp_50 kb_7 rfl ?_
      refine wa_ialdr 53 hC (vs27 hVC) ar27 rfl (by decide) dX10_truesUp_52 rfl ?_
      obtain ⟨g_8, h⟩ := gd_some h
      refine wa_laldr 54 hC (vs34 hVC) ar34 rfl g_8 dX10_truesUp_53 rfl ?_
      refine wa_lmul 55 hC dX10_truesUp_54 rfl ?_
      refine wa_ladd 56 hC dX10_truesUp_55 rfl ?_
      obtain ⟨Z_10, eZ_10, h⟩ := ltb_some h
      refine wa_lastr 57 hC (vs30 hVC) ar30 rfl (by decide) eZ_10 dX10_truesUp_56 rfl ?_
      refine wa_iconst 58 hC dX10_truesUp_57 kc_0 rfl ?_
      refine wa_istore (lv' := [(6, .int (0 : Int32)), (4, .long v_4), (0, .ref (ρ 10 0)), (2, .long x2)]) 60 6 hC dX10_truesUp_58 rfl (by decide) rfl rfl ?_
      refine wa_pick [2, 3, 1, 0] rfl ?_
      refine wX10_truesUp_L60 x2 v_4 hC hVC (fun Z_11 h => ?_) 10000 (0 : Int32) Z_10 h
      exact wa_vret hC hQ (jZ (sm0 h)) dX10_truesUp_160
    clear ekj_5
    refine wa_lcmp_ge 24 30 hC dX10_truesUp_21 rfl rfl h (fun h => ?_) (fun h => ?_)
    · refine wa_lconst 31 hC dX10_truesUp_30 kl_1 rfl ?_
      refine wa_pick [0, 2] rfl ?_
      exact hkj_5 (1 : Int64) h
    · refine wa_ldc2 27 hC dX10_truesUp_24 lcX10_271 rfl ?_
      refine wa_goto 31 hC dX10_truesUp_27 rfl ?_
      refine wa_pick [0, 2] rfl ?_
      exact hkj_5 (-1 : Int64) h
  clear ekj_2
  refine wa_lcmp_ge 7 12 hC dX10_truesUp_4 rfl rfl h (fun h => ?_) (fun h => ?_)
  · refine wa_lload_n 13 2 hC dX10_truesUp_12 rfl 2 rfl rfl ?_
    exact hkj_2 x2 h
  · refine wa_lload_n 8 2 hC dX10_truesUp_7 rfl 2 rfl rfl ?_
    refine wa_lneg 9 hC dX10_truesUp_8 rfl ?_
    refine wa_goto 13 hC dX10_truesUp_9 rfl ?_
    exact hkj_2 (-x2) h
set_option maxRecDepth 20000 in
theorem wX10_trueUp_L33 {E : eU} {G : gU} {ρ : Nat → Nat → Nat} {V : Nat → Nat → Prop} {A : sM} {r : Int64} {Z' : sM} (x1 : Int64) (x3 : Int32) (x4 : Int64) {k95 : sM → Option (Int64 × sM)} (hC : CX E G cX10_trueUp 8 RX10 (some .long) 4 0 0) (hVC : VC V) (hk95 : ∀ (Z : sM), k95 Z = some (r, Z') → WA E G ρ V 0 0 (J A Z) 95 [(0, .ref (ρ 10 0)), (1, .long x1), (3, .int x3), (4, .long x4)] []) : ∀ (n : Nat) (x6 : Int32) (Z : sM), fX10_trueUp_L33 x1 x3 x4 k95 n x6 Z = some (r, Z') → WA E G ρ V 0 0 (J A Z) 33 [(0, .ref (ρ 10 0)), (1, .long x1), (3, .int x3), (4, .long x4), (6, .int x6)] [] := by
  intro n
  induction n with
  | zero =>
    intro x6 Z h
    rw [fX10_trueUp_L33] at h
    cases h
  | succ n ih =>
    intro x6 Z h
    rw [fX10_trueUp_L33] at h
    refine wa_iload 35 6 hC dX10_trueUp_33 4 rfl rfl ?_
    refine wa_iconst 36 hC dX10_trueUp_35 kc_4 rfl ?_
    refine wa_icmp_ge 39 95 hC dX10_trueUp_36 rfl rfl h (fun h => ?_) (fun h => ?_)
    · refine wa_pick [0, 1, 2, 3] rfl ?_
      exact hk95 Z h
    · refine wa_sipush 42 hC dX10_trueUp_39 ks_1348 rfl ?_
      refine wa_iconst 43 hC dX10_trueUp_42 kc_4 rfl ?_
      refine wa_iload_n 44 3 hC dX10_trueUp_43 rfl 2 rfl rfl ?_
      refine wa_imul 45 hC dX10_trueUp_44 rfl ?_
      refine wa_iadd 46 hC dX10_trueUp_45 rfl ?_
      refine wa_iload 48 6 hC dX10_trueUp_46 4 rfl rfl ?_
      refine wa_iadd 49 hC dX10_trueUp_48 rfl ?_
      obtain ⟨x7_1, ex7_1, h⟩ := ltb_some h
      refine wa_istore (lv' := [(7, .int x7_1), (0, .ref (ρ 10 0)), (1, .long x1), (3, .int x3), (4, .long x4), (6, .int x6)]) 51 7 hC dX10_trueUp_49 ex7_1 (by decide) rfl rfl ?_
      refine wa_aload_n 52 0 hC dX10_trueUp_51 rfl 1 rfl rfl ?_
      refine wa_getR 55 hC (vs10 hVC) (sr10_0 _) flX10_7 dX10_trueUp_52 rfl ?_
      refine wa_iload 57 7 hC dX10_trueUp_55 0 rfl rfl ?_
      obtain ⟨g_2, h⟩ := gd_some h
      refine wa_ialdr 58 hC (vs27 hVC) ar27 rfl g_2 dX10_trueUp_57 rfl ?_
      refine wa_iconst 59 hC dX10_trueUp_58 kc_m1 rfl ?_
      obtain ⟨kj_4, ekj_4, h⟩ := ltb_k1 h
      have hkj_4 : ∀ (Z_3 : sM), kj_4 Z_3 = some (r, Z') → WA E G ρ V 0 0 (J A Z_3) 81 [(0, .ref (ρ 10 0)), (1, .long x1), (3, .int x3), (4, .long x4), (6, .int x6), (7, .int x7_1)] [] := by
        intro Z_3 h
        rw [ekj_4] at h
        refine wa_aload_n 82 0 hC dX10_trueUp_81 rfl 0 rfl rfl ?_
        refine wa_getR 85 hC (vs10 hVC) (sr10_0 _) flX10_7 dX10_trueUp_82 rfl ?_
        refine wa_iload 87 7 hC dX10_trueUp_85 5 rfl rfl ?_
        refine wa_iconst 88 hC dX10_trueUp_87 kc_m1 rfl ?_
        obtain ⟨g_5, h⟩ := gd_some h
        obtain ⟨Z_6, eZ_6, h⟩ := ltb_some h
        refine wa_iastr 89 hC (vs27 hVC) nk27 ar27 rfl g_5 eZ_6 dX10_trueUp_88 rfl ?_
        obtain ⟨x6_7, ex6_7, h⟩ := ltb_some h
        refine wa_iinc (lv' := [(6, .int x6_7), (0, .ref (ρ 10 0)), (1, .long x1), (3, .int x3), (4, .long x4), (7, .int x7_1)]) 92 6 hC dX10_trueUp_89 4 rfl (by rw [kc_1]; exact ex6_7) (by decide) rfl rfl ?_
        refine wa_goto 33 hC dX10_trueUp_92 rfl ?_
        refine wa_pick [1, 2, 3, 4, 0] rfl ?_
        exact ih x6_7 Z_6 h
      clear ekj_4
      refine wa_icmp_eq 62 81 hC dX10_trueUp_59 rfl rfl h (fun h => ?_) (fun h => ?_)
      · refine wa_pick [1, 2, 3, 4, 5, 0] rfl ?_
        exact hkj_4 Z h
      · refine wa_aload_n 63 0 hC dX10_trueUp_62 rfl 1 rfl rfl ?_
        refine wa_getR 66 hC (vs10 hVC) (sr10_0 _) flX10_7 dX10_trueUp_63 rfl ?_
        refine wa_aload_n 67 0 hC dX10_trueUp_66 rfl 1 rfl rfl ?_
        refine wa_iload_n 68 3 hC dX10_trueUp_67 rfl 3 rfl rfl ?_
        refine wa_iload 70 6 hC dX10_trueUp_68 5 rfl rfl ?_
        obtain ⟨r_8, e_12, h⟩ := bd_some h
        refine wa_callVi 73 hC [.int x3, .int x6] [.ref (ρ 27 0)] knX10_generatedAt mvX10_221 (tX10_generatedAt E.2.1 x3 x6 Z hVC e_12) (vs10 hVC) kc10 (Nat.le_of_ble_eq_true rfl) (Nat.le_of_ble_eq_true rfl) rfl (Nat.le_of_ble_eq_true rfl) dX10_trueUp_70 rfl le00 rfl ?_
        refine wa_aload_n 74 0 hC dX10_trueUp_73 rfl 1 rfl rfl ?_
        refine wa_getR 77 hC (vs10 hVC) (sr10_0 _) flX10_7 dX10_trueUp_74 rfl ?_
        refine wa_iload 79 7 hC dX10_trueUp_77 0 rfl rfl ?_
        obtain ⟨g_9, h⟩ := gd_some h
        refine wa_ialdr 80 hC (vs27 hVC) ar27 rfl g_9 dX10_trueUp_79 rfl ?_
        obtain ⟨g_10, h⟩ := gd_some h
        obtain ⟨Z_11, eZ_11, h⟩ := ltb_some h
        refine wa_iastr 81 hC (vs27 hVC) nk27 ar27 rfl g_10 eZ_11 dX10_trueUp_80 rfl ?_
        refine wa_pick [1, 2, 3, 4, 5, 0] rfl ?_
        exact hkj_4 Z_11 h
set_option maxRecDepth 20000 in
theorem wX10_trueUp_L13 {E : eU} {G : gU} {ρ : Nat → Nat → Nat} {V : Nat → Nat → Prop} {A : sM} {r : Int64} {Z' : sM} {k130 : Int64 → sM → Option (Int64 × sM)} (hC : CX E G cX10_trueUp 8 RX10 (some .long) 4 0 0) (hVC : VC V) (hk130 : ∀ (x1 : Int64) (Z : sM), k130 x1 Z = some (r, Z') → WA E G ρ V 0 0 (J A Z) 130 [(1, .long x1)] []) : ∀ (n : Nat) (x1 : Int64) (x3 : Int32) (Z : sM), fX10_trueUp_L13 k130 n x1 x3 Z = some (r, Z') → WA E G ρ V 0 0 (J A Z) 13 [(0, .ref (ρ 10 0)), (1, .long x1), (3, .int x3)] [] := by
  intro n
  induction n with
  | zero =>
    intro x1 x3 Z h
    rw [fX10_trueUp_L13] at h
    cases h
  | succ n ih =>
    intro x1 x3 Z h
    rw [fX10_trueUp_L13] at h
    refine wa_iload_n 14 3 hC dX10_trueUp_13 rfl 2 rfl rfl ?_
    refine wa_aload_n 15 0 hC dX10_trueUp_14 rfl 0 rfl rfl ?_
    refine wa_getR 18 hC (vs10 hVC) (sr10_0 _) flX10_7 dX10_trueUp_15 rfl ?_
    refine wa_iconst 19 hC dX10_trueUp_18 kc_5 rfl ?_
    refine wa_ialdr 20 hC (vs27 hVC) ar27 rfl (by decide) dX10_trueUp_19 rfl ?_
    refine wa_icmp_ge 23 130 hC dX10_trueUp_20 rfl rfl h (fun h => ?_) (fun h => ?_)
    · refine wa_pick [1] rfl ?_
      exact hk130 x1 Z h
    · refine wa_aload_n 24 0 hC dX10_trueUp_23 rfl 0 rfl rfl ?_
      refine wa_iload_n 25 3 hC dX10_trueUp_24 rfl 2 rfl rfl ?_
      obtain ⟨r_2, e_13, h⟩ := bd_some h
      refine wa_callVl 28 hC [.int x3] [] knX10_worthOf mvX10_237 (tX10_worthOf E.2.1 x3 Z hVC e_13) (vs10 hVC) kc10 (Nat.le_of_ble_eq_true rfl) (Nat.le_of_ble_eq_true rfl) rfl (Nat.le_of_ble_eq_true rfl) dX10_trueUp_25 rfl le00 rfl ?_
      refine wa_lstore (lv' := [(4, .long r_2), (0, .ref (ρ 10 0)), (1, .long x1), (3, .int x3)]) 30 4 hC dX10_trueUp_28 rfl (by decide) rfl rfl ?_
      refine wa_iconst 31 hC dX10_trueUp_30 kc_0 rfl ?_
      refine wa_istore (lv' := [(6, .int (0 : Int32)), (4, .long r_2), (0, .ref (ρ 10 0)), (1, .long x1), (3, .int x3)]) 33 6 hC dX10_trueUp_31 rfl (by decide) rfl rfl ?_
      refine wa_pick [2, 3, 4, 1, 0] rfl ?_
      refine wX10_trueUp_L33 x1 x3 r_2 hC hVC (fun Z_3 h => ?_) 10000 (0 : Int32) Z h
      refine wa_aload_n 96 0 hC dX10_trueUp_95 rfl 0 rfl rfl ?_
      refine wa_iload_n 97 3 hC dX10_trueUp_96 rfl 2 rfl rfl ?_
      obtain ⟨r_4, e_12, h⟩ := bd_some h
      refine wa_callVl 100 hC [.int x3] [] knX10_worthOf mvX10_237 (tX10_worthOf E.2.1 x3 Z_3 hVC e_12) (vs10 hVC) kc10 (Nat.le_of_ble_eq_true rfl) (Nat.le_of_ble_eq_true rfl) rfl (Nat.le_of_ble_eq_true rfl) dX10_trueUp_97 rfl le00 rfl ?_
      refine wa_lload 102 4 hC dX10_trueUp_100 3 rfl rfl ?_
      refine wa_lsub 103 hC dX10_trueUp_102 rfl ?_
      obtain ⟨x6_5, ex6_5, h⟩ := ltb_some h
      refine wa_lstore (lv' := [(6, .long x6_5), (0, .ref (ρ 10 0)), (1, .long x1), (3, .int x3), (4, .long r_2)]) 105 6 hC dX10_trueUp_103 ex6_5 (by decide) rfl rfl ?_
      refine wa_lload 107 6 hC dX10_trueUp_105 0 rfl rfl ?_
      refine wa_lconst 108 hC dX10_trueUp_107 kl_0 rfl ?_
      refine wa_lcmp 109 hC dX10_trueUp_108 rfl ?_
      obtain ⟨kj_7, ekj_7, h⟩ := ltb_k1 h
      have hkj_7 : ∀ (Z_6 : sM), kj_7 Z_6 = some (r, Z') → WA E G ρ V 0 0 (J A Z_6) 119 [(0, .ref (ρ 10 0)), (1, .long x1), (3, .int x3), (6, .long x6_5)] [] := by
        intro Z_6 h
        rw [ekj_7] at h
        refine wa_lload_n 120 1 hC dX10_trueUp_119 rfl 1 rfl rfl ?_
        refine wa_lload 122 6 hC dX10_trueUp_120 3 rfl rfl ?_
        refine wa_ladd 123 hC dX10_trueUp_122 rfl ?_
        obtain ⟨x1_8, ex1_8, h⟩ := ltb_some h
        refine wa_lstore_n (lv' := [(1, .long x1_8), (0, .ref (ρ 10 0)), (3, .int x3), (6, .long x6_5)]) 124 1 hC dX10_trueUp_123 rfl ex1_8 (by decide) rfl rfl ?_
        obtain ⟨x3_9, ex3_9, h⟩ := ltb_some h
        refine wa_iinc (lv' := [(3, .int x3_9), (1, .long x1_8), (0, .ref (ρ 10 0)), (6, .long x6_5)]) 127 3 hC dX10_trueUp_124 2 rfl (by rw [kc_1]; exact ex3_9) (by decide) rfl rfl ?_
        refine wa_goto 13 hC dX10_trueUp_127 rfl ?_
        refine wa_pick [2, 1, 0] rfl ?_
        exact ih x1_8 x3_9 Z_6 h
      clear ekj_7
      refine wa_lcmp_eq 112 119 hC dX10_trueUp_109 rfl rfl h (fun h => ?_) (fun h => ?_)
      · refine wa_pick [1, 2, 3, 0] rfl ?_
        exact hkj_7 Z_3 h
      · refine wa_aload_n 113 0 hC dX10_trueUp_112 rfl 1 rfl rfl ?_
        refine wa_iload_n 114 3 hC dX10_trueUp_113 rfl 3 rfl rfl ?_
        refine wa_lload 116 6 hC dX10_trueUp_114 0 rfl rfl ?_
        obtain ⟨Z_10, e_11, h⟩ := bd_some h
        refine wa_callVv 119 hC [.int x3, .long x6_5] [] knX10_truesUp mvX10_273 (tX10_truesUp E.2.1 x3 x6_5 Z_3 hVC e_11) (vs10 hVC) kc10 (Nat.le_of_ble_eq_true rfl) (Nat.le_of_ble_eq_true rfl) rfl (Nat.le_of_ble_eq_true rfl) dX10_trueUp_116 rfl le00 rfl ?_
        refine wa_pick [1, 2, 3, 0] rfl ?_
        exact hkj_7 Z_10 h
set_option maxRecDepth 20000 in
theorem tX10_trueUp (l : Launch) {G : gU} {ρ : Nat → Nat → Nat} {V : Nat → Nat → Prop} {A : sM} (Z : sM) (_ : VC V) {r : Int64} {Z' : sM} (h : fX10_trueUp Z = some (r, Z')) : MT l yX10_trueUp cX10_trueUp 8 (some .long) 4 G ρ V [.ref (ρ 10 0)] (J A Z) (some (.long r)) (J A Z') := by
  refine vv_enter (lv := [(0, .ref (ρ 10 0))]) RX10 rfl (by decide) (Nat.le_of_ble_eq_true rfl) rfl ?_
  intro E hE hC hQ hVC
  subst hE
  rw [fX10_trueUp] at h
  refine wa_aload_n 1 0 hC dX10_trueUp_0 rfl 0 rfl rfl ?_
  refine wa_iconst 2 hC dX10_trueUp_1 kc_0 rfl ?_
  obtain ⟨Z_1, eZ_1, h⟩ := ltb_some h
  refine wa_putIr 5 hC (vs10 hVC) nk10 eZ_1 sh10_6 rfl fpX10_63 dX10_trueUp_2 rfl ?_
  refine wa_aload_n 6 0 hC dX10_trueUp_5 rfl 0 rfl rfl ?_
  obtain ⟨Z_2, e_5, h⟩ := bd_some h
  refine wa_callVv 9 hC [] [] knX10_keeps mvX10_157 (tX10_keeps E.2.1 Z_1 hVC e_5) (vs10 hVC) kc10 (Nat.le_of_ble_eq_true rfl) (Nat.le_of_ble_eq_true rfl) rfl (Nat.le_of_ble_eq_true rfl) dX10_trueUp_6 rfl le00 rfl ?_
  refine wa_lconst 10 hC dX10_trueUp_9 kl_0 rfl ?_
  refine wa_lstore_n (lv' := [(1, .long (0 : Int64)), (0, .ref (ρ 10 0))]) 11 1 hC dX10_trueUp_10 rfl rfl (by decide) rfl rfl ?_
  refine wa_iconst 12 hC dX10_trueUp_11 kc_0 rfl ?_
  refine wa_istore_n (lv' := [(3, .int (0 : Int32)), (1, .long (0 : Int64)), (0, .ref (ρ 10 0))]) 13 3 hC dX10_trueUp_12 rfl rfl (by decide) rfl rfl ?_
  refine wa_pick [2, 1, 0] rfl ?_
  refine wX10_trueUp_L13 hC hVC (fun x1_3 Z_4 h => ?_) 10000 (0 : Int64) (0 : Int32) Z_2 h
  refine wa_lload_n 131 1 hC dX10_trueUp_130 rfl 0 rfl rfl ?_
  exact wa_lret hC hQ (sm1 h) (jZ (sm2 h)) dX10_trueUp_131
set_option maxRecDepth 20000 in
theorem wX10_shareFund_L4 {E : eU} {G : gU} {ρ : Nat → Nat → Nat} {V : Nat → Nat → Prop} {A : sM} {r : Int64} {Z' : sM} {k43 : Int64 → sM → Option (Int64 × sM)} (hC : CX E G cX10_shareFund 6 RX10 (some .long) 3 0 0) (hVC : VC V) (hk43 : ∀ (x1 : Int64) (Z : sM), k43 x1 Z = some (r, Z') → WA E G ρ V 0 0 (J A Z) 43 [(0, .ref (ρ 10 0)), (1, .long x1)] []) : ∀ (n : Nat) (x1 : Int64) (x3 : Int32) (Z : sM), fX10_shareFund_L4 k43 n x1 x3 Z = some (r, Z') → WA E G ρ V 0 0 (J A Z) 4 [(0, .ref (ρ 10 0)), (1, .long x1), (3, .int x3)] [] := by
  intro n
  induction n with
  | zero =>
    intro x1 x3 Z h
    rw [fX10_shareFund_L4] at h
    cases h
  | succ n ih =>
    intro x1 x3 Z h
    rw [fX10_shareFund_L4] at h
    refine wa_iload_n 5 3 hC dX10_shareFund_4 rfl 2 rfl rfl ?_
    refine wa_aload_n 6 0 hC dX10_shareFund_5 rfl 0 rfl rfl ?_
    refine wa_getR 9 hC (vs10 hVC) (sr10_0 _) flX10_7 dX10_shareFund_6 rfl ?_
    refine wa_bipush 11 hC dX10_shareFund_9 kb_7 rfl ?_
    refine wa_ialdr 12 hC (vs27 hVC) ar27 rfl (by decide) dX10_shareFund_11 rfl ?_
    refine wa_icmp_ge 15 43 hC dX10_shareFund_12 rfl rfl h (fun h => ?_) (fun h => ?_)
    · refine wa_pick [0, 1] rfl ?_
      exact hk43 x1 Z h
    · refine wa_aload_n 16 0 hC dX10_shareFund_15 rfl 0 rfl rfl ?_
      refine wa_getR 19 hC (vs10 hVC) (sr10_17 _) flX10_33 dX10_shareFund_16 rfl ?_
      refine wa_iload_n 20 3 hC dX10_shareFund_19 rfl 2 rfl rfl ?_
      refine wa_aload_n 21 0 hC dX10_shareFund_20 rfl 0 rfl rfl ?_
      refine wa_iload_n 22 3 hC dX10_shareFund_21 rfl 2 rfl rfl ?_
      refine wa_iconst 23 hC dX10_shareFund_22 kc_4 rfl ?_
      obtain ⟨r_2, e_8, h⟩ := bd_some h
      refine wa_callVi 26 hC [.int x3, .int (4 : Int32)] [.int x3, .ref (ρ 33 0)] knX10_ofMember mvX10_169 (tX10_ofMember E.2.1 x3 (4 : Int32) Z hVC e_8) (vs10 hVC) kc10 (Nat.le_of_ble_eq_true rfl) (Nat.le_of_ble_eq_true rfl) rfl (Nat.le_of_ble_eq_true rfl) dX10_shareFund_23 rfl le00 rfl ?_
      refine wa_i2l 27 hC dX10_shareFund_26 rfl ?_
      obtain ⟨g_3, h⟩ := gd_some h
      obtain ⟨Z_4, eZ_4, h⟩ := ltb_some h
      refine wa_lastr 28 hC (vs33 hVC) ar33 rfl g_3 eZ_4 dX10_shareFund_27 rfl ?_
      refine wa_lload_n 29 1 hC dX10_shareFund_28 rfl 1 rfl rfl ?_
      refine wa_aload_n 30 0 hC dX10_shareFund_29 rfl 0 rfl rfl ?_
      refine wa_getR 33 hC (vs10 hVC) (sr10_17 _) flX10_33 dX10_shareFund_30 rfl ?_
      refine wa_iload_n 34 3 hC dX10_shareFund_33 rfl 2 rfl rfl ?_
      obtain ⟨g_5, h⟩ := gd_some h
      refine wa_laldr 35 hC (vs33 hVC) ar33 rfl g_5 dX10_shareFund_34 rfl ?_
      refine wa_ladd 36 hC dX10_shareFund_35 rfl ?_
      obtain ⟨x1_6, ex1_6, h⟩ := ltb_some h
      refine wa_lstore_n (lv' := [(1, .long x1_6), (0, .ref (ρ 10 0)), (3, .int x3)]) 37 1 hC dX10_shareFund_36 rfl ex1_6 (by decide) rfl rfl ?_
      obtain ⟨x3_7, ex3_7, h⟩ := ltb_some h
      refine wa_iinc (lv' := [(3, .int x3_7), (1, .long x1_6), (0, .ref (ρ 10 0))]) 40 3 hC dX10_shareFund_37 2 rfl (by rw [kc_1]; exact ex3_7) (by decide) rfl rfl ?_
      refine wa_goto 4 hC dX10_shareFund_40 rfl ?_
      refine wa_pick [2, 1, 0] rfl ?_
      exact ih x1_6 x3_7 Z_4 h
set_option maxRecDepth 20000 in
theorem wX10_shareFund_L112 {E : eU} {G : gU} {ρ : Nat → Nat → Nat} {V : Nat → Nat → Prop} {A : sM} {r : Int64} {Z' : sM} (x3 : Int64) {k152 : sM → Option (Int64 × sM)} (hC : CX E G cX10_shareFund 6 RX10 (some .long) 3 0 0) (hVC : VC V) (hk152 : ∀ (Z : sM), k152 Z = some (r, Z') → WA E G ρ V 0 0 (J A Z) 152 [(3, .long x3)] []) : ∀ (n : Nat) (x5 : Int32) (Z : sM), fX10_shareFund_L112 x3 k152 n x5 Z = some (r, Z') → WA E G ρ V 0 0 (J A Z) 112 [(0, .ref (ρ 10 0)), (3, .long x3), (5, .int x5)] [] := by
  intro n
  induction n with
  | zero =>
    intro x5 Z h
    rw [fX10_shareFund_L112] at h
    cases h
  | succ n ih =>
    intro x5 Z h
    rw [fX10_shareFund_L112] at h
    refine wa_iload 114 5 hC dX10_shareFund_112 2 rfl rfl ?_
    refine wa_aload_n 115 0 hC dX10_shareFund_114 rfl 0 rfl rfl ?_
    refine wa_getR 118 hC (vs10 hVC) (sr10_0 _) flX10_7 dX10_shareFund_115 rfl ?_
    refine wa_bipush 120 hC dX10_shareFund_118 kb_7 rfl ?_
    refine wa_ialdr 121 hC (vs27 hVC) ar27 rfl (by decide) dX10_shareFund_120 rfl ?_
    refine wa_icmp_ge 124 152 hC dX10_shareFund_121 rfl rfl h (fun h => ?_) (fun h => ?_)
    · refine wa_pick [1] rfl ?_
      exact hk152 Z h
    · refine wa_aload_n 125 0 hC dX10_shareFund_124 rfl 0 rfl rfl ?_
      refine wa_iload 127 5 hC dX10_shareFund_125 2 rfl rfl ?_
      obtain ⟨r_2, e_9, h⟩ := bd_some h
      refine wa_callVi 130 hC [.int x5] [] knX10_isActive mvX10_187 (tX10_isActive E.2.1 x5 Z hVC e_9) (vs10 hVC) kc10 (Nat.le_of_ble_eq_true rfl) (Nat.le_of_ble_eq_true rfl) rfl (Nat.le_of_ble_eq_true rfl) dX10_shareFund_127 rfl le00 rfl ?_
      obtain ⟨kj_4, ekj_4, h⟩ := ltb_k1 h
      have hkj_4 : ∀ (Z_3 : sM), kj_4 Z_3 = some (r, Z') → WA E G ρ V 0 0 (J A Z_3) 146 [(0, .ref (ρ 10 0)), (3, .long x3), (5, .int x5)] [] := by
        intro Z_3 h
        rw [ekj_4] at h
        obtain ⟨x5_5, ex5_5, h⟩ := ltb_some h
        refine wa_iinc (lv' := [(5, .int x5_5), (0, .ref (ρ 10 0)), (3, .long x3)]) 149 5 hC dX10_shareFund_146 2 rfl (by rw [kc_1]; exact ex5_5) (by decide) rfl rfl ?_
        refine wa_goto 112 hC dX10_shareFund_149 rfl ?_
        refine wa_pick [1, 2, 0] rfl ?_
        exact ih x5_5 Z_3 h
      clear ekj_4
      refine wa_if_eq 133 146 hC dX10_shareFund_130 rfl rfl h (fun h => ?_) (fun h => ?_)
      · exact hkj_4 Z h
      · refine wa_aload_n 134 0 hC dX10_shareFund_133 rfl 0 rfl rfl ?_
        refine wa_iload 136 5 hC dX10_shareFund_134 2 rfl rfl ?_
        refine wa_aload_n 137 0 hC dX10_shareFund_136 rfl 0 rfl rfl ?_
        refine wa_getR 140 hC (vs10 hVC) (sr10_18 _) flX10_36 dX10_shareFund_137 rfl ?_
        refine wa_iload 142 5 hC dX10_shareFund_140 2 rfl rfl ?_
        obtain ⟨g_6, h⟩ := gd_some h
        refine wa_laldr 143 hC (vs34 hVC) ar34 rfl g_6 dX10_shareFund_142 rfl ?_
        obtain ⟨Z_7, e_8, h⟩ := bd_some h
        refine wa_callVv 146 hC [.int x5, .long (Z.2 34 0 0 x5.toNatClampNeg)] [] knX10_credits mvX10_233 (tX10_credits E.2.1 x5 (Z.2 34 0 0 x5.toNatClampNeg) Z hVC e_8) (vs10 hVC) kc10 (Nat.le_of_ble_eq_true rfl) (Nat.le_of_ble_eq_true rfl) rfl (Nat.le_of_ble_eq_true rfl) dX10_shareFund_143 rfl le00 rfl ?_
        exact hkj_4 Z_7 h
set_option maxRecDepth 20000 in
theorem tX10_shareFund (l : Launch) {G : gU} {ρ : Nat → Nat → Nat} {V : Nat → Nat → Prop} {A : sM} (Z : sM) (_ : VC V) {r : Int64} {Z' : sM} (h : fX10_shareFund Z = some (r, Z')) : MT l yX10_shareFund cX10_shareFund 6 (some .long) 3 G ρ V [.ref (ρ 10 0)] (J A Z) (some (.long r)) (J A Z') := by
  refine vv_enter (lv := [(0, .ref (ρ 10 0))]) RX10 rfl (by decide) (Nat.le_of_ble_eq_true rfl) rfl ?_
  intro E hE hC hQ hVC
  subst hE
  rw [fX10_shareFund] at h
  refine wa_lconst 1 hC dX10_shareFund_0 kl_0 rfl ?_
  refine wa_lstore_n (lv' := [(1, .long (0 : Int64)), (0, .ref (ρ 10 0))]) 2 1 hC dX10_shareFund_1 rfl rfl (by decide) rfl rfl ?_
  refine wa_iconst 3 hC dX10_shareFund_2 kc_0 rfl ?_
  refine wa_istore_n (lv' := [(3, .int (0 : Int32)), (1, .long (0 : Int64)), (0, .ref (ρ 10 0))]) 4 3 hC dX10_shareFund_3 rfl rfl (by decide) rfl rfl ?_
  refine wa_pick [2, 1, 0] rfl ?_
  refine wX10_shareFund_L4 hC hVC (fun x1_1 Z_2 h => ?_) 10000 (0 : Int64) (0 : Int32) Z h
  refine wa_aload_n 44 0 hC dX10_shareFund_43 rfl 0 rfl rfl ?_
  refine wa_aload_n 45 0 hC dX10_shareFund_44 rfl 0 rfl rfl ?_
  refine wa_getR 48 hC (vs10 hVC) (sr10_3 _) flX10_19 dX10_shareFund_45 rfl ?_
  refine wa_iconst 49 hC dX10_shareFund_48 kc_0 rfl ?_
  refine wa_laldr 50 hC (vs30 hVC) ar30 rfl (by decide) dX10_shareFund_49 rfl ?_
  refine wa_lconst 51 hC dX10_shareFund_50 kl_0 rfl ?_
  refine wa_lcmp 52 hC dX10_shareFund_51 rfl ?_
  obtain ⟨kj_5, ekj_5, h⟩ := ltb_k1 h
  have hkj_5 : ∀ (v_4 : Int32), kj_5 v_4 = some (r, Z') → WA E G ρ V 0 0 (J A Z_2) 66 [(0, .ref (ρ 10 0)), (1, .long x1_1)] [.int v_4, .ref (ρ 10 0)] := by
    intro v_4 h
    rw [ekj_5] at h
    obtain ⟨Z_6, eZ_6, h⟩ := ltb_some h
    refine wa_putIr 69 hC (vs10 hVC) nk10 eZ_6 sh10_6 rfl fpX10_63 dX10_shareFund_66 rfl ?_
    refine wa_aload_n 70 0 hC dX10_shareFund_69 rfl 0 rfl rfl ?_
    refine wa_getIr 73 hC (vs10 hVC) sh10_6 rfl flX10_63 dX10_shareFund_70 rfl ?_
    refine wa_if_le 76 78 hC dX10_shareFund_73 rfl rfl h (fun h => ?_) (fun h => ?_)
    · refine wa_aload_n 79 0 hC dX10_shareFund_78 rfl 0 rfl rfl ?_
      obtain ⟨Z_7, e_16, h⟩ := bd_some h
      refine wa_callVv 82 hC [] [] knX10_keeps mvX10_157 (tX10_keeps E.2.1 Z_6 hVC e_16) (vs10 hVC) kc10 (Nat.le_of_ble_eq_true rfl) (Nat.le_of_ble_eq_true rfl) rfl (Nat.le_of_ble_eq_true rfl) dX10_shareFund_79 rfl le00 rfl ?_
      refine wa_aload_n 83 0 hC dX10_shareFund_82 rfl 0 rfl rfl ?_
      refine wa_getR 86 hC (vs10 hVC) (sr10_3 _) flX10_19 dX10_shareFund_83 rfl ?_
      refine wa_iconst 87 hC dX10_shareFund_86 kc_0 rfl ?_
      refine wa_laldr 88 hC (vs30 hVC) ar30 rfl (by decide) dX10_shareFund_87 rfl ?_
      obtain ⟨x3_9, ex3_9, h⟩ := ltb_some h
      refine wa_lstore_n (lv' := [(3, .long x3_9), (0, .ref (ρ 10 0)), (1, .long x1_1)]) 89 3 hC dX10_shareFund_88 rfl ex3_9 (by decide) rfl rfl ?_
      refine wa_aload_n 90 0 hC dX10_shareFund_89 rfl 1 rfl rfl ?_
      refine wa_lload_n 91 3 hC dX10_shareFund_90 rfl 0 rfl rfl ?_
      refine wa_aload_n 92 0 hC dX10_shareFund_91 rfl 1 rfl rfl ?_
      refine wa_getR 95 hC (vs10 hVC) (sr10_0 _) flX10_7 dX10_shareFund_92 rfl ?_
      refine wa_bipush 97 hC dX10_shareFund_95 kb_7 rfl ?_
      refine wa_ialdr 98 hC (vs27 hVC) ar27 rfl (by decide) dX10_shareFund_97 rfl ?_
      refine wa_lload_n 99 1 hC dX10_shareFund_98 rfl 2 rfl rfl ?_
      obtain ⟨Z_11, e_15, h⟩ := bd_some h
      refine wa_callVv 102 hC [.long x3_9, .int (Z_7.1 27 0 0 (7 : Int32).toNatClampNeg), .long x1_1] [] knX10_divides mvX10_226 (tX10_divides E.2.1 x3_9 (Z_7.1 27 0 0 (7 : Int32).toNatClampNeg) x1_1 Z_7 hVC e_15) (vs10 hVC) kc10 (Nat.le_of_ble_eq_true rfl) (Nat.le_of_ble_eq_true rfl) rfl (Nat.le_of_ble_eq_true rfl) dX10_shareFund_99 rfl le00 rfl ?_
      refine wa_aload_n 103 0 hC dX10_shareFund_102 rfl 1 rfl rfl ?_
      refine wa_getR 106 hC (vs10 hVC) (sr10_3 _) flX10_19 dX10_shareFund_103 rfl ?_
      refine wa_iconst 107 hC dX10_shareFund_106 kc_0 rfl ?_
      refine wa_lconst 108 hC dX10_shareFund_107 kl_0 rfl ?_
      obtain ⟨Z_13, eZ_13, h⟩ := ltb_some h
      refine wa_lastr 109 hC (vs30 hVC) ar30 rfl (by decide) eZ_13 dX10_shareFund_108 rfl ?_
      refine wa_iconst 110 hC dX10_shareFund_109 kc_0 rfl ?_
      refine wa_istore (lv' := [(5, .int (0 : Int32)), (3, .long x3_9), (0, .ref (ρ 10 0)), (1, .long x1_1)]) 112 5 hC dX10_shareFund_110 rfl (by decide) rfl rfl ?_
      refine wa_pick [2, 1, 0] rfl ?_
      refine wX10_shareFund_L112 x3_9 hC hVC (fun Z_14 h => ?_) 10000 (0 : Int32) Z_13 h
      refine wa_lload_n 153 3 hC dX10_shareFund_152 rfl 0 rfl rfl ?_
      exact wa_lret hC hQ (sm1 h) (jZ (sm2 h)) dX10_shareFund_153
    · refine wa_lconst 77 hC dX10_shareFund_76 kl_0 rfl ?_
      exact wa_lret hC hQ (sm1 h) (jZ (sm2 h)) dX10_shareFund_77
  clear ekj_5
  obtain ⟨kj_17, ekj_17, h⟩ := ltb_some h
  have hkj_17 : kj_17 = some (r, Z') → WA E G ρ V 0 0 (J A Z_2) 61 [(0, .ref (ρ 10 0)), (1, .long x1_1)] [.ref (ρ 10 0)] := by
    intro h
    rw [ekj_17] at h
    refine wa_iconst 62 hC dX10_shareFund_61 kc_1 rfl ?_
    refine wa_goto 66 hC dX10_shareFund_62 rfl ?_
    exact hkj_5 (1 : Int32) h
  clear ekj_17
  refine wa_lcmp_le 55 61 hC dX10_shareFund_52 rfl rfl h (fun h => ?_) (fun h => ?_)
  · exact hkj_17 h
  · refine wa_lload_n 56 1 hC dX10_shareFund_55 rfl 1 rfl rfl ?_
    refine wa_lconst 57 hC dX10_shareFund_56 kl_0 rfl ?_
    refine wa_lcmp 58 hC dX10_shareFund_57 rfl ?_
    refine wa_lcmp_ne 61 65 hC dX10_shareFund_58 rfl rfl h (fun h => ?_) (fun h => ?_)
    · refine wa_iconst 66 hC dX10_shareFund_65 kc_0 rfl ?_
      exact hkj_5 (0 : Int32) h
    · exact hkj_17 h
set_option maxRecDepth 20000 in
theorem wX10_tellsWord_L2 {E : eU} {G : gU} {ρ : Nat → Nat → Nat} {V : Nat → Nat → Prop} {A : sM} {Z' : sM} (x2 : Int32) {k24 : sM → Option (sM)} (hC : CX E G cX10_tellsWord 4 RX10 none 6 0 0) (hVC : VC V) (hk24 : ∀ (Z : sM), k24 Z = some Z' → WA E G ρ V 0 0 (J A Z) 24 [(0, .ref (ρ 10 0))] []) : ∀ (n : Nat) (x3 : Int32) (Z : sM), fX10_tellsWord_L2 x2 k24 n x3 Z = some Z' → WA E G ρ V 0 0 (J A Z) 2 [(0, .ref (ρ 10 0)), (2, .int x2), (3, .int x3)] [] := by
  intro n
  induction n with
  | zero =>
    intro x3 Z h
    rw [fX10_tellsWord_L2] at h
    cases h
  | succ n ih =>
    intro x3 Z h
    rw [fX10_tellsWord_L2] at h
    refine wa_iload_n 3 3 hC dX10_tellsWord_2 rfl 2 rfl rfl ?_
    refine wa_iload_n 4 2 hC dX10_tellsWord_3 rfl 1 rfl rfl ?_
    refine wa_icmp_ge 7 24 hC dX10_tellsWord_4 rfl rfl h (fun h => ?_) (fun h => ?_)
    · refine wa_pick [0] rfl ?_
      exact hk24 Z h
    · refine wa_aload_n 8 0 hC dX10_tellsWord_7 rfl 0 rfl rfl ?_
      refine wa_ldcsw 11 51 hC dX10_tellsWord_8 (by decide) rfl rfl rfl ?_
      refine wa_iload_n 12 3 hC dX10_tellsWord_11 rfl 2 rfl rfl ?_
      obtain ⟨g_1, h⟩ := gd_some h
      refine wa_schar 15 hC stX10_83 (by decide) g_1 (by decide) (Nat.le_of_ble_eq_true rfl) dX10_tellsWord_12 rfl le00 ?_
      obtain ⟨Z_2, e_4, h⟩ := bd_some h
      refine wa_callVv 18 hC [.int (strC 51 x3.toNatClampNeg)] [] knX10_tells mvX10_283 (tX10_tells E.2.1 (strC 51 x3.toNatClampNeg) Z hVC e_4) (vs10 hVC) kc10 (Nat.le_of_ble_eq_true rfl) (Nat.le_of_ble_eq_true rfl) rfl (Nat.le_of_ble_eq_true rfl) dX10_tellsWord_15 rfl le00 rfl ?_
      obtain ⟨x3_3, ex3_3, h⟩ := ltb_some h
      refine wa_iinc (lv' := [(3, .int x3_3), (0, .ref (ρ 10 0)), (2, .int x2)]) 21 3 hC dX10_tellsWord_18 2 rfl (by rw [kc_1]; exact ex3_3) (by decide) rfl rfl ?_
      refine wa_goto 2 hC dX10_tellsWord_21 rfl ?_
      refine wa_pick [1, 2, 0] rfl ?_
      exact ih x3_3 Z_2 h
set_option maxRecDepth 20000 in
theorem tX10_tellsWord (l : Launch) {G : gU} {ρ : Nat → Nat → Nat} {V : Nat → Nat → Prop} {A : sM} (x1 : Int32) (x2 : Int32) (Z : sM) (_ : VC V) {Z' : sM} (h : fX10_tellsWord x1 x2 Z = some Z') : MT l yX10_tellsWord cX10_tellsWord 4 none 6 G ρ V [.ref (ρ 10 0), .int x1, .int x2] (J A Z) none (J A Z') := by
  refine vv_enter (lv := [(0, .ref (ρ 10 0)), (1, .int x1), (2, .int x2)]) RX10 rfl (by decide) (Nat.le_of_ble_eq_true rfl) rfl ?_
  intro E hE hC hQ hVC
  subst hE
  rw [fX10_tellsWord] at h
  refine wa_iload_n 1 1 hC dX10_tellsWord_0 rfl 1 rfl rfl ?_
  refine wa_istore_n (lv' := [(3, .int x1), (0, .ref (ρ 10 0)), (1, .int x1), (2, .int x2)]) 2 3 hC dX10_tellsWord_1 rfl rfl (by decide) rfl rfl ?_
  refine wa_pick [1, 3, 0] rfl ?_
  refine wX10_tellsWord_L2 x2 hC hVC (fun Z_1 h => ?_) 10000 x1 Z h
  refine wa_aload_n 25 0 hC dX10_tellsWord_24 rfl 0 rfl rfl ?_
  refine wa_bipush 27 hC dX10_tellsWord_25 kb_32 rfl ?_
  obtain ⟨Z_2, e_3, h⟩ := bd_some h
  refine wa_callVv 30 hC [.int (32 : Int32)] [] knX10_tells mvX10_283 (tX10_tells E.2.1 (32 : Int32) Z_1 hVC e_3) (vs10 hVC) kc10 (Nat.le_of_ble_eq_true rfl) (Nat.le_of_ble_eq_true rfl) rfl (Nat.le_of_ble_eq_true rfl) dX10_tellsWord_27 rfl le00 rfl ?_
  exact wa_vret hC hQ (jZ (sm0 h)) dX10_tellsWord_30
set_option maxRecDepth 20000 in
theorem wX10_tellsCents_L18 {E : eU} {G : gU} {ρ : Nat → Nat → Nat} {V : Nat → Nat → Prop} {A : sM} {Z' : sM} (x1 : Int64) {k46 : sM → Option (sM)} (hC : CX E G cX10_tellsCents 4 RX10 none 34 0 0) (hVC : VC V) (hk46 : ∀ (Z : sM), k46 Z = some Z' → WA E G ρ V 0 0 (J A Z) 46 [] []) : ∀ (n : Nat) (x3 : Int32) (Z : sM), fX10_tellsCents_L18 x1 k46 n x3 Z = some Z' → WA E G ρ V 0 0 (J A Z) 18 [(0, .ref (ρ 10 0)), (1, .long x1), (3, .int x3)] [] := by
  intro n
  induction n with
  | zero =>
    intro x3 Z h
    rw [fX10_tellsCents_L18] at h
    cases h
  | succ n ih =>
    intro x3 Z h
    rw [fX10_tellsCents_L18] at h
    refine wa_iload_n 19 3 hC dX10_tellsCents_18 rfl 2 rfl rfl ?_
    refine wa_if_le 22 46 hC dX10_tellsCents_19 rfl rfl h (fun h => ?_) (fun h => ?_)
    · refine wa_pick [] rfl ?_
      exact hk46 Z h
    · refine wa_aload_n 23 0 hC dX10_tellsCents_22 rfl 0 rfl rfl ?_
      refine wa_bipush 25 hC dX10_tellsCents_23 kb_48 rfl ?_
      refine wa_lload_n 26 1 hC dX10_tellsCents_25 rfl 1 rfl rfl ?_
      refine wa_iload_n 27 3 hC dX10_tellsCents_26 rfl 2 rfl rfl ?_
      refine wa_i2l 28 hC dX10_tellsCents_27 rfl ?_
      obtain ⟨g_1, h⟩ := gd_some h
      refine wa_ldiv 29 hC dX10_tellsCents_28 g_1 rfl ?_
      refine wa_ldc2 32 hC dX10_tellsCents_29 lcX10_121 rfl ?_
      refine wa_lrem 33 hC dX10_tellsCents_32 (by decide) rfl ?_
      refine wa_l2i 34 hC dX10_tellsCents_33 rfl ?_
      refine wa_iadd 35 hC dX10_tellsCents_34 rfl ?_
      obtain ⟨Z_2, e_4, h⟩ := bd_some h
      refine wa_callVv 38 hC [.int ((48 : Int32) + (((x1 / (x3.toInt64)) - (x1 / (x3.toInt64)) / (10 : Int64) * (10 : Int64)).toInt32))] [] knX10_tells mvX10_283 (tX10_tells E.2.1 ((48 : Int32) + (((x1 / (x3.toInt64)) - (x1 / (x3.toInt64)) / (10 : Int64) * (10 : Int64)).toInt32)) Z hVC e_4) (vs10 hVC) kc10 (Nat.le_of_ble_eq_true rfl) (Nat.le_of_ble_eq_true rfl) rfl (Nat.le_of_ble_eq_true rfl) dX10_tellsCents_35 rfl le00 rfl ?_
      refine wa_iload_n 39 3 hC dX10_tellsCents_38 rfl 2 rfl rfl ?_
      refine wa_bipush 41 hC dX10_tellsCents_39 kb_10 rfl ?_
      refine wa_idiv 42 hC dX10_tellsCents_41 (by decide) rfl ?_
      obtain ⟨x3_3, ex3_3, h⟩ := ltb_some h
      refine wa_istore_n (lv' := [(3, .int x3_3), (0, .ref (ρ 10 0)), (1, .long x1)]) 43 3 hC dX10_tellsCents_42 rfl ex3_3 (by decide) rfl rfl ?_
      refine wa_goto 18 hC dX10_tellsCents_43 rfl ?_
      refine wa_pick [1, 2, 0] rfl ?_
      exact ih x3_3 Z_2 h
set_option maxRecDepth 20000 in
theorem tX10_tellsCents (l : Launch) {G : gU} {ρ : Nat → Nat → Nat} {V : Nat → Nat → Prop} {A : sM} (x1 : Int64) (Z : sM) (_ : VC V) {Z' : sM} (h : fX10_tellsCents x1 Z = some Z') : MT l yX10_tellsCents cX10_tellsCents 4 none 34 G ρ V [.ref (ρ 10 0), .long x1] (J A Z) none (J A Z') := by
  refine vv_enter (lv := [(0, .ref (ρ 10 0)), (1, .long x1)]) RX10 rfl (by decide) (Nat.le_of_ble_eq_true rfl) rfl ?_
  intro E hE hC hQ hVC
  subst hE
  rw [fX10_tellsCents] at h
  refine wa_aload_n 1 0 hC dX10_tellsCents_0 rfl 0 rfl rfl ?_
  refine wa_lload_n 2 1 hC dX10_tellsCents_1 rfl 1 rfl rfl ?_
  refine wa_ldc2 5 hC dX10_tellsCents_2 lcX10_288 rfl ?_
  refine wa_ldiv 6 hC dX10_tellsCents_5 (by decide) rfl ?_
  obtain ⟨Z_1, e_5, h⟩ := bd_some h
  refine wa_callVv 9 hC [.long (x1 / (1000 : Int64))] [] knX10_tellsNumber mvX10_279 (tX10_tellsNumber E.2.1 30 (x1 / (1000 : Int64)) Z hVC e_5) (vs10 hVC) kc10 (Nat.le_of_ble_eq_true rfl) (Nat.le_of_ble_eq_true rfl) rfl (Nat.le_of_ble_eq_true rfl) dX10_tellsCents_6 rfl le00 rfl ?_
  refine wa_aload_n 10 0 hC dX10_tellsCents_9 rfl 0 rfl rfl ?_
  refine wa_bipush 12 hC dX10_tellsCents_10 kb_46 rfl ?_
  obtain ⟨Z_2, e_4, h⟩ := bd_some h
  refine wa_callVv 15 hC [.int (46 : Int32)] [] knX10_tells mvX10_283 (tX10_tells E.2.1 (46 : Int32) Z_1 hVC e_4) (vs10 hVC) kc10 (Nat.le_of_ble_eq_true rfl) (Nat.le_of_ble_eq_true rfl) rfl (Nat.le_of_ble_eq_true rfl) dX10_tellsCents_12 rfl le00 rfl ?_
  refine wa_bipush 17 hC dX10_tellsCents_15 kb_100 rfl ?_
  refine wa_istore_n (lv' := [(3, .int (100 : Int32)), (0, .ref (ρ 10 0)), (1, .long x1)]) 18 3 hC dX10_tellsCents_17 rfl rfl (by decide) rfl rfl ?_
  refine wa_pick [1, 2, 0] rfl ?_
  refine wX10_tellsCents_L18 x1 hC hVC (fun Z_3 h => ?_) 10000 (100 : Int32) Z_2 h
  exact wa_vret hC hQ (jZ (sm0 h)) dX10_tellsCents_46
set_option maxRecDepth 20000 in
theorem tX10_tellsAssignment (l : Launch) {G : gU} {ρ : Nat → Nat → Nat} {V : Nat → Nat → Prop} {A : sM} (x1 : Int32) (Z : sM) (_ : VC V) {Z' : sM} (h : fX10_tellsAssignment x1 Z = some Z') : MT l yX10_tellsAssignment cX10_tellsAssignment 2 none 34 G ρ V [.ref (ρ 10 0), .int x1] (J A Z) none (J A Z') := by
  refine vv_enter (lv := [(0, .ref (ρ 10 0)), (1, .int x1)]) RX10 rfl (by decide) (Nat.le_of_ble_eq_true rfl) rfl ?_
  intro E hE hC hQ hVC
  subst hE
  rw [fX10_tellsAssignment] at h
  refine wa_aload_n 1 0 hC dX10_tellsAssignment_0 rfl 0 rfl rfl ?_
  refine wa_iload_n 2 1 hC dX10_tellsAssignment_1 rfl 1 rfl rfl ?_
  refine wa_iconst 3 hC dX10_tellsAssignment_2 kc_5 rfl ?_
  obtain ⟨r_1, e_20, h⟩ := bd_some h
  refine wa_callVi 6 hC [.int x1, .int (5 : Int32)] [] knX10_ofMember mvX10_169 (tX10_ofMember E.2.1 x1 (5 : Int32) Z hVC e_20) (vs10 hVC) kc10 (Nat.le_of_ble_eq_true rfl) (Nat.le_of_ble_eq_true rfl) rfl (Nat.le_of_ble_eq_true rfl) dX10_tellsAssignment_3 rfl le00 rfl ?_
  refine wa_iconst 7 hC dX10_tellsAssignment_6 kc_m1 rfl ?_
  refine wa_icmp_ne 10 11 hC dX10_tellsAssignment_7 rfl rfl h (fun h => ?_) (fun h => ?_)
  · refine wa_aload_n 12 0 hC dX10_tellsAssignment_11 rfl 0 rfl rfl ?_
    refine wa_bipush 14 hC dX10_tellsAssignment_12 kb_32 rfl ?_
    obtain ⟨Z_2, e_19, h⟩ := bd_some h
    refine wa_callVv 17 hC [.int (32 : Int32)] [] knX10_tells mvX10_283 (tX10_tells E.2.1 (32 : Int32) Z hVC e_19) (vs10 hVC) kc10 (Nat.le_of_ble_eq_true rfl) (Nat.le_of_ble_eq_true rfl) rfl (Nat.le_of_ble_eq_true rfl) dX10_tellsAssignment_14 rfl le00 rfl ?_
    refine wa_aload_n 18 0 hC dX10_tellsAssignment_17 rfl 0 rfl rfl ?_
    refine wa_bipush 20 hC dX10_tellsAssignment_18 kb_45 rfl ?_
    obtain ⟨Z_3, e_18, h⟩ := bd_some h
    refine wa_callVv 23 hC [.int (45 : Int32)] [] knX10_tells mvX10_283 (tX10_tells E.2.1 (45 : Int32) Z_2 hVC e_18) (vs10 hVC) kc10 (Nat.le_of_ble_eq_true rfl) (Nat.le_of_ble_eq_true rfl) rfl (Nat.le_of_ble_eq_true rfl) dX10_tellsAssignment_20 rfl le00 rfl ?_
    refine wa_aload_n 24 0 hC dX10_tellsAssignment_23 rfl 0 rfl rfl ?_
    refine wa_bipush 26 hC dX10_tellsAssignment_24 kb_62 rfl ?_
    obtain ⟨Z_4, e_17, h⟩ := bd_some h
    refine wa_callVv 29 hC [.int (62 : Int32)] [] knX10_tells mvX10_283 (tX10_tells E.2.1 (62 : Int32) Z_3 hVC e_17) (vs10 hVC) kc10 (Nat.le_of_ble_eq_true rfl) (Nat.le_of_ble_eq_true rfl) rfl (Nat.le_of_ble_eq_true rfl) dX10_tellsAssignment_26 rfl le00 rfl ?_
    refine wa_aload_n 30 0 hC dX10_tellsAssignment_29 rfl 0 rfl rfl ?_
    refine wa_aload_n 31 0 hC dX10_tellsAssignment_30 rfl 0 rfl rfl ?_
    refine wa_iload_n 32 1 hC dX10_tellsAssignment_31 rfl 1 rfl rfl ?_
    refine wa_iconst 33 hC dX10_tellsAssignment_32 kc_5 rfl ?_
    obtain ⟨r_5, e_16, h⟩ := bd_some h
    refine wa_callVi 36 hC [.int x1, .int (5 : Int32)] [.ref (ρ 10 0)] knX10_ofMember mvX10_169 (tX10_ofMember E.2.1 x1 (5 : Int32) Z_4 hVC e_16) (vs10 hVC) kc10 (Nat.le_of_ble_eq_true rfl) (Nat.le_of_ble_eq_true rfl) rfl (Nat.le_of_ble_eq_true rfl) dX10_tellsAssignment_33 rfl le00 rfl ?_
    refine wa_i2l 37 hC dX10_tellsAssignment_36 rfl ?_
    obtain ⟨Z_6, e_15, h⟩ := bd_some h
    refine wa_callVv 40 hC [.long (r_5.toInt64)] [] knX10_tellsNumber mvX10_279 (tX10_tellsNumber E.2.1 30 (r_5.toInt64) Z_4 hVC e_15) (vs10 hVC) kc10 (Nat.le_of_ble_eq_true rfl) (Nat.le_of_ble_eq_true rfl) rfl (Nat.le_of_ble_eq_true rfl) dX10_tellsAssignment_37 rfl le00 rfl ?_
    refine wa_aload_n 41 0 hC dX10_tellsAssignment_40 rfl 0 rfl rfl ?_
    refine wa_bipush 43 hC dX10_tellsAssignment_41 kb_58 rfl ?_
    obtain ⟨Z_7, e_14, h⟩ := bd_some h
    refine wa_callVv 46 hC [.int (58 : Int32)] [] knX10_tells mvX10_283 (tX10_tells E.2.1 (58 : Int32) Z_6 hVC e_14) (vs10 hVC) kc10 (Nat.le_of_ble_eq_true rfl) (Nat.le_of_ble_eq_true rfl) rfl (Nat.le_of_ble_eq_true rfl) dX10_tellsAssignment_43 rfl le00 rfl ?_
    refine wa_aload_n 47 0 hC dX10_tellsAssignment_46 rfl 0 rfl rfl ?_
    refine wa_aload_n 48 0 hC dX10_tellsAssignment_47 rfl 0 rfl rfl ?_
    refine wa_iload_n 49 1 hC dX10_tellsAssignment_48 rfl 1 rfl rfl ?_
    refine wa_bipush 51 hC dX10_tellsAssignment_49 kb_6 rfl ?_
    obtain ⟨r_8, e_13, h⟩ := bd_some h
    refine wa_callVi 54 hC [.int x1, .int (6 : Int32)] [.ref (ρ 10 0)] knX10_ofMember mvX10_169 (tX10_ofMember E.2.1 x1 (6 : Int32) Z_7 hVC e_13) (vs10 hVC) kc10 (Nat.le_of_ble_eq_true rfl) (Nat.le_of_ble_eq_true rfl) rfl (Nat.le_of_ble_eq_true rfl) dX10_tellsAssignment_51 rfl le00 rfl ?_
    refine wa_i2l 55 hC dX10_tellsAssignment_54 rfl ?_
    obtain ⟨Z_9, e_12, h⟩ := bd_some h
    refine wa_callVv 58 hC [.long (r_8.toInt64)] [] knX10_tellsNumber mvX10_279 (tX10_tellsNumber E.2.1 30 (r_8.toInt64) Z_7 hVC e_12) (vs10 hVC) kc10 (Nat.le_of_ble_eq_true rfl) (Nat.le_of_ble_eq_true rfl) rfl (Nat.le_of_ble_eq_true rfl) dX10_tellsAssignment_55 rfl le00 rfl ?_
    refine wa_aload_n 59 0 hC dX10_tellsAssignment_58 rfl 0 rfl rfl ?_
    refine wa_bipush 61 hC dX10_tellsAssignment_59 kb_37 rfl ?_
    obtain ⟨Z_10, e_11, h⟩ := bd_some h
    refine wa_callVv 64 hC [.int (37 : Int32)] [] knX10_tells mvX10_283 (tX10_tells E.2.1 (37 : Int32) Z_9 hVC e_11) (vs10 hVC) kc10 (Nat.le_of_ble_eq_true rfl) (Nat.le_of_ble_eq_true rfl) rfl (Nat.le_of_ble_eq_true rfl) dX10_tellsAssignment_61 rfl le00 rfl ?_
    exact wa_vret hC hQ (jZ (sm0 h)) dX10_tellsAssignment_64
  · exact wa_vret hC hQ (jZ (sm0 h)) dX10_tellsAssignment_10
set_option maxRecDepth 20000 in
theorem tX10_describe (l : Launch) {G : gU} {ρ : Nat → Nat → Nat} {V : Nat → Nat → Prop} {A : sM} (x1 : Int32) (Z : sM) (_ : VC V) {r : Int32} {Z' : sM} (h : fX10_describe x1 Z = some (r, Z')) : MT l yX10_describe cX10_describe 2 (some .int) 35 G ρ V [.ref (ρ 10 0), .int x1] (J A Z) (some (.int r)) (J A Z') := by
  refine vv_enter (lv := [(0, .ref (ρ 10 0)), (1, .int x1)]) RX10 rfl (by decide) (Nat.le_of_ble_eq_true rfl) rfl ?_
  intro E hE hC hQ hVC
  subst hE
  rw [fX10_describe] at h
  refine wa_aload_n 1 0 hC dX10_describe_0 rfl 0 rfl rfl ?_
  refine wa_iload_n 2 1 hC dX10_describe_1 rfl 1 rfl rfl ?_
  obtain ⟨r_2, Z_1, e_45, h⟩ := bd2_some h
  refine wa_callVi 5 hC [.int x1] [] knX10_lacks mvX10_208 (tX10_lacks E.2.1 x1 Z hVC e_45) (vs10 hVC) kc10 (Nat.le_of_ble_eq_true rfl) (Nat.le_of_ble_eq_true rfl) rfl (Nat.le_of_ble_eq_true rfl) dX10_describe_2 rfl le00 rfl ?_
  refine wa_if_eq 8 10 hC dX10_describe_5 rfl rfl h (fun h => ?_) (fun h => ?_)
  · refine wa_aload_n 11 0 hC dX10_describe_10 rfl 0 rfl rfl ?_
    refine wa_iconst 12 hC dX10_describe_11 kc_0 rfl ?_
    obtain ⟨Z_3, eZ_3, h⟩ := ltb_some h
    refine wa_putIr 15 hC (vs10 hVC) nk10 eZ_3 sh10_25 rfl fpX10_276 dX10_describe_12 rfl ?_
    refine wa_aload_n 16 0 hC dX10_describe_15 rfl 0 rfl rfl ?_
    refine wa_iload_n 17 1 hC dX10_describe_16 rfl 1 rfl rfl ?_
    refine wa_i2l 18 hC dX10_describe_17 rfl ?_
    obtain ⟨Z_4, e_44, h⟩ := bd_some h
    refine wa_callVv 21 hC [.long (x1.toInt64)] [] knX10_tellsNumber mvX10_279 (tX10_tellsNumber E.2.1 30 (x1.toInt64) Z_3 hVC e_44) (vs10 hVC) kc10 (Nat.le_of_ble_eq_true rfl) (Nat.le_of_ble_eq_true rfl) rfl (Nat.le_of_ble_eq_true rfl) dX10_describe_18 rfl le00 rfl ?_
    refine wa_aload_n 22 0 hC dX10_describe_21 rfl 0 rfl rfl ?_
    refine wa_bipush 24 hC dX10_describe_22 kb_58 rfl ?_
    obtain ⟨Z_5, e_43, h⟩ := bd_some h
    refine wa_callVv 27 hC [.int (58 : Int32)] [] knX10_tells mvX10_283 (tX10_tells E.2.1 (58 : Int32) Z_4 hVC e_43) (vs10 hVC) kc10 (Nat.le_of_ble_eq_true rfl) (Nat.le_of_ble_eq_true rfl) rfl (Nat.le_of_ble_eq_true rfl) dX10_describe_24 rfl le00 rfl ?_
    refine wa_aload_n 28 0 hC dX10_describe_27 rfl 0 rfl rfl ?_
    refine wa_iload_n 29 1 hC dX10_describe_28 rfl 1 rfl rfl ?_
    refine wa_iconst 30 hC dX10_describe_29 kc_3 rfl ?_
    obtain ⟨r_6, e_42, h⟩ := bd_some h
    refine wa_callVi 33 hC [.int x1, .int (3 : Int32)] [] knX10_ofMember mvX10_169 (tX10_ofMember E.2.1 x1 (3 : Int32) Z_5 hVC e_42) (vs10 hVC) kc10 (Nat.le_of_ble_eq_true rfl) (Nat.le_of_ble_eq_true rfl) rfl (Nat.le_of_ble_eq_true rfl) dX10_describe_30 rfl le00 rfl ?_
    refine wa_if_ne 36 73 hC dX10_describe_33 rfl rfl h (fun h => ?_) (fun h => ?_)
    · refine wa_aload_n 74 0 hC dX10_describe_73 rfl 0 rfl rfl ?_
      refine wa_iload_n 75 1 hC dX10_describe_74 rfl 1 rfl rfl ?_
      refine wa_iconst 76 hC dX10_describe_75 kc_3 rfl ?_
      obtain ⟨r_7, e_29, h⟩ := bd_some h
      refine wa_callVi 79 hC [.int x1, .int (3 : Int32)] [] knX10_ofMember mvX10_169 (tX10_ofMember E.2.1 x1 (3 : Int32) Z_5 hVC e_29) (vs10 hVC) kc10 (Nat.le_of_ble_eq_true rfl) (Nat.le_of_ble_eq_true rfl) rfl (Nat.le_of_ble_eq_true rfl) dX10_describe_76 rfl le00 rfl ?_
      refine wa_iconst 80 hC dX10_describe_79 kc_2 rfl ?_
      refine wa_icmp_ne 83 109 hC dX10_describe_80 rfl rfl h (fun h => ?_) (fun h => ?_)
      · refine wa_aload_n 110 0 hC dX10_describe_109 rfl 0 rfl rfl ?_
        refine wa_bipush 112 hC dX10_describe_110 kb_7 rfl ?_
        refine wa_bipush 114 hC dX10_describe_112 kb_13 rfl ?_
        obtain ⟨Z_8, e_21, h⟩ := bd_some h
        refine wa_callVv 117 hC [.int (7 : Int32), .int (13 : Int32)] [] knX10_tellsWord mvX10_290 (tX10_tellsWord E.2.1 (7 : Int32) (13 : Int32) Z_5 hVC e_21) (vs10 hVC) kc10 (Nat.le_of_ble_eq_true rfl) (Nat.le_of_ble_eq_true rfl) rfl (Nat.le_of_ble_eq_true rfl) dX10_describe_114 rfl le00 rfl ?_
        refine wa_aload_n 118 0 hC dX10_describe_117 rfl 0 rfl rfl ?_
        refine wa_aload_n 119 0 hC dX10_describe_118 rfl 0 rfl rfl ?_
        refine wa_iload_n 120 1 hC dX10_describe_119 rfl 1 rfl rfl ?_
        refine wa_iconst 121 hC dX10_describe_120 kc_4 rfl ?_
        obtain ⟨r_9, e_20, h⟩ := bd_some h
        refine wa_callVi 124 hC [.int x1, .int (4 : Int32)] [.ref (ρ 10 0)] knX10_ofMember mvX10_169 (tX10_ofMember E.2.1 x1 (4 : Int32) Z_8 hVC e_20) (vs10 hVC) kc10 (Nat.le_of_ble_eq_true rfl) (Nat.le_of_ble_eq_true rfl) rfl (Nat.le_of_ble_eq_true rfl) dX10_describe_121 rfl le00 rfl ?_
        refine wa_i2l 125 hC dX10_describe_124 rfl ?_
        obtain ⟨Z_10, e_19, h⟩ := bd_some h
        refine wa_callVv 128 hC [.long (r_9.toInt64)] [] knX10_tellsNumber mvX10_279 (tX10_tellsNumber E.2.1 30 (r_9.toInt64) Z_8 hVC e_19) (vs10 hVC) kc10 (Nat.le_of_ble_eq_true rfl) (Nat.le_of_ble_eq_true rfl) rfl (Nat.le_of_ble_eq_true rfl) dX10_describe_125 rfl le00 rfl ?_
        refine wa_aload_n 129 0 hC dX10_describe_128 rfl 0 rfl rfl ?_
        refine wa_bipush 131 hC dX10_describe_129 kb_32 rfl ?_
        obtain ⟨Z_11, e_18, h⟩ := bd_some h
        refine wa_callVv 134 hC [.int (32 : Int32)] [] knX10_tells mvX10_283 (tX10_tells E.2.1 (32 : Int32) Z_10 hVC e_18) (vs10 hVC) kc10 (Nat.le_of_ble_eq_true rfl) (Nat.le_of_ble_eq_true rfl) rfl (Nat.le_of_ble_eq_true rfl) dX10_describe_131 rfl le00 rfl ?_
        refine wa_aload_n 135 0 hC dX10_describe_134 rfl 0 rfl rfl ?_
        refine wa_aload_n 136 0 hC dX10_describe_135 rfl 0 rfl rfl ?_
        refine wa_iload_n 137 1 hC dX10_describe_136 rfl 1 rfl rfl ?_
        obtain ⟨r_12, e_17, h⟩ := bd_some h
        refine wa_callVl 140 hC [.int x1] [.ref (ρ 10 0)] knX10_balanceOf mvX10_204 (tX10_balanceOf E.2.1 x1 Z_11 hVC e_17) (vs10 hVC) kc10 (Nat.le_of_ble_eq_true rfl) (Nat.le_of_ble_eq_true rfl) rfl (Nat.le_of_ble_eq_true rfl) dX10_describe_137 rfl le00 rfl ?_
        obtain ⟨Z_13, e_16, h⟩ := bd_some h
        refine wa_callVv 143 hC [.long r_12] [] knX10_tellsCents mvX10_294 (tX10_tellsCents E.2.1 r_12 Z_11 hVC e_16) (vs10 hVC) kc10 (Nat.le_of_ble_eq_true rfl) (Nat.le_of_ble_eq_true rfl) rfl (Nat.le_of_ble_eq_true rfl) dX10_describe_140 rfl le00 rfl ?_
        refine wa_aload_n 144 0 hC dX10_describe_143 rfl 0 rfl rfl ?_
        refine wa_iload_n 145 1 hC dX10_describe_144 rfl 1 rfl rfl ?_
        obtain ⟨Z_14, e_15, h⟩ := bd_some h
        refine wa_callVv 148 hC [.int x1] [] knX10_tellsAssignment mvX10_297 (tX10_tellsAssignment E.2.1 x1 Z_13 hVC e_15) (vs10 hVC) kc10 (Nat.le_of_ble_eq_true rfl) (Nat.le_of_ble_eq_true rfl) rfl (Nat.le_of_ble_eq_true rfl) dX10_describe_145 rfl le00 rfl ?_
        refine wa_aload_n 149 0 hC dX10_describe_148 rfl 0 rfl rfl ?_
        refine wa_getIr 152 hC (vs10 hVC) sh10_25 rfl flX10_276 dX10_describe_149 rfl ?_
        exact wa_iret hC hQ (sm1 h) (jZ (sm2 h)) dX10_describe_152
      · refine wa_aload_n 84 0 hC dX10_describe_83 rfl 0 rfl rfl ?_
        refine wa_bipush 86 hC dX10_describe_84 kb_13 rfl ?_
        refine wa_bipush 88 hC dX10_describe_86 kb_17 rfl ?_
        obtain ⟨Z_22, e_28, h⟩ := bd_some h
        refine wa_callVv 91 hC [.int (13 : Int32), .int (17 : Int32)] [] knX10_tellsWord mvX10_290 (tX10_tellsWord E.2.1 (13 : Int32) (17 : Int32) Z_5 hVC e_28) (vs10 hVC) kc10 (Nat.le_of_ble_eq_true rfl) (Nat.le_of_ble_eq_true rfl) rfl (Nat.le_of_ble_eq_true rfl) dX10_describe_88 rfl le00 rfl ?_
        refine wa_aload_n 92 0 hC dX10_describe_91 rfl 0 rfl rfl ?_
        refine wa_aload_n 93 0 hC dX10_describe_92 rfl 0 rfl rfl ?_
        refine wa_getR 96 hC (vs10 hVC) (sr10_3 _) flX10_19 dX10_describe_93 rfl ?_
        refine wa_aload_n 97 0 hC dX10_describe_96 rfl 0 rfl rfl ?_
        refine wa_iload_n 98 1 hC dX10_describe_97 rfl 1 rfl rfl ?_
        refine wa_iconst 99 hC dX10_describe_98 kc_3 rfl ?_
        obtain ⟨r_23, e_27, h⟩ := bd_some h
        refine wa_callVi 102 hC [.int x1, .int (3 : Int32)] [.ref (ρ 30 0), .ref (ρ 10 0)] knX10_accountAt mvX10_197 (tX10_accountAt E.2.1 x1 (3 : Int32) Z_22 hVC e_27) (vs10 hVC) kc10 (Nat.le_of_ble_eq_true rfl) (Nat.le_of_ble_eq_true rfl) rfl (Nat.le_of_ble_eq_true rfl) dX10_describe_99 rfl le00 rfl ?_
        obtain ⟨g_24, h⟩ := gd_some h
        refine wa_laldr 103 hC (vs30 hVC) ar30 rfl g_24 dX10_describe_102 rfl ?_
        obtain ⟨Z_25, e_26, h⟩ := bd_some h
        refine wa_callVv 106 hC [.long (Z_22.2 30 0 0 r_23.toNatClampNeg)] [] knX10_tellsCents mvX10_294 (tX10_tellsCents E.2.1 (Z_22.2 30 0 0 r_23.toNatClampNeg) Z_22 hVC e_26) (vs10 hVC) kc10 (Nat.le_of_ble_eq_true rfl) (Nat.le_of_ble_eq_true rfl) rfl (Nat.le_of_ble_eq_true rfl) dX10_describe_103 rfl le00 rfl ?_
        refine wa_goto 148 hC dX10_describe_106 rfl ?_
        refine wa_aload_n 149 0 hC dX10_describe_148 rfl 0 rfl rfl ?_
        refine wa_getIr 152 hC (vs10 hVC) sh10_25 rfl flX10_276 dX10_describe_149 rfl ?_
        exact wa_iret hC hQ (sm1 h) (jZ (sm2 h)) dX10_describe_152
    · refine wa_aload_n 37 0 hC dX10_describe_36 rfl 0 rfl rfl ?_
      refine wa_iconst 38 hC dX10_describe_37 kc_0 rfl ?_
      refine wa_bipush 40 hC dX10_describe_38 kb_7 rfl ?_
      obtain ⟨Z_30, e_41, h⟩ := bd_some h
      refine wa_callVv 43 hC [.int (0 : Int32), .int (7 : Int32)] [] knX10_tellsWord mvX10_290 (tX10_tellsWord E.2.1 (0 : Int32) (7 : Int32) Z_5 hVC e_41) (vs10 hVC) kc10 (Nat.le_of_ble_eq_true rfl) (Nat.le_of_ble_eq_true rfl) rfl (Nat.le_of_ble_eq_true rfl) dX10_describe_40 rfl le00 rfl ?_
      refine wa_aload_n 44 0 hC dX10_describe_43 rfl 0 rfl rfl ?_
      refine wa_aload_n 45 0 hC dX10_describe_44 rfl 0 rfl rfl ?_
      refine wa_iload_n 46 1 hC dX10_describe_45 rfl 1 rfl rfl ?_
      obtain ⟨r_31, e_40, h⟩ := bd_some h
      refine wa_callVi 49 hC [.int x1] [.ref (ρ 10 0)] knX10_placeOf mvX10_211 (tX10_placeOf E.2.1 x1 Z_30 hVC e_40) (vs10 hVC) kc10 (Nat.le_of_ble_eq_true rfl) (Nat.le_of_ble_eq_true rfl) rfl (Nat.le_of_ble_eq_true rfl) dX10_describe_46 rfl le00 rfl ?_
      refine wa_i2l 50 hC dX10_describe_49 rfl ?_
      obtain ⟨Z_32, e_39, h⟩ := bd_some h
      refine wa_callVv 53 hC [.long (r_31.toInt64)] [] knX10_tellsNumber mvX10_279 (tX10_tellsNumber E.2.1 30 (r_31.toInt64) Z_30 hVC e_39) (vs10 hVC) kc10 (Nat.le_of_ble_eq_true rfl) (Nat.le_of_ble_eq_true rfl) rfl (Nat.le_of_ble_eq_true rfl) dX10_describe_50 rfl le00 rfl ?_
      refine wa_aload_n 54 0 hC dX10_describe_53 rfl 0 rfl rfl ?_
      refine wa_bipush 56 hC dX10_describe_54 kb_32 rfl ?_
      obtain ⟨Z_33, e_38, h⟩ := bd_some h
      refine wa_callVv 59 hC [.int (32 : Int32)] [] knX10_tells mvX10_283 (tX10_tells E.2.1 (32 : Int32) Z_32 hVC e_38) (vs10 hVC) kc10 (Nat.le_of_ble_eq_true rfl) (Nat.le_of_ble_eq_true rfl) rfl (Nat.le_of_ble_eq_true rfl) dX10_describe_56 rfl le00 rfl ?_
      refine wa_aload_n 60 0 hC dX10_describe_59 rfl 0 rfl rfl ?_
      refine wa_aload_n 61 0 hC dX10_describe_60 rfl 0 rfl rfl ?_
      refine wa_iload_n 62 1 hC dX10_describe_61 rfl 1 rfl rfl ?_
      refine wa_iconst 63 hC dX10_describe_62 kc_1 rfl ?_
      obtain ⟨r_34, e_37, h⟩ := bd_some h
      refine wa_callVi 66 hC [.int x1, .int (1 : Int32)] [.ref (ρ 10 0)] knX10_ofMember mvX10_169 (tX10_ofMember E.2.1 x1 (1 : Int32) Z_33 hVC e_37) (vs10 hVC) kc10 (Nat.le_of_ble_eq_true rfl) (Nat.le_of_ble_eq_true rfl) rfl (Nat.le_of_ble_eq_true rfl) dX10_describe_63 rfl le00 rfl ?_
      refine wa_i2l 67 hC dX10_describe_66 rfl ?_
      obtain ⟨Z_35, e_36, h⟩ := bd_some h
      refine wa_callVv 70 hC [.long (r_34.toInt64)] [] knX10_tellsNumber mvX10_279 (tX10_tellsNumber E.2.1 30 (r_34.toInt64) Z_33 hVC e_36) (vs10 hVC) kc10 (Nat.le_of_ble_eq_true rfl) (Nat.le_of_ble_eq_true rfl) rfl (Nat.le_of_ble_eq_true rfl) dX10_describe_67 rfl le00 rfl ?_
      refine wa_goto 148 hC dX10_describe_70 rfl ?_
      refine wa_aload_n 149 0 hC dX10_describe_148 rfl 0 rfl rfl ?_
      refine wa_getIr 152 hC (vs10 hVC) sh10_25 rfl flX10_276 dX10_describe_149 rfl ?_
      exact wa_iret hC hQ (sm1 h) (jZ (sm2 h)) dX10_describe_152
  · refine wa_iconst 9 hC dX10_describe_8 kc_0 rfl ?_
    exact wa_iret hC hQ (sm1 h) (jZ (sm2 h)) dX10_describe_9
set_option maxRecDepth 20000 in
theorem tX10_describedByte (l : Launch) {G : gU} {ρ : Nat → Nat → Nat} {V : Nat → Nat → Prop} {A : sM} (x1 : Int32) (Z : sM) (_ : VC V) {r : Int32} {Z' : sM} (h : fX10_describedByte x1 Z = some (r, Z')) : MT l yX10_describedByte cX10_describedByte 2 (some .int) 2 G ρ V [.ref (ρ 10 0), .int x1] (J A Z) (some (.int r)) (J A Z') := by
  refine vv_enter (lv := [(0, .ref (ρ 10 0)), (1, .int x1)]) RX10 rfl (by decide) (Nat.le_of_ble_eq_true rfl) rfl ?_
  intro E hE hC hQ hVC
  subst hE
  rw [fX10_describedByte] at h
  refine wa_aload_n 1 0 hC dX10_describedByte_0 rfl 0 rfl rfl ?_
  refine wa_iload_n 2 1 hC dX10_describedByte_1 rfl 1 rfl rfl ?_
  refine wa_i2l 3 hC dX10_describedByte_2 rfl ?_
  refine wa_lconst 4 hC dX10_describedByte_3 kl_0 rfl ?_
  refine wa_aload_n 5 0 hC dX10_describedByte_4 rfl 0 rfl rfl ?_
  refine wa_getIr 8 hC (vs10 hVC) sh10_25 rfl flX10_276 dX10_describedByte_5 rfl ?_
  refine wa_iconst 9 hC dX10_describedByte_8 kc_1 rfl ?_
  refine wa_isub 10 hC dX10_describedByte_9 rfl ?_
  refine wa_i2l 11 hC dX10_describedByte_10 rfl ?_
  obtain ⟨r_1, e_6, h⟩ := bd_some h
  refine wa_callSi 14 hC [.long (x1.toInt64), .long (0 : Int64), .long (((Z.1 10 25 0 0) - (1 : Int32)).toInt64)] [.ref (ρ 10 0)] knX10_isIn msX10_104 (tX10_isIn E.2.1 (x1.toInt64) (0 : Int64) (((Z.1 10 25 0 0) - (1 : Int32)).toInt64) Z hVC e_6) (Nat.le_of_ble_eq_true rfl) (Nat.le_of_ble_eq_true rfl) rfl (Nat.le_of_ble_eq_true rfl) dX10_describedByte_11 rfl le00 rfl ?_
  refine wa_if_eq 17 21 hC dX10_describedByte_14 rfl rfl h (fun h => ?_) (fun h => ?_)
  · refine wa_iconst 22 hC dX10_describedByte_21 kc_1 rfl ?_
    obtain ⟨Z_2, eZ_2, h⟩ := ltb_some h
    refine wa_putIr 25 hC (vs10 hVC) nk10 eZ_2 sh10_6 rfl fpX10_63 dX10_describedByte_22 rfl ?_
    refine wa_aload_n 26 0 hC dX10_describedByte_25 rfl 0 rfl rfl ?_
    refine wa_getIr 29 hC (vs10 hVC) sh10_6 rfl flX10_63 dX10_describedByte_26 rfl ?_
    refine wa_if_le 32 36 hC dX10_describedByte_29 rfl rfl h (fun h => ?_) (fun h => ?_)
    · refine wa_aload_n 37 0 hC dX10_describedByte_36 rfl 0 rfl rfl ?_
      refine wa_getR 40 hC (vs10 hVC) (sr10_24 _) flX10_55 dX10_describedByte_37 rfl ?_
      refine wa_iload_n 41 1 hC dX10_describedByte_40 rfl 1 rfl rfl ?_
      obtain ⟨g_3, h⟩ := gd_some h
      refine wa_baldr 42 hC (vs40 hVC) ar40 rfl g_3 dX10_describedByte_41 rfl ?_
      exact wa_iret hC hQ (sm1 h) (jZ (sm2 h)) dX10_describedByte_42
    · refine wa_iconst 33 hC dX10_describedByte_32 kc_0 rfl ?_
      refine wa_goto 42 hC dX10_describedByte_33 rfl ?_
      exact wa_iret hC hQ (sm1 h) (jZ (sm2 h)) dX10_describedByte_42
  · refine wa_iconst 18 hC dX10_describedByte_17 kc_0 rfl ?_
    refine wa_goto 22 hC dX10_describedByte_18 rfl ?_
    obtain ⟨Z_4, eZ_4, h⟩ := ltb_some h
    refine wa_putIr 25 hC (vs10 hVC) nk10 eZ_4 sh10_6 rfl fpX10_63 dX10_describedByte_22 rfl ?_
    refine wa_aload_n 26 0 hC dX10_describedByte_25 rfl 0 rfl rfl ?_
    refine wa_getIr 29 hC (vs10 hVC) sh10_6 rfl flX10_63 dX10_describedByte_26 rfl ?_
    refine wa_if_le 32 36 hC dX10_describedByte_29 rfl rfl h (fun h => ?_) (fun h => ?_)
    · refine wa_aload_n 37 0 hC dX10_describedByte_36 rfl 0 rfl rfl ?_
      refine wa_getR 40 hC (vs10 hVC) (sr10_24 _) flX10_55 dX10_describedByte_37 rfl ?_
      refine wa_iload_n 41 1 hC dX10_describedByte_40 rfl 1 rfl rfl ?_
      obtain ⟨g_5, h⟩ := gd_some h
      refine wa_baldr 42 hC (vs40 hVC) ar40 rfl g_5 dX10_describedByte_41 rfl ?_
      exact wa_iret hC hQ (sm1 h) (jZ (sm2 h)) dX10_describedByte_42
    · refine wa_iconst 33 hC dX10_describedByte_32 kc_0 rfl ?_
      refine wa_goto 42 hC dX10_describedByte_33 rfl ?_
      exact wa_iret hC hQ (sm1 h) (jZ (sm2 h)) dX10_describedByte_42
