set_option maxRecDepth 20000 in
theorem tX5_hasRoomFor (l : Launch) {G : gU} {ρ : Nat → Nat → Nat} {V : Nat → Nat → Prop} {Z : sM} (x1 : Int32) (A : sM) (_ : VC V) {r : Int32} (h : fX5_hasRoomFor x1 A = some r) : MT l yX5_hasRoomFor cX5_hasRoomFor 2 (some .boolean) 1 G ρ V [.ref (ρ 5 0), .int x1] (J A Z) (some (.int r)) (J A Z) := by
  refine vv_enter (lv := [(0, .ref (ρ 5 0)), (1, .int x1)]) RX5 rfl (by decide) (Nat.le_of_ble_eq_true rfl) rfl ?_
  intro E hE hC hQ hVC
  subst hE
  rw [fX5_hasRoomFor] at h
  refine wa_iload_n 1 1 hC dX5_hasRoomFor_0 rfl 1 rfl rfl ?_
  refine wa_sipush 4 hC dX5_hasRoomFor_1 ks_300 rfl ?_
  refine wa_aload_n 5 0 hC dX5_hasRoomFor_4 rfl 0 rfl rfl ?_
  refine wa_getIc 8 hC (vs5 hVC) sh5_1 rfl flX5_22 dX5_hasRoomFor_5 rfl ?_
  refine wa_isub 9 hC dX5_hasRoomFor_8 rfl ?_
  refine wa_icmp_gt 12 16 hC dX5_hasRoomFor_9 rfl rfl h (fun h => ?_) (fun h => ?_)
  · refine wa_iconst 17 hC dX5_hasRoomFor_16 kc_0 rfl ?_
    exact wa_zret hC hQ (sm0 h) rfl rfl dX5_hasRoomFor_17
  · refine wa_iconst 13 hC dX5_hasRoomFor_12 kc_1 rfl ?_
    refine wa_goto 17 hC dX5_hasRoomFor_13 rfl ?_
    exact wa_zret hC hQ (sm0 h) rfl rfl dX5_hasRoomFor_17
set_option maxRecDepth 20000 in
theorem wX5_addWord_L3 {E : eU} {G : gU} {ρ : Nat → Nat → Nat} {V : Nat → Nat → Prop} {Z : sM} {A' : sM} (x1 : Int32) {k46 : sM → Option (sM)} (hC : CX E G cX5_addWord 3 RX5 none 1 0 0) (hVC : VC V) (hk46 : ∀ (A : sM), k46 A = some A' → WA E G ρ V 0 0 (J A Z) 46 [] []) : ∀ (n : Nat) (x2 : Int32) (A : sM), fX5_addWord_L3 x1 k46 n x2 A = some A' → WA E G ρ V 0 0 (J A Z) 3 [(0, .ref (ρ 5 0)), (1, .int x1), (2, .int x2)] [] := by
  intro n
  induction n with
  | zero =>
    intro x2 A h
    rw [fX5_addWord_L3] at h
    cases h
  | succ n ih =>
    intro x2 A h
    rw [fX5_addWord_L3] at h
    refine wa_iload_n 4 2 hC dX5_addWord_3 rfl 2 rfl rfl ?_
    refine wa_if_lt 7 46 hC dX5_addWord_4 rfl rfl h (fun h => ?_) (fun h => ?_)
    · refine wa_pick [] rfl ?_
      exact hk46 A h
    · refine wa_aload_n 8 0 hC dX5_addWord_7 rfl 0 rfl rfl ?_
      refine wa_getIc 11 hC (vs5 hVC) sh5_1 rfl flX5_22 dX5_addWord_8 rfl ?_
      refine wa_sipush 14 hC dX5_addWord_11 ks_300 rfl ?_
      obtain ⟨kj_2, ekj_2, h⟩ := ltb_k1 h
      have hkj_2 : ∀ (A_1 : sM), kj_2 A_1 = some A' → WA E G ρ V 0 0 (J A_1 Z) 40 [(0, .ref (ρ 5 0)), (1, .int x1), (2, .int x2)] [] := by
        intro A_1 h
        rw [ekj_2] at h
        obtain ⟨x2_3, ex2_3, h⟩ := ltb_some h
        refine wa_iinc (lv' := [(2, .int x2_3), (0, .ref (ρ 5 0)), (1, .int x1)]) 43 2 hC dX5_addWord_40 2 rfl (by rw [kc_m8]; exact ex2_3) (by decide) rfl rfl ?_
        refine wa_goto 3 hC dX5_addWord_43 rfl ?_
        refine wa_pick [1, 2, 0] rfl ?_
        exact ih x2_3 A_1 h
      clear ekj_2
      refine wa_icmp_ge 17 40 hC dX5_addWord_14 rfl rfl h (fun h => ?_) (fun h => ?_)
      · exact hkj_2 A h
      · refine wa_aload_n 18 0 hC dX5_addWord_17 rfl 0 rfl rfl ?_
        refine wa_getR 21 hC (vs5 hVC) (sr5_0 _) flX5_9 dX5_addWord_18 rfl ?_
        refine wa_aload_n 22 0 hC dX5_addWord_21 rfl 0 rfl rfl ?_
        refine wa_getIc 25 hC (vs5 hVC) sh5_1 rfl flX5_22 dX5_addWord_22 rfl ?_
        refine wa_iload_n 26 1 hC dX5_addWord_25 rfl 1 rfl rfl ?_
        refine wa_iload_n 27 2 hC dX5_addWord_26 rfl 2 rfl rfl ?_
        refine wa_iushr 28 hC dX5_addWord_27 rfl ?_
        refine wa_i2b 29 hC dX5_addWord_28 rfl ?_
        obtain ⟨g_4, h⟩ := gd_some h
        obtain ⟨A_5, eA_5, h⟩ := ltb_some h
        refine wa_bastc 30 hC (vs20 hVC) nk20 ar20 rfl g_4 (pk_nb _) eA_5 dX5_addWord_29 rfl ?_
        refine wa_aload_n 31 0 hC dX5_addWord_30 rfl 0 rfl rfl ?_
        refine wa_dup 32 hC dX5_addWord_31 rfl rfl ?_
        refine wa_getIc 35 hC (vs5 hVC) sh5_1 rfl flX5_22 dX5_addWord_32 rfl ?_
        refine wa_iconst 36 hC dX5_addWord_35 kc_1 rfl ?_
        refine wa_iadd 37 hC dX5_addWord_36 rfl ?_
        obtain ⟨A_6, eA_6, h⟩ := ltb_some h
        refine wa_putIc 40 hC (vs5 hVC) nk5 eA_6 sh5_1 rfl fpX5_22 dX5_addWord_37 rfl ?_
        exact hkj_2 A_6 h
set_option maxRecDepth 20000 in
theorem tX5_addWord (l : Launch) {G : gU} {ρ : Nat → Nat → Nat} {V : Nat → Nat → Prop} {Z : sM} (x1 : Int32) (A : sM) (_ : VC V) {A' : sM} (h : fX5_addWord x1 A = some A') : MT l yX5_addWord cX5_addWord 3 none 1 G ρ V [.ref (ρ 5 0), .int x1] (J A Z) none (J A' Z) := by
  refine vv_enter (lv := [(0, .ref (ρ 5 0)), (1, .int x1)]) RX5 rfl (by decide) (Nat.le_of_ble_eq_true rfl) rfl ?_
  intro E hE hC hQ hVC
  subst hE
  rw [fX5_addWord] at h
  refine wa_bipush 2 hC dX5_addWord_0 kb_24 rfl ?_
  refine wa_istore_n (lv' := [(2, .int (24 : Int32)), (0, .ref (ρ 5 0)), (1, .int x1)]) 3 2 hC dX5_addWord_2 rfl rfl (by decide) rfl rfl ?_
  refine wa_pick [1, 2, 0] rfl ?_
  refine wX5_addWord_L3 x1 hC hVC (fun A_1 h => ?_) 10000 (24 : Int32) A h
  exact wa_vret hC hQ (jA (sm0 h)) dX5_addWord_46
set_option maxRecDepth 20000 in
theorem tX4_clearPeriods (l : Launch) {G : gU} {ρ : Nat → Nat → Nat} {V : Nat → Nat → Prop} {Z : sM} (o : Nat) (A : sM) (_ : VC V) (ho : V 4 o) {A' : sM} (h : fX4_clearPeriods o A = some A') : MT l yX4_clearPeriods cX4_clearPeriods 1 none 2 G ρ V [.ref (ρ 4 o)] (J A Z) none (J A' Z) := by
  refine vv_enter (lv := [(0, .ref (ρ 4 o))]) RX4 rfl (by decide) (Nat.le_of_ble_eq_true rfl) rfl ?_
  intro E hE hC hQ hVC
  subst hE
  rw [fX4_clearPeriods] at h
  refine wa_aload_n 1 0 hC dX4_clearPeriods_0 rfl 0 rfl rfl ?_
  refine wa_iconst 2 hC dX4_clearPeriods_1 kc_0 rfl ?_
  obtain ⟨A_1, eA_1, h⟩ := ltb_some h
  refine wa_putIc 5 hC ho nk4 eA_1 sh4_4 rfl fpX4_24 dX4_clearPeriods_2 rfl ?_
  refine wa_aload_n 6 0 hC dX4_clearPeriods_5 rfl 0 rfl rfl ?_
  refine wa_getR 9 hC ho (sr4_6 _) flX4_31 dX4_clearPeriods_6 rfl ?_
  refine wa_iconst 10 hC dX4_clearPeriods_9 kc_0 rfl ?_
  obtain ⟨A_2, eA_2, h⟩ := ltb_some h
  refine wa_fillI 13 hC afX4_40 (vc19 hVC ho) nk19 ar19 rfl (by decide) eA_2 (Nat.le_of_ble_eq_true rfl) (Nat.le_of_ble_eq_true rfl) dX4_clearPeriods_10 rfl le00 ?_
  exact wa_vret hC hQ (jA (sm0 h)) dX4_clearPeriods_13
set_option maxRecDepth 20000 in
theorem wX5_skipSpaces_L0 {E : eU} {G : gU} {ρ : Nat → Nat → Nat} {V : Nat → Nat → Prop} {Z : sM} {A' : sM} {k45 : sM → Option (sM)} (hC : CX E G cX5_skipSpaces 1 RX5 none 1 0 0) (hVC : VC V) (hk45 : ∀ (A : sM), k45 A = some A' → WA E G ρ V 0 0 (J A Z) 45 [] []) : ∀ (n : Nat) (A : sM), fX5_skipSpaces_L0 k45 n A = some A' → WA E G ρ V 0 0 (J A Z) 0 [(0, .ref (ρ 5 0))] [] := by
  intro n
  induction n with
  | zero =>
    intro A h
    rw [fX5_skipSpaces_L0] at h
    cases h
  | succ n ih =>
    intro A h
    rw [fX5_skipSpaces_L0] at h
    refine wa_aload_n 1 0 hC dX5_skipSpaces_0 rfl 0 rfl rfl ?_
    refine wa_getIc 4 hC (vs5 hVC) sh5_4 rfl flX5_38 dX5_skipSpaces_1 rfl ?_
    refine wa_if_ne 7 45 hC dX5_skipSpaces_4 rfl rfl h (fun h => ?_) (fun h => ?_)
    · refine wa_pick [] rfl ?_
      exact hk45 A h
    · refine wa_aload_n 8 0 hC dX5_skipSpaces_7 rfl 0 rfl rfl ?_
      refine wa_getIc 11 hC (vs5 hVC) sh5_3 rfl flX5_35 dX5_skipSpaces_8 rfl ?_
      refine wa_aload_n 12 0 hC dX5_skipSpaces_11 rfl 0 rfl rfl ?_
      refine wa_getIc 15 hC (vs5 hVC) sh5_2 rfl flX5_32 dX5_skipSpaces_12 rfl ?_
      refine wa_icmp_ge 18 45 hC dX5_skipSpaces_15 rfl rfl h (fun h => ?_) (fun h => ?_)
      · refine wa_pick [] rfl ?_
        exact hk45 A h
      · refine wa_aload_n 19 0 hC dX5_skipSpaces_18 rfl 0 rfl rfl ?_
        refine wa_getR 22 hC (vs5 hVC) (sr5_0 _) flX5_9 dX5_skipSpaces_19 rfl ?_
        refine wa_aload_n 23 0 hC dX5_skipSpaces_22 rfl 0 rfl rfl ?_
        refine wa_getIc 26 hC (vs5 hVC) sh5_3 rfl flX5_35 dX5_skipSpaces_23 rfl ?_
        obtain ⟨g_1, h⟩ := gd_some h
        refine wa_baldc 27 hC (vs20 hVC) ar20 rfl g_1 dX5_skipSpaces_26 rfl ?_
        refine wa_bipush 29 hC dX5_skipSpaces_27 kb_32 rfl ?_
        refine wa_icmp_ne 32 45 hC dX5_skipSpaces_29 rfl rfl h (fun h => ?_) (fun h => ?_)
        · refine wa_pick [] rfl ?_
          exact hk45 A h
        · refine wa_aload_n 33 0 hC dX5_skipSpaces_32 rfl 0 rfl rfl ?_
          refine wa_dup 34 hC dX5_skipSpaces_33 rfl rfl ?_
          refine wa_getIc 37 hC (vs5 hVC) sh5_3 rfl flX5_35 dX5_skipSpaces_34 rfl ?_
          refine wa_iconst 38 hC dX5_skipSpaces_37 kc_1 rfl ?_
          refine wa_iadd 39 hC dX5_skipSpaces_38 rfl ?_
          obtain ⟨A_2, eA_2, h⟩ := ltb_some h
          refine wa_putIc 42 hC (vs5 hVC) nk5 eA_2 sh5_3 rfl fpX5_35 dX5_skipSpaces_39 rfl ?_
          refine wa_goto 0 hC dX5_skipSpaces_42 rfl ?_
          exact ih A_2 h
set_option maxRecDepth 20000 in
theorem tX5_skipSpaces (l : Launch) {G : gU} {ρ : Nat → Nat → Nat} {V : Nat → Nat → Prop} {Z : sM} (A : sM) (_ : VC V) {A' : sM} (h : fX5_skipSpaces A = some A') : MT l yX5_skipSpaces cX5_skipSpaces 1 none 1 G ρ V [.ref (ρ 5 0)] (J A Z) none (J A' Z) := by
  refine vv_enter (lv := [(0, .ref (ρ 5 0))]) RX5 rfl (by decide) (Nat.le_of_ble_eq_true rfl) rfl ?_
  intro E hE hC hQ hVC
  subst hE
  rw [fX5_skipSpaces] at h
  refine wX5_skipSpaces_L0 hC hVC (fun A_1 h => ?_) 10000 A h
  exact wa_vret hC hQ (jA (sm0 h)) dX5_skipSpaces_45
set_option maxRecDepth 20000 in
theorem tX5_isLetter (l : Launch) {G : gU} {ρ : Nat → Nat → Nat} {V : Nat → Nat → Prop} {Z : sM} (x1 : Int32) (A : sM) (_ : VC V) {r : Int32} (h : fX5_isLetter x1 A = some r) : MT l yX5_isLetter cX5_isLetter 2 (some .boolean) 1 G ρ V [.ref (ρ 5 0), .int x1] (J A Z) (some (.int r)) (J A Z) := by
  refine vv_enter (lv := [(0, .ref (ρ 5 0)), (1, .int x1)]) RX5 rfl (by decide) (Nat.le_of_ble_eq_true rfl) rfl ?_
  intro E hE hC hQ hVC
  subst hE
  rw [fX5_isLetter] at h
  refine wa_aload_n 1 0 hC dX5_isLetter_0 rfl 0 rfl rfl ?_
  refine wa_getR 4 hC (vs5 hVC) (sr5_0 _) flX5_9 dX5_isLetter_1 rfl ?_
  refine wa_iload_n 5 1 hC dX5_isLetter_4 rfl 1 rfl rfl ?_
  obtain ⟨g_1, h⟩ := gd_some h
  refine wa_baldc 6 hC (vs20 hVC) ar20 rfl g_1 dX5_isLetter_5 rfl ?_
  refine wa_bipush 8 hC dX5_isLetter_6 kb_97 rfl ?_
  refine wa_icmp_lt 11 26 hC dX5_isLetter_8 rfl rfl h (fun h => ?_) (fun h => ?_)
  · refine wa_iconst 27 hC dX5_isLetter_26 kc_0 rfl ?_
    exact wa_zret hC hQ (sm0 h) rfl rfl dX5_isLetter_27
  · refine wa_aload_n 12 0 hC dX5_isLetter_11 rfl 0 rfl rfl ?_
    refine wa_getR 15 hC (vs5 hVC) (sr5_0 _) flX5_9 dX5_isLetter_12 rfl ?_
    refine wa_iload_n 16 1 hC dX5_isLetter_15 rfl 1 rfl rfl ?_
    obtain ⟨g_2, h⟩ := gd_some h
    refine wa_baldc 17 hC (vs20 hVC) ar20 rfl g_2 dX5_isLetter_16 rfl ?_
    refine wa_bipush 19 hC dX5_isLetter_17 kb_122 rfl ?_
    refine wa_icmp_gt 22 26 hC dX5_isLetter_19 rfl rfl h (fun h => ?_) (fun h => ?_)
    · refine wa_iconst 27 hC dX5_isLetter_26 kc_0 rfl ?_
      exact wa_zret hC hQ (sm0 h) rfl rfl dX5_isLetter_27
    · refine wa_iconst 23 hC dX5_isLetter_22 kc_1 rfl ?_
      refine wa_goto 27 hC dX5_isLetter_23 rfl ?_
      exact wa_zret hC hQ (sm0 h) rfl rfl dX5_isLetter_27
set_option maxRecDepth 20000 in
theorem wX5_standsHere_L22 {E : eU} {G : gU} {ρ : Nat → Nat → Nat} {V : Nat → Nat → Prop} {Z : sM} {r : Int32} (s1 : Nat) (x2 : Int32) (A : sM) {k49 : Option (Int32)} {k57 : Option (Int32)} (hC : CX E G cX5_standsHere 4 RX5 (some .boolean) 6 0 0) (hVC : VC V) (hs1 : s1 < nSt) (hk49 : k49 = some r → WA E G ρ V 0 0 (J A Z) 49 [] []) (hk57 : k57 = some r → WA E G ρ V 0 0 (J A Z) 57 [(0, .ref (ρ 5 0)), (2, .int x2)] []) : ∀ (n : Nat) (x3 : Int32), fX5_standsHere_L22 s1 x2 A k49 k57 n x3 = some r → WA E G ρ V 0 0 (J A Z) 22 [(0, .ref (ρ 5 0)), (1, .ref (gS G (2 * s1))), (2, .int x2), (3, .int x3)] [] := by
  intro n
  induction n with
  | zero =>
    intro x3 h
    rw [fX5_standsHere_L22] at h
    cases h
  | succ n ih =>
    intro x3 h
    rw [fX5_standsHere_L22] at h
    refine wa_iload_n 23 3 hC dX5_standsHere_22 rfl 3 rfl rfl ?_
    refine wa_aload_n 24 1 hC dX5_standsHere_23 rfl 1 rfl rfl ?_
    refine wa_slen 27 hC stX5_102 hs1 (by decide) (Nat.le_of_ble_eq_true rfl) dX5_standsHere_24 rfl le00 ?_
    refine wa_icmp_ge 30 57 hC dX5_standsHere_27 rfl rfl h (fun h => ?_) (fun h => ?_)
    · refine wa_pick [0, 2] rfl ?_
      exact hk57 h
    · refine wa_aload_n 31 0 hC dX5_standsHere_30 rfl 0 rfl rfl ?_
      refine wa_getR 34 hC (vs5 hVC) (sr5_0 _) flX5_9 dX5_standsHere_31 rfl ?_
      refine wa_aload_n 35 0 hC dX5_standsHere_34 rfl 0 rfl rfl ?_
      refine wa_getIc 38 hC (vs5 hVC) sh5_3 rfl flX5_35 dX5_standsHere_35 rfl ?_
      refine wa_iload_n 39 3 hC dX5_standsHere_38 rfl 3 rfl rfl ?_
      refine wa_iadd 40 hC dX5_standsHere_39 rfl ?_
      obtain ⟨g_1, h⟩ := gd_some h
      refine wa_baldc 41 hC (vs20 hVC) ar20 rfl g_1 dX5_standsHere_40 rfl ?_
      refine wa_aload_n 42 1 hC dX5_standsHere_41 rfl 1 rfl rfl ?_
      refine wa_iload_n 43 3 hC dX5_standsHere_42 rfl 3 rfl rfl ?_
      obtain ⟨g_2, h⟩ := gd_some h
      refine wa_schar 46 hC stX5_112 hs1 g_2 (by decide) (Nat.le_of_ble_eq_true rfl) dX5_standsHere_43 rfl le00 ?_
      refine wa_icmp_eq 49 51 hC dX5_standsHere_46 rfl rfl h (fun h => ?_) (fun h => ?_)
      · obtain ⟨x3_3, ex3_3, h⟩ := ltb_some h
        refine wa_iinc (lv' := [(3, .int x3_3), (0, .ref (ρ 5 0)), (1, .ref (gS G (2 * s1))), (2, .int x2)]) 54 3 hC dX5_standsHere_51 3 rfl (by rw [kc_1]; exact ex3_3) (by decide) rfl rfl ?_
        refine wa_goto 22 hC dX5_standsHere_54 rfl ?_
        refine wa_pick [1, 2, 3, 0] rfl ?_
        exact ih x3_3 h
      · refine wa_pick [] rfl ?_
        exact hk49 h
set_option maxRecDepth 20000 in
theorem tX5_standsHere (l : Launch) {G : gU} {ρ : Nat → Nat → Nat} {V : Nat → Nat → Prop} {Z : sM} (s1 : Nat) (A : sM) (_ : VC V) (hs1 : s1 < nSt) {r : Int32} (h : fX5_standsHere s1 A = some r) : MT l yX5_standsHere cX5_standsHere 4 (some .boolean) 6 G ρ V [.ref (ρ 5 0), .ref (gS G (2 * s1))] (J A Z) (some (.int r)) (J A Z) := by
  refine vv_enter (lv := [(0, .ref (ρ 5 0)), (1, .ref (gS G (2 * s1)))]) RX5 rfl (by decide) (Nat.le_of_ble_eq_true rfl) rfl ?_
  intro E hE hC hQ hVC
  subst hE
  rw [fX5_standsHere] at h
  refine wa_aload_n 1 0 hC dX5_standsHere_0 rfl 0 rfl rfl ?_
  refine wa_getIc 4 hC (vs5 hVC) sh5_3 rfl flX5_35 dX5_standsHere_1 rfl ?_
  refine wa_aload_n 5 1 hC dX5_standsHere_4 rfl 1 rfl rfl ?_
  refine wa_slen 8 hC stX5_102 hs1 (by decide) (Nat.le_of_ble_eq_true rfl) dX5_standsHere_5 rfl le00 ?_
  refine wa_iadd 9 hC dX5_standsHere_8 rfl ?_
  obtain ⟨x2_1, ex2_1, h⟩ := ltb_some h
  refine wa_istore_n (lv' := [(2, .int x2_1), (0, .ref (ρ 5 0)), (1, .ref (gS G (2 * s1)))]) 10 2 hC dX5_standsHere_9 rfl ex2_1 (by decide) rfl rfl ?_
  refine wa_iload_n 11 2 hC dX5_standsHere_10 rfl 0 rfl rfl ?_
  refine wa_aload_n 12 0 hC dX5_standsHere_11 rfl 1 rfl rfl ?_
  refine wa_getIc 15 hC (vs5 hVC) sh5_2 rfl flX5_32 dX5_standsHere_12 rfl ?_
  refine wa_icmp_le 18 20 hC dX5_standsHere_15 rfl rfl h (fun h => ?_) (fun h => ?_)
  · refine wa_iconst 21 hC dX5_standsHere_20 kc_0 rfl ?_
    refine wa_istore_n (lv' := [(3, .int (0 : Int32)), (2, .int x2_1), (0, .ref (ρ 5 0)), (1, .ref (gS G (2 * s1)))]) 22 3 hC dX5_standsHere_21 rfl rfl (by decide) rfl rfl ?_
    refine wa_pick [2, 3, 1, 0] rfl ?_
    refine wX5_standsHere_L22 s1 x2_1 A hC hVC hs1 (fun h => ?_) (fun h => ?_) 10000 (0 : Int32) h
    · refine wa_iconst 50 hC dX5_standsHere_49 kc_0 rfl ?_
      exact wa_zret hC hQ (sm0 h) rfl rfl dX5_standsHere_50
    · refine wa_iload_n 58 2 hC dX5_standsHere_57 rfl 1 rfl rfl ?_
      refine wa_aload_n 59 0 hC dX5_standsHere_58 rfl 0 rfl rfl ?_
      refine wa_getIc 62 hC (vs5 hVC) sh5_2 rfl flX5_32 dX5_standsHere_59 rfl ?_
      refine wa_icmp_eq 65 73 hC dX5_standsHere_62 rfl rfl h (fun h => ?_) (fun h => ?_)
      · refine wa_iconst 74 hC dX5_standsHere_73 kc_1 rfl ?_
        refine wa_goto 78 hC dX5_standsHere_74 rfl ?_
        exact wa_zret hC hQ (sm0 h) rfl rfl dX5_standsHere_78
      · refine wa_aload_n 66 0 hC dX5_standsHere_65 rfl 0 rfl rfl ?_
        refine wa_iload_n 67 2 hC dX5_standsHere_66 rfl 1 rfl rfl ?_
        obtain ⟨r_2, e_3, h⟩ := bd_some h
        refine wa_callVi 70 hC [.int x2_1] [] knX5_isLetter mvX5_116 (tX5_isLetter E.2.1 x2_1 A hVC e_3) (vs5 hVC) kc5 (Nat.le_of_ble_eq_true rfl) (Nat.le_of_ble_eq_true rfl) rfl (Nat.le_of_ble_eq_true rfl) dX5_standsHere_67 rfl le00 rfl ?_
        refine wa_if_ne 73 77 hC dX5_standsHere_70 rfl rfl h (fun h => ?_) (fun h => ?_)
        · refine wa_iconst 78 hC dX5_standsHere_77 kc_0 rfl ?_
          exact wa_zret hC hQ (sm0 h) rfl rfl dX5_standsHere_78
        · refine wa_iconst 74 hC dX5_standsHere_73 kc_1 rfl ?_
          refine wa_goto 78 hC dX5_standsHere_74 rfl ?_
          exact wa_zret hC hQ (sm0 h) rfl rfl dX5_standsHere_78
  · refine wa_iconst 19 hC dX5_standsHere_18 kc_0 rfl ?_
    exact wa_zret hC hQ (sm0 h) rfl rfl dX5_standsHere_19
set_option maxRecDepth 20000 in
theorem tX5_expectWord (l : Launch) {G : gU} {ρ : Nat → Nat → Nat} {V : Nat → Nat → Prop} {Z : sM} (s1 : Nat) (A : sM) (_ : VC V) (hs1 : s1 < nSt) {A' : sM} (h : fX5_expectWord s1 A = some A') : MT l yX5_expectWord cX5_expectWord 2 none 7 G ρ V [.ref (ρ 5 0), .ref (gS G (2 * s1))] (J A Z) none (J A' Z) := by
  refine vv_enter (lv := [(0, .ref (ρ 5 0)), (1, .ref (gS G (2 * s1)))]) RX5 rfl (by decide) (Nat.le_of_ble_eq_true rfl) rfl ?_
  intro E hE hC hQ hVC
  subst hE
  rw [fX5_expectWord] at h
  refine wa_aload_n 1 0 hC dX5_expectWord_0 rfl 0 rfl rfl ?_
  obtain ⟨A_1, e_6, h⟩ := bd_some h
  refine wa_callVv 4 hC [] [] knX5_skipSpaces mvX5_92 (tX5_skipSpaces E.2.1 A hVC e_6) (vs5 hVC) kc5 (Nat.le_of_ble_eq_true rfl) (Nat.le_of_ble_eq_true rfl) rfl (Nat.le_of_ble_eq_true rfl) dX5_expectWord_1 rfl le00 rfl ?_
  refine wa_aload_n 5 0 hC dX5_expectWord_4 rfl 0 rfl rfl ?_
  refine wa_getIc 8 hC (vs5 hVC) sh5_4 rfl flX5_38 dX5_expectWord_5 rfl ?_
  refine wa_if_eq 11 12 hC dX5_expectWord_8 rfl rfl h (fun h => ?_) (fun h => ?_)
  · refine wa_aload_n 13 0 hC dX5_expectWord_12 rfl 0 rfl rfl ?_
    refine wa_aload_n 14 1 hC dX5_expectWord_13 rfl 1 rfl rfl ?_
    obtain ⟨r_2, e_5, h⟩ := bd_some h
    refine wa_callVi 17 hC [.ref (gS G (2 * s1))] [] knX5_standsHere mvX5_95 (tX5_standsHere E.2.1 s1 A_1 hVC hs1 e_5) (vs5 hVC) kc5 (Nat.le_of_ble_eq_true rfl) (Nat.le_of_ble_eq_true rfl) rfl (Nat.le_of_ble_eq_true rfl) dX5_expectWord_14 rfl le00 rfl ?_
    refine wa_if_eq 20 36 hC dX5_expectWord_17 rfl rfl h (fun h => ?_) (fun h => ?_)
    · refine wa_aload_n 37 0 hC dX5_expectWord_36 rfl 0 rfl rfl ?_
      refine wa_bipush 39 hC dX5_expectWord_37 kb_m2 rfl ?_
      obtain ⟨A_3, eA_3, h⟩ := ltb_some h
      refine wa_putIc 42 hC (vs5 hVC) nk5 eA_3 sh5_4 rfl fpX5_38 dX5_expectWord_39 rfl ?_
      exact wa_vret hC hQ (jA (sm0 h)) dX5_expectWord_42
    · refine wa_aload_n 21 0 hC dX5_expectWord_20 rfl 0 rfl rfl ?_
      refine wa_dup 22 hC dX5_expectWord_21 rfl rfl ?_
      refine wa_getIc 25 hC (vs5 hVC) sh5_3 rfl flX5_35 dX5_expectWord_22 rfl ?_
      refine wa_aload_n 26 1 hC dX5_expectWord_25 rfl 1 rfl rfl ?_
      refine wa_slen 29 hC stX5_102 hs1 (by decide) (Nat.le_of_ble_eq_true rfl) dX5_expectWord_26 rfl le00 ?_
      refine wa_iadd 30 hC dX5_expectWord_29 rfl ?_
      obtain ⟨A_4, eA_4, h⟩ := ltb_some h
      refine wa_putIc 33 hC (vs5 hVC) nk5 eA_4 sh5_3 rfl fpX5_35 dX5_expectWord_30 rfl ?_
      refine wa_goto 42 hC dX5_expectWord_33 rfl ?_
      exact wa_vret hC hQ (jA (sm0 h)) dX5_expectWord_42
  · exact wa_vret hC hQ (jA (sm0 h)) dX5_expectWord_11
set_option maxRecDepth 20000 in
theorem tX5_isDigit (l : Launch) {G : gU} {ρ : Nat → Nat → Nat} {V : Nat → Nat → Prop} {Z : sM} (x1 : Int32) (A : sM) (_ : VC V) {r : Int32} (h : fX5_isDigit x1 A = some r) : MT l yX5_isDigit cX5_isDigit 2 (some .boolean) 1 G ρ V [.ref (ρ 5 0), .int x1] (J A Z) (some (.int r)) (J A Z) := by
  refine vv_enter (lv := [(0, .ref (ρ 5 0)), (1, .int x1)]) RX5 rfl (by decide) (Nat.le_of_ble_eq_true rfl) rfl ?_
  intro E hE hC hQ hVC
  subst hE
  rw [fX5_isDigit] at h
  refine wa_aload_n 1 0 hC dX5_isDigit_0 rfl 0 rfl rfl ?_
  refine wa_getR 4 hC (vs5 hVC) (sr5_0 _) flX5_9 dX5_isDigit_1 rfl ?_
  refine wa_iload_n 5 1 hC dX5_isDigit_4 rfl 1 rfl rfl ?_
  obtain ⟨g_1, h⟩ := gd_some h
  refine wa_baldc 6 hC (vs20 hVC) ar20 rfl g_1 dX5_isDigit_5 rfl ?_
  refine wa_bipush 8 hC dX5_isDigit_6 kb_48 rfl ?_
  refine wa_icmp_lt 11 26 hC dX5_isDigit_8 rfl rfl h (fun h => ?_) (fun h => ?_)
  · refine wa_iconst 27 hC dX5_isDigit_26 kc_0 rfl ?_
    exact wa_zret hC hQ (sm0 h) rfl rfl dX5_isDigit_27
  · refine wa_aload_n 12 0 hC dX5_isDigit_11 rfl 0 rfl rfl ?_
    refine wa_getR 15 hC (vs5 hVC) (sr5_0 _) flX5_9 dX5_isDigit_12 rfl ?_
    refine wa_iload_n 16 1 hC dX5_isDigit_15 rfl 1 rfl rfl ?_
    obtain ⟨g_2, h⟩ := gd_some h
    refine wa_baldc 17 hC (vs20 hVC) ar20 rfl g_2 dX5_isDigit_16 rfl ?_
    refine wa_bipush 19 hC dX5_isDigit_17 kb_57 rfl ?_
    refine wa_icmp_gt 22 26 hC dX5_isDigit_19 rfl rfl h (fun h => ?_) (fun h => ?_)
    · refine wa_iconst 27 hC dX5_isDigit_26 kc_0 rfl ?_
      exact wa_zret hC hQ (sm0 h) rfl rfl dX5_isDigit_27
    · refine wa_iconst 23 hC dX5_isDigit_22 kc_1 rfl ?_
      refine wa_goto 27 hC dX5_isDigit_23 rfl ?_
      exact wa_zret hC hQ (sm0 h) rfl rfl dX5_isDigit_27
set_option maxRecDepth 20000 in
theorem wX5_expectNumber_L21 {E : eU} {G : gU} {ρ : Nat → Nat → Nat} {V : Nat → Nat → Prop} {Z : sM} {r : Int32} {A' : sM} (x1 : Int32) (x2 : Int32) (x3 : Int32) {k81 : Int32 → sM → Option (Int32 × sM)} (hC : CX E G cX5_expectNumber 5 RX5 (some .int) 2 0 0) (hVC : VC V) (hk81 : ∀ (x4 : Int32) (A : sM), k81 x4 A = some (r, A') → WA E G ρ V 0 0 (J A Z) 81 [(0, .ref (ρ 5 0)), (1, .int x1), (2, .int x2), (3, .int x3), (4, .int x4)] []) : ∀ (n : Nat) (x4 : Int32) (A : sM), fX5_expectNumber_L21 x1 x2 x3 k81 n x4 A = some (r, A') → WA E G ρ V 0 0 (J A Z) 21 [(0, .ref (ρ 5 0)), (1, .int x1), (2, .int x2), (3, .int x3), (4, .int x4)] [] := by
  intro n
  induction n with
  | zero =>
    intro x4 A h
    rw [fX5_expectNumber_L21] at h
    cases h
  | succ n ih =>
    intro x4 A h
    rw [fX5_expectNumber_L21] at h
    refine wa_aload_n 22 0 hC dX5_expectNumber_21 rfl 0 rfl rfl ?_
    refine wa_getIc 25 hC (vs5 hVC) sh5_3 rfl flX5_35 dX5_expectNumber_22 rfl ?_
    refine wa_aload_n 26 0 hC dX5_expectNumber_25 rfl 0 rfl rfl ?_
    refine wa_getIc 29 hC (vs5 hVC) sh5_2 rfl flX5_32 dX5_expectNumber_26 rfl ?_
    refine wa_icmp_ge 32 81 hC dX5_expectNumber_29 rfl rfl h (fun h => ?_) (fun h => ?_)
    · exact hk81 x4 A h
    · refine wa_aload_n 33 0 hC dX5_expectNumber_32 rfl 0 rfl rfl ?_
      refine wa_aload_n 34 0 hC dX5_expectNumber_33 rfl 0 rfl rfl ?_
      refine wa_getIc 37 hC (vs5 hVC) sh5_3 rfl flX5_35 dX5_expectNumber_34 rfl ?_
      obtain ⟨r_1, e_5, h⟩ := bd_some h
      refine wa_callVi 40 hC [.int (A.1 5 3 0 0)] [] knX5_isDigit mvX5_107 (tX5_isDigit E.2.1 (A.1 5 3 0 0) A hVC e_5) (vs5 hVC) kc5 (Nat.le_of_ble_eq_true rfl) (Nat.le_of_ble_eq_true rfl) rfl (Nat.le_of_ble_eq_true rfl) dX5_expectNumber_37 rfl le00 rfl ?_
      refine wa_if_eq 43 81 hC dX5_expectNumber_40 rfl rfl h (fun h => ?_) (fun h => ?_)
      · exact hk81 x4 A h
      · refine wa_ldc 45 hC dX5_expectNumber_43 lcX5_111 rfl ?_
        refine wa_iload 47 4 hC dX5_expectNumber_45 4 rfl rfl ?_
        refine wa_bipush 49 hC dX5_expectNumber_47 kb_10 rfl ?_
        refine wa_imul 50 hC dX5_expectNumber_49 rfl ?_
        refine wa_aload_n 51 0 hC dX5_expectNumber_50 rfl 0 rfl rfl ?_
        refine wa_getR 54 hC (vs5 hVC) (sr5_0 _) flX5_9 dX5_expectNumber_51 rfl ?_
        refine wa_aload_n 55 0 hC dX5_expectNumber_54 rfl 0 rfl rfl ?_
        refine wa_getIc 58 hC (vs5 hVC) sh5_3 rfl flX5_35 dX5_expectNumber_55 rfl ?_
        obtain ⟨g_2, h⟩ := gd_some h
        refine wa_baldc 59 hC (vs20 hVC) ar20 rfl g_2 dX5_expectNumber_58 rfl ?_
        refine wa_iadd 60 hC dX5_expectNumber_59 rfl ?_
        refine wa_bipush 62 hC dX5_expectNumber_60 kb_48 rfl ?_
        refine wa_isub 63 hC dX5_expectNumber_62 rfl ?_
        refine wa_mmin 66 hC maX5_26 (by decide) (Nat.le_of_ble_eq_true rfl) dX5_expectNumber_63 rfl le00 ?_
        obtain ⟨x4_3, ex4_3, h⟩ := ltb_some h
        refine wa_istore (lv' := [(4, .int x4_3), (0, .ref (ρ 5 0)), (1, .int x1), (2, .int x2), (3, .int x3)]) 68 4 hC dX5_expectNumber_66 ex4_3 (by decide) rfl rfl ?_
        refine wa_aload_n 69 0 hC dX5_expectNumber_68 rfl 1 rfl rfl ?_
        refine wa_dup 70 hC dX5_expectNumber_69 rfl rfl ?_
        refine wa_getIc 73 hC (vs5 hVC) sh5_3 rfl flX5_35 dX5_expectNumber_70 rfl ?_
        refine wa_iconst 74 hC dX5_expectNumber_73 kc_1 rfl ?_
        refine wa_iadd 75 hC dX5_expectNumber_74 rfl ?_
        obtain ⟨A_4, eA_4, h⟩ := ltb_some h
        refine wa_putIc 78 hC (vs5 hVC) nk5 eA_4 sh5_3 rfl fpX5_35 dX5_expectNumber_75 rfl ?_
        refine wa_goto 21 hC dX5_expectNumber_78 rfl ?_
        refine wa_pick [1, 2, 3, 4, 0] rfl ?_
        exact ih x4_3 A_4 h
set_option maxRecDepth 20000 in
theorem tX5_expectNumber (l : Launch) {G : gU} {ρ : Nat → Nat → Nat} {V : Nat → Nat → Prop} {Z : sM} (x1 : Int32) (x2 : Int32) (A : sM) (_ : VC V) {r : Int32} {A' : sM} (h : fX5_expectNumber x1 x2 A = some (r, A')) : MT l yX5_expectNumber cX5_expectNumber 5 (some .int) 2 G ρ V [.ref (ρ 5 0), .int x1, .int x2] (J A Z) (some (.int r)) (J A' Z) := by
  refine vv_enter (lv := [(0, .ref (ρ 5 0)), (1, .int x1), (2, .int x2)]) RX5 rfl (by decide) (Nat.le_of_ble_eq_true rfl) rfl ?_
  intro E hE hC hQ hVC
  subst hE
  rw [fX5_expectNumber] at h
  refine wa_aload_n 1 0 hC dX5_expectNumber_0 rfl 0 rfl rfl ?_
  obtain ⟨A_1, e_10, h⟩ := bd_some h
  refine wa_callVv 4 hC [] [] knX5_skipSpaces mvX5_92 (tX5_skipSpaces E.2.1 A hVC e_10) (vs5 hVC) kc5 (Nat.le_of_ble_eq_true rfl) (Nat.le_of_ble_eq_true rfl) rfl (Nat.le_of_ble_eq_true rfl) dX5_expectNumber_1 rfl le00 rfl ?_
  refine wa_aload_n 5 0 hC dX5_expectNumber_4 rfl 0 rfl rfl ?_
  refine wa_getIc 8 hC (vs5 hVC) sh5_4 rfl flX5_38 dX5_expectNumber_5 rfl ?_
  refine wa_if_eq 11 13 hC dX5_expectNumber_8 rfl rfl h (fun h => ?_) (fun h => ?_)
  · refine wa_aload_n 14 0 hC dX5_expectNumber_13 rfl 0 rfl rfl ?_
    refine wa_getIc 17 hC (vs5 hVC) sh5_3 rfl flX5_35 dX5_expectNumber_14 rfl ?_
    obtain ⟨x3_2, ex3_2, h⟩ := ltb_some h
    refine wa_istore_n (lv' := [(3, .int x3_2), (0, .ref (ρ 5 0)), (1, .int x1), (2, .int x2)]) 18 3 hC dX5_expectNumber_17 rfl ex3_2 (by decide) rfl rfl ?_
    refine wa_iconst 19 hC dX5_expectNumber_18 kc_0 rfl ?_
    refine wa_istore (lv' := [(4, .int (0 : Int32)), (3, .int x3_2), (0, .ref (ρ 5 0)), (1, .int x1), (2, .int x2)]) 21 4 hC dX5_expectNumber_19 rfl (by decide) rfl rfl ?_
    refine wa_pick [2, 3, 4, 1, 0] rfl ?_
    refine wX5_expectNumber_L21 x1 x2 x3_2 hC hVC (fun x4_3 A_4 h => ?_) 10000 (0 : Int32) A_1 h
    refine wa_aload_n 82 0 hC dX5_expectNumber_81 rfl 0 rfl rfl ?_
    refine wa_getIc 85 hC (vs5 hVC) sh5_3 rfl flX5_35 dX5_expectNumber_82 rfl ?_
    refine wa_iload_n 86 3 hC dX5_expectNumber_85 rfl 3 rfl rfl ?_
    refine wa_icmp_ne 89 98 hC dX5_expectNumber_86 rfl rfl h (fun h => ?_) (fun h => ?_)
    · refine wa_iload 100 4 hC dX5_expectNumber_98 4 rfl rfl ?_
      refine wa_iload_n 101 1 hC dX5_expectNumber_100 rfl 1 rfl rfl ?_
      refine wa_icmp_lt 104 110 hC dX5_expectNumber_101 rfl rfl h (fun h => ?_) (fun h => ?_)
      · refine wa_aload_n 111 0 hC dX5_expectNumber_110 rfl 0 rfl rfl ?_
        refine wa_bipush 113 hC dX5_expectNumber_111 kb_m3 rfl ?_
        obtain ⟨A_5, eA_5, h⟩ := ltb_some h
        refine wa_putIc 116 hC (vs5 hVC) nk5 eA_5 sh5_4 rfl fpX5_38 dX5_expectNumber_113 rfl ?_
        refine wa_aload_n 117 0 hC dX5_expectNumber_116 rfl 0 rfl rfl ?_
        refine wa_iload_n 118 3 hC dX5_expectNumber_117 rfl 3 rfl rfl ?_
        obtain ⟨A_6, eA_6, h⟩ := ltb_some h
        refine wa_putIc 121 hC (vs5 hVC) nk5 eA_6 sh5_3 rfl fpX5_35 dX5_expectNumber_118 rfl ?_
        refine wa_iload 123 4 hC dX5_expectNumber_121 4 rfl rfl ?_
        exact wa_iret hC hQ (sm1 h) (jA (sm2 h)) dX5_expectNumber_123
      · refine wa_iload 106 4 hC dX5_expectNumber_104 4 rfl rfl ?_
        refine wa_iload_n 107 2 hC dX5_expectNumber_106 rfl 2 rfl rfl ?_
        refine wa_icmp_le 110 121 hC dX5_expectNumber_107 rfl rfl h (fun h => ?_) (fun h => ?_)
        · refine wa_iload 123 4 hC dX5_expectNumber_121 4 rfl rfl ?_
          exact wa_iret hC hQ (sm1 h) (jA (sm2 h)) dX5_expectNumber_123
        · refine wa_aload_n 111 0 hC dX5_expectNumber_110 rfl 0 rfl rfl ?_
          refine wa_bipush 113 hC dX5_expectNumber_111 kb_m3 rfl ?_
          obtain ⟨A_7, eA_7, h⟩ := ltb_some h
          refine wa_putIc 116 hC (vs5 hVC) nk5 eA_7 sh5_4 rfl fpX5_38 dX5_expectNumber_113 rfl ?_
          refine wa_aload_n 117 0 hC dX5_expectNumber_116 rfl 0 rfl rfl ?_
          refine wa_iload_n 118 3 hC dX5_expectNumber_117 rfl 3 rfl rfl ?_
          obtain ⟨A_8, eA_8, h⟩ := ltb_some h
          refine wa_putIc 121 hC (vs5 hVC) nk5 eA_8 sh5_3 rfl fpX5_35 dX5_expectNumber_118 rfl ?_
          refine wa_iload 123 4 hC dX5_expectNumber_121 4 rfl rfl ?_
          exact wa_iret hC hQ (sm1 h) (jA (sm2 h)) dX5_expectNumber_123
    · refine wa_aload_n 90 0 hC dX5_expectNumber_89 rfl 0 rfl rfl ?_
      refine wa_bipush 92 hC dX5_expectNumber_90 kb_m2 rfl ?_
      obtain ⟨A_9, eA_9, h⟩ := ltb_some h
      refine wa_putIc 95 hC (vs5 hVC) nk5 eA_9 sh5_4 rfl fpX5_38 dX5_expectNumber_92 rfl ?_
      refine wa_goto 121 hC dX5_expectNumber_95 rfl ?_
      refine wa_iload 123 4 hC dX5_expectNumber_121 4 rfl rfl ?_
      exact wa_iret hC hQ (sm1 h) (jA (sm2 h)) dX5_expectNumber_123
  · refine wa_iconst 12 hC dX5_expectNumber_11 kc_0 rfl ?_
    exact wa_iret hC hQ (sm1 h) (jA (sm2 h)) dX5_expectNumber_12
set_option maxRecDepth 20000 in
theorem tX5_expectSemicolon (l : Launch) {G : gU} {ρ : Nat → Nat → Nat} {V : Nat → Nat → Prop} {Z : sM} (A : sM) (_ : VC V) {A' : sM} (h : fX5_expectSemicolon A = some A') : MT l yX5_expectSemicolon cX5_expectSemicolon 1 none 2 G ρ V [.ref (ρ 5 0)] (J A Z) none (J A' Z) := by
  refine vv_enter (lv := [(0, .ref (ρ 5 0))]) RX5 rfl (by decide) (Nat.le_of_ble_eq_true rfl) rfl ?_
  intro E hE hC hQ hVC
  subst hE
  rw [fX5_expectSemicolon] at h
  refine wa_aload_n 1 0 hC dX5_expectSemicolon_0 rfl 0 rfl rfl ?_
  obtain ⟨A_1, e_6, h⟩ := bd_some h
  refine wa_callVv 4 hC [] [] knX5_skipSpaces mvX5_92 (tX5_skipSpaces E.2.1 A hVC e_6) (vs5 hVC) kc5 (Nat.le_of_ble_eq_true rfl) (Nat.le_of_ble_eq_true rfl) rfl (Nat.le_of_ble_eq_true rfl) dX5_expectSemicolon_1 rfl le00 rfl ?_
  refine wa_aload_n 5 0 hC dX5_expectSemicolon_4 rfl 0 rfl rfl ?_
  refine wa_getIc 8 hC (vs5 hVC) sh5_4 rfl flX5_38 dX5_expectSemicolon_5 rfl ?_
  refine wa_if_eq 11 12 hC dX5_expectSemicolon_8 rfl rfl h (fun h => ?_) (fun h => ?_)
  · refine wa_aload_n 13 0 hC dX5_expectSemicolon_12 rfl 0 rfl rfl ?_
    refine wa_getIc 16 hC (vs5 hVC) sh5_3 rfl flX5_35 dX5_expectSemicolon_13 rfl ?_
    refine wa_aload_n 17 0 hC dX5_expectSemicolon_16 rfl 0 rfl rfl ?_
    refine wa_getIc 20 hC (vs5 hVC) sh5_2 rfl flX5_32 dX5_expectSemicolon_17 rfl ?_
    refine wa_icmp_ge 23 50 hC dX5_expectSemicolon_20 rfl rfl h (fun h => ?_) (fun h => ?_)
    · refine wa_aload_n 51 0 hC dX5_expectSemicolon_50 rfl 0 rfl rfl ?_
      refine wa_bipush 53 hC dX5_expectSemicolon_51 kb_m2 rfl ?_
      obtain ⟨A_2, eA_2, h⟩ := ltb_some h
      refine wa_putIc 56 hC (vs5 hVC) nk5 eA_2 sh5_4 rfl fpX5_38 dX5_expectSemicolon_53 rfl ?_
      exact wa_vret hC hQ (jA (sm0 h)) dX5_expectSemicolon_56
    · refine wa_aload_n 24 0 hC dX5_expectSemicolon_23 rfl 0 rfl rfl ?_
      refine wa_getR 27 hC (vs5 hVC) (sr5_0 _) flX5_9 dX5_expectSemicolon_24 rfl ?_
      refine wa_aload_n 28 0 hC dX5_expectSemicolon_27 rfl 0 rfl rfl ?_
      refine wa_getIc 31 hC (vs5 hVC) sh5_3 rfl flX5_35 dX5_expectSemicolon_28 rfl ?_
      obtain ⟨g_3, h⟩ := gd_some h
      refine wa_baldc 32 hC (vs20 hVC) ar20 rfl g_3 dX5_expectSemicolon_31 rfl ?_
      refine wa_bipush 34 hC dX5_expectSemicolon_32 kb_59 rfl ?_
      refine wa_icmp_ne 37 50 hC dX5_expectSemicolon_34 rfl rfl h (fun h => ?_) (fun h => ?_)
      · refine wa_aload_n 51 0 hC dX5_expectSemicolon_50 rfl 0 rfl rfl ?_
        refine wa_bipush 53 hC dX5_expectSemicolon_51 kb_m2 rfl ?_
        obtain ⟨A_4, eA_4, h⟩ := ltb_some h
        refine wa_putIc 56 hC (vs5 hVC) nk5 eA_4 sh5_4 rfl fpX5_38 dX5_expectSemicolon_53 rfl ?_
        exact wa_vret hC hQ (jA (sm0 h)) dX5_expectSemicolon_56
      · refine wa_aload_n 38 0 hC dX5_expectSemicolon_37 rfl 0 rfl rfl ?_
        refine wa_dup 39 hC dX5_expectSemicolon_38 rfl rfl ?_
        refine wa_getIc 42 hC (vs5 hVC) sh5_3 rfl flX5_35 dX5_expectSemicolon_39 rfl ?_
        refine wa_iconst 43 hC dX5_expectSemicolon_42 kc_1 rfl ?_
        refine wa_iadd 44 hC dX5_expectSemicolon_43 rfl ?_
        obtain ⟨A_5, eA_5, h⟩ := ltb_some h
        refine wa_putIc 47 hC (vs5 hVC) nk5 eA_5 sh5_3 rfl fpX5_35 dX5_expectSemicolon_44 rfl ?_
        refine wa_goto 56 hC dX5_expectSemicolon_47 rfl ?_
        exact wa_vret hC hQ (jA (sm0 h)) dX5_expectSemicolon_56
  · exact wa_vret hC hQ (jA (sm0 h)) dX5_expectSemicolon_11
set_option maxRecDepth 20000 in
theorem tX5_readGardenStatement (l : Launch) {G : gU} {ρ : Nat → Nat → Nat} {V : Nat → Nat → Prop} {Z : sM} (A : sM) (_ : VC V) {A' : sM} (h : fX5_readGardenStatement A = some A') : MT l yX5_readGardenStatement cX5_readGardenStatement 1 none 8 G ρ V [.ref (ρ 5 0)] (J A Z) none (J A' Z) := by
  refine vv_enter (lv := [(0, .ref (ρ 5 0))]) RX5 rfl (by decide) (Nat.le_of_ble_eq_true rfl) rfl ?_
  intro E hE hC hQ hVC
  subst hE
  rw [fX5_readGardenStatement] at h
  refine wa_aload_n 1 0 hC dX5_readGardenStatement_0 rfl 0 rfl rfl ?_
  refine wa_ldcs 3 2 hC dX5_readGardenStatement_1 (by decide) rfl rfl rfl ?_
  obtain ⟨A_1, e_20, h⟩ := bd_some h
  refine wa_callVv 6 hC [.ref (gS G (2 * 2))] [] knX5_expectWord mvX5_54 (tX5_expectWord E.2.1 2 A hVC (by decide) e_20) (vs5 hVC) kc5 (Nat.le_of_ble_eq_true rfl) (Nat.le_of_ble_eq_true rfl) rfl (Nat.le_of_ble_eq_true rfl) dX5_readGardenStatement_3 rfl le00 rfl ?_
  refine wa_aload_n 7 0 hC dX5_readGardenStatement_6 rfl 0 rfl rfl ?_
  refine wa_getR 10 hC (vs5 hVC) (sr5_5 _) flX5_18 dX5_readGardenStatement_7 rfl ?_
  refine wa_aload_n 11 0 hC dX5_readGardenStatement_10 rfl 0 rfl rfl ?_
  refine wa_iconst 12 hC dX5_readGardenStatement_11 kc_1 rfl ?_
  refine wa_ldc 14 hC dX5_readGardenStatement_12 lcX5_58 rfl ?_
  obtain ⟨r_3, A_2, e_19, h⟩ := bd2_some h
  refine wa_callVi 17 hC [.int (1 : Int32), .int (100000 : Int32)] [.ref (ρ 4 7)] knX5_expectNumber mvX5_59 (tX5_expectNumber E.2.1 (1 : Int32) (100000 : Int32) A_1 hVC e_19) (vs5 hVC) kc5 (Nat.le_of_ble_eq_true rfl) (Nat.le_of_ble_eq_true rfl) rfl (Nat.le_of_ble_eq_true rfl) dX5_readGardenStatement_14 rfl le00 rfl ?_
  obtain ⟨A_4, eA_4, h⟩ := ltb_some h
  refine wa_putIc 20 hC hVC.2.2.2.2.2.2.1 nk4 eA_4 sh4_0 rfl fpX5_62 dX5_readGardenStatement_17 rfl ?_
  refine wa_aload_n 21 0 hC dX5_readGardenStatement_20 rfl 0 rfl rfl ?_
  refine wa_getR 24 hC (vs5 hVC) (sr5_5 _) flX5_18 dX5_readGardenStatement_21 rfl ?_
  refine wa_aload_n 25 0 hC dX5_readGardenStatement_24 rfl 0 rfl rfl ?_
  refine wa_iconst 26 hC dX5_readGardenStatement_25 kc_1 rfl ?_
  refine wa_bipush 28 hC dX5_readGardenStatement_26 kb_24 rfl ?_
  obtain ⟨r_6, A_5, e_18, h⟩ := bd2_some h
  refine wa_callVi 31 hC [.int (1 : Int32), .int (24 : Int32)] [.ref (ρ 4 7)] knX5_expectNumber mvX5_59 (tX5_expectNumber E.2.1 (1 : Int32) (24 : Int32) A_4 hVC e_18) (vs5 hVC) kc5 (Nat.le_of_ble_eq_true rfl) (Nat.le_of_ble_eq_true rfl) rfl (Nat.le_of_ble_eq_true rfl) dX5_readGardenStatement_28 rfl le00 rfl ?_
  obtain ⟨A_7, eA_7, h⟩ := ltb_some h
  refine wa_putIc 34 hC hVC.2.2.2.2.2.2.1 nk4 eA_7 sh4_1 rfl fpX5_65 dX5_readGardenStatement_31 rfl ?_
  refine wa_aload_n 35 0 hC dX5_readGardenStatement_34 rfl 0 rfl rfl ?_
  refine wa_getR 38 hC (vs5 hVC) (sr5_5 _) flX5_18 dX5_readGardenStatement_35 rfl ?_
  refine wa_aload_n 39 0 hC dX5_readGardenStatement_38 rfl 0 rfl rfl ?_
  refine wa_iconst 40 hC dX5_readGardenStatement_39 kc_0 rfl ?_
  refine wa_bipush 42 hC dX5_readGardenStatement_40 kb_100 rfl ?_
  obtain ⟨r_9, A_8, e_17, h⟩ := bd2_some h
  refine wa_callVi 45 hC [.int (0 : Int32), .int (100 : Int32)] [.ref (ρ 4 7)] knX5_expectNumber mvX5_59 (tX5_expectNumber E.2.1 (0 : Int32) (100 : Int32) A_7 hVC e_17) (vs5 hVC) kc5 (Nat.le_of_ble_eq_true rfl) (Nat.le_of_ble_eq_true rfl) rfl (Nat.le_of_ble_eq_true rfl) dX5_readGardenStatement_42 rfl le00 rfl ?_
  obtain ⟨A_10, eA_10, h⟩ := ltb_some h
  refine wa_putIc 48 hC hVC.2.2.2.2.2.2.1 nk4 eA_10 sh4_2 rfl fpX5_68 dX5_readGardenStatement_45 rfl ?_
  refine wa_aload_n 49 0 hC dX5_readGardenStatement_48 rfl 0 rfl rfl ?_
  refine wa_getR 52 hC (vs5 hVC) (sr5_5 _) flX5_18 dX5_readGardenStatement_49 rfl ?_
  refine wa_aload_n 53 0 hC dX5_readGardenStatement_52 rfl 0 rfl rfl ?_
  refine wa_iconst 54 hC dX5_readGardenStatement_53 kc_1 rfl ?_
  refine wa_bipush 56 hC dX5_readGardenStatement_54 kb_100 rfl ?_
  obtain ⟨r_12, A_11, e_16, h⟩ := bd2_some h
  refine wa_callVi 59 hC [.int (1 : Int32), .int (100 : Int32)] [.ref (ρ 4 7)] knX5_expectNumber mvX5_59 (tX5_expectNumber E.2.1 (1 : Int32) (100 : Int32) A_10 hVC e_16) (vs5 hVC) kc5 (Nat.le_of_ble_eq_true rfl) (Nat.le_of_ble_eq_true rfl) rfl (Nat.le_of_ble_eq_true rfl) dX5_readGardenStatement_56 rfl le00 rfl ?_
  obtain ⟨A_13, eA_13, h⟩ := ltb_some h
  refine wa_putIc 62 hC hVC.2.2.2.2.2.2.1 nk4 eA_13 sh4_3 rfl fpX5_71 dX5_readGardenStatement_59 rfl ?_
  refine wa_aload_n 63 0 hC dX5_readGardenStatement_62 rfl 0 rfl rfl ?_
  obtain ⟨A_14, e_15, h⟩ := bd_some h
  refine wa_callVv 66 hC [] [] knX5_expectSemicolon mvX5_74 (tX5_expectSemicolon E.2.1 A_13 hVC e_15) (vs5 hVC) kc5 (Nat.le_of_ble_eq_true rfl) (Nat.le_of_ble_eq_true rfl) rfl (Nat.le_of_ble_eq_true rfl) dX5_readGardenStatement_63 rfl le00 rfl ?_
  exact wa_vret hC hQ (jA (sm0 h)) dX5_readGardenStatement_66
set_option maxRecDepth 20000 in
theorem tX4_addPeriod (l : Launch) {G : gU} {ρ : Nat → Nat → Nat} {V : Nat → Nat → Prop} {Z : sM} (o : Nat) (x1 : Int32) (A : sM) (_ : VC V) (ho : V 4 o) {A' : sM} (h : fX4_addPeriod o x1 A = some A') : MT l yX4_addPeriod cX4_addPeriod 2 none 1 G ρ V [.ref (ρ 4 o), .int x1] (J A Z) none (J A' Z) := by
  refine vv_enter (lv := [(0, .ref (ρ 4 o)), (1, .int x1)]) RX4 rfl (by decide) (Nat.le_of_ble_eq_true rfl) rfl ?_
  intro E hE hC hQ hVC
  subst hE
  rw [fX4_addPeriod] at h
  refine wa_aload_n 1 0 hC dX4_addPeriod_0 rfl 0 rfl rfl ?_
  refine wa_getIc 4 hC ho sh4_4 rfl flX4_24 dX4_addPeriod_1 rfl ?_
  refine wa_iconst 5 hC dX4_addPeriod_4 kc_4 rfl ?_
  refine wa_icmp_ge 8 28 hC dX4_addPeriod_5 rfl rfl h (fun h => ?_) (fun h => ?_)
  · exact wa_vret hC hQ (jA (sm0 h)) dX4_addPeriod_28
  · refine wa_aload_n 9 0 hC dX4_addPeriod_8 rfl 0 rfl rfl ?_
    refine wa_getR 12 hC ho (sr4_5 _) flX4_27 dX4_addPeriod_9 rfl ?_
    refine wa_aload_n 13 0 hC dX4_addPeriod_12 rfl 0 rfl rfl ?_
    refine wa_getIc 16 hC ho sh4_4 rfl flX4_24 dX4_addPeriod_13 rfl ?_
    refine wa_iload_n 17 1 hC dX4_addPeriod_16 rfl 1 rfl rfl ?_
    obtain ⟨g_1, h⟩ := gd_some h
    obtain ⟨A_2, eA_2, h⟩ := ltb_some h
    refine wa_iastc 18 hC (vc18 hVC ho) nk18 ar18 rfl g_1 eA_2 dX4_addPeriod_17 rfl ?_
    refine wa_aload_n 19 0 hC dX4_addPeriod_18 rfl 0 rfl rfl ?_
    refine wa_dup 20 hC dX4_addPeriod_19 rfl rfl ?_
    refine wa_getIc 23 hC ho sh4_4 rfl flX4_24 dX4_addPeriod_20 rfl ?_
    refine wa_iconst 24 hC dX4_addPeriod_23 kc_1 rfl ?_
    refine wa_iadd 25 hC dX4_addPeriod_24 rfl ?_
    obtain ⟨A_3, eA_3, h⟩ := ltb_some h
    refine wa_putIc 28 hC ho nk4 eA_3 sh4_4 rfl fpX4_24 dX4_addPeriod_25 rfl ?_
    exact wa_vret hC hQ (jA (sm0 h)) dX4_addPeriod_28
set_option maxRecDepth 20000 in
theorem tX5_readPeriodStatement (l : Launch) {G : gU} {ρ : Nat → Nat → Nat} {V : Nat → Nat → Prop} {Z : sM} (A : sM) (_ : VC V) {A' : sM} (h : fX5_readPeriodStatement A = some A') : MT l yX5_readPeriodStatement cX5_readPeriodStatement 1 none 8 G ρ V [.ref (ρ 5 0)] (J A Z) none (J A' Z) := by
  refine vv_enter (lv := [(0, .ref (ρ 5 0))]) RX5 rfl (by decide) (Nat.le_of_ble_eq_true rfl) rfl ?_
  intro E hE hC hQ hVC
  subst hE
  rw [fX5_readPeriodStatement] at h
  refine wa_aload_n 1 0 hC dX5_readPeriodStatement_0 rfl 0 rfl rfl ?_
  refine wa_ldcs 3 3 hC dX5_readPeriodStatement_1 (by decide) rfl rfl rfl ?_
  obtain ⟨A_1, e_9, h⟩ := bd_some h
  refine wa_callVv 6 hC [.ref (gS G (2 * 3))] [] knX5_expectWord mvX5_54 (tX5_expectWord E.2.1 3 A hVC (by decide) e_9) (vs5 hVC) kc5 (Nat.le_of_ble_eq_true rfl) (Nat.le_of_ble_eq_true rfl) rfl (Nat.le_of_ble_eq_true rfl) dX5_readPeriodStatement_3 rfl le00 rfl ?_
  refine wa_aload_n 7 0 hC dX5_readPeriodStatement_6 rfl 0 rfl rfl ?_
  refine wa_getR 10 hC (vs5 hVC) (sr5_5 _) flX5_18 dX5_readPeriodStatement_7 rfl ?_
  refine wa_aload_n 11 0 hC dX5_readPeriodStatement_10 rfl 0 rfl rfl ?_
  refine wa_iconst 12 hC dX5_readPeriodStatement_11 kc_0 rfl ?_
  refine wa_sipush 15 hC dX5_readPeriodStatement_12 ks_200 rfl ?_
  obtain ⟨r_3, A_2, e_8, h⟩ := bd2_some h
  refine wa_callVi 18 hC [.int (0 : Int32), .int (200 : Int32)] [.ref (ρ 4 7)] knX5_expectNumber mvX5_59 (tX5_expectNumber E.2.1 (0 : Int32) (200 : Int32) A_1 hVC e_8) (vs5 hVC) kc5 (Nat.le_of_ble_eq_true rfl) (Nat.le_of_ble_eq_true rfl) rfl (Nat.le_of_ble_eq_true rfl) dX5_readPeriodStatement_15 rfl le00 rfl ?_
  obtain ⟨A_4, e_7, h⟩ := bd_some h
  refine wa_callVv 21 hC [.int r_3] [] knX4_addPeriod mvX5_79 (tX4_addPeriod E.2.1 7 r_3 A_2 hVC hVC.2.2.2.2.2.2.1 e_7) hVC.2.2.2.2.2.2.1 kc4 (Nat.le_of_ble_eq_true rfl) (Nat.le_of_ble_eq_true rfl) rfl (Nat.le_of_ble_eq_true rfl) dX5_readPeriodStatement_18 rfl le00 rfl ?_
  refine wa_aload_n 22 0 hC dX5_readPeriodStatement_21 rfl 0 rfl rfl ?_
  obtain ⟨A_5, e_6, h⟩ := bd_some h
  refine wa_callVv 25 hC [] [] knX5_expectSemicolon mvX5_74 (tX5_expectSemicolon E.2.1 A_4 hVC e_6) (vs5 hVC) kc5 (Nat.le_of_ble_eq_true rfl) (Nat.le_of_ble_eq_true rfl) rfl (Nat.le_of_ble_eq_true rfl) dX5_readPeriodStatement_22 rfl le00 rfl ?_
  exact wa_vret hC hQ (jA (sm0 h)) dX5_readPeriodStatement_25
set_option maxRecDepth 20000 in
theorem wX4_setHours_L7 {E : eU} {G : gU} {ρ : Nat → Nat → Nat} {V : Nat → Nat → Prop} {Z : sM} {A' : sM} (o0 : Nat) (x2 : Int32) (x3 : Int32) {k34 : sM → Option (sM)} (hC : CX E G cX4_setHours 5 RX4 none 2 0 0) (hVC : VC V) (ho0 : V 4 o0) (hk34 : ∀ (A : sM), k34 A = some A' → WA E G ρ V 0 0 (J A Z) 34 [] []) : ∀ (n : Nat) (x4 : Int32) (A : sM), fX4_setHours_L7 o0 x2 x3 k34 n x4 A = some A' → WA E G ρ V 0 0 (J A Z) 7 [(0, .ref (ρ 4 o0)), (2, .int x2), (3, .int x3), (4, .int x4)] [] := by
  intro n
  induction n with
  | zero =>
    intro x4 A h
    rw [fX4_setHours_L7] at h
    cases h
  | succ n ih =>
    intro x4 A h
    rw [fX4_setHours_L7] at h
    refine wa_iload 9 4 hC dX4_setHours_7 3 rfl rfl ?_
    refine wa_iload_n 10 2 hC dX4_setHours_9 rfl 1 rfl rfl ?_
    refine wa_icmp_ge 13 34 hC dX4_setHours_10 rfl rfl h (fun h => ?_) (fun h => ?_)
    · refine wa_pick [] rfl ?_
      exact hk34 A h
    · refine wa_iload 15 4 hC dX4_setHours_13 3 rfl rfl ?_
      refine wa_bipush 17 hC dX4_setHours_15 kb_24 rfl ?_
      refine wa_icmp_ge 20 34 hC dX4_setHours_17 rfl rfl h (fun h => ?_) (fun h => ?_)
      · refine wa_pick [] rfl ?_
        exact hk34 A h
      · refine wa_aload_n 21 0 hC dX4_setHours_20 rfl 0 rfl rfl ?_
        refine wa_getR 24 hC ho0 (sr4_6 _) flX4_31 dX4_setHours_21 rfl ?_
        refine wa_iload 26 4 hC dX4_setHours_24 3 rfl rfl ?_
        refine wa_iload_n 27 3 hC dX4_setHours_26 rfl 2 rfl rfl ?_
        obtain ⟨g_1, h⟩ := gd_some h
        obtain ⟨A_2, eA_2, h⟩ := ltb_some h
        refine wa_iastc 28 hC (vc19 hVC ho0) nk19 ar19 rfl g_1 eA_2 dX4_setHours_27 rfl ?_
        obtain ⟨x4_3, ex4_3, h⟩ := ltb_some h
        refine wa_iinc (lv' := [(4, .int x4_3), (0, .ref (ρ 4 o0)), (2, .int x2), (3, .int x3)]) 31 4 hC dX4_setHours_28 3 rfl (by rw [kc_1]; exact ex4_3) (by decide) rfl rfl ?_
        refine wa_goto 7 hC dX4_setHours_31 rfl ?_
        refine wa_pick [1, 2, 3, 0] rfl ?_
        exact ih x4_3 A_2 h
set_option maxRecDepth 20000 in
theorem tX4_setHours (l : Launch) {G : gU} {ρ : Nat → Nat → Nat} {V : Nat → Nat → Prop} {Z : sM} (o : Nat) (x1 : Int32) (x2 : Int32) (x3 : Int32) (A : sM) (_ : VC V) (ho : V 4 o) {A' : sM} (h : fX4_setHours o x1 x2 x3 A = some A') : MT l yX4_setHours cX4_setHours 5 none 2 G ρ V [.ref (ρ 4 o), .int x1, .int x2, .int x3] (J A Z) none (J A' Z) := by
  refine vv_enter (lv := [(0, .ref (ρ 4 o)), (1, .int x1), (2, .int x2), (3, .int x3)]) RX4 rfl (by decide) (Nat.le_of_ble_eq_true rfl) rfl ?_
  intro E hE hC hQ hVC
  subst hE
  rw [fX4_setHours] at h
  refine wa_iload_n 1 1 hC dX4_setHours_0 rfl 1 rfl rfl ?_
  refine wa_iconst 2 hC dX4_setHours_1 kc_0 rfl ?_
  refine wa_mmax 5 hC maX4_46 (by decide) (Nat.le_of_ble_eq_true rfl) dX4_setHours_2 rfl le00 ?_
  obtain ⟨x4_1, ex4_1, h⟩ := ltb_some h
  refine wa_istore (lv' := [(4, .int x4_1), (0, .ref (ρ 4 o)), (1, .int x1), (2, .int x2), (3, .int x3)]) 7 4 hC dX4_setHours_5 ex4_1 (by decide) rfl rfl ?_
  refine wa_pick [1, 3, 4, 0] rfl ?_
  refine wX4_setHours_L7 o x2 x3 hC hVC ho (fun A_2 h => ?_) 10000 x4_1 A h
  exact wa_vret hC hQ (jA (sm0 h)) dX4_setHours_34
set_option maxRecDepth 20000 in
theorem tX5_readHoursStatement (l : Launch) {G : gU} {ρ : Nat → Nat → Nat} {V : Nat → Nat → Prop} {Z : sM} (A : sM) (_ : VC V) {A' : sM} (h : fX5_readHoursStatement A = some A') : MT l yX5_readHoursStatement cX5_readHoursStatement 4 none 8 G ρ V [.ref (ρ 5 0)] (J A Z) none (J A' Z) := by
  refine vv_enter (lv := [(0, .ref (ρ 5 0))]) RX5 rfl (by decide) (Nat.le_of_ble_eq_true rfl) rfl ?_
  intro E hE hC hQ hVC
  subst hE
  rw [fX5_readHoursStatement] at h
  refine wa_aload_n 1 0 hC dX5_readHoursStatement_0 rfl 0 rfl rfl ?_
  refine wa_ldcs 3 4 hC dX5_readHoursStatement_1 (by decide) rfl rfl rfl ?_
  obtain ⟨A_1, e_15, h⟩ := bd_some h
  refine wa_callVv 6 hC [.ref (gS G (2 * 4))] [] knX5_expectWord mvX5_54 (tX5_expectWord E.2.1 4 A hVC (by decide) e_15) (vs5 hVC) kc5 (Nat.le_of_ble_eq_true rfl) (Nat.le_of_ble_eq_true rfl) rfl (Nat.le_of_ble_eq_true rfl) dX5_readHoursStatement_3 rfl le00 rfl ?_
  refine wa_aload_n 7 0 hC dX5_readHoursStatement_6 rfl 0 rfl rfl ?_
  refine wa_iconst 8 hC dX5_readHoursStatement_7 kc_0 rfl ?_
  refine wa_bipush 10 hC dX5_readHoursStatement_8 kb_23 rfl ?_
  obtain ⟨r_3, A_2, e_14, h⟩ := bd2_some h
  refine wa_callVi 13 hC [.int (0 : Int32), .int (23 : Int32)] [] knX5_expectNumber mvX5_59 (tX5_expectNumber E.2.1 (0 : Int32) (23 : Int32) A_1 hVC e_14) (vs5 hVC) kc5 (Nat.le_of_ble_eq_true rfl) (Nat.le_of_ble_eq_true rfl) rfl (Nat.le_of_ble_eq_true rfl) dX5_readHoursStatement_10 rfl le00 rfl ?_
  refine wa_istore_n (lv' := [(1, .int r_3), (0, .ref (ρ 5 0))]) 14 1 hC dX5_readHoursStatement_13 rfl rfl (by decide) rfl rfl ?_
  refine wa_aload_n 15 0 hC dX5_readHoursStatement_14 rfl 1 rfl rfl ?_
  refine wa_iload_n 16 1 hC dX5_readHoursStatement_15 rfl 0 rfl rfl ?_
  refine wa_iconst 17 hC dX5_readHoursStatement_16 kc_1 rfl ?_
  refine wa_iadd 18 hC dX5_readHoursStatement_17 rfl ?_
  refine wa_bipush 20 hC dX5_readHoursStatement_18 kb_24 rfl ?_
  obtain ⟨r_5, A_4, e_13, h⟩ := bd2_some h
  refine wa_callVi 23 hC [.int (r_3 + (1 : Int32)), .int (24 : Int32)] [] knX5_expectNumber mvX5_59 (tX5_expectNumber E.2.1 (r_3 + (1 : Int32)) (24 : Int32) A_2 hVC e_13) (vs5 hVC) kc5 (Nat.le_of_ble_eq_true rfl) (Nat.le_of_ble_eq_true rfl) rfl (Nat.le_of_ble_eq_true rfl) dX5_readHoursStatement_20 rfl le00 rfl ?_
  refine wa_istore_n (lv' := [(2, .int r_5), (1, .int r_3), (0, .ref (ρ 5 0))]) 24 2 hC dX5_readHoursStatement_23 rfl rfl (by decide) rfl rfl ?_
  refine wa_aload_n 25 0 hC dX5_readHoursStatement_24 rfl 2 rfl rfl ?_
  refine wa_iconst 26 hC dX5_readHoursStatement_25 kc_0 rfl ?_
  refine wa_aload_n 27 0 hC dX5_readHoursStatement_26 rfl 2 rfl rfl ?_
  refine wa_getR 30 hC (vs5 hVC) (sr5_5 _) flX5_18 dX5_readHoursStatement_27 rfl ?_
  refine wa_getIc 33 hC hVC.2.2.2.2.2.2.1 sh4_4 rfl flX5_85 dX5_readHoursStatement_30 rfl ?_
  refine wa_iconst 34 hC dX5_readHoursStatement_33 kc_1 rfl ?_
  refine wa_isub 35 hC dX5_readHoursStatement_34 rfl ?_
  obtain ⟨r_7, A_6, e_12, h⟩ := bd2_some h
  refine wa_callVi 38 hC [.int (0 : Int32), .int ((A_4.1 4 4 7 0) - (1 : Int32))] [] knX5_expectNumber mvX5_59 (tX5_expectNumber E.2.1 (0 : Int32) ((A_4.1 4 4 7 0) - (1 : Int32)) A_4 hVC e_12) (vs5 hVC) kc5 (Nat.le_of_ble_eq_true rfl) (Nat.le_of_ble_eq_true rfl) rfl (Nat.le_of_ble_eq_true rfl) dX5_readHoursStatement_35 rfl le00 rfl ?_
  refine wa_istore_n (lv' := [(3, .int r_7), (2, .int r_5), (1, .int r_3), (0, .ref (ρ 5 0))]) 39 3 hC dX5_readHoursStatement_38 rfl rfl (by decide) rfl rfl ?_
  refine wa_aload_n 40 0 hC dX5_readHoursStatement_39 rfl 3 rfl rfl ?_
  obtain ⟨A_8, e_11, h⟩ := bd_some h
  refine wa_callVv 43 hC [] [] knX5_expectSemicolon mvX5_74 (tX5_expectSemicolon E.2.1 A_6 hVC e_11) (vs5 hVC) kc5 (Nat.le_of_ble_eq_true rfl) (Nat.le_of_ble_eq_true rfl) rfl (Nat.le_of_ble_eq_true rfl) dX5_readHoursStatement_40 rfl le00 rfl ?_
  refine wa_aload_n 44 0 hC dX5_readHoursStatement_43 rfl 3 rfl rfl ?_
  refine wa_getIc 47 hC (vs5 hVC) sh5_4 rfl flX5_38 dX5_readHoursStatement_44 rfl ?_
  refine wa_if_ne 50 60 hC dX5_readHoursStatement_47 rfl rfl h (fun h => ?_) (fun h => ?_)
  · exact wa_vret hC hQ (jA (sm0 h)) dX5_readHoursStatement_60
  · refine wa_aload_n 51 0 hC dX5_readHoursStatement_50 rfl 3 rfl rfl ?_
    refine wa_getR 54 hC (vs5 hVC) (sr5_5 _) flX5_18 dX5_readHoursStatement_51 rfl ?_
    refine wa_iload_n 55 1 hC dX5_readHoursStatement_54 rfl 2 rfl rfl ?_
    refine wa_iload_n 56 2 hC dX5_readHoursStatement_55 rfl 1 rfl rfl ?_
    refine wa_iload_n 57 3 hC dX5_readHoursStatement_56 rfl 0 rfl rfl ?_
    obtain ⟨A_9, e_10, h⟩ := bd_some h
    refine wa_callVv 60 hC [.int r_3, .int r_5, .int r_7] [] knX4_setHours mvX5_88 (tX4_setHours E.2.1 7 r_3 r_5 r_7 A_8 hVC hVC.2.2.2.2.2.2.1 e_10) hVC.2.2.2.2.2.2.1 kc4 (Nat.le_of_ble_eq_true rfl) (Nat.le_of_ble_eq_true rfl) rfl (Nat.le_of_ble_eq_true rfl) dX5_readHoursStatement_57 rfl le00 rfl ?_
    exact wa_vret hC hQ (jA (sm0 h)) dX5_readHoursStatement_60
set_option maxRecDepth 20000 in
theorem wX5_readFurtherStatements_L4 {E : eU} {G : gU} {ρ : Nat → Nat → Nat} {V : Nat → Nat → Prop} {Z : sM} {A' : sM} {k33 : sM → Option (sM)} {k104 : sM → Option (sM)} (hC : CX E G cX5_readFurtherStatements 3 RX5 none 9 0 0) (hVC : VC V) (hk33 : ∀ (A : sM), k33 A = some A' → WA E G ρ V 0 0 (J A Z) 33 [] []) (hk104 : ∀ (A : sM), k104 A = some A' → WA E G ρ V 0 0 (J A Z) 104 [] []) : ∀ (n : Nat) (x1 : Int32) (x2 : Int32) (A : sM), fX5_readFurtherStatements_L4 k33 k104 n x1 x2 A = some A' → WA E G ρ V 0 0 (J A Z) 4 [(0, .ref (ρ 5 0)), (1, .int x1), (2, .int x2)] [] := by
  intro n
  induction n with
  | zero =>
    intro x1 x2 A h
    rw [fX5_readFurtherStatements_L4] at h
    cases h
  | succ n ih =>
    intro x1 x2 A h
    rw [fX5_readFurtherStatements_L4] at h
    refine wa_iload_n 5 2 hC dX5_readFurtherStatements_4 rfl 2 rfl rfl ?_
    refine wa_sipush 8 hC dX5_readFurtherStatements_5 ks_300 rfl ?_
    refine wa_icmp_ge 11 104 hC dX5_readFurtherStatements_8 rfl rfl h (fun h => ?_) (fun h => ?_)
    · refine wa_pick [] rfl ?_
      exact hk104 A h
    · refine wa_aload_n 12 0 hC dX5_readFurtherStatements_11 rfl 0 rfl rfl ?_
      refine wa_getIc 15 hC (vs5 hVC) sh5_4 rfl flX5_38 dX5_readFurtherStatements_12 rfl ?_
      refine wa_if_ne 18 104 hC dX5_readFurtherStatements_15 rfl rfl h (fun h => ?_) (fun h => ?_)
      · refine wa_pick [] rfl ?_
        exact hk104 A h
      · refine wa_aload_n 19 0 hC dX5_readFurtherStatements_18 rfl 0 rfl rfl ?_
        obtain ⟨A_1, e_17, h⟩ := bd_some h
        refine wa_callVv 22 hC [] [] knX5_skipSpaces mvX5_92 (tX5_skipSpaces E.2.1 A hVC e_17) (vs5 hVC) kc5 (Nat.le_of_ble_eq_true rfl) (Nat.le_of_ble_eq_true rfl) rfl (Nat.le_of_ble_eq_true rfl) dX5_readFurtherStatements_19 rfl le00 rfl ?_
        refine wa_aload_n 23 0 hC dX5_readFurtherStatements_22 rfl 0 rfl rfl ?_
        refine wa_getIc 26 hC (vs5 hVC) sh5_3 rfl flX5_35 dX5_readFurtherStatements_23 rfl ?_
        refine wa_aload_n 27 0 hC dX5_readFurtherStatements_26 rfl 0 rfl rfl ?_
        refine wa_getIc 30 hC (vs5 hVC) sh5_2 rfl flX5_32 dX5_readFurtherStatements_27 rfl ?_
        refine wa_icmp_lt 33 34 hC dX5_readFurtherStatements_30 rfl rfl h (fun h => ?_) (fun h => ?_)
        · refine wa_aload_n 35 0 hC dX5_readFurtherStatements_34 rfl 0 rfl rfl ?_
          refine wa_ldcs 37 4 hC dX5_readFurtherStatements_35 (by decide) rfl rfl rfl ?_
          obtain ⟨r_2, e_16, h⟩ := bd_some h
          refine wa_callVi 40 hC [.ref (gS G (2 * 4))] [] knX5_standsHere mvX5_95 (tX5_standsHere E.2.1 4 A_1 hVC (by decide) e_16) (vs5 hVC) kc5 (Nat.le_of_ble_eq_true rfl) (Nat.le_of_ble_eq_true rfl) rfl (Nat.le_of_ble_eq_true rfl) dX5_readFurtherStatements_37 rfl le00 rfl ?_
          obtain ⟨kj_5, ekj_5, h⟩ := ltb_k2 h
          have hkj_5 : ∀ (x1_3 : Int32) (A_4 : sM), kj_5 x1_3 A_4 = some A' → WA E G ρ V 0 0 (J A_4 Z) 98 [(0, .ref (ρ 5 0)), (1, .int x1_3), (2, .int x2)] [] := by
            intro x1_3 A_4 h
            rw [ekj_5] at h
            obtain ⟨x2_6, ex2_6, h⟩ := ltb_some h
            refine wa_iinc (lv' := [(2, .int x2_6), (0, .ref (ρ 5 0)), (1, .int x1_3)]) 101 2 hC dX5_readFurtherStatements_98 2 rfl (by rw [kc_1]; exact ex2_6) (by decide) rfl rfl ?_
            refine wa_goto 4 hC dX5_readFurtherStatements_101 rfl ?_
            refine wa_pick [1, 2, 0] rfl ?_
            exact ih x1_3 x2_6 A_4 h
          clear ekj_5
          refine wa_if_eq 43 52 hC dX5_readFurtherStatements_40 rfl rfl h (fun h => ?_) (fun h => ?_)
          · refine wa_iload_n 53 1 hC dX5_readFurtherStatements_52 rfl 1 rfl rfl ?_
            obtain ⟨kj_7, ekj_7, h⟩ := ltb_some h
            have hkj_7 : kj_7 = some A' → WA E G ρ V 0 0 (J A_1 Z) 92 [(0, .ref (ρ 5 0)), (1, .int x1), (2, .int x2)] [] := by
              intro h
              rw [ekj_7] at h
              refine wa_aload_n 93 0 hC dX5_readFurtherStatements_92 rfl 0 rfl rfl ?_
              refine wa_bipush 95 hC dX5_readFurtherStatements_93 kb_m2 rfl ?_
              obtain ⟨A_8, eA_8, h⟩ := ltb_some h
              refine wa_putIc 98 hC (vs5 hVC) nk5 eA_8 sh5_4 rfl fpX5_38 dX5_readFurtherStatements_95 rfl ?_
              exact hkj_5 x1 A_8 h
            clear ekj_7
            refine wa_if_ne 56 92 hC dX5_readFurtherStatements_53 rfl rfl h (fun h => ?_) (fun h => ?_)
            · exact hkj_7 h
            · refine wa_aload_n 57 0 hC dX5_readFurtherStatements_56 rfl 0 rfl rfl ?_
              refine wa_ldcs 59 3 hC dX5_readFurtherStatements_57 (by decide) rfl rfl rfl ?_
              obtain ⟨r_9, e_13, h⟩ := bd_some h
              refine wa_callVi 62 hC [.ref (gS G (2 * 3))] [] knX5_standsHere mvX5_95 (tX5_standsHere E.2.1 3 A_1 hVC (by decide) e_13) (vs5 hVC) kc5 (Nat.le_of_ble_eq_true rfl) (Nat.le_of_ble_eq_true rfl) rfl (Nat.le_of_ble_eq_true rfl) dX5_readFurtherStatements_59 rfl le00 rfl ?_
              refine wa_if_eq 65 92 hC dX5_readFurtherStatements_62 rfl rfl h (fun h => ?_) (fun h => ?_)
              · exact hkj_7 h
              · refine wa_aload_n 66 0 hC dX5_readFurtherStatements_65 rfl 0 rfl rfl ?_
                refine wa_getR 69 hC (vs5 hVC) (sr5_5 _) flX5_18 dX5_readFurtherStatements_66 rfl ?_
                refine wa_getIc 72 hC hVC.2.2.2.2.2.2.1 sh4_4 rfl flX5_85 dX5_readFurtherStatements_69 rfl ?_
                refine wa_iconst 73 hC dX5_readFurtherStatements_72 kc_4 rfl ?_
                refine wa_icmp_lt 76 85 hC dX5_readFurtherStatements_73 rfl rfl h (fun h => ?_) (fun h => ?_)
                · refine wa_aload_n 86 0 hC dX5_readFurtherStatements_85 rfl 0 rfl rfl ?_
                  obtain ⟨A_10, e_11, h⟩ := bd_some h
                  refine wa_callVv 89 hC [] [] knX5_readPeriodStatement mvX5_47 (tX5_readPeriodStatement E.2.1 A_1 hVC e_11) (vs5 hVC) kc5 (Nat.le_of_ble_eq_true rfl) (Nat.le_of_ble_eq_true rfl) rfl (Nat.le_of_ble_eq_true rfl) dX5_readFurtherStatements_86 rfl le00 rfl ?_
                  refine wa_goto 98 hC dX5_readFurtherStatements_89 rfl ?_
                  exact hkj_5 x1 A_10 h
                · refine wa_aload_n 77 0 hC dX5_readFurtherStatements_76 rfl 0 rfl rfl ?_
                  refine wa_bipush 79 hC dX5_readFurtherStatements_77 kb_m4 rfl ?_
                  obtain ⟨A_12, eA_12, h⟩ := ltb_some h
                  refine wa_putIc 82 hC (vs5 hVC) nk5 eA_12 sh5_4 rfl fpX5_38 dX5_readFurtherStatements_79 rfl ?_
                  refine wa_goto 98 hC dX5_readFurtherStatements_82 rfl ?_
                  exact hkj_5 x1 A_12 h
          · refine wa_iconst 44 hC dX5_readFurtherStatements_43 kc_1 rfl ?_
            refine wa_istore_n (lv' := [(1, .int (1 : Int32)), (0, .ref (ρ 5 0)), (2, .int x2)]) 45 1 hC dX5_readFurtherStatements_44 rfl rfl (by decide) rfl rfl ?_
            refine wa_aload_n 46 0 hC dX5_readFurtherStatements_45 rfl 1 rfl rfl ?_
            obtain ⟨A_14, e_15, h⟩ := bd_some h
            refine wa_callVv 49 hC [] [] knX5_readHoursStatement mvX5_99 (tX5_readHoursStatement E.2.1 A_1 hVC e_15) (vs5 hVC) kc5 (Nat.le_of_ble_eq_true rfl) (Nat.le_of_ble_eq_true rfl) rfl (Nat.le_of_ble_eq_true rfl) dX5_readFurtherStatements_46 rfl le00 rfl ?_
            refine wa_goto 98 hC dX5_readFurtherStatements_49 rfl ?_
            refine wa_pick [1, 0, 2] rfl ?_
            exact hkj_5 (1 : Int32) A_14 h
        · refine wa_pick [] rfl ?_
          exact hk33 A_1 h
set_option maxRecDepth 20000 in
theorem tX5_readFurtherStatements (l : Launch) {G : gU} {ρ : Nat → Nat → Nat} {V : Nat → Nat → Prop} {Z : sM} (A : sM) (_ : VC V) {A' : sM} (h : fX5_readFurtherStatements A = some A') : MT l yX5_readFurtherStatements cX5_readFurtherStatements 3 none 9 G ρ V [.ref (ρ 5 0)] (J A Z) none (J A' Z) := by
  refine vv_enter (lv := [(0, .ref (ρ 5 0))]) RX5 rfl (by decide) (Nat.le_of_ble_eq_true rfl) rfl ?_
  intro E hE hC hQ hVC
  subst hE
  rw [fX5_readFurtherStatements] at h
  refine wa_iconst 1 hC dX5_readFurtherStatements_0 kc_0 rfl ?_
  refine wa_istore_n (lv' := [(1, .int (0 : Int32)), (0, .ref (ρ 5 0))]) 2 1 hC dX5_readFurtherStatements_1 rfl rfl (by decide) rfl rfl ?_
  refine wa_iconst 3 hC dX5_readFurtherStatements_2 kc_0 rfl ?_
  refine wa_istore_n (lv' := [(2, .int (0 : Int32)), (1, .int (0 : Int32)), (0, .ref (ρ 5 0))]) 4 2 hC dX5_readFurtherStatements_3 rfl rfl (by decide) rfl rfl ?_
  refine wa_pick [2, 1, 0] rfl ?_
  refine wX5_readFurtherStatements_L4 hC hVC (fun A_1 h => ?_) (fun A_2 h => ?_) 10000 (0 : Int32) (0 : Int32) A h
  · exact wa_vret hC hQ (jA (sm0 h)) dX5_readFurtherStatements_33
  · exact wa_vret hC hQ (jA (sm0 h)) dX5_readFurtherStatements_104
set_option maxRecDepth 20000 in
theorem tX5_read (l : Launch) {G : gU} {ρ : Nat → Nat → Nat} {V : Nat → Nat → Prop} {Z : sM} (x1 : Int32) (A : sM) (_ : VC V) {r : Int32} {A' : sM} (h : fX5_read x1 A = some (r, A')) : MT l yX5_read cX5_read 2 (some .int) 10 G ρ V [.ref (ρ 5 0), .int x1] (J A Z) (some (.int r)) (J A' Z) := by
  refine vv_enter (lv := [(0, .ref (ρ 5 0)), (1, .int x1)]) RX5 rfl (by decide) (Nat.le_of_ble_eq_true rfl) rfl ?_
  intro E hE hC hQ hVC
  subst hE
  rw [fX5_read] at h
  refine wa_aload_n 1 0 hC dX5_read_0 rfl 0 rfl rfl ?_
  refine wa_iload_n 2 1 hC dX5_read_1 rfl 1 rfl rfl ?_
  refine wa_sipush 5 hC dX5_read_2 ks_300 rfl ?_
  refine wa_mmin 8 hC maX5_26 (by decide) (Nat.le_of_ble_eq_true rfl) dX5_read_5 rfl le00 ?_
  obtain ⟨A_1, eA_1, h⟩ := ltb_some h
  refine wa_putIc 11 hC (vs5 hVC) nk5 eA_1 sh5_2 rfl fpX5_32 dX5_read_8 rfl ?_
  refine wa_aload_n 12 0 hC dX5_read_11 rfl 0 rfl rfl ?_
  refine wa_iconst 13 hC dX5_read_12 kc_0 rfl ?_
  obtain ⟨A_2, eA_2, h⟩ := ltb_some h
  refine wa_putIc 16 hC (vs5 hVC) nk5 eA_2 sh5_3 rfl fpX5_35 dX5_read_13 rfl ?_
  refine wa_aload_n 17 0 hC dX5_read_16 rfl 0 rfl rfl ?_
  refine wa_iconst 18 hC dX5_read_17 kc_0 rfl ?_
  obtain ⟨A_3, eA_3, h⟩ := ltb_some h
  refine wa_putIc 21 hC (vs5 hVC) nk5 eA_3 sh5_4 rfl fpX5_38 dX5_read_18 rfl ?_
  refine wa_aload_n 22 0 hC dX5_read_21 rfl 0 rfl rfl ?_
  refine wa_iconst 23 hC dX5_read_22 kc_0 rfl ?_
  obtain ⟨A_4, eA_4, h⟩ := ltb_some h
  refine wa_putIc 26 hC (vs5 hVC) nk5 eA_4 sh5_1 rfl fpX5_22 dX5_read_23 rfl ?_
  refine wa_aload_n 27 0 hC dX5_read_26 rfl 0 rfl rfl ?_
  refine wa_getR 30 hC (vs5 hVC) (sr5_5 _) flX5_18 dX5_read_27 rfl ?_
  obtain ⟨A_5, e_12, h⟩ := bd_some h
  refine wa_callVv 33 hC [] [] knX4_clearPeriods mvX5_41 (tX4_clearPeriods E.2.1 7 A_4 hVC hVC.2.2.2.2.2.2.1 e_12) hVC.2.2.2.2.2.2.1 kc4 (Nat.le_of_ble_eq_true rfl) (Nat.le_of_ble_eq_true rfl) rfl (Nat.le_of_ble_eq_true rfl) dX5_read_30 rfl le00 rfl ?_
  refine wa_aload_n 34 0 hC dX5_read_33 rfl 0 rfl rfl ?_
  obtain ⟨A_6, e_11, h⟩ := bd_some h
  refine wa_callVv 37 hC [] [] knX5_readGardenStatement mvX5_44 (tX5_readGardenStatement E.2.1 A_5 hVC e_11) (vs5 hVC) kc5 (Nat.le_of_ble_eq_true rfl) (Nat.le_of_ble_eq_true rfl) rfl (Nat.le_of_ble_eq_true rfl) dX5_read_34 rfl le00 rfl ?_
  refine wa_aload_n 38 0 hC dX5_read_37 rfl 0 rfl rfl ?_
  obtain ⟨A_7, e_10, h⟩ := bd_some h
  refine wa_callVv 41 hC [] [] knX5_readPeriodStatement mvX5_47 (tX5_readPeriodStatement E.2.1 A_6 hVC e_10) (vs5 hVC) kc5 (Nat.le_of_ble_eq_true rfl) (Nat.le_of_ble_eq_true rfl) rfl (Nat.le_of_ble_eq_true rfl) dX5_read_38 rfl le00 rfl ?_
  refine wa_aload_n 42 0 hC dX5_read_41 rfl 0 rfl rfl ?_
  obtain ⟨A_8, e_9, h⟩ := bd_some h
  refine wa_callVv 45 hC [] [] knX5_readFurtherStatements mvX5_50 (tX5_readFurtherStatements E.2.1 A_7 hVC e_9) (vs5 hVC) kc5 (Nat.le_of_ble_eq_true rfl) (Nat.le_of_ble_eq_true rfl) rfl (Nat.le_of_ble_eq_true rfl) dX5_read_42 rfl le00 rfl ?_
  refine wa_aload_n 46 0 hC dX5_read_45 rfl 0 rfl rfl ?_
  refine wa_getIc 49 hC (vs5 hVC) sh5_4 rfl flX5_38 dX5_read_46 rfl ?_
  exact wa_iret hC hQ (sm1 h) (jA (sm2 h)) dX5_read_49
set_option maxRecDepth 20000 in
theorem tX4_copyFrom (l : Launch) {G : gU} {ρ : Nat → Nat → Nat} {V : Nat → Nat → Prop} {Z : sM} (o : Nat) (o1 : Nat) (A : sM) (_ : VC V) (ho : V 4 o) (ho1 : V 4 o1) {A' : sM} (h : fX4_copyFrom o o1 A = some A') : MT l yX4_copyFrom cX4_copyFrom 2 none 2 G ρ V [.ref (ρ 4 o), .ref (ρ 4 o1)] (J A Z) none (J A' Z) := by
  refine vv_enter (lv := [(0, .ref (ρ 4 o)), (1, .ref (ρ 4 o1))]) RX4 rfl (by decide) (Nat.le_of_ble_eq_true rfl) rfl ?_
  intro E hE hC hQ hVC
  subst hE
  rw [fX4_copyFrom] at h
  refine wa_aload_n 1 0 hC dX4_copyFrom_0 rfl 0 rfl rfl ?_
  refine wa_aload_n 2 1 hC dX4_copyFrom_1 rfl 1 rfl rfl ?_
  refine wa_getIc 5 hC ho1 sh4_0 rfl flX4_9 dX4_copyFrom_2 rfl ?_
  obtain ⟨A_1, eA_1, h⟩ := ltb_some h
  refine wa_putIc 8 hC ho nk4 eA_1 sh4_0 rfl fpX4_9 dX4_copyFrom_5 rfl ?_
  refine wa_aload_n 9 0 hC dX4_copyFrom_8 rfl 0 rfl rfl ?_
  refine wa_aload_n 10 1 hC dX4_copyFrom_9 rfl 1 rfl rfl ?_
  refine wa_getIc 13 hC ho1 sh4_1 rfl flX4_15 dX4_copyFrom_10 rfl ?_
  obtain ⟨A_2, eA_2, h⟩ := ltb_some h
  refine wa_putIc 16 hC ho nk4 eA_2 sh4_1 rfl fpX4_15 dX4_copyFrom_13 rfl ?_
  refine wa_aload_n 17 0 hC dX4_copyFrom_16 rfl 0 rfl rfl ?_
  refine wa_aload_n 18 1 hC dX4_copyFrom_17 rfl 1 rfl rfl ?_
  refine wa_getIc 21 hC ho1 sh4_2 rfl flX4_18 dX4_copyFrom_18 rfl ?_
  obtain ⟨A_3, eA_3, h⟩ := ltb_some h
  refine wa_putIc 24 hC ho nk4 eA_3 sh4_2 rfl fpX4_18 dX4_copyFrom_21 rfl ?_
  refine wa_aload_n 25 0 hC dX4_copyFrom_24 rfl 0 rfl rfl ?_
  refine wa_aload_n 26 1 hC dX4_copyFrom_25 rfl 1 rfl rfl ?_
  refine wa_getIc 29 hC ho1 sh4_3 rfl flX4_21 dX4_copyFrom_26 rfl ?_
  obtain ⟨A_4, eA_4, h⟩ := ltb_some h
  refine wa_putIc 32 hC ho nk4 eA_4 sh4_3 rfl fpX4_21 dX4_copyFrom_29 rfl ?_
  refine wa_aload_n 33 0 hC dX4_copyFrom_32 rfl 0 rfl rfl ?_
  refine wa_aload_n 34 1 hC dX4_copyFrom_33 rfl 1 rfl rfl ?_
  refine wa_getIc 37 hC ho1 sh4_4 rfl flX4_24 dX4_copyFrom_34 rfl ?_
  obtain ⟨A_5, eA_5, h⟩ := ltb_some h
  refine wa_putIc 40 hC ho nk4 eA_5 sh4_4 rfl fpX4_24 dX4_copyFrom_37 rfl ?_
  refine wa_aload_n 41 1 hC dX4_copyFrom_40 rfl 1 rfl rfl ?_
  refine wa_getR 44 hC ho1 (sr4_5 _) flX4_27 dX4_copyFrom_41 rfl ?_
  refine wa_iconst 45 hC dX4_copyFrom_44 kc_0 rfl ?_
  refine wa_aload_n 46 0 hC dX4_copyFrom_45 rfl 0 rfl rfl ?_
  refine wa_getR 49 hC ho (sr4_5 _) flX4_27 dX4_copyFrom_46 rfl ?_
  refine wa_iconst 50 hC dX4_copyFrom_49 kc_0 rfl ?_
  refine wa_iconst 51 hC dX4_copyFrom_50 kc_4 rfl ?_
  obtain ⟨g_7, h⟩ := gd_some h
  obtain ⟨A_6, eA_6, h⟩ := ltb_some h
  refine wa_copyI 54 hC acX4_34 (vc18 hVC ho1) (vc18 hVC ho) (of_decide_eq_true g_7) nk18 ar18 rfl (by decide) (by decide) eA_6 (by decide) (Nat.le_of_ble_eq_true rfl) dX4_copyFrom_51 rfl ?_
  refine wa_aload_n 55 1 hC dX4_copyFrom_54 rfl 1 rfl rfl ?_
  refine wa_getR 58 hC ho1 (sr4_6 _) flX4_31 dX4_copyFrom_55 rfl ?_
  refine wa_iconst 59 hC dX4_copyFrom_58 kc_0 rfl ?_
  refine wa_aload_n 60 0 hC dX4_copyFrom_59 rfl 0 rfl rfl ?_
  refine wa_getR 63 hC ho (sr4_6 _) flX4_31 dX4_copyFrom_60 rfl ?_
  refine wa_iconst 64 hC dX4_copyFrom_63 kc_0 rfl ?_
  refine wa_bipush 66 hC dX4_copyFrom_64 kb_24 rfl ?_
  obtain ⟨g_9, h⟩ := gd_some h
  obtain ⟨A_8, eA_8, h⟩ := ltb_some h
  refine wa_copyI 69 hC acX4_34 (vc19 hVC ho1) (vc19 hVC ho) (of_decide_eq_true g_9) nk19 ar19 rfl (by decide) (by decide) eA_8 (by decide) (Nat.le_of_ble_eq_true rfl) dX4_copyFrom_66 rfl ?_
  exact wa_vret hC hQ (jA (sm0 h)) dX4_copyFrom_69
set_option maxRecDepth 20000 in
theorem tX7_copyFrom (l : Launch) {G : gU} {ρ : Nat → Nat → Nat} {V : Nat → Nat → Prop} {Z : sM} (o : Nat) (o1 : Nat) (A : sM) (_ : VC V) (ho : V 7 o) (ho1 : V 7 o1) {A' : sM} (h : fX7_copyFrom o o1 A = some A') : MT l yX7_copyFrom cX7_copyFrom 2 none 2 G ρ V [.ref (ρ 7 o), .ref (ρ 7 o1)] (J A Z) none (J A' Z) := by
  refine vv_enter (lv := [(0, .ref (ρ 7 o)), (1, .ref (ρ 7 o1))]) RX7 rfl (by decide) (Nat.le_of_ble_eq_true rfl) rfl ?_
  intro E hE hC hQ hVC
  subst hE
  rw [fX7_copyFrom] at h
  refine wa_aload_n 1 1 hC dX7_copyFrom_0 rfl 1 rfl rfl ?_
  refine wa_getR 4 hC ho1 (sr7_0 _) flX7_9 dX7_copyFrom_1 rfl ?_
  refine wa_iconst 5 hC dX7_copyFrom_4 kc_0 rfl ?_
  refine wa_aload_n 6 0 hC dX7_copyFrom_5 rfl 0 rfl rfl ?_
  refine wa_getR 9 hC ho (sr7_0 _) flX7_9 dX7_copyFrom_6 rfl ?_
  refine wa_iconst 10 hC dX7_copyFrom_9 kc_0 rfl ?_
  refine wa_aload_n 11 0 hC dX7_copyFrom_10 rfl 0 rfl rfl ?_
  refine wa_getR 14 hC ho (sr7_0 _) flX7_9 dX7_copyFrom_11 rfl ?_
  refine wa_alen 15 hC (vc22 hVC ho) (a := 0) (by decide) rfl len_240 dX7_copyFrom_14 rfl ?_
  obtain ⟨g_2, h⟩ := gd_some h
  obtain ⟨A_1, eA_1, h⟩ := ltb_some h
  refine wa_copyI 18 hC acX7_24 (vc22 hVC ho1) (vc22 hVC ho) (of_decide_eq_true g_2) nk22 ar22 rfl (by decide) (by decide) eA_1 (by decide) (Nat.le_of_ble_eq_true rfl) dX7_copyFrom_15 rfl ?_
  refine wa_aload_n 19 1 hC dX7_copyFrom_18 rfl 1 rfl rfl ?_
  refine wa_getR 22 hC ho1 (sr7_1 _) flX7_15 dX7_copyFrom_19 rfl ?_
  refine wa_iconst 23 hC dX7_copyFrom_22 kc_0 rfl ?_
  refine wa_aload_n 24 0 hC dX7_copyFrom_23 rfl 0 rfl rfl ?_
  refine wa_getR 27 hC ho (sr7_1 _) flX7_15 dX7_copyFrom_24 rfl ?_
  refine wa_iconst 28 hC dX7_copyFrom_27 kc_0 rfl ?_
  refine wa_aload_n 29 0 hC dX7_copyFrom_28 rfl 0 rfl rfl ?_
  refine wa_getR 32 hC ho (sr7_1 _) flX7_15 dX7_copyFrom_29 rfl ?_
  refine wa_alen 33 hC (vc23 hVC ho) (a := 0) (by decide) rfl len_240 dX7_copyFrom_32 rfl ?_
  obtain ⟨g_4, h⟩ := gd_some h
  obtain ⟨A_3, eA_3, h⟩ := ltb_some h
  refine wa_copyI 36 hC acX7_24 (vc23 hVC ho1) (vc23 hVC ho) (of_decide_eq_true g_4) nk23 ar23 rfl (by decide) (by decide) eA_3 (by decide) (Nat.le_of_ble_eq_true rfl) dX7_copyFrom_33 rfl ?_
  exact wa_vret hC hQ (jA (sm0 h)) dX7_copyFrom_36
set_option maxRecDepth 20000 in
theorem tX8_copyFrom (l : Launch) {G : gU} {ρ : Nat → Nat → Nat} {V : Nat → Nat → Prop} {Z : sM} (o : Nat) (o1 : Nat) (A : sM) (_ : VC V) (ho : V 8 o) (ho1 : V 8 o1) {A' : sM} (h : fX8_copyFrom o o1 A = some A') : MT l yX8_copyFrom cX8_copyFrom 2 none 2 G ρ V [.ref (ρ 8 o), .ref (ρ 8 o1)] (J A Z) none (J A' Z) := by
  refine vv_enter (lv := [(0, .ref (ρ 8 o)), (1, .ref (ρ 8 o1))]) RX8 rfl (by decide) (Nat.le_of_ble_eq_true rfl) rfl ?_
  intro E hE hC hQ hVC
  subst hE
  rw [fX8_copyFrom] at h
  refine wa_aload_n 1 0 hC dX8_copyFrom_0 rfl 0 rfl rfl ?_
  refine wa_aload_n 2 1 hC dX8_copyFrom_1 rfl 1 rfl rfl ?_
  refine wa_getIc 5 hC ho1 sh8_0 rfl flX8_26 dX8_copyFrom_2 rfl ?_
  obtain ⟨A_1, eA_1, h⟩ := ltb_some h
  refine wa_putIc 8 hC ho nk8 eA_1 sh8_0 rfl fpX8_26 dX8_copyFrom_5 rfl ?_
  refine wa_aload_n 9 0 hC dX8_copyFrom_8 rfl 0 rfl rfl ?_
  refine wa_aload_n 10 1 hC dX8_copyFrom_9 rfl 1 rfl rfl ?_
  refine wa_getIc 13 hC ho1 sh8_1 rfl flX8_29 dX8_copyFrom_10 rfl ?_
  obtain ⟨A_2, eA_2, h⟩ := ltb_some h
  refine wa_putIc 16 hC ho nk8 eA_2 sh8_1 rfl fpX8_29 dX8_copyFrom_13 rfl ?_
  refine wa_aload_n 17 0 hC dX8_copyFrom_16 rfl 0 rfl rfl ?_
  refine wa_aload_n 18 1 hC dX8_copyFrom_17 rfl 1 rfl rfl ?_
  refine wa_getIc 21 hC ho1 sh8_2 rfl flX8_32 dX8_copyFrom_18 rfl ?_
  obtain ⟨A_3, eA_3, h⟩ := ltb_some h
  refine wa_putIc 24 hC ho nk8 eA_3 sh8_2 rfl fpX8_32 dX8_copyFrom_21 rfl ?_
  refine wa_aload_n 25 0 hC dX8_copyFrom_24 rfl 0 rfl rfl ?_
  refine wa_aload_n 26 1 hC dX8_copyFrom_25 rfl 1 rfl rfl ?_
  refine wa_getIc 29 hC ho1 sh8_3 rfl flX8_35 dX8_copyFrom_26 rfl ?_
  obtain ⟨A_4, eA_4, h⟩ := ltb_some h
  refine wa_putIc 32 hC ho nk8 eA_4 sh8_3 rfl fpX8_35 dX8_copyFrom_29 rfl ?_
  refine wa_aload_n 33 0 hC dX8_copyFrom_32 rfl 0 rfl rfl ?_
  refine wa_aload_n 34 1 hC dX8_copyFrom_33 rfl 1 rfl rfl ?_
  refine wa_getIc 37 hC ho1 sh8_4 rfl flX8_38 dX8_copyFrom_34 rfl ?_
  obtain ⟨A_5, eA_5, h⟩ := ltb_some h
  refine wa_putIc 40 hC ho nk8 eA_5 sh8_4 rfl fpX8_38 dX8_copyFrom_37 rfl ?_
  refine wa_aload_n 41 0 hC dX8_copyFrom_40 rfl 0 rfl rfl ?_
  refine wa_aload_n 42 1 hC dX8_copyFrom_41 rfl 1 rfl rfl ?_
  refine wa_getIc 45 hC ho1 sh8_5 rfl flX8_9 dX8_copyFrom_42 rfl ?_
  obtain ⟨A_6, eA_6, h⟩ := ltb_some h
  refine wa_putIc 48 hC ho nk8 eA_6 sh8_5 rfl fpX8_9 dX8_copyFrom_45 rfl ?_
  refine wa_aload_n 49 0 hC dX8_copyFrom_48 rfl 0 rfl rfl ?_
  refine wa_aload_n 50 1 hC dX8_copyFrom_49 rfl 1 rfl rfl ?_
  refine wa_getIc 53 hC ho1 sh8_6 rfl flX8_54 dX8_copyFrom_50 rfl ?_
  obtain ⟨A_7, eA_7, h⟩ := ltb_some h
  refine wa_putIc 56 hC ho nk8 eA_7 sh8_6 rfl fpX8_54 dX8_copyFrom_53 rfl ?_
  refine wa_aload_n 57 1 hC dX8_copyFrom_56 rfl 1 rfl rfl ?_
  refine wa_getR 60 hC ho1 (sr8_7 _) flX8_15 dX8_copyFrom_57 rfl ?_
  refine wa_iconst 61 hC dX8_copyFrom_60 kc_0 rfl ?_
  refine wa_aload_n 62 0 hC dX8_copyFrom_61 rfl 0 rfl rfl ?_
  refine wa_getR 65 hC ho (sr8_7 _) flX8_15 dX8_copyFrom_62 rfl ?_
  refine wa_iconst 66 hC dX8_copyFrom_65 kc_0 rfl ?_
  refine wa_aload_n 67 0 hC dX8_copyFrom_66 rfl 0 rfl rfl ?_
  refine wa_getR 70 hC ho (sr8_7 _) flX8_15 dX8_copyFrom_67 rfl ?_
  refine wa_alen 71 hC (vc24 hVC ho) (a := 0) (by decide) rfl len_60 dX8_copyFrom_70 rfl ?_
  obtain ⟨g_9, h⟩ := gd_some h
  obtain ⟨A_8, eA_8, h⟩ := ltb_some h
  refine wa_copyI 74 hC acX8_57 (vc24 hVC ho1) (vc24 hVC ho) (of_decide_eq_true g_9) nk24 ar24 rfl (by decide) (by decide) eA_8 (by decide) (Nat.le_of_ble_eq_true rfl) dX8_copyFrom_71 rfl ?_
  refine wa_aload_n 75 1 hC dX8_copyFrom_74 rfl 1 rfl rfl ?_
  refine wa_getR 78 hC ho1 (sr8_8 _) flX8_19 dX8_copyFrom_75 rfl ?_
  refine wa_iconst 79 hC dX8_copyFrom_78 kc_0 rfl ?_
  refine wa_aload_n 80 0 hC dX8_copyFrom_79 rfl 0 rfl rfl ?_
  refine wa_getR 83 hC ho (sr8_8 _) flX8_19 dX8_copyFrom_80 rfl ?_
  refine wa_iconst 84 hC dX8_copyFrom_83 kc_0 rfl ?_
  refine wa_aload_n 85 0 hC dX8_copyFrom_84 rfl 0 rfl rfl ?_
  refine wa_getR 88 hC ho (sr8_8 _) flX8_19 dX8_copyFrom_85 rfl ?_
  refine wa_alen 89 hC (vc25 hVC ho) (a := 1) (by decide) rfl len_72 dX8_copyFrom_88 rfl ?_
  obtain ⟨g_11, h⟩ := gd_some h
  obtain ⟨A_10, eA_10, h⟩ := ltb_some h
  refine wa_copyJ 92 hC acX8_57 (vc25 hVC ho1) (vc25 hVC ho) (of_decide_eq_true g_11) ar25 rfl (by decide) (by decide) eA_10 (by decide) (Nat.le_of_ble_eq_true rfl) dX8_copyFrom_89 rfl ?_
  refine wa_aload_n 93 1 hC dX8_copyFrom_92 rfl 1 rfl rfl ?_
  refine wa_getR 96 hC ho1 (sr8_9 _) flX8_23 dX8_copyFrom_93 rfl ?_
  refine wa_iconst 97 hC dX8_copyFrom_96 kc_0 rfl ?_
  refine wa_aload_n 98 0 hC dX8_copyFrom_97 rfl 0 rfl rfl ?_
  refine wa_getR 101 hC ho (sr8_9 _) flX8_23 dX8_copyFrom_98 rfl ?_
  refine wa_iconst 102 hC dX8_copyFrom_101 kc_0 rfl ?_
  refine wa_aload_n 103 0 hC dX8_copyFrom_102 rfl 0 rfl rfl ?_
  refine wa_getR 106 hC ho (sr8_9 _) flX8_23 dX8_copyFrom_103 rfl ?_
  refine wa_alen 107 hC (vc26 hVC ho) (a := 1) (by decide) rfl len_6 dX8_copyFrom_106 rfl ?_
  obtain ⟨g_13, h⟩ := gd_some h
  obtain ⟨A_12, eA_12, h⟩ := ltb_some h
  refine wa_copyJ 110 hC acX8_57 (vc26 hVC ho1) (vc26 hVC ho) (of_decide_eq_true g_13) ar26 rfl (by decide) (by decide) eA_12 (by decide) (Nat.le_of_ble_eq_true rfl) dX8_copyFrom_107 rfl ?_
  exact wa_vret hC hQ (jA (sm0 h)) dX8_copyFrom_110
set_option maxRecDepth 20000 in
theorem wX0_copyFrom_L64 {E : eU} {G : gU} {ρ : Nat → Nat → Nat} {V : Nat → Nat → Prop} {Z : sM} {A' : sM} (o0 : Nat) (o1 : Nat) {k93 : sM → Option (sM)} (hC : CX E G cX0_copyFrom 3 RX0 none 3 0 0) (hVC : VC V) (ho0 : V 0 o0) (ho1 : V 0 o1) (hk93 : ∀ (A : sM), k93 A = some A' → WA E G ρ V 0 0 (J A Z) 93 [] []) : ∀ (n : Nat) (x2 : Int32) (A : sM), fX0_copyFrom_L64 o0 o1 k93 n x2 A = some A' → WA E G ρ V 0 0 (J A Z) 64 [(0, .ref (ρ 0 o0)), (1, .ref (ρ 0 o1)), (2, .int x2)] [] := by
  intro n
  induction n with
  | zero =>
    intro x2 A h
    rw [fX0_copyFrom_L64] at h
    cases h
  | succ n ih =>
    intro x2 A h
    rw [fX0_copyFrom_L64] at h
    refine wa_iload_n 65 2 hC dX0_copyFrom_64 rfl 2 rfl rfl ?_
    refine wa_aload_n 66 0 hC dX0_copyFrom_65 rfl 0 rfl rfl ?_
    refine wa_getIc 69 hC ho0 sh0_3 rfl flX0_39 dX0_copyFrom_66 rfl ?_
    refine wa_icmp_ge 72 93 hC dX0_copyFrom_69 rfl rfl h (fun h => ?_) (fun h => ?_)
    · refine wa_pick [] rfl ?_
      exact hk93 A h
    · refine wa_aload_n 73 0 hC dX0_copyFrom_72 rfl 0 rfl rfl ?_
      refine wa_getR 76 hC ho0 (sr0_2 _) flX0_27 dX0_copyFrom_73 rfl ?_
      refine wa_iload_n 77 2 hC dX0_copyFrom_76 rfl 2 rfl rfl ?_
      obtain ⟨g_1, h⟩ := gd_some h
      refine wa_aald 78 hC (vc11 hVC ho0) g_1 dX0_copyFrom_77 rfl ?_
      refine wa_aload_n 79 1 hC dX0_copyFrom_78 rfl 1 rfl rfl ?_
      refine wa_getR 82 hC ho1 (sr0_2 _) flX0_27 dX0_copyFrom_79 rfl ?_
      refine wa_iload_n 83 2 hC dX0_copyFrom_82 rfl 2 rfl rfl ?_
      obtain ⟨g_2, h⟩ := gd_some h
      refine wa_aald 84 hC (vc11 hVC ho1) g_2 dX0_copyFrom_83 rfl ?_
      obtain ⟨A_3, e_5, h⟩ := bd_some h
      refine wa_callVv 87 hC [.ref (ρ 8 (16 * o1 + x2.toNatClampNeg))] [] knX8_copyFrom mvX0_56 (tX8_copyFrom E.2.1 (16 * o0 + x2.toNatClampNeg) (16 * o1 + x2.toNatClampNeg) A hVC (vc8 hVC ho0 (inb_lt g_1)) (vc8 hVC ho1 (inb_lt g_2)) e_5) (vc8 hVC ho0 (inb_lt g_1)) kc8 (Nat.le_of_ble_eq_true rfl) (Nat.le_of_ble_eq_true rfl) rfl (Nat.le_of_ble_eq_true rfl) dX0_copyFrom_84 rfl le00 rfl ?_
      obtain ⟨x2_4, ex2_4, h⟩ := ltb_some h
      refine wa_iinc (lv' := [(2, .int x2_4), (0, .ref (ρ 0 o0)), (1, .ref (ρ 0 o1))]) 90 2 hC dX0_copyFrom_87 2 rfl (by rw [kc_1]; exact ex2_4) (by decide) rfl rfl ?_
      refine wa_goto 64 hC dX0_copyFrom_90 rfl ?_
      refine wa_pick [1, 2, 0] rfl ?_
      exact ih x2_4 A_3 h
set_option maxRecDepth 20000 in
theorem tX0_copyFrom (l : Launch) {G : gU} {ρ : Nat → Nat → Nat} {V : Nat → Nat → Prop} {Z : sM} (o : Nat) (o1 : Nat) (A : sM) (_ : VC V) (ho : V 0 o) (ho1 : V 0 o1) {A' : sM} (h : fX0_copyFrom o o1 A = some A') : MT l yX0_copyFrom cX0_copyFrom 3 none 3 G ρ V [.ref (ρ 0 o), .ref (ρ 0 o1)] (J A Z) none (J A' Z) := by
  refine vv_enter (lv := [(0, .ref (ρ 0 o)), (1, .ref (ρ 0 o1))]) RX0 rfl (by decide) (Nat.le_of_ble_eq_true rfl) rfl ?_
  intro E hE hC hQ hVC
  subst hE
  rw [fX0_copyFrom] at h
  refine wa_aload_n 1 0 hC dX0_copyFrom_0 rfl 0 rfl rfl ?_
  refine wa_getR 4 hC ho (sr0_0 _) flX0_12 dX0_copyFrom_1 rfl ?_
  refine wa_aload_n 5 1 hC dX0_copyFrom_4 rfl 1 rfl rfl ?_
  refine wa_getR 8 hC ho1 (sr0_0 _) flX0_12 dX0_copyFrom_5 rfl ?_
  obtain ⟨A_1, e_10, h⟩ := bd_some h
  refine wa_callVv 11 hC [.ref (ρ 4 o1)] [] knX4_copyFrom mvX0_32 (tX4_copyFrom E.2.1 o o1 A hVC (vc4 hVC ho) (vc4 hVC ho1) e_10) (vc4 hVC ho) kc4 (Nat.le_of_ble_eq_true rfl) (Nat.le_of_ble_eq_true rfl) rfl (Nat.le_of_ble_eq_true rfl) dX0_copyFrom_8 rfl le00 rfl ?_
  refine wa_aload_n 12 0 hC dX0_copyFrom_11 rfl 0 rfl rfl ?_
  refine wa_getR 15 hC ho (sr0_1 _) flX0_21 dX0_copyFrom_12 rfl ?_
  refine wa_aload_n 16 1 hC dX0_copyFrom_15 rfl 1 rfl rfl ?_
  refine wa_getR 19 hC ho1 (sr0_1 _) flX0_21 dX0_copyFrom_16 rfl ?_
  obtain ⟨A_2, e_9, h⟩ := bd_some h
  refine wa_callVv 22 hC [.ref (ρ 7 o1)] [] knX7_copyFrom mvX0_36 (tX7_copyFrom E.2.1 o o1 A_1 hVC (vc7 hVC ho) (vc7 hVC ho1) e_9) (vc7 hVC ho) kc7 (Nat.le_of_ble_eq_true rfl) (Nat.le_of_ble_eq_true rfl) rfl (Nat.le_of_ble_eq_true rfl) dX0_copyFrom_19 rfl le00 rfl ?_
  refine wa_aload_n 23 0 hC dX0_copyFrom_22 rfl 0 rfl rfl ?_
  refine wa_aload_n 24 1 hC dX0_copyFrom_23 rfl 1 rfl rfl ?_
  refine wa_getIc 27 hC ho1 sh0_3 rfl flX0_39 dX0_copyFrom_24 rfl ?_
  obtain ⟨A_3, eA_3, h⟩ := ltb_some h
  refine wa_putIc 30 hC ho nk0 eA_3 sh0_3 rfl fpX0_39 dX0_copyFrom_27 rfl ?_
  refine wa_aload_n 31 0 hC dX0_copyFrom_30 rfl 0 rfl rfl ?_
  refine wa_aload_n 32 1 hC dX0_copyFrom_31 rfl 1 rfl rfl ?_
  refine wa_getIc 35 hC ho1 sh0_4 rfl flX0_43 dX0_copyFrom_32 rfl ?_
  obtain ⟨A_4, eA_4, h⟩ := ltb_some h
  refine wa_putIc 38 hC ho nk0 eA_4 sh0_4 rfl fpX0_43 dX0_copyFrom_35 rfl ?_
  refine wa_aload_n 39 0 hC dX0_copyFrom_38 rfl 0 rfl rfl ?_
  refine wa_aload_n 40 1 hC dX0_copyFrom_39 rfl 1 rfl rfl ?_
  refine wa_getIc 43 hC ho1 sh0_5 rfl flX0_46 dX0_copyFrom_40 rfl ?_
  obtain ⟨A_5, eA_5, h⟩ := ltb_some h
  refine wa_putIc 46 hC ho nk0 eA_5 sh0_5 rfl fpX0_46 dX0_copyFrom_43 rfl ?_
  refine wa_aload_n 47 0 hC dX0_copyFrom_46 rfl 0 rfl rfl ?_
  refine wa_aload_n 48 1 hC dX0_copyFrom_47 rfl 1 rfl rfl ?_
  refine wa_getLc 51 hC ho1 sh0_6 rfl flX0_49 dX0_copyFrom_48 rfl ?_
  obtain ⟨A_6, eA_6, h⟩ := ltb_some h
  refine wa_putLc 54 hC ho eA_6 sh0_6 rfl fpX0_49 dX0_copyFrom_51 rfl ?_
  refine wa_aload_n 55 0 hC dX0_copyFrom_54 rfl 0 rfl rfl ?_
  refine wa_aload_n 56 1 hC dX0_copyFrom_55 rfl 1 rfl rfl ?_
  refine wa_getLc 59 hC ho1 sh0_7 rfl flX0_53 dX0_copyFrom_56 rfl ?_
  obtain ⟨A_7, eA_7, h⟩ := ltb_some h
  refine wa_putLc 62 hC ho eA_7 sh0_7 rfl fpX0_53 dX0_copyFrom_59 rfl ?_
  refine wa_iconst 63 hC dX0_copyFrom_62 kc_0 rfl ?_
  refine wa_istore_n (lv' := [(2, .int (0 : Int32)), (0, .ref (ρ 0 o)), (1, .ref (ρ 0 o1))]) 64 2 hC dX0_copyFrom_63 rfl rfl (by decide) rfl rfl ?_
  refine wa_pick [1, 2, 0] rfl ?_
  refine wX0_copyFrom_L64 o o1 hC hVC ho ho1 (fun A_8 h => ?_) 10000 (0 : Int32) A_7 h
  exact wa_vret hC hQ (jA (sm0 h)) dX0_copyFrom_93
set_option maxRecDepth 20000 in
theorem tX7_clear (l : Launch) {G : gU} {ρ : Nat → Nat → Nat} {V : Nat → Nat → Prop} {Z : sM} (o : Nat) (A : sM) (_ : VC V) (ho : V 7 o) {A' : sM} (h : fX7_clear o A = some A') : MT l yX7_clear cX7_clear 1 none 2 G ρ V [.ref (ρ 7 o)] (J A Z) none (J A' Z) := by
  refine vv_enter (lv := [(0, .ref (ρ 7 o))]) RX7 rfl (by decide) (Nat.le_of_ble_eq_true rfl) rfl ?_
  intro E hE hC hQ hVC
  subst hE
  rw [fX7_clear] at h
  refine wa_aload_n 1 0 hC dX7_clear_0 rfl 0 rfl rfl ?_
  refine wa_getR 4 hC ho (sr7_0 _) flX7_9 dX7_clear_1 rfl ?_
  refine wa_iconst 5 hC dX7_clear_4 kc_0 rfl ?_
  obtain ⟨A_1, eA_1, h⟩ := ltb_some h
  refine wa_fillI 8 hC afX7_18 (vc22 hVC ho) nk22 ar22 rfl (by decide) eA_1 (Nat.le_of_ble_eq_true rfl) (Nat.le_of_ble_eq_true rfl) dX7_clear_5 rfl le00 ?_
  refine wa_aload_n 9 0 hC dX7_clear_8 rfl 0 rfl rfl ?_
  refine wa_getR 12 hC ho (sr7_1 _) flX7_15 dX7_clear_9 rfl ?_
  refine wa_iconst 13 hC dX7_clear_12 kc_0 rfl ?_
  obtain ⟨A_2, eA_2, h⟩ := ltb_some h
  refine wa_fillI 16 hC afX7_18 (vc23 hVC ho) nk23 ar23 rfl (by decide) eA_2 (Nat.le_of_ble_eq_true rfl) (Nat.le_of_ble_eq_true rfl) dX7_clear_13 rfl le00 ?_
  exact wa_vret hC hQ (jA (sm0 h)) dX7_clear_16
set_option maxRecDepth 20000 in
theorem tX0_beginWith (l : Launch) {G : gU} {ρ : Nat → Nat → Nat} {V : Nat → Nat → Prop} {Z : sM} (o : Nat) (o1 : Nat) (A : sM) (_ : VC V) (ho : V 0 o) (ho1 : V 4 o1) {A' : sM} (h : fX0_beginWith o o1 A = some A') : MT l yX0_beginWith cX0_beginWith 2 none 3 G ρ V [.ref (ρ 0 o), .ref (ρ 4 o1)] (J A Z) none (J A' Z) := by
  refine vv_enter (lv := [(0, .ref (ρ 0 o)), (1, .ref (ρ 4 o1))]) RX0 rfl (by decide) (Nat.le_of_ble_eq_true rfl) rfl ?_
  intro E hE hC hQ hVC
  subst hE
  rw [fX0_beginWith] at h
  refine wa_aload_n 1 0 hC dX0_beginWith_0 rfl 0 rfl rfl ?_
  refine wa_getR 4 hC ho (sr0_0 _) flX0_12 dX0_beginWith_1 rfl ?_
  refine wa_aload_n 5 1 hC dX0_beginWith_4 rfl 1 rfl rfl ?_
  obtain ⟨A_1, e_9, h⟩ := bd_some h
  refine wa_callVv 8 hC [.ref (ρ 4 o1)] [] knX4_copyFrom mvX0_32 (tX4_copyFrom E.2.1 o o1 A hVC (vc4 hVC ho) ho1 e_9) (vc4 hVC ho) kc4 (Nat.le_of_ble_eq_true rfl) (Nat.le_of_ble_eq_true rfl) rfl (Nat.le_of_ble_eq_true rfl) dX0_beginWith_5 rfl le00 rfl ?_
  refine wa_aload_n 9 0 hC dX0_beginWith_8 rfl 0 rfl rfl ?_
  refine wa_getR 12 hC ho (sr0_1 _) flX0_21 dX0_beginWith_9 rfl ?_
  obtain ⟨A_2, e_8, h⟩ := bd_some h
  refine wa_callVv 15 hC [] [] knX7_clear mvX0_59 (tX7_clear E.2.1 o A_1 hVC (vc7 hVC ho) e_8) (vc7 hVC ho) kc7 (Nat.le_of_ble_eq_true rfl) (Nat.le_of_ble_eq_true rfl) rfl (Nat.le_of_ble_eq_true rfl) dX0_beginWith_12 rfl le00 rfl ?_
  refine wa_aload_n 16 0 hC dX0_beginWith_15 rfl 0 rfl rfl ?_
  refine wa_iconst 17 hC dX0_beginWith_16 kc_0 rfl ?_
  obtain ⟨A_3, eA_3, h⟩ := ltb_some h
  refine wa_putIc 20 hC ho nk0 eA_3 sh0_3 rfl fpX0_39 dX0_beginWith_17 rfl ?_
  refine wa_aload_n 21 0 hC dX0_beginWith_20 rfl 0 rfl rfl ?_
  refine wa_iconst 22 hC dX0_beginWith_21 kc_0 rfl ?_
  obtain ⟨A_4, eA_4, h⟩ := ltb_some h
  refine wa_putIc 25 hC ho nk0 eA_4 sh0_4 rfl fpX0_43 dX0_beginWith_22 rfl ?_
  refine wa_aload_n 26 0 hC dX0_beginWith_25 rfl 0 rfl rfl ?_
  refine wa_iconst 27 hC dX0_beginWith_26 kc_0 rfl ?_
  obtain ⟨A_5, eA_5, h⟩ := ltb_some h
  refine wa_putIc 30 hC ho nk0 eA_5 sh0_5 rfl fpX0_46 dX0_beginWith_27 rfl ?_
  refine wa_aload_n 31 0 hC dX0_beginWith_30 rfl 0 rfl rfl ?_
  refine wa_lconst 32 hC dX0_beginWith_31 kl_0 rfl ?_
  obtain ⟨A_6, eA_6, h⟩ := ltb_some h
  refine wa_putLc 35 hC ho eA_6 sh0_6 rfl fpX0_49 dX0_beginWith_32 rfl ?_
  refine wa_aload_n 36 0 hC dX0_beginWith_35 rfl 0 rfl rfl ?_
  refine wa_lconst 37 hC dX0_beginWith_36 kl_0 rfl ?_
  obtain ⟨A_7, eA_7, h⟩ := ltb_some h
  refine wa_putLc 40 hC ho eA_7 sh0_7 rfl fpX0_53 dX0_beginWith_37 rfl ?_
  exact wa_vret hC hQ (jA (sm0 h)) dX0_beginWith_40
set_option maxRecDepth 20000 in
theorem tX4_greatestHolding (l : Launch) {G : gU} {ρ : Nat → Nat → Nat} {V : Nat → Nat → Prop} {Z : sM} (o : Nat) (A : sM) (_ : VC V) (ho : V 4 o) {r : Int32} (h : fX4_greatestHolding o A = some r) : MT l yX4_greatestHolding cX4_greatestHolding 1 (some .int) 2 G ρ V [.ref (ρ 4 o)] (J A Z) (some (.int r)) (J A Z) := by
  refine vv_enter (lv := [(0, .ref (ρ 4 o))]) RX4 rfl (by decide) (Nat.le_of_ble_eq_true rfl) rfl ?_
  intro E hE hC hQ hVC
  subst hE
  rw [fX4_greatestHolding] at h
  refine wa_iconst 1 hC dX4_greatestHolding_0 kc_1 rfl ?_
  refine wa_aload_n 2 0 hC dX4_greatestHolding_1 rfl 0 rfl rfl ?_
  refine wa_getIc 5 hC ho sh4_0 rfl flX4_9 dX4_greatestHolding_2 rfl ?_
  refine wa_aload_n 6 0 hC dX4_greatestHolding_5 rfl 0 rfl rfl ?_
  refine wa_getIc 9 hC ho sh4_3 rfl flX4_21 dX4_greatestHolding_6 rfl ?_
  refine wa_imul 10 hC dX4_greatestHolding_9 rfl ?_
  refine wa_bipush 12 hC dX4_greatestHolding_10 kb_100 rfl ?_
  refine wa_idiv 13 hC dX4_greatestHolding_12 (by decide) rfl ?_
  refine wa_mmax 16 hC maX4_46 (by decide) (Nat.le_of_ble_eq_true rfl) dX4_greatestHolding_13 rfl le00 ?_
  exact wa_iret hC hQ (sm0 h) rfl dX4_greatestHolding_16
set_option maxRecDepth 20000 in
theorem tX8_setAssignment (l : Launch) {G : gU} {ρ : Nat → Nat → Nat} {V : Nat → Nat → Prop} {Z : sM} (o : Nat) (x1 : Int32) (x2 : Int32) (A : sM) (_ : VC V) (ho : V 8 o) {A' : sM} (h : fX8_setAssignment o x1 x2 A = some A') : MT l yX8_setAssignment cX8_setAssignment 3 none 1 G ρ V [.ref (ρ 8 o), .int x1, .int x2] (J A Z) none (J A' Z) := by
  refine vv_enter (lv := [(0, .ref (ρ 8 o)), (1, .int x1), (2, .int x2)]) RX8 rfl (by decide) (Nat.le_of_ble_eq_true rfl) rfl ?_
  intro E hE hC hQ hVC
  subst hE
  rw [fX8_setAssignment] at h
  refine wa_aload_n 1 0 hC dX8_setAssignment_0 rfl 0 rfl rfl ?_
  refine wa_iload_n 2 2 hC dX8_setAssignment_1 rfl 2 rfl rfl ?_
  refine wa_if_le 5 9 hC dX8_setAssignment_2 rfl rfl h (fun h => ?_) (fun h => ?_)
  · refine wa_iconst 10 hC dX8_setAssignment_9 kc_m1 rfl ?_
    obtain ⟨A_1, eA_1, h⟩ := ltb_some h
    refine wa_putIc 13 hC ho nk8 eA_1 sh8_5 rfl fpX8_9 dX8_setAssignment_10 rfl ?_
    refine wa_aload_n 14 0 hC dX8_setAssignment_13 rfl 0 rfl rfl ?_
    refine wa_iload_n 15 2 hC dX8_setAssignment_14 rfl 2 rfl rfl ?_
    obtain ⟨A_2, eA_2, h⟩ := ltb_some h
    refine wa_putIc 18 hC ho nk8 eA_2 sh8_6 rfl fpX8_54 dX8_setAssignment_15 rfl ?_
    exact wa_vret hC hQ (jA (sm0 h)) dX8_setAssignment_18
  · refine wa_iload_n 6 1 hC dX8_setAssignment_5 rfl 1 rfl rfl ?_
    refine wa_goto 10 hC dX8_setAssignment_6 rfl ?_
    obtain ⟨A_3, eA_3, h⟩ := ltb_some h
    refine wa_putIc 13 hC ho nk8 eA_3 sh8_5 rfl fpX8_9 dX8_setAssignment_10 rfl ?_
    refine wa_aload_n 14 0 hC dX8_setAssignment_13 rfl 0 rfl rfl ?_
    refine wa_iload_n 15 2 hC dX8_setAssignment_14 rfl 2 rfl rfl ?_
    obtain ⟨A_4, eA_4, h⟩ := ltb_some h
    refine wa_putIc 18 hC ho nk8 eA_4 sh8_6 rfl fpX8_54 dX8_setAssignment_15 rfl ?_
    exact wa_vret hC hQ (jA (sm0 h)) dX8_setAssignment_18
set_option maxRecDepth 20000 in
theorem tX8_begin (l : Launch) {G : gU} {ρ : Nat → Nat → Nat} {V : Nat → Nat → Prop} {Z : sM} (o : Nat) (x1 : Int32) (x2 : Int32) (x3 : Int32) (A : sM) (_ : VC V) (ho : V 8 o) {A' : sM} (h : fX8_begin o x1 x2 x3 A = some A') : MT l yX8_begin cX8_begin 4 none 2 G ρ V [.ref (ρ 8 o), .int x1, .int x2, .int x3] (J A Z) none (J A' Z) := by
  refine vv_enter (lv := [(0, .ref (ρ 8 o)), (1, .int x1), (2, .int x2), (3, .int x3)]) RX8 rfl (by decide) (Nat.le_of_ble_eq_true rfl) rfl ?_
  intro E hE hC hQ hVC
  subst hE
  rw [fX8_begin] at h
  refine wa_aload_n 1 0 hC dX8_begin_0 rfl 0 rfl rfl ?_
  refine wa_iconst 2 hC dX8_begin_1 kc_0 rfl ?_
  obtain ⟨A_1, eA_1, h⟩ := ltb_some h
  refine wa_putIc 5 hC ho nk8 eA_1 sh8_0 rfl fpX8_26 dX8_begin_2 rfl ?_
  refine wa_aload_n 6 0 hC dX8_begin_5 rfl 0 rfl rfl ?_
  refine wa_iload_n 7 1 hC dX8_begin_6 rfl 1 rfl rfl ?_
  obtain ⟨A_2, eA_2, h⟩ := ltb_some h
  refine wa_putIc 10 hC ho nk8 eA_2 sh8_1 rfl fpX8_29 dX8_begin_7 rfl ?_
  refine wa_aload_n 11 0 hC dX8_begin_10 rfl 0 rfl rfl ?_
  refine wa_iload_n 12 2 hC dX8_begin_11 rfl 2 rfl rfl ?_
  obtain ⟨A_3, eA_3, h⟩ := ltb_some h
  refine wa_putIc 15 hC ho nk8 eA_3 sh8_2 rfl fpX8_32 dX8_begin_12 rfl ?_
  refine wa_aload_n 16 0 hC dX8_begin_15 rfl 0 rfl rfl ?_
  refine wa_iload_n 17 3 hC dX8_begin_16 rfl 3 rfl rfl ?_
  obtain ⟨A_4, eA_4, h⟩ := ltb_some h
  refine wa_putIc 20 hC ho nk8 eA_4 sh8_3 rfl fpX8_35 dX8_begin_17 rfl ?_
  refine wa_aload_n 21 0 hC dX8_begin_20 rfl 0 rfl rfl ?_
  refine wa_iconst 22 hC dX8_begin_21 kc_0 rfl ?_
  obtain ⟨A_5, eA_5, h⟩ := ltb_some h
  refine wa_putIc 25 hC ho nk8 eA_5 sh8_4 rfl fpX8_38 dX8_begin_22 rfl ?_
  refine wa_aload_n 26 0 hC dX8_begin_25 rfl 0 rfl rfl ?_
  refine wa_iconst 27 hC dX8_begin_26 kc_m1 rfl ?_
  refine wa_iconst 28 hC dX8_begin_27 kc_0 rfl ?_
  obtain ⟨A_6, e_10, h⟩ := bd_some h
  refine wa_callVv 31 hC [.int (-1 : Int32), .int (0 : Int32)] [] knX8_setAssignment mvX8_41 (tX8_setAssignment E.2.1 o (-1 : Int32) (0 : Int32) A_5 hVC ho e_10) ho kc8 (Nat.le_of_ble_eq_true rfl) (Nat.le_of_ble_eq_true rfl) rfl (Nat.le_of_ble_eq_true rfl) dX8_begin_28 rfl le00 rfl ?_
  refine wa_aload_n 32 0 hC dX8_begin_31 rfl 0 rfl rfl ?_
  refine wa_getR 35 hC ho (sr8_7 _) flX8_15 dX8_begin_32 rfl ?_
  refine wa_iconst 36 hC dX8_begin_35 kc_0 rfl ?_
  obtain ⟨A_7, eA_7, h⟩ := ltb_some h
  refine wa_fillI 39 hC afX8_45 (vc24 hVC ho) nk24 ar24 rfl (by decide) eA_7 (Nat.le_of_ble_eq_true rfl) (Nat.le_of_ble_eq_true rfl) dX8_begin_36 rfl le00 ?_
  refine wa_aload_n 40 0 hC dX8_begin_39 rfl 0 rfl rfl ?_
  refine wa_getR 43 hC ho (sr8_8 _) flX8_19 dX8_begin_40 rfl ?_
  refine wa_lconst 44 hC dX8_begin_43 kl_0 rfl ?_
  obtain ⟨A_8, eA_8, h⟩ := ltb_some h
  refine wa_fillJ 47 hC afX8_51 (vc25 hVC ho) ar25 rfl (by decide) eA_8 (Nat.le_of_ble_eq_true rfl) (Nat.le_of_ble_eq_true rfl) dX8_begin_44 rfl le00 ?_
  refine wa_aload_n 48 0 hC dX8_begin_47 rfl 0 rfl rfl ?_
  refine wa_getR 51 hC ho (sr8_9 _) flX8_23 dX8_begin_48 rfl ?_
  refine wa_lconst 52 hC dX8_begin_51 kl_0 rfl ?_
  obtain ⟨A_9, eA_9, h⟩ := ltb_some h
  refine wa_fillJ 55 hC afX8_51 (vc26 hVC ho) ar26 rfl (by decide) eA_9 (Nat.le_of_ble_eq_true rfl) (Nat.le_of_ble_eq_true rfl) dX8_begin_52 rfl le00 ?_
  exact wa_vret hC hQ (jA (sm0 h)) dX8_begin_55
set_option maxRecDepth 20000 in
theorem wX0_heldShares_L4 {E : eU} {G : gU} {ρ : Nat → Nat → Nat} {V : Nat → Nat → Prop} {Z : sM} {r : Int32} (o0 : Nat) (A : sM) {k30 : Int32 → Option (Int32)} (hC : CX E G cX0_heldShares 3 RX0 (some .int) 1 0 0) (hVC : VC V) (ho0 : V 0 o0) (hk30 : ∀ (x1 : Int32), k30 x1 = some r → WA E G ρ V 0 0 (J A Z) 30 [(1, .int x1)] []) : ∀ (n : Nat) (x1 : Int32) (x2 : Int32), fX0_heldShares_L4 o0 A k30 n x1 x2 = some r → WA E G ρ V 0 0 (J A Z) 4 [(0, .ref (ρ 0 o0)), (1, .int x1), (2, .int x2)] [] := by
  intro n
  induction n with
  | zero =>
    intro x1 x2 h
    rw [fX0_heldShares_L4] at h
    cases h
  | succ n ih =>
    intro x1 x2 h
    rw [fX0_heldShares_L4] at h
    refine wa_iload_n 5 2 hC dX0_heldShares_4 rfl 2 rfl rfl ?_
    refine wa_aload_n 6 0 hC dX0_heldShares_5 rfl 0 rfl rfl ?_
    refine wa_getIc 9 hC ho0 sh0_3 rfl flX0_39 dX0_heldShares_6 rfl ?_
    refine wa_icmp_ge 12 30 hC dX0_heldShares_9 rfl rfl h (fun h => ?_) (fun h => ?_)
    · refine wa_pick [1] rfl ?_
      exact hk30 x1 h
    · refine wa_iload_n 13 1 hC dX0_heldShares_12 rfl 1 rfl rfl ?_
      refine wa_aload_n 14 0 hC dX0_heldShares_13 rfl 0 rfl rfl ?_
      refine wa_getR 17 hC ho0 (sr0_2 _) flX0_27 dX0_heldShares_14 rfl ?_
      refine wa_iload_n 18 2 hC dX0_heldShares_17 rfl 2 rfl rfl ?_
      obtain ⟨g_1, h⟩ := gd_some h
      refine wa_aald 19 hC (vc11 hVC ho0) g_1 dX0_heldShares_18 rfl ?_
      refine wa_getIc 22 hC (vc8 hVC ho0 (inb_lt g_1)) sh8_4 rfl flX0_69 dX0_heldShares_19 rfl ?_
      refine wa_iadd 23 hC dX0_heldShares_22 rfl ?_
      obtain ⟨x1_2, ex1_2, h⟩ := ltb_some h
      refine wa_istore_n (lv' := [(1, .int x1_2), (0, .ref (ρ 0 o0)), (2, .int x2)]) 24 1 hC dX0_heldShares_23 rfl ex1_2 (by decide) rfl rfl ?_
      obtain ⟨x2_3, ex2_3, h⟩ := ltb_some h
      refine wa_iinc (lv' := [(2, .int x2_3), (1, .int x1_2), (0, .ref (ρ 0 o0))]) 27 2 hC dX0_heldShares_24 2 rfl (by rw [kc_1]; exact ex2_3) (by decide) rfl rfl ?_
      refine wa_goto 4 hC dX0_heldShares_27 rfl ?_
      refine wa_pick [2, 1, 0] rfl ?_
      exact ih x1_2 x2_3 h
set_option maxRecDepth 20000 in
theorem tX0_heldShares (l : Launch) {G : gU} {ρ : Nat → Nat → Nat} {V : Nat → Nat → Prop} {Z : sM} (o : Nat) (A : sM) (_ : VC V) (ho : V 0 o) {r : Int32} (h : fX0_heldShares o A = some r) : MT l yX0_heldShares cX0_heldShares 3 (some .int) 1 G ρ V [.ref (ρ 0 o)] (J A Z) (some (.int r)) (J A Z) := by
  refine vv_enter (lv := [(0, .ref (ρ 0 o))]) RX0 rfl (by decide) (Nat.le_of_ble_eq_true rfl) rfl ?_
  intro E hE hC hQ hVC
  subst hE
  rw [fX0_heldShares] at h
  refine wa_iconst 1 hC dX0_heldShares_0 kc_0 rfl ?_
  refine wa_istore_n (lv' := [(1, .int (0 : Int32)), (0, .ref (ρ 0 o))]) 2 1 hC dX0_heldShares_1 rfl rfl (by decide) rfl rfl ?_
  refine wa_iconst 3 hC dX0_heldShares_2 kc_0 rfl ?_
  refine wa_istore_n (lv' := [(2, .int (0 : Int32)), (1, .int (0 : Int32)), (0, .ref (ρ 0 o))]) 4 2 hC dX0_heldShares_3 rfl rfl (by decide) rfl rfl ?_
  refine wa_pick [2, 1, 0] rfl ?_
  refine wX0_heldShares_L4 o A hC hVC ho (fun x1_1 h => ?_) 10000 (0 : Int32) (0 : Int32) h
  refine wa_iload_n 31 1 hC dX0_heldShares_30 rfl 0 rfl rfl ?_
  exact wa_iret hC hQ (sm0 h) rfl dX0_heldShares_31
set_option maxRecDepth 20000 in
theorem tX0_unheldShares (l : Launch) {G : gU} {ρ : Nat → Nat → Nat} {V : Nat → Nat → Prop} {Z : sM} (o : Nat) (A : sM) (_ : VC V) (ho : V 0 o) {r : Int32} (h : fX0_unheldShares o A = some r) : MT l yX0_unheldShares cX0_unheldShares 1 (some .int) 2 G ρ V [.ref (ρ 0 o)] (J A Z) (some (.int r)) (J A Z) := by
  refine vv_enter (lv := [(0, .ref (ρ 0 o))]) RX0 rfl (by decide) (Nat.le_of_ble_eq_true rfl) rfl ?_
  intro E hE hC hQ hVC
  subst hE
  rw [fX0_unheldShares] at h
  refine wa_aload_n 1 0 hC dX0_unheldShares_0 rfl 0 rfl rfl ?_
  refine wa_getR 4 hC ho (sr0_0 _) flX0_12 dX0_unheldShares_1 rfl ?_
  refine wa_getIc 7 hC (vc4 hVC ho) sh4_0 rfl flX0_72 dX0_unheldShares_4 rfl ?_
  refine wa_aload_n 8 0 hC dX0_unheldShares_7 rfl 0 rfl rfl ?_
  obtain ⟨r_1, e_2, h⟩ := bd_some h
  refine wa_callVi 11 hC [] [.int (A.1 4 0 o 0)] knX0_heldShares mvX0_75 (tX0_heldShares E.2.1 o A hVC ho e_2) ho kc0 (Nat.le_of_ble_eq_true rfl) (Nat.le_of_ble_eq_true rfl) rfl (Nat.le_of_ble_eq_true rfl) dX0_unheldShares_8 rfl le00 rfl ?_
  refine wa_isub 12 hC dX0_unheldShares_11 rfl ?_
  exact wa_iret hC hQ (sm0 h) rfl dX0_unheldShares_12
set_option maxRecDepth 20000 in
theorem tX0_offerShares (l : Launch) {G : gU} {ρ : Nat → Nat → Nat} {V : Nat → Nat → Prop} {Z : sM} (o : Nat) (o1 : Nat) (A : sM) (_ : VC V) (ho : V 0 o) (ho1 : V 8 o1) {A' : sM} (h : fX0_offerShares o o1 A = some A') : MT l yX0_offerShares cX0_offerShares 3 none 3 G ρ V [.ref (ρ 0 o), .ref (ρ 8 o1)] (J A Z) none (J A' Z) := by
  refine vv_enter (lv := [(0, .ref (ρ 0 o)), (1, .ref (ρ 8 o1))]) RX0 rfl (by decide) (Nat.le_of_ble_eq_true rfl) rfl ?_
  intro E hE hC hQ hVC
  subst hE
  rw [fX0_offerShares] at h
  refine wa_aload_n 1 0 hC dX0_offerShares_0 rfl 0 rfl rfl ?_
  obtain ⟨r_1, e_8, h⟩ := bd_some h
  refine wa_callVi 4 hC [] [] knX0_unheldShares mvX0_88 (tX0_unheldShares E.2.1 o A hVC ho e_8) ho kc0 (Nat.le_of_ble_eq_true rfl) (Nat.le_of_ble_eq_true rfl) rfl (Nat.le_of_ble_eq_true rfl) dX0_offerShares_1 rfl le00 rfl ?_
  refine wa_aload_n 5 0 hC dX0_offerShares_4 rfl 0 rfl rfl ?_
  refine wa_getR 8 hC ho (sr0_0 _) flX0_12 dX0_offerShares_5 rfl ?_
  obtain ⟨r_2, e_7, h⟩ := bd_some h
  refine wa_callVi 11 hC [] [.int r_1] knX4_greatestHolding mvX0_91 (tX4_greatestHolding E.2.1 o A hVC (vc4 hVC ho) e_7) (vc4 hVC ho) kc4 (Nat.le_of_ble_eq_true rfl) (Nat.le_of_ble_eq_true rfl) rfl (Nat.le_of_ble_eq_true rfl) dX0_offerShares_8 rfl le00 rfl ?_
  refine wa_mmin 14 hC maX0_94 (by decide) (Nat.le_of_ble_eq_true rfl) dX0_offerShares_11 rfl le00 ?_
  obtain ⟨x2_3, ex2_3, h⟩ := ltb_some h
  refine wa_istore_n (lv' := [(2, .int x2_3), (0, .ref (ρ 0 o)), (1, .ref (ρ 8 o1))]) 15 2 hC dX0_offerShares_14 rfl ex2_3 (by decide) rfl rfl ?_
  refine wa_iload_n 16 2 hC dX0_offerShares_15 rfl 0 rfl rfl ?_
  refine wa_aload_n 17 1 hC dX0_offerShares_16 rfl 2 rfl rfl ?_
  refine wa_getIc 20 hC ho1 sh8_1 rfl flX0_100 dX0_offerShares_17 rfl ?_
  refine wa_mmin 23 hC maX0_94 (by decide) (Nat.le_of_ble_eq_true rfl) dX0_offerShares_20 rfl le00 ?_
  obtain ⟨x2_4, ex2_4, h⟩ := ltb_some h
  refine wa_istore_n (lv' := [(2, .int x2_4), (0, .ref (ρ 0 o)), (1, .ref (ρ 8 o1))]) 24 2 hC dX0_offerShares_23 rfl ex2_4 (by decide) rfl rfl ?_
  refine wa_iload_n 25 2 hC dX0_offerShares_24 rfl 0 rfl rfl ?_
  refine wa_aload_n 26 1 hC dX0_offerShares_25 rfl 2 rfl rfl ?_
  refine wa_getIc 29 hC ho1 sh8_2 rfl flX0_103 dX0_offerShares_26 rfl ?_
  refine wa_icmp_lt 32 42 hC dX0_offerShares_29 rfl rfl h (fun h => ?_) (fun h => ?_)
  · exact wa_vret hC hQ (jA (sm0 h)) dX0_offerShares_42
  · refine wa_aload_n 33 1 hC dX0_offerShares_32 rfl 2 rfl rfl ?_
    refine wa_iconst 34 hC dX0_offerShares_33 kc_1 rfl ?_
    obtain ⟨A_5, eA_5, h⟩ := ltb_some h
    refine wa_putIc 37 hC ho1 nk8 eA_5 sh8_0 rfl fpX0_79 dX0_offerShares_34 rfl ?_
    refine wa_aload_n 38 1 hC dX0_offerShares_37 rfl 2 rfl rfl ?_
    refine wa_iload_n 39 2 hC dX0_offerShares_38 rfl 0 rfl rfl ?_
    obtain ⟨A_6, eA_6, h⟩ := ltb_some h
    refine wa_putIc 42 hC ho1 nk8 eA_6 sh8_4 rfl fpX0_69 dX0_offerShares_39 rfl ?_
    exact wa_vret hC hQ (jA (sm0 h)) dX0_offerShares_42
set_option maxRecDepth 20000 in
theorem wX0_goThroughWaitingList_L9 {E : eU} {G : gU} {ρ : Nat → Nat → Nat} {V : Nat → Nat → Prop} {Z : sM} {A' : sM} (o0 : Nat) (x1 : Int32) {k50 : sM → Option (sM)} (hC : CX E G cX0_goThroughWaitingList 4 RX0 none 4 0 0) (hVC : VC V) (ho0 : V 0 o0) (hk50 : ∀ (A : sM), k50 A = some A' → WA E G ρ V 0 0 (J A Z) 50 [(0, .ref (ρ 0 o0)), (1, .int x1)] []) : ∀ (n : Nat) (x2 : Int32) (A : sM), fX0_goThroughWaitingList_L9 o0 x1 k50 n x2 A = some A' → WA E G ρ V 0 0 (J A Z) 9 [(0, .ref (ρ 0 o0)), (1, .int x1), (2, .int x2)] [] := by
  intro n
  induction n with
  | zero =>
    intro x2 A h
    rw [fX0_goThroughWaitingList_L9] at h
    cases h
  | succ n ih =>
    intro x2 A h
    rw [fX0_goThroughWaitingList_L9] at h
    refine wa_iload_n 10 2 hC dX0_goThroughWaitingList_9 rfl 2 rfl rfl ?_
    refine wa_aload_n 11 0 hC dX0_goThroughWaitingList_10 rfl 0 rfl rfl ?_
    refine wa_getIc 14 hC ho0 sh0_3 rfl flX0_39 dX0_goThroughWaitingList_11 rfl ?_
    refine wa_icmp_ge 17 50 hC dX0_goThroughWaitingList_14 rfl rfl h (fun h => ?_) (fun h => ?_)
    · refine wa_pick [0, 1] rfl ?_
      exact hk50 A h
    · refine wa_aload_n 18 0 hC dX0_goThroughWaitingList_17 rfl 0 rfl rfl ?_
      refine wa_getR 21 hC ho0 (sr0_2 _) flX0_27 dX0_goThroughWaitingList_18 rfl ?_
      refine wa_iload_n 22 2 hC dX0_goThroughWaitingList_21 rfl 2 rfl rfl ?_
      obtain ⟨g_1, h⟩ := gd_some h
      refine wa_aald 23 hC (vc11 hVC ho0) g_1 dX0_goThroughWaitingList_22 rfl ?_
      refine wa_astore_n (lv' := [(3, .ref (ρ 8 (16 * o0 + x2.toNatClampNeg))), (0, .ref (ρ 0 o0)), (1, .int x1), (2, .int x2)]) 24 3 hC dX0_goThroughWaitingList_23 rfl rfl (by decide) rfl rfl ?_
      refine wa_aload_n 25 3 hC dX0_goThroughWaitingList_24 rfl 0 rfl rfl ?_
      refine wa_getIc 28 hC (vc8 hVC ho0 (inb_lt g_1)) sh8_0 rfl flX0_79 dX0_goThroughWaitingList_25 rfl ?_
      obtain ⟨kj_3, ekj_3, h⟩ := ltb_k1 h
      have hkj_3 : ∀ (A_2 : sM), kj_3 A_2 = some A' → WA E G ρ V 0 0 (J A_2 Z) 44 [(0, .ref (ρ 0 o0)), (1, .int x1), (2, .int x2)] [] := by
        intro A_2 h
        rw [ekj_3] at h
        obtain ⟨x2_4, ex2_4, h⟩ := ltb_some h
        refine wa_iinc (lv' := [(2, .int x2_4), (0, .ref (ρ 0 o0)), (1, .int x1)]) 47 2 hC dX0_goThroughWaitingList_44 2 rfl (by rw [kc_1]; exact ex2_4) (by decide) rfl rfl ?_
        refine wa_goto 9 hC dX0_goThroughWaitingList_47 rfl ?_
        refine wa_pick [1, 2, 0] rfl ?_
        exact ih x2_4 A_2 h
      clear ekj_3
      refine wa_if_ne 31 44 hC dX0_goThroughWaitingList_28 rfl rfl h (fun h => ?_) (fun h => ?_)
      · refine wa_pick [1, 2, 3] rfl ?_
        exact hkj_3 A h
      · refine wa_aload_n 32 3 hC dX0_goThroughWaitingList_31 rfl 0 rfl rfl ?_
        refine wa_getIc 35 hC (vc8 hVC ho0 (inb_lt g_1)) sh8_3 rfl flX0_82 dX0_goThroughWaitingList_32 rfl ?_
        refine wa_iload_n 36 1 hC dX0_goThroughWaitingList_35 rfl 2 rfl rfl ?_
        refine wa_icmp_ne 39 44 hC dX0_goThroughWaitingList_36 rfl rfl h (fun h => ?_) (fun h => ?_)
        · refine wa_pick [1, 2, 3] rfl ?_
          exact hkj_3 A h
        · refine wa_aload_n 40 0 hC dX0_goThroughWaitingList_39 rfl 1 rfl rfl ?_
          refine wa_aload_n 41 3 hC dX0_goThroughWaitingList_40 rfl 0 rfl rfl ?_
          obtain ⟨A_5, e_6, h⟩ := bd_some h
          refine wa_callVv 44 hC [.ref (ρ 8 (16 * o0 + x2.toNatClampNeg))] [] knX0_offerShares mvX0_85 (tX0_offerShares E.2.1 o0 (16 * o0 + x2.toNatClampNeg) A hVC ho0 (vc8 hVC ho0 (inb_lt g_1)) e_6) ho0 kc0 (Nat.le_of_ble_eq_true rfl) (Nat.le_of_ble_eq_true rfl) rfl (Nat.le_of_ble_eq_true rfl) dX0_goThroughWaitingList_41 rfl le00 rfl ?_
          refine wa_pick [1, 2, 3] rfl ?_
          exact hkj_3 A_5 h
set_option maxRecDepth 20000 in
theorem wX0_goThroughWaitingList_L3 {E : eU} {G : gU} {ρ : Nat → Nat → Nat} {V : Nat → Nat → Prop} {Z : sM} {A' : sM} (o0 : Nat) {k56 : sM → Option (sM)} (hC : CX E G cX0_goThroughWaitingList 4 RX0 none 4 0 0) (hVC : VC V) (ho0 : V 0 o0) (hk56 : ∀ (A : sM), k56 A = some A' → WA E G ρ V 0 0 (J A Z) 56 [] []) : ∀ (n : Nat) (x1 : Int32) (A : sM), fX0_goThroughWaitingList_L3 o0 k56 n x1 A = some A' → WA E G ρ V 0 0 (J A Z) 3 [(0, .ref (ρ 0 o0)), (1, .int x1)] [] := by
  intro n
  induction n with
  | zero =>
    intro x1 A h
    rw [fX0_goThroughWaitingList_L3] at h
    cases h
  | succ n ih =>
    intro x1 A h
    rw [fX0_goThroughWaitingList_L3] at h
    refine wa_iload_n 4 1 hC dX0_goThroughWaitingList_3 rfl 1 rfl rfl ?_
    refine wa_if_lt 7 56 hC dX0_goThroughWaitingList_4 rfl rfl h (fun h => ?_) (fun h => ?_)
    · refine wa_pick [] rfl ?_
      exact hk56 A h
    · refine wa_iconst 8 hC dX0_goThroughWaitingList_7 kc_0 rfl ?_
      refine wa_istore_n (lv' := [(2, .int (0 : Int32)), (0, .ref (ρ 0 o0)), (1, .int x1)]) 9 2 hC dX0_goThroughWaitingList_8 rfl rfl (by decide) rfl rfl ?_
      refine wa_pick [1, 2, 0] rfl ?_
      refine wX0_goThroughWaitingList_L9 o0 x1 hC hVC ho0 (fun A_1 h => ?_) 10000 (0 : Int32) A h
      obtain ⟨x1_2, ex1_2, h⟩ := ltb_some h
      refine wa_iinc (lv' := [(1, .int x1_2), (0, .ref (ρ 0 o0))]) 53 1 hC dX0_goThroughWaitingList_50 1 rfl (by rw [kc_m1]; exact ex1_2) (by decide) rfl rfl ?_
      refine wa_goto 3 hC dX0_goThroughWaitingList_53 rfl ?_
      refine wa_pick [1, 0] rfl ?_
      exact ih x1_2 A_1 h
set_option maxRecDepth 20000 in
theorem tX0_goThroughWaitingList (l : Launch) {G : gU} {ρ : Nat → Nat → Nat} {V : Nat → Nat → Prop} {Z : sM} (o : Nat) (A : sM) (_ : VC V) (ho : V 0 o) {A' : sM} (h : fX0_goThroughWaitingList o A = some A') : MT l yX0_goThroughWaitingList cX0_goThroughWaitingList 4 none 4 G ρ V [.ref (ρ 0 o)] (J A Z) none (J A' Z) := by
  refine vv_enter (lv := [(0, .ref (ρ 0 o))]) RX0 rfl (by decide) (Nat.le_of_ble_eq_true rfl) rfl ?_
  intro E hE hC hQ hVC
  subst hE
  rw [fX0_goThroughWaitingList] at h
  refine wa_bipush 2 hC dX0_goThroughWaitingList_0 kb_9 rfl ?_
  refine wa_istore_n (lv' := [(1, .int (9 : Int32)), (0, .ref (ρ 0 o))]) 3 1 hC dX0_goThroughWaitingList_2 rfl rfl (by decide) rfl rfl ?_
  refine wa_pick [1, 0] rfl ?_
  refine wX0_goThroughWaitingList_L3 o hC hVC ho (fun A_1 h => ?_) 10000 (9 : Int32) A h
  exact wa_vret hC hQ (jA (sm0 h)) dX0_goThroughWaitingList_56
set_option maxRecDepth 20000 in
theorem tX0_enrol (l : Launch) {G : gU} {ρ : Nat → Nat → Nat} {V : Nat → Nat → Prop} {Z : sM} (o : Nat) (x1 : Int32) (x2 : Int32) (x3 : Int32) (A : sM) (_ : VC V) (ho : V 0 o) {r : Int32} {A' : sM} (h : fX0_enrol o x1 x2 x3 A = some (r, A')) : MT l yX0_enrol cX0_enrol 5 (some .int) 5 G ρ V [.ref (ρ 0 o), .int x1, .int x2, .int x3] (J A Z) (some (.int r)) (J A' Z) := by
  refine vv_enter (lv := [(0, .ref (ρ 0 o)), (1, .int x1), (2, .int x2), (3, .int x3)]) RX0 rfl (by decide) (Nat.le_of_ble_eq_true rfl) rfl ?_
  intro E hE hC hQ hVC
  subst hE
  rw [fX0_enrol] at h
  refine wa_aload_n 1 0 hC dX0_enrol_0 rfl 0 rfl rfl ?_
  refine wa_getIc 4 hC ho sh0_3 rfl flX0_39 dX0_enrol_1 rfl ?_
  obtain ⟨x4_1, ex4_1, h⟩ := ltb_some h
  refine wa_istore (lv' := [(4, .int x4_1), (0, .ref (ρ 0 o)), (1, .int x1), (2, .int x2), (3, .int x3)]) 6 4 hC dX0_enrol_4 ex4_1 (by decide) rfl rfl ?_
  refine wa_iload 8 4 hC dX0_enrol_6 0 rfl rfl ?_
  refine wa_bipush 10 hC dX0_enrol_8 kb_16 rfl ?_
  refine wa_icmp_ge 13 40 hC dX0_enrol_10 rfl rfl h (fun h => ?_) (fun h => ?_)
  · refine wa_iload 42 4 hC dX0_enrol_40 0 rfl rfl ?_
    exact wa_iret hC hQ (sm1 h) (jA (sm2 h)) dX0_enrol_42
  · refine wa_aload_n 14 0 hC dX0_enrol_13 rfl 1 rfl rfl ?_
    refine wa_getR 17 hC ho (sr0_2 _) flX0_27 dX0_enrol_14 rfl ?_
    refine wa_iload 19 4 hC dX0_enrol_17 0 rfl rfl ?_
    obtain ⟨g_2, h⟩ := gd_some h
    refine wa_aald 20 hC (vc11 hVC ho) g_2 dX0_enrol_19 rfl ?_
    refine wa_iload_n 21 1 hC dX0_enrol_20 rfl 2 rfl rfl ?_
    refine wa_iload_n 22 2 hC dX0_enrol_21 rfl 3 rfl rfl ?_
    refine wa_iload_n 23 3 hC dX0_enrol_22 rfl 4 rfl rfl ?_
    obtain ⟨A_3, e_7, h⟩ := bd_some h
    refine wa_callVv 26 hC [.int x1, .int x2, .int x3] [] knX8_begin mvX0_62 (tX8_begin E.2.1 (16 * o + x4_1.toNatClampNeg) x1 x2 x3 A hVC (vc8 hVC ho (inb_lt g_2)) e_7) (vc8 hVC ho (inb_lt g_2)) kc8 (Nat.le_of_ble_eq_true rfl) (Nat.le_of_ble_eq_true rfl) rfl (Nat.le_of_ble_eq_true rfl) dX0_enrol_23 rfl le00 rfl ?_
    refine wa_aload_n 27 0 hC dX0_enrol_26 rfl 1 rfl rfl ?_
    refine wa_dup 28 hC dX0_enrol_27 rfl rfl ?_
    refine wa_getIc 31 hC ho sh0_3 rfl flX0_39 dX0_enrol_28 rfl ?_
    refine wa_iconst 32 hC dX0_enrol_31 kc_1 rfl ?_
    refine wa_iadd 33 hC dX0_enrol_32 rfl ?_
    obtain ⟨A_4, eA_4, h⟩ := ltb_some h
    refine wa_putIc 36 hC ho nk0 eA_4 sh0_3 rfl fpX0_39 dX0_enrol_33 rfl ?_
    refine wa_aload_n 37 0 hC dX0_enrol_36 rfl 1 rfl rfl ?_
    obtain ⟨A_5, e_6, h⟩ := bd_some h
    refine wa_callVv 40 hC [] [] knX0_goThroughWaitingList mvX0_66 (tX0_goThroughWaitingList E.2.1 o A_4 hVC ho e_6) ho kc0 (Nat.le_of_ble_eq_true rfl) (Nat.le_of_ble_eq_true rfl) rfl (Nat.le_of_ble_eq_true rfl) dX0_enrol_37 rfl le00 rfl ?_
    refine wa_iload 42 4 hC dX0_enrol_40 0 rfl rfl ?_
    exact wa_iret hC hQ (sm1 h) (jA (sm2 h)) dX0_enrol_42
set_option maxRecDepth 20000 in
theorem tX8_isActive (l : Launch) {G : gU} {ρ : Nat → Nat → Nat} {V : Nat → Nat → Prop} {Z : sM} (o : Nat) (A : sM) (_ : VC V) (ho : V 8 o) {r : Int32} (h : fX8_isActive o A = some r) : MT l yX8_isActive cX8_isActive 1 (some .boolean) 1 G ρ V [.ref (ρ 8 o)] (J A Z) (some (.int r)) (J A Z) := by
  refine vv_enter (lv := [(0, .ref (ρ 8 o))]) RX8 rfl (by decide) (Nat.le_of_ble_eq_true rfl) rfl ?_
  intro E hE hC hQ hVC
  subst hE
  rw [fX8_isActive] at h
  refine wa_aload_n 1 0 hC dX8_isActive_0 rfl 0 rfl rfl ?_
  refine wa_getIc 4 hC ho sh8_0 rfl flX8_26 dX8_isActive_1 rfl ?_
  refine wa_iconst 5 hC dX8_isActive_4 kc_1 rfl ?_
  refine wa_icmp_ne 8 12 hC dX8_isActive_5 rfl rfl h (fun h => ?_) (fun h => ?_)
  · refine wa_iconst 13 hC dX8_isActive_12 kc_0 rfl ?_
    exact wa_zret hC hQ (sm0 h) rfl rfl dX8_isActive_13
  · refine wa_iconst 9 hC dX8_isActive_8 kc_1 rfl ?_
    refine wa_goto 13 hC dX8_isActive_9 rfl ?_
    exact wa_zret hC hQ (sm0 h) rfl rfl dX8_isActive_13
set_option maxRecDepth 20000 in
theorem wX0_passesOnTo_L5 {E : eU} {G : gU} {ρ : Nat → Nat → Nat} {V : Nat → Nat → Prop} {Z : sM} {r : Int32} (o0 : Nat) (x2 : Int32) (A : sM) {k29 : Option (Int32)} {k47 : Option (Int32)} (hC : CX E G cX0_passesOnTo 5 RX0 (some .boolean) 1 0 0) (hVC : VC V) (ho0 : V 0 o0) (hk29 : k29 = some r → WA E G ρ V 0 0 (J A Z) 29 [] []) (hk47 : k47 = some r → WA E G ρ V 0 0 (J A Z) 47 [] []) : ∀ (n : Nat) (x3 : Int32) (x4 : Int32), fX0_passesOnTo_L5 o0 x2 A k29 k47 n x3 x4 = some r → WA E G ρ V 0 0 (J A Z) 5 [(0, .ref (ρ 0 o0)), (2, .int x2), (3, .int x3), (4, .int x4)] [] := by
  intro n
  induction n with
  | zero =>
    intro x3 x4 h
    rw [fX0_passesOnTo_L5] at h
    cases h
  | succ n ih =>
    intro x3 x4 h
    rw [fX0_passesOnTo_L5] at h
    refine wa_iload 7 4 hC dX0_passesOnTo_5 3 rfl rfl ?_
    refine wa_bipush 9 hC dX0_passesOnTo_7 kb_16 rfl ?_
    refine wa_icmp_ge 12 47 hC dX0_passesOnTo_9 rfl rfl h (fun h => ?_) (fun h => ?_)
    · refine wa_pick [] rfl ?_
      exact hk47 h
    · refine wa_iload_n 13 3 hC dX0_passesOnTo_12 rfl 2 rfl rfl ?_
      refine wa_if_lt 16 47 hC dX0_passesOnTo_13 rfl rfl h (fun h => ?_) (fun h => ?_)
      · refine wa_pick [] rfl ?_
        exact hk47 h
      · refine wa_iload_n 17 3 hC dX0_passesOnTo_16 rfl 2 rfl rfl ?_
        refine wa_aload_n 18 0 hC dX0_passesOnTo_17 rfl 0 rfl rfl ?_
        refine wa_getIc 21 hC ho0 sh0_3 rfl flX0_39 dX0_passesOnTo_18 rfl ?_
        refine wa_icmp_ge 24 47 hC dX0_passesOnTo_21 rfl rfl h (fun h => ?_) (fun h => ?_)
        · refine wa_pick [] rfl ?_
          exact hk47 h
        · refine wa_iload_n 25 3 hC dX0_passesOnTo_24 rfl 2 rfl rfl ?_
          refine wa_iload_n 26 2 hC dX0_passesOnTo_25 rfl 1 rfl rfl ?_
          refine wa_icmp_ne 29 31 hC dX0_passesOnTo_26 rfl rfl h (fun h => ?_) (fun h => ?_)
          · refine wa_aload_n 32 0 hC dX0_passesOnTo_31 rfl 0 rfl rfl ?_
            refine wa_getR 35 hC ho0 (sr0_2 _) flX0_27 dX0_passesOnTo_32 rfl ?_
            refine wa_iload_n 36 3 hC dX0_passesOnTo_35 rfl 2 rfl rfl ?_
            obtain ⟨g_1, h⟩ := gd_some h
            refine wa_aald 37 hC (vc11 hVC ho0) g_1 dX0_passesOnTo_36 rfl ?_
            refine wa_getIc 40 hC (vc8 hVC ho0 (inb_lt g_1)) sh8_5 rfl flX0_110 dX0_passesOnTo_37 rfl ?_
            obtain ⟨x3_2, ex3_2, h⟩ := ltb_some h
            refine wa_istore_n (lv' := [(3, .int x3_2), (0, .ref (ρ 0 o0)), (2, .int x2), (4, .int x4)]) 41 3 hC dX0_passesOnTo_40 rfl ex3_2 (by decide) rfl rfl ?_
            obtain ⟨x4_3, ex4_3, h⟩ := ltb_some h
            refine wa_iinc (lv' := [(4, .int x4_3), (3, .int x3_2), (0, .ref (ρ 0 o0)), (2, .int x2)]) 44 4 hC dX0_passesOnTo_41 3 rfl (by rw [kc_1]; exact ex4_3) (by decide) rfl rfl ?_
            refine wa_goto 5 hC dX0_passesOnTo_44 rfl ?_
            refine wa_pick [2, 3, 1, 0] rfl ?_
            exact ih x3_2 x4_3 h
          · refine wa_pick [] rfl ?_
            exact hk29 h
set_option maxRecDepth 20000 in
theorem tX0_passesOnTo (l : Launch) {G : gU} {ρ : Nat → Nat → Nat} {V : Nat → Nat → Prop} {Z : sM} (o : Nat) (x1 : Int32) (x2 : Int32) (A : sM) (_ : VC V) (ho : V 0 o) {r : Int32} (h : fX0_passesOnTo o x1 x2 A = some r) : MT l yX0_passesOnTo cX0_passesOnTo 5 (some .boolean) 1 G ρ V [.ref (ρ 0 o), .int x1, .int x2] (J A Z) (some (.int r)) (J A Z) := by
  refine vv_enter (lv := [(0, .ref (ρ 0 o)), (1, .int x1), (2, .int x2)]) RX0 rfl (by decide) (Nat.le_of_ble_eq_true rfl) rfl ?_
  intro E hE hC hQ hVC
  subst hE
  rw [fX0_passesOnTo] at h
  refine wa_iload_n 1 1 hC dX0_passesOnTo_0 rfl 1 rfl rfl ?_
  refine wa_istore_n (lv' := [(3, .int x1), (0, .ref (ρ 0 o)), (1, .int x1), (2, .int x2)]) 2 3 hC dX0_passesOnTo_1 rfl rfl (by decide) rfl rfl ?_
  refine wa_iconst 3 hC dX0_passesOnTo_2 kc_0 rfl ?_
  refine wa_istore (lv' := [(4, .int (0 : Int32)), (3, .int x1), (0, .ref (ρ 0 o)), (1, .int x1), (2, .int x2)]) 5 4 hC dX0_passesOnTo_3 rfl (by decide) rfl rfl ?_
  refine wa_pick [2, 4, 1, 0] rfl ?_
  refine wX0_passesOnTo_L5 o x2 A hC hVC ho (fun h => ?_) (fun h => ?_) 10000 x1 (0 : Int32) h
  · refine wa_iconst 30 hC dX0_passesOnTo_29 kc_1 rfl ?_
    exact wa_zret hC hQ (sm0 h) rfl rfl dX0_passesOnTo_30
  · refine wa_iconst 48 hC dX0_passesOnTo_47 kc_0 rfl ?_
    exact wa_zret hC hQ (sm0 h) rfl rfl dX0_passesOnTo_48
set_option maxRecDepth 20000 in
theorem wX8_lotSum_L4 {E : eU} {G : gU} {ρ : Nat → Nat → Nat} {V : Nat → Nat → Prop} {Z : sM} {r : Int64} (o0 : Nat) (A : sM) {k28 : Int64 → Option (Int64)} (hC : CX E G cX8_lotSum 4 RX8 (some .long) 1 0 0) (hVC : VC V) (ho0 : V 8 o0) (hk28 : ∀ (x1 : Int64), k28 x1 = some r → WA E G ρ V 0 0 (J A Z) 28 [(1, .long x1)] []) : ∀ (n : Nat) (x1 : Int64) (x3 : Int32), fX8_lotSum_L4 o0 A k28 n x1 x3 = some r → WA E G ρ V 0 0 (J A Z) 4 [(0, .ref (ρ 8 o0)), (1, .long x1), (3, .int x3)] [] := by
  intro n
  induction n with
  | zero =>
    intro x1 x3 h
    rw [fX8_lotSum_L4] at h
    cases h
  | succ n ih =>
    intro x1 x3 h
    rw [fX8_lotSum_L4] at h
    refine wa_iload_n 5 3 hC dX8_lotSum_4 rfl 2 rfl rfl ?_
    refine wa_aload_n 6 0 hC dX8_lotSum_5 rfl 0 rfl rfl ?_
    refine wa_getR 9 hC ho0 (sr8_8 _) flX8_19 dX8_lotSum_6 rfl ?_
    refine wa_alen 10 hC (vc25 hVC ho0) (a := 1) (by decide) rfl len_72 dX8_lotSum_9 rfl ?_
    refine wa_icmp_ge 13 28 hC dX8_lotSum_10 rfl rfl h (fun h => ?_) (fun h => ?_)
    · refine wa_pick [1] rfl ?_
      exact hk28 x1 h
    · refine wa_lload_n 14 1 hC dX8_lotSum_13 rfl 1 rfl rfl ?_
      refine wa_aload_n 15 0 hC dX8_lotSum_14 rfl 0 rfl rfl ?_
      refine wa_getR 18 hC ho0 (sr8_8 _) flX8_19 dX8_lotSum_15 rfl ?_
      refine wa_iload_n 19 3 hC dX8_lotSum_18 rfl 2 rfl rfl ?_
      obtain ⟨g_1, h⟩ := gd_some h
      refine wa_laldc 20 hC (vc25 hVC ho0) ar25 rfl g_1 dX8_lotSum_19 rfl ?_
      refine wa_ladd 21 hC dX8_lotSum_20 rfl ?_
      obtain ⟨x1_2, ex1_2, h⟩ := ltb_some h
      refine wa_lstore_n (lv' := [(1, .long x1_2), (0, .ref (ρ 8 o0)), (3, .int x3)]) 22 1 hC dX8_lotSum_21 rfl ex1_2 (by decide) rfl rfl ?_
      obtain ⟨x3_3, ex3_3, h⟩ := ltb_some h
      refine wa_iinc (lv' := [(3, .int x3_3), (1, .long x1_2), (0, .ref (ρ 8 o0))]) 25 3 hC dX8_lotSum_22 2 rfl (by rw [kc_1]; exact ex3_3) (by decide) rfl rfl ?_
      refine wa_goto 4 hC dX8_lotSum_25 rfl ?_
      refine wa_pick [2, 1, 0] rfl ?_
      exact ih x1_2 x3_3 h
set_option maxRecDepth 20000 in
theorem tX8_lotSum (l : Launch) {G : gU} {ρ : Nat → Nat → Nat} {V : Nat → Nat → Prop} {Z : sM} (o : Nat) (A : sM) (_ : VC V) (ho : V 8 o) {r : Int64} (h : fX8_lotSum o A = some r) : MT l yX8_lotSum cX8_lotSum 4 (some .long) 1 G ρ V [.ref (ρ 8 o)] (J A Z) (some (.long r)) (J A Z) := by
  refine vv_enter (lv := [(0, .ref (ρ 8 o))]) RX8 rfl (by decide) (Nat.le_of_ble_eq_true rfl) rfl ?_
  intro E hE hC hQ hVC
  subst hE
  rw [fX8_lotSum] at h
  refine wa_lconst 1 hC dX8_lotSum_0 kl_0 rfl ?_
  refine wa_lstore_n (lv' := [(1, .long (0 : Int64)), (0, .ref (ρ 8 o))]) 2 1 hC dX8_lotSum_1 rfl rfl (by decide) rfl rfl ?_
  refine wa_iconst 3 hC dX8_lotSum_2 kc_0 rfl ?_
  refine wa_istore_n (lv' := [(3, .int (0 : Int32)), (1, .long (0 : Int64)), (0, .ref (ρ 8 o))]) 4 3 hC dX8_lotSum_3 rfl rfl (by decide) rfl rfl ?_
  refine wa_pick [2, 1, 0] rfl ?_
  refine wX8_lotSum_L4 o A hC hVC ho (fun x1_1 h => ?_) 10000 (0 : Int64) (0 : Int32) h
  refine wa_lload_n 29 1 hC dX8_lotSum_28 rfl 0 rfl rfl ?_
  exact wa_lret hC hQ (sm0 h) rfl dX8_lotSum_29
set_option maxRecDepth 20000 in
theorem tX8_closeAccounts (l : Launch) {G : gU} {ρ : Nat → Nat → Nat} {V : Nat → Nat → Prop} {Z : sM} (o : Nat) (x1 : Int32) (A : sM) (_ : VC V) (ho : V 8 o) {r : Int64} {A' : sM} (h : fX8_closeAccounts o x1 A = some (r, A')) : MT l yX8_closeAccounts cX8_closeAccounts 12 (some .long) 2 G ρ V [.ref (ρ 8 o), .int x1] (J A Z) (some (.long r)) (J A' Z) := by
  refine vv_enter (lv := [(0, .ref (ρ 8 o)), (1, .int x1)]) RX8 rfl (by decide) (Nat.le_of_ble_eq_true rfl) rfl ?_
  intro E hE hC hQ hVC
  subst hE
  rw [fX8_closeAccounts] at h
  refine wa_aload_n 1 0 hC dX8_closeAccounts_0 rfl 0 rfl rfl ?_
  obtain ⟨r_1, e_19, h⟩ := bd_some h
  refine wa_callVl 4 hC [] [] knX8_lotSum mvX8_84 (tX8_lotSum E.2.1 o A hVC ho e_19) ho kc8 (Nat.le_of_ble_eq_true rfl) (Nat.le_of_ble_eq_true rfl) rfl (Nat.le_of_ble_eq_true rfl) dX8_closeAccounts_1 rfl le00 rfl ?_
  refine wa_lstore_n (lv' := [(2, .long r_1), (0, .ref (ρ 8 o)), (1, .int x1)]) 5 2 hC dX8_closeAccounts_4 rfl rfl (by decide) rfl rfl ?_
  refine wa_lload_n 6 2 hC dX8_closeAccounts_5 rfl 0 rfl rfl ?_
  refine wa_aload_n 7 0 hC dX8_closeAccounts_6 rfl 1 rfl rfl ?_
  refine wa_getR 10 hC ho (sr8_9 _) flX8_23 dX8_closeAccounts_7 rfl ?_
  refine wa_iconst 11 hC dX8_closeAccounts_10 kc_0 rfl ?_
  refine wa_laldc 12 hC (vc26 hVC ho) ar26 rfl (by decide) dX8_closeAccounts_11 rfl ?_
  refine wa_mmin_long 15 hC maX8_63 (by decide) (Nat.le_of_ble_eq_true rfl) dX8_closeAccounts_12 rfl le00 ?_
  obtain ⟨x4_3, ex4_3, h⟩ := ltb_some h
  refine wa_lstore (lv' := [(4, .long x4_3), (2, .long r_1), (0, .ref (ρ 8 o)), (1, .int x1)]) 17 4 hC dX8_closeAccounts_15 ex4_3 (by decide) rfl rfl ?_
  refine wa_aload_n 18 0 hC dX8_closeAccounts_17 rfl 2 rfl rfl ?_
  refine wa_getR 21 hC ho (sr8_9 _) flX8_23 dX8_closeAccounts_18 rfl ?_
  refine wa_iconst 22 hC dX8_closeAccounts_21 kc_0 rfl ?_
  refine wa_laldc 23 hC (vc26 hVC ho) ar26 rfl (by decide) dX8_closeAccounts_22 rfl ?_
  refine wa_lload 25 4 hC dX8_closeAccounts_23 0 rfl rfl ?_
  refine wa_lsub 26 hC dX8_closeAccounts_25 rfl ?_
  obtain ⟨x6_5, ex6_5, h⟩ := ltb_some h
  refine wa_lstore (lv' := [(6, .long x6_5), (4, .long x4_3), (2, .long r_1), (0, .ref (ρ 8 o)), (1, .int x1)]) 28 6 hC dX8_closeAccounts_26 ex6_5 (by decide) rfl rfl ?_
  refine wa_lload_n 29 2 hC dX8_closeAccounts_28 rfl 2 rfl rfl ?_
  refine wa_lload 31 4 hC dX8_closeAccounts_29 1 rfl rfl ?_
  refine wa_lsub 32 hC dX8_closeAccounts_31 rfl ?_
  obtain ⟨x8_6, ex8_6, h⟩ := ltb_some h
  refine wa_lstore (lv' := [(8, .long x8_6), (6, .long x6_5), (4, .long x4_3), (2, .long r_1), (0, .ref (ρ 8 o)), (1, .int x1)]) 34 8 hC dX8_closeAccounts_32 ex8_6 (by decide) rfl rfl ?_
  refine wa_lload 36 8 hC dX8_closeAccounts_34 0 rfl rfl ?_
  refine wa_iload_n 37 1 hC dX8_closeAccounts_36 rfl 5 rfl rfl ?_
  refine wa_i2l 38 hC dX8_closeAccounts_37 rfl ?_
  refine wa_lmul 39 hC dX8_closeAccounts_38 rfl ?_
  refine wa_ldc2 42 hC dX8_closeAccounts_39 lcX8_88 rfl ?_
  refine wa_ldiv 43 hC dX8_closeAccounts_42 (by decide) rfl ?_
  obtain ⟨x10_7, ex10_7, h⟩ := ltb_some h
  refine wa_lstore (lv' := [(10, .long x10_7), (8, .long x8_6), (6, .long x6_5), (4, .long x4_3), (2, .long r_1), (0, .ref (ρ 8 o)), (1, .int x1)]) 45 10 hC dX8_closeAccounts_43 ex10_7 (by decide) rfl rfl ?_
  refine wa_aload_n 46 0 hC dX8_closeAccounts_45 rfl 5 rfl rfl ?_
  refine wa_getR 49 hC ho (sr8_8 _) flX8_19 dX8_closeAccounts_46 rfl ?_
  refine wa_lconst 50 hC dX8_closeAccounts_49 kl_0 rfl ?_
  obtain ⟨A_8, eA_8, h⟩ := ltb_some h
  refine wa_fillJ 53 hC afX8_51 (vc25 hVC ho) ar25 rfl (by decide) eA_8 (Nat.le_of_ble_eq_true rfl) (Nat.le_of_ble_eq_true rfl) dX8_closeAccounts_50 rfl le00 ?_
  refine wa_aload_n 54 0 hC dX8_closeAccounts_53 rfl 5 rfl rfl ?_
  refine wa_getR 57 hC ho (sr8_9 _) flX8_23 dX8_closeAccounts_54 rfl ?_
  refine wa_iconst 58 hC dX8_closeAccounts_57 kc_0 rfl ?_
  refine wa_lconst 59 hC dX8_closeAccounts_58 kl_0 rfl ?_
  obtain ⟨A_10, eA_10, h⟩ := ltb_some h
  refine wa_lastc 60 hC (vc26 hVC ho) ar26 rfl (by decide) eA_10 dX8_closeAccounts_59 rfl ?_
  refine wa_aload_n 61 0 hC dX8_closeAccounts_60 rfl 5 rfl rfl ?_
  refine wa_getR 64 hC ho (sr8_9 _) flX8_23 dX8_closeAccounts_61 rfl ?_
  refine wa_iconst 65 hC dX8_closeAccounts_64 kc_2 rfl ?_
  refine wa_dup2 66 hC dX8_closeAccounts_65 rfl rfl rfl ?_
  refine wa_laldc 67 hC (vc26 hVC ho) ar26 rfl (by decide) dX8_closeAccounts_66 rfl ?_
  refine wa_aload_n 68 0 hC dX8_closeAccounts_67 rfl 5 rfl rfl ?_
  refine wa_getR 71 hC ho (sr8_9 _) flX8_23 dX8_closeAccounts_68 rfl ?_
  refine wa_iconst 72 hC dX8_closeAccounts_71 kc_1 rfl ?_
  refine wa_laldc 73 hC (vc26 hVC ho) ar26 rfl (by decide) dX8_closeAccounts_72 rfl ?_
  refine wa_ladd 74 hC dX8_closeAccounts_73 rfl ?_
  obtain ⟨A_14, eA_14, h⟩ := ltb_some h
  refine wa_lastc 75 hC (vc26 hVC ho) ar26 rfl (by decide) eA_14 dX8_closeAccounts_74 rfl ?_
  refine wa_aload_n 76 0 hC dX8_closeAccounts_75 rfl 5 rfl rfl ?_
  refine wa_getR 79 hC ho (sr8_9 _) flX8_23 dX8_closeAccounts_76 rfl ?_
  refine wa_iconst 80 hC dX8_closeAccounts_79 kc_1 rfl ?_
  refine wa_lconst 81 hC dX8_closeAccounts_80 kl_0 rfl ?_
  obtain ⟨A_16, eA_16, h⟩ := ltb_some h
  refine wa_lastc 82 hC (vc26 hVC ho) ar26 rfl (by decide) eA_16 dX8_closeAccounts_81 rfl ?_
  refine wa_aload_n 83 0 hC dX8_closeAccounts_82 rfl 5 rfl rfl ?_
  refine wa_getR 86 hC ho (sr8_9 _) flX8_23 dX8_closeAccounts_83 rfl ?_
  refine wa_iconst 87 hC dX8_closeAccounts_86 kc_3 rfl ?_
  refine wa_lload 89 10 hC dX8_closeAccounts_87 0 rfl rfl ?_
  obtain ⟨A_18, eA_18, h⟩ := ltb_some h
  refine wa_lastc 90 hC (vc26 hVC ho) ar26 rfl (by decide) eA_18 dX8_closeAccounts_89 rfl ?_
  refine wa_lload 92 8 hC dX8_closeAccounts_90 1 rfl rfl ?_
  refine wa_lload 94 10 hC dX8_closeAccounts_92 0 rfl rfl ?_
  refine wa_lsub 95 hC dX8_closeAccounts_94 rfl ?_
  refine wa_lload 97 6 hC dX8_closeAccounts_95 2 rfl rfl ?_
  refine wa_lsub 98 hC dX8_closeAccounts_97 rfl ?_
  exact wa_lret hC hQ (sm1 h) (jA (sm2 h)) dX8_closeAccounts_98
set_option maxRecDepth 20000 in
theorem wX0_endAssignments_L13 {E : eU} {G : gU} {ρ : Nat → Nat → Nat} {V : Nat → Nat → Prop} {Z : sM} {A' : sM} (o0 : Nat) (x1 : Int32) {k51 : sM → Option (sM)} (hC : CX E G cX0_endAssignments 3 RX0 none 2 0 0) (hVC : VC V) (ho0 : V 0 o0) (hk51 : ∀ (A : sM), k51 A = some A' → WA E G ρ V 0 0 (J A Z) 51 [] []) : ∀ (n : Nat) (x2 : Int32) (A : sM), fX0_endAssignments_L13 o0 x1 k51 n x2 A = some A' → WA E G ρ V 0 0 (J A Z) 13 [(0, .ref (ρ 0 o0)), (1, .int x1), (2, .int x2)] [] := by
  intro n
  induction n with
  | zero =>
    intro x2 A h
    rw [fX0_endAssignments_L13] at h
    cases h
  | succ n ih =>
    intro x2 A h
    rw [fX0_endAssignments_L13] at h
    refine wa_iload_n 14 2 hC dX0_endAssignments_13 rfl 2 rfl rfl ?_
    refine wa_aload_n 15 0 hC dX0_endAssignments_14 rfl 0 rfl rfl ?_
    refine wa_getIc 18 hC ho0 sh0_3 rfl flX0_39 dX0_endAssignments_15 rfl ?_
    refine wa_icmp_ge 21 51 hC dX0_endAssignments_18 rfl rfl h (fun h => ?_) (fun h => ?_)
    · refine wa_pick [] rfl ?_
      exact hk51 A h
    · refine wa_aload_n 22 0 hC dX0_endAssignments_21 rfl 0 rfl rfl ?_
      refine wa_getR 25 hC ho0 (sr0_2 _) flX0_27 dX0_endAssignments_22 rfl ?_
      refine wa_iload_n 26 2 hC dX0_endAssignments_25 rfl 2 rfl rfl ?_
      obtain ⟨g_1, h⟩ := gd_some h
      refine wa_aald 27 hC (vc11 hVC ho0) g_1 dX0_endAssignments_26 rfl ?_
      refine wa_getIc 30 hC (vc8 hVC ho0 (inb_lt g_1)) sh8_5 rfl flX0_110 dX0_endAssignments_27 rfl ?_
      refine wa_iload_n 31 1 hC dX0_endAssignments_30 rfl 1 rfl rfl ?_
      obtain ⟨kj_3, ekj_3, h⟩ := ltb_k1 h
      have hkj_3 : ∀ (A_2 : sM), kj_3 A_2 = some A' → WA E G ρ V 0 0 (J A_2 Z) 45 [(0, .ref (ρ 0 o0)), (1, .int x1), (2, .int x2)] [] := by
        intro A_2 h
        rw [ekj_3] at h
        obtain ⟨x2_4, ex2_4, h⟩ := ltb_some h
        refine wa_iinc (lv' := [(2, .int x2_4), (0, .ref (ρ 0 o0)), (1, .int x1)]) 48 2 hC dX0_endAssignments_45 2 rfl (by rw [kc_1]; exact ex2_4) (by decide) rfl rfl ?_
        refine wa_goto 13 hC dX0_endAssignments_48 rfl ?_
        refine wa_pick [1, 2, 0] rfl ?_
        exact ih x2_4 A_2 h
      clear ekj_3
      refine wa_icmp_ne 34 45 hC dX0_endAssignments_31 rfl rfl h (fun h => ?_) (fun h => ?_)
      · exact hkj_3 A h
      · refine wa_aload_n 35 0 hC dX0_endAssignments_34 rfl 0 rfl rfl ?_
        refine wa_getR 38 hC ho0 (sr0_2 _) flX0_27 dX0_endAssignments_35 rfl ?_
        refine wa_iload_n 39 2 hC dX0_endAssignments_38 rfl 2 rfl rfl ?_
        obtain ⟨g_5, h⟩ := gd_some h
        refine wa_aald 40 hC (vc11 hVC ho0) g_5 dX0_endAssignments_39 rfl ?_
        refine wa_iconst 41 hC dX0_endAssignments_40 kc_m1 rfl ?_
        refine wa_iconst 42 hC dX0_endAssignments_41 kc_0 rfl ?_
        obtain ⟨A_6, e_7, h⟩ := bd_some h
        refine wa_callVv 45 hC [.int (-1 : Int32), .int (0 : Int32)] [] knX8_setAssignment mvX0_128 (tX8_setAssignment E.2.1 (16 * o0 + x2.toNatClampNeg) (-1 : Int32) (0 : Int32) A hVC (vc8 hVC ho0 (inb_lt g_5)) e_7) (vc8 hVC ho0 (inb_lt g_5)) kc8 (Nat.le_of_ble_eq_true rfl) (Nat.le_of_ble_eq_true rfl) rfl (Nat.le_of_ble_eq_true rfl) dX0_endAssignments_42 rfl le00 rfl ?_
        exact hkj_3 A_6 h
set_option maxRecDepth 20000 in
theorem tX0_endAssignments (l : Launch) {G : gU} {ρ : Nat → Nat → Nat} {V : Nat → Nat → Prop} {Z : sM} (o : Nat) (x1 : Int32) (A : sM) (_ : VC V) (ho : V 0 o) {A' : sM} (h : fX0_endAssignments o x1 A = some A') : MT l yX0_endAssignments cX0_endAssignments 3 none 2 G ρ V [.ref (ρ 0 o), .int x1] (J A Z) none (J A' Z) := by
  refine vv_enter (lv := [(0, .ref (ρ 0 o)), (1, .int x1)]) RX0 rfl (by decide) (Nat.le_of_ble_eq_true rfl) rfl ?_
  intro E hE hC hQ hVC
  subst hE
  rw [fX0_endAssignments] at h
  refine wa_aload_n 1 0 hC dX0_endAssignments_0 rfl 0 rfl rfl ?_
  refine wa_getR 4 hC ho (sr0_2 _) flX0_27 dX0_endAssignments_1 rfl ?_
  refine wa_iload_n 5 1 hC dX0_endAssignments_4 rfl 1 rfl rfl ?_
  obtain ⟨g_1, h⟩ := gd_some h
  refine wa_aald 6 hC (vc11 hVC ho) g_1 dX0_endAssignments_5 rfl ?_
  refine wa_iconst 7 hC dX0_endAssignments_6 kc_m1 rfl ?_
  refine wa_iconst 8 hC dX0_endAssignments_7 kc_0 rfl ?_
  obtain ⟨A_2, e_4, h⟩ := bd_some h
  refine wa_callVv 11 hC [.int (-1 : Int32), .int (0 : Int32)] [] knX8_setAssignment mvX0_128 (tX8_setAssignment E.2.1 (16 * o + x1.toNatClampNeg) (-1 : Int32) (0 : Int32) A hVC (vc8 hVC ho (inb_lt g_1)) e_4) (vc8 hVC ho (inb_lt g_1)) kc8 (Nat.le_of_ble_eq_true rfl) (Nat.le_of_ble_eq_true rfl) rfl (Nat.le_of_ble_eq_true rfl) dX0_endAssignments_8 rfl le00 rfl ?_
  refine wa_iconst 12 hC dX0_endAssignments_11 kc_0 rfl ?_
  refine wa_istore_n (lv' := [(2, .int (0 : Int32)), (0, .ref (ρ 0 o)), (1, .int x1)]) 13 2 hC dX0_endAssignments_12 rfl rfl (by decide) rfl rfl ?_
  refine wa_pick [1, 2, 0] rfl ?_
  refine wX0_endAssignments_L13 o x1 hC hVC ho (fun A_3 h => ?_) 10000 (0 : Int32) A_2 h
  exact wa_vret hC hQ (jA (sm0 h)) dX0_endAssignments_51
set_option maxRecDepth 20000 in
theorem tX0_letGo (l : Launch) {G : gU} {ρ : Nat → Nat → Nat} {V : Nat → Nat → Prop} {Z : sM} (o : Nat) (x1 : Int32) (A : sM) (_ : VC V) (ho : V 0 o) {A' : sM} (h : fX0_letGo o x1 A = some A') : MT l yX0_letGo cX0_letGo 4 none 5 G ρ V [.ref (ρ 0 o), .int x1] (J A Z) none (J A' Z) := by
  refine vv_enter (lv := [(0, .ref (ρ 0 o)), (1, .int x1)]) RX0 rfl (by decide) (Nat.le_of_ble_eq_true rfl) rfl ?_
  intro E hE hC hQ hVC
  subst hE
  rw [fX0_letGo] at h
  refine wa_aload_n 1 0 hC dX0_letGo_0 rfl 0 rfl rfl ?_
  refine wa_getR 4 hC ho (sr0_2 _) flX0_27 dX0_letGo_1 rfl ?_
  refine wa_iload_n 5 1 hC dX0_letGo_4 rfl 1 rfl rfl ?_
  obtain ⟨g_1, h⟩ := gd_some h
  refine wa_aald 6 hC (vc11 hVC ho) g_1 dX0_letGo_5 rfl ?_
  refine wa_astore_n (lv' := [(2, .ref (ρ 8 (16 * o + x1.toNatClampNeg))), (0, .ref (ρ 0 o)), (1, .int x1)]) 7 2 hC dX0_letGo_6 rfl rfl (by decide) rfl rfl ?_
  refine wa_aload_n 8 2 hC dX0_letGo_7 rfl 0 rfl rfl ?_
  obtain ⟨r_2, e_13, h⟩ := bd_some h
  refine wa_callVi 11 hC [] [] knX8_isActive mvX0_113 (tX8_isActive E.2.1 (16 * o + x1.toNatClampNeg) A hVC (vc8 hVC ho (inb_lt g_1)) e_13) (vc8 hVC ho (inb_lt g_1)) kc8 (Nat.le_of_ble_eq_true rfl) (Nat.le_of_ble_eq_true rfl) rfl (Nat.le_of_ble_eq_true rfl) dX0_letGo_8 rfl le00 rfl ?_
  refine wa_istore_n (lv' := [(3, .int r_2), (2, .ref (ρ 8 (16 * o + x1.toNatClampNeg))), (0, .ref (ρ 0 o)), (1, .int x1)]) 12 3 hC dX0_letGo_11 rfl rfl (by decide) rfl rfl ?_
  refine wa_aload_n 13 2 hC dX0_letGo_12 rfl 1 rfl rfl ?_
  refine wa_iconst 14 hC dX0_letGo_13 kc_2 rfl ?_
  obtain ⟨A_3, eA_3, h⟩ := ltb_some h
  refine wa_putIc 17 hC (vc8 hVC ho (inb_lt g_1)) nk8 eA_3 sh8_0 rfl fpX0_79 dX0_letGo_14 rfl ?_
  refine wa_iload_n 18 3 hC dX0_letGo_17 rfl 0 rfl rfl ?_
  refine wa_if_eq 21 55 hC dX0_letGo_18 rfl rfl h (fun h => ?_) (fun h => ?_)
  · exact wa_vret hC hQ (jA (sm0 h)) dX0_letGo_55
  · refine wa_aload_n 22 0 hC dX0_letGo_21 rfl 2 rfl rfl ?_
    refine wa_dup 23 hC dX0_letGo_22 rfl rfl ?_
    refine wa_getLc 26 hC ho sh0_6 rfl flX0_49 dX0_letGo_23 rfl ?_
    refine wa_aload_n 27 2 hC dX0_letGo_26 rfl 1 rfl rfl ?_
    refine wa_aload_n 28 0 hC dX0_letGo_27 rfl 2 rfl rfl ?_
    refine wa_getR 31 hC ho (sr0_0 _) flX0_12 dX0_letGo_28 rfl ?_
    refine wa_getIc 34 hC (vc4 hVC ho) sh4_2 rfl flX0_117 dX0_letGo_31 rfl ?_
    obtain ⟨r_5, A_4, e_12, h⟩ := bd2_some h
    refine wa_callVl 37 hC [.int (A_3.1 4 2 o 0)] [.long (A_3.2 0 6 o 0), .ref (ρ 0 o)] knX8_closeAccounts mvX0_120 (tX8_closeAccounts E.2.1 (16 * o + x1.toNatClampNeg) (A_3.1 4 2 o 0) A_3 hVC (vc8 hVC ho (inb_lt g_1)) e_12) (vc8 hVC ho (inb_lt g_1)) kc8 (Nat.le_of_ble_eq_true rfl) (Nat.le_of_ble_eq_true rfl) rfl (Nat.le_of_ble_eq_true rfl) dX0_letGo_34 rfl le00 rfl ?_
    refine wa_ladd 38 hC dX0_letGo_37 rfl ?_
    obtain ⟨A_6, eA_6, h⟩ := ltb_some h
    refine wa_putLc 41 hC ho eA_6 sh0_6 rfl fpX0_49 dX0_letGo_38 rfl ?_
    refine wa_aload_n 42 2 hC dX0_letGo_41 rfl 1 rfl rfl ?_
    refine wa_iconst 43 hC dX0_letGo_42 kc_0 rfl ?_
    obtain ⟨A_7, eA_7, h⟩ := ltb_some h
    refine wa_putIc 46 hC (vc8 hVC ho (inb_lt g_1)) nk8 eA_7 sh8_4 rfl fpX0_69 dX0_letGo_43 rfl ?_
    refine wa_aload_n 47 0 hC dX0_letGo_46 rfl 2 rfl rfl ?_
    refine wa_iload_n 48 1 hC dX0_letGo_47 rfl 3 rfl rfl ?_
    obtain ⟨A_8, e_11, h⟩ := bd_some h
    refine wa_callVv 51 hC [.int x1] [] knX0_endAssignments mvX0_124 (tX0_endAssignments E.2.1 o x1 A_7 hVC ho e_11) ho kc0 (Nat.le_of_ble_eq_true rfl) (Nat.le_of_ble_eq_true rfl) rfl (Nat.le_of_ble_eq_true rfl) dX0_letGo_48 rfl le00 rfl ?_
    refine wa_aload_n 52 0 hC dX0_letGo_51 rfl 2 rfl rfl ?_
    obtain ⟨A_9, e_10, h⟩ := bd_some h
    refine wa_callVv 55 hC [] [] knX0_goThroughWaitingList mvX0_66 (tX0_goThroughWaitingList E.2.1 o A_8 hVC ho e_10) ho kc0 (Nat.le_of_ble_eq_true rfl) (Nat.le_of_ble_eq_true rfl) rfl (Nat.le_of_ble_eq_true rfl) dX0_letGo_52 rfl le00 rfl ?_
    exact wa_vret hC hQ (jA (sm0 h)) dX0_letGo_55
set_option maxRecDepth 20000 in
theorem tX8_isAheadOf (l : Launch) {G : gU} {ρ : Nat → Nat → Nat} {V : Nat → Nat → Prop} {Z : sM} (o : Nat) (o1 : Nat) (A : sM) (_ : VC V) (ho : V 8 o) (ho1 : V 8 o1) {r : Int32} (h : fX8_isAheadOf o o1 A = some r) : MT l yX8_isAheadOf cX8_isAheadOf 2 (some .boolean) 1 G ρ V [.ref (ρ 8 o), .ref (ρ 8 o1)] (J A Z) (some (.int r)) (J A Z) := by
  refine vv_enter (lv := [(0, .ref (ρ 8 o)), (1, .ref (ρ 8 o1))]) RX8 rfl (by decide) (Nat.le_of_ble_eq_true rfl) rfl ?_
  intro E hE hC hQ hVC
  subst hE
  rw [fX8_isAheadOf] at h
  refine wa_aload_n 1 0 hC dX8_isAheadOf_0 rfl 0 rfl rfl ?_
  refine wa_getIc 4 hC ho sh8_3 rfl flX8_35 dX8_isAheadOf_1 rfl ?_
  refine wa_aload_n 5 1 hC dX8_isAheadOf_4 rfl 1 rfl rfl ?_
  refine wa_getIc 8 hC ho1 sh8_3 rfl flX8_35 dX8_isAheadOf_5 rfl ?_
  refine wa_icmp_lt 11 15 hC dX8_isAheadOf_8 rfl rfl h (fun h => ?_) (fun h => ?_)
  · refine wa_iconst 16 hC dX8_isAheadOf_15 kc_0 rfl ?_
    exact wa_zret hC hQ (sm0 h) rfl rfl dX8_isAheadOf_16
  · refine wa_iconst 12 hC dX8_isAheadOf_11 kc_1 rfl ?_
    refine wa_goto 16 hC dX8_isAheadOf_12 rfl ?_
    exact wa_zret hC hQ (sm0 h) rfl rfl dX8_isAheadOf_16
set_option maxRecDepth 20000 in
theorem wX0_placeOnWaitingList_L21 {E : eU} {G : gU} {ρ : Nat → Nat → Nat} {V : Nat → Nat → Prop} {Z : sM} {r : Int32} (o0 : Nat) (x1 : Int32) (o2 : Nat) (A : sM) {k89 : Int32 → Option (Int32)} (hC : CX E G cX0_placeOnWaitingList 6 RX0 (some .int) 2 0 0) (hVC : VC V) (ho0 : V 0 o0) (ho2 : V 8 o2) (hk89 : ∀ (x3 : Int32), k89 x3 = some r → WA E G ρ V 0 0 (J A Z) 89 [(3, .int x3)] []) : ∀ (n : Nat) (x3 : Int32) (x4 : Int32), fX0_placeOnWaitingList_L21 o0 x1 o2 A k89 n x3 x4 = some r → WA E G ρ V 0 0 (J A Z) 21 [(0, .ref (ρ 0 o0)), (1, .int x1), (2, .ref (ρ 8 o2)), (3, .int x3), (4, .int x4)] [] := by
  intro n
  induction n with
  | zero =>
    intro x3 x4 h
    rw [fX0_placeOnWaitingList_L21] at h
    cases h
  | succ n ih =>
    intro x3 x4 h
    rw [fX0_placeOnWaitingList_L21] at h
    refine wa_iload 23 4 hC dX0_placeOnWaitingList_21 4 rfl rfl ?_
    refine wa_aload_n 24 0 hC dX0_placeOnWaitingList_23 rfl 0 rfl rfl ?_
    refine wa_getIc 27 hC ho0 sh0_3 rfl flX0_39 dX0_placeOnWaitingList_24 rfl ?_
    refine wa_icmp_ge 30 89 hC dX0_placeOnWaitingList_27 rfl rfl h (fun h => ?_) (fun h => ?_)
    · refine wa_pick [3] rfl ?_
      exact hk89 x3 h
    · refine wa_aload_n 31 0 hC dX0_placeOnWaitingList_30 rfl 0 rfl rfl ?_
      refine wa_getR 34 hC ho0 (sr0_2 _) flX0_27 dX0_placeOnWaitingList_31 rfl ?_
      refine wa_iload 36 4 hC dX0_placeOnWaitingList_34 4 rfl rfl ?_
      obtain ⟨g_1, h⟩ := gd_some h
      refine wa_aald 37 hC (vc11 hVC ho0) g_1 dX0_placeOnWaitingList_36 rfl ?_
      refine wa_astore (lv' := [(5, .ref (ρ 8 (16 * o0 + x4.toNatClampNeg))), (0, .ref (ρ 0 o0)), (1, .int x1), (2, .ref (ρ 8 o2)), (3, .int x3), (4, .int x4)]) 39 5 hC dX0_placeOnWaitingList_37 rfl (by decide) rfl rfl ?_
      refine wa_iload 41 4 hC dX0_placeOnWaitingList_39 5 rfl rfl ?_
      refine wa_iload_n 42 1 hC dX0_placeOnWaitingList_41 rfl 2 rfl rfl ?_
      obtain ⟨kj_3, ekj_3, h⟩ := ltb_k1 h
      have hkj_3 : ∀ (x3_2 : Int32), kj_3 x3_2 = some r → WA E G ρ V 0 0 (J A Z) 83 [(0, .ref (ρ 0 o0)), (1, .int x1), (2, .ref (ρ 8 o2)), (3, .int x3_2), (4, .int x4)] [] := by
        intro x3_2 h
        rw [ekj_3] at h
        obtain ⟨x4_4, ex4_4, h⟩ := ltb_some h
        refine wa_iinc (lv' := [(4, .int x4_4), (0, .ref (ρ 0 o0)), (1, .int x1), (2, .ref (ρ 8 o2)), (3, .int x3_2)]) 86 4 hC dX0_placeOnWaitingList_83 4 rfl (by rw [kc_1]; exact ex4_4) (by decide) rfl rfl ?_
        refine wa_goto 21 hC dX0_placeOnWaitingList_86 rfl ?_
        refine wa_pick [1, 2, 3, 4, 0] rfl ?_
        exact ih x3_2 x4_4 h
      clear ekj_3
      refine wa_icmp_eq 45 83 hC dX0_placeOnWaitingList_42 rfl rfl h (fun h => ?_) (fun h => ?_)
      · refine wa_pick [1, 2, 3, 4, 5] rfl ?_
        exact hkj_3 x3 h
      · refine wa_aload 47 5 hC dX0_placeOnWaitingList_45 0 rfl rfl ?_
        refine wa_getIc 50 hC (vc8 hVC ho0 (inb_lt g_1)) sh8_0 rfl flX0_79 dX0_placeOnWaitingList_47 rfl ?_
        refine wa_if_ne 53 83 hC dX0_placeOnWaitingList_50 rfl rfl h (fun h => ?_) (fun h => ?_)
        · refine wa_pick [1, 2, 3, 4, 5] rfl ?_
          exact hkj_3 x3 h
        · refine wa_iload 55 4 hC dX0_placeOnWaitingList_53 5 rfl rfl ?_
          refine wa_iload_n 56 1 hC dX0_placeOnWaitingList_55 rfl 2 rfl rfl ?_
          obtain ⟨kj_5, ekj_5, h⟩ := ltb_some h
          have hkj_5 : kj_5 = some r → WA E G ρ V 0 0 (J A Z) 80 [(0, .ref (ρ 0 o0)), (1, .int x1), (2, .ref (ρ 8 o2)), (3, .int x3), (4, .int x4)] [] := by
            intro h
            rw [ekj_5] at h
            obtain ⟨x3_6, ex3_6, h⟩ := ltb_some h
            refine wa_iinc (lv' := [(3, .int x3_6), (0, .ref (ρ 0 o0)), (1, .int x1), (2, .ref (ρ 8 o2)), (4, .int x4)]) 83 3 hC dX0_placeOnWaitingList_80 3 rfl (by rw [kc_1]; exact ex3_6) (by decide) rfl rfl ?_
            refine wa_pick [1, 2, 3, 0, 4] rfl ?_
            exact hkj_3 x3_6 h
          clear ekj_5
          refine wa_icmp_ge 59 71 hC dX0_placeOnWaitingList_56 rfl rfl h (fun h => ?_) (fun h => ?_)
          · refine wa_aload_n 72 2 hC dX0_placeOnWaitingList_71 rfl 3 rfl rfl ?_
            refine wa_aload 74 5 hC dX0_placeOnWaitingList_72 0 rfl rfl ?_
            obtain ⟨r_7, e_8, h⟩ := bd_some h
            refine wa_callVi 77 hC [.ref (ρ 8 (16 * o0 + x4.toNatClampNeg))] [] knX8_isAheadOf mvX0_106 (tX8_isAheadOf E.2.1 o2 (16 * o0 + x4.toNatClampNeg) A hVC ho2 (vc8 hVC ho0 (inb_lt g_1)) e_8) ho2 kc8 (Nat.le_of_ble_eq_true rfl) (Nat.le_of_ble_eq_true rfl) rfl (Nat.le_of_ble_eq_true rfl) dX0_placeOnWaitingList_74 rfl le00 rfl ?_
            refine wa_if_ne 80 83 hC dX0_placeOnWaitingList_77 rfl rfl h (fun h => ?_) (fun h => ?_)
            · refine wa_pick [1, 2, 3, 4, 5] rfl ?_
              exact hkj_3 x3 h
            · refine wa_pick [1, 2, 3, 4, 5] rfl ?_
              exact hkj_5 h
          · refine wa_aload 61 5 hC dX0_placeOnWaitingList_59 0 rfl rfl ?_
            refine wa_aload_n 62 2 hC dX0_placeOnWaitingList_61 rfl 3 rfl rfl ?_
            obtain ⟨r_9, e_10, h⟩ := bd_some h
            refine wa_callVi 65 hC [.ref (ρ 8 o2)] [] knX8_isAheadOf mvX0_106 (tX8_isAheadOf E.2.1 (16 * o0 + x4.toNatClampNeg) o2 A hVC (vc8 hVC ho0 (inb_lt g_1)) ho2 e_10) (vc8 hVC ho0 (inb_lt g_1)) kc8 (Nat.le_of_ble_eq_true rfl) (Nat.le_of_ble_eq_true rfl) rfl (Nat.le_of_ble_eq_true rfl) dX0_placeOnWaitingList_62 rfl le00 rfl ?_
            refine wa_if_eq 68 83 hC dX0_placeOnWaitingList_65 rfl rfl h (fun h => ?_) (fun h => ?_)
            · refine wa_pick [1, 2, 3, 4, 5] rfl ?_
              exact hkj_3 x3 h
            · refine wa_goto 80 hC dX0_placeOnWaitingList_68 rfl ?_
              refine wa_pick [1, 2, 3, 4, 5] rfl ?_
              exact hkj_5 h
set_option maxRecDepth 20000 in
theorem tX0_placeOnWaitingList (l : Launch) {G : gU} {ρ : Nat → Nat → Nat} {V : Nat → Nat → Prop} {Z : sM} (o : Nat) (x1 : Int32) (A : sM) (_ : VC V) (ho : V 0 o) {r : Int32} (h : fX0_placeOnWaitingList o x1 A = some r) : MT l yX0_placeOnWaitingList cX0_placeOnWaitingList 6 (some .int) 2 G ρ V [.ref (ρ 0 o), .int x1] (J A Z) (some (.int r)) (J A Z) := by
  refine vv_enter (lv := [(0, .ref (ρ 0 o)), (1, .int x1)]) RX0 rfl (by decide) (Nat.le_of_ble_eq_true rfl) rfl ?_
  intro E hE hC hQ hVC
  subst hE
  rw [fX0_placeOnWaitingList] at h
  refine wa_aload_n 1 0 hC dX0_placeOnWaitingList_0 rfl 0 rfl rfl ?_
  refine wa_getR 4 hC ho (sr0_2 _) flX0_27 dX0_placeOnWaitingList_1 rfl ?_
  refine wa_iload_n 5 1 hC dX0_placeOnWaitingList_4 rfl 1 rfl rfl ?_
  obtain ⟨g_1, h⟩ := gd_some h
  refine wa_aald 6 hC (vc11 hVC ho) g_1 dX0_placeOnWaitingList_5 rfl ?_
  refine wa_astore_n (lv' := [(2, .ref (ρ 8 (16 * o + x1.toNatClampNeg))), (0, .ref (ρ 0 o)), (1, .int x1)]) 7 2 hC dX0_placeOnWaitingList_6 rfl rfl (by decide) rfl rfl ?_
  refine wa_aload_n 8 2 hC dX0_placeOnWaitingList_7 rfl 0 rfl rfl ?_
  refine wa_getIc 11 hC (vc8 hVC ho (inb_lt g_1)) sh8_0 rfl flX0_79 dX0_placeOnWaitingList_8 rfl ?_
  refine wa_if_eq 14 16 hC dX0_placeOnWaitingList_11 rfl rfl h (fun h => ?_) (fun h => ?_)
  · refine wa_iconst 17 hC dX0_placeOnWaitingList_16 kc_0 rfl ?_
    refine wa_istore_n (lv' := [(3, .int (0 : Int32)), (2, .ref (ρ 8 (16 * o + x1.toNatClampNeg))), (0, .ref (ρ 0 o)), (1, .int x1)]) 18 3 hC dX0_placeOnWaitingList_17 rfl rfl (by decide) rfl rfl ?_
    refine wa_iconst 19 hC dX0_placeOnWaitingList_18 kc_0 rfl ?_
    refine wa_istore (lv' := [(4, .int (0 : Int32)), (3, .int (0 : Int32)), (2, .ref (ρ 8 (16 * o + x1.toNatClampNeg))), (0, .ref (ρ 0 o)), (1, .int x1)]) 21 4 hC dX0_placeOnWaitingList_19 rfl (by decide) rfl rfl ?_
    refine wa_pick [3, 4, 2, 1, 0] rfl ?_
    refine wX0_placeOnWaitingList_L21 o x1 (16 * o + x1.toNatClampNeg) A hC hVC ho (vc8 hVC ho (inb_lt g_1)) (fun x3_2 h => ?_) 10000 (0 : Int32) (0 : Int32) h
    refine wa_iload_n 90 3 hC dX0_placeOnWaitingList_89 rfl 0 rfl rfl ?_
    exact wa_iret hC hQ (sm0 h) rfl dX0_placeOnWaitingList_90
  · refine wa_iconst 15 hC dX0_placeOnWaitingList_14 kc_m1 rfl ?_
    exact wa_iret hC hQ (sm0 h) rfl dX0_placeOnWaitingList_15
set_option maxRecDepth 20000 in
theorem wX0_addDays_L12 {E : eU} {G : gU} {ρ : Nat → Nat → Nat} {V : Nat → Nat → Prop} {Z : sM} {A' : sM} (o0 : Nat) (x1 : Int32) {k54 : sM → Option (sM)} (hC : CX E G cX0_addDays 3 RX0 none 1 0 0) (hVC : VC V) (ho0 : V 0 o0) (hk54 : ∀ (A : sM), k54 A = some A' → WA E G ρ V 0 0 (J A Z) 54 [] []) : ∀ (n : Nat) (x2 : Int32) (A : sM), fX0_addDays_L12 o0 x1 k54 n x2 A = some A' → WA E G ρ V 0 0 (J A Z) 12 [(0, .ref (ρ 0 o0)), (1, .int x1), (2, .int x2)] [] := by
  intro n
  induction n with
  | zero =>
    intro x2 A h
    rw [fX0_addDays_L12] at h
    cases h
  | succ n ih =>
    intro x2 A h
    rw [fX0_addDays_L12] at h
    refine wa_iload_n 13 2 hC dX0_addDays_12 rfl 2 rfl rfl ?_
    refine wa_aload_n 14 0 hC dX0_addDays_13 rfl 0 rfl rfl ?_
    refine wa_getIc 17 hC ho0 sh0_3 rfl flX0_39 dX0_addDays_14 rfl ?_
    refine wa_icmp_ge 20 54 hC dX0_addDays_17 rfl rfl h (fun h => ?_) (fun h => ?_)
    · refine wa_pick [] rfl ?_
      exact hk54 A h
    · refine wa_aload_n 21 0 hC dX0_addDays_20 rfl 0 rfl rfl ?_
      refine wa_getR 24 hC ho0 (sr0_2 _) flX0_27 dX0_addDays_21 rfl ?_
      refine wa_iload_n 25 2 hC dX0_addDays_24 rfl 2 rfl rfl ?_
      obtain ⟨g_1, h⟩ := gd_some h
      refine wa_aald 26 hC (vc11 hVC ho0) g_1 dX0_addDays_25 rfl ?_
      refine wa_getR 29 hC (vc8 hVC ho0 (inb_lt g_1)) (sr8_7 _) flX0_132 dX0_addDays_26 rfl ?_
      refine wa_aload_n 30 0 hC dX0_addDays_29 rfl 0 rfl rfl ?_
      refine wa_getIc 33 hC ho0 sh0_4 rfl flX0_43 dX0_addDays_30 rfl ?_
      refine wa_dup2 34 hC dX0_addDays_33 rfl rfl rfl ?_
      obtain ⟨g_2, h⟩ := gd_some h
      refine wa_ialdc 35 hC (vc24 hVC (vc8 hVC ho0 (inb_lt g_1))) ar24 rfl g_2 dX0_addDays_34 rfl ?_
      refine wa_aload_n 36 0 hC dX0_addDays_35 rfl 0 rfl rfl ?_
      refine wa_getR 39 hC ho0 (sr0_2 _) flX0_27 dX0_addDays_36 rfl ?_
      refine wa_iload_n 40 2 hC dX0_addDays_39 rfl 2 rfl rfl ?_
      obtain ⟨g_3, h⟩ := gd_some h
      refine wa_aald 41 hC (vc11 hVC ho0) g_3 dX0_addDays_40 rfl ?_
      refine wa_getIc 44 hC (vc8 hVC ho0 (inb_lt g_3)) sh8_4 rfl flX0_69 dX0_addDays_41 rfl ?_
      refine wa_iload_n 45 1 hC dX0_addDays_44 rfl 1 rfl rfl ?_
      refine wa_imul 46 hC dX0_addDays_45 rfl ?_
      refine wa_iadd 47 hC dX0_addDays_46 rfl ?_
      obtain ⟨g_4, h⟩ := gd_some h
      obtain ⟨A_5, eA_5, h⟩ := ltb_some h
      refine wa_iastc 48 hC (vc24 hVC (vc8 hVC ho0 (inb_lt g_1))) nk24 ar24 rfl g_4 eA_5 dX0_addDays_47 rfl ?_
      obtain ⟨x2_6, ex2_6, h⟩ := ltb_some h
      refine wa_iinc (lv' := [(2, .int x2_6), (0, .ref (ρ 0 o0)), (1, .int x1)]) 51 2 hC dX0_addDays_48 2 rfl (by rw [kc_1]; exact ex2_6) (by decide) rfl rfl ?_
      refine wa_goto 12 hC dX0_addDays_51 rfl ?_
      refine wa_pick [1, 2, 0] rfl ?_
      exact ih x2_6 A_5 h
set_option maxRecDepth 20000 in
theorem tX0_addDays (l : Launch) {G : gU} {ρ : Nat → Nat → Nat} {V : Nat → Nat → Prop} {Z : sM} (o : Nat) (x1 : Int32) (A : sM) (_ : VC V) (ho : V 0 o) {A' : sM} (h : fX0_addDays o x1 A = some A') : MT l yX0_addDays cX0_addDays 3 none 1 G ρ V [.ref (ρ 0 o), .int x1] (J A Z) none (J A' Z) := by
  refine vv_enter (lv := [(0, .ref (ρ 0 o)), (1, .int x1)]) RX0 rfl (by decide) (Nat.le_of_ble_eq_true rfl) rfl ?_
  intro E hE hC hQ hVC
  subst hE
  rw [fX0_addDays] at h
  refine wa_aload_n 1 0 hC dX0_addDays_0 rfl 0 rfl rfl ?_
  refine wa_dup 2 hC dX0_addDays_1 rfl rfl ?_
  refine wa_getIc 5 hC ho sh0_5 rfl flX0_46 dX0_addDays_2 rfl ?_
  refine wa_iload_n 6 1 hC dX0_addDays_5 rfl 1 rfl rfl ?_
  refine wa_iadd 7 hC dX0_addDays_6 rfl ?_
  obtain ⟨A_1, eA_1, h⟩ := ltb_some h
  refine wa_putIc 10 hC ho nk0 eA_1 sh0_5 rfl fpX0_46 dX0_addDays_7 rfl ?_
  refine wa_iconst 11 hC dX0_addDays_10 kc_0 rfl ?_
  refine wa_istore_n (lv' := [(2, .int (0 : Int32)), (0, .ref (ρ 0 o)), (1, .int x1)]) 12 2 hC dX0_addDays_11 rfl rfl (by decide) rfl rfl ?_
  refine wa_pick [1, 2, 0] rfl ?_
  refine wX0_addDays_L12 o x1 hC hVC ho (fun A_2 h => ?_) 10000 (0 : Int32) A_1 h
  exact wa_vret hC hQ (jA (sm0 h)) dX0_addDays_54
set_option maxRecDepth 20000 in
theorem tX7_cell (l : Launch) {G : gU} {ρ : Nat → Nat → Nat} {V : Nat → Nat → Prop} {Z : sM} (x0 : Int32) (x1 : Int32) (A : sM) (_ : VC V) {r : Int32} (h : fX7_cell x0 x1 A = some r) : MT l yX7_cell cX7_cell 2 (some .int) 1 G ρ V [.int x0, .int x1] (J A Z) (some (.int r)) (J A Z) := by
  refine vv_enter (lv := [(0, .int x0), (1, .int x1)]) RX7 rfl (by decide) (Nat.le_of_ble_eq_true rfl) rfl ?_
  intro E hE hC hQ hVC
  subst hE
  rw [fX7_cell] at h
  refine wa_iload_n 1 0 hC dX7_cell_0 rfl 0 rfl rfl ?_
  refine wa_iconst 2 hC dX7_cell_1 kc_4 rfl ?_
  refine wa_imul 3 hC dX7_cell_2 rfl ?_
  refine wa_iload_n 4 1 hC dX7_cell_3 rfl 1 rfl rfl ?_
  refine wa_iadd 5 hC dX7_cell_4 rfl ?_
  exact wa_iret hC hQ (sm0 h) rfl dX7_cell_5
set_option maxRecDepth 20000 in
theorem wX7_value_22_L5 {E : eU} {G : gU} {ρ : Nat → Nat → Nat} {V : Nat → Nat → Prop} {Z : sM} {r : Int64} (o0 : Nat) (x1 : Int32) (o2 : Nat) (A : sM) {k41 : Int64 → Option (Int64)} (hC : CX E G cX7_value 6 RX7 (some .long) 2 0 0) (hVC : VC V) (ho0 : V 22 o0) (ho2 : V 4 o2) (hk41 : ∀ (x3 : Int64), k41 x3 = some r → WA E G ρ V 0 0 (J A Z) 41 [(3, .long x3)] []) : ∀ (n : Nat) (x3 : Int64) (x5 : Int32), fX7_value_22_L5 o0 x1 o2 A k41 n x3 x5 = some r → WA E G ρ V 0 0 (J A Z) 5 [(0, .ref (ρ 22 o0)), (1, .int x1), (2, .ref (ρ 4 o2)), (3, .long x3), (5, .int x5)] [] := by
  intro n
  induction n with
  | zero =>
    intro x3 x5 h
    rw [fX7_value_22_L5] at h
    cases h
  | succ n ih =>
    intro x3 x5 h
    rw [fX7_value_22_L5] at h
    refine wa_iload 7 5 hC dX7_value_5 4 rfl rfl ?_
    refine wa_aload_n 8 2 hC dX7_value_7 rfl 2 rfl rfl ?_
    refine wa_getIc 11 hC ho2 sh4_4 rfl flX7_34 dX7_value_8 rfl ?_
    refine wa_icmp_ge 14 41 hC dX7_value_11 rfl rfl h (fun h => ?_) (fun h => ?_)
    · refine wa_pick [3] rfl ?_
      exact hk41 x3 h
    · refine wa_lload_n 15 3 hC dX7_value_14 rfl 3 rfl rfl ?_
      refine wa_aload_n 16 0 hC dX7_value_15 rfl 0 rfl rfl ?_
      refine wa_iload_n 17 1 hC dX7_value_16 rfl 1 rfl rfl ?_
      refine wa_iload 19 5 hC dX7_value_17 4 rfl rfl ?_
      obtain ⟨r_1, e_6, h⟩ := bd_some h
      refine wa_callSi 22 hC [.int x1, .int x5] [.ref (ρ 22 o0), .long x3] knX7_cell msX7_40 (tX7_cell E.2.1 x1 x5 A hVC e_6) (Nat.le_of_ble_eq_true rfl) (Nat.le_of_ble_eq_true rfl) rfl (Nat.le_of_ble_eq_true rfl) dX7_value_19 rfl le00 rfl ?_
      obtain ⟨g_2, h⟩ := gd_some h
      refine wa_ialdc 23 hC ho0 ar22 rfl g_2 dX7_value_22 rfl ?_
      refine wa_i2l 24 hC dX7_value_23 rfl ?_
      refine wa_aload_n 25 2 hC dX7_value_24 rfl 2 rfl rfl ?_
      refine wa_getR 28 hC ho2 (sr4_5 _) flX7_44 dX7_value_25 rfl ?_
      refine wa_iload 30 5 hC dX7_value_28 4 rfl rfl ?_
      obtain ⟨g_3, h⟩ := gd_some h
      refine wa_ialdc 31 hC (vc18 hVC ho2) ar18 rfl g_3 dX7_value_30 rfl ?_
      refine wa_i2l 32 hC dX7_value_31 rfl ?_
      refine wa_lmul 33 hC dX7_value_32 rfl ?_
      refine wa_ladd 34 hC dX7_value_33 rfl ?_
      obtain ⟨x3_4, ex3_4, h⟩ := ltb_some h
      refine wa_lstore_n (lv' := [(3, .long x3_4), (0, .ref (ρ 22 o0)), (1, .int x1), (2, .ref (ρ 4 o2)), (5, .int x5)]) 35 3 hC dX7_value_34 rfl ex3_4 (by decide) rfl rfl ?_
      obtain ⟨x5_5, ex5_5, h⟩ := ltb_some h
      refine wa_iinc (lv' := [(5, .int x5_5), (3, .long x3_4), (0, .ref (ρ 22 o0)), (1, .int x1), (2, .ref (ρ 4 o2))]) 38 5 hC dX7_value_35 4 rfl (by rw [kc_1]; exact ex5_5) (by decide) rfl rfl ?_
      refine wa_goto 5 hC dX7_value_38 rfl ?_
      refine wa_pick [2, 3, 4, 1, 0] rfl ?_
      exact ih x3_4 x5_5 h
set_option maxRecDepth 20000 in
theorem tX7_value_22 (l : Launch) {G : gU} {ρ : Nat → Nat → Nat} {V : Nat → Nat → Prop} {Z : sM} (o0 : Nat) (x1 : Int32) (o2 : Nat) (A : sM) (_ : VC V) (ho0 : V 22 o0) (ho2 : V 4 o2) {r : Int64} (h : fX7_value_22 o0 x1 o2 A = some r) : MT l yX7_value cX7_value 6 (some .long) 2 G ρ V [.ref (ρ 22 o0), .int x1, .ref (ρ 4 o2)] (J A Z) (some (.long r)) (J A Z) := by
  refine vv_enter (lv := [(0, .ref (ρ 22 o0)), (1, .int x1), (2, .ref (ρ 4 o2))]) RX7 rfl (by decide) (Nat.le_of_ble_eq_true rfl) rfl ?_
  intro E hE hC hQ hVC
  subst hE
  rw [fX7_value_22] at h
  refine wa_lconst 1 hC dX7_value_0 kl_0 rfl ?_
  refine wa_lstore_n (lv' := [(3, .long (0 : Int64)), (0, .ref (ρ 22 o0)), (1, .int x1), (2, .ref (ρ 4 o2))]) 2 3 hC dX7_value_1 rfl rfl (by decide) rfl rfl ?_
  refine wa_iconst 3 hC dX7_value_2 kc_0 rfl ?_
  refine wa_istore (lv' := [(5, .int (0 : Int32)), (3, .long (0 : Int64)), (0, .ref (ρ 22 o0)), (1, .int x1), (2, .ref (ρ 4 o2))]) 5 5 hC dX7_value_3 rfl (by decide) rfl rfl ?_
  refine wa_pick [2, 3, 4, 1, 0] rfl ?_
  refine wX7_value_22_L5 o0 x1 o2 A hC hVC ho0 ho2 (fun x3_1 h => ?_) 10000 (0 : Int64) (0 : Int32) h
  refine wa_lload_n 42 3 hC dX7_value_41 rfl 0 rfl rfl ?_
  exact wa_lret hC hQ (sm0 h) rfl dX7_value_42
set_option maxRecDepth 20000 in
theorem wX7_value_23_L5 {E : eU} {G : gU} {ρ : Nat → Nat → Nat} {V : Nat → Nat → Prop} {Z : sM} {r : Int64} (o0 : Nat) (x1 : Int32) (o2 : Nat) (A : sM) {k41 : Int64 → Option (Int64)} (hC : CX E G cX7_value 6 RX7 (some .long) 2 0 0) (hVC : VC V) (ho0 : V 23 o0) (ho2 : V 4 o2) (hk41 : ∀ (x3 : Int64), k41 x3 = some r → WA E G ρ V 0 0 (J A Z) 41 [(3, .long x3)] []) : ∀ (n : Nat) (x3 : Int64) (x5 : Int32), fX7_value_23_L5 o0 x1 o2 A k41 n x3 x5 = some r → WA E G ρ V 0 0 (J A Z) 5 [(0, .ref (ρ 23 o0)), (1, .int x1), (2, .ref (ρ 4 o2)), (3, .long x3), (5, .int x5)] [] := by
  intro n
  induction n with
  | zero =>
    intro x3 x5 h
    rw [fX7_value_23_L5] at h
    cases h
  | succ n ih =>
    intro x3 x5 h
    rw [fX7_value_23_L5] at h
    refine wa_iload 7 5 hC dX7_value_5 4 rfl rfl ?_
    refine wa_aload_n 8 2 hC dX7_value_7 rfl 2 rfl rfl ?_
    refine wa_getIc 11 hC ho2 sh4_4 rfl flX7_34 dX7_value_8 rfl ?_
    refine wa_icmp_ge 14 41 hC dX7_value_11 rfl rfl h (fun h => ?_) (fun h => ?_)
    · refine wa_pick [3] rfl ?_
      exact hk41 x3 h
    · refine wa_lload_n 15 3 hC dX7_value_14 rfl 3 rfl rfl ?_
      refine wa_aload_n 16 0 hC dX7_value_15 rfl 0 rfl rfl ?_
      refine wa_iload_n 17 1 hC dX7_value_16 rfl 1 rfl rfl ?_
      refine wa_iload 19 5 hC dX7_value_17 4 rfl rfl ?_
      obtain ⟨r_1, e_6, h⟩ := bd_some h
      refine wa_callSi 22 hC [.int x1, .int x5] [.ref (ρ 23 o0), .long x3] knX7_cell msX7_40 (tX7_cell E.2.1 x1 x5 A hVC e_6) (Nat.le_of_ble_eq_true rfl) (Nat.le_of_ble_eq_true rfl) rfl (Nat.le_of_ble_eq_true rfl) dX7_value_19 rfl le00 rfl ?_
      obtain ⟨g_2, h⟩ := gd_some h
      refine wa_ialdc 23 hC ho0 ar23 rfl g_2 dX7_value_22 rfl ?_
      refine wa_i2l 24 hC dX7_value_23 rfl ?_
      refine wa_aload_n 25 2 hC dX7_value_24 rfl 2 rfl rfl ?_
      refine wa_getR 28 hC ho2 (sr4_5 _) flX7_44 dX7_value_25 rfl ?_
      refine wa_iload 30 5 hC dX7_value_28 4 rfl rfl ?_
      obtain ⟨g_3, h⟩ := gd_some h
      refine wa_ialdc 31 hC (vc18 hVC ho2) ar18 rfl g_3 dX7_value_30 rfl ?_
      refine wa_i2l 32 hC dX7_value_31 rfl ?_
      refine wa_lmul 33 hC dX7_value_32 rfl ?_
      refine wa_ladd 34 hC dX7_value_33 rfl ?_
      obtain ⟨x3_4, ex3_4, h⟩ := ltb_some h
      refine wa_lstore_n (lv' := [(3, .long x3_4), (0, .ref (ρ 23 o0)), (1, .int x1), (2, .ref (ρ 4 o2)), (5, .int x5)]) 35 3 hC dX7_value_34 rfl ex3_4 (by decide) rfl rfl ?_
      obtain ⟨x5_5, ex5_5, h⟩ := ltb_some h
      refine wa_iinc (lv' := [(5, .int x5_5), (3, .long x3_4), (0, .ref (ρ 23 o0)), (1, .int x1), (2, .ref (ρ 4 o2))]) 38 5 hC dX7_value_35 4 rfl (by rw [kc_1]; exact ex5_5) (by decide) rfl rfl ?_
      refine wa_goto 5 hC dX7_value_38 rfl ?_
      refine wa_pick [2, 3, 4, 1, 0] rfl ?_
      exact ih x3_4 x5_5 h
set_option maxRecDepth 20000 in
theorem tX7_value_23 (l : Launch) {G : gU} {ρ : Nat → Nat → Nat} {V : Nat → Nat → Prop} {Z : sM} (o0 : Nat) (x1 : Int32) (o2 : Nat) (A : sM) (_ : VC V) (ho0 : V 23 o0) (ho2 : V 4 o2) {r : Int64} (h : fX7_value_23 o0 x1 o2 A = some r) : MT l yX7_value cX7_value 6 (some .long) 2 G ρ V [.ref (ρ 23 o0), .int x1, .ref (ρ 4 o2)] (J A Z) (some (.long r)) (J A Z) := by
  refine vv_enter (lv := [(0, .ref (ρ 23 o0)), (1, .int x1), (2, .ref (ρ 4 o2))]) RX7 rfl (by decide) (Nat.le_of_ble_eq_true rfl) rfl ?_
  intro E hE hC hQ hVC
  subst hE
  rw [fX7_value_23] at h
  refine wa_lconst 1 hC dX7_value_0 kl_0 rfl ?_
  refine wa_lstore_n (lv' := [(3, .long (0 : Int64)), (0, .ref (ρ 23 o0)), (1, .int x1), (2, .ref (ρ 4 o2))]) 2 3 hC dX7_value_1 rfl rfl (by decide) rfl rfl ?_
  refine wa_iconst 3 hC dX7_value_2 kc_0 rfl ?_
  refine wa_istore (lv' := [(5, .int (0 : Int32)), (3, .long (0 : Int64)), (0, .ref (ρ 23 o0)), (1, .int x1), (2, .ref (ρ 4 o2))]) 5 5 hC dX7_value_3 rfl (by decide) rfl rfl ?_
  refine wa_pick [2, 3, 4, 1, 0] rfl ?_
  refine wX7_value_23_L5 o0 x1 o2 A hC hVC ho0 ho2 (fun x3_1 h => ?_) 10000 (0 : Int64) (0 : Int32) h
  refine wa_lload_n 42 3 hC dX7_value_41 rfl 0 rfl rfl ?_
  exact wa_lret hC hQ (sm0 h) rfl dX7_value_42
set_option maxRecDepth 20000 in
theorem tX7_countedValue (l : Launch) {G : gU} {ρ : Nat → Nat → Nat} {V : Nat → Nat → Prop} {Z : sM} (o : Nat) (x1 : Int32) (o2 : Nat) (A : sM) (_ : VC V) (ho : V 7 o) (ho2 : V 4 o2) {r : Int64} (h : fX7_countedValue o x1 o2 A = some r) : MT l yX7_countedValue cX7_countedValue 3 (some .long) 3 G ρ V [.ref (ρ 7 o), .int x1, .ref (ρ 4 o2)] (J A Z) (some (.long r)) (J A Z) := by
  refine vv_enter (lv := [(0, .ref (ρ 7 o)), (1, .int x1), (2, .ref (ρ 4 o2))]) RX7 rfl (by decide) (Nat.le_of_ble_eq_true rfl) rfl ?_
  intro E hE hC hQ hVC
  subst hE
  rw [fX7_countedValue] at h
  refine wa_aload_n 1 0 hC dX7_countedValue_0 rfl 0 rfl rfl ?_
  refine wa_getR 4 hC ho (sr7_0 _) flX7_9 dX7_countedValue_1 rfl ?_
  refine wa_iload_n 5 1 hC dX7_countedValue_4 rfl 1 rfl rfl ?_
  refine wa_aload_n 6 2 hC dX7_countedValue_5 rfl 2 rfl rfl ?_
  obtain ⟨r_1, e_2, h⟩ := bd_some h
  refine wa_callSl 9 hC [.ref (ρ 22 o), .int x1, .ref (ρ 4 o2)] [] knX7_value msX7_30 (tX7_value_22 E.2.1 o x1 o2 A hVC (vc22 hVC ho) ho2 e_2) (Nat.le_of_ble_eq_true rfl) (Nat.le_of_ble_eq_true rfl) rfl (Nat.le_of_ble_eq_true rfl) dX7_countedValue_6 rfl le00 rfl ?_
  exact wa_lret hC hQ (sm0 h) rfl dX7_countedValue_9
set_option maxRecDepth 20000 in
theorem tX0_valueOfMonth (l : Launch) {G : gU} {ρ : Nat → Nat → Nat} {V : Nat → Nat → Prop} {Z : sM} (o : Nat) (x1 : Int32) (A : sM) (_ : VC V) (ho : V 0 o) {r : Int64} (h : fX0_valueOfMonth o x1 A = some r) : MT l yX0_valueOfMonth cX0_valueOfMonth 2 (some .long) 4 G ρ V [.ref (ρ 0 o), .int x1] (J A Z) (some (.long r)) (J A Z) := by
  refine vv_enter (lv := [(0, .ref (ρ 0 o)), (1, .int x1)]) RX0 rfl (by decide) (Nat.le_of_ble_eq_true rfl) rfl ?_
  intro E hE hC hQ hVC
  subst hE
  rw [fX0_valueOfMonth] at h
  refine wa_aload_n 1 0 hC dX0_valueOfMonth_0 rfl 0 rfl rfl ?_
  refine wa_getR 4 hC ho (sr0_1 _) flX0_21 dX0_valueOfMonth_1 rfl ?_
  refine wa_iload_n 5 1 hC dX0_valueOfMonth_4 rfl 1 rfl rfl ?_
  refine wa_aload_n 6 0 hC dX0_valueOfMonth_5 rfl 0 rfl rfl ?_
  refine wa_getR 9 hC ho (sr0_0 _) flX0_12 dX0_valueOfMonth_6 rfl ?_
  obtain ⟨r_1, e_2, h⟩ := bd_some h
  refine wa_callVl 12 hC [.int x1, .ref (ρ 4 o)] [] knX7_countedValue mvX0_136 (tX7_countedValue E.2.1 o x1 o A hVC (vc7 hVC ho) (vc4 hVC ho) e_2) (vc7 hVC ho) kc7 (Nat.le_of_ble_eq_true rfl) (Nat.le_of_ble_eq_true rfl) rfl (Nat.le_of_ble_eq_true rfl) dX0_valueOfMonth_9 rfl le00 rfl ?_
  exact wa_lret hC hQ (sm0 h) rfl dX0_valueOfMonth_12
set_option maxRecDepth 20000 in
theorem wX3_weighSubscribers_L14 {E : eU} {G : gU} {ρ : Nat → Nat → Nat} {V : Nat → Nat → Prop} {Z : sM} {r : Int64} {A' : sM} (o1 : Nat) (x2 : Int32) (x3 : Int32) {k88 : Int64 → sM → Option (Int64 × sM)} (hC : CX E G cX3_weighSubscribers 10 RX3 (some .long) 2 0 0) (hVC : VC V) (ho1 : V 0 o1) (hk88 : ∀ (x4 : Int64) (A : sM), k88 x4 A = some (r, A') → WA E G ρ V 0 0 (J A Z) 88 [(4, .long x4)] []) : ∀ (n : Nat) (x4 : Int64) (x6 : Int32) (A : sM), fX3_weighSubscribers_L14 o1 x2 x3 k88 n x4 x6 A = some (r, A') → WA E G ρ V 0 0 (J A Z) 14 [(0, .ref (ρ 3 0)), (1, .ref (ρ 0 o1)), (2, .int x2), (3, .int x3), (4, .long x4), (6, .int x6)] [] := by
  intro n
  induction n with
  | zero =>
    intro x4 x6 A h
    rw [fX3_weighSubscribers_L14] at h
    cases h
  | succ n ih =>
    intro x4 x6 A h
    rw [fX3_weighSubscribers_L14] at h
    refine wa_iload 16 6 hC dX3_weighSubscribers_14 5 rfl rfl ?_
    refine wa_aload_n 17 1 hC dX3_weighSubscribers_16 rfl 1 rfl rfl ?_
    refine wa_getIc 20 hC ho1 sh0_3 rfl flX3_47 dX3_weighSubscribers_17 rfl ?_
    refine wa_icmp_ge 23 88 hC dX3_weighSubscribers_20 rfl rfl h (fun h => ?_) (fun h => ?_)
    · refine wa_pick [4] rfl ?_
      exact hk88 x4 A h
    · refine wa_aload_n 24 1 hC dX3_weighSubscribers_23 rfl 1 rfl rfl ?_
      refine wa_getR 27 hC ho1 (sr0_2 _) flX3_51 dX3_weighSubscribers_24 rfl ?_
      refine wa_iload 29 6 hC dX3_weighSubscribers_27 5 rfl rfl ?_
      obtain ⟨g_1, h⟩ := gd_some h
      refine wa_aald 30 hC (vc11 hVC ho1) g_1 dX3_weighSubscribers_29 rfl ?_
      refine wa_astore (lv' := [(7, .ref (ρ 8 (16 * o1 + x6.toNatClampNeg))), (0, .ref (ρ 3 0)), (1, .ref (ρ 0 o1)), (2, .int x2), (3, .int x3), (4, .long x4), (6, .int x6)]) 32 7 hC dX3_weighSubscribers_30 rfl (by decide) rfl rfl ?_
      refine wa_aload 34 7 hC dX3_weighSubscribers_32 0 rfl rfl ?_
      refine wa_getIc 37 hC (vc8 hVC ho1 (inb_lt g_1)) sh8_4 rfl flX3_55 dX3_weighSubscribers_34 rfl ?_
      refine wa_i2l 38 hC dX3_weighSubscribers_37 rfl ?_
      refine wa_iload_n 39 3 hC dX3_weighSubscribers_38 rfl 4 rfl rfl ?_
      refine wa_i2l 40 hC dX3_weighSubscribers_39 rfl ?_
      refine wa_lmul 41 hC dX3_weighSubscribers_40 rfl ?_
      obtain ⟨x8_2, ex8_2, h⟩ := ltb_some h
      refine wa_lstore (lv' := [(8, .long x8_2), (7, .ref (ρ 8 (16 * o1 + x6.toNatClampNeg))), (0, .ref (ρ 3 0)), (1, .ref (ρ 0 o1)), (2, .int x2), (3, .int x3), (4, .long x4), (6, .int x6)]) 43 8 hC dX3_weighSubscribers_41 ex8_2 (by decide) rfl rfl ?_
      refine wa_iload_n 44 2 hC dX3_weighSubscribers_43 rfl 4 rfl rfl ?_
      obtain ⟨kj_4, ekj_4, h⟩ := ltb_k1 h
      have hkj_4 : ∀ (x8_3 : Int64), kj_4 x8_3 = some (r, A') → WA E G ρ V 0 0 (J A Z) 66 [(0, .ref (ρ 3 0)), (1, .ref (ρ 0 o1)), (2, .int x2), (3, .int x3), (4, .long x4), (6, .int x6), (8, .long x8_3)] [] := by
        intro x8_3 h
        rw [ekj_4] at h
        refine wa_aload_n 67 0 hC dX3_weighSubscribers_66 rfl 0 rfl rfl ?_
        refine wa_getR 70 hC (vs3 hVC) (sr3_0 _) flX3_9 dX3_weighSubscribers_67 rfl ?_
        refine wa_iload 72 6 hC dX3_weighSubscribers_70 5 rfl rfl ?_
        refine wa_lload 74 8 hC dX3_weighSubscribers_72 6 rfl rfl ?_
        obtain ⟨g_5, h⟩ := gd_some h
        obtain ⟨A_6, eA_6, h⟩ := ltb_some h
        refine wa_lastc 75 hC (vs15 hVC) ar15 rfl g_5 eA_6 dX3_weighSubscribers_74 rfl ?_
        refine wa_lload 77 4 hC dX3_weighSubscribers_75 4 rfl rfl ?_
        refine wa_lload 79 8 hC dX3_weighSubscribers_77 6 rfl rfl ?_
        refine wa_ladd 80 hC dX3_weighSubscribers_79 rfl ?_
        obtain ⟨x4_7, ex4_7, h⟩ := ltb_some h
        refine wa_lstore (lv' := [(4, .long x4_7), (0, .ref (ρ 3 0)), (1, .ref (ρ 0 o1)), (2, .int x2), (3, .int x3), (6, .int x6), (8, .long x8_3)]) 82 4 hC dX3_weighSubscribers_80 ex4_7 (by decide) rfl rfl ?_
        obtain ⟨x6_8, ex6_8, h⟩ := ltb_some h
        refine wa_iinc (lv' := [(6, .int x6_8), (4, .long x4_7), (0, .ref (ρ 3 0)), (1, .ref (ρ 0 o1)), (2, .int x2), (3, .int x3), (8, .long x8_3)]) 85 6 hC dX3_weighSubscribers_82 5 rfl (by rw [kc_1]; exact ex6_8) (by decide) rfl rfl ?_
        refine wa_goto 14 hC dX3_weighSubscribers_85 rfl ?_
        refine wa_pick [2, 3, 4, 5, 1, 0] rfl ?_
        exact ih x4_7 x6_8 A_6 h
      clear ekj_4
      refine wa_if_lt 47 66 hC dX3_weighSubscribers_44 rfl rfl h (fun h => ?_) (fun h => ?_)
      · refine wa_pick [2, 3, 4, 5, 6, 7, 0] rfl ?_
        exact hkj_4 x8_2 h
      · refine wa_iload_n 48 2 hC dX3_weighSubscribers_47 rfl 4 rfl rfl ?_
        refine wa_bipush 50 hC dX3_weighSubscribers_48 kb_60 rfl ?_
        refine wa_icmp_ge 53 66 hC dX3_weighSubscribers_50 rfl rfl h (fun h => ?_) (fun h => ?_)
        · refine wa_pick [2, 3, 4, 5, 6, 7, 0] rfl ?_
          exact hkj_4 x8_2 h
        · refine wa_lload 55 8 hC dX3_weighSubscribers_53 0 rfl rfl ?_
          refine wa_aload 57 7 hC dX3_weighSubscribers_55 1 rfl rfl ?_
          refine wa_getR 60 hC (vc8 hVC ho1 (inb_lt g_1)) (sr8_7 _) flX3_60 dX3_weighSubscribers_57 rfl ?_
          refine wa_iload_n 61 2 hC dX3_weighSubscribers_60 rfl 4 rfl rfl ?_
          obtain ⟨g_9, h⟩ := gd_some h
          refine wa_ialdc 62 hC (vc24 hVC (vc8 hVC ho1 (inb_lt g_1))) ar24 rfl g_9 dX3_weighSubscribers_61 rfl ?_
          refine wa_i2l 63 hC dX3_weighSubscribers_62 rfl ?_
          refine wa_ladd 64 hC dX3_weighSubscribers_63 rfl ?_
          obtain ⟨x8_10, ex8_10, h⟩ := ltb_some h
          refine wa_lstore (lv' := [(8, .long x8_10), (7, .ref (ρ 8 (16 * o1 + x6.toNatClampNeg))), (0, .ref (ρ 3 0)), (1, .ref (ρ 0 o1)), (2, .int x2), (3, .int x3), (4, .long x4), (6, .int x6)]) 66 8 hC dX3_weighSubscribers_64 ex8_10 (by decide) rfl rfl ?_
          refine wa_pick [2, 3, 4, 5, 6, 7, 0] rfl ?_
          exact hkj_4 x8_10 h
set_option maxRecDepth 20000 in
theorem tX3_weighSubscribers (l : Launch) {G : gU} {ρ : Nat → Nat → Nat} {V : Nat → Nat → Prop} {Z : sM} (o1 : Nat) (x2 : Int32) (x3 : Int32) (A : sM) (_ : VC V) (ho1 : V 0 o1) {r : Int64} {A' : sM} (h : fX3_weighSubscribers o1 x2 x3 A = some (r, A')) : MT l yX3_weighSubscribers cX3_weighSubscribers 10 (some .long) 2 G ρ V [.ref (ρ 3 0), .ref (ρ 0 o1), .int x2, .int x3] (J A Z) (some (.long r)) (J A' Z) := by
  refine vv_enter (lv := [(0, .ref (ρ 3 0)), (1, .ref (ρ 0 o1)), (2, .int x2), (3, .int x3)]) RX3 rfl (by decide) (Nat.le_of_ble_eq_true rfl) rfl ?_
  intro E hE hC hQ hVC
  subst hE
  rw [fX3_weighSubscribers] at h
  refine wa_lconst 1 hC dX3_weighSubscribers_0 kl_0 rfl ?_
  refine wa_lstore (lv' := [(4, .long (0 : Int64)), (0, .ref (ρ 3 0)), (1, .ref (ρ 0 o1)), (2, .int x2), (3, .int x3)]) 3 4 hC dX3_weighSubscribers_1 rfl (by decide) rfl rfl ?_
  refine wa_aload_n 4 0 hC dX3_weighSubscribers_3 rfl 1 rfl rfl ?_
  refine wa_getR 7 hC (vs3 hVC) (sr3_0 _) flX3_9 dX3_weighSubscribers_4 rfl ?_
  refine wa_lconst 8 hC dX3_weighSubscribers_7 kl_0 rfl ?_
  obtain ⟨A_1, eA_1, h⟩ := ltb_some h
  refine wa_fillJ 11 hC afX3_41 (vs15 hVC) ar15 rfl (by decide) eA_1 (Nat.le_of_ble_eq_true rfl) (Nat.le_of_ble_eq_true rfl) dX3_weighSubscribers_8 rfl le00 ?_
  refine wa_iconst 12 hC dX3_weighSubscribers_11 kc_0 rfl ?_
  refine wa_istore (lv' := [(6, .int (0 : Int32)), (4, .long (0 : Int64)), (0, .ref (ρ 3 0)), (1, .ref (ρ 0 o1)), (2, .int x2), (3, .int x3)]) 14 6 hC dX3_weighSubscribers_12 rfl (by decide) rfl rfl ?_
  refine wa_pick [2, 3, 4, 5, 1, 0] rfl ?_
  refine wX3_weighSubscribers_L14 o1 x2 x3 hC hVC ho1 (fun x4_2 A_3 h => ?_) 10000 (0 : Int64) (0 : Int32) A_1 h
  refine wa_lload 90 4 hC dX3_weighSubscribers_88 0 rfl rfl ?_
  exact wa_lret hC hQ (sm1 h) (jA (sm2 h)) dX3_weighSubscribers_90
set_option maxRecDepth 20000 in
theorem tX4_monthShareDays (l : Launch) {G : gU} {ρ : Nat → Nat → Nat} {V : Nat → Nat → Prop} {Z : sM} (o : Nat) (A : sM) (_ : VC V) (ho : V 4 o) {r : Int32} (h : fX4_monthShareDays o A = some r) : MT l yX4_monthShareDays cX4_monthShareDays 1 (some .int) 1 G ρ V [.ref (ρ 4 o)] (J A Z) (some (.int r)) (J A Z) := by
  refine vv_enter (lv := [(0, .ref (ρ 4 o))]) RX4 rfl (by decide) (Nat.le_of_ble_eq_true rfl) rfl ?_
  intro E hE hC hQ hVC
  subst hE
  rw [fX4_monthShareDays] at h
  refine wa_bipush 2 hC dX4_monthShareDays_0 kb_30 rfl ?_
  refine wa_aload_n 3 0 hC dX4_monthShareDays_2 rfl 0 rfl rfl ?_
  refine wa_getIc 6 hC ho sh4_0 rfl flX4_9 dX4_monthShareDays_3 rfl ?_
  refine wa_imul 7 hC dX4_monthShareDays_6 rfl ?_
  exact wa_iret hC hQ (sm0 h) rfl dX4_monthShareDays_7
set_option maxRecDepth 20000 in
theorem tX3_weighShareDays (l : Launch) {G : gU} {ρ : Nat → Nat → Nat} {V : Nat → Nat → Prop} {Z : sM} (o1 : Nat) (x2 : Int32) (x3 : Int32) (A : sM) (_ : VC V) (ho1 : V 0 o1) {A' : sM} (h : fX3_weighShareDays o1 x2 x3 A = some A') : MT l yX3_weighShareDays cX3_weighShareDays 6 none 3 G ρ V [.ref (ρ 3 0), .ref (ρ 0 o1), .int x2, .int x3] (J A Z) none (J A' Z) := by
  refine vv_enter (lv := [(0, .ref (ρ 3 0)), (1, .ref (ρ 0 o1)), (2, .int x2), (3, .int x3)]) RX3 rfl (by decide) (Nat.le_of_ble_eq_true rfl) rfl ?_
  intro E hE hC hQ hVC
  subst hE
  rw [fX3_weighShareDays] at h
  refine wa_aload_n 1 0 hC dX3_weighShareDays_0 rfl 0 rfl rfl ?_
  refine wa_aload_n 2 1 hC dX3_weighShareDays_1 rfl 1 rfl rfl ?_
  refine wa_iload_n 3 2 hC dX3_weighShareDays_2 rfl 2 rfl rfl ?_
  refine wa_iload_n 4 3 hC dX3_weighShareDays_3 rfl 3 rfl rfl ?_
  obtain ⟨r_2, A_1, e_8, h⟩ := bd2_some h
  refine wa_callVl 7 hC [.ref (ρ 0 o1), .int x2, .int x3] [] knX3_weighSubscribers mvX3_21 (tX3_weighSubscribers E.2.1 o1 x2 x3 A hVC ho1 e_8) (vs3 hVC) kc3 (Nat.le_of_ble_eq_true rfl) (Nat.le_of_ble_eq_true rfl) rfl (Nat.le_of_ble_eq_true rfl) dX3_weighShareDays_4 rfl le00 rfl ?_
  refine wa_lstore (lv' := [(4, .long r_2), (0, .ref (ρ 3 0)), (1, .ref (ρ 0 o1)), (2, .int x2), (3, .int x3)]) 9 4 hC dX3_weighShareDays_7 rfl (by decide) rfl rfl ?_
  refine wa_aload_n 10 0 hC dX3_weighShareDays_9 rfl 1 rfl rfl ?_
  refine wa_aload_n 11 1 hC dX3_weighShareDays_10 rfl 2 rfl rfl ?_
  refine wa_getR 14 hC ho1 (sr0_0 _) flX3_25 dX3_weighShareDays_11 rfl ?_
  obtain ⟨r_3, e_7, h⟩ := bd_some h
  refine wa_callVi 17 hC [] [.ref (ρ 3 0)] knX4_monthShareDays mvX3_31 (tX4_monthShareDays E.2.1 o1 A_1 hVC (vc4 hVC ho1) e_7) (vc4 hVC ho1) kc4 (Nat.le_of_ble_eq_true rfl) (Nat.le_of_ble_eq_true rfl) rfl (Nat.le_of_ble_eq_true rfl) dX3_weighShareDays_14 rfl le00 rfl ?_
  refine wa_i2l 18 hC dX3_weighShareDays_17 rfl ?_
  obtain ⟨A_4, eA_4, h⟩ := ltb_some h
  refine wa_putLc 21 hC (vs3 hVC) eA_4 sh3_1 rfl fpX3_37 dX3_weighShareDays_18 rfl ?_
  refine wa_aload_n 22 0 hC dX3_weighShareDays_21 rfl 1 rfl rfl ?_
  refine wa_getR 25 hC (vs3 hVC) (sr3_0 _) flX3_9 dX3_weighShareDays_22 rfl ?_
  refine wa_bipush 27 hC dX3_weighShareDays_25 kb_16 rfl ?_
  refine wa_aload_n 28 0 hC dX3_weighShareDays_27 rfl 1 rfl rfl ?_
  refine wa_getLc 31 hC (vs3 hVC) sh3_1 rfl flX3_37 dX3_weighShareDays_28 rfl ?_
  refine wa_lload 33 4 hC dX3_weighShareDays_31 0 rfl rfl ?_
  refine wa_lsub 34 hC dX3_weighShareDays_33 rfl ?_
  obtain ⟨A_6, eA_6, h⟩ := ltb_some h
  refine wa_lastc 35 hC (vs15 hVC) ar15 rfl (by decide) eA_6 dX3_weighShareDays_34 rfl ?_
  exact wa_vret hC hQ (jA (sm0 h)) dX3_weighShareDays_35
set_option maxRecDepth 20000 in
theorem wX3_giveToGreatestRemainder_L4 {E : eU} {G : gU} {ρ : Nat → Nat → Nat} {V : Nat → Nat → Prop} {Z : sM} {A' : sM} (A : sM) {k34 : Int32 → Option (sM)} (hC : CX E G cX3_giveToGreatestRemainder 3 RX3 none 1 0 0) (hVC : VC V) (hk34 : ∀ (x1 : Int32), k34 x1 = some A' → WA E G ρ V 0 0 (J A Z) 34 [(0, .ref (ρ 3 0)), (1, .int x1)] []) : ∀ (n : Nat) (x1 : Int32) (x2 : Int32), fX3_giveToGreatestRemainder_L4 A k34 n x1 x2 = some A' → WA E G ρ V 0 0 (J A Z) 4 [(0, .ref (ρ 3 0)), (1, .int x1), (2, .int x2)] [] := by
  intro n
  induction n with
  | zero =>
    intro x1 x2 h
    rw [fX3_giveToGreatestRemainder_L4] at h
    cases h
  | succ n ih =>
    intro x1 x2 h
    rw [fX3_giveToGreatestRemainder_L4] at h
    refine wa_iload_n 5 2 hC dX3_giveToGreatestRemainder_4 rfl 2 rfl rfl ?_
    refine wa_bipush 7 hC dX3_giveToGreatestRemainder_5 kb_17 rfl ?_
    refine wa_icmp_ge 10 34 hC dX3_giveToGreatestRemainder_7 rfl rfl h (fun h => ?_) (fun h => ?_)
    · refine wa_pick [0, 1] rfl ?_
      exact hk34 x1 h
    · refine wa_aload_n 11 0 hC dX3_giveToGreatestRemainder_10 rfl 0 rfl rfl ?_
      refine wa_getR 14 hC (vs3 hVC) (sr3_2 _) flX3_15 dX3_giveToGreatestRemainder_11 rfl ?_
      refine wa_iload_n 15 2 hC dX3_giveToGreatestRemainder_14 rfl 2 rfl rfl ?_
      obtain ⟨g_1, h⟩ := gd_some h
      refine wa_laldc 16 hC (vs16 hVC) ar16 rfl g_1 dX3_giveToGreatestRemainder_15 rfl ?_
      refine wa_aload_n 17 0 hC dX3_giveToGreatestRemainder_16 rfl 0 rfl rfl ?_
      refine wa_getR 20 hC (vs3 hVC) (sr3_2 _) flX3_15 dX3_giveToGreatestRemainder_17 rfl ?_
      refine wa_iload_n 21 1 hC dX3_giveToGreatestRemainder_20 rfl 1 rfl rfl ?_
      obtain ⟨g_2, h⟩ := gd_some h
      refine wa_laldc 22 hC (vs16 hVC) ar16 rfl g_2 dX3_giveToGreatestRemainder_21 rfl ?_
      refine wa_lcmp 23 hC dX3_giveToGreatestRemainder_22 rfl ?_
      obtain ⟨kj_4, ekj_4, h⟩ := ltb_k1 h
      have hkj_4 : ∀ (x1_3 : Int32), kj_4 x1_3 = some A' → WA E G ρ V 0 0 (J A Z) 28 [(0, .ref (ρ 3 0)), (1, .int x1_3), (2, .int x2)] [] := by
        intro x1_3 h
        rw [ekj_4] at h
        obtain ⟨x2_5, ex2_5, h⟩ := ltb_some h
        refine wa_iinc (lv' := [(2, .int x2_5), (0, .ref (ρ 3 0)), (1, .int x1_3)]) 31 2 hC dX3_giveToGreatestRemainder_28 2 rfl (by rw [kc_1]; exact ex2_5) (by decide) rfl rfl ?_
        refine wa_goto 4 hC dX3_giveToGreatestRemainder_31 rfl ?_
        refine wa_pick [1, 2, 0] rfl ?_
        exact ih x1_3 x2_5 h
      clear ekj_4
      refine wa_lcmp_le 26 28 hC dX3_giveToGreatestRemainder_23 rfl rfl h (fun h => ?_) (fun h => ?_)
      · exact hkj_4 x1 h
      · refine wa_iload_n 27 2 hC dX3_giveToGreatestRemainder_26 rfl 2 rfl rfl ?_
        refine wa_istore_n (lv' := [(1, .int x2), (0, .ref (ρ 3 0)), (2, .int x2)]) 28 1 hC dX3_giveToGreatestRemainder_27 rfl rfl (by decide) rfl rfl ?_
        refine wa_pick [1, 0, 2] rfl ?_
        exact hkj_4 x2 h
set_option maxRecDepth 20000 in
theorem tX3_giveToGreatestRemainder (l : Launch) {G : gU} {ρ : Nat → Nat → Nat} {V : Nat → Nat → Prop} {Z : sM} (A : sM) (_ : VC V) {A' : sM} (h : fX3_giveToGreatestRemainder A = some A') : MT l yX3_giveToGreatestRemainder cX3_giveToGreatestRemainder 3 none 1 G ρ V [.ref (ρ 3 0)] (J A Z) none (J A' Z) := by
  refine vv_enter (lv := [(0, .ref (ρ 3 0))]) RX3 rfl (by decide) (Nat.le_of_ble_eq_true rfl) rfl ?_
  intro E hE hC hQ hVC
  subst hE
  rw [fX3_giveToGreatestRemainder] at h
  refine wa_iconst 1 hC dX3_giveToGreatestRemainder_0 kc_0 rfl ?_
  refine wa_istore_n (lv' := [(1, .int (0 : Int32)), (0, .ref (ρ 3 0))]) 2 1 hC dX3_giveToGreatestRemainder_1 rfl rfl (by decide) rfl rfl ?_
  refine wa_iconst 3 hC dX3_giveToGreatestRemainder_2 kc_1 rfl ?_
  refine wa_istore_n (lv' := [(2, .int (1 : Int32)), (1, .int (0 : Int32)), (0, .ref (ρ 3 0))]) 4 2 hC dX3_giveToGreatestRemainder_3 rfl rfl (by decide) rfl rfl ?_
  refine wa_pick [2, 1, 0] rfl ?_
  refine wX3_giveToGreatestRemainder_L4 A hC hVC (fun x1_1 h => ?_) 10000 (0 : Int32) (1 : Int32) h
  refine wa_aload_n 35 0 hC dX3_giveToGreatestRemainder_34 rfl 0 rfl rfl ?_
  refine wa_getR 38 hC (vs3 hVC) (sr3_3 _) flX3_18 dX3_giveToGreatestRemainder_35 rfl ?_
  refine wa_iload_n 39 1 hC dX3_giveToGreatestRemainder_38 rfl 1 rfl rfl ?_
  refine wa_dup2 40 hC dX3_giveToGreatestRemainder_39 rfl rfl rfl ?_
  obtain ⟨g_2, h⟩ := gd_some h
  refine wa_laldc 41 hC (vs17 hVC) ar17 rfl g_2 dX3_giveToGreatestRemainder_40 rfl ?_
  refine wa_lconst 42 hC dX3_giveToGreatestRemainder_41 kl_1 rfl ?_
  refine wa_ladd 43 hC dX3_giveToGreatestRemainder_42 rfl ?_
  obtain ⟨g_3, h⟩ := gd_some h
  obtain ⟨A_4, eA_4, h⟩ := ltb_some h
  refine wa_lastc 44 hC (vs17 hVC) ar17 rfl g_3 eA_4 dX3_giveToGreatestRemainder_43 rfl ?_
  refine wa_aload_n 45 0 hC dX3_giveToGreatestRemainder_44 rfl 0 rfl rfl ?_
  refine wa_getR 48 hC (vs3 hVC) (sr3_2 _) flX3_15 dX3_giveToGreatestRemainder_45 rfl ?_
  refine wa_iload_n 49 1 hC dX3_giveToGreatestRemainder_48 rfl 1 rfl rfl ?_
  refine wa_ldc2 52 hC dX3_giveToGreatestRemainder_49 lcX3_67 rfl ?_
  obtain ⟨g_5, h⟩ := gd_some h
  obtain ⟨A_6, eA_6, h⟩ := ltb_some h
  refine wa_lastc 53 hC (vs16 hVC) ar16 rfl g_5 eA_6 dX3_giveToGreatestRemainder_52 rfl ?_
  exact wa_vret hC hQ (jA (sm0 h)) dX3_giveToGreatestRemainder_53
set_option maxRecDepth 20000 in
theorem wX3_divide_L23 {E : eU} {G : gU} {ρ : Nat → Nat → Nat} {V : Nat → Nat → Prop} {Z : sM} {A' : sM} (x1 : Int64) {k85 : Int64 → sM → Option (sM)} (hC : CX E G cX3_divide 8 RX3 none 2 0 0) (hVC : VC V) (hk85 : ∀ (x3 : Int64) (A : sM), k85 x3 A = some A' → WA E G ρ V 0 0 (J A Z) 85 [(0, .ref (ρ 3 0)), (3, .long x3)] []) : ∀ (n : Nat) (x3 : Int64) (x5 : Int32) (A : sM), fX3_divide_L23 x1 k85 n x3 x5 A = some A' → WA E G ρ V 0 0 (J A Z) 23 [(0, .ref (ρ 3 0)), (1, .long x1), (3, .long x3), (5, .int x5)] [] := by
  intro n
  induction n with
  | zero =>
    intro x3 x5 A h
    rw [fX3_divide_L23] at h
    cases h
  | succ n ih =>
    intro x3 x5 A h
    rw [fX3_divide_L23] at h
    refine wa_iload 25 5 hC dX3_divide_23 3 rfl rfl ?_
    refine wa_bipush 27 hC dX3_divide_25 kb_17 rfl ?_
    refine wa_icmp_ge 30 85 hC dX3_divide_27 rfl rfl h (fun h => ?_) (fun h => ?_)
    · refine wa_pick [0, 2] rfl ?_
      exact hk85 x3 A h
    · refine wa_lload_n 31 1 hC dX3_divide_30 rfl 1 rfl rfl ?_
      refine wa_aload_n 32 0 hC dX3_divide_31 rfl 0 rfl rfl ?_
      refine wa_getR 35 hC (vs3 hVC) (sr3_0 _) flX3_9 dX3_divide_32 rfl ?_
      refine wa_iload 37 5 hC dX3_divide_35 3 rfl rfl ?_
      obtain ⟨g_1, h⟩ := gd_some h
      refine wa_laldc 38 hC (vs15 hVC) ar15 rfl g_1 dX3_divide_37 rfl ?_
      refine wa_lmul 39 hC dX3_divide_38 rfl ?_
      obtain ⟨x6_2, ex6_2, h⟩ := ltb_some h
      refine wa_lstore (lv' := [(6, .long x6_2), (0, .ref (ρ 3 0)), (1, .long x1), (3, .long x3), (5, .int x5)]) 41 6 hC dX3_divide_39 ex6_2 (by decide) rfl rfl ?_
      refine wa_aload_n 42 0 hC dX3_divide_41 rfl 1 rfl rfl ?_
      refine wa_getR 45 hC (vs3 hVC) (sr3_3 _) flX3_18 dX3_divide_42 rfl ?_
      refine wa_iload 47 5 hC dX3_divide_45 4 rfl rfl ?_
      refine wa_lload 49 6 hC dX3_divide_47 0 rfl rfl ?_
      refine wa_aload_n 50 0 hC dX3_divide_49 rfl 1 rfl rfl ?_
      refine wa_getLc 53 hC (vs3 hVC) sh3_1 rfl flX3_37 dX3_divide_50 rfl ?_
      obtain ⟨g_3, h⟩ := gd_some h
      refine wa_ldiv 54 hC dX3_divide_53 g_3 rfl ?_
      obtain ⟨g_4, h⟩ := gd_some h
      obtain ⟨A_5, eA_5, h⟩ := ltb_some h
      refine wa_lastc 55 hC (vs17 hVC) ar17 rfl g_4 eA_5 dX3_divide_54 rfl ?_
      refine wa_aload_n 56 0 hC dX3_divide_55 rfl 1 rfl rfl ?_
      refine wa_getR 59 hC (vs3 hVC) (sr3_2 _) flX3_15 dX3_divide_56 rfl ?_
      refine wa_iload 61 5 hC dX3_divide_59 4 rfl rfl ?_
      refine wa_lload 63 6 hC dX3_divide_61 0 rfl rfl ?_
      refine wa_aload_n 64 0 hC dX3_divide_63 rfl 1 rfl rfl ?_
      refine wa_getLc 67 hC (vs3 hVC) sh3_1 rfl flX3_37 dX3_divide_64 rfl ?_
      obtain ⟨g_6, h⟩ := gd_some h
      refine wa_lrem 68 hC dX3_divide_67 g_6 rfl ?_
      obtain ⟨g_7, h⟩ := gd_some h
      obtain ⟨A_8, eA_8, h⟩ := ltb_some h
      refine wa_lastc 69 hC (vs16 hVC) ar16 rfl g_7 eA_8 dX3_divide_68 rfl ?_
      refine wa_lload_n 70 3 hC dX3_divide_69 rfl 3 rfl rfl ?_
      refine wa_aload_n 71 0 hC dX3_divide_70 rfl 1 rfl rfl ?_
      refine wa_getR 74 hC (vs3 hVC) (sr3_3 _) flX3_18 dX3_divide_71 rfl ?_
      refine wa_iload 76 5 hC dX3_divide_74 4 rfl rfl ?_
      obtain ⟨g_9, h⟩ := gd_some h
      refine wa_laldc 77 hC (vs17 hVC) ar17 rfl g_9 dX3_divide_76 rfl ?_
      refine wa_lsub 78 hC dX3_divide_77 rfl ?_
      obtain ⟨x3_10, ex3_10, h⟩ := ltb_some h
      refine wa_lstore_n (lv' := [(3, .long x3_10), (6, .long x6_2), (0, .ref (ρ 3 0)), (1, .long x1), (5, .int x5)]) 79 3 hC dX3_divide_78 rfl ex3_10 (by decide) rfl rfl ?_
      obtain ⟨x5_11, ex5_11, h⟩ := ltb_some h
      refine wa_iinc (lv' := [(5, .int x5_11), (3, .long x3_10), (6, .long x6_2), (0, .ref (ρ 3 0)), (1, .long x1)]) 82 5 hC dX3_divide_79 4 rfl (by rw [kc_1]; exact ex5_11) (by decide) rfl rfl ?_
      refine wa_goto 23 hC dX3_divide_82 rfl ?_
      refine wa_pick [3, 4, 1, 0] rfl ?_
      exact ih x3_10 x5_11 A_8 h
set_option maxRecDepth 20000 in
theorem wX3_divide_L88 {E : eU} {G : gU} {ρ : Nat → Nat → Nat} {V : Nat → Nat → Prop} {Z : sM} {A' : sM} {k115 : sM → Option (sM)} (hC : CX E G cX3_divide 8 RX3 none 2 0 0) (hVC : VC V) (hk115 : ∀ (A : sM), k115 A = some A' → WA E G ρ V 0 0 (J A Z) 115 [] []) : ∀ (n : Nat) (x3 : Int64) (x5 : Int32) (A : sM), fX3_divide_L88 k115 n x3 x5 A = some A' → WA E G ρ V 0 0 (J A Z) 88 [(0, .ref (ρ 3 0)), (3, .long x3), (5, .int x5)] [] := by
  intro n
  induction n with
  | zero =>
    intro x3 x5 A h
    rw [fX3_divide_L88] at h
    cases h
  | succ n ih =>
    intro x3 x5 A h
    rw [fX3_divide_L88] at h
    refine wa_iload 90 5 hC dX3_divide_88 2 rfl rfl ?_
    refine wa_bipush 92 hC dX3_divide_90 kb_17 rfl ?_
    refine wa_icmp_ge 95 115 hC dX3_divide_92 rfl rfl h (fun h => ?_) (fun h => ?_)
    · refine wa_pick [] rfl ?_
      exact hk115 A h
    · refine wa_lload_n 96 3 hC dX3_divide_95 rfl 1 rfl rfl ?_
      refine wa_lconst 97 hC dX3_divide_96 kl_0 rfl ?_
      refine wa_lcmp 98 hC dX3_divide_97 rfl ?_
      refine wa_lcmp_le 101 115 hC dX3_divide_98 rfl rfl h (fun h => ?_) (fun h => ?_)
      · refine wa_pick [] rfl ?_
        exact hk115 A h
      · refine wa_aload_n 102 0 hC dX3_divide_101 rfl 0 rfl rfl ?_
        obtain ⟨A_1, e_4, h⟩ := bd_some h
        refine wa_callVv 105 hC [] [] knX3_giveToGreatestRemainder mvX3_64 (tX3_giveToGreatestRemainder E.2.1 A hVC e_4) (vs3 hVC) kc3 (Nat.le_of_ble_eq_true rfl) (Nat.le_of_ble_eq_true rfl) rfl (Nat.le_of_ble_eq_true rfl) dX3_divide_102 rfl le00 rfl ?_
        refine wa_lload_n 106 3 hC dX3_divide_105 rfl 1 rfl rfl ?_
        refine wa_lconst 107 hC dX3_divide_106 kl_1 rfl ?_
        refine wa_lsub 108 hC dX3_divide_107 rfl ?_
        obtain ⟨x3_2, ex3_2, h⟩ := ltb_some h
        refine wa_lstore_n (lv' := [(3, .long x3_2), (0, .ref (ρ 3 0)), (5, .int x5)]) 109 3 hC dX3_divide_108 rfl ex3_2 (by decide) rfl rfl ?_
        obtain ⟨x5_3, ex5_3, h⟩ := ltb_some h
        refine wa_iinc (lv' := [(5, .int x5_3), (3, .long x3_2), (0, .ref (ρ 3 0))]) 112 5 hC dX3_divide_109 2 rfl (by rw [kc_1]; exact ex5_3) (by decide) rfl rfl ?_
        refine wa_goto 88 hC dX3_divide_112 rfl ?_
        refine wa_pick [2, 1, 0] rfl ?_
        exact ih x3_2 x5_3 A_1 h
set_option maxRecDepth 20000 in
theorem tX3_divide (l : Launch) {G : gU} {ρ : Nat → Nat → Nat} {V : Nat → Nat → Prop} {Z : sM} (x1 : Int64) (A : sM) (_ : VC V) {A' : sM} (h : fX3_divide x1 A = some A') : MT l yX3_divide cX3_divide 8 none 2 G ρ V [.ref (ρ 3 0), .long x1] (J A Z) none (J A' Z) := by
  refine vv_enter (lv := [(0, .ref (ρ 3 0)), (1, .long x1)]) RX3 rfl (by decide) (Nat.le_of_ble_eq_true rfl) rfl ?_
  intro E hE hC hQ hVC
  subst hE
  rw [fX3_divide] at h
  refine wa_aload_n 1 0 hC dX3_divide_0 rfl 0 rfl rfl ?_
  refine wa_getLc 4 hC (vs3 hVC) sh3_1 rfl flX3_37 dX3_divide_1 rfl ?_
  refine wa_lconst 5 hC dX3_divide_4 kl_1 rfl ?_
  refine wa_lcmp 6 hC dX3_divide_5 rfl ?_
  refine wa_lcmp_ge 9 18 hC dX3_divide_6 rfl rfl h (fun h => ?_) (fun h => ?_)
  · refine wa_lload_n 19 1 hC dX3_divide_18 rfl 1 rfl rfl ?_
    refine wa_lstore_n (lv' := [(3, .long x1), (0, .ref (ρ 3 0)), (1, .long x1)]) 20 3 hC dX3_divide_19 rfl rfl (by decide) rfl rfl ?_
    refine wa_iconst 21 hC dX3_divide_20 kc_0 rfl ?_
    refine wa_istore (lv' := [(5, .int (0 : Int32)), (3, .long x1), (0, .ref (ρ 3 0)), (1, .long x1)]) 23 5 hC dX3_divide_21 rfl (by decide) rfl rfl ?_
    refine wa_pick [2, 3, 1, 0] rfl ?_
    refine wX3_divide_L23 x1 hC hVC (fun x3_1 A_2 h => ?_) 10000 x1 (0 : Int32) A h
    refine wa_iconst 86 hC dX3_divide_85 kc_0 rfl ?_
    refine wa_istore (lv' := [(5, .int (0 : Int32)), (0, .ref (ρ 3 0)), (3, .long x3_1)]) 88 5 hC dX3_divide_86 rfl (by decide) rfl rfl ?_
    refine wa_pick [1, 2, 0] rfl ?_
    refine wX3_divide_L88 hC hVC (fun A_3 h => ?_) 10000 x3_1 (0 : Int32) A_2 h
    exact wa_vret hC hQ (jA (sm0 h)) dX3_divide_115
  · refine wa_aload_n 10 0 hC dX3_divide_9 rfl 0 rfl rfl ?_
    refine wa_getR 13 hC (vs3 hVC) (sr3_3 _) flX3_18 dX3_divide_10 rfl ?_
    refine wa_lconst 14 hC dX3_divide_13 kl_0 rfl ?_
    obtain ⟨A_4, eA_4, h⟩ := ltb_some h
    refine wa_fillJ 17 hC afX3_41 (vs17 hVC) ar17 rfl (by decide) eA_4 (Nat.le_of_ble_eq_true rfl) (Nat.le_of_ble_eq_true rfl) dX3_divide_14 rfl le00 ?_
    exact wa_vret hC hQ (jA (sm0 h)) dX3_divide_17
set_option maxRecDepth 20000 in
theorem tX1_hasAssignee (l : Launch) {G : gU} {ρ : Nat → Nat → Nat} {V : Nat → Nat → Prop} {Z : sM} (o0 : Nat) (o1 : Nat) (A : sM) (_ : VC V) (ho0 : V 0 o0) (ho1 : V 8 o1) {r : Int32} (h : fX1_hasAssignee o0 o1 A = some r) : MT l yX1_hasAssignee cX1_hasAssignee 2 (some .boolean) 1 G ρ V [.ref (ρ 0 o0), .ref (ρ 8 o1)] (J A Z) (some (.int r)) (J A Z) := by
  refine vv_enter (lv := [(0, .ref (ρ 0 o0)), (1, .ref (ρ 8 o1))]) RX1 rfl (by decide) (Nat.le_of_ble_eq_true rfl) rfl ?_
  intro E hE hC hQ hVC
  subst hE
  rw [fX1_hasAssignee] at h
  refine wa_aload_n 1 1 hC dX1_hasAssignee_0 rfl 1 rfl rfl ?_
  refine wa_getIc 4 hC ho1 sh8_5 rfl flX1_45 dX1_hasAssignee_1 rfl ?_
  refine wa_if_lt 7 22 hC dX1_hasAssignee_4 rfl rfl h (fun h => ?_) (fun h => ?_)
  · refine wa_iconst 23 hC dX1_hasAssignee_22 kc_0 rfl ?_
    exact wa_zret hC hQ (sm0 h) rfl rfl dX1_hasAssignee_23
  · refine wa_aload_n 8 1 hC dX1_hasAssignee_7 rfl 1 rfl rfl ?_
    refine wa_getIc 11 hC ho1 sh8_5 rfl flX1_45 dX1_hasAssignee_8 rfl ?_
    refine wa_aload_n 12 0 hC dX1_hasAssignee_11 rfl 0 rfl rfl ?_
    refine wa_getIc 15 hC ho0 sh0_3 rfl flX1_25 dX1_hasAssignee_12 rfl ?_
    refine wa_icmp_ge 18 22 hC dX1_hasAssignee_15 rfl rfl h (fun h => ?_) (fun h => ?_)
    · refine wa_iconst 23 hC dX1_hasAssignee_22 kc_0 rfl ?_
      exact wa_zret hC hQ (sm0 h) rfl rfl dX1_hasAssignee_23
    · refine wa_iconst 19 hC dX1_hasAssignee_18 kc_1 rfl ?_
      refine wa_goto 23 hC dX1_hasAssignee_19 rfl ?_
      exact wa_zret hC hQ (sm0 h) rfl rfl dX1_hasAssignee_23
set_option maxRecDepth 20000 in
theorem tX1_passOnFrom (l : Launch) {G : gU} {ρ : Nat → Nat → Nat} {V : Nat → Nat → Prop} {Z : sM} (o1 : Nat) (x2 : Int32) (A : sM) (_ : VC V) (ho1 : V 0 o1) {A' : sM} (h : fX1_passOnFrom o1 x2 A = some A') : MT l yX1_passOnFrom cX1_passOnFrom 6 none 2 G ρ V [.ref (ρ 1 0), .ref (ρ 0 o1), .int x2] (J A Z) none (J A' Z) := by
  refine vv_enter (lv := [(0, .ref (ρ 1 0)), (1, .ref (ρ 0 o1)), (2, .int x2)]) RX1 rfl (by decide) (Nat.le_of_ble_eq_true rfl) rfl ?_
  intro E hE hC hQ hVC
  subst hE
  rw [fX1_passOnFrom] at h
  refine wa_aload_n 1 1 hC dX1_passOnFrom_0 rfl 1 rfl rfl ?_
  refine wa_getR 4 hC ho1 (sr0_2 _) flX1_31 dX1_passOnFrom_1 rfl ?_
  refine wa_iload_n 5 2 hC dX1_passOnFrom_4 rfl 2 rfl rfl ?_
  obtain ⟨g_1, h⟩ := gd_some h
  refine wa_aald 6 hC (vc11 hVC ho1) g_1 dX1_passOnFrom_5 rfl ?_
  refine wa_astore_n (lv' := [(3, .ref (ρ 8 (16 * o1 + x2.toNatClampNeg))), (0, .ref (ρ 1 0)), (1, .ref (ρ 0 o1)), (2, .int x2)]) 7 3 hC dX1_passOnFrom_6 rfl rfl (by decide) rfl rfl ?_
  refine wa_aload_n 8 1 hC dX1_passOnFrom_7 rfl 2 rfl rfl ?_
  refine wa_aload_n 9 3 hC dX1_passOnFrom_8 rfl 0 rfl rfl ?_
  obtain ⟨r_2, e_14, h⟩ := bd_some h
  refine wa_callSi 12 hC [.ref (ρ 0 o1), .ref (ρ 8 (16 * o1 + x2.toNatClampNeg))] [] knX1_hasAssignee msX1_41 (tX1_hasAssignee E.2.1 o1 (16 * o1 + x2.toNatClampNeg) A hVC ho1 (vc8 hVC ho1 (inb_lt g_1)) e_14) (Nat.le_of_ble_eq_true rfl) (Nat.le_of_ble_eq_true rfl) rfl (Nat.le_of_ble_eq_true rfl) dX1_passOnFrom_9 rfl le00 rfl ?_
  refine wa_if_eq 15 71 hC dX1_passOnFrom_12 rfl rfl h (fun h => ?_) (fun h => ?_)
  · exact wa_vret hC hQ (jA (sm0 h)) dX1_passOnFrom_71
  · refine wa_aload_n 16 0 hC dX1_passOnFrom_15 rfl 1 rfl rfl ?_
    refine wa_getR 19 hC (vs1 hVC) (sr1_1 _) flX1_15 dX1_passOnFrom_16 rfl ?_
    refine wa_iload_n 20 2 hC dX1_passOnFrom_19 rfl 3 rfl rfl ?_
    obtain ⟨g_3, h⟩ := gd_some h
    refine wa_laldc 21 hC (vs13 hVC) ar13 rfl g_3 dX1_passOnFrom_20 rfl ?_
    refine wa_aload_n 22 3 hC dX1_passOnFrom_21 rfl 0 rfl rfl ?_
    refine wa_getIc 25 hC (vc8 hVC ho1 (inb_lt g_1)) sh8_6 rfl flX1_56 dX1_passOnFrom_22 rfl ?_
    refine wa_i2l 26 hC dX1_passOnFrom_25 rfl ?_
    refine wa_lmul 27 hC dX1_passOnFrom_26 rfl ?_
    refine wa_ldc2 30 hC dX1_passOnFrom_27 lcX1_59 rfl ?_
    refine wa_ldiv 31 hC dX1_passOnFrom_30 (by decide) rfl ?_
    obtain ⟨x4_4, ex4_4, h⟩ := ltb_some h
    refine wa_lstore (lv' := [(4, .long x4_4), (3, .ref (ρ 8 (16 * o1 + x2.toNatClampNeg))), (0, .ref (ρ 1 0)), (1, .ref (ρ 0 o1)), (2, .int x2)]) 33 4 hC dX1_passOnFrom_31 ex4_4 (by decide) rfl rfl ?_
    refine wa_aload_n 34 0 hC dX1_passOnFrom_33 rfl 2 rfl rfl ?_
    refine wa_getR 37 hC (vs1 hVC) (sr1_1 _) flX1_15 dX1_passOnFrom_34 rfl ?_
    refine wa_iload_n 38 2 hC dX1_passOnFrom_37 rfl 4 rfl rfl ?_
    refine wa_dup2 39 hC dX1_passOnFrom_38 rfl rfl rfl ?_
    obtain ⟨g_5, h⟩ := gd_some h
    refine wa_laldc 40 hC (vs13 hVC) ar13 rfl g_5 dX1_passOnFrom_39 rfl ?_
    refine wa_lload 42 4 hC dX1_passOnFrom_40 0 rfl rfl ?_
    refine wa_lsub 43 hC dX1_passOnFrom_42 rfl ?_
    obtain ⟨g_6, h⟩ := gd_some h
    obtain ⟨A_7, eA_7, h⟩ := ltb_some h
    refine wa_lastc 44 hC (vs13 hVC) ar13 rfl g_6 eA_7 dX1_passOnFrom_43 rfl ?_
    refine wa_aload_n 45 0 hC dX1_passOnFrom_44 rfl 2 rfl rfl ?_
    refine wa_getR 48 hC (vs1 hVC) (sr1_1 _) flX1_15 dX1_passOnFrom_45 rfl ?_
    refine wa_aload_n 49 3 hC dX1_passOnFrom_48 rfl 1 rfl rfl ?_
    refine wa_getIc 52 hC (vc8 hVC ho1 (inb_lt g_1)) sh8_5 rfl flX1_45 dX1_passOnFrom_49 rfl ?_
    refine wa_dup2 53 hC dX1_passOnFrom_52 rfl rfl rfl ?_
    obtain ⟨g_8, h⟩ := gd_some h
    refine wa_laldc 54 hC (vs13 hVC) ar13 rfl g_8 dX1_passOnFrom_53 rfl ?_
    refine wa_lload 56 4 hC dX1_passOnFrom_54 0 rfl rfl ?_
    refine wa_ladd 57 hC dX1_passOnFrom_56 rfl ?_
    obtain ⟨g_9, h⟩ := gd_some h
    obtain ⟨A_10, eA_10, h⟩ := ltb_some h
    refine wa_lastc 58 hC (vs13 hVC) ar13 rfl g_9 eA_10 dX1_passOnFrom_57 rfl ?_
    refine wa_aload_n 59 0 hC dX1_passOnFrom_58 rfl 2 rfl rfl ?_
    refine wa_getR 62 hC (vs1 hVC) (sr1_0 _) flX1_9 dX1_passOnFrom_59 rfl ?_
    refine wa_aload_n 63 3 hC dX1_passOnFrom_62 rfl 1 rfl rfl ?_
    refine wa_getIc 66 hC (vc8 hVC ho1 (inb_lt g_1)) sh8_5 rfl flX1_45 dX1_passOnFrom_63 rfl ?_
    refine wa_dup2 67 hC dX1_passOnFrom_66 rfl rfl rfl ?_
    obtain ⟨g_11, h⟩ := gd_some h
    refine wa_ialdc 68 hC (vs12 hVC) ar12 rfl g_11 dX1_passOnFrom_67 rfl ?_
    refine wa_iconst 69 hC dX1_passOnFrom_68 kc_1 rfl ?_
    refine wa_isub 70 hC dX1_passOnFrom_69 rfl ?_
    obtain ⟨g_12, h⟩ := gd_some h
    obtain ⟨A_13, eA_13, h⟩ := ltb_some h
    refine wa_iastc 71 hC (vs12 hVC) nk12 ar12 rfl g_12 eA_13 dX1_passOnFrom_70 rfl ?_
    exact wa_vret hC hQ (jA (sm0 h)) dX1_passOnFrom_71
set_option maxRecDepth 20000 in
theorem wX1_passOnSettled_L2 {E : eU} {G : gU} {ρ : Nat → Nat → Nat} {V : Nat → Nat → Prop} {Z : sM} {A' : sM} (o1 : Nat) {k38 : sM → Option (sM)} (hC : CX E G cX1_passOnSettled 3 RX1 none 3 0 0) (hVC : VC V) (ho1 : V 0 o1) (hk38 : ∀ (A : sM), k38 A = some A' → WA E G ρ V 0 0 (J A Z) 38 [] []) : ∀ (n : Nat) (x2 : Int32) (A : sM), fX1_passOnSettled_L2 o1 k38 n x2 A = some A' → WA E G ρ V 0 0 (J A Z) 2 [(0, .ref (ρ 1 0)), (1, .ref (ρ 0 o1)), (2, .int x2)] [] := by
  intro n
  induction n with
  | zero =>
    intro x2 A h
    rw [fX1_passOnSettled_L2] at h
    cases h
  | succ n ih =>
    intro x2 A h
    rw [fX1_passOnSettled_L2] at h
    refine wa_iload_n 3 2 hC dX1_passOnSettled_2 rfl 2 rfl rfl ?_
    refine wa_aload_n 4 1 hC dX1_passOnSettled_3 rfl 1 rfl rfl ?_
    refine wa_getIc 7 hC ho1 sh0_3 rfl flX1_25 dX1_passOnSettled_4 rfl ?_
    refine wa_icmp_ge 10 38 hC dX1_passOnSettled_7 rfl rfl h (fun h => ?_) (fun h => ?_)
    · refine wa_pick [] rfl ?_
      exact hk38 A h
    · refine wa_aload_n 11 0 hC dX1_passOnSettled_10 rfl 0 rfl rfl ?_
      refine wa_getR 14 hC (vs1 hVC) (sr1_0 _) flX1_9 dX1_passOnSettled_11 rfl ?_
      refine wa_iload_n 15 2 hC dX1_passOnSettled_14 rfl 2 rfl rfl ?_
      obtain ⟨g_1, h⟩ := gd_some h
      refine wa_ialdc 16 hC (vs12 hVC) ar12 rfl g_1 dX1_passOnSettled_15 rfl ?_
      obtain ⟨kj_3, ekj_3, h⟩ := ltb_k1 h
      have hkj_3 : ∀ (A_2 : sM), kj_3 A_2 = some A' → WA E G ρ V 0 0 (J A_2 Z) 32 [(0, .ref (ρ 1 0)), (1, .ref (ρ 0 o1)), (2, .int x2)] [] := by
        intro A_2 h
        rw [ekj_3] at h
        obtain ⟨x2_4, ex2_4, h⟩ := ltb_some h
        refine wa_iinc (lv' := [(2, .int x2_4), (0, .ref (ρ 1 0)), (1, .ref (ρ 0 o1))]) 35 2 hC dX1_passOnSettled_32 2 rfl (by rw [kc_1]; exact ex2_4) (by decide) rfl rfl ?_
        refine wa_goto 2 hC dX1_passOnSettled_35 rfl ?_
        refine wa_pick [1, 2, 0] rfl ?_
        exact ih x2_4 A_2 h
      clear ekj_3
      refine wa_if_ne 19 32 hC dX1_passOnSettled_16 rfl rfl h (fun h => ?_) (fun h => ?_)
      · exact hkj_3 A h
      · refine wa_aload_n 20 0 hC dX1_passOnSettled_19 rfl 0 rfl rfl ?_
        refine wa_getR 23 hC (vs1 hVC) (sr1_0 _) flX1_9 dX1_passOnSettled_20 rfl ?_
        refine wa_iload_n 24 2 hC dX1_passOnSettled_23 rfl 2 rfl rfl ?_
        refine wa_iconst 25 hC dX1_passOnSettled_24 kc_m1 rfl ?_
        obtain ⟨g_5, h⟩ := gd_some h
        obtain ⟨A_6, eA_6, h⟩ := ltb_some h
        refine wa_iastc 26 hC (vs12 hVC) nk12 ar12 rfl g_5 eA_6 dX1_passOnSettled_25 rfl ?_
        refine wa_aload_n 27 0 hC dX1_passOnSettled_26 rfl 0 rfl rfl ?_
        refine wa_aload_n 28 1 hC dX1_passOnSettled_27 rfl 1 rfl rfl ?_
        refine wa_iload_n 29 2 hC dX1_passOnSettled_28 rfl 2 rfl rfl ?_
        obtain ⟨A_7, e_8, h⟩ := bd_some h
        refine wa_callVv 32 hC [.ref (ρ 0 o1), .int x2] [] knX1_passOnFrom mvX1_52 (tX1_passOnFrom E.2.1 o1 x2 A_6 hVC ho1 e_8) (vs1 hVC) kc1 (Nat.le_of_ble_eq_true rfl) (Nat.le_of_ble_eq_true rfl) rfl (Nat.le_of_ble_eq_true rfl) dX1_passOnSettled_29 rfl le00 rfl ?_
        exact hkj_3 A_7 h
set_option maxRecDepth 20000 in
theorem tX1_passOnSettled (l : Launch) {G : gU} {ρ : Nat → Nat → Nat} {V : Nat → Nat → Prop} {Z : sM} (o1 : Nat) (A : sM) (_ : VC V) (ho1 : V 0 o1) {A' : sM} (h : fX1_passOnSettled o1 A = some A') : MT l yX1_passOnSettled cX1_passOnSettled 3 none 3 G ρ V [.ref (ρ 1 0), .ref (ρ 0 o1)] (J A Z) none (J A' Z) := by
  refine vv_enter (lv := [(0, .ref (ρ 1 0)), (1, .ref (ρ 0 o1))]) RX1 rfl (by decide) (Nat.le_of_ble_eq_true rfl) rfl ?_
  intro E hE hC hQ hVC
  subst hE
  rw [fX1_passOnSettled] at h
  refine wa_iconst 1 hC dX1_passOnSettled_0 kc_0 rfl ?_
  refine wa_istore_n (lv' := [(2, .int (0 : Int32)), (0, .ref (ρ 1 0)), (1, .ref (ρ 0 o1))]) 2 2 hC dX1_passOnSettled_1 rfl rfl (by decide) rfl rfl ?_
  refine wa_pick [1, 2, 0] rfl ?_
  refine wX1_passOnSettled_L2 o1 hC hVC ho1 (fun A_1 h => ?_) 10000 (0 : Int32) A h
  exact wa_vret hC hQ (jA (sm0 h)) dX1_passOnSettled_38
set_option maxRecDepth 20000 in
theorem wX1_passOn_L10 {E : eU} {G : gU} {ρ : Nat → Nat → Nat} {V : Nat → Nat → Prop} {Z : sM} {A' : sM} (o1 : Nat) {k76 : sM → Option (sM)} (hC : CX E G cX1_passOn 5 RX1 none 4 0 0) (hVC : VC V) (ho1 : V 0 o1) (hk76 : ∀ (A : sM), k76 A = some A' → WA E G ρ V 0 0 (J A Z) 76 [(0, .ref (ρ 1 0)), (1, .ref (ρ 0 o1))] []) : ∀ (n : Nat) (x3 : Int32) (A : sM), fX1_passOn_L10 o1 k76 n x3 A = some A' → WA E G ρ V 0 0 (J A Z) 10 [(0, .ref (ρ 1 0)), (1, .ref (ρ 0 o1)), (2, .ref (ρ 17 0)), (3, .int x3)] [] := by
  intro n
  induction n with
  | zero =>
    intro x3 A h
    rw [fX1_passOn_L10] at h
    cases h
  | succ n ih =>
    intro x3 A h
    rw [fX1_passOn_L10] at h
    refine wa_iload_n 11 3 hC dX1_passOn_10 rfl 3 rfl rfl ?_
    refine wa_aload_n 12 1 hC dX1_passOn_11 rfl 1 rfl rfl ?_
    refine wa_getIc 15 hC ho1 sh0_3 rfl flX1_25 dX1_passOn_12 rfl ?_
    refine wa_icmp_ge 18 76 hC dX1_passOn_15 rfl rfl h (fun h => ?_) (fun h => ?_)
    · refine wa_pick [0, 1] rfl ?_
      exact hk76 A h
    · refine wa_aload_n 19 1 hC dX1_passOn_18 rfl 1 rfl rfl ?_
      refine wa_getR 22 hC ho1 (sr0_2 _) flX1_31 dX1_passOn_19 rfl ?_
      refine wa_iload_n 23 3 hC dX1_passOn_22 rfl 3 rfl rfl ?_
      obtain ⟨g_1, h⟩ := gd_some h
      refine wa_aald 24 hC (vc11 hVC ho1) g_1 dX1_passOn_23 rfl ?_
      refine wa_astore (lv' := [(4, .ref (ρ 8 (16 * o1 + x3.toNatClampNeg))), (0, .ref (ρ 1 0)), (1, .ref (ρ 0 o1)), (2, .ref (ρ 17 0)), (3, .int x3)]) 26 4 hC dX1_passOn_24 rfl (by decide) rfl rfl ?_
      refine wa_aload_n 27 0 hC dX1_passOn_26 rfl 1 rfl rfl ?_
      refine wa_getR 30 hC (vs1 hVC) (sr1_1 _) flX1_15 dX1_passOn_27 rfl ?_
      refine wa_iload_n 31 3 hC dX1_passOn_30 rfl 4 rfl rfl ?_
      refine wa_aload 33 4 hC dX1_passOn_31 0 rfl rfl ?_
      obtain ⟨r_2, e_16, h⟩ := bd_some h
      refine wa_callVi 36 hC [] [.int x3, .ref (ρ 13 0)] knX8_isActive mvX1_35 (tX8_isActive E.2.1 (16 * o1 + x3.toNatClampNeg) A hVC (vc8 hVC ho1 (inb_lt g_1)) e_16) (vc8 hVC ho1 (inb_lt g_1)) kc8 (Nat.le_of_ble_eq_true rfl) (Nat.le_of_ble_eq_true rfl) rfl (Nat.le_of_ble_eq_true rfl) dX1_passOn_33 rfl le00 rfl ?_
      obtain ⟨kj_4, ekj_4, h⟩ := ltb_k1 h
      have hkj_4 : ∀ (v_3 : Int64), kj_4 v_3 = some A' → WA E G ρ V 0 0 (J A Z) 46 [(0, .ref (ρ 1 0)), (1, .ref (ρ 0 o1)), (2, .ref (ρ 17 0)), (3, .int x3), (4, .ref (ρ 8 (16 * o1 + x3.toNatClampNeg)))] [.long v_3, .int x3, .ref (ρ 13 0)] := by
        intro v_3 h
        rw [ekj_4] at h
        obtain ⟨g_5, h⟩ := gd_some h
        obtain ⟨A_6, eA_6, h⟩ := ltb_some h
        refine wa_lastc 47 hC (vs13 hVC) ar13 rfl g_5 eA_6 dX1_passOn_46 rfl ?_
        refine wa_aload_n 48 1 hC dX1_passOn_47 rfl 1 rfl rfl ?_
        refine wa_aload 50 4 hC dX1_passOn_48 4 rfl rfl ?_
        obtain ⟨r_7, e_14, h⟩ := bd_some h
        refine wa_callSi 53 hC [.ref (ρ 0 o1), .ref (ρ 8 (16 * o1 + x3.toNatClampNeg))] [] knX1_hasAssignee msX1_41 (tX1_hasAssignee E.2.1 o1 (16 * o1 + x3.toNatClampNeg) A_6 hVC ho1 (vc8 hVC ho1 (inb_lt g_1)) e_14) (Nat.le_of_ble_eq_true rfl) (Nat.le_of_ble_eq_true rfl) rfl (Nat.le_of_ble_eq_true rfl) dX1_passOn_50 rfl le00 rfl ?_
        obtain ⟨kj_9, ekj_9, h⟩ := ltb_k1 h
        have hkj_9 : ∀ (A_8 : sM), kj_9 A_8 = some A' → WA E G ρ V 0 0 (J A_8 Z) 70 [(0, .ref (ρ 1 0)), (1, .ref (ρ 0 o1)), (2, .ref (ρ 17 0)), (3, .int x3)] [] := by
          intro A_8 h
          rw [ekj_9] at h
          obtain ⟨x3_10, ex3_10, h⟩ := ltb_some h
          refine wa_iinc (lv' := [(3, .int x3_10), (0, .ref (ρ 1 0)), (1, .ref (ρ 0 o1)), (2, .ref (ρ 17 0))]) 73 3 hC dX1_passOn_70 3 rfl (by rw [kc_1]; exact ex3_10) (by decide) rfl rfl ?_
          refine wa_goto 10 hC dX1_passOn_73 rfl ?_
          refine wa_pick [1, 2, 3, 0] rfl ?_
          exact ih x3_10 A_8 h
        clear ekj_9
        refine wa_if_eq 56 70 hC dX1_passOn_53 rfl rfl h (fun h => ?_) (fun h => ?_)
        · refine wa_pick [0, 1, 2, 3] rfl ?_
          exact hkj_9 A_6 h
        · refine wa_aload_n 57 0 hC dX1_passOn_56 rfl 0 rfl rfl ?_
          refine wa_getR 60 hC (vs1 hVC) (sr1_0 _) flX1_9 dX1_passOn_57 rfl ?_
          refine wa_aload 62 4 hC dX1_passOn_60 4 rfl rfl ?_
          refine wa_getIc 65 hC (vc8 hVC ho1 (inb_lt g_1)) sh8_5 rfl flX1_45 dX1_passOn_62 rfl ?_
          refine wa_dup2 66 hC dX1_passOn_65 rfl rfl rfl ?_
          obtain ⟨g_11, h⟩ := gd_some h
          refine wa_ialdc 67 hC (vs12 hVC) ar12 rfl g_11 dX1_passOn_66 rfl ?_
          refine wa_iconst 68 hC dX1_passOn_67 kc_1 rfl ?_
          refine wa_iadd 69 hC dX1_passOn_68 rfl ?_
          obtain ⟨g_12, h⟩ := gd_some h
          obtain ⟨A_13, eA_13, h⟩ := ltb_some h
          refine wa_iastc 70 hC (vs12 hVC) nk12 ar12 rfl g_12 eA_13 dX1_passOn_69 rfl ?_
          refine wa_pick [0, 1, 2, 3] rfl ?_
          exact hkj_9 A_13 h
      clear ekj_4
      refine wa_if_eq 39 45 hC dX1_passOn_36 rfl rfl h (fun h => ?_) (fun h => ?_)
      · refine wa_lconst 46 hC dX1_passOn_45 kl_0 rfl ?_
        refine wa_pick [1, 2, 3, 4, 0] rfl ?_
        exact hkj_4 (0 : Int64) h
      · refine wa_aload_n 40 2 hC dX1_passOn_39 rfl 3 rfl rfl ?_
        refine wa_iload_n 41 3 hC dX1_passOn_40 rfl 4 rfl rfl ?_
        obtain ⟨g_15, h⟩ := gd_some h
        refine wa_laldc 42 hC (vs17 hVC) ar17 rfl g_15 dX1_passOn_41 rfl ?_
        refine wa_goto 46 hC dX1_passOn_42 rfl ?_
        refine wa_pick [1, 2, 3, 4, 0] rfl ?_
        exact hkj_4 (A.2 17 0 0 x3.toNatClampNeg) h
set_option maxRecDepth 20000 in
theorem wX1_passOn_L78 {E : eU} {G : gU} {ρ : Nat → Nat → Nat} {V : Nat → Nat → Prop} {Z : sM} {A' : sM} (o1 : Nat) {k97 : sM → Option (sM)} (hC : CX E G cX1_passOn 5 RX1 none 4 0 0) (hVC : VC V) (ho1 : V 0 o1) (hk97 : ∀ (A : sM), k97 A = some A' → WA E G ρ V 0 0 (J A Z) 97 [] []) : ∀ (n : Nat) (x3 : Int32) (A : sM), fX1_passOn_L78 o1 k97 n x3 A = some A' → WA E G ρ V 0 0 (J A Z) 78 [(0, .ref (ρ 1 0)), (1, .ref (ρ 0 o1)), (3, .int x3)] [] := by
  intro n
  induction n with
  | zero =>
    intro x3 A h
    rw [fX1_passOn_L78] at h
    cases h
  | succ n ih =>
    intro x3 A h
    rw [fX1_passOn_L78] at h
    refine wa_iload_n 79 3 hC dX1_passOn_78 rfl 2 rfl rfl ?_
    refine wa_aload_n 80 1 hC dX1_passOn_79 rfl 1 rfl rfl ?_
    refine wa_getIc 83 hC ho1 sh0_3 rfl flX1_25 dX1_passOn_80 rfl ?_
    refine wa_icmp_ge 86 97 hC dX1_passOn_83 rfl rfl h (fun h => ?_) (fun h => ?_)
    · refine wa_pick [] rfl ?_
      exact hk97 A h
    · refine wa_aload_n 87 0 hC dX1_passOn_86 rfl 0 rfl rfl ?_
      refine wa_aload_n 88 1 hC dX1_passOn_87 rfl 1 rfl rfl ?_
      obtain ⟨A_1, e_3, h⟩ := bd_some h
      refine wa_callVv 91 hC [.ref (ρ 0 o1)] [] knX1_passOnSettled mvX1_48 (tX1_passOnSettled E.2.1 o1 A hVC ho1 e_3) (vs1 hVC) kc1 (Nat.le_of_ble_eq_true rfl) (Nat.le_of_ble_eq_true rfl) rfl (Nat.le_of_ble_eq_true rfl) dX1_passOn_88 rfl le00 rfl ?_
      obtain ⟨x3_2, ex3_2, h⟩ := ltb_some h
      refine wa_iinc (lv' := [(3, .int x3_2), (0, .ref (ρ 1 0)), (1, .ref (ρ 0 o1))]) 94 3 hC dX1_passOn_91 2 rfl (by rw [kc_1]; exact ex3_2) (by decide) rfl rfl ?_
      refine wa_goto 78 hC dX1_passOn_94 rfl ?_
      refine wa_pick [1, 2, 0] rfl ?_
      exact ih x3_2 A_1 h
set_option maxRecDepth 20000 in
theorem tX1_passOn (l : Launch) {G : gU} {ρ : Nat → Nat → Nat} {V : Nat → Nat → Prop} {Z : sM} (o1 : Nat) (A : sM) (_ : VC V) (ho1 : V 0 o1) {A' : sM} (h : fX1_passOn o1 A = some A') : MT l yX1_passOn cX1_passOn 5 none 4 G ρ V [.ref (ρ 1 0), .ref (ρ 0 o1), .ref (ρ 17 0)] (J A Z) none (J A' Z) := by
  refine vv_enter (lv := [(0, .ref (ρ 1 0)), (1, .ref (ρ 0 o1)), (2, .ref (ρ 17 0))]) RX1 rfl (by decide) (Nat.le_of_ble_eq_true rfl) rfl ?_
  intro E hE hC hQ hVC
  subst hE
  rw [fX1_passOn] at h
  refine wa_aload_n 1 0 hC dX1_passOn_0 rfl 0 rfl rfl ?_
  refine wa_getR 4 hC (vs1 hVC) (sr1_0 _) flX1_9 dX1_passOn_1 rfl ?_
  refine wa_iconst 5 hC dX1_passOn_4 kc_0 rfl ?_
  obtain ⟨A_1, eA_1, h⟩ := ltb_some h
  refine wa_fillI 8 hC afX1_19 (vs12 hVC) nk12 ar12 rfl (by decide) eA_1 (Nat.le_of_ble_eq_true rfl) (Nat.le_of_ble_eq_true rfl) dX1_passOn_5 rfl le00 ?_
  refine wa_iconst 9 hC dX1_passOn_8 kc_0 rfl ?_
  refine wa_istore_n (lv' := [(3, .int (0 : Int32)), (0, .ref (ρ 1 0)), (1, .ref (ρ 0 o1)), (2, .ref (ρ 17 0))]) 10 3 hC dX1_passOn_9 rfl rfl (by decide) rfl rfl ?_
  refine wa_pick [1, 2, 3, 0] rfl ?_
  refine wX1_passOn_L10 o1 hC hVC ho1 (fun A_2 h => ?_) 10000 (0 : Int32) A_1 h
  refine wa_iconst 77 hC dX1_passOn_76 kc_0 rfl ?_
  refine wa_istore_n (lv' := [(3, .int (0 : Int32)), (0, .ref (ρ 1 0)), (1, .ref (ρ 0 o1))]) 78 3 hC dX1_passOn_77 rfl rfl (by decide) rfl rfl ?_
  refine wa_pick [1, 2, 0] rfl ?_
  refine wX1_passOn_L78 o1 hC hVC ho1 (fun A_3 h => ?_) 10000 (0 : Int32) A_2 h
  exact wa_vret hC hQ (jA (sm0 h)) dX1_passOn_97
set_option maxRecDepth 20000 in
theorem tX8_takeCredit (l : Launch) {G : gU} {ρ : Nat → Nat → Nat} {V : Nat → Nat → Prop} {Z : sM} (o : Nat) (x1 : Int64) (x3 : Int32) (A : sM) (_ : VC V) (ho : V 8 o) {A' : sM} (h : fX8_takeCredit o x1 x3 A = some A') : MT l yX8_takeCredit cX8_takeCredit 6 none 2 G ρ V [.ref (ρ 8 o), .long x1, .int x3] (J A Z) none (J A' Z) := by
  refine vv_enter (lv := [(0, .ref (ρ 8 o)), (1, .long x1), (3, .int x3)]) RX8 rfl (by decide) (Nat.le_of_ble_eq_true rfl) rfl ?_
  intro E hE hC hQ hVC
  subst hE
  rw [fX8_takeCredit] at h
  refine wa_lload_n 1 1 hC dX8_takeCredit_0 rfl 1 rfl rfl ?_
  refine wa_aload_n 2 0 hC dX8_takeCredit_1 rfl 0 rfl rfl ?_
  refine wa_getR 5 hC ho (sr8_9 _) flX8_23 dX8_takeCredit_2 rfl ?_
  refine wa_iconst 6 hC dX8_takeCredit_5 kc_0 rfl ?_
  refine wa_laldc 7 hC (vc26 hVC ho) ar26 rfl (by decide) dX8_takeCredit_6 rfl ?_
  refine wa_mmin_long 10 hC maX8_63 (by decide) (Nat.le_of_ble_eq_true rfl) dX8_takeCredit_7 rfl le00 ?_
  obtain ⟨x4_2, ex4_2, h⟩ := ltb_some h
  refine wa_lstore (lv' := [(4, .long x4_2), (0, .ref (ρ 8 o)), (1, .long x1), (3, .int x3)]) 12 4 hC dX8_takeCredit_10 ex4_2 (by decide) rfl rfl ?_
  refine wa_aload_n 13 0 hC dX8_takeCredit_12 rfl 1 rfl rfl ?_
  refine wa_getR 16 hC ho (sr8_9 _) flX8_23 dX8_takeCredit_13 rfl ?_
  refine wa_iconst 17 hC dX8_takeCredit_16 kc_0 rfl ?_
  refine wa_dup2 18 hC dX8_takeCredit_17 rfl rfl rfl ?_
  refine wa_laldc 19 hC (vc26 hVC ho) ar26 rfl (by decide) dX8_takeCredit_18 rfl ?_
  refine wa_lload 21 4 hC dX8_takeCredit_19 0 rfl rfl ?_
  refine wa_lsub 22 hC dX8_takeCredit_21 rfl ?_
  obtain ⟨A_5, eA_5, h⟩ := ltb_some h
  refine wa_lastc 23 hC (vc26 hVC ho) ar26 rfl (by decide) eA_5 dX8_takeCredit_22 rfl ?_
  refine wa_iload_n 24 3 hC dX8_takeCredit_23 rfl 3 rfl rfl ?_
  refine wa_if_lt 27 49 hC dX8_takeCredit_24 rfl rfl h (fun h => ?_) (fun h => ?_)
  · exact wa_vret hC hQ (jA (sm0 h)) dX8_takeCredit_49
  · refine wa_iload_n 28 3 hC dX8_takeCredit_27 rfl 3 rfl rfl ?_
    refine wa_aload_n 29 0 hC dX8_takeCredit_28 rfl 1 rfl rfl ?_
    refine wa_getR 32 hC ho (sr8_8 _) flX8_19 dX8_takeCredit_29 rfl ?_
    refine wa_alen 33 hC (vc25 hVC ho) (a := 1) (by decide) rfl len_72 dX8_takeCredit_32 rfl ?_
    refine wa_icmp_ge 36 49 hC dX8_takeCredit_33 rfl rfl h (fun h => ?_) (fun h => ?_)
    · exact wa_vret hC hQ (jA (sm0 h)) dX8_takeCredit_49
    · refine wa_aload_n 37 0 hC dX8_takeCredit_36 rfl 1 rfl rfl ?_
      refine wa_getR 40 hC ho (sr8_8 _) flX8_19 dX8_takeCredit_37 rfl ?_
      refine wa_iload_n 41 3 hC dX8_takeCredit_40 rfl 3 rfl rfl ?_
      refine wa_dup2 42 hC dX8_takeCredit_41 rfl rfl rfl ?_
      obtain ⟨g_6, h⟩ := gd_some h
      refine wa_laldc 43 hC (vc25 hVC ho) ar25 rfl g_6 dX8_takeCredit_42 rfl ?_
      refine wa_lload_n 44 1 hC dX8_takeCredit_43 rfl 2 rfl rfl ?_
      refine wa_lload 46 4 hC dX8_takeCredit_44 0 rfl rfl ?_
      refine wa_lsub 47 hC dX8_takeCredit_46 rfl ?_
      refine wa_ladd 48 hC dX8_takeCredit_47 rfl ?_
      obtain ⟨g_7, h⟩ := gd_some h
      obtain ⟨A_8, eA_8, h⟩ := ltb_some h
      refine wa_lastc 49 hC (vc25 hVC ho) ar25 rfl g_7 eA_8 dX8_takeCredit_48 rfl ?_
      exact wa_vret hC hQ (jA (sm0 h)) dX8_takeCredit_49
set_option maxRecDepth 20000 in
theorem wX8_payFromLots_L5 {E : eU} {G : gU} {ρ : Nat → Nat → Nat} {V : Nat → Nat → Prop} {Z : sM} {r : Int64} {A' : sM} (o0 : Nat) {k57 : Int64 → sM → Option (Int64 × sM)} (hC : CX E G cX8_payFromLots 8 RX8 (some .long) 2 0 0) (hVC : VC V) (ho0 : V 8 o0) (hk57 : ∀ (x3 : Int64) (A : sM), k57 x3 A = some (r, A') → WA E G ρ V 0 0 (J A Z) 57 [(3, .long x3)] []) : ∀ (n : Nat) (x3 : Int64) (x5 : Int32) (A : sM), fX8_payFromLots_L5 o0 k57 n x3 x5 A = some (r, A') → WA E G ρ V 0 0 (J A Z) 5 [(0, .ref (ρ 8 o0)), (3, .long x3), (5, .int x5)] [] := by
  intro n
  induction n with
  | zero =>
    intro x3 x5 A h
    rw [fX8_payFromLots_L5] at h
    cases h
  | succ n ih =>
    intro x3 x5 A h
    rw [fX8_payFromLots_L5] at h
    refine wa_iload 7 5 hC dX8_payFromLots_5 2 rfl rfl ?_
    refine wa_aload_n 8 0 hC dX8_payFromLots_7 rfl 0 rfl rfl ?_
    refine wa_getR 11 hC ho0 (sr8_8 _) flX8_19 dX8_payFromLots_8 rfl ?_
    refine wa_alen 12 hC (vc25 hVC ho0) (a := 1) (by decide) rfl len_72 dX8_payFromLots_11 rfl ?_
    refine wa_icmp_ge 15 57 hC dX8_payFromLots_12 rfl rfl h (fun h => ?_) (fun h => ?_)
    · refine wa_pick [1] rfl ?_
      exact hk57 x3 A h
    · refine wa_lload_n 16 3 hC dX8_payFromLots_15 rfl 1 rfl rfl ?_
      refine wa_lconst 17 hC dX8_payFromLots_16 kl_0 rfl ?_
      refine wa_lcmp 18 hC dX8_payFromLots_17 rfl ?_
      refine wa_lcmp_le 21 57 hC dX8_payFromLots_18 rfl rfl h (fun h => ?_) (fun h => ?_)
      · refine wa_pick [1] rfl ?_
        exact hk57 x3 A h
      · refine wa_lload_n 22 3 hC dX8_payFromLots_21 rfl 1 rfl rfl ?_
        refine wa_aload_n 23 0 hC dX8_payFromLots_22 rfl 0 rfl rfl ?_
        refine wa_getR 26 hC ho0 (sr8_8 _) flX8_19 dX8_payFromLots_23 rfl ?_
        refine wa_iload 28 5 hC dX8_payFromLots_26 2 rfl rfl ?_
        obtain ⟨g_1, h⟩ := gd_some h
        refine wa_laldc 29 hC (vc25 hVC ho0) ar25 rfl g_1 dX8_payFromLots_28 rfl ?_
        refine wa_mmin_long 32 hC maX8_63 (by decide) (Nat.le_of_ble_eq_true rfl) dX8_payFromLots_29 rfl le00 ?_
        obtain ⟨x6_2, ex6_2, h⟩ := ltb_some h
        refine wa_lstore (lv' := [(6, .long x6_2), (0, .ref (ρ 8 o0)), (3, .long x3), (5, .int x5)]) 34 6 hC dX8_payFromLots_32 ex6_2 (by decide) rfl rfl ?_
        refine wa_aload_n 35 0 hC dX8_payFromLots_34 rfl 1 rfl rfl ?_
        refine wa_getR 38 hC ho0 (sr8_8 _) flX8_19 dX8_payFromLots_35 rfl ?_
        refine wa_iload 40 5 hC dX8_payFromLots_38 3 rfl rfl ?_
        refine wa_dup2 41 hC dX8_payFromLots_40 rfl rfl rfl ?_
        obtain ⟨g_3, h⟩ := gd_some h
        refine wa_laldc 42 hC (vc25 hVC ho0) ar25 rfl g_3 dX8_payFromLots_41 rfl ?_
        refine wa_lload 44 6 hC dX8_payFromLots_42 0 rfl rfl ?_
        refine wa_lsub 45 hC dX8_payFromLots_44 rfl ?_
        obtain ⟨g_4, h⟩ := gd_some h
        obtain ⟨A_5, eA_5, h⟩ := ltb_some h
        refine wa_lastc 46 hC (vc25 hVC ho0) ar25 rfl g_4 eA_5 dX8_payFromLots_45 rfl ?_
        refine wa_lload_n 47 3 hC dX8_payFromLots_46 rfl 2 rfl rfl ?_
        refine wa_lload 49 6 hC dX8_payFromLots_47 0 rfl rfl ?_
        refine wa_lsub 50 hC dX8_payFromLots_49 rfl ?_
        obtain ⟨x3_6, ex3_6, h⟩ := ltb_some h
        refine wa_lstore_n (lv' := [(3, .long x3_6), (6, .long x6_2), (0, .ref (ρ 8 o0)), (5, .int x5)]) 51 3 hC dX8_payFromLots_50 rfl ex3_6 (by decide) rfl rfl ?_
        obtain ⟨x5_7, ex5_7, h⟩ := ltb_some h
        refine wa_iinc (lv' := [(5, .int x5_7), (3, .long x3_6), (6, .long x6_2), (0, .ref (ρ 8 o0))]) 54 5 hC dX8_payFromLots_51 3 rfl (by rw [kc_1]; exact ex5_7) (by decide) rfl rfl ?_
        refine wa_goto 5 hC dX8_payFromLots_54 rfl ?_
        refine wa_pick [3, 1, 0] rfl ?_
        exact ih x3_6 x5_7 A_5 h
set_option maxRecDepth 20000 in
theorem tX8_payFromLots (l : Launch) {G : gU} {ρ : Nat → Nat → Nat} {V : Nat → Nat → Prop} {Z : sM} (o : Nat) (x1 : Int64) (A : sM) (_ : VC V) (ho : V 8 o) {r : Int64} {A' : sM} (h : fX8_payFromLots o x1 A = some (r, A')) : MT l yX8_payFromLots cX8_payFromLots 8 (some .long) 2 G ρ V [.ref (ρ 8 o), .long x1] (J A Z) (some (.long r)) (J A' Z) := by
  refine vv_enter (lv := [(0, .ref (ρ 8 o)), (1, .long x1)]) RX8 rfl (by decide) (Nat.le_of_ble_eq_true rfl) rfl ?_
  intro E hE hC hQ hVC
  subst hE
  rw [fX8_payFromLots] at h
  refine wa_lload_n 1 1 hC dX8_payFromLots_0 rfl 1 rfl rfl ?_
  refine wa_lstore_n (lv' := [(3, .long x1), (0, .ref (ρ 8 o)), (1, .long x1)]) 2 3 hC dX8_payFromLots_1 rfl rfl (by decide) rfl rfl ?_
  refine wa_iconst 3 hC dX8_payFromLots_2 kc_0 rfl ?_
  refine wa_istore (lv' := [(5, .int (0 : Int32)), (3, .long x1), (0, .ref (ρ 8 o)), (1, .long x1)]) 5 5 hC dX8_payFromLots_3 rfl (by decide) rfl rfl ?_
  refine wa_pick [2, 1, 0] rfl ?_
  refine wX8_payFromLots_L5 o hC hVC ho (fun x3_1 A_2 h => ?_) 10000 x1 (0 : Int32) A h
  refine wa_lload_n 58 3 hC dX8_payFromLots_57 rfl 0 rfl rfl ?_
  exact wa_lret hC hQ (sm1 h) (jA (sm2 h)) dX8_payFromLots_58
set_option maxRecDepth 20000 in
theorem tX8_payBill (l : Launch) {G : gU} {ρ : Nat → Nat → Nat} {V : Nat → Nat → Prop} {Z : sM} (o : Nat) (A : sM) (_ : VC V) (ho : V 8 o) {A' : sM} (h : fX8_payBill o A = some A') : MT l yX8_payBill cX8_payBill 5 none 3 G ρ V [.ref (ρ 8 o)] (J A Z) none (J A' Z) := by
  refine vv_enter (lv := [(0, .ref (ρ 8 o))]) RX8 rfl (by decide) (Nat.le_of_ble_eq_true rfl) rfl ?_
  intro E hE hC hQ hVC
  subst hE
  rw [fX8_payBill] at h
  refine wa_aload_n 1 0 hC dX8_payBill_0 rfl 0 rfl rfl ?_
  refine wa_getR 4 hC ho (sr8_9 _) flX8_23 dX8_payBill_1 rfl ?_
  refine wa_iconst 5 hC dX8_payBill_4 kc_1 rfl ?_
  refine wa_laldc 6 hC (vc26 hVC ho) ar26 rfl (by decide) dX8_payBill_5 rfl ?_
  obtain ⟨x1_2, ex1_2, h⟩ := ltb_some h
  refine wa_lstore_n (lv' := [(1, .long x1_2), (0, .ref (ρ 8 o))]) 7 1 hC dX8_payBill_6 rfl ex1_2 (by decide) rfl rfl ?_
  refine wa_aload_n 8 0 hC dX8_payBill_7 rfl 1 rfl rfl ?_
  refine wa_lload_n 9 1 hC dX8_payBill_8 rfl 0 rfl rfl ?_
  obtain ⟨r_4, A_3, e_13, h⟩ := bd2_some h
  refine wa_callVl 12 hC [.long x1_2] [] knX8_payFromLots mvX8_69 (tX8_payFromLots E.2.1 o x1_2 A hVC ho e_13) ho kc8 (Nat.le_of_ble_eq_true rfl) (Nat.le_of_ble_eq_true rfl) rfl (Nat.le_of_ble_eq_true rfl) dX8_payBill_9 rfl le00 rfl ?_
  refine wa_lstore_n (lv' := [(3, .long r_4), (1, .long x1_2), (0, .ref (ρ 8 o))]) 13 3 hC dX8_payBill_12 rfl rfl (by decide) rfl rfl ?_
  refine wa_aload_n 14 0 hC dX8_payBill_13 rfl 2 rfl rfl ?_
  refine wa_getR 17 hC ho (sr8_9 _) flX8_23 dX8_payBill_14 rfl ?_
  refine wa_iconst 18 hC dX8_payBill_17 kc_4 rfl ?_
  refine wa_dup2 19 hC dX8_payBill_18 rfl rfl rfl ?_
  refine wa_laldc 20 hC (vc26 hVC ho) ar26 rfl (by decide) dX8_payBill_19 rfl ?_
  refine wa_lload_n 21 1 hC dX8_payBill_20 rfl 1 rfl rfl ?_
  refine wa_lload_n 22 3 hC dX8_payBill_21 rfl 0 rfl rfl ?_
  refine wa_lsub 23 hC dX8_payBill_22 rfl ?_
  refine wa_ladd 24 hC dX8_payBill_23 rfl ?_
  obtain ⟨A_7, eA_7, h⟩ := ltb_some h
  refine wa_lastc 25 hC (vc26 hVC ho) ar26 rfl (by decide) eA_7 dX8_payBill_24 rfl ?_
  refine wa_aload_n 26 0 hC dX8_payBill_25 rfl 2 rfl rfl ?_
  refine wa_getR 29 hC ho (sr8_9 _) flX8_23 dX8_payBill_26 rfl ?_
  refine wa_iconst 30 hC dX8_payBill_29 kc_2 rfl ?_
  refine wa_dup2 31 hC dX8_payBill_30 rfl rfl rfl ?_
  refine wa_laldc 32 hC (vc26 hVC ho) ar26 rfl (by decide) dX8_payBill_31 rfl ?_
  refine wa_lload_n 33 3 hC dX8_payBill_32 rfl 0 rfl rfl ?_
  refine wa_ladd 34 hC dX8_payBill_33 rfl ?_
  obtain ⟨A_10, eA_10, h⟩ := ltb_some h
  refine wa_lastc 35 hC (vc26 hVC ho) ar26 rfl (by decide) eA_10 dX8_payBill_34 rfl ?_
  refine wa_aload_n 36 0 hC dX8_payBill_35 rfl 2 rfl rfl ?_
  refine wa_getR 39 hC ho (sr8_9 _) flX8_23 dX8_payBill_36 rfl ?_
  refine wa_iconst 40 hC dX8_payBill_39 kc_1 rfl ?_
  refine wa_lconst 41 hC dX8_payBill_40 kl_0 rfl ?_
  obtain ⟨A_12, eA_12, h⟩ := ltb_some h
  refine wa_lastc 42 hC (vc26 hVC ho) ar26 rfl (by decide) eA_12 dX8_payBill_41 rfl ?_
  exact wa_vret hC hQ (jA (sm0 h)) dX8_payBill_42
set_option maxRecDepth 20000 in
theorem tX8_takeExpiredLot (l : Launch) {G : gU} {ρ : Nat → Nat → Nat} {V : Nat → Nat → Prop} {Z : sM} (o : Nat) (x1 : Int32) (A : sM) (_ : VC V) (ho : V 8 o) {r : Int64} {A' : sM} (h : fX8_takeExpiredLot o x1 A = some (r, A')) : MT l yX8_takeExpiredLot cX8_takeExpiredLot 4 (some .long) 1 G ρ V [.ref (ρ 8 o), .int x1] (J A Z) (some (.long r)) (J A' Z) := by
  refine vv_enter (lv := [(0, .ref (ρ 8 o)), (1, .int x1)]) RX8 rfl (by decide) (Nat.le_of_ble_eq_true rfl) rfl ?_
  intro E hE hC hQ hVC
  subst hE
  rw [fX8_takeExpiredLot] at h
  refine wa_iload_n 1 1 hC dX8_takeExpiredLot_0 rfl 1 rfl rfl ?_
  refine wa_if_lt 4 13 hC dX8_takeExpiredLot_1 rfl rfl h (fun h => ?_) (fun h => ?_)
  · refine wa_lconst 14 hC dX8_takeExpiredLot_13 kl_0 rfl ?_
    exact wa_lret hC hQ (sm1 h) (jA (sm2 h)) dX8_takeExpiredLot_14
  · refine wa_iload_n 5 1 hC dX8_takeExpiredLot_4 rfl 1 rfl rfl ?_
    refine wa_aload_n 6 0 hC dX8_takeExpiredLot_5 rfl 0 rfl rfl ?_
    refine wa_getR 9 hC ho (sr8_8 _) flX8_19 dX8_takeExpiredLot_6 rfl ?_
    refine wa_alen 10 hC (vc25 hVC ho) (a := 1) (by decide) rfl len_72 dX8_takeExpiredLot_9 rfl ?_
    refine wa_icmp_lt 13 15 hC dX8_takeExpiredLot_10 rfl rfl h (fun h => ?_) (fun h => ?_)
    · refine wa_aload_n 16 0 hC dX8_takeExpiredLot_15 rfl 0 rfl rfl ?_
      refine wa_getR 19 hC ho (sr8_8 _) flX8_19 dX8_takeExpiredLot_16 rfl ?_
      refine wa_iload_n 20 1 hC dX8_takeExpiredLot_19 rfl 1 rfl rfl ?_
      obtain ⟨g_1, h⟩ := gd_some h
      refine wa_laldc 21 hC (vc25 hVC ho) ar25 rfl g_1 dX8_takeExpiredLot_20 rfl ?_
      obtain ⟨x2_2, ex2_2, h⟩ := ltb_some h
      refine wa_lstore_n (lv' := [(2, .long x2_2), (0, .ref (ρ 8 o)), (1, .int x1)]) 22 2 hC dX8_takeExpiredLot_21 rfl ex2_2 (by decide) rfl rfl ?_
      refine wa_aload_n 23 0 hC dX8_takeExpiredLot_22 rfl 1 rfl rfl ?_
      refine wa_getR 26 hC ho (sr8_8 _) flX8_19 dX8_takeExpiredLot_23 rfl ?_
      refine wa_iload_n 27 1 hC dX8_takeExpiredLot_26 rfl 2 rfl rfl ?_
      refine wa_lconst 28 hC dX8_takeExpiredLot_27 kl_0 rfl ?_
      obtain ⟨g_3, h⟩ := gd_some h
      obtain ⟨A_4, eA_4, h⟩ := ltb_some h
      refine wa_lastc 29 hC (vc25 hVC ho) ar25 rfl g_3 eA_4 dX8_takeExpiredLot_28 rfl ?_
      refine wa_aload_n 30 0 hC dX8_takeExpiredLot_29 rfl 1 rfl rfl ?_
      refine wa_getR 33 hC ho (sr8_9 _) flX8_23 dX8_takeExpiredLot_30 rfl ?_
      refine wa_iconst 34 hC dX8_takeExpiredLot_33 kc_5 rfl ?_
      refine wa_dup2 35 hC dX8_takeExpiredLot_34 rfl rfl rfl ?_
      refine wa_laldc 36 hC (vc26 hVC ho) ar26 rfl (by decide) dX8_takeExpiredLot_35 rfl ?_
      refine wa_lload_n 37 2 hC dX8_takeExpiredLot_36 rfl 0 rfl rfl ?_
      refine wa_ladd 38 hC dX8_takeExpiredLot_37 rfl ?_
      obtain ⟨A_7, eA_7, h⟩ := ltb_some h
      refine wa_lastc 39 hC (vc26 hVC ho) ar26 rfl (by decide) eA_7 dX8_takeExpiredLot_38 rfl ?_
      refine wa_lload_n 40 2 hC dX8_takeExpiredLot_39 rfl 0 rfl rfl ?_
      exact wa_lret hC hQ (sm1 h) (jA (sm2 h)) dX8_takeExpiredLot_40
    · refine wa_lconst 14 hC dX8_takeExpiredLot_13 kl_0 rfl ?_
      exact wa_lret hC hQ (sm1 h) (jA (sm2 h)) dX8_takeExpiredLot_14
set_option maxRecDepth 20000 in
theorem tX8_finishMonth (l : Launch) {G : gU} {ρ : Nat → Nat → Nat} {V : Nat → Nat → Prop} {Z : sM} (o : Nat) (x1 : Int64) (x3 : Int32) (x4 : Int32) (A : sM) (_ : VC V) (ho : V 8 o) {r : Int64} {A' : sM} (h : fX8_finishMonth o x1 x3 x4 A = some (r, A')) : MT l yX8_finishMonth cX8_finishMonth 5 (some .long) 4 G ρ V [.ref (ρ 8 o), .long x1, .int x3, .int x4] (J A Z) (some (.long r)) (J A' Z) := by
  refine vv_enter (lv := [(0, .ref (ρ 8 o)), (1, .long x1), (3, .int x3), (4, .int x4)]) RX8 rfl (by decide) (Nat.le_of_ble_eq_true rfl) rfl ?_
  intro E hE hC hQ hVC
  subst hE
  rw [fX8_finishMonth] at h
  refine wa_aload_n 1 0 hC dX8_finishMonth_0 rfl 0 rfl rfl ?_
  refine wa_lload_n 2 1 hC dX8_finishMonth_1 rfl 1 rfl rfl ?_
  refine wa_iload_n 3 3 hC dX8_finishMonth_2 rfl 2 rfl rfl ?_
  obtain ⟨A_1, e_7, h⟩ := bd_some h
  refine wa_callVv 6 hC [.long x1, .int x3] [] knX8_takeCredit mvX8_73 (tX8_takeCredit E.2.1 o x1 x3 A hVC ho e_7) ho kc8 (Nat.le_of_ble_eq_true rfl) (Nat.le_of_ble_eq_true rfl) rfl (Nat.le_of_ble_eq_true rfl) dX8_finishMonth_3 rfl le00 rfl ?_
  refine wa_aload_n 7 0 hC dX8_finishMonth_6 rfl 0 rfl rfl ?_
  obtain ⟨A_2, e_6, h⟩ := bd_some h
  refine wa_callVv 10 hC [] [] knX8_payBill mvX8_77 (tX8_payBill E.2.1 o A_1 hVC ho e_6) ho kc8 (Nat.le_of_ble_eq_true rfl) (Nat.le_of_ble_eq_true rfl) rfl (Nat.le_of_ble_eq_true rfl) dX8_finishMonth_7 rfl le00 rfl ?_
  refine wa_aload_n 11 0 hC dX8_finishMonth_10 rfl 0 rfl rfl ?_
  refine wa_iload_n 12 3 hC dX8_finishMonth_11 rfl 2 rfl rfl ?_
  refine wa_iload 14 4 hC dX8_finishMonth_12 3 rfl rfl ?_
  refine wa_isub 15 hC dX8_finishMonth_14 rfl ?_
  obtain ⟨r_4, A_3, e_5, h⟩ := bd2_some h
  refine wa_callVl 18 hC [.int (x3 - x4)] [] knX8_takeExpiredLot mvX8_80 (tX8_takeExpiredLot E.2.1 o (x3 - x4) A_2 hVC ho e_5) ho kc8 (Nat.le_of_ble_eq_true rfl) (Nat.le_of_ble_eq_true rfl) rfl (Nat.le_of_ble_eq_true rfl) dX8_finishMonth_15 rfl le00 rfl ?_
  exact wa_lret hC hQ (sm1 h) (jA (sm2 h)) dX8_finishMonth_18
set_option maxRecDepth 20000 in
theorem wX0_closeMonth_L15 {E : eU} {G : gU} {ρ : Nat → Nat → Nat} {V : Nat → Nat → Prop} {Z : sM} {A' : sM} (o0 : Nat) {k88 : sM → Option (sM)} (hC : CX E G cX0_closeMonth 5 RX0 none 5 0 0) (hVC : VC V) (ho0 : V 0 o0) (hk88 : ∀ (A : sM), k88 A = some A' → WA E G ρ V 0 0 (J A Z) 88 [(0, .ref (ρ 0 o0))] []) : ∀ (n : Nat) (x3 : Int32) (A : sM), fX0_closeMonth_L15 o0 k88 n x3 A = some A' → WA E G ρ V 0 0 (J A Z) 15 [(0, .ref (ρ 0 o0)), (1, .ref (ρ 17 0)), (2, .ref (ρ 13 0)), (3, .int x3)] [] := by
  intro n
  induction n with
  | zero =>
    intro x3 A h
    rw [fX0_closeMonth_L15] at h
    cases h
  | succ n ih =>
    intro x3 A h
    rw [fX0_closeMonth_L15] at h
    refine wa_iload_n 16 3 hC dX0_closeMonth_15 rfl 3 rfl rfl ?_
    refine wa_aload_n 17 0 hC dX0_closeMonth_16 rfl 0 rfl rfl ?_
    refine wa_getIc 20 hC ho0 sh0_3 rfl flX0_39 dX0_closeMonth_17 rfl ?_
    refine wa_icmp_ge 23 88 hC dX0_closeMonth_20 rfl rfl h (fun h => ?_) (fun h => ?_)
    · refine wa_pick [0] rfl ?_
      exact hk88 A h
    · refine wa_aload_n 24 0 hC dX0_closeMonth_23 rfl 0 rfl rfl ?_
      refine wa_getR 27 hC ho0 (sr0_2 _) flX0_27 dX0_closeMonth_24 rfl ?_
      refine wa_iload_n 28 3 hC dX0_closeMonth_27 rfl 3 rfl rfl ?_
      obtain ⟨g_1, h⟩ := gd_some h
      refine wa_aald 29 hC (vc11 hVC ho0) g_1 dX0_closeMonth_28 rfl ?_
      refine wa_astore (lv' := [(4, .ref (ρ 8 (16 * o0 + x3.toNatClampNeg))), (0, .ref (ρ 0 o0)), (1, .ref (ρ 17 0)), (2, .ref (ρ 13 0)), (3, .int x3)]) 31 4 hC dX0_closeMonth_29 rfl (by decide) rfl rfl ?_
      refine wa_aload 33 4 hC dX0_closeMonth_31 0 rfl rfl ?_
      obtain ⟨r_2, e_13, h⟩ := bd_some h
      refine wa_callVi 36 hC [] [] knX8_isActive mvX0_113 (tX8_isActive E.2.1 (16 * o0 + x3.toNatClampNeg) A hVC (vc8 hVC ho0 (inb_lt g_1)) e_13) (vc8 hVC ho0 (inb_lt g_1)) kc8 (Nat.le_of_ble_eq_true rfl) (Nat.le_of_ble_eq_true rfl) rfl (Nat.le_of_ble_eq_true rfl) dX0_closeMonth_33 rfl le00 rfl ?_
      obtain ⟨kj_4, ekj_4, h⟩ := ltb_k1 h
      have hkj_4 : ∀ (A_3 : sM), kj_4 A_3 = some A' → WA E G ρ V 0 0 (J A_3 Z) 82 [(0, .ref (ρ 0 o0)), (1, .ref (ρ 17 0)), (2, .ref (ρ 13 0)), (3, .int x3)] [] := by
        intro A_3 h
        rw [ekj_4] at h
        obtain ⟨x3_5, ex3_5, h⟩ := ltb_some h
        refine wa_iinc (lv' := [(3, .int x3_5), (0, .ref (ρ 0 o0)), (1, .ref (ρ 17 0)), (2, .ref (ρ 13 0))]) 85 3 hC dX0_closeMonth_82 3 rfl (by rw [kc_1]; exact ex3_5) (by decide) rfl rfl ?_
        refine wa_goto 15 hC dX0_closeMonth_85 rfl ?_
        refine wa_pick [1, 2, 3, 0] rfl ?_
        exact ih x3_5 A_3 h
      clear ekj_4
      refine wa_if_eq 39 70 hC dX0_closeMonth_36 rfl rfl h (fun h => ?_) (fun h => ?_)
      · refine wa_aload_n 71 0 hC dX0_closeMonth_70 rfl 1 rfl rfl ?_
        refine wa_dup 72 hC dX0_closeMonth_71 rfl rfl ?_
        refine wa_getLc 75 hC ho0 sh0_6 rfl flX0_49 dX0_closeMonth_72 rfl ?_
        refine wa_aload_n 76 1 hC dX0_closeMonth_75 rfl 2 rfl rfl ?_
        refine wa_iload_n 77 3 hC dX0_closeMonth_76 rfl 4 rfl rfl ?_
        obtain ⟨g_6, h⟩ := gd_some h
        refine wa_laldc 78 hC (vs17 hVC) ar17 rfl g_6 dX0_closeMonth_77 rfl ?_
        refine wa_ladd 79 hC dX0_closeMonth_78 rfl ?_
        obtain ⟨A_7, eA_7, h⟩ := ltb_some h
        refine wa_putLc 82 hC ho0 eA_7 sh0_6 rfl fpX0_49 dX0_closeMonth_79 rfl ?_
        refine wa_pick [1, 2, 3, 4] rfl ?_
        exact hkj_4 A_7 h
      · refine wa_aload_n 40 0 hC dX0_closeMonth_39 rfl 1 rfl rfl ?_
        refine wa_dup 41 hC dX0_closeMonth_40 rfl rfl ?_
        refine wa_getLc 44 hC ho0 sh0_6 rfl flX0_49 dX0_closeMonth_41 rfl ?_
        refine wa_aload 46 4 hC dX0_closeMonth_44 0 rfl rfl ?_
        refine wa_aload_n 47 2 hC dX0_closeMonth_46 rfl 3 rfl rfl ?_
        refine wa_iload_n 48 3 hC dX0_closeMonth_47 rfl 4 rfl rfl ?_
        obtain ⟨g_8, h⟩ := gd_some h
        refine wa_laldc 49 hC (vs13 hVC) ar13 rfl g_8 dX0_closeMonth_48 rfl ?_
        refine wa_aload_n 50 0 hC dX0_closeMonth_49 rfl 1 rfl rfl ?_
        refine wa_getIc 53 hC ho0 sh0_4 rfl flX0_43 dX0_closeMonth_50 rfl ?_
        refine wa_aload_n 54 0 hC dX0_closeMonth_53 rfl 1 rfl rfl ?_
        refine wa_getR 57 hC ho0 (sr0_0 _) flX0_12 dX0_closeMonth_54 rfl ?_
        refine wa_getIc 60 hC (vc4 hVC ho0) sh4_1 rfl flX0_140 dX0_closeMonth_57 rfl ?_
        obtain ⟨r_10, A_9, e_12, h⟩ := bd2_some h
        refine wa_callVl 63 hC [.long (A.2 13 0 0 x3.toNatClampNeg), .int (A.1 0 4 o0 0), .int (A.1 4 1 o0 0)] [.long (A.2 0 6 o0 0), .ref (ρ 0 o0)] knX8_finishMonth mvX0_143 (tX8_finishMonth E.2.1 (16 * o0 + x3.toNatClampNeg) (A.2 13 0 0 x3.toNatClampNeg) (A.1 0 4 o0 0) (A.1 4 1 o0 0) A hVC (vc8 hVC ho0 (inb_lt g_1)) e_12) (vc8 hVC ho0 (inb_lt g_1)) kc8 (Nat.le_of_ble_eq_true rfl) (Nat.le_of_ble_eq_true rfl) rfl (Nat.le_of_ble_eq_true rfl) dX0_closeMonth_60 rfl le00 rfl ?_
        refine wa_ladd 64 hC dX0_closeMonth_63 rfl ?_
        obtain ⟨A_11, eA_11, h⟩ := ltb_some h
        refine wa_putLc 67 hC ho0 eA_11 sh0_6 rfl fpX0_49 dX0_closeMonth_64 rfl ?_
        refine wa_goto 82 hC dX0_closeMonth_67 rfl ?_
        refine wa_pick [1, 2, 3, 4] rfl ?_
        exact hkj_4 A_11 h
set_option maxRecDepth 20000 in
theorem tX0_closeMonth (l : Launch) {G : gU} {ρ : Nat → Nat → Nat} {V : Nat → Nat → Prop} {Z : sM} (o : Nat) (A : sM) (_ : VC V) (ho : V 0 o) {A' : sM} (h : fX0_closeMonth o A = some A') : MT l yX0_closeMonth cX0_closeMonth 5 none 5 G ρ V [.ref (ρ 0 o), .ref (ρ 17 0), .ref (ρ 13 0)] (J A Z) none (J A' Z) := by
  refine vv_enter (lv := [(0, .ref (ρ 0 o)), (1, .ref (ρ 17 0)), (2, .ref (ρ 13 0))]) RX0 rfl (by decide) (Nat.le_of_ble_eq_true rfl) rfl ?_
  intro E hE hC hQ hVC
  subst hE
  rw [fX0_closeMonth] at h
  refine wa_aload_n 1 0 hC dX0_closeMonth_0 rfl 0 rfl rfl ?_
  refine wa_dup 2 hC dX0_closeMonth_1 rfl rfl ?_
  refine wa_getLc 5 hC ho sh0_7 rfl flX0_53 dX0_closeMonth_2 rfl ?_
  refine wa_aload_n 6 1 hC dX0_closeMonth_5 rfl 1 rfl rfl ?_
  refine wa_bipush 8 hC dX0_closeMonth_6 kb_16 rfl ?_
  refine wa_laldc 9 hC (vs17 hVC) ar17 rfl (by decide) dX0_closeMonth_8 rfl ?_
  refine wa_ladd 10 hC dX0_closeMonth_9 rfl ?_
  obtain ⟨A_2, eA_2, h⟩ := ltb_some h
  refine wa_putLc 13 hC ho eA_2 sh0_7 rfl fpX0_53 dX0_closeMonth_10 rfl ?_
  refine wa_iconst 14 hC dX0_closeMonth_13 kc_0 rfl ?_
  refine wa_istore_n (lv' := [(3, .int (0 : Int32)), (0, .ref (ρ 0 o)), (1, .ref (ρ 17 0)), (2, .ref (ρ 13 0))]) 15 3 hC dX0_closeMonth_14 rfl rfl (by decide) rfl rfl ?_
  refine wa_pick [1, 2, 3, 0] rfl ?_
  refine wX0_closeMonth_L15 o hC hVC ho (fun A_3 h => ?_) 10000 (0 : Int32) A_2 h
  refine wa_aload_n 89 0 hC dX0_closeMonth_88 rfl 0 rfl rfl ?_
  refine wa_dup 90 hC dX0_closeMonth_89 rfl rfl ?_
  refine wa_getIc 93 hC ho sh0_4 rfl flX0_43 dX0_closeMonth_90 rfl ?_
  refine wa_iconst 94 hC dX0_closeMonth_93 kc_1 rfl ?_
  refine wa_iadd 95 hC dX0_closeMonth_94 rfl ?_
  obtain ⟨A_4, eA_4, h⟩ := ltb_some h
  refine wa_putIc 98 hC ho nk0 eA_4 sh0_4 rfl fpX0_43 dX0_closeMonth_95 rfl ?_
  refine wa_aload_n 99 0 hC dX0_closeMonth_98 rfl 0 rfl rfl ?_
  refine wa_iconst 100 hC dX0_closeMonth_99 kc_0 rfl ?_
  obtain ⟨A_5, eA_5, h⟩ := ltb_some h
  refine wa_putIc 103 hC ho nk0 eA_5 sh0_5 rfl fpX0_46 dX0_closeMonth_100 rfl ?_
  exact wa_vret hC hQ (jA (sm0 h)) dX0_closeMonth_103
set_option maxRecDepth 20000 in
theorem wX0_operatorShareDays_L31 {E : eU} {G : gU} {ρ : Nat → Nat → Nat} {V : Nat → Nat → Prop} {Z : sM} {r : Int32} (o0 : Nat) (x1 : Int32) (A : sM) {k61 : Int32 → Option (Int32)} (hC : CX E G cX0_operatorShareDays 5 RX0 (some .int) 1 0 0) (hVC : VC V) (ho0 : V 0 o0) (hk61 : ∀ (x3 : Int32), k61 x3 = some r → WA E G ρ V 0 0 (J A Z) 61 [(3, .int x3)] []) : ∀ (n : Nat) (x3 : Int32) (x4 : Int32), fX0_operatorShareDays_L31 o0 x1 A k61 n x3 x4 = some r → WA E G ρ V 0 0 (J A Z) 31 [(0, .ref (ρ 0 o0)), (1, .int x1), (3, .int x3), (4, .int x4)] [] := by
  intro n
  induction n with
  | zero =>
    intro x3 x4 h
    rw [fX0_operatorShareDays_L31] at h
    cases h
  | succ n ih =>
    intro x3 x4 h
    rw [fX0_operatorShareDays_L31] at h
    refine wa_iload 33 4 hC dX0_operatorShareDays_31 3 rfl rfl ?_
    refine wa_aload_n 34 0 hC dX0_operatorShareDays_33 rfl 0 rfl rfl ?_
    refine wa_getIc 37 hC ho0 sh0_3 rfl flX0_39 dX0_operatorShareDays_34 rfl ?_
    refine wa_icmp_ge 40 61 hC dX0_operatorShareDays_37 rfl rfl h (fun h => ?_) (fun h => ?_)
    · refine wa_pick [2] rfl ?_
      exact hk61 x3 h
    · refine wa_iload_n 41 3 hC dX0_operatorShareDays_40 rfl 2 rfl rfl ?_
      refine wa_aload_n 42 0 hC dX0_operatorShareDays_41 rfl 0 rfl rfl ?_
      refine wa_getR 45 hC ho0 (sr0_2 _) flX0_27 dX0_operatorShareDays_42 rfl ?_
      refine wa_iload 47 4 hC dX0_operatorShareDays_45 3 rfl rfl ?_
      obtain ⟨g_1, h⟩ := gd_some h
      refine wa_aald 48 hC (vc11 hVC ho0) g_1 dX0_operatorShareDays_47 rfl ?_
      refine wa_getR 51 hC (vc8 hVC ho0 (inb_lt g_1)) (sr8_7 _) flX0_132 dX0_operatorShareDays_48 rfl ?_
      refine wa_iload_n 52 1 hC dX0_operatorShareDays_51 rfl 1 rfl rfl ?_
      obtain ⟨g_2, h⟩ := gd_some h
      refine wa_ialdc 53 hC (vc24 hVC (vc8 hVC ho0 (inb_lt g_1))) ar24 rfl g_2 dX0_operatorShareDays_52 rfl ?_
      refine wa_isub 54 hC dX0_operatorShareDays_53 rfl ?_
      obtain ⟨x3_3, ex3_3, h⟩ := ltb_some h
      refine wa_istore_n (lv' := [(3, .int x3_3), (0, .ref (ρ 0 o0)), (1, .int x1), (4, .int x4)]) 55 3 hC dX0_operatorShareDays_54 rfl ex3_3 (by decide) rfl rfl ?_
      obtain ⟨x4_4, ex4_4, h⟩ := ltb_some h
      refine wa_iinc (lv' := [(4, .int x4_4), (3, .int x3_3), (0, .ref (ρ 0 o0)), (1, .int x1)]) 58 4 hC dX0_operatorShareDays_55 3 rfl (by rw [kc_1]; exact ex4_4) (by decide) rfl rfl ?_
      refine wa_goto 31 hC dX0_operatorShareDays_58 rfl ?_
      refine wa_pick [2, 3, 1, 0] rfl ?_
      exact ih x3_3 x4_4 h
set_option maxRecDepth 20000 in
theorem tX0_operatorShareDays (l : Launch) {G : gU} {ρ : Nat → Nat → Nat} {V : Nat → Nat → Prop} {Z : sM} (o : Nat) (x1 : Int32) (A : sM) (_ : VC V) (ho : V 0 o) {r : Int32} (h : fX0_operatorShareDays o x1 A = some r) : MT l yX0_operatorShareDays cX0_operatorShareDays 5 (some .int) 1 G ρ V [.ref (ρ 0 o), .int x1] (J A Z) (some (.int r)) (J A Z) := by
  refine vv_enter (lv := [(0, .ref (ρ 0 o)), (1, .int x1)]) RX0 rfl (by decide) (Nat.le_of_ble_eq_true rfl) rfl ?_
  intro E hE hC hQ hVC
  subst hE
  rw [fX0_operatorShareDays] at h
  refine wa_iload_n 1 1 hC dX0_operatorShareDays_0 rfl 1 rfl rfl ?_
  refine wa_aload_n 2 0 hC dX0_operatorShareDays_1 rfl 0 rfl rfl ?_
  refine wa_getIc 5 hC ho sh0_4 rfl flX0_43 dX0_operatorShareDays_2 rfl ?_
  obtain ⟨kj_2, ekj_2, h⟩ := ltb_k1 h
  have hkj_2 : ∀ (v_1 : Int32), kj_2 v_1 = some r → WA E G ρ V 0 0 (J A Z) 17 [(0, .ref (ρ 0 o)), (1, .int x1)] [.int v_1] := by
    intro v_1 h
    rw [ekj_2] at h
    refine wa_istore_n (lv' := [(2, .int v_1), (0, .ref (ρ 0 o)), (1, .int x1)]) 18 2 hC dX0_operatorShareDays_17 rfl rfl (by decide) rfl rfl ?_
    refine wa_iload_n 19 2 hC dX0_operatorShareDays_18 rfl 0 rfl rfl ?_
    refine wa_aload_n 20 0 hC dX0_operatorShareDays_19 rfl 1 rfl rfl ?_
    refine wa_getR 23 hC ho (sr0_0 _) flX0_12 dX0_operatorShareDays_20 rfl ?_
    refine wa_getIc 26 hC (vc4 hVC ho) sh4_0 rfl flX0_72 dX0_operatorShareDays_23 rfl ?_
    refine wa_imul 27 hC dX0_operatorShareDays_26 rfl ?_
    obtain ⟨x3_3, ex3_3, h⟩ := ltb_some h
    refine wa_istore_n (lv' := [(3, .int x3_3), (2, .int v_1), (0, .ref (ρ 0 o)), (1, .int x1)]) 28 3 hC dX0_operatorShareDays_27 rfl ex3_3 (by decide) rfl rfl ?_
    refine wa_iconst 29 hC dX0_operatorShareDays_28 kc_0 rfl ?_
    refine wa_istore (lv' := [(4, .int (0 : Int32)), (3, .int x3_3), (2, .int v_1), (0, .ref (ρ 0 o)), (1, .int x1)]) 31 4 hC dX0_operatorShareDays_29 rfl (by decide) rfl rfl ?_
    refine wa_pick [3, 4, 1, 0] rfl ?_
    refine wX0_operatorShareDays_L31 o x1 A hC hVC ho (fun x3_4 h => ?_) 10000 x3_3 (0 : Int32) h
    refine wa_iload_n 62 3 hC dX0_operatorShareDays_61 rfl 0 rfl rfl ?_
    exact wa_iret hC hQ (sm0 h) rfl dX0_operatorShareDays_62
  clear ekj_2
  refine wa_icmp_ne 8 15 hC dX0_operatorShareDays_5 rfl rfl h (fun h => ?_) (fun h => ?_)
  · refine wa_bipush 17 hC dX0_operatorShareDays_15 kb_30 rfl ?_
    exact hkj_2 (30 : Int32) h
  · refine wa_aload_n 9 0 hC dX0_operatorShareDays_8 rfl 0 rfl rfl ?_
    refine wa_getIc 12 hC ho sh0_5 rfl flX0_46 dX0_operatorShareDays_9 rfl ?_
    refine wa_goto 17 hC dX0_operatorShareDays_12 rfl ?_
    exact hkj_2 (A.1 0 5 o 0) h
set_option maxRecDepth 20000 in
theorem tX7_correctionValue (l : Launch) {G : gU} {ρ : Nat → Nat → Nat} {V : Nat → Nat → Prop} {Z : sM} (o : Nat) (x1 : Int32) (o2 : Nat) (A : sM) (_ : VC V) (ho : V 7 o) (ho2 : V 4 o2) {r : Int64} (h : fX7_correctionValue o x1 o2 A = some r) : MT l yX7_correctionValue cX7_correctionValue 3 (some .long) 3 G ρ V [.ref (ρ 7 o), .int x1, .ref (ρ 4 o2)] (J A Z) (some (.long r)) (J A Z) := by
  refine vv_enter (lv := [(0, .ref (ρ 7 o)), (1, .int x1), (2, .ref (ρ 4 o2))]) RX7 rfl (by decide) (Nat.le_of_ble_eq_true rfl) rfl ?_
  intro E hE hC hQ hVC
  subst hE
  rw [fX7_correctionValue] at h
  refine wa_aload_n 1 0 hC dX7_correctionValue_0 rfl 0 rfl rfl ?_
  refine wa_getR 4 hC ho (sr7_1 _) flX7_15 dX7_correctionValue_1 rfl ?_
  refine wa_iload_n 5 1 hC dX7_correctionValue_4 rfl 1 rfl rfl ?_
  refine wa_aload_n 6 2 hC dX7_correctionValue_5 rfl 2 rfl rfl ?_
  obtain ⟨r_1, e_2, h⟩ := bd_some h
  refine wa_callSl 9 hC [.ref (ρ 23 o), .int x1, .ref (ρ 4 o2)] [] knX7_value msX7_30 (tX7_value_23 E.2.1 o x1 o2 A hVC (vc23 hVC ho) ho2 e_2) (Nat.le_of_ble_eq_true rfl) (Nat.le_of_ble_eq_true rfl) rfl (Nat.le_of_ble_eq_true rfl) dX7_correctionValue_6 rfl le00 rfl ?_
  exact wa_lret hC hQ (sm0 h) rfl dX7_correctionValue_9
set_option maxRecDepth 20000 in
theorem wX0_creditParts_L15 {E : eU} {G : gU} {ρ : Nat → Nat → Nat} {V : Nat → Nat → Prop} {Z : sM} {A' : sM} (o0 : Nat) {k72 : sM → Option (sM)} (hC : CX E G cX0_creditParts 3 RX0 none 3 0 0) (hVC : VC V) (ho0 : V 0 o0) (hk72 : ∀ (A : sM), k72 A = some A' → WA E G ρ V 0 0 (J A Z) 72 [] []) : ∀ (n : Nat) (x2 : Int32) (A : sM), fX0_creditParts_L15 o0 k72 n x2 A = some A' → WA E G ρ V 0 0 (J A Z) 15 [(0, .ref (ρ 0 o0)), (1, .ref (ρ 17 0)), (2, .int x2)] [] := by
  intro n
  induction n with
  | zero =>
    intro x2 A h
    rw [fX0_creditParts_L15] at h
    cases h
  | succ n ih =>
    intro x2 A h
    rw [fX0_creditParts_L15] at h
    refine wa_iload_n 16 2 hC dX0_creditParts_15 rfl 2 rfl rfl ?_
    refine wa_aload_n 17 0 hC dX0_creditParts_16 rfl 0 rfl rfl ?_
    refine wa_getIc 20 hC ho0 sh0_3 rfl flX0_39 dX0_creditParts_17 rfl ?_
    refine wa_icmp_ge 23 72 hC dX0_creditParts_20 rfl rfl h (fun h => ?_) (fun h => ?_)
    · refine wa_pick [] rfl ?_
      exact hk72 A h
    · refine wa_aload_n 24 0 hC dX0_creditParts_23 rfl 0 rfl rfl ?_
      refine wa_getR 27 hC ho0 (sr0_2 _) flX0_27 dX0_creditParts_24 rfl ?_
      refine wa_iload_n 28 2 hC dX0_creditParts_27 rfl 2 rfl rfl ?_
      obtain ⟨g_1, h⟩ := gd_some h
      refine wa_aald 29 hC (vc11 hVC ho0) g_1 dX0_creditParts_28 rfl ?_
      obtain ⟨r_2, e_12, h⟩ := bd_some h
      refine wa_callVi 32 hC [] [] knX8_isActive mvX0_113 (tX8_isActive E.2.1 (16 * o0 + x2.toNatClampNeg) A hVC (vc8 hVC ho0 (inb_lt g_1)) e_12) (vc8 hVC ho0 (inb_lt g_1)) kc8 (Nat.le_of_ble_eq_true rfl) (Nat.le_of_ble_eq_true rfl) rfl (Nat.le_of_ble_eq_true rfl) dX0_creditParts_29 rfl le00 rfl ?_
      obtain ⟨kj_4, ekj_4, h⟩ := ltb_k1 h
      have hkj_4 : ∀ (A_3 : sM), kj_4 A_3 = some A' → WA E G ρ V 0 0 (J A_3 Z) 66 [(0, .ref (ρ 0 o0)), (1, .ref (ρ 17 0)), (2, .int x2)] [] := by
        intro A_3 h
        rw [ekj_4] at h
        obtain ⟨x2_5, ex2_5, h⟩ := ltb_some h
        refine wa_iinc (lv' := [(2, .int x2_5), (0, .ref (ρ 0 o0)), (1, .ref (ρ 17 0))]) 69 2 hC dX0_creditParts_66 2 rfl (by rw [kc_1]; exact ex2_5) (by decide) rfl rfl ?_
        refine wa_goto 15 hC dX0_creditParts_69 rfl ?_
        refine wa_pick [1, 2, 0] rfl ?_
        exact ih x2_5 A_3 h
      clear ekj_4
      refine wa_if_eq 35 54 hC dX0_creditParts_32 rfl rfl h (fun h => ?_) (fun h => ?_)
      · refine wa_aload_n 55 0 hC dX0_creditParts_54 rfl 0 rfl rfl ?_
        refine wa_dup 56 hC dX0_creditParts_55 rfl rfl ?_
        refine wa_getLc 59 hC ho0 sh0_6 rfl flX0_49 dX0_creditParts_56 rfl ?_
        refine wa_aload_n 60 1 hC dX0_creditParts_59 rfl 1 rfl rfl ?_
        refine wa_iload_n 61 2 hC dX0_creditParts_60 rfl 2 rfl rfl ?_
        obtain ⟨g_6, h⟩ := gd_some h
        refine wa_laldc 62 hC (vs17 hVC) ar17 rfl g_6 dX0_creditParts_61 rfl ?_
        refine wa_ladd 63 hC dX0_creditParts_62 rfl ?_
        obtain ⟨A_7, eA_7, h⟩ := ltb_some h
        refine wa_putLc 66 hC ho0 eA_7 sh0_6 rfl fpX0_49 dX0_creditParts_63 rfl ?_
        exact hkj_4 A_7 h
      · refine wa_aload_n 36 0 hC dX0_creditParts_35 rfl 0 rfl rfl ?_
        refine wa_getR 39 hC ho0 (sr0_2 _) flX0_27 dX0_creditParts_36 rfl ?_
        refine wa_iload_n 40 2 hC dX0_creditParts_39 rfl 2 rfl rfl ?_
        obtain ⟨g_8, h⟩ := gd_some h
        refine wa_aald 41 hC (vc11 hVC ho0) g_8 dX0_creditParts_40 rfl ?_
        refine wa_aload_n 42 1 hC dX0_creditParts_41 rfl 1 rfl rfl ?_
        refine wa_iload_n 43 2 hC dX0_creditParts_42 rfl 2 rfl rfl ?_
        obtain ⟨g_9, h⟩ := gd_some h
        refine wa_laldc 44 hC (vs17 hVC) ar17 rfl g_9 dX0_creditParts_43 rfl ?_
        refine wa_aload_n 45 0 hC dX0_creditParts_44 rfl 0 rfl rfl ?_
        refine wa_getIc 48 hC ho0 sh0_4 rfl flX0_43 dX0_creditParts_45 rfl ?_
        obtain ⟨A_10, e_11, h⟩ := bd_some h
        refine wa_callVv 51 hC [.long (A.2 17 0 0 x2.toNatClampNeg), .int (A.1 0 4 o0 0)] [] knX8_takeCredit mvX0_155 (tX8_takeCredit E.2.1 (16 * o0 + x2.toNatClampNeg) (A.2 17 0 0 x2.toNatClampNeg) (A.1 0 4 o0 0) A hVC (vc8 hVC ho0 (inb_lt g_8)) e_11) (vc8 hVC ho0 (inb_lt g_8)) kc8 (Nat.le_of_ble_eq_true rfl) (Nat.le_of_ble_eq_true rfl) rfl (Nat.le_of_ble_eq_true rfl) dX0_creditParts_48 rfl le00 rfl ?_
        refine wa_goto 66 hC dX0_creditParts_51 rfl ?_
        exact hkj_4 A_10 h
set_option maxRecDepth 20000 in
theorem tX0_creditParts (l : Launch) {G : gU} {ρ : Nat → Nat → Nat} {V : Nat → Nat → Prop} {Z : sM} (o : Nat) (A : sM) (_ : VC V) (ho : V 0 o) {A' : sM} (h : fX0_creditParts o A = some A') : MT l yX0_creditParts cX0_creditParts 3 none 3 G ρ V [.ref (ρ 0 o), .ref (ρ 17 0)] (J A Z) none (J A' Z) := by
  refine vv_enter (lv := [(0, .ref (ρ 0 o)), (1, .ref (ρ 17 0))]) RX0 rfl (by decide) (Nat.le_of_ble_eq_true rfl) rfl ?_
  intro E hE hC hQ hVC
  subst hE
  rw [fX0_creditParts] at h
  refine wa_aload_n 1 0 hC dX0_creditParts_0 rfl 0 rfl rfl ?_
  refine wa_dup 2 hC dX0_creditParts_1 rfl rfl ?_
  refine wa_getLc 5 hC ho sh0_7 rfl flX0_53 dX0_creditParts_2 rfl ?_
  refine wa_aload_n 6 1 hC dX0_creditParts_5 rfl 1 rfl rfl ?_
  refine wa_bipush 8 hC dX0_creditParts_6 kb_16 rfl ?_
  refine wa_laldc 9 hC (vs17 hVC) ar17 rfl (by decide) dX0_creditParts_8 rfl ?_
  refine wa_ladd 10 hC dX0_creditParts_9 rfl ?_
  obtain ⟨A_2, eA_2, h⟩ := ltb_some h
  refine wa_putLc 13 hC ho eA_2 sh0_7 rfl fpX0_53 dX0_creditParts_10 rfl ?_
  refine wa_iconst 14 hC dX0_creditParts_13 kc_0 rfl ?_
  refine wa_istore_n (lv' := [(2, .int (0 : Int32)), (0, .ref (ρ 0 o)), (1, .ref (ρ 17 0))]) 15 2 hC dX0_creditParts_14 rfl rfl (by decide) rfl rfl ?_
  refine wa_pick [1, 2, 0] rfl ?_
  refine wX0_creditParts_L15 o hC hVC ho (fun A_3 h => ?_) 10000 (0 : Int32) A_2 h
  exact wa_vret hC hQ (jA (sm0 h)) dX0_creditParts_72
set_option maxRecDepth 20000 in
theorem wX8_loseCredit_L11 {E : eU} {G : gU} {ρ : Nat → Nat → Nat} {V : Nat → Nat → Prop} {Z : sM} {A' : sM} (o0 : Nat) {k58 : Int64 → sM → Option (sM)} (hC : CX E G cX8_loseCredit 8 RX8 none 2 0 0) (hVC : VC V) (ho0 : V 8 o0) (hk58 : ∀ (x3 : Int64) (A : sM), k58 x3 A = some A' → WA E G ρ V 0 0 (J A Z) 58 [(0, .ref (ρ 8 o0)), (3, .long x3)] []) : ∀ (n : Nat) (x3 : Int64) (x5 : Int32) (A : sM), fX8_loseCredit_L11 o0 k58 n x3 x5 A = some A' → WA E G ρ V 0 0 (J A Z) 11 [(0, .ref (ρ 8 o0)), (3, .long x3), (5, .int x5)] [] := by
  intro n
  induction n with
  | zero =>
    intro x3 x5 A h
    rw [fX8_loseCredit_L11] at h
    cases h
  | succ n ih =>
    intro x3 x5 A h
    rw [fX8_loseCredit_L11] at h
    refine wa_iload 13 5 hC dX8_loseCredit_11 2 rfl rfl ?_
    refine wa_if_lt 16 58 hC dX8_loseCredit_13 rfl rfl h (fun h => ?_) (fun h => ?_)
    · refine wa_pick [0, 1] rfl ?_
      exact hk58 x3 A h
    · refine wa_lload_n 17 3 hC dX8_loseCredit_16 rfl 1 rfl rfl ?_
      refine wa_lconst 18 hC dX8_loseCredit_17 kl_0 rfl ?_
      refine wa_lcmp 19 hC dX8_loseCredit_18 rfl ?_
      refine wa_lcmp_le 22 58 hC dX8_loseCredit_19 rfl rfl h (fun h => ?_) (fun h => ?_)
      · refine wa_pick [0, 1] rfl ?_
        exact hk58 x3 A h
      · refine wa_lload_n 23 3 hC dX8_loseCredit_22 rfl 1 rfl rfl ?_
        refine wa_aload_n 24 0 hC dX8_loseCredit_23 rfl 0 rfl rfl ?_
        refine wa_getR 27 hC ho0 (sr8_8 _) flX8_19 dX8_loseCredit_24 rfl ?_
        refine wa_iload 29 5 hC dX8_loseCredit_27 2 rfl rfl ?_
        obtain ⟨g_1, h⟩ := gd_some h
        refine wa_laldc 30 hC (vc25 hVC ho0) ar25 rfl g_1 dX8_loseCredit_29 rfl ?_
        refine wa_mmin_long 33 hC maX8_63 (by decide) (Nat.le_of_ble_eq_true rfl) dX8_loseCredit_30 rfl le00 ?_
        obtain ⟨x6_2, ex6_2, h⟩ := ltb_some h
        refine wa_lstore (lv' := [(6, .long x6_2), (0, .ref (ρ 8 o0)), (3, .long x3), (5, .int x5)]) 35 6 hC dX8_loseCredit_33 ex6_2 (by decide) rfl rfl ?_
        refine wa_aload_n 36 0 hC dX8_loseCredit_35 rfl 1 rfl rfl ?_
        refine wa_getR 39 hC ho0 (sr8_8 _) flX8_19 dX8_loseCredit_36 rfl ?_
        refine wa_iload 41 5 hC dX8_loseCredit_39 3 rfl rfl ?_
        refine wa_dup2 42 hC dX8_loseCredit_41 rfl rfl rfl ?_
        obtain ⟨g_3, h⟩ := gd_some h
        refine wa_laldc 43 hC (vc25 hVC ho0) ar25 rfl g_3 dX8_loseCredit_42 rfl ?_
        refine wa_lload 45 6 hC dX8_loseCredit_43 0 rfl rfl ?_
        refine wa_lsub 46 hC dX8_loseCredit_45 rfl ?_
        obtain ⟨g_4, h⟩ := gd_some h
        obtain ⟨A_5, eA_5, h⟩ := ltb_some h
        refine wa_lastc 47 hC (vc25 hVC ho0) ar25 rfl g_4 eA_5 dX8_loseCredit_46 rfl ?_
        refine wa_lload_n 48 3 hC dX8_loseCredit_47 rfl 2 rfl rfl ?_
        refine wa_lload 50 6 hC dX8_loseCredit_48 0 rfl rfl ?_
        refine wa_lsub 51 hC dX8_loseCredit_50 rfl ?_
        obtain ⟨x3_6, ex3_6, h⟩ := ltb_some h
        refine wa_lstore_n (lv' := [(3, .long x3_6), (6, .long x6_2), (0, .ref (ρ 8 o0)), (5, .int x5)]) 52 3 hC dX8_loseCredit_51 rfl ex3_6 (by decide) rfl rfl ?_
        obtain ⟨x5_7, ex5_7, h⟩ := ltb_some h
        refine wa_iinc (lv' := [(5, .int x5_7), (3, .long x3_6), (6, .long x6_2), (0, .ref (ρ 8 o0))]) 55 5 hC dX8_loseCredit_52 3 rfl (by rw [kc_m1]; exact ex5_7) (by decide) rfl rfl ?_
        refine wa_goto 11 hC dX8_loseCredit_55 rfl ?_
        refine wa_pick [3, 1, 0] rfl ?_
        exact ih x3_6 x5_7 A_5 h
set_option maxRecDepth 20000 in
theorem tX8_loseCredit (l : Launch) {G : gU} {ρ : Nat → Nat → Nat} {V : Nat → Nat → Prop} {Z : sM} (o : Nat) (x1 : Int64) (A : sM) (_ : VC V) (ho : V 8 o) {A' : sM} (h : fX8_loseCredit o x1 A = some A') : MT l yX8_loseCredit cX8_loseCredit 8 none 2 G ρ V [.ref (ρ 8 o), .long x1] (J A Z) none (J A' Z) := by
  refine vv_enter (lv := [(0, .ref (ρ 8 o)), (1, .long x1)]) RX8 rfl (by decide) (Nat.le_of_ble_eq_true rfl) rfl ?_
  intro E hE hC hQ hVC
  subst hE
  rw [fX8_loseCredit] at h
  refine wa_lload_n 1 1 hC dX8_loseCredit_0 rfl 1 rfl rfl ?_
  refine wa_lstore_n (lv' := [(3, .long x1), (0, .ref (ρ 8 o)), (1, .long x1)]) 2 3 hC dX8_loseCredit_1 rfl rfl (by decide) rfl rfl ?_
  refine wa_aload_n 3 0 hC dX8_loseCredit_2 rfl 1 rfl rfl ?_
  refine wa_getR 6 hC ho (sr8_8 _) flX8_19 dX8_loseCredit_3 rfl ?_
  refine wa_alen 7 hC (vc25 hVC ho) (a := 1) (by decide) rfl len_72 dX8_loseCredit_6 rfl ?_
  refine wa_iconst 8 hC dX8_loseCredit_7 kc_1 rfl ?_
  refine wa_isub 9 hC dX8_loseCredit_8 rfl ?_
  obtain ⟨x5_1, ex5_1, h⟩ := ltb_some h
  refine wa_istore (lv' := [(5, .int x5_1), (3, .long x1), (0, .ref (ρ 8 o)), (1, .long x1)]) 11 5 hC dX8_loseCredit_9 ex5_1 (by decide) rfl rfl ?_
  refine wa_pick [2, 1, 0] rfl ?_
  refine wX8_loseCredit_L11 o hC hVC ho (fun x3_2 A_3 h => ?_) 10000 x1 x5_1 A h
  refine wa_aload_n 59 0 hC dX8_loseCredit_58 rfl 0 rfl rfl ?_
  refine wa_getR 62 hC ho (sr8_9 _) flX8_23 dX8_loseCredit_59 rfl ?_
  refine wa_iconst 63 hC dX8_loseCredit_62 kc_0 rfl ?_
  refine wa_dup2 64 hC dX8_loseCredit_63 rfl rfl rfl ?_
  refine wa_laldc 65 hC (vc26 hVC ho) ar26 rfl (by decide) dX8_loseCredit_64 rfl ?_
  refine wa_lload_n 66 3 hC dX8_loseCredit_65 rfl 1 rfl rfl ?_
  refine wa_ladd 67 hC dX8_loseCredit_66 rfl ?_
  obtain ⟨A_6, eA_6, h⟩ := ltb_some h
  refine wa_lastc 68 hC (vc26 hVC ho) ar26 rfl (by decide) eA_6 dX8_loseCredit_67 rfl ?_
  exact wa_vret hC hQ (jA (sm0 h)) dX8_loseCredit_68
set_option maxRecDepth 20000 in
theorem wX0_settleTrueUp_L25 {E : eU} {G : gU} {ρ : Nat → Nat → Nat} {V : Nat → Nat → Prop} {Z : sM} {A' : sM} (o0 : Nat) {k78 : sM → Option (sM)} (hC : CX E G cX0_settleTrueUp 4 RX0 none 4 0 0) (hVC : VC V) (ho0 : V 0 o0) (hk78 : ∀ (A : sM), k78 A = some A' → WA E G ρ V 0 0 (J A Z) 78 [] []) : ∀ (n : Nat) (x3 : Int32) (A : sM), fX0_settleTrueUp_L25 o0 k78 n x3 A = some A' → WA E G ρ V 0 0 (J A Z) 25 [(0, .ref (ρ 0 o0)), (1, .ref (ρ 17 0)), (3, .int x3)] [] := by
  intro n
  induction n with
  | zero =>
    intro x3 A h
    rw [fX0_settleTrueUp_L25] at h
    cases h
  | succ n ih =>
    intro x3 A h
    rw [fX0_settleTrueUp_L25] at h
    refine wa_iload_n 26 3 hC dX0_settleTrueUp_25 rfl 2 rfl rfl ?_
    refine wa_aload_n 27 0 hC dX0_settleTrueUp_26 rfl 0 rfl rfl ?_
    refine wa_getIc 30 hC ho0 sh0_3 rfl flX0_39 dX0_settleTrueUp_27 rfl ?_
    refine wa_icmp_ge 33 78 hC dX0_settleTrueUp_30 rfl rfl h (fun h => ?_) (fun h => ?_)
    · refine wa_pick [] rfl ?_
      exact hk78 A h
    · refine wa_aload_n 34 0 hC dX0_settleTrueUp_33 rfl 0 rfl rfl ?_
      refine wa_getR 37 hC ho0 (sr0_2 _) flX0_27 dX0_settleTrueUp_34 rfl ?_
      refine wa_iload_n 38 3 hC dX0_settleTrueUp_37 rfl 2 rfl rfl ?_
      obtain ⟨g_1, h⟩ := gd_some h
      refine wa_aald 39 hC (vc11 hVC ho0) g_1 dX0_settleTrueUp_38 rfl ?_
      obtain ⟨r_2, e_12, h⟩ := bd_some h
      refine wa_callVi 42 hC [] [] knX8_isActive mvX0_113 (tX8_isActive E.2.1 (16 * o0 + x3.toNatClampNeg) A hVC (vc8 hVC ho0 (inb_lt g_1)) e_12) (vc8 hVC ho0 (inb_lt g_1)) kc8 (Nat.le_of_ble_eq_true rfl) (Nat.le_of_ble_eq_true rfl) rfl (Nat.le_of_ble_eq_true rfl) dX0_settleTrueUp_39 rfl le00 rfl ?_
      obtain ⟨kj_4, ekj_4, h⟩ := ltb_k1 h
      have hkj_4 : ∀ (A_3 : sM), kj_4 A_3 = some A' → WA E G ρ V 0 0 (J A_3 Z) 72 [(0, .ref (ρ 0 o0)), (1, .ref (ρ 17 0)), (3, .int x3)] [] := by
        intro A_3 h
        rw [ekj_4] at h
        obtain ⟨x3_5, ex3_5, h⟩ := ltb_some h
        refine wa_iinc (lv' := [(3, .int x3_5), (0, .ref (ρ 0 o0)), (1, .ref (ρ 17 0))]) 75 3 hC dX0_settleTrueUp_72 2 rfl (by rw [kc_1]; exact ex3_5) (by decide) rfl rfl ?_
        refine wa_goto 25 hC dX0_settleTrueUp_75 rfl ?_
        refine wa_pick [1, 2, 0] rfl ?_
        exact ih x3_5 A_3 h
      clear ekj_4
      refine wa_if_eq 45 60 hC dX0_settleTrueUp_42 rfl rfl h (fun h => ?_) (fun h => ?_)
      · refine wa_aload_n 61 0 hC dX0_settleTrueUp_60 rfl 0 rfl rfl ?_
        refine wa_dup 62 hC dX0_settleTrueUp_61 rfl rfl ?_
        refine wa_getLc 65 hC ho0 sh0_6 rfl flX0_49 dX0_settleTrueUp_62 rfl ?_
        refine wa_aload_n 66 1 hC dX0_settleTrueUp_65 rfl 1 rfl rfl ?_
        refine wa_iload_n 67 3 hC dX0_settleTrueUp_66 rfl 2 rfl rfl ?_
        obtain ⟨g_6, h⟩ := gd_some h
        refine wa_laldc 68 hC (vs17 hVC) ar17 rfl g_6 dX0_settleTrueUp_67 rfl ?_
        refine wa_lsub 69 hC dX0_settleTrueUp_68 rfl ?_
        obtain ⟨A_7, eA_7, h⟩ := ltb_some h
        refine wa_putLc 72 hC ho0 eA_7 sh0_6 rfl fpX0_49 dX0_settleTrueUp_69 rfl ?_
        exact hkj_4 A_7 h
      · refine wa_aload_n 46 0 hC dX0_settleTrueUp_45 rfl 0 rfl rfl ?_
        refine wa_getR 49 hC ho0 (sr0_2 _) flX0_27 dX0_settleTrueUp_46 rfl ?_
        refine wa_iload_n 50 3 hC dX0_settleTrueUp_49 rfl 2 rfl rfl ?_
        obtain ⟨g_8, h⟩ := gd_some h
        refine wa_aald 51 hC (vc11 hVC ho0) g_8 dX0_settleTrueUp_50 rfl ?_
        refine wa_aload_n 52 1 hC dX0_settleTrueUp_51 rfl 1 rfl rfl ?_
        refine wa_iload_n 53 3 hC dX0_settleTrueUp_52 rfl 2 rfl rfl ?_
        obtain ⟨g_9, h⟩ := gd_some h
        refine wa_laldc 54 hC (vs17 hVC) ar17 rfl g_9 dX0_settleTrueUp_53 rfl ?_
        obtain ⟨A_10, e_11, h⟩ := bd_some h
        refine wa_callVv 57 hC [.long (A.2 17 0 0 x3.toNatClampNeg)] [] knX8_loseCredit mvX0_151 (tX8_loseCredit E.2.1 (16 * o0 + x3.toNatClampNeg) (A.2 17 0 0 x3.toNatClampNeg) A hVC (vc8 hVC ho0 (inb_lt g_8)) e_11) (vc8 hVC ho0 (inb_lt g_8)) kc8 (Nat.le_of_ble_eq_true rfl) (Nat.le_of_ble_eq_true rfl) rfl (Nat.le_of_ble_eq_true rfl) dX0_settleTrueUp_54 rfl le00 rfl ?_
        refine wa_goto 72 hC dX0_settleTrueUp_57 rfl ?_
        exact hkj_4 A_10 h
set_option maxRecDepth 20000 in
theorem tX0_settleTrueUp (l : Launch) {G : gU} {ρ : Nat → Nat → Nat} {V : Nat → Nat → Prop} {Z : sM} (o : Nat) (x2 : Int32) (A : sM) (_ : VC V) (ho : V 0 o) {A' : sM} (h : fX0_settleTrueUp o x2 A = some A') : MT l yX0_settleTrueUp cX0_settleTrueUp 4 none 4 G ρ V [.ref (ρ 0 o), .ref (ρ 17 0), .int x2] (J A Z) none (J A' Z) := by
  refine vv_enter (lv := [(0, .ref (ρ 0 o)), (1, .ref (ρ 17 0)), (2, .int x2)]) RX0 rfl (by decide) (Nat.le_of_ble_eq_true rfl) rfl ?_
  intro E hE hC hQ hVC
  subst hE
  rw [fX0_settleTrueUp] at h
  refine wa_iload_n 1 2 hC dX0_settleTrueUp_0 rfl 2 rfl rfl ?_
  refine wa_if_eq 4 10 hC dX0_settleTrueUp_1 rfl rfl h (fun h => ?_) (fun h => ?_)
  · refine wa_aload_n 11 0 hC dX0_settleTrueUp_10 rfl 0 rfl rfl ?_
    refine wa_dup 12 hC dX0_settleTrueUp_11 rfl rfl ?_
    refine wa_getLc 15 hC ho sh0_7 rfl flX0_53 dX0_settleTrueUp_12 rfl ?_
    refine wa_aload_n 16 1 hC dX0_settleTrueUp_15 rfl 1 rfl rfl ?_
    refine wa_bipush 18 hC dX0_settleTrueUp_16 kb_16 rfl ?_
    refine wa_laldc 19 hC (vs17 hVC) ar17 rfl (by decide) dX0_settleTrueUp_18 rfl ?_
    refine wa_lsub 20 hC dX0_settleTrueUp_19 rfl ?_
    obtain ⟨A_2, eA_2, h⟩ := ltb_some h
    refine wa_putLc 23 hC ho eA_2 sh0_7 rfl fpX0_53 dX0_settleTrueUp_20 rfl ?_
    refine wa_iconst 24 hC dX0_settleTrueUp_23 kc_0 rfl ?_
    refine wa_istore_n (lv' := [(3, .int (0 : Int32)), (0, .ref (ρ 0 o)), (1, .ref (ρ 17 0)), (2, .int x2)]) 25 3 hC dX0_settleTrueUp_24 rfl rfl (by decide) rfl rfl ?_
    refine wa_pick [1, 2, 0] rfl ?_
    refine wX0_settleTrueUp_L25 o hC hVC ho (fun A_3 h => ?_) 10000 (0 : Int32) A_2 h
    exact wa_vret hC hQ (jA (sm0 h)) dX0_settleTrueUp_78
  · refine wa_aload_n 5 0 hC dX0_settleTrueUp_4 rfl 0 rfl rfl ?_
    refine wa_aload_n 6 1 hC dX0_settleTrueUp_5 rfl 1 rfl rfl ?_
    obtain ⟨A_4, e_5, h⟩ := bd_some h
    refine wa_callVv 9 hC [.ref (ρ 17 0)] [] knX0_creditParts mvX0_147 (tX0_creditParts E.2.1 o A hVC ho e_5) ho kc0 (Nat.le_of_ble_eq_true rfl) (Nat.le_of_ble_eq_true rfl) rfl (Nat.le_of_ble_eq_true rfl) dX0_settleTrueUp_6 rfl le00 rfl ?_
    exact wa_vret hC hQ (jA (sm0 h)) dX0_settleTrueUp_9
set_option maxRecDepth 20000 in
theorem wX7_countCorrections_L2 {E : eU} {G : gU} {ρ : Nat → Nat → Nat} {V : Nat → Nat → Prop} {Z : sM} {A' : sM} (o0 : Nat) (x1 : Int32) {k41 : sM → Option (sM)} (hC : CX E G cX7_countCorrections 4 RX7 none 2 0 0) (hVC : VC V) (ho0 : V 7 o0) (hk41 : ∀ (A : sM), k41 A = some A' → WA E G ρ V 0 0 (J A Z) 41 [] []) : ∀ (n : Nat) (x2 : Int32) (A : sM), fX7_countCorrections_L2 o0 x1 k41 n x2 A = some A' → WA E G ρ V 0 0 (J A Z) 2 [(0, .ref (ρ 7 o0)), (1, .int x1), (2, .int x2)] [] := by
  intro n
  induction n with
  | zero =>
    intro x2 A h
    rw [fX7_countCorrections_L2] at h
    cases h
  | succ n ih =>
    intro x2 A h
    rw [fX7_countCorrections_L2] at h
    refine wa_iload_n 3 2 hC dX7_countCorrections_2 rfl 2 rfl rfl ?_
    refine wa_iconst 4 hC dX7_countCorrections_3 kc_4 rfl ?_
    refine wa_icmp_ge 7 41 hC dX7_countCorrections_4 rfl rfl h (fun h => ?_) (fun h => ?_)
    · refine wa_pick [] rfl ?_
      exact hk41 A h
    · refine wa_iload_n 8 1 hC dX7_countCorrections_7 rfl 1 rfl rfl ?_
      refine wa_iload_n 9 2 hC dX7_countCorrections_8 rfl 2 rfl rfl ?_
      obtain ⟨r_1, e_9, h⟩ := bd_some h
      refine wa_callSi 12 hC [.int x1, .int x2] [] knX7_cell msX7_40 (tX7_cell E.2.1 x1 x2 A hVC e_9) (Nat.le_of_ble_eq_true rfl) (Nat.le_of_ble_eq_true rfl) rfl (Nat.le_of_ble_eq_true rfl) dX7_countCorrections_9 rfl le00 rfl ?_
      refine wa_istore_n (lv' := [(3, .int r_1), (0, .ref (ρ 7 o0)), (1, .int x1), (2, .int x2)]) 13 3 hC dX7_countCorrections_12 rfl rfl (by decide) rfl rfl ?_
      refine wa_aload_n 14 0 hC dX7_countCorrections_13 rfl 1 rfl rfl ?_
      refine wa_getR 17 hC ho0 (sr7_0 _) flX7_9 dX7_countCorrections_14 rfl ?_
      refine wa_iload_n 18 3 hC dX7_countCorrections_17 rfl 0 rfl rfl ?_
      refine wa_dup2 19 hC dX7_countCorrections_18 rfl rfl rfl ?_
      obtain ⟨g_2, h⟩ := gd_some h
      refine wa_ialdc 20 hC (vc22 hVC ho0) ar22 rfl g_2 dX7_countCorrections_19 rfl ?_
      refine wa_aload_n 21 0 hC dX7_countCorrections_20 rfl 1 rfl rfl ?_
      refine wa_getR 24 hC ho0 (sr7_1 _) flX7_15 dX7_countCorrections_21 rfl ?_
      refine wa_iload_n 25 3 hC dX7_countCorrections_24 rfl 0 rfl rfl ?_
      obtain ⟨g_3, h⟩ := gd_some h
      refine wa_ialdc 26 hC (vc23 hVC ho0) ar23 rfl g_3 dX7_countCorrections_25 rfl ?_
      refine wa_iadd 27 hC dX7_countCorrections_26 rfl ?_
      obtain ⟨g_4, h⟩ := gd_some h
      obtain ⟨A_5, eA_5, h⟩ := ltb_some h
      refine wa_iastc 28 hC (vc22 hVC ho0) nk22 ar22 rfl g_4 eA_5 dX7_countCorrections_27 rfl ?_
      refine wa_aload_n 29 0 hC dX7_countCorrections_28 rfl 1 rfl rfl ?_
      refine wa_getR 32 hC ho0 (sr7_1 _) flX7_15 dX7_countCorrections_29 rfl ?_
      refine wa_iload_n 33 3 hC dX7_countCorrections_32 rfl 0 rfl rfl ?_
      refine wa_iconst 34 hC dX7_countCorrections_33 kc_0 rfl ?_
      obtain ⟨g_6, h⟩ := gd_some h
      obtain ⟨A_7, eA_7, h⟩ := ltb_some h
      refine wa_iastc 35 hC (vc23 hVC ho0) nk23 ar23 rfl g_6 eA_7 dX7_countCorrections_34 rfl ?_
      obtain ⟨x2_8, ex2_8, h⟩ := ltb_some h
      refine wa_iinc (lv' := [(2, .int x2_8), (3, .int r_1), (0, .ref (ρ 7 o0)), (1, .int x1)]) 38 2 hC dX7_countCorrections_35 3 rfl (by rw [kc_1]; exact ex2_8) (by decide) rfl rfl ?_
      refine wa_goto 2 hC dX7_countCorrections_38 rfl ?_
      refine wa_pick [2, 3, 0] rfl ?_
      exact ih x2_8 A_7 h
set_option maxRecDepth 20000 in
theorem tX7_countCorrections (l : Launch) {G : gU} {ρ : Nat → Nat → Nat} {V : Nat → Nat → Prop} {Z : sM} (o : Nat) (x1 : Int32) (A : sM) (_ : VC V) (ho : V 7 o) {A' : sM} (h : fX7_countCorrections o x1 A = some A') : MT l yX7_countCorrections cX7_countCorrections 4 none 2 G ρ V [.ref (ρ 7 o), .int x1] (J A Z) none (J A' Z) := by
  refine vv_enter (lv := [(0, .ref (ρ 7 o)), (1, .int x1)]) RX7 rfl (by decide) (Nat.le_of_ble_eq_true rfl) rfl ?_
  intro E hE hC hQ hVC
  subst hE
  rw [fX7_countCorrections] at h
  refine wa_iconst 1 hC dX7_countCorrections_0 kc_0 rfl ?_
  refine wa_istore_n (lv' := [(2, .int (0 : Int32)), (0, .ref (ρ 7 o)), (1, .int x1)]) 2 2 hC dX7_countCorrections_1 rfl rfl (by decide) rfl rfl ?_
  refine wa_pick [1, 2, 0] rfl ?_
  refine wX7_countCorrections_L2 o x1 hC hVC ho (fun A_1 h => ?_) 10000 (0 : Int32) A h
  exact wa_vret hC hQ (jA (sm0 h)) dX7_countCorrections_41
set_option maxRecDepth 20000 in
theorem tX3_weighHeldShares (l : Launch) {G : gU} {ρ : Nat → Nat → Nat} {V : Nat → Nat → Prop} {Z : sM} (o1 : Nat) (A : sM) (_ : VC V) (ho1 : V 0 o1) {A' : sM} (h : fX3_weighHeldShares o1 A = some A') : MT l yX3_weighHeldShares cX3_weighHeldShares 2 none 3 G ρ V [.ref (ρ 3 0), .ref (ρ 0 o1)] (J A Z) none (J A' Z) := by
  refine vv_enter (lv := [(0, .ref (ρ 3 0)), (1, .ref (ρ 0 o1))]) RX3 rfl (by decide) (Nat.le_of_ble_eq_true rfl) rfl ?_
  intro E hE hC hQ hVC
  subst hE
  rw [fX3_weighHeldShares] at h
  refine wa_aload_n 1 0 hC dX3_weighHeldShares_0 rfl 0 rfl rfl ?_
  refine wa_aload_n 2 0 hC dX3_weighHeldShares_1 rfl 0 rfl rfl ?_
  refine wa_aload_n 3 1 hC dX3_weighHeldShares_2 rfl 1 rfl rfl ?_
  refine wa_iconst 4 hC dX3_weighHeldShares_3 kc_m1 rfl ?_
  refine wa_iconst 5 hC dX3_weighHeldShares_4 kc_1 rfl ?_
  obtain ⟨r_2, A_1, e_4, h⟩ := bd2_some h
  refine wa_callVl 8 hC [.ref (ρ 0 o1), .int (-1 : Int32), .int (1 : Int32)] [.ref (ρ 3 0)] knX3_weighSubscribers mvX3_21 (tX3_weighSubscribers E.2.1 o1 (-1 : Int32) (1 : Int32) A hVC ho1 e_4) (vs3 hVC) kc3 (Nat.le_of_ble_eq_true rfl) (Nat.le_of_ble_eq_true rfl) rfl (Nat.le_of_ble_eq_true rfl) dX3_weighHeldShares_5 rfl le00 rfl ?_
  obtain ⟨A_3, eA_3, h⟩ := ltb_some h
  refine wa_putLc 11 hC (vs3 hVC) eA_3 sh3_1 rfl fpX3_37 dX3_weighHeldShares_8 rfl ?_
  exact wa_vret hC hQ (jA (sm0 h)) dX3_weighHeldShares_11
set_option maxRecDepth 20000 in
theorem tX2_putByte (l : Launch) {G : gU} {ρ : Nat → Nat → Nat} {V : Nat → Nat → Prop} {Z : sM} (x1 : Int32) (A : sM) (_ : VC V) {A' : sM} (h : fX2_putByte x1 A = some A') : MT l yX2_putByte cX2_putByte 2 none 1 G ρ V [.ref (ρ 2 0), .int x1] (J A Z) none (J A' Z) := by
  refine vv_enter (lv := [(0, .ref (ρ 2 0)), (1, .int x1)]) RX2 rfl (by decide) (Nat.le_of_ble_eq_true rfl) rfl ?_
  intro E hE hC hQ hVC
  subst hE
  rw [fX2_putByte] at h
  refine wa_aload_n 1 0 hC dX2_putByte_0 rfl 0 rfl rfl ?_
  refine wa_getIc 4 hC (vs2 hVC) sh2_1 rfl flX2_21 dX2_putByte_1 rfl ?_
  refine wa_aload_n 5 0 hC dX2_putByte_4 rfl 0 rfl rfl ?_
  refine wa_getR 8 hC (vs2 hVC) (sr2_0 _) flX2_9 dX2_putByte_5 rfl ?_
  refine wa_alen 9 hC (vs14 hVC) (a := 2) (by decide) rfl len_80 dX2_putByte_8 rfl ?_
  refine wa_icmp_ge 12 33 hC dX2_putByte_9 rfl rfl h (fun h => ?_) (fun h => ?_)
  · exact wa_vret hC hQ (jA (sm0 h)) dX2_putByte_33
  · refine wa_aload_n 13 0 hC dX2_putByte_12 rfl 0 rfl rfl ?_
    refine wa_getR 16 hC (vs2 hVC) (sr2_0 _) flX2_9 dX2_putByte_13 rfl ?_
    refine wa_aload_n 17 0 hC dX2_putByte_16 rfl 0 rfl rfl ?_
    refine wa_getIc 20 hC (vs2 hVC) sh2_1 rfl flX2_21 dX2_putByte_17 rfl ?_
    refine wa_iload_n 21 1 hC dX2_putByte_20 rfl 1 rfl rfl ?_
    refine wa_i2b 22 hC dX2_putByte_21 rfl ?_
    obtain ⟨g_1, h⟩ := gd_some h
    obtain ⟨A_2, eA_2, h⟩ := ltb_some h
    refine wa_bastc 23 hC (vs14 hVC) nk14 ar14 rfl g_1 (pk_nb _) eA_2 dX2_putByte_22 rfl ?_
    refine wa_aload_n 24 0 hC dX2_putByte_23 rfl 0 rfl rfl ?_
    refine wa_dup 25 hC dX2_putByte_24 rfl rfl ?_
    refine wa_getIc 28 hC (vs2 hVC) sh2_1 rfl flX2_21 dX2_putByte_25 rfl ?_
    refine wa_iconst 29 hC dX2_putByte_28 kc_1 rfl ?_
    refine wa_iadd 30 hC dX2_putByte_29 rfl ?_
    obtain ⟨A_3, eA_3, h⟩ := ltb_some h
    refine wa_putIc 33 hC (vs2 hVC) nk2 eA_3 sh2_1 rfl fpX2_21 dX2_putByte_30 rfl ?_
    exact wa_vret hC hQ (jA (sm0 h)) dX2_putByte_33
set_option maxRecDepth 20000 in
theorem wX2_putNumber_L5 {E : eU} {G : gU} {ρ : Nat → Nat → Nat} {V : Nat → Nat → Prop} {Z : sM} {A' : sM} (x1 : Int64) (A : sM) {k34 : Int64 → Option (sM)} (hC : CX E G cX2_putNumber 6 RX2 none 2 0 0) (hVC : VC V) (hk34 : ∀ (x3 : Int64), k34 x3 = some A' → WA E G ρ V 0 0 (J A Z) 34 [(0, .ref (ρ 2 0)), (1, .long x1), (3, .long x3)] []) : ∀ (n : Nat) (x3 : Int64) (x5 : Int32), fX2_putNumber_L5 x1 A k34 n x3 x5 = some A' → WA E G ρ V 0 0 (J A Z) 5 [(0, .ref (ρ 2 0)), (1, .long x1), (3, .long x3), (5, .int x5)] [] := by
  intro n
  induction n with
  | zero =>
    intro x3 x5 h
    rw [fX2_putNumber_L5] at h
    cases h
  | succ n ih =>
    intro x3 x5 h
    rw [fX2_putNumber_L5] at h
    refine wa_iload 7 5 hC dX2_putNumber_5 3 rfl rfl ?_
    refine wa_bipush 9 hC dX2_putNumber_7 kb_19 rfl ?_
    refine wa_icmp_ge 12 34 hC dX2_putNumber_9 rfl rfl h (fun h => ?_) (fun h => ?_)
    · refine wa_pick [0, 1, 2] rfl ?_
      exact hk34 x3 h
    · refine wa_lload_n 13 1 hC dX2_putNumber_12 rfl 1 rfl rfl ?_
      refine wa_lload_n 14 3 hC dX2_putNumber_13 rfl 2 rfl rfl ?_
      obtain ⟨g_1, h⟩ := gd_some h
      refine wa_ldiv 15 hC dX2_putNumber_14 g_1 rfl ?_
      refine wa_ldc2 18 hC dX2_putNumber_15 lcX2_102 rfl ?_
      refine wa_lcmp 19 hC dX2_putNumber_18 rfl ?_
      refine wa_lcmp_lt 22 34 hC dX2_putNumber_19 rfl rfl h (fun h => ?_) (fun h => ?_)
      · refine wa_pick [0, 1, 2] rfl ?_
        exact hk34 x3 h
      · refine wa_lload_n 23 3 hC dX2_putNumber_22 rfl 2 rfl rfl ?_
        refine wa_ldc2 26 hC dX2_putNumber_23 lcX2_102 rfl ?_
        refine wa_lmul 27 hC dX2_putNumber_26 rfl ?_
        obtain ⟨x3_2, ex3_2, h⟩ := ltb_some h
        refine wa_lstore_n (lv' := [(3, .long x3_2), (0, .ref (ρ 2 0)), (1, .long x1), (5, .int x5)]) 28 3 hC dX2_putNumber_27 rfl ex3_2 (by decide) rfl rfl ?_
        obtain ⟨x5_3, ex5_3, h⟩ := ltb_some h
        refine wa_iinc (lv' := [(5, .int x5_3), (3, .long x3_2), (0, .ref (ρ 2 0)), (1, .long x1)]) 31 5 hC dX2_putNumber_28 3 rfl (by rw [kc_1]; exact ex5_3) (by decide) rfl rfl ?_
        refine wa_goto 5 hC dX2_putNumber_31 rfl ?_
        refine wa_pick [2, 3, 1, 0] rfl ?_
        exact ih x3_2 x5_3 h
set_option maxRecDepth 20000 in
theorem wX2_putNumber_L34 {E : eU} {G : gU} {ρ : Nat → Nat → Nat} {V : Nat → Nat → Prop} {Z : sM} {A' : sM} (x1 : Int64) {k64 : sM → Option (sM)} (hC : CX E G cX2_putNumber 6 RX2 none 2 0 0) (hVC : VC V) (hk64 : ∀ (A : sM), k64 A = some A' → WA E G ρ V 0 0 (J A Z) 64 [] []) : ∀ (n : Nat) (x3 : Int64) (A : sM), fX2_putNumber_L34 x1 k64 n x3 A = some A' → WA E G ρ V 0 0 (J A Z) 34 [(0, .ref (ρ 2 0)), (1, .long x1), (3, .long x3)] [] := by
  intro n
  induction n with
  | zero =>
    intro x3 A h
    rw [fX2_putNumber_L34] at h
    cases h
  | succ n ih =>
    intro x3 A h
    rw [fX2_putNumber_L34] at h
    refine wa_lload_n 35 3 hC dX2_putNumber_34 rfl 2 rfl rfl ?_
    refine wa_lconst 36 hC dX2_putNumber_35 kl_0 rfl ?_
    refine wa_lcmp 37 hC dX2_putNumber_36 rfl ?_
    refine wa_lcmp_le 40 64 hC dX2_putNumber_37 rfl rfl h (fun h => ?_) (fun h => ?_)
    · refine wa_pick [] rfl ?_
      exact hk64 A h
    · refine wa_aload_n 41 0 hC dX2_putNumber_40 rfl 0 rfl rfl ?_
      refine wa_bipush 43 hC dX2_putNumber_41 kb_48 rfl ?_
      refine wa_lload_n 44 1 hC dX2_putNumber_43 rfl 1 rfl rfl ?_
      refine wa_lload_n 45 3 hC dX2_putNumber_44 rfl 2 rfl rfl ?_
      obtain ⟨g_1, h⟩ := gd_some h
      refine wa_ldiv 46 hC dX2_putNumber_45 g_1 rfl ?_
      refine wa_ldc2 49 hC dX2_putNumber_46 lcX2_102 rfl ?_
      refine wa_lrem 50 hC dX2_putNumber_49 (by decide) rfl ?_
      refine wa_l2i 51 hC dX2_putNumber_50 rfl ?_
      refine wa_iadd 52 hC dX2_putNumber_51 rfl ?_
      obtain ⟨A_2, e_4, h⟩ := bd_some h
      refine wa_callVv 55 hC [.int ((48 : Int32) + (((x1 / x3) - (x1 / x3) / (10 : Int64) * (10 : Int64)).toInt32))] [] knX2_putByte mvX2_92 (tX2_putByte E.2.1 ((48 : Int32) + (((x1 / x3) - (x1 / x3) / (10 : Int64) * (10 : Int64)).toInt32)) A hVC e_4) (vs2 hVC) kc2 (Nat.le_of_ble_eq_true rfl) (Nat.le_of_ble_eq_true rfl) rfl (Nat.le_of_ble_eq_true rfl) dX2_putNumber_52 rfl le00 rfl ?_
      refine wa_lload_n 56 3 hC dX2_putNumber_55 rfl 2 rfl rfl ?_
      refine wa_ldc2 59 hC dX2_putNumber_56 lcX2_102 rfl ?_
      refine wa_ldiv 60 hC dX2_putNumber_59 (by decide) rfl ?_
      obtain ⟨x3_3, ex3_3, h⟩ := ltb_some h
      refine wa_lstore_n (lv' := [(3, .long x3_3), (0, .ref (ρ 2 0)), (1, .long x1)]) 61 3 hC dX2_putNumber_60 rfl ex3_3 (by decide) rfl rfl ?_
      refine wa_goto 34 hC dX2_putNumber_61 rfl ?_
      refine wa_pick [1, 2, 0] rfl ?_
      exact ih x3_3 A_2 h
set_option maxRecDepth 20000 in
theorem tX2_putNumber (l : Launch) {G : gU} {ρ : Nat → Nat → Nat} {V : Nat → Nat → Prop} {Z : sM} (x1 : Int64) (A : sM) (_ : VC V) {A' : sM} (h : fX2_putNumber x1 A = some A') : MT l yX2_putNumber cX2_putNumber 6 none 2 G ρ V [.ref (ρ 2 0), .long x1] (J A Z) none (J A' Z) := by
  refine vv_enter (lv := [(0, .ref (ρ 2 0)), (1, .long x1)]) RX2 rfl (by decide) (Nat.le_of_ble_eq_true rfl) rfl ?_
  intro E hE hC hQ hVC
  subst hE
  rw [fX2_putNumber] at h
  refine wa_lconst 1 hC dX2_putNumber_0 kl_1 rfl ?_
  refine wa_lstore_n (lv' := [(3, .long (1 : Int64)), (0, .ref (ρ 2 0)), (1, .long x1)]) 2 3 hC dX2_putNumber_1 rfl rfl (by decide) rfl rfl ?_
  refine wa_iconst 3 hC dX2_putNumber_2 kc_1 rfl ?_
  refine wa_istore (lv' := [(5, .int (1 : Int32)), (3, .long (1 : Int64)), (0, .ref (ρ 2 0)), (1, .long x1)]) 5 5 hC dX2_putNumber_3 rfl (by decide) rfl rfl ?_
  refine wa_pick [2, 3, 1, 0] rfl ?_
  refine wX2_putNumber_L5 x1 A hC hVC (fun x3_1 h => ?_) 10000 (1 : Int64) (1 : Int32) h
  refine wX2_putNumber_L34 x1 hC hVC (fun A_2 h => ?_) 10000 x3_1 A h
  exact wa_vret hC hQ (jA (sm0 h)) dX2_putNumber_64
set_option maxRecDepth 20000 in
theorem wX2_putText_L2 {E : eU} {G : gU} {ρ : Nat → Nat → Nat} {V : Nat → Nat → Prop} {Z : sM} {A' : sM} (s1 : Nat) {k25 : sM → Option (sM)} (hC : CX E G cX2_putText 3 RX2 none 6 0 0) (hVC : VC V) (hs1 : s1 < nSt) (hk25 : ∀ (A : sM), k25 A = some A' → WA E G ρ V 0 0 (J A Z) 25 [] []) : ∀ (n : Nat) (x2 : Int32) (A : sM), fX2_putText_L2 s1 k25 n x2 A = some A' → WA E G ρ V 0 0 (J A Z) 2 [(0, .ref (ρ 2 0)), (1, .ref (gS G (2 * s1))), (2, .int x2)] [] := by
  intro n
  induction n with
  | zero =>
    intro x2 A h
    rw [fX2_putText_L2] at h
    cases h
  | succ n ih =>
    intro x2 A h
    rw [fX2_putText_L2] at h
    refine wa_iload_n 3 2 hC dX2_putText_2 rfl 2 rfl rfl ?_
    refine wa_aload_n 4 1 hC dX2_putText_3 rfl 1 rfl rfl ?_
    refine wa_slen 7 hC stX2_83 hs1 (by decide) (Nat.le_of_ble_eq_true rfl) dX2_putText_4 rfl le00 ?_
    refine wa_icmp_ge 10 25 hC dX2_putText_7 rfl rfl h (fun h => ?_) (fun h => ?_)
    · refine wa_pick [] rfl ?_
      exact hk25 A h
    · refine wa_aload_n 11 0 hC dX2_putText_10 rfl 0 rfl rfl ?_
      refine wa_aload_n 12 1 hC dX2_putText_11 rfl 1 rfl rfl ?_
      refine wa_iload_n 13 2 hC dX2_putText_12 rfl 2 rfl rfl ?_
      obtain ⟨g_1, h⟩ := gd_some h
      refine wa_schar 16 hC stX2_88 hs1 g_1 (by decide) (Nat.le_of_ble_eq_true rfl) dX2_putText_13 rfl le00 ?_
      obtain ⟨A_2, e_4, h⟩ := bd_some h
      refine wa_callVv 19 hC [.int (strC s1 x2.toNatClampNeg)] [] knX2_putByte mvX2_92 (tX2_putByte E.2.1 (strC s1 x2.toNatClampNeg) A hVC e_4) (vs2 hVC) kc2 (Nat.le_of_ble_eq_true rfl) (Nat.le_of_ble_eq_true rfl) rfl (Nat.le_of_ble_eq_true rfl) dX2_putText_16 rfl le00 rfl ?_
      obtain ⟨x2_3, ex2_3, h⟩ := ltb_some h
      refine wa_iinc (lv' := [(2, .int x2_3), (0, .ref (ρ 2 0)), (1, .ref (gS G (2 * s1)))]) 22 2 hC dX2_putText_19 2 rfl (by rw [kc_1]; exact ex2_3) (by decide) rfl rfl ?_
      refine wa_goto 2 hC dX2_putText_22 rfl ?_
      refine wa_pick [1, 2, 0] rfl ?_
      exact ih x2_3 A_2 h
set_option maxRecDepth 20000 in
theorem tX2_putText (l : Launch) {G : gU} {ρ : Nat → Nat → Nat} {V : Nat → Nat → Prop} {Z : sM} (s1 : Nat) (A : sM) (_ : VC V) (hs1 : s1 < nSt) {A' : sM} (h : fX2_putText s1 A = some A') : MT l yX2_putText cX2_putText 3 none 6 G ρ V [.ref (ρ 2 0), .ref (gS G (2 * s1))] (J A Z) none (J A' Z) := by
  refine vv_enter (lv := [(0, .ref (ρ 2 0)), (1, .ref (gS G (2 * s1)))]) RX2 rfl (by decide) (Nat.le_of_ble_eq_true rfl) rfl ?_
  intro E hE hC hQ hVC
  subst hE
  rw [fX2_putText] at h
  refine wa_iconst 1 hC dX2_putText_0 kc_0 rfl ?_
  refine wa_istore_n (lv' := [(2, .int (0 : Int32)), (0, .ref (ρ 2 0)), (1, .ref (gS G (2 * s1)))]) 2 2 hC dX2_putText_1 rfl rfl (by decide) rfl rfl ?_
  refine wa_pick [1, 2, 0] rfl ?_
  refine wX2_putText_L2 s1 hC hVC hs1 (fun A_1 h => ?_) 10000 (0 : Int32) A h
  exact wa_vret hC hQ (jA (sm0 h)) dX2_putText_25
set_option maxRecDepth 20000 in
theorem tX2_putMoney (l : Launch) {G : gU} {ρ : Nat → Nat → Nat} {V : Nat → Nat → Prop} {Z : sM} (x1 : Int64) (A : sM) (_ : VC V) {A' : sM} (h : fX2_putMoney x1 A = some A') : MT l yX2_putMoney cX2_putMoney 3 none 7 G ρ V [.ref (ρ 2 0), .long x1] (J A Z) none (J A' Z) := by
  refine vv_enter (lv := [(0, .ref (ρ 2 0)), (1, .long x1)]) RX2 rfl (by decide) (Nat.le_of_ble_eq_true rfl) rfl ?_
  intro E hE hC hQ hVC
  subst hE
  rw [fX2_putMoney] at h
  refine wa_aload_n 1 0 hC dX2_putMoney_0 rfl 0 rfl rfl ?_
  refine wa_lload_n 2 1 hC dX2_putMoney_1 rfl 1 rfl rfl ?_
  refine wa_ldc2 5 hC dX2_putMoney_2 lcX2_96 rfl ?_
  refine wa_ldiv 6 hC dX2_putMoney_5 (by decide) rfl ?_
  obtain ⟨A_1, e_10, h⟩ := bd_some h
  refine wa_callVv 9 hC [.long (x1 / (1000 : Int64))] [] knX2_putNumber mvX2_25 (tX2_putNumber E.2.1 (x1 / (1000 : Int64)) A hVC e_10) (vs2 hVC) kc2 (Nat.le_of_ble_eq_true rfl) (Nat.le_of_ble_eq_true rfl) rfl (Nat.le_of_ble_eq_true rfl) dX2_putMoney_6 rfl le00 rfl ?_
  refine wa_aload_n 10 0 hC dX2_putMoney_9 rfl 0 rfl rfl ?_
  refine wa_ldcs 12 44 hC dX2_putMoney_10 (by decide) rfl rfl rfl ?_
  obtain ⟨A_2, e_9, h⟩ := bd_some h
  refine wa_callVv 15 hC [.ref (gS G (2 * 44))] [] knX2_putText mvX2_31 (tX2_putText E.2.1 44 A_1 hVC (by decide) e_9) (vs2 hVC) kc2 (Nat.le_of_ble_eq_true rfl) (Nat.le_of_ble_eq_true rfl) rfl (Nat.le_of_ble_eq_true rfl) dX2_putMoney_12 rfl le00 rfl ?_
  refine wa_aload_n 16 0 hC dX2_putMoney_15 rfl 0 rfl rfl ?_
  refine wa_bipush 18 hC dX2_putMoney_16 kb_48 rfl ?_
  refine wa_lload_n 19 1 hC dX2_putMoney_18 rfl 1 rfl rfl ?_
  refine wa_ldc2 22 hC dX2_putMoney_19 lcX2_100 rfl ?_
  refine wa_ldiv 23 hC dX2_putMoney_22 (by decide) rfl ?_
  refine wa_ldc2 26 hC dX2_putMoney_23 lcX2_102 rfl ?_
  refine wa_lrem 27 hC dX2_putMoney_26 (by decide) rfl ?_
  refine wa_l2i 28 hC dX2_putMoney_27 rfl ?_
  refine wa_iadd 29 hC dX2_putMoney_28 rfl ?_
  obtain ⟨A_3, e_8, h⟩ := bd_some h
  refine wa_callVv 32 hC [.int ((48 : Int32) + (((x1 / (100 : Int64)) - (x1 / (100 : Int64)) / (10 : Int64) * (10 : Int64)).toInt32))] [] knX2_putByte mvX2_92 (tX2_putByte E.2.1 ((48 : Int32) + (((x1 / (100 : Int64)) - (x1 / (100 : Int64)) / (10 : Int64) * (10 : Int64)).toInt32)) A_2 hVC e_8) (vs2 hVC) kc2 (Nat.le_of_ble_eq_true rfl) (Nat.le_of_ble_eq_true rfl) rfl (Nat.le_of_ble_eq_true rfl) dX2_putMoney_29 rfl le00 rfl ?_
  refine wa_aload_n 33 0 hC dX2_putMoney_32 rfl 0 rfl rfl ?_
  refine wa_bipush 35 hC dX2_putMoney_33 kb_48 rfl ?_
  refine wa_lload_n 36 1 hC dX2_putMoney_35 rfl 1 rfl rfl ?_
  refine wa_ldc2 39 hC dX2_putMoney_36 lcX2_102 rfl ?_
  refine wa_ldiv 40 hC dX2_putMoney_39 (by decide) rfl ?_
  refine wa_ldc2 43 hC dX2_putMoney_40 lcX2_102 rfl ?_
  refine wa_lrem 44 hC dX2_putMoney_43 (by decide) rfl ?_
  refine wa_l2i 45 hC dX2_putMoney_44 rfl ?_
  refine wa_iadd 46 hC dX2_putMoney_45 rfl ?_
  obtain ⟨A_4, e_7, h⟩ := bd_some h
  refine wa_callVv 49 hC [.int ((48 : Int32) + (((x1 / (10 : Int64)) - (x1 / (10 : Int64)) / (10 : Int64) * (10 : Int64)).toInt32))] [] knX2_putByte mvX2_92 (tX2_putByte E.2.1 ((48 : Int32) + (((x1 / (10 : Int64)) - (x1 / (10 : Int64)) / (10 : Int64) * (10 : Int64)).toInt32)) A_3 hVC e_7) (vs2 hVC) kc2 (Nat.le_of_ble_eq_true rfl) (Nat.le_of_ble_eq_true rfl) rfl (Nat.le_of_ble_eq_true rfl) dX2_putMoney_46 rfl le00 rfl ?_
  refine wa_aload_n 50 0 hC dX2_putMoney_49 rfl 0 rfl rfl ?_
  refine wa_bipush 52 hC dX2_putMoney_50 kb_48 rfl ?_
  refine wa_lload_n 53 1 hC dX2_putMoney_52 rfl 1 rfl rfl ?_
  refine wa_ldc2 56 hC dX2_putMoney_53 lcX2_102 rfl ?_
  refine wa_lrem 57 hC dX2_putMoney_56 (by decide) rfl ?_
  refine wa_l2i 58 hC dX2_putMoney_57 rfl ?_
  refine wa_iadd 59 hC dX2_putMoney_58 rfl ?_
  obtain ⟨A_5, e_6, h⟩ := bd_some h
  refine wa_callVv 62 hC [.int ((48 : Int32) + ((x1 - x1 / (10 : Int64) * (10 : Int64)).toInt32))] [] knX2_putByte mvX2_92 (tX2_putByte E.2.1 ((48 : Int32) + ((x1 - x1 / (10 : Int64) * (10 : Int64)).toInt32)) A_4 hVC e_6) (vs2 hVC) kc2 (Nat.le_of_ble_eq_true rfl) (Nat.le_of_ble_eq_true rfl) rfl (Nat.le_of_ble_eq_true rfl) dX2_putMoney_59 rfl le00 rfl ?_
  exact wa_vret hC hQ (jA (sm0 h)) dX2_putMoney_62
set_option maxRecDepth 20000 in
theorem tX2_putAssignment (l : Launch) {G : gU} {ρ : Nat → Nat → Nat} {V : Nat → Nat → Prop} {Z : sM} (o1 : Nat) (A : sM) (_ : VC V) (ho1 : V 8 o1) {A' : sM} (h : fX2_putAssignment o1 A = some A') : MT l yX2_putAssignment cX2_putAssignment 2 none 7 G ρ V [.ref (ρ 2 0), .ref (ρ 8 o1)] (J A Z) none (J A' Z) := by
  refine vv_enter (lv := [(0, .ref (ρ 2 0)), (1, .ref (ρ 8 o1))]) RX2 rfl (by decide) (Nat.le_of_ble_eq_true rfl) rfl ?_
  intro E hE hC hQ hVC
  subst hE
  rw [fX2_putAssignment] at h
  refine wa_aload_n 1 1 hC dX2_putAssignment_0 rfl 1 rfl rfl ?_
  refine wa_getIc 4 hC ho1 sh8_5 rfl flX2_73 dX2_putAssignment_1 rfl ?_
  refine wa_iconst 5 hC dX2_putAssignment_4 kc_m1 rfl ?_
  refine wa_icmp_eq 8 44 hC dX2_putAssignment_5 rfl rfl h (fun h => ?_) (fun h => ?_)
  · exact wa_vret hC hQ (jA (sm0 h)) dX2_putAssignment_44
  · refine wa_aload_n 9 0 hC dX2_putAssignment_8 rfl 0 rfl rfl ?_
    refine wa_ldcs 11 45 hC dX2_putAssignment_9 (by decide) rfl rfl rfl ?_
    obtain ⟨A_1, e_10, h⟩ := bd_some h
    refine wa_callVv 14 hC [.ref (gS G (2 * 45))] [] knX2_putText mvX2_31 (tX2_putText E.2.1 45 A hVC (by decide) e_10) (vs2 hVC) kc2 (Nat.le_of_ble_eq_true rfl) (Nat.le_of_ble_eq_true rfl) rfl (Nat.le_of_ble_eq_true rfl) dX2_putAssignment_11 rfl le00 rfl ?_
    refine wa_aload_n 15 0 hC dX2_putAssignment_14 rfl 0 rfl rfl ?_
    refine wa_aload_n 16 1 hC dX2_putAssignment_15 rfl 1 rfl rfl ?_
    refine wa_getIc 19 hC ho1 sh8_5 rfl flX2_73 dX2_putAssignment_16 rfl ?_
    refine wa_i2l 20 hC dX2_putAssignment_19 rfl ?_
    obtain ⟨A_2, e_9, h⟩ := bd_some h
    refine wa_callVv 23 hC [.long ((A_1.1 8 5 o1 0).toInt64)] [] knX2_putNumber mvX2_25 (tX2_putNumber E.2.1 ((A_1.1 8 5 o1 0).toInt64) A_1 hVC e_9) (vs2 hVC) kc2 (Nat.le_of_ble_eq_true rfl) (Nat.le_of_ble_eq_true rfl) rfl (Nat.le_of_ble_eq_true rfl) dX2_putAssignment_20 rfl le00 rfl ?_
    refine wa_aload_n 24 0 hC dX2_putAssignment_23 rfl 0 rfl rfl ?_
    refine wa_ldcs 26 40 hC dX2_putAssignment_24 (by decide) rfl rfl rfl ?_
    obtain ⟨A_3, e_8, h⟩ := bd_some h
    refine wa_callVv 29 hC [.ref (gS G (2 * 40))] [] knX2_putText mvX2_31 (tX2_putText E.2.1 40 A_2 hVC (by decide) e_8) (vs2 hVC) kc2 (Nat.le_of_ble_eq_true rfl) (Nat.le_of_ble_eq_true rfl) rfl (Nat.le_of_ble_eq_true rfl) dX2_putAssignment_26 rfl le00 rfl ?_
    refine wa_aload_n 30 0 hC dX2_putAssignment_29 rfl 0 rfl rfl ?_
    refine wa_aload_n 31 1 hC dX2_putAssignment_30 rfl 1 rfl rfl ?_
    refine wa_getIc 34 hC ho1 sh8_6 rfl flX2_78 dX2_putAssignment_31 rfl ?_
    refine wa_i2l 35 hC dX2_putAssignment_34 rfl ?_
    obtain ⟨A_4, e_7, h⟩ := bd_some h
    refine wa_callVv 38 hC [.long ((A_3.1 8 6 o1 0).toInt64)] [] knX2_putNumber mvX2_25 (tX2_putNumber E.2.1 ((A_3.1 8 6 o1 0).toInt64) A_3 hVC e_7) (vs2 hVC) kc2 (Nat.le_of_ble_eq_true rfl) (Nat.le_of_ble_eq_true rfl) rfl (Nat.le_of_ble_eq_true rfl) dX2_putAssignment_35 rfl le00 rfl ?_
    refine wa_aload_n 39 0 hC dX2_putAssignment_38 rfl 0 rfl rfl ?_
    refine wa_ldcs 41 46 hC dX2_putAssignment_39 (by decide) rfl rfl rfl ?_
    obtain ⟨A_5, e_6, h⟩ := bd_some h
    refine wa_callVv 44 hC [.ref (gS G (2 * 46))] [] knX2_putText mvX2_31 (tX2_putText E.2.1 46 A_4 hVC (by decide) e_6) (vs2 hVC) kc2 (Nat.le_of_ble_eq_true rfl) (Nat.le_of_ble_eq_true rfl) rfl (Nat.le_of_ble_eq_true rfl) dX2_putAssignment_41 rfl le00 rfl ?_
    exact wa_vret hC hQ (jA (sm0 h)) dX2_putAssignment_44
set_option maxRecDepth 20000 in
theorem tX2_write (l : Launch) {G : gU} {ρ : Nat → Nat → Nat} {V : Nat → Nat → Prop} {Z : sM} (o1 : Nat) (x2 : Int32) (A : sM) (_ : VC V) (ho1 : V 0 o1) {A' : sM} (h : fX2_write o1 x2 A = some A') : MT l yX2_write cX2_write 4 none 8 G ρ V [.ref (ρ 2 0), .ref (ρ 0 o1), .int x2] (J A Z) none (J A' Z) := by
  refine vv_enter (lv := [(0, .ref (ρ 2 0)), (1, .ref (ρ 0 o1)), (2, .int x2)]) RX2 rfl (by decide) (Nat.le_of_ble_eq_true rfl) rfl ?_
  intro E hE hC hQ hVC
  subst hE
  rw [fX2_write] at h
  refine wa_aload_n 1 1 hC dX2_write_0 rfl 1 rfl rfl ?_
  refine wa_getR 4 hC ho1 (sr0_2 _) flX2_15 dX2_write_1 rfl ?_
  refine wa_iload_n 5 2 hC dX2_write_4 rfl 2 rfl rfl ?_
  obtain ⟨g_1, h⟩ := gd_some h
  refine wa_aald 6 hC (vc11 hVC ho1) g_1 dX2_write_5 rfl ?_
  refine wa_astore_n (lv' := [(3, .ref (ρ 8 (16 * o1 + x2.toNatClampNeg))), (0, .ref (ρ 2 0)), (1, .ref (ρ 0 o1)), (2, .int x2)]) 7 3 hC dX2_write_6 rfl rfl (by decide) rfl rfl ?_
  refine wa_aload_n 8 0 hC dX2_write_7 rfl 1 rfl rfl ?_
  refine wa_iconst 9 hC dX2_write_8 kc_0 rfl ?_
  obtain ⟨A_2, eA_2, h⟩ := ltb_some h
  refine wa_putIc 12 hC (vs2 hVC) nk2 eA_2 sh2_1 rfl fpX2_21 dX2_write_9 rfl ?_
  refine wa_aload_n 13 0 hC dX2_write_12 rfl 1 rfl rfl ?_
  refine wa_iload_n 14 2 hC dX2_write_13 rfl 3 rfl rfl ?_
  refine wa_i2l 15 hC dX2_write_14 rfl ?_
  obtain ⟨A_3, e_33, h⟩ := bd_some h
  refine wa_callVv 18 hC [.long (x2.toInt64)] [] knX2_putNumber mvX2_25 (tX2_putNumber E.2.1 (x2.toInt64) A_2 hVC e_33) (vs2 hVC) kc2 (Nat.le_of_ble_eq_true rfl) (Nat.le_of_ble_eq_true rfl) rfl (Nat.le_of_ble_eq_true rfl) dX2_write_15 rfl le00 rfl ?_
  refine wa_aload_n 19 0 hC dX2_write_18 rfl 1 rfl rfl ?_
  refine wa_ldcs 21 40 hC dX2_write_19 (by decide) rfl rfl rfl ?_
  obtain ⟨A_4, e_32, h⟩ := bd_some h
  refine wa_callVv 24 hC [.ref (gS G (2 * 40))] [] knX2_putText mvX2_31 (tX2_putText E.2.1 40 A_3 hVC (by decide) e_32) (vs2 hVC) kc2 (Nat.le_of_ble_eq_true rfl) (Nat.le_of_ble_eq_true rfl) rfl (Nat.le_of_ble_eq_true rfl) dX2_write_21 rfl le00 rfl ?_
  refine wa_aload_n 25 3 hC dX2_write_24 rfl 0 rfl rfl ?_
  refine wa_getIc 28 hC (vc8 hVC ho1 (inb_lt g_1)) sh8_0 rfl flX2_35 dX2_write_25 rfl ?_
  refine wa_if_ne 31 65 hC dX2_write_28 rfl rfl h (fun h => ?_) (fun h => ?_)
  · refine wa_aload_n 66 3 hC dX2_write_65 rfl 0 rfl rfl ?_
    refine wa_getIc 69 hC (vc8 hVC ho1 (inb_lt g_1)) sh8_0 rfl flX2_35 dX2_write_66 rfl ?_
    refine wa_iconst 70 hC dX2_write_69 kc_1 rfl ?_
    refine wa_icmp_ne 73 110 hC dX2_write_70 rfl rfl h (fun h => ?_) (fun h => ?_)
    · refine wa_aload_n 111 0 hC dX2_write_110 rfl 1 rfl rfl ?_
      refine wa_ldcs 113 47 hC dX2_write_111 (by decide) rfl rfl rfl ?_
      obtain ⟨A_5, e_9, h⟩ := bd_some h
      refine wa_callVv 116 hC [.ref (gS G (2 * 47))] [] knX2_putText mvX2_31 (tX2_putText E.2.1 47 A_4 hVC (by decide) e_9) (vs2 hVC) kc2 (Nat.le_of_ble_eq_true rfl) (Nat.le_of_ble_eq_true rfl) rfl (Nat.le_of_ble_eq_true rfl) dX2_write_113 rfl le00 rfl ?_
      refine wa_aload_n 117 0 hC dX2_write_116 rfl 1 rfl rfl ?_
      refine wa_aload_n 118 3 hC dX2_write_117 rfl 0 rfl rfl ?_
      refine wa_getR 121 hC (vc8 hVC ho1 (inb_lt g_1)) (sr8_9 _) flX2_69 dX2_write_118 rfl ?_
      refine wa_iconst 122 hC dX2_write_121 kc_3 rfl ?_
      refine wa_laldc 123 hC (vc26 hVC (vc8 hVC ho1 (inb_lt g_1))) ar26 rfl (by decide) dX2_write_122 rfl ?_
      obtain ⟨A_7, e_8, h⟩ := bd_some h
      refine wa_callVv 126 hC [.long (A_5.2 26 0 (16 * o1 + x2.toNatClampNeg) (3 : Int32).toNatClampNeg)] [] knX2_putMoney mvX2_60 (tX2_putMoney E.2.1 (A_5.2 26 0 (16 * o1 + x2.toNatClampNeg) (3 : Int32).toNatClampNeg) A_5 hVC e_8) (vs2 hVC) kc2 (Nat.le_of_ble_eq_true rfl) (Nat.le_of_ble_eq_true rfl) rfl (Nat.le_of_ble_eq_true rfl) dX2_write_123 rfl le00 rfl ?_
      exact wa_vret hC hQ (jA (sm0 h)) dX2_write_126
    · refine wa_aload_n 74 0 hC dX2_write_73 rfl 1 rfl rfl ?_
      refine wa_ldcs 76 43 hC dX2_write_74 (by decide) rfl rfl rfl ?_
      obtain ⟨A_10, e_21, h⟩ := bd_some h
      refine wa_callVv 79 hC [.ref (gS G (2 * 43))] [] knX2_putText mvX2_31 (tX2_putText E.2.1 43 A_4 hVC (by decide) e_21) (vs2 hVC) kc2 (Nat.le_of_ble_eq_true rfl) (Nat.le_of_ble_eq_true rfl) rfl (Nat.le_of_ble_eq_true rfl) dX2_write_76 rfl le00 rfl ?_
      refine wa_aload_n 80 0 hC dX2_write_79 rfl 1 rfl rfl ?_
      refine wa_aload_n 81 3 hC dX2_write_80 rfl 0 rfl rfl ?_
      refine wa_getIc 84 hC (vc8 hVC ho1 (inb_lt g_1)) sh8_4 rfl flX2_53 dX2_write_81 rfl ?_
      refine wa_i2l 85 hC dX2_write_84 rfl ?_
      obtain ⟨A_11, e_20, h⟩ := bd_some h
      refine wa_callVv 88 hC [.long ((A_10.1 8 4 (16 * o1 + x2.toNatClampNeg) 0).toInt64)] [] knX2_putNumber mvX2_25 (tX2_putNumber E.2.1 ((A_10.1 8 4 (16 * o1 + x2.toNatClampNeg) 0).toInt64) A_10 hVC e_20) (vs2 hVC) kc2 (Nat.le_of_ble_eq_true rfl) (Nat.le_of_ble_eq_true rfl) rfl (Nat.le_of_ble_eq_true rfl) dX2_write_85 rfl le00 rfl ?_
      refine wa_aload_n 89 0 hC dX2_write_88 rfl 1 rfl rfl ?_
      refine wa_ldcs 91 42 hC dX2_write_89 (by decide) rfl rfl rfl ?_
      obtain ⟨A_12, e_19, h⟩ := bd_some h
      refine wa_callVv 94 hC [.ref (gS G (2 * 42))] [] knX2_putText mvX2_31 (tX2_putText E.2.1 42 A_11 hVC (by decide) e_19) (vs2 hVC) kc2 (Nat.le_of_ble_eq_true rfl) (Nat.le_of_ble_eq_true rfl) rfl (Nat.le_of_ble_eq_true rfl) dX2_write_91 rfl le00 rfl ?_
      refine wa_aload_n 95 0 hC dX2_write_94 rfl 1 rfl rfl ?_
      refine wa_aload_n 96 3 hC dX2_write_95 rfl 0 rfl rfl ?_
      obtain ⟨r_13, e_18, h⟩ := bd_some h
      refine wa_callVl 99 hC [] [.ref (ρ 2 0)] knX8_lotSum mvX2_56 (tX8_lotSum E.2.1 (16 * o1 + x2.toNatClampNeg) A_12 hVC (vc8 hVC ho1 (inb_lt g_1)) e_18) (vc8 hVC ho1 (inb_lt g_1)) kc8 (Nat.le_of_ble_eq_true rfl) (Nat.le_of_ble_eq_true rfl) rfl (Nat.le_of_ble_eq_true rfl) dX2_write_96 rfl le00 rfl ?_
      obtain ⟨A_14, e_17, h⟩ := bd_some h
      refine wa_callVv 102 hC [.long r_13] [] knX2_putMoney mvX2_60 (tX2_putMoney E.2.1 r_13 A_12 hVC e_17) (vs2 hVC) kc2 (Nat.le_of_ble_eq_true rfl) (Nat.le_of_ble_eq_true rfl) rfl (Nat.le_of_ble_eq_true rfl) dX2_write_99 rfl le00 rfl ?_
      refine wa_aload_n 103 0 hC dX2_write_102 rfl 1 rfl rfl ?_
      refine wa_aload_n 104 3 hC dX2_write_103 rfl 0 rfl rfl ?_
      obtain ⟨A_15, e_16, h⟩ := bd_some h
      refine wa_callVv 107 hC [.ref (ρ 8 (16 * o1 + x2.toNatClampNeg))] [] knX2_putAssignment mvX2_63 (tX2_putAssignment E.2.1 (16 * o1 + x2.toNatClampNeg) A_14 hVC (vc8 hVC ho1 (inb_lt g_1)) e_16) (vs2 hVC) kc2 (Nat.le_of_ble_eq_true rfl) (Nat.le_of_ble_eq_true rfl) rfl (Nat.le_of_ble_eq_true rfl) dX2_write_104 rfl le00 rfl ?_
      refine wa_goto 126 hC dX2_write_107 rfl ?_
      exact wa_vret hC hQ (jA (sm0 h)) dX2_write_126
  · refine wa_aload_n 32 0 hC dX2_write_31 rfl 1 rfl rfl ?_
    refine wa_ldcs 34 41 hC dX2_write_32 (by decide) rfl rfl rfl ?_
    obtain ⟨A_22, e_31, h⟩ := bd_some h
    refine wa_callVv 37 hC [.ref (gS G (2 * 41))] [] knX2_putText mvX2_31 (tX2_putText E.2.1 41 A_4 hVC (by decide) e_31) (vs2 hVC) kc2 (Nat.le_of_ble_eq_true rfl) (Nat.le_of_ble_eq_true rfl) rfl (Nat.le_of_ble_eq_true rfl) dX2_write_34 rfl le00 rfl ?_
    refine wa_aload_n 38 0 hC dX2_write_37 rfl 1 rfl rfl ?_
    refine wa_aload_n 39 1 hC dX2_write_38 rfl 2 rfl rfl ?_
    refine wa_iload_n 40 2 hC dX2_write_39 rfl 3 rfl rfl ?_
    obtain ⟨r_23, e_30, h⟩ := bd_some h
    refine wa_callVi 43 hC [.int x2] [.ref (ρ 2 0)] knX0_placeOnWaitingList mvX2_42 (tX0_placeOnWaitingList E.2.1 o1 x2 A_22 hVC ho1 e_30) ho1 kc0 (Nat.le_of_ble_eq_true rfl) (Nat.le_of_ble_eq_true rfl) rfl (Nat.le_of_ble_eq_true rfl) dX2_write_40 rfl le00 rfl ?_
    refine wa_i2l 44 hC dX2_write_43 rfl ?_
    obtain ⟨A_24, e_29, h⟩ := bd_some h
    refine wa_callVv 47 hC [.long (r_23.toInt64)] [] knX2_putNumber mvX2_25 (tX2_putNumber E.2.1 (r_23.toInt64) A_22 hVC e_29) (vs2 hVC) kc2 (Nat.le_of_ble_eq_true rfl) (Nat.le_of_ble_eq_true rfl) rfl (Nat.le_of_ble_eq_true rfl) dX2_write_44 rfl le00 rfl ?_
    refine wa_aload_n 48 0 hC dX2_write_47 rfl 1 rfl rfl ?_
    refine wa_ldcs 50 42 hC dX2_write_48 (by decide) rfl rfl rfl ?_
    obtain ⟨A_25, e_28, h⟩ := bd_some h
    refine wa_callVv 53 hC [.ref (gS G (2 * 42))] [] knX2_putText mvX2_31 (tX2_putText E.2.1 42 A_24 hVC (by decide) e_28) (vs2 hVC) kc2 (Nat.le_of_ble_eq_true rfl) (Nat.le_of_ble_eq_true rfl) rfl (Nat.le_of_ble_eq_true rfl) dX2_write_50 rfl le00 rfl ?_
    refine wa_aload_n 54 0 hC dX2_write_53 rfl 1 rfl rfl ?_
    refine wa_aload_n 55 3 hC dX2_write_54 rfl 0 rfl rfl ?_
    refine wa_getIc 58 hC (vc8 hVC ho1 (inb_lt g_1)) sh8_2 rfl flX2_48 dX2_write_55 rfl ?_
    refine wa_i2l 59 hC dX2_write_58 rfl ?_
    obtain ⟨A_26, e_27, h⟩ := bd_some h
    refine wa_callVv 62 hC [.long ((A_25.1 8 2 (16 * o1 + x2.toNatClampNeg) 0).toInt64)] [] knX2_putNumber mvX2_25 (tX2_putNumber E.2.1 ((A_25.1 8 2 (16 * o1 + x2.toNatClampNeg) 0).toInt64) A_25 hVC e_27) (vs2 hVC) kc2 (Nat.le_of_ble_eq_true rfl) (Nat.le_of_ble_eq_true rfl) rfl (Nat.le_of_ble_eq_true rfl) dX2_write_59 rfl le00 rfl ?_
    refine wa_goto 126 hC dX2_write_62 rfl ?_
    exact wa_vret hC hQ (jA (sm0 h)) dX2_write_126
