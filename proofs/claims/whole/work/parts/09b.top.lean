set_option maxRecDepth 20000 in
theorem tX9_errorPosition (l : Launch) {G : gU} {ρ : Nat → Nat → Nat} {V : Nat → Nat → Prop} {Z : sM} (A : sM) (_ : VC V) {r : Int32} (h : fX9_errorPosition A = some r) : MT l yX9_errorPosition cX9_errorPosition 1 (some .int) 1 G ρ V [.ref (ρ 9 0)] (J A Z) (some (.int r)) (J A Z) := by
  refine vv_enter (lv := [(0, .ref (ρ 9 0))]) RX9 rfl (by decide) (Nat.le_of_ble_eq_true rfl) rfl ?_
  intro E hE hC hQ hVC
  subst hE
  rw [fX9_errorPosition] at h
  refine wa_aload_n 1 0 hC dX9_errorPosition_0 rfl 0 rfl rfl ?_
  refine wa_getIc 4 hC (vs9 hVC) sh9_7 rfl flX9_58 dX9_errorPosition_1 rfl ?_
  exact wa_iret hC hQ (sm0 h) rfl dX9_errorPosition_4
set_option maxRecDepth 20000 in
theorem tX9_subscriberCount (l : Launch) {G : gU} {ρ : Nat → Nat → Nat} {V : Nat → Nat → Prop} {Z : sM} (A : sM) (_ : VC V) {r : Int32} (h : fX9_subscriberCount A = some r) : MT l yX9_subscriberCount cX9_subscriberCount 1 (some .int) 1 G ρ V [.ref (ρ 9 0)] (J A Z) (some (.int r)) (J A Z) := by
  refine vv_enter (lv := [(0, .ref (ρ 9 0))]) RX9 rfl (by decide) (Nat.le_of_ble_eq_true rfl) rfl ?_
  intro E hE hC hQ hVC
  subst hE
  rw [fX9_subscriberCount] at h
  refine wa_aload_n 1 0 hC dX9_subscriberCount_0 rfl 0 rfl rfl ?_
  refine wa_getR 4 hC (vs9 hVC) (sr9_0 _) flX9_12 dX9_subscriberCount_1 rfl ?_
  refine wa_getIc 7 hC hVC.2.2.2.2.2.1 sh0_3 rfl flX9_141 dX9_subscriberCount_4 rfl ?_
  exact wa_iret hC hQ (sm0 h) rfl dX9_subscriberCount_7
set_option maxRecDepth 20000 in
theorem tX9_freeShares (l : Launch) {G : gU} {ρ : Nat → Nat → Nat} {V : Nat → Nat → Prop} {Z : sM} (A : sM) (_ : VC V) {r : Int32} (h : fX9_freeShares A = some r) : MT l yX9_freeShares cX9_freeShares 1 (some .int) 3 G ρ V [.ref (ρ 9 0)] (J A Z) (some (.int r)) (J A Z) := by
  refine vv_enter (lv := [(0, .ref (ρ 9 0))]) RX9 rfl (by decide) (Nat.le_of_ble_eq_true rfl) rfl ?_
  intro E hE hC hQ hVC
  subst hE
  rw [fX9_freeShares] at h
  refine wa_aload_n 1 0 hC dX9_freeShares_0 rfl 0 rfl rfl ?_
  refine wa_getR 4 hC (vs9 hVC) (sr9_0 _) flX9_12 dX9_freeShares_1 rfl ?_
  obtain ⟨r_1, e_2, h⟩ := bd_some h
  refine wa_callVi 7 hC [] [] knX0_unheldShares mvX9_163 (tX0_unheldShares E.2.1 0 A hVC hVC.2.2.2.2.2.1 e_2) hVC.2.2.2.2.2.1 kc0 (Nat.le_of_ble_eq_true rfl) (Nat.le_of_ble_eq_true rfl) rfl (Nat.le_of_ble_eq_true rfl) dX9_freeShares_4 rfl le00 rfl ?_
  exact wa_iret hC hQ (sm0 h) rfl dX9_freeShares_7
set_option maxRecDepth 20000 in
theorem tX9_month (l : Launch) {G : gU} {ρ : Nat → Nat → Nat} {V : Nat → Nat → Prop} {Z : sM} (A : sM) (_ : VC V) {r : Int32} (h : fX9_month A = some r) : MT l yX9_month cX9_month 1 (some .int) 1 G ρ V [.ref (ρ 9 0)] (J A Z) (some (.int r)) (J A Z) := by
  refine vv_enter (lv := [(0, .ref (ρ 9 0))]) RX9 rfl (by decide) (Nat.le_of_ble_eq_true rfl) rfl ?_
  intro E hE hC hQ hVC
  subst hE
  rw [fX9_month] at h
  refine wa_aload_n 1 0 hC dX9_month_0 rfl 0 rfl rfl ?_
  refine wa_getR 4 hC (vs9 hVC) (sr9_0 _) flX9_12 dX9_month_1 rfl ?_
  refine wa_getIc 7 hC hVC.2.2.2.2.2.1 sh0_4 rfl flX9_224 dX9_month_4 rfl ?_
  exact wa_iret hC hQ (sm0 h) rfl dX9_month_7
set_option maxRecDepth 20000 in
theorem tX9_weighProjected (l : Launch) {G : gU} {ρ : Nat → Nat → Nat} {V : Nat → Nat → Prop} {Z : sM} (A : sM) (_ : VC V) {A' : sM} (h : fX9_weighProjected A = some A') : MT l yX9_weighProjected cX9_weighProjected 1 none 4 G ρ V [.ref (ρ 9 0)] (J A Z) none (J A' Z) := by
  refine vv_enter (lv := [(0, .ref (ρ 9 0))]) RX9 rfl (by decide) (Nat.le_of_ble_eq_true rfl) rfl ?_
  intro E hE hC hQ hVC
  subst hE
  rw [fX9_weighProjected] at h
  refine wa_aload_n 1 0 hC dX9_weighProjected_0 rfl 0 rfl rfl ?_
  refine wa_getR 4 hC (vs9 hVC) (sr9_4 _) flX9_40 dX9_weighProjected_1 rfl ?_
  refine wa_aload_n 5 0 hC dX9_weighProjected_4 rfl 0 rfl rfl ?_
  refine wa_getR 8 hC (vs9 hVC) (sr9_0 _) flX9_12 dX9_weighProjected_5 rfl ?_
  refine wa_aload_n 9 0 hC dX9_weighProjected_8 rfl 0 rfl rfl ?_
  refine wa_getR 12 hC (vs9 hVC) (sr9_0 _) flX9_12 dX9_weighProjected_9 rfl ?_
  refine wa_getIc 15 hC hVC.2.2.2.2.2.1 sh0_4 rfl flX9_224 dX9_weighProjected_12 rfl ?_
  refine wa_bipush 17 hC dX9_weighProjected_15 kb_30 rfl ?_
  refine wa_aload_n 18 0 hC dX9_weighProjected_17 rfl 0 rfl rfl ?_
  refine wa_getR 21 hC (vs9 hVC) (sr9_0 _) flX9_12 dX9_weighProjected_18 rfl ?_
  refine wa_getIc 24 hC hVC.2.2.2.2.2.1 sh0_5 rfl flX9_213 dX9_weighProjected_21 rfl ?_
  refine wa_isub 25 hC dX9_weighProjected_24 rfl ?_
  obtain ⟨A_1, e_2, h⟩ := bd_some h
  refine wa_callVv 28 hC [.ref (ρ 0 0), .int (A.1 0 4 0 0), .int ((30 : Int32) - (A.1 0 5 0 0))] [] knX3_weighShareDays mvX9_256 (tX3_weighShareDays E.2.1 0 (A.1 0 4 0 0) ((30 : Int32) - (A.1 0 5 0 0)) A hVC hVC.2.2.2.2.2.1 e_2) (vs3 hVC) kc3 (Nat.le_of_ble_eq_true rfl) (Nat.le_of_ble_eq_true rfl) rfl (Nat.le_of_ble_eq_true rfl) dX9_weighProjected_25 rfl le00 rfl ?_
  exact wa_vret hC hQ (jA (sm0 h)) dX9_weighProjected_28
set_option maxRecDepth 20000 in
theorem tX9_placeOf (l : Launch) {G : gU} {ρ : Nat → Nat → Nat} {V : Nat → Nat → Prop} {Z : sM} (x0 : Int32) (A : sM) (_ : VC V) {r : Int32} (h : fX9_placeOf x0 A = some r) : MT l yX9_placeOf cX9_placeOf 1 (some .int) 1 G ρ V [.int x0] (J A Z) (some (.int r)) (J A Z) := by
  refine vv_enter (lv := [(0, .int x0)]) RX9 rfl (by decide) (Nat.le_of_ble_eq_true rfl) rfl ?_
  intro E hE hC hQ hVC
  subst hE
  rw [fX9_placeOf] at h
  refine wa_iload_n 1 0 hC dX9_placeOf_0 rfl 0 rfl rfl ?_
  refine wa_iconst 2 hC dX9_placeOf_1 kc_m1 rfl ?_
  refine wa_icmp_ne 5 10 hC dX9_placeOf_2 rfl rfl h (fun h => ?_) (fun h => ?_)
  · refine wa_iload_n 11 0 hC dX9_placeOf_10 rfl 0 rfl rfl ?_
    exact wa_iret hC hQ (sm0 h) rfl dX9_placeOf_11
  · refine wa_bipush 7 hC dX9_placeOf_5 kb_16 rfl ?_
    refine wa_goto 11 hC dX9_placeOf_7 rfl ?_
    exact wa_iret hC hQ (sm0 h) rfl dX9_placeOf_11
set_option maxRecDepth 20000 in
theorem wX9_greatestDivisor_L3 {E : eU} {G : gU} {ρ : Nat → Nat → Nat} {V : Nat → Nat → Prop} {Z : sM} {r : Int64} (A : sM) {k33 : Int64 → Option (Int64)} (hC : CX E G cX9_greatestDivisor 7 RX9 (some .long) 2 0 0) (hVC : VC V) (hk33 : ∀ (x0 : Int64), k33 x0 = some r → WA E G ρ V 0 0 (J A Z) 33 [(0, .long x0)] []) : ∀ (n : Nat) (x0 : Int64) (x2 : Int64) (x4 : Int32), fX9_greatestDivisor_L3 A k33 n x0 x2 x4 = some r → WA E G ρ V 0 0 (J A Z) 3 [(0, .long x0), (2, .long x2), (4, .int x4)] [] := by
  intro n
  induction n with
  | zero =>
    intro x0 x2 x4 h
    rw [fX9_greatestDivisor_L3] at h
    cases h
  | succ n ih =>
    intro x0 x2 x4 h
    rw [fX9_greatestDivisor_L3] at h
    refine wa_iload 5 4 hC dX9_greatestDivisor_3 2 rfl rfl ?_
    refine wa_sipush 8 hC dX9_greatestDivisor_5 ks_200 rfl ?_
    refine wa_icmp_ge 11 33 hC dX9_greatestDivisor_8 rfl rfl h (fun h => ?_) (fun h => ?_)
    · refine wa_pick [0] rfl ?_
      exact hk33 x0 h
    · refine wa_lload_n 12 2 hC dX9_greatestDivisor_11 rfl 1 rfl rfl ?_
      refine wa_lconst 13 hC dX9_greatestDivisor_12 kl_0 rfl ?_
      refine wa_lcmp 14 hC dX9_greatestDivisor_13 rfl ?_
      refine wa_lcmp_eq 17 33 hC dX9_greatestDivisor_14 rfl rfl h (fun h => ?_) (fun h => ?_)
      · refine wa_pick [0] rfl ?_
        exact hk33 x0 h
      · refine wa_lload_n 18 0 hC dX9_greatestDivisor_17 rfl 0 rfl rfl ?_
        refine wa_lload_n 19 2 hC dX9_greatestDivisor_18 rfl 1 rfl rfl ?_
        obtain ⟨g_1, h⟩ := gd_some h
        refine wa_lrem 20 hC dX9_greatestDivisor_19 g_1 rfl ?_
        obtain ⟨x5_2, ex5_2, h⟩ := ltb_some h
        refine wa_lstore (lv' := [(5, .long x5_2), (0, .long x0), (2, .long x2), (4, .int x4)]) 22 5 hC dX9_greatestDivisor_20 ex5_2 (by decide) rfl rfl ?_
        refine wa_lload_n 23 2 hC dX9_greatestDivisor_22 rfl 2 rfl rfl ?_
        refine wa_lstore_n (lv' := [(0, .long x2), (5, .long x5_2), (2, .long x2), (4, .int x4)]) 24 0 hC dX9_greatestDivisor_23 rfl rfl (by decide) rfl rfl ?_
        refine wa_lload 26 5 hC dX9_greatestDivisor_24 1 rfl rfl ?_
        refine wa_lstore_n (lv' := [(2, .long x5_2), (0, .long x2), (5, .long x5_2), (4, .int x4)]) 27 2 hC dX9_greatestDivisor_26 rfl rfl (by decide) rfl rfl ?_
        obtain ⟨x4_3, ex4_3, h⟩ := ltb_some h
        refine wa_iinc (lv' := [(4, .int x4_3), (2, .long x5_2), (0, .long x2), (5, .long x5_2)]) 30 4 hC dX9_greatestDivisor_27 3 rfl (by rw [kc_1]; exact ex4_3) (by decide) rfl rfl ?_
        refine wa_goto 3 hC dX9_greatestDivisor_30 rfl ?_
        refine wa_pick [2, 1, 0] rfl ?_
        exact ih x2 x5_2 x4_3 h
set_option maxRecDepth 20000 in
theorem tX9_greatestDivisor (l : Launch) {G : gU} {ρ : Nat → Nat → Nat} {V : Nat → Nat → Prop} {Z : sM} (x0 : Int64) (x2 : Int64) (A : sM) (_ : VC V) {r : Int64} (h : fX9_greatestDivisor x0 x2 A = some r) : MT l yX9_greatestDivisor cX9_greatestDivisor 7 (some .long) 2 G ρ V [.long x0, .long x2] (J A Z) (some (.long r)) (J A Z) := by
  refine vv_enter (lv := [(0, .long x0), (2, .long x2)]) RX9 rfl (by decide) (Nat.le_of_ble_eq_true rfl) rfl ?_
  intro E hE hC hQ hVC
  subst hE
  rw [fX9_greatestDivisor] at h
  refine wa_iconst 1 hC dX9_greatestDivisor_0 kc_0 rfl ?_
  refine wa_istore (lv' := [(4, .int (0 : Int32)), (0, .long x0), (2, .long x2)]) 3 4 hC dX9_greatestDivisor_1 rfl (by decide) rfl rfl ?_
  refine wa_pick [1, 2, 0] rfl ?_
  refine wX9_greatestDivisor_L3 A hC hVC (fun x0_1 h => ?_) 10000 x0 x2 (0 : Int32) h
  refine wa_lload_n 34 0 hC dX9_greatestDivisor_33 rfl 0 rfl rfl ?_
  refine wa_lconst 35 hC dX9_greatestDivisor_34 kl_1 rfl ?_
  refine wa_mmax_long 38 hC maX9_432 (by decide) (Nat.le_of_ble_eq_true rfl) dX9_greatestDivisor_35 rfl le00 ?_
  exact wa_lret hC hQ (sm0 h) rfl dX9_greatestDivisor_38
set_option maxRecDepth 20000 in
theorem tX9_fund (l : Launch) {G : gU} {ρ : Nat → Nat → Nat} {V : Nat → Nat → Prop} {Z : sM} (A : sM) (_ : VC V) {r : Int64} (h : fX9_fund A = some r) : MT l yX9_fund cX9_fund 1 (some .long) 1 G ρ V [.ref (ρ 9 0)] (J A Z) (some (.long r)) (J A Z) := by
  refine vv_enter (lv := [(0, .ref (ρ 9 0))]) RX9 rfl (by decide) (Nat.le_of_ble_eq_true rfl) rfl ?_
  intro E hE hC hQ hVC
  subst hE
  rw [fX9_fund] at h
  refine wa_aload_n 1 0 hC dX9_fund_0 rfl 0 rfl rfl ?_
  refine wa_getR 4 hC (vs9 hVC) (sr9_0 _) flX9_12 dX9_fund_1 rfl ?_
  refine wa_getLc 7 hC hVC.2.2.2.2.2.1 sh0_6 rfl flX9_346 dX9_fund_4 rfl ?_
  exact wa_lret hC hQ (sm0 h) rfl dX9_fund_7
set_option maxRecDepth 20000 in
theorem tX9_operatorAccount (l : Launch) {G : gU} {ρ : Nat → Nat → Nat} {V : Nat → Nat → Prop} {Z : sM} (A : sM) (_ : VC V) {r : Int64} (h : fX9_operatorAccount A = some r) : MT l yX9_operatorAccount cX9_operatorAccount 1 (some .long) 1 G ρ V [.ref (ρ 9 0)] (J A Z) (some (.long r)) (J A Z) := by
  refine vv_enter (lv := [(0, .ref (ρ 9 0))]) RX9 rfl (by decide) (Nat.le_of_ble_eq_true rfl) rfl ?_
  intro E hE hC hQ hVC
  subst hE
  rw [fX9_operatorAccount] at h
  refine wa_aload_n 1 0 hC dX9_operatorAccount_0 rfl 0 rfl rfl ?_
  refine wa_getR 4 hC (vs9 hVC) (sr9_0 _) flX9_12 dX9_operatorAccount_1 rfl ?_
  refine wa_getLc 7 hC hVC.2.2.2.2.2.1 sh0_7 rfl flX9_350 dX9_operatorAccount_4 rfl ?_
  exact wa_lret hC hQ (sm0 h) rfl dX9_operatorAccount_7
