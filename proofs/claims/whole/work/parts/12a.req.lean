set_option maxRecDepth 20000 in
theorem tX9_requireHour (l : Launch) (hl9 : l.stackTraces = false) {G : gU} {ρ : Nat → Nat → Nat} {V : Nat → Nat → Prop} {Z : sM} (x1 : Int32) (A : sM) (_ : VC V) {r : Option Nat} (h : fX9_requireHour x1 A = some r) : MR l yX9_requireHour cX9_requireHour 2 8 G ρ V [.ref (ρ 9 0), .int x1] (J A Z) r := by
  refine vx_enter (lv := [(0, .ref (ρ 9 0)), (1, .int x1)]) RX9 rfl (by decide) (Nat.le_of_ble_eq_true rfl) rfl ?_
  intro E hE1 hC hQ hT9 hVC
  subst hE1
  have hQ : QXR E G ρ V r (J A Z) := hQ
  rw [fX9_requireHour] at h
  refine wa_iload_n 1 1 hC dX9_requireHour_0 rfl 1 rfl rfl ?_
  refine wa_if_lt 4 10 hC dX9_requireHour_1 rfl rfl h (fun h => ?_) (fun h => ?_)
  · exact wr_throwW (st := []) (ix := 6) (is := 416) (n9 := 0) hC hl9 hT9 hQ (sm0 h).symm xw_IndexOutOfBoundsException rfl (by decide) rfl rfl (by decide) (by decide) (Nat.le_of_ble_eq_true rfl) dX9_requireHour_10 dX9_requireHour_13 dX9_requireHour_14 dX9_requireHour_17 dX9_requireHour_20
  · refine wa_iload_n 5 1 hC dX9_requireHour_4 rfl 1 rfl rfl ?_
    refine wa_bipush 7 hC dX9_requireHour_5 kb_24 rfl ?_
    refine wa_icmp_lt 10 21 hC dX9_requireHour_7 rfl rfl h (fun h => ?_) (fun h => ?_)
    · exact wr_vret hC hQ (sm0 h).symm (by decide) dX9_requireHour_21
    · exact wr_throwW (st := []) (ix := 6) (is := 416) (n9 := 0) hC hl9 hT9 hQ (sm0 h).symm xw_IndexOutOfBoundsException rfl (by decide) rfl rfl (by decide) (by decide) (Nat.le_of_ble_eq_true rfl) dX9_requireHour_10 dX9_requireHour_13 dX9_requireHour_14 dX9_requireHour_17 dX9_requireHour_20
set_option maxRecDepth 20000 in
theorem tX9_requireSubscriber (l : Launch) (hl9 : l.stackTraces = false) {G : gU} {ρ : Nat → Nat → Nat} {V : Nat → Nat → Prop} {Z : sM} (x1 : Int32) (A : sM) (_ : VC V) {r : Option Nat} (h : fX9_requireSubscriber x1 A = some r) : MR l yX9_requireSubscriber cX9_requireSubscriber 2 8 G ρ V [.ref (ρ 9 0), .int x1] (J A Z) r := by
  refine vx_enter (lv := [(0, .ref (ρ 9 0)), (1, .int x1)]) RX9 rfl (by decide) (Nat.le_of_ble_eq_true rfl) rfl ?_
  intro E hE1 hC hQ hT9 hVC
  subst hE1
  have hQ : QXR E G ρ V r (J A Z) := hQ
  rw [fX9_requireSubscriber] at h
  refine wa_iload_n 1 1 hC dX9_requireSubscriber_0 rfl 1 rfl rfl ?_
  refine wa_if_lt 4 15 hC dX9_requireSubscriber_1 rfl rfl h (fun h => ?_) (fun h => ?_)
  · exact wr_throwW (st := []) (ix := 11) (is := 410) (n9 := 0) hC hl9 hT9 hQ (sm0 h).symm xw_IndexOutOfBoundsException rfl (by decide) rfl rfl (by decide) (by decide) (Nat.le_of_ble_eq_true rfl) dX9_requireSubscriber_15 dX9_requireSubscriber_18 dX9_requireSubscriber_19 dX9_requireSubscriber_22 dX9_requireSubscriber_25
  · refine wa_iload_n 5 1 hC dX9_requireSubscriber_4 rfl 1 rfl rfl ?_
    refine wa_aload_n 6 0 hC dX9_requireSubscriber_5 rfl 0 rfl rfl ?_
    refine wa_getR 9 hC (vs9 hVC) (sr9_0 _) flX9_12 dX9_requireSubscriber_6 rfl ?_
    refine wa_getIc 12 hC hVC.2.2.2.2.2.1 sh0_3 rfl flX9_141 dX9_requireSubscriber_9 rfl ?_
    refine wa_icmp_lt 15 26 hC dX9_requireSubscriber_12 rfl rfl h (fun h => ?_) (fun h => ?_)
    · exact wr_vret hC hQ (sm0 h).symm (by decide) dX9_requireSubscriber_26
    · exact wr_throwW (st := []) (ix := 11) (is := 410) (n9 := 0) hC hl9 hT9 hQ (sm0 h).symm xw_IndexOutOfBoundsException rfl (by decide) rfl rfl (by decide) (by decide) (Nat.le_of_ble_eq_true rfl) dX9_requireSubscriber_15 dX9_requireSubscriber_18 dX9_requireSubscriber_19 dX9_requireSubscriber_22 dX9_requireSubscriber_25
set_option maxRecDepth 20000 in
theorem tX9_requireCount (l : Launch) (hl9 : l.stackTraces = false) {G : gU} {ρ : Nat → Nat → Nat} {V : Nat → Nat → Prop} {Z : sM} (x1 : Int32) (A : sM) (_ : VC V) {r : Option Nat} (h : fX9_requireCount x1 A = some r) : MR l yX9_requireCount cX9_requireCount 2 8 G ρ V [.ref (ρ 9 0), .int x1] (J A Z) r := by
  refine vx_enter (lv := [(0, .ref (ρ 9 0)), (1, .int x1)]) RX9 rfl (by decide) (Nat.le_of_ble_eq_true rfl) rfl ?_
  intro E hE1 hC hQ hT9 hVC
  subst hE1
  have hQ : QXR E G ρ V r (J A Z) := hQ
  rw [fX9_requireCount] at h
  refine wa_iload_n 1 1 hC dX9_requireCount_0 rfl 1 rfl rfl ?_
  refine wa_iconst 2 hC dX9_requireCount_1 kc_1 rfl ?_
  refine wa_icmp_ge 5 16 hC dX9_requireCount_2 rfl rfl h (fun h => ?_) (fun h => ?_)
  · exact wr_vret hC hQ (sm0 h).symm (by decide) dX9_requireCount_16
  · exact wr_throwW (st := []) (ix := 12) (is := 418) (n9 := 1) hC hl9 hT9 hQ (sm0 h).symm xw_IllegalArgumentException rfl (by decide) rfl rfl (by decide) (by decide) (Nat.le_of_ble_eq_true rfl) dX9_requireCount_5 dX9_requireCount_8 dX9_requireCount_9 dX9_requireCount_12 dX9_requireCount_15
set_option maxRecDepth 20000 in
theorem tX9_requireActive (l : Launch) (hl9 : l.stackTraces = false) {G : gU} {ρ : Nat → Nat → Nat} {V : Nat → Nat → Prop} {Z : sM} (x1 : Int32) (A : sM) (_ : VC V) {r : Option Nat} (h : fX9_requireActive x1 A = some r) : MR l yX9_requireActive cX9_requireActive 2 8 G ρ V [.ref (ρ 9 0), .int x1] (J A Z) r := by
  refine vx_enter (lv := [(0, .ref (ρ 9 0)), (1, .int x1)]) RX9 rfl (by decide) (Nat.le_of_ble_eq_true rfl) rfl ?_
  intro E hE1 hC hQ hT9 hVC
  subst hE1
  have hQ : QXR E G ρ V r (J A Z) := hQ
  rw [fX9_requireActive] at h
  refine wa_aload_n 1 0 hC dX9_requireActive_0 rfl 0 rfl rfl ?_
  refine wa_getR 4 hC (vs9 hVC) (sr9_0 _) flX9_12 dX9_requireActive_1 rfl ?_
  refine wa_getR 7 hC hVC.2.2.2.2.2.1 (sr0_2 _) flX9_159 dX9_requireActive_4 rfl ?_
  refine wa_iload_n 8 1 hC dX9_requireActive_7 rfl 1 rfl rfl ?_
  obtain ⟨g_1, h⟩ := gd_some h
  refine wa_aald 9 hC (vc11 hVC hVC.2.2.2.2.2.1) g_1 dX9_requireActive_8 rfl ?_
  obtain ⟨r_2, e_3, h⟩ := bd_some h
  refine wa_callVi 12 hC [] [] knX8_isActive mvX9_422 (tX8_isActive E.2.1 (16 * 0 + x1.toNatClampNeg) A hVC (vc8 hVC hVC.2.2.2.2.2.1 (inb_lt g_1)) e_3) (vc8 hVC hVC.2.2.2.2.2.1 (inb_lt g_1)) kc8 (Nat.le_of_ble_eq_true rfl) (Nat.le_of_ble_eq_true rfl) rfl (Nat.le_of_ble_eq_true rfl) dX9_requireActive_9 rfl (by decide) rfl ?_
  refine wa_if_ne 15 26 hC dX9_requireActive_12 rfl rfl h (fun h => ?_) (fun h => ?_)
  · exact wr_vret hC hQ (sm0 h).symm (by decide) dX9_requireActive_26
  · exact wr_throwW (st := []) (ix := 13) (is := 426) (n9 := 2) hC hl9 hT9 hQ (sm0 h).symm xw_IllegalStateException rfl (by decide) rfl rfl (by decide) (by decide) (Nat.le_of_ble_eq_true rfl) dX9_requireActive_15 dX9_requireActive_18 dX9_requireActive_19 dX9_requireActive_22 dX9_requireActive_25
set_option maxRecDepth 20000 in
theorem tX9_requireRoomForShares (l : Launch) (hl9 : l.stackTraces = false) {G : gU} {ρ : Nat → Nat → Nat} {V : Nat → Nat → Prop} {Z : sM} (o1 : Nat) (x2 : Int32) (A : sM) (_ : VC V) (ho1 : V 8 o1) {r : Option Nat} (h : fX9_requireRoomForShares o1 x2 A = some r) : MR l yX9_requireRoomForShares cX9_requireRoomForShares 3 8 G ρ V [.ref (ρ 9 0), .ref (ρ 8 o1), .int x2] (J A Z) r := by
  refine vx_enter (lv := [(0, .ref (ρ 9 0)), (1, .ref (ρ 8 o1)), (2, .int x2)]) RX9 rfl (by decide) (Nat.le_of_ble_eq_true rfl) rfl ?_
  intro E hE1 hC hQ hT9 hVC
  subst hE1
  have hQ : QXR E G ρ V r (J A Z) := hQ
  rw [fX9_requireRoomForShares] at h
  refine wa_iload_n 1 2 hC dX9_requireRoomForShares_0 rfl 2 rfl rfl ?_
  refine wa_aload_n 2 0 hC dX9_requireRoomForShares_1 rfl 0 rfl rfl ?_
  refine wa_getR 5 hC (vs9 hVC) (sr9_0 _) flX9_12 dX9_requireRoomForShares_2 rfl ?_
  refine wa_getR 8 hC hVC.2.2.2.2.2.1 (sr0_0 _) flX9_104 dX9_requireRoomForShares_5 rfl ?_
  obtain ⟨r_1, e_2, h⟩ := bd_some h
  refine wa_callVi 11 hC [] [.int x2] knX4_greatestHolding mvX9_122 (tX4_greatestHolding E.2.1 0 A hVC (vc4 hVC hVC.2.2.2.2.2.1) e_2) (vc4 hVC hVC.2.2.2.2.2.1) kc4 (Nat.le_of_ble_eq_true rfl) (Nat.le_of_ble_eq_true rfl) rfl (Nat.le_of_ble_eq_true rfl) dX9_requireRoomForShares_8 rfl (by decide) rfl ?_
  refine wa_aload_n 12 1 hC dX9_requireRoomForShares_11 rfl 1 rfl rfl ?_
  refine wa_getIc 15 hC ho1 sh8_4 rfl flX9_172 dX9_requireRoomForShares_12 rfl ?_
  refine wa_isub 16 hC dX9_requireRoomForShares_15 rfl ?_
  refine wa_icmp_le 19 30 hC dX9_requireRoomForShares_16 rfl rfl h (fun h => ?_) (fun h => ?_)
  · exact wr_vret hC hQ (sm0 h).symm (by decide) dX9_requireRoomForShares_30
  · exact wr_throwW (st := []) (ix := 15) (is := 430) (n9 := 2) hC hl9 hT9 hQ (sm0 h).symm xw_IllegalStateException rfl (by decide) rfl rfl (by decide) (by decide) (Nat.le_of_ble_eq_true rfl) dX9_requireRoomForShares_19 dX9_requireRoomForShares_22 dX9_requireRoomForShares_23 dX9_requireRoomForShares_26 dX9_requireRoomForShares_29
set_option maxRecDepth 20000 in
theorem tX9_requireShareKept (l : Launch) (hl9 : l.stackTraces = false) {G : gU} {ρ : Nat → Nat → Nat} {V : Nat → Nat → Prop} {Z : sM} (o1 : Nat) (x2 : Int32) (A : sM) (_ : VC V) (ho1 : V 8 o1) {r : Option Nat} (h : fX9_requireShareKept o1 x2 A = some r) : MR l yX9_requireShareKept cX9_requireShareKept 3 8 G ρ V [.ref (ρ 9 0), .ref (ρ 8 o1), .int x2] (J A Z) r := by
  refine vx_enter (lv := [(0, .ref (ρ 9 0)), (1, .ref (ρ 8 o1)), (2, .int x2)]) RX9 rfl (by decide) (Nat.le_of_ble_eq_true rfl) rfl ?_
  intro E hE1 hC hQ hT9 hVC
  subst hE1
  have hQ : QXR E G ρ V r (J A Z) := hQ
  rw [fX9_requireShareKept] at h
  refine wa_iload_n 1 2 hC dX9_requireShareKept_0 rfl 2 rfl rfl ?_
  refine wa_aload_n 2 1 hC dX9_requireShareKept_1 rfl 1 rfl rfl ?_
  refine wa_getIc 5 hC ho1 sh8_4 rfl flX9_172 dX9_requireShareKept_2 rfl ?_
  refine wa_icmp_lt 8 19 hC dX9_requireShareKept_5 rfl rfl h (fun h => ?_) (fun h => ?_)
  · exact wr_vret hC hQ (sm0 h).symm (by decide) dX9_requireShareKept_19
  · exact wr_throwW (st := []) (ix := 16) (is := 428) (n9 := 2) hC hl9 hT9 hQ (sm0 h).symm xw_IllegalStateException rfl (by decide) rfl rfl (by decide) (by decide) (Nat.le_of_ble_eq_true rfl) dX9_requireShareKept_8 dX9_requireShareKept_11 dX9_requireShareKept_12 dX9_requireShareKept_15 dX9_requireShareKept_18
set_option maxRecDepth 20000 in
theorem tX9_requireDifferent (l : Launch) (hl9 : l.stackTraces = false) {G : gU} {ρ : Nat → Nat → Nat} {V : Nat → Nat → Prop} {Z : sM} (x1 : Int32) (x2 : Int32) (A : sM) (_ : VC V) {r : Option Nat} (h : fX9_requireDifferent x1 x2 A = some r) : MR l yX9_requireDifferent cX9_requireDifferent 3 8 G ρ V [.ref (ρ 9 0), .int x1, .int x2] (J A Z) r := by
  refine vx_enter (lv := [(0, .ref (ρ 9 0)), (1, .int x1), (2, .int x2)]) RX9 rfl (by decide) (Nat.le_of_ble_eq_true rfl) rfl ?_
  intro E hE1 hC hQ hT9 hVC
  subst hE1
  have hQ : QXR E G ρ V r (J A Z) := hQ
  rw [fX9_requireDifferent] at h
  refine wa_iload_n 1 1 hC dX9_requireDifferent_0 rfl 1 rfl rfl ?_
  refine wa_iload_n 2 2 hC dX9_requireDifferent_1 rfl 2 rfl rfl ?_
  refine wa_icmp_ne 5 16 hC dX9_requireDifferent_2 rfl rfl h (fun h => ?_) (fun h => ?_)
  · exact wr_vret hC hQ (sm0 h).symm (by decide) dX9_requireDifferent_16
  · exact wr_throwW (st := []) (ix := 17) (is := 420) (n9 := 1) hC hl9 hT9 hQ (sm0 h).symm xw_IllegalArgumentException rfl (by decide) rfl rfl (by decide) (by decide) (Nat.le_of_ble_eq_true rfl) dX9_requireDifferent_5 dX9_requireDifferent_8 dX9_requireDifferent_9 dX9_requireDifferent_12 dX9_requireDifferent_15
set_option maxRecDepth 20000 in
theorem tX9_requireMonth (l : Launch) (hl9 : l.stackTraces = false) {G : gU} {ρ : Nat → Nat → Nat} {V : Nat → Nat → Prop} {Z : sM} (x1 : Int32) (A : sM) (_ : VC V) {r : Option Nat} (h : fX9_requireMonth x1 A = some r) : MR l yX9_requireMonth cX9_requireMonth 2 8 G ρ V [.ref (ρ 9 0), .int x1] (J A Z) r := by
  refine vx_enter (lv := [(0, .ref (ρ 9 0)), (1, .int x1)]) RX9 rfl (by decide) (Nat.le_of_ble_eq_true rfl) rfl ?_
  intro E hE1 hC hQ hT9 hVC
  subst hE1
  have hQ : QXR E G ρ V r (J A Z) := hQ
  rw [fX9_requireMonth] at h
  refine wa_iload_n 1 1 hC dX9_requireMonth_0 rfl 1 rfl rfl ?_
  refine wa_if_lt 4 15 hC dX9_requireMonth_1 rfl rfl h (fun h => ?_) (fun h => ?_)
  · exact wr_throwW (st := []) (ix := 29) (is := 412) (n9 := 0) hC hl9 hT9 hQ (sm0 h).symm xw_IndexOutOfBoundsException rfl (by decide) rfl rfl (by decide) (by decide) (Nat.le_of_ble_eq_true rfl) dX9_requireMonth_15 dX9_requireMonth_18 dX9_requireMonth_19 dX9_requireMonth_22 dX9_requireMonth_25
  · refine wa_iload_n 5 1 hC dX9_requireMonth_4 rfl 1 rfl rfl ?_
    refine wa_aload_n 6 0 hC dX9_requireMonth_5 rfl 0 rfl rfl ?_
    refine wa_getR 9 hC (vs9 hVC) (sr9_0 _) flX9_12 dX9_requireMonth_6 rfl ?_
    refine wa_getIc 12 hC hVC.2.2.2.2.2.1 sh0_4 rfl flX9_224 dX9_requireMonth_9 rfl ?_
    refine wa_icmp_le 15 26 hC dX9_requireMonth_12 rfl rfl h (fun h => ?_) (fun h => ?_)
    · exact wr_vret hC hQ (sm0 h).symm (by decide) dX9_requireMonth_26
    · exact wr_throwW (st := []) (ix := 29) (is := 412) (n9 := 0) hC hl9 hT9 hQ (sm0 h).symm xw_IndexOutOfBoundsException rfl (by decide) rfl rfl (by decide) (by decide) (Nat.le_of_ble_eq_true rfl) dX9_requireMonth_15 dX9_requireMonth_18 dX9_requireMonth_19 dX9_requireMonth_22 dX9_requireMonth_25
set_option maxRecDepth 20000 in
theorem tX9_requirePeriod (l : Launch) (hl9 : l.stackTraces = false) {G : gU} {ρ : Nat → Nat → Nat} {V : Nat → Nat → Prop} {Z : sM} (x1 : Int32) (A : sM) (_ : VC V) {r : Option Nat} (h : fX9_requirePeriod x1 A = some r) : MR l yX9_requirePeriod cX9_requirePeriod 2 8 G ρ V [.ref (ρ 9 0), .int x1] (J A Z) r := by
  refine vx_enter (lv := [(0, .ref (ρ 9 0)), (1, .int x1)]) RX9 rfl (by decide) (Nat.le_of_ble_eq_true rfl) rfl ?_
  intro E hE1 hC hQ hT9 hVC
  subst hE1
  have hQ : QXR E G ρ V r (J A Z) := hQ
  rw [fX9_requirePeriod] at h
  refine wa_iload_n 1 1 hC dX9_requirePeriod_0 rfl 1 rfl rfl ?_
  refine wa_if_lt 4 18 hC dX9_requirePeriod_1 rfl rfl h (fun h => ?_) (fun h => ?_)
  · exact wr_throwW (st := []) (ix := 30) (is := 414) (n9 := 0) hC hl9 hT9 hQ (sm0 h).symm xw_IndexOutOfBoundsException rfl (by decide) rfl rfl (by decide) (by decide) (Nat.le_of_ble_eq_true rfl) dX9_requirePeriod_18 dX9_requirePeriod_21 dX9_requirePeriod_22 dX9_requirePeriod_25 dX9_requirePeriod_28
  · refine wa_iload_n 5 1 hC dX9_requirePeriod_4 rfl 1 rfl rfl ?_
    refine wa_aload_n 6 0 hC dX9_requirePeriod_5 rfl 0 rfl rfl ?_
    refine wa_getR 9 hC (vs9 hVC) (sr9_0 _) flX9_12 dX9_requirePeriod_6 rfl ?_
    refine wa_getR 12 hC hVC.2.2.2.2.2.1 (sr0_0 _) flX9_104 dX9_requirePeriod_9 rfl ?_
    refine wa_getIc 15 hC (vc4 hVC hVC.2.2.2.2.2.1) sh4_4 rfl flX9_105 dX9_requirePeriod_12 rfl ?_
    refine wa_icmp_lt 18 29 hC dX9_requirePeriod_15 rfl rfl h (fun h => ?_) (fun h => ?_)
    · exact wr_vret hC hQ (sm0 h).symm (by decide) dX9_requirePeriod_29
    · exact wr_throwW (st := []) (ix := 30) (is := 414) (n9 := 0) hC hl9 hT9 hQ (sm0 h).symm xw_IndexOutOfBoundsException rfl (by decide) rfl rfl (by decide) (by decide) (Nat.le_of_ble_eq_true rfl) dX9_requirePeriod_18 dX9_requirePeriod_21 dX9_requirePeriod_22 dX9_requirePeriod_25 dX9_requirePeriod_28
set_option maxRecDepth 20000 in
theorem tX9_requireParticipant (l : Launch) (hl9 : l.stackTraces = false) {G : gU} {ρ : Nat → Nat → Nat} {V : Nat → Nat → Prop} {Z : sM} (x1 : Int32) (A : sM) (_ : VC V) {r : Option Nat} (h : fX9_requireParticipant x1 A = some r) : MR l yX9_requireParticipant cX9_requireParticipant 2 9 G ρ V [.ref (ρ 9 0), .int x1] (J A Z) r := by
  refine vx_enter (lv := [(0, .ref (ρ 9 0)), (1, .int x1)]) RX9 rfl (by decide) (Nat.le_of_ble_eq_true rfl) rfl ?_
  intro E hE1 hC hQ hT9 hVC
  subst hE1
  have hQ : QXR E G ρ V r (J A Z) := hQ
  rw [fX9_requireParticipant] at h
  refine wa_iload_n 1 1 hC dX9_requireParticipant_0 rfl 1 rfl rfl ?_
  refine wa_iconst 2 hC dX9_requireParticipant_1 kc_m1 rfl ?_
  refine wa_icmp_eq 5 10 hC dX9_requireParticipant_2 rfl rfl h (fun h => ?_) (fun h => ?_)
  · exact wr_vret hC hQ (sm0 h).symm (by decide) dX9_requireParticipant_10
  · refine wa_aload_n 6 0 hC dX9_requireParticipant_5 rfl 0 rfl rfl ?_
    refine wa_iload_n 7 1 hC dX9_requireParticipant_6 rfl 1 rfl rfl ?_
    rcases rq_some h with ⟨e_1, h⟩ | ⟨n9, e_1, h⟩
    rotate_left
    · exact wr_reqThrow hC [.int x1] [] knX9_requireSubscriber mwX9_150 (tX9_requireSubscriber E.2.1 hl9 x1 A hVC e_1) (vs9 hVC) kc9 (Nat.le_of_ble_eq_true rfl) (Nat.le_of_ble_eq_true rfl) rfl (Nat.le_of_ble_eq_true rfl) dX9_requireParticipant_7 hT9 hQ (sm0 h).symm (by decide) rfl
    refine wr_reqOK 10 hC [.int x1] [] knX9_requireSubscriber mwX9_150 (tX9_requireSubscriber E.2.1 hl9 x1 A hVC e_1) (vs9 hVC) kc9 (Nat.le_of_ble_eq_true rfl) (Nat.le_of_ble_eq_true rfl) rfl (Nat.le_of_ble_eq_true rfl) dX9_requireParticipant_7 rfl (by decide) rfl ?_
    exact wr_vret hC hQ (sm0 h).symm (by decide) dX9_requireParticipant_10
