/-! Corrections. -/
theorem SR.wC {A : sM} {s : sS} {N c0 : Nat} {v : Int} (h : SR A 0 s N) (h0 : c0 < 240) (hv : ¬ v = -1) : SR (wI A 23 0 0 c0 (oI (v - sE s c0))) 0 (uC s (up1 (sC s) c0 v)) N := by
  refine ⟨fun k hk => ?_, ⟨?_, ?_, ?_⟩, fun k hk => ?_, fun p hp => ?_, fun i hi => ⟨?_, ?_, ?_, ?_, ?_, ?_, fun ht => ?_⟩, fun i hi m hm => ?_, fun c hc => ⟨?_, ?_⟩, ⟨?_, ?_⟩, fun i hi w hw => ?_, fun i hi m hm => ?_⟩
  · rw [wI_1, if_neg (by omega)]; exact h.g hk
  · rw [wI_1, if_neg (by omega)]; exact h.mon
  · rw [wI_1, if_neg (by omega)]; exact h.day
  · rw [wI_1, if_neg (by omega)]; exact h.cnt
  · rw [wI_1, if_neg (by omega)]; exact h.hr hk
  · rw [wI_1, if_neg (by omega)]; exact h.rt hp
  · rw [wI_1, if_neg (by omega)]; exact h.st hi
  · rw [wI_1, if_neg (by omega)]; exact h.wa hi
  · rw [wI_1, if_neg (by omega)]; exact h.mi hi
  · rw [wI_1, if_neg (by omega)]; exact h.pr hi
  · rw [wI_1, if_neg (by omega)]; exact h.sh hi
  · rw [wI_1, if_neg (by omega)]; exact h.to hi
  · rw [wI_1, if_neg (by omega)]; exact h.pc hi ht
  · rw [wI_1, if_neg (by omega)]; exact h.dy hi hm
  · rw [wI_1, if_neg (by omega)]; exact h.gn hc
  · show _ = oI (if up1 (sC s) c0 v c = -1 then 0 else up1 (sC s) c0 v c - sE s c)
    rw [wI_1, up1]
    by_cases q : c = c0
    · rw [if_pos (by omega), if_pos q, if_neg hv, q]
    · rw [if_neg (by omega), if_neg q]; exact h.cr hc
  · exact h.fu
  · exact h.op
  · exact h.ac hi hw
  · exact h.lt hi hm
theorem crr {n : Nat} {A Z : sM} (hI : Inv n A Z) (x y z : Int32) : OKI n (fL_correct x y z A) (fX10_correct x y z Z) := by
  obtain ⟨⟨s, N, hS, hZ, hW⟩, hR⟩ := id hI
  obtain ⟨w1, w2, w3, w4, w5, w6, w7, w8⟩ := id hW
  obtain ⟨g0, g1, g2, g3, g4, g5, g6, g7, hN⟩ := id w1
  obtain ⟨a, a1, a2, rfl⟩ := I_ex x
  obtain ⟨b, b1, b2, rfl⟩ := I_ex y
  obtain ⟨w, c1, c2, rfl⟩ := I_ex z
  have eG : ∀ k, k < 8 → Z.1 27 0 0 k = oI (sG s k) := fun k hk => hZ.g hk
  by_cases ha : 0 ≤ a ∧ a < sG s 5
  · obtain ⟨m, hm, rfl⟩ := int_ix2 ha
    have hz : fX10_isIn (oI (m : Int)).toInt64 0 (Z.1 27 0 0 (5 : Int32).toNatClampNeg - 1).toInt64 Z = some (oI 1) := by
      rw [show Z.1 27 0 0 (5 : Int32).toNatClampNeg = oI (sG s 5) from eG 5 (by omega), kI_1, oI_sub, oI_L (by omega) (by omega), oI_L (by omega) (by omega), kL_0, isIn_t _ (by omega) (by omega) (by omega)]
    by_cases hb : 0 ≤ b ∧ b < sG s 4
    · obtain ⟨p, hp, rfl⟩ := int_ix2 hb
      have hz2 : fX10_isIn (oI (p : Int)).toInt64 0 (Z.1 27 0 0 (4 : Int32).toNatClampNeg - 1).toInt64 Z = some (oI 1) := by
        rw [show Z.1 27 0 0 (4 : Int32).toNatClampNeg = oI (sG s 4) from eG 4 (by omega), kI_1, oI_sub, oI_L (by omega) (by omega), oI_L (by omega) (by omega), kL_0, isIn_t _ (by omega) (by omega) (by omega)]
      by_cases hw : 0 ≤ w ∧ w ≤ 1000000000
      · obtain ⟨A1, Z1, k1, k2, k3, k4, k5, k6, k7⟩ := keep0 ⟨hS, hZ, hW⟩ hR
        have eI : ((m : Int) * 4 + (p : Int)).toNat = 4 * m + p := by omega
        have eJ : (1108 + 4 * (m : Int) + (p : Int)).toNat = 1108 + (4 * m + p) := by omega
        have eK : (1348 + 4 * (m : Int) + (p : Int)).toNat = 1348 + (4 * m + p) := by omega
        refine OKI.m (v := oI (sE s (4 * m + p))) (A2 := wI A1 23 0 0 (4 * m + p) (oI (w - sE s (4 * m + p)))) (Z2 := wI Z1 27 0 0 (1348 + (4 * m + p)) (oI w)) (s' := uC s (up1 (sC s) (4 * m + p) w)) k5 ?_ ?_ (by rw [wI_1, if_neg (by omega)]; exact k6) ((Fr.refl _).wI rfl) ((Fr.refl _).wI rfl) (k3.wC (by omega) (by omega)) (k4.wC (by omega)) ⟨w1, w2, w3, w4, w5, ⟨fun c hc => ?_, fun m' p' hm' hp' => ?_⟩, w7, W8_cor w8 w6 hm (by omega) (by omega) (w2.2 p (by omega)) hw⟩
        · have e9 : fX9_correct (oI m) (oI p) (oI w) A = some (.inr (oI (sE s (4 * m + p))), wI A1 23 0 0 (4 * m + p) (oI (w - sE s (4 * m + p)))) := by
            rw [fX9_correct, if_neg (by simp (disch := omega) only [kI_0, kI_1, kI_2, kI_3, kI_4, kI_5, kI_6, kI_7, kI_8, kI_9, kI_10, kI_12, kI_16, kI_17, kI_19, kI_20, kI_23, kI_24, kI_30, kI_32, kI_36, kI_48, kI_57, kI_59, kI_60, kI_72, kI_80, kI_84, kI_97, kI_98, kI_100, kI_122, kI_148, kI_200, kI_300, kI_1058, kI_1108, kI_1348, kI_1588, kI_5290, kI_7940, kI_100000, kI_e7, kI_e9, kL_0, kL_1, kL_5, kL_9, kL_10, kL_12, kL_23, kL_30, kL_48, kL_57, kL_59, kL_97, kL_100, kL_122, kL_1000, kL_e7, kL_e9, kL_e10, oI_lt, oI_le, oI_eq, oL_lt, oL_le, oL_eq, oI_L, oI_clamp, oI_inb, oL_nz]; omega), hS.mon, if_pos (by simp (disch := omega) only [kI_0, kI_1, kI_2, kI_3, kI_4, kI_5, kI_6, kI_7, kI_8, kI_9, kI_10, kI_12, kI_16, kI_17, kI_19, kI_20, kI_23, kI_24, kI_30, kI_32, kI_36, kI_48, kI_57, kI_59, kI_60, kI_72, kI_80, kI_84, kI_97, kI_98, kI_100, kI_122, kI_148, kI_200, kI_300, kI_1058, kI_1108, kI_1348, kI_1588, kI_5290, kI_7940, kI_100000, kI_e7, kI_e9, kL_0, kL_1, kL_5, kL_9, kL_10, kL_12, kL_23, kL_30, kL_48, kL_57, kL_59, kL_97, kL_100, kL_122, kL_1000, kL_e7, kL_e9, kL_e10, oI_lt, oI_le, oI_eq, oL_lt, oL_le, oL_eq, oI_L, oI_clamp, oI_inb, oL_nz]; omega), rqP_t hS w1 hp, rq_none, if_neg (by simp (disch := omega) only [kI_0, kI_1, kI_2, kI_3, kI_4, kI_5, kI_6, kI_7, kI_8, kI_9, kI_10, kI_12, kI_16, kI_17, kI_19, kI_20, kI_23, kI_24, kI_30, kI_32, kI_36, kI_48, kI_57, kI_59, kI_60, kI_72, kI_80, kI_84, kI_97, kI_98, kI_100, kI_122, kI_148, kI_200, kI_300, kI_1058, kI_1108, kI_1348, kI_1588, kI_5290, kI_7940, kI_100000, kI_e7, kI_e9, kL_0, kL_1, kL_5, kL_9, kL_10, kL_12, kL_23, kL_30, kL_48, kL_57, kL_59, kL_97, kL_100, kL_122, kL_1000, kL_e7, kL_e9, kL_e10, oI_lt, oI_le, oI_eq, oL_lt, oL_le, oL_eq, oI_L, oI_clamp, oI_inb, oL_nz]; omega), if_pos (by simp (disch := omega) only [kI_0, kI_1, kI_2, kI_3, kI_4, kI_5, kI_6, kI_7, kI_8, kI_9, kI_10, kI_12, kI_16, kI_17, kI_19, kI_20, kI_23, kI_24, kI_30, kI_32, kI_36, kI_48, kI_57, kI_59, kI_60, kI_72, kI_80, kI_84, kI_97, kI_98, kI_100, kI_122, kI_148, kI_200, kI_300, kI_1058, kI_1108, kI_1348, kI_1588, kI_5290, kI_7940, kI_100000, kI_e7, kI_e9, kL_0, kL_1, kL_5, kL_9, kL_10, kL_12, kL_23, kL_30, kL_48, kL_57, kL_59, kL_97, kL_100, kL_122, kL_1000, kL_e7, kL_e9, kL_e10, oI_lt, oI_le, oI_eq, oL_lt, oL_le, oL_eq, oI_L, oI_clamp, oI_inb, oL_nz]; omega), k1, bd_eq, fX7_cell, bd_eq, kI_4, oI_mul, oI_add, oI_inb (by omega) (by omega) (by omega), gd_true, gd_true, oI_clamp (by omega) (by omega), eI, k3.gn (by omega), oI_sub, ltb_eq, gd_true, wI_1, if_neg (by omega), k3.gn (by omega)]
          rw [fL_correct, e9]
          rfl
        · rw [fX10_correct, hz, bd_eq, ltb_eq, ltb_eq, if_neg one_ne, hz2, bd_eq, if_neg one_ne, oI_L (by omega) (by omega), kL_0, kL_e9, isIn_t _ (by omega) (by omega) (by omega), bd_eq, if_neg one_ne]
          dsimp only
          rw [ltb_eq, thr_yes, kI_0, k2, bd_eq, kI_1348, kI_4, oI_mul, oI_add, oI_add, oI_inb (by omega) (by omega) (by omega), gd_true, oI_clamp (by omega) (by omega), eK, ltb_eq, fX10_generatedAt, bd_eq, kI_1108, kI_4, oI_mul, oI_add, oI_add, oI_inb (by omega) (by omega) (by omega), gd_true, oI_clamp (by omega) (by omega), eJ, wI_1, if_neg (by omega), show Z1.1 27 0 0 (1108 + (4 * m + p)) = oI (sE s (4 * m + p)) from k4.gn (by omega)]
        · show 0 ≤ sE s c ∧ sE s c ≤ 1000000000 ∧ -1 ≤ up1 (sC s) (4 * m + p) w c ∧ up1 (sC s) (4 * m + p) w c ≤ 1000000000
          rw [up1]
          have := w6.1 c hc
          split <;> omega
        · have h9 := w6.2 m' p' hm' hp'
          show _ ∧ (_ → up1 (sC s) (4 * m + p) w (4 * m' + p') = -1) ∧ (_ → _ ∧ up1 (sC s) (4 * m + p) w (4 * m' + p') = -1)
          refine ⟨h9.1, fun q => ?_, fun q => ⟨(h9.2.2 q).1, ?_⟩⟩
          · have q' : sG s 5 ≤ m' := q
            rw [up1_n _ _ (by omega)]; exact h9.2.1 q
          · have q' : sG s 4 ≤ p' := q
            rw [up1_n _ _ (by omega)]; exact (h9.2.2 q).2
      · refine OKI.t (r := 2) (v := 0) hI ?_ ?_ (thr_g Z _) (by decide) (Fr.refl _) (frT Z _)
        · have e9 : fX9_correct (oI m) (oI p) (oI w) A = some (.inl 1, A) := by
            rw [fX9_correct, if_neg (by simp (disch := omega) only [kI_0, kI_1, kI_2, kI_3, kI_4, kI_5, kI_6, kI_7, kI_8, kI_9, kI_10, kI_12, kI_16, kI_17, kI_19, kI_20, kI_23, kI_24, kI_30, kI_32, kI_36, kI_48, kI_57, kI_59, kI_60, kI_72, kI_80, kI_84, kI_97, kI_98, kI_100, kI_122, kI_148, kI_200, kI_300, kI_1058, kI_1108, kI_1348, kI_1588, kI_5290, kI_7940, kI_100000, kI_e7, kI_e9, kL_0, kL_1, kL_5, kL_9, kL_10, kL_12, kL_23, kL_30, kL_48, kL_57, kL_59, kL_97, kL_100, kL_122, kL_1000, kL_e7, kL_e9, kL_e10, oI_lt, oI_le, oI_eq, oL_lt, oL_le, oL_eq, oI_L, oI_clamp, oI_inb, oL_nz]; omega), hS.mon, if_pos (by simp (disch := omega) only [kI_0, kI_1, kI_2, kI_3, kI_4, kI_5, kI_6, kI_7, kI_8, kI_9, kI_10, kI_12, kI_16, kI_17, kI_19, kI_20, kI_23, kI_24, kI_30, kI_32, kI_36, kI_48, kI_57, kI_59, kI_60, kI_72, kI_80, kI_84, kI_97, kI_98, kI_100, kI_122, kI_148, kI_200, kI_300, kI_1058, kI_1108, kI_1348, kI_1588, kI_5290, kI_7940, kI_100000, kI_e7, kI_e9, kL_0, kL_1, kL_5, kL_9, kL_10, kL_12, kL_23, kL_30, kL_48, kL_57, kL_59, kL_97, kL_100, kL_122, kL_1000, kL_e7, kL_e9, kL_e10, oI_lt, oI_le, oI_eq, oL_lt, oL_le, oL_eq, oI_L, oI_clamp, oI_inb, oL_nz]; omega), rqP_t hS w1 hp, rq_none]
            simp (disch := omega) only [kI_0, kI_1, kI_2, kI_3, kI_4, kI_5, kI_6, kI_7, kI_8, kI_9, kI_10, kI_12, kI_16, kI_17, kI_19, kI_20, kI_23, kI_24, kI_30, kI_32, kI_36, kI_48, kI_57, kI_59, kI_60, kI_72, kI_80, kI_84, kI_97, kI_98, kI_100, kI_122, kI_148, kI_200, kI_300, kI_1058, kI_1108, kI_1348, kI_1588, kI_5290, kI_7940, kI_100000, kI_e7, kI_e9, kL_0, kL_1, kL_5, kL_9, kL_10, kL_12, kL_23, kL_30, kL_48, kL_57, kL_59, kL_97, kL_100, kL_122, kL_1000, kL_e7, kL_e9, kL_e10, oI_lt, oI_le, oI_eq, oL_lt, oL_le, oL_eq, oI_L, oI_clamp, oI_inb, oL_nz]
            by_cases e : w < 0
            · rw [if_pos e]
            · rw [if_neg e, if_neg (by omega)]
          rw [fL_correct, e9]
          rfl
        · rw [fX10_correct, hz, bd_eq, ltb_eq, ltb_eq, if_neg one_ne, hz2, bd_eq, if_neg one_ne, oI_L (by omega) (by omega), kL_0, kL_e9, isIn_f _ (by omega) (by omega) (by omega) (by omega) (by omega) (by omega) (by omega), bd_eq, if_pos nul_eq]
          dsimp only
          rw [ltb_eq, thr_no (by decide)]
          all_goals rfl
    · refine OKI.t (r := 1) (v := 0) hI ?_ ?_ (thr_g Z _) (by decide) (Fr.refl _) (frT Z _)
      · have e9 : fX9_correct (oI m) (oI b) (oI w) A = some (.inl 0, A) := by
          rw [fX9_correct, if_neg (by simp (disch := omega) only [kI_0, kI_1, kI_2, kI_3, kI_4, kI_5, kI_6, kI_7, kI_8, kI_9, kI_10, kI_12, kI_16, kI_17, kI_19, kI_20, kI_23, kI_24, kI_30, kI_32, kI_36, kI_48, kI_57, kI_59, kI_60, kI_72, kI_80, kI_84, kI_97, kI_98, kI_100, kI_122, kI_148, kI_200, kI_300, kI_1058, kI_1108, kI_1348, kI_1588, kI_5290, kI_7940, kI_100000, kI_e7, kI_e9, kL_0, kL_1, kL_5, kL_9, kL_10, kL_12, kL_23, kL_30, kL_48, kL_57, kL_59, kL_97, kL_100, kL_122, kL_1000, kL_e7, kL_e9, kL_e10, oI_lt, oI_le, oI_eq, oL_lt, oL_le, oL_eq, oI_L, oI_clamp, oI_inb, oL_nz]; omega), hS.mon, if_pos (by simp (disch := omega) only [kI_0, kI_1, kI_2, kI_3, kI_4, kI_5, kI_6, kI_7, kI_8, kI_9, kI_10, kI_12, kI_16, kI_17, kI_19, kI_20, kI_23, kI_24, kI_30, kI_32, kI_36, kI_48, kI_57, kI_59, kI_60, kI_72, kI_80, kI_84, kI_97, kI_98, kI_100, kI_122, kI_148, kI_200, kI_300, kI_1058, kI_1108, kI_1348, kI_1588, kI_5290, kI_7940, kI_100000, kI_e7, kI_e9, kL_0, kL_1, kL_5, kL_9, kL_10, kL_12, kL_23, kL_30, kL_48, kL_57, kL_59, kL_97, kL_100, kL_122, kL_1000, kL_e7, kL_e9, kL_e10, oI_lt, oI_le, oI_eq, oL_lt, oL_le, oL_eq, oI_L, oI_clamp, oI_inb, oL_nz]; omega), rqP_f hS w1 b1 b2 hb]
          rfl
        rw [fL_correct, e9]
        rfl
      · rw [fX10_correct, hz, bd_eq, ltb_eq, ltb_eq, if_neg one_ne, show Z.1 27 0 0 (4 : Int32).toNatClampNeg = oI (sG s 4) from eG 4 (by omega), kI_1, oI_sub, oI_L (by omega) (by omega), oI_L (by omega) (by omega), kL_0, isIn_f _ (by omega) (by omega) (by omega) (by omega) (by omega) (by omega) (by omega), bd_eq, if_pos nul_eq]
        dsimp only
        rw [ltb_eq, thr_no (by decide)]
        all_goals rfl
  · refine OKI.t (r := 1) (v := 0) hI ?_ ?_ (thr_g Z _) (by decide) (Fr.refl _) (frT Z _)
    · have e9 : fX9_correct (oI a) (oI b) (oI w) A = some (.inl 0, A) := by
        rw [fX9_correct, hS.mon]
        simp (disch := omega) only [kI_0, kI_1, kI_2, kI_3, kI_4, kI_5, kI_6, kI_7, kI_8, kI_9, kI_10, kI_12, kI_16, kI_17, kI_19, kI_20, kI_23, kI_24, kI_30, kI_32, kI_36, kI_48, kI_57, kI_59, kI_60, kI_72, kI_80, kI_84, kI_97, kI_98, kI_100, kI_122, kI_148, kI_200, kI_300, kI_1058, kI_1108, kI_1348, kI_1588, kI_5290, kI_7940, kI_100000, kI_e7, kI_e9, kL_0, kL_1, kL_5, kL_9, kL_10, kL_12, kL_23, kL_30, kL_48, kL_57, kL_59, kL_97, kL_100, kL_122, kL_1000, kL_e7, kL_e9, kL_e10, oI_lt, oI_le, oI_eq, oL_lt, oL_le, oL_eq, oI_L, oI_clamp, oI_inb, oL_nz]
        by_cases e : a < 0
        · rw [if_pos e]
        · rw [if_neg e, if_neg (by omega)]
      rw [fL_correct, e9]
      rfl
    · rw [fX10_correct, show Z.1 27 0 0 (5 : Int32).toNatClampNeg = oI (sG s 5) from eG 5 (by omega), kI_1, oI_sub, oI_L (by omega) (by omega), oI_L (by omega) (by omega), kL_0, isIn_f _ (by omega) (by omega) (by omega) (by omega) (by omega) (by omega) (by omega), bd_eq, ltb_eq, ltb_eq, if_pos nul_eq]
      dsimp only
      rw [ltb_eq, thr_no (by decide)]
      all_goals rfl
theorem case37 : CaseOK fL_case37 := by
  intro n L A Z xs x4 hn hI hin
  obtain ⟨_, i1, i2, i3, i4, i5⟩ := hin
  rw [fL_case37]
  simp only [i1, i2, i3, i4, i5, gd_true]
  exact OKI.c (crr hI _ _ _)
/-! Shares given and passed. -/
section
variable {A Z : sM} {s : sS} {N n : Nat}
theorem rqA (hS : SR A 0 s N) (hN : N ≤ 16) (h3 : W3 s N) {i : Nat} (hi : i < N) : fX9_requireActive (oI i) A = some (if sB s i 3 = 1 then none else some 2) := by
  rw [fX9_requireActive, oI_inb (by omega) (by omega) (by omega), gd_true, oI_clamp (by omega) (by omega), cl_nat, actA hS h3 hi, bd_eq]
  by_cases e : sB s i 3 = 1
  · rw [if_pos e, if_pos e]; rfl
  · rw [if_neg e, if_neg e]; rfl
theorem rqR (hS : SR A 0 s N) (h1 : W1 s N) (h3 : W3 s N) {i : Nat} {w : Int} (hi : i < N) (c1 : -2147483648 ≤ w) (c2 : w < 2147483648) : fX9_requireRoomForShares (16 * 0 + i) (oI w) A = some (if sB s i 4 + w ≤ most s then none else some 2) := by
  have hm := most_bd h1
  have hN := h1.2.2.2.2.2.2.2.2
  have hb := h3.2.1 i (by omega)
  have hb2 := sumN_mem (f := fun i => sB s i 4) hi (fun j hj => h3.2.1 j (by omega))
  have hb3 := h3.2.2.2.2.2
  have g0 := h1.1
  rw [fX9_requireRoomForShares, grt hS h1, bd_eq, hS.sh hi, oI_sub]
  simp (disch := omega) only [oI_lt, oI_le, oI_eq, oL_lt, oL_le, oL_eq, oI_L, oI_clamp, oI_inb, oL_nz]
  by_cases e : sB s i 4 + w ≤ most s
  · rw [if_pos (by omega), if_pos e]
  · rw [if_neg (by omega), if_neg e]
theorem rqK (hS : SR A 0 s N) (h1 : W1 s N) (h3 : W3 s N) {i : Nat} {w : Int} (hi : i < N) (c1 : -2147483648 ≤ w) (c2 : w < 2147483648) : fX9_requireShareKept (16 * 0 + i) (oI w) A = some (if w < sB s i 4 then none else some 2) := by
  have hN := h1.2.2.2.2.2.2.2.2
  have hb := h3.2.1 i (by omega)
  have hb2 := sumN_mem (f := fun i => sB s i 4) hi (fun j hj => h3.2.1 j (by omega))
  have hb3 := h3.2.2.2.2.2
  have g0 := h1.1
  rw [fX9_requireShareKept, hS.sh hi]
  simp (disch := omega) only [oI_lt, oI_le, oI_eq, oL_lt, oL_le, oL_eq, oI_L, oI_clamp, oI_inb, oL_nz]
  by_cases e : w < sB s i 4
  · rw [if_pos e, if_pos e]
  · rw [if_neg e, if_neg e]
theorem rqC {w : Int} (A : sM) (c1 : -2147483648 ≤ w) (c2 : w < 2147483648) : fX9_requireCount (oI w) A = some (if 1 ≤ w then none else some 1) := by
  rw [fX9_requireCount]
  simp (disch := omega) only [kI_0, kI_1, kI_2, kI_3, kI_4, kI_5, kI_6, kI_7, kI_8, kI_9, kI_10, kI_12, kI_16, kI_17, kI_19, kI_20, kI_23, kI_24, kI_30, kI_32, kI_36, kI_48, kI_57, kI_59, kI_60, kI_72, kI_80, kI_84, kI_97, kI_98, kI_100, kI_122, kI_148, kI_200, kI_300, kI_1058, kI_1108, kI_1348, kI_1588, kI_5290, kI_7940, kI_100000, kI_e7, kI_e9, kL_0, kL_1, kL_5, kL_9, kL_10, kL_12, kL_23, kL_30, kL_48, kL_57, kL_59, kL_97, kL_100, kL_122, kL_1000, kL_e7, kL_e9, kL_e10, oI_lt, oI_le, oI_eq, oL_lt, oL_le, oL_eq, oI_L, oI_clamp, oI_inb, oL_nz]
  by_cases e : 1 ≤ w
  · rw [if_pos e, if_pos e]
  · rw [if_neg e, if_neg e]
theorem sh_bd (h1 : W1 s N) (h3 : W3 s N) {i : Nat} (hi : i < N) : 0 ≤ sB s i 4 ∧ sB s i 4 ≤ 100000 := by
  have hN := h1.2.2.2.2.2.2.2.2
  have hb := h3.2.1 i (by omega)
  have hb2 := sumN_mem (f := fun i => sB s i 4) hi (fun j hj => h3.2.1 j (by omega))
  have hb3 := h3.2.2.2.2.2
  have g0 := h1.1
  omega
theorem setM {i w : Nat} {v : Int} (hi : i < 16) (hw : w < 7) : fX10_setMember (oI i) (oI w) (oI v) Z = some (wI Z 27 0 0 (36 + 7 * i + w) (oI v)) := by
  rw [fX10_setMember, kI_36, kI_7, oI_mul, oI_add, oI_add, oI_inb (by omega) (by omega) (by omega), gd_true, oI_clamp (by omega) (by omega), show (36 + 7 * (i : Int) + (w : Int)).toNat = 36 + 7 * i + w by omega, ltb_eq]
/-- members whose shares alone have changed -/
theorem W_sh (hW : WF n s N) {f : Nat → Nat → Int} (hf : ∀ i w, i < 16 → ¬ w = 4 → f i w = sB s i w) (h4 : ∀ i, i < 16 → 0 ≤ f i 4) (h1 : ∀ i, i < N → sB s i 3 = 1 → 1 ≤ f i 4) (h0 : ∀ i, i < N → ¬ sB s i 3 = 1 → f i 4 = 0) (hz : ∀ i, N ≤ i → i < 16 → f i 4 = 0) (hs : sumN (fun i => f i 4) N ≤ sG s 0) : WF (n + 1) (uB s f) N := by
  have hW' := hW.mono (n' := n + 1) (by omega)
  obtain ⟨w1, w2, w3, w4, w5, w6, w7, w8⟩ := hW'
  have hN := w1.2.2.2.2.2.2.2.2
  refine ⟨w1, w2, ⟨fun i hi => ?_, h4, fun i hi q => ?_, fun i hi q => ?_, hz, hs⟩, ⟨fun i hi => ?_, ?_⟩, w5, w6, ⟨w7.1, w7.2.1, fun i hi q => ?_, w7.2.2.2⟩, w8⟩
  · show (1 ≤ f i 0 ∧ f i 0 ≤ sG s 0) ∧ (1 ≤ f i 1 ∧ f i 1 ≤ f i 0) ∧ (0 ≤ f i 2 ∧ f i 2 ≤ 9) ∧ (0 ≤ f i 3 ∧ f i 3 ≤ 2)
    rw [hf i 0 (by omega) (by omega), hf i 1 (by omega) (by omega), hf i 2 (by omega) (by omega), hf i 3 (by omega) (by omega)]
    exact w3.1 i hi
  · have q' : f i 3 = 1 := q
    rw [hf i 3 (by omega) (by omega)] at q'
    exact h1 i hi q'
  · have q' : ¬ f i 3 = 1 := q
    rw [hf i 3 (by omega) (by omega)] at q'
    exact h0 i hi q'
  · show f i 5 = -1 ∨ (f i 3 = 1 ∧ ∃ t : Nat, t < N ∧ f i 5 = t ∧ f t 3 = 1 ∧ 1 ≤ f i 6 ∧ f i 6 ≤ 100)
    rw [hf i 5 (by omega) (by omega), hf i 3 (by omega) (by omega), hf i 6 (by omega) (by omega)]
    rcases w4.1 i hi with q | ⟨q1, t, ht, q2, q3, q4⟩
    · exact Or.inl q
    · exact Or.inr ⟨q1, t, ht, q2, by rw [hf t 3 (by omega) (by omega)]; exact q3, q4⟩
  · obtain ⟨d, hd⟩ := w4.2
    refine ⟨d, fun i t hi ht q => hd i t hi ht ?_⟩
    have q' : f i 5 = (t : Int) := q
    rw [hf i 5 (by omega) (by omega)] at q'
    exact q'
  · have q' : ¬ f i 3 = 1 := q
    rw [hf i 3 (by omega) (by omega)] at q'
    have h9 := w7.2.2.1 i hi q'
    exact ⟨h9.1, h9.2.1, h9.2.2.1, fun e => h9.2.2.2 ((hf i 3 (by omega) (by omega)).symm.trans e)⟩
end
theorem mor {n : Nat} {A Z : sM} (hI : Inv n A Z) (x y : Int32) : OKI n (fL_more x y A) (fX10_more x y Z) := by
  obtain ⟨⟨s, N, hS, hZ, hW⟩, hR⟩ := id hI
  obtain ⟨w1, w2, w3, w4, w5, w6, w7, w8⟩ := id hW
  obtain ⟨g0, g1, g2, g3, g4, g5, g6, g7, hN⟩ := id w1
  obtain ⟨a, a1, a2, rfl⟩ := I_ex x
  obtain ⟨w, c1, c2, rfl⟩ := I_ex y
  by_cases ha : 0 ≤ a ∧ a < N
  · obtain ⟨i, hi, rfl⟩ := int_ix ha
    by_cases hw : 1 ≤ w
    · have hb := sh_bd w1 w3 hi
      have hm := most_bd w1
      have hfr : 0 ≤ sG s 0 - sumN (fun i => sB s i 4) N := by have := w3.2.2.2.2.2; omega
      have hfr2 : 0 ≤ sumN (fun i => sB s i 4) N := sumN_nonneg fun j hj => w3.2.1 j (by omega)
      have eZ : fX10_more (oI i) (oI w) Z = if sB s i 3 = 1 ∧ w ≤ sG s 0 - sumN (fun i => sB s i 4) N ∧ sB s i 4 + w ≤ most s then Option.bind (fX10_keeps (wI Z 10 6 0 0 (oI 0))) fun Z_11 => some (oI (sB s i 4 + w), wI Z_11 27 0 0 (36 + 7 * i + 4) (oI (sB s i 4 + w))) else some (oI 0, wI Z 10 6 0 0 (oI 3)) := by
        rw [fX10_more, mem_t hZ w1 hi, bd_eq, ltb_eq, if_neg one_ne, if_pos (by simp (disch := omega) only [kI_0, kI_1, kI_2, kI_3, kI_4, kI_5, kI_6, kI_7, kI_8, kI_9, kI_10, kI_12, kI_16, kI_17, kI_19, kI_20, kI_23, kI_24, kI_30, kI_32, kI_36, kI_48, kI_57, kI_59, kI_60, kI_72, kI_80, kI_84, kI_97, kI_98, kI_100, kI_122, kI_148, kI_200, kI_300, kI_1058, kI_1108, kI_1348, kI_1588, kI_5290, kI_7940, kI_100000, kI_e7, kI_e9, kL_0, kL_1, kL_5, kL_9, kL_10, kL_12, kL_23, kL_30, kL_48, kL_57, kL_59, kL_97, kL_100, kL_122, kL_1000, kL_e7, kL_e9, kL_e10, oI_lt, oI_le, oI_eq, oL_lt, oL_le, oL_eq, oI_L, oI_clamp, oI_inb, oL_nz]; omega)]
        dsimp only
        rw [ltb_eq, thr_yes, kI_4, ofM4 (ZRt hZ) (by omega), bd_eq, ltb_eq, oI_L (by omega) (by omega), oI_L (by omega) (by omega), oL_add, actZ (ZRt hZ) w3 hi hN, bd_eq, ltb_eq, ltb_eq, free (ZRt hZ) w1, bd_eq, mst (ZRt hZ) w1, bd_eq, oI_L (by omega) (by omega)]
        by_cases e1 : sB s i 3 = 1
        · rw [if_pos e1, if_neg one_ne]
          by_cases e2 : w ≤ sG s 0 - sumN (fun i => sB s i 4) N
          · rw [if_neg (by simp (disch := omega) only [oI_lt, oI_le, oI_eq, oL_lt, oL_le, oL_eq, oI_L, oI_clamp, oI_inb, oL_nz]; omega)]
            by_cases e3 : sB s i 4 + w ≤ most s
            · rw [if_pos (by simp (disch := omega) only [oI_lt, oI_le, oI_eq, oL_lt, oL_le, oL_eq, oI_L, oI_clamp, oI_inb, oL_nz]; omega), if_pos ⟨e1, e2, e3⟩]
              dsimp only
              rw [ltb_eq, thr_yes, wI_wI, oL_I, kI_0]
              congr 1
              funext Z_11
              rw [show oI 4 = oI (4 : Nat) from rfl, setM (by omega) (by omega)]
              rfl
            · rw [if_neg (by simp (disch := omega) only [oI_lt, oI_le, oI_eq, oL_lt, oL_le, oL_eq, oI_L, oI_clamp, oI_inb, oL_nz]; omega), if_neg (fun q => e3 q.2.2)]
              dsimp only
              rw [ltb_eq, thr_no (by decide), wI_wI]
              rfl
          · rw [if_pos (by simp (disch := omega) only [oI_lt, oI_le, oI_eq, oL_lt, oL_le, oL_eq, oI_L, oI_clamp, oI_inb, oL_nz]; omega), if_neg (fun q => e2 q.2.1)]
            dsimp only
            rw [ltb_eq, thr_no (by decide), wI_wI]
            rfl
        · rw [if_neg e1, if_pos nul_eq, if_neg (fun q => e1 q.1)]
          dsimp only
          rw [ltb_eq, thr_no (by decide), wI_wI]
          rfl
      have eA : fX9_more (oI i) (oI w) A = if sB s i 3 = 1 ∧ w ≤ sG s 0 - sumN (fun i => sB s i 4) N ∧ sB s i 4 + w ≤ most s then Option.bind (fX6_keep A) fun A_3 => some (.inr ((wI A_3 8 4 (16 * 0 + i) 0 ((A_3.1 8 4 (16 * 0 + i) 0) + oI w)).1 8 4 (16 * 0 + i) 0), wI A_3 8 4 (16 * 0 + i) 0 ((A_3.1 8 4 (16 * 0 + i) 0) + oI w)) else some (.inl 2, A) := by
        rw [fX9_more, rqS_t hS hN hi, rq_none, rqC A c1 c2, if_pos hw, rq_none, rqA hS hN w3 hi]
        by_cases e1 : sB s i 3 = 1
        · rw [if_pos e1, rq_none, oI_inb (by omega) (by omega) (by omega), gd_true, unheld hS hN, bd_eq]
          by_cases e2 : w ≤ sG s 0 - sumN (fun i => sB s i 4) N
          · rw [if_pos (by simp (disch := omega) only [oI_lt, oI_le, oI_eq, oL_lt, oL_le, oL_eq, oI_L, oI_clamp, oI_inb, oL_nz]; omega), oI_clamp (by omega) (by omega), cl_nat, rqR hS w1 w3 hi c1 c2]
            by_cases e3 : sB s i 4 + w ≤ most s
            · rw [if_pos e3, rq_none, if_pos ⟨e1, e2, e3⟩]
              rfl
            · rw [if_neg e3, rq_thr, if_neg (fun q => e3 q.2.2)]
          · rw [if_neg (by simp (disch := omega) only [oI_lt, oI_le, oI_eq, oL_lt, oL_le, oL_eq, oI_L, oI_clamp, oI_inb, oL_nz]; omega), if_neg (fun q => e2 q.2.1)]
        · rw [if_neg e1, rq_thr, if_neg (fun q => e1 q.1)]
      by_cases hc : sB s i 3 = 1 ∧ w ≤ sG s 0 - sumN (fun i => sB s i 4) N ∧ sB s i 4 + w ≤ most s
      · obtain ⟨A1, Z1, k1, k2, k3, k4, k5, k6, k7⟩ := keep0 ⟨hS, hZ, hW⟩ hR
        rw [if_pos hc, k2, bd_eq] at eZ
        rw [if_pos hc, k1, bd_eq, k3.sh hi, oI_add, wI_1, if_pos ⟨rfl, rfl, rfl, rfl⟩] at eA
        refine OKI.m (v := oI (sB s i 4 + w)) (A2 := wI A1 8 4 (16 * 0 + i) 0 (oI (sB s i 4 + w))) (Z2 := wI Z1 27 0 0 (36 + 7 * i + 4) (oI (sB s i 4 + w))) (s' := uB s (up2 (sB s) i 4 (sB s i 4 + w))) k5 (by rw [fL_more, eA]; rfl) eZ (by rw [wI_1, if_neg (by omega)]; exact k6) ((Fr.refl _).wI (by simp [mvA]; omega)) ((Fr.refl _).wI rfl) (k3.wSh hi) (k4.wB (by omega) (by omega)) (W_sh hW (fun j v _ hv => up2_n _ _ (by omega)) (fun j hj => ?_) (fun j hj q => ?_) (fun j hj q => ?_) (fun j h1 h2 => ?_) ?_)
        · have := w3.2.1 j hj
          rw [up2]; split <;> omega
        · have := w3.2.2.1 j hj q
          rw [up2]; split <;> omega
        · have := w3.2.2.2.1 j hj q
          rw [up2_n _ _ (by rintro ⟨rfl, -⟩; exact q hc.1)]; exact this
        · rw [up2_n _ _ (by omega)]; exact w3.2.2.2.2.1 j h1 h2
        · rw [sumN_up (f := fun j => sB s j 4) hi (fun j hj hn => up2_n _ _ (by omega)), up2_s]
          omega
      · refine OKI.t (r := 3) (v := 0) hI (by rw [fL_more, eA, if_neg hc]; rfl) (by rw [eZ, if_neg hc]; rfl) (thr_g _ _) (by decide) (Fr.refl _) (frT Z _)
    · refine OKI.t (r := 2) (v := 0) hI ?_ ?_ (thr_g Z _) (by decide) (Fr.refl _) (frT Z _)
      · rw [fL_more, fX9_more, rqS_t hS hN hi, rq_none, rqC A c1 c2, if_neg hw]
        rfl
      · rw [fX10_more, mem_t hZ w1 hi, bd_eq, ltb_eq, if_neg one_ne, if_neg (by simp (disch := omega) only [kI_0, kI_1, kI_2, kI_3, kI_4, kI_5, kI_6, kI_7, kI_8, kI_9, kI_10, kI_12, kI_16, kI_17, kI_19, kI_20, kI_23, kI_24, kI_30, kI_32, kI_36, kI_48, kI_57, kI_59, kI_60, kI_72, kI_80, kI_84, kI_97, kI_98, kI_100, kI_122, kI_148, kI_200, kI_300, kI_1058, kI_1108, kI_1348, kI_1588, kI_5290, kI_7940, kI_100000, kI_e7, kI_e9, kL_0, kL_1, kL_5, kL_9, kL_10, kL_12, kL_23, kL_30, kL_48, kL_57, kL_59, kL_97, kL_100, kL_122, kL_1000, kL_e7, kL_e9, kL_e10, oI_lt, oI_le, oI_eq, oL_lt, oL_le, oL_eq, oI_L, oI_clamp, oI_inb, oL_nz]; omega)]
        dsimp only
        rw [ltb_eq, thr_no (by decide)]
        all_goals rfl
  · refine OKI.t (r := 1) (v := 0) hI ?_ ?_ (thr_g Z _) (by decide) (Fr.refl _) (frT Z _)
    · rw [fL_more, fX9_more, rqS_f hS hN a1 a2 ha]
      rfl
    · rw [fX10_more, mem_f hZ w1 a1 a2 ha, bd_eq, ltb_eq, if_pos nul_eq]
      dsimp only
      rw [ltb_eq, thr_no (by decide)]
      all_goals rfl
theorem case6 : CaseOK fL_case6 := by
  intro n L A Z xs x4 hn hI hin
  obtain ⟨_, i1, i2, i3, i4, i5⟩ := hin
  rw [fL_case6]
  simp only [i1, i2, i3, i4, i5, gd_true]
  exact OKI.c (mor hI _ _)
