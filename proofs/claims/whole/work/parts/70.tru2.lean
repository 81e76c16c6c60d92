section
variable {A Z : sM} {s : sS} {N n : Nat}
theorem hs_past (h5 : W5 s N) {m : Nat} (hm : (m : Int) < sG s 5) : sumN (wv s m 0) N ≤ 30 * sG s 0 := by
  rw [sumN_congr (g := fun i => sD s m i) (fun i hi => by rw [wv, if_pos (by omega), cl_nat]; omega)]
  exact h5.2.2.2.1 m hm
theorem tuD (hW : WF n s N) {m : Nat} (hm : (m : Int) < sG s 5) {V : Int} (hV : 0 ≤ V ∧ V ≤ 800000000000) : DV V (30 * sG s 0) (wop s N m 0) (N + 1) := by
  obtain ⟨w1, w2, w3, w4, w5, w6, w7, w8⟩ := id hW
  obtain ⟨g0, g1, g2, g3, g4, g5, g6, g7, hN⟩ := id w1
  exact DVm w1 w3 w5 (by omega) (by omega) (hs_past w5 hm) (by omega)
theorem sumN_lt (f : Nat → Int) {N : Nat} (h : 0 ≤ f N) : sumN f N ≤ sumN f (N + 1) := by rw [sumN]; omega
theorem tu_pt (hW : WF n s N) {m : Nat} (hm : (m : Int) < sG s 5) : DV (if 0 < tuV s m then tuV s m else -(tuV s m)) (30 * sG s 0) (wop s N m 0) (N + 1) ∧ (∀ k, k ≤ N → 0 ≤ tuP s N m k ∧ tuP s N m k < 4611686018427387904) ∧ sumN (tuP s N m) N ≤ (if 0 < tuV s m then tuV s m else -(tuV s m)) := by
  obtain ⟨w1, w2, w3, w4, w5, w6, w7, w8⟩ := id hW
  obtain ⟨g0, g1, g2, g3, g4, g5, g6, g7, hN⟩ := id w1
  have hb := tu_bd w1 w2 w6 (m := m) (by omega)
  have hD := tuD hW hm (V := if 0 < tuV s m then tuV s m else -(tuV s m)) (by split <;> omega)
  have hn : ∀ k, k ≤ N → 0 ≤ tuP s N m k := fun k hk => dvd_nn hD (by omega)
  refine ⟨hD, fun k hk => ⟨hn k hk, ?_⟩, ?_⟩
  · have h1 : tuP s N m k ≤ _ := dvd_le hD (show k < N + 1 by omega)
    split at h1 <;> omega
  · have h1 := sumN_lt (tuP s N m) (hn N (Nat.le_refl _))
    have h2 : sumN (tuP s N m) (N + 1) = _ := dvd_sum hD
    omega
/-- the system's month -/
theorem tuA (hn : n ≤ 512) (hS : SR A 0 s N) (hW : WF n s N) {m : Nat} (hm : (m : Int) < sG s 5) (x : Int) : ∃ A', Fr mvA A A' ∧ SR A' 0 (tuS s N m) N ∧ ∀ kk fuel, fX9_trueUp_L15 kk (fuel + 1) (oL x) (oI m) A = fX9_trueUp_L15 kk fuel (oL (x + tuV s m)) (oI (m + 1 : Nat)) A' := by
  obtain ⟨w1, w2, w3, w4, w5, w6, w7, w8⟩ := id hW
  obtain ⟨g0, g1, g2, g3, g4, g5, g6, g7, hN⟩ := id w1
  have hb := tu_bd w1 w2 w6 (m := m) (by omega)
  obtain ⟨hD, hp, hps⟩ := tu_pt hW hm
  have hc := cvl hS w1 w2 w6 (m := m) (by omega)
  have hcond : ¬ A.1 0 4 0 0 ≤ oI (m : Int) := by
    rw [hS.mon]; simp (disch := omega) only [oI_lt, oI_le, oI_eq, oL_lt, oL_le, oL_eq, oI_L, oI_clamp, oI_inb, oL_nz]; omega
  by_cases e0 : tuV s m = 0
  · obtain ⟨A1, u1, u2, u3⟩ := ccA_L (s := s) (m := m) (by omega) 10000 0 A (by omega) (by omega) (by rw [coE_0, coC_0]; exact hS)
    refine ⟨A1, m22_mv u1, by rw [tuS, if_pos e0]; exact u2, fun kk fuel => ?_⟩
    have u3' : fX7_countCorrections 0 (oI m) A = some A1 := u3
    rw [fX9_trueUp_L15, if_neg hcond, hc, bd_eq, ltb_eq, e0, if_pos (show oL 0 = (0 : Int64) from rfl)]
    dsimp only
    rw [u3', bd_eq, oL_add, ltb_eq, ltb_eq, kI_1, oI_add, nat1]
  · obtain ⟨A1, a1, a2, a3, a4⟩ := wsd hS w1 w3 w5 (a := m) (d := 0) (by omega) (by omega)
    obtain ⟨A2, b1, b2, b3, b4⟩ := divM w1 hD a2 a3
    have f2 : Fr wkA A A2 := Fr.trans (pW_wk a1) (pD_wk b1)
    have s2 : SR A2 0 s N := hS.wk f2 hN (by omega)
    have hdb : ∀ j, j < N → 0 ≤ sA s j 0 ∧ sA s j 0 < 4611686018427387904 := fun j hj => by
      have := (debt_bd w7 w8 w2 w6 hn (show j < 16 by omega)).1
      omega
    have hTb : ∀ j, j < N → ∀ q, q < 60 → 0 ≤ sT s j q ∧ sT s j q < 4611686018427387904 := fun j hj q hq => by
      have := (bal_bd w7 w8 w2 w6 hn (show j < 16 by omega)).2 q hq
      omega
    obtain ⟨M, hM⟩ : ∃ M : Nat, sG s 5 = M := ⟨(sG s 5).toNat, by omega⟩
    have a4' : fX3_weighShareDays 0 (oI m) (0 : Int32) A = some A1 := a4
    by_cases e1 : 0 < tuV s m
    · have s3 := s2.wF1 (z0 := 0) (v := sF s 1 + tuP s N m N) rfl
      obtain ⟨A3, c1, c2, c3⟩ := cpA_L (s := uF s (up1 (sF s) 1 (sF s 1 + tuP s N m N))) (p := tuP s N m) (m := M) hN w3 hM (by omega) (fun j hj => hp j (by omega)) hdb 10000 0 _ (by omega) (by omega) s3 (fun j hj => by rw [wL_2, if_neg (by omega)]; exact b2 j hj)
      have hsm := stR_same true (tuP s N m) N (uF s (up1 (sF s) 1 (sF s 1 + tuP s N m N)))
      obtain ⟨A4, u1, u2, u3⟩ := ccA_L (m := m) (by omega) 10000 0 A3 (by omega) (by omega) (by rw [coE_0, coC_0]; exact c2)
      have hst : tuS s N m = coS (stR true (tuP s N m) N (uF s (up1 (sF s) 1 (sF s 1 + tuP s N m N)))) m := by
        have h9 := co_same hsm m
        rw [tuS, if_neg e0, if_pos e1, coS, coS, h9.1, h9.2, show decide (0 < tuV s m) = true from decide_eq_true e1]
        exact stR_co true (tuP s N m) (coE s m 4) (coC s m 4) N (uF s (up1 (sF s) 1 (sF s 1 + tuP s N m N)))
      refine ⟨A4, Fr.trans (Fr.trans ((wk_mvA f2).wL rfl) (m26_mv c1)) (m22_mv u1), by rw [hst]; exact u2, fun kk fuel => ?_⟩
      have u3' : fX7_countCorrections 0 (oI m) A3 = some A4 := u3
      have e16 : A2.2 17 0 0 (16 : Int32).toNatClampNeg = oL (tuP s N m N) := b3
      rw [if_pos e1] at b4
      have c3' : fX0_settleTrueUp 0 (1 : Int32) A2 = some A3 := by
        rw [fX0_settleTrueUp, if_neg (by decide), fX0_creditParts, s2.op, e16, oL_add, ltb_eq]
        exact congrArg (fun x => Option.bind x fun A => some A) c3
      rw [fX9_trueUp_L15, if_neg hcond, hc, bd_eq, ltb_eq, if_neg (by simp (disch := omega) only [kI_0, kI_1, kI_2, kI_3, kI_4, kI_5, kI_6, kI_7, kI_8, kI_9, kI_10, kI_12, kI_16, kI_17, kI_19, kI_20, kI_23, kI_24, kI_30, kI_32, kI_36, kI_48, kI_57, kI_59, kI_60, kI_72, kI_80, kI_84, kI_97, kI_98, kI_100, kI_122, kI_148, kI_200, kI_300, kI_1058, kI_1108, kI_1348, kI_1588, kI_5290, kI_7940, kI_100000, kI_e7, kI_e9, kL_0, kL_1, kL_5, kL_9, kL_10, kL_12, kL_23, kL_30, kL_48, kL_57, kL_59, kL_97, kL_100, kL_122, kL_1000, kL_e7, kL_e9, kL_e10, oI_lt, oI_le, oI_eq, oL_lt, oL_le, oL_eq, oI_L, oI_clamp, oI_inb, oL_nz]; exact e0), a4', bd_eq, if_pos (by simp (disch := omega) only [kI_0, kI_1, kI_2, kI_3, kI_4, kI_5, kI_6, kI_7, kI_8, kI_9, kI_10, kI_12, kI_16, kI_17, kI_19, kI_20, kI_23, kI_24, kI_30, kI_32, kI_36, kI_48, kI_57, kI_59, kI_60, kI_72, kI_80, kI_84, kI_97, kI_98, kI_100, kI_122, kI_148, kI_200, kI_300, kI_1058, kI_1108, kI_1348, kI_1588, kI_5290, kI_7940, kI_100000, kI_e7, kI_e9, kL_0, kL_1, kL_5, kL_9, kL_10, kL_12, kL_23, kL_30, kL_48, kL_57, kL_59, kL_97, kL_100, kL_122, kL_1000, kL_e7, kL_e9, kL_e10, oI_lt, oI_le, oI_eq, oL_lt, oL_le, oL_eq, oI_L, oI_clamp, oI_inb, oL_nz]; exact e1), b4, bd_eq, ltb_eq, if_neg (by simp (disch := omega) only [kI_0, kI_1, kI_2, kI_3, kI_4, kI_5, kI_6, kI_7, kI_8, kI_9, kI_10, kI_12, kI_16, kI_17, kI_19, kI_20, kI_23, kI_24, kI_30, kI_32, kI_36, kI_48, kI_57, kI_59, kI_60, kI_72, kI_80, kI_84, kI_97, kI_98, kI_100, kI_122, kI_148, kI_200, kI_300, kI_1058, kI_1108, kI_1348, kI_1588, kI_5290, kI_7940, kI_100000, kI_e7, kI_e9, kL_0, kL_1, kL_5, kL_9, kL_10, kL_12, kL_23, kL_30, kL_48, kL_57, kL_59, kL_97, kL_100, kL_122, kL_1000, kL_e7, kL_e9, kL_e10, oI_lt, oI_le, oI_eq, oL_lt, oL_le, oL_eq, oI_L, oI_clamp, oI_inb, oL_nz]; omega)]
      dsimp only
      rw [c3', bd_eq, u3', bd_eq, oL_add, ltb_eq, ltb_eq, kI_1, oI_add, nat1]
    · have s3 := s2.wF1 (z0 := 0) (v := sF s 1 - tuP s N m N) rfl
      obtain ⟨A3, c1, c2, c3⟩ := lpA_L (s := uF s (up1 (sF s) 1 (sF s 1 - tuP s N m N))) (p := tuP s N m) hN w3 (fun j hj => hp j (by omega)) hTb 10000 0 _ (by omega) (by omega) s3 (fun j hj => by rw [wL_2, if_neg (by omega)]; exact b2 j hj)
      have hsm := stR_same false (tuP s N m) N (uF s (up1 (sF s) 1 (sF s 1 - tuP s N m N)))
      obtain ⟨A4, u1, u2, u3⟩ := ccA_L (m := m) (by omega) 10000 0 A3 (by omega) (by omega) (by rw [coE_0, coC_0]; exact c2)
      have hst : tuS s N m = coS (stR false (tuP s N m) N (uF s (up1 (sF s) 1 (sF s 1 - tuP s N m N)))) m := by
        have h9 := co_same hsm m
        rw [tuS, if_neg e0, if_neg e1, coS, coS, h9.1, h9.2, show decide (0 < tuV s m) = false from decide_eq_false e1, ← Int.sub_eq_add_neg]
        exact stR_co false (tuP s N m) (coE s m 4) (coC s m 4) N (uF s (up1 (sF s) 1 (sF s 1 - tuP s N m N)))
      refine ⟨A4, Fr.trans (Fr.trans ((wk_mvA f2).wL rfl) (m26_mv c1)) (m22_mv u1), by rw [hst]; exact u2, fun kk fuel => ?_⟩
      have u3' : fX7_countCorrections 0 (oI m) A3 = some A4 := u3
      have e16 : A2.2 17 0 0 (16 : Int32).toNatClampNeg = oL (tuP s N m N) := b3
      rw [if_neg e1] at b4
      have c3' : fX0_settleTrueUp 0 (0 : Int32) A2 = some A3 := by
        rw [fX0_settleTrueUp, if_pos rfl, s2.op, e16, oL_sub, ltb_eq]
        exact c3
      rw [fX9_trueUp_L15, if_neg hcond, hc, bd_eq, ltb_eq, if_neg (by simp (disch := omega) only [kI_0, kI_1, kI_2, kI_3, kI_4, kI_5, kI_6, kI_7, kI_8, kI_9, kI_10, kI_12, kI_16, kI_17, kI_19, kI_20, kI_23, kI_24, kI_30, kI_32, kI_36, kI_48, kI_57, kI_59, kI_60, kI_72, kI_80, kI_84, kI_97, kI_98, kI_100, kI_122, kI_148, kI_200, kI_300, kI_1058, kI_1108, kI_1348, kI_1588, kI_5290, kI_7940, kI_100000, kI_e7, kI_e9, kL_0, kL_1, kL_5, kL_9, kL_10, kL_12, kL_23, kL_30, kL_48, kL_57, kL_59, kL_97, kL_100, kL_122, kL_1000, kL_e7, kL_e9, kL_e10, oI_lt, oI_le, oI_eq, oL_lt, oL_le, oL_eq, oI_L, oI_clamp, oI_inb, oL_nz]; exact e0), a4', bd_eq, if_neg (by simp (disch := omega) only [kI_0, kI_1, kI_2, kI_3, kI_4, kI_5, kI_6, kI_7, kI_8, kI_9, kI_10, kI_12, kI_16, kI_17, kI_19, kI_20, kI_23, kI_24, kI_30, kI_32, kI_36, kI_48, kI_57, kI_59, kI_60, kI_72, kI_80, kI_84, kI_97, kI_98, kI_100, kI_122, kI_148, kI_200, kI_300, kI_1058, kI_1108, kI_1348, kI_1588, kI_5290, kI_7940, kI_100000, kI_e7, kI_e9, kL_0, kL_1, kL_5, kL_9, kL_10, kL_12, kL_23, kL_30, kL_48, kL_57, kL_59, kL_97, kL_100, kL_122, kL_1000, kL_e7, kL_e9, kL_e10, oI_lt, oI_le, oI_eq, oL_lt, oL_le, oL_eq, oI_L, oI_clamp, oI_inb, oL_nz]; exact e1), oL_neg, b4, bd_eq, ltb_eq, if_pos (by simp (disch := omega) only [kI_0, kI_1, kI_2, kI_3, kI_4, kI_5, kI_6, kI_7, kI_8, kI_9, kI_10, kI_12, kI_16, kI_17, kI_19, kI_20, kI_23, kI_24, kI_30, kI_32, kI_36, kI_48, kI_57, kI_59, kI_60, kI_72, kI_80, kI_84, kI_97, kI_98, kI_100, kI_122, kI_148, kI_200, kI_300, kI_1058, kI_1108, kI_1348, kI_1588, kI_5290, kI_7940, kI_100000, kI_e7, kI_e9, kL_0, kL_1, kL_5, kL_9, kL_10, kL_12, kL_23, kL_30, kL_48, kL_57, kL_59, kL_97, kL_100, kL_122, kL_1000, kL_e7, kL_e9, kL_e10, oI_lt, oI_le, oI_eq, oL_lt, oL_le, oL_eq, oI_L, oI_clamp, oI_inb, oL_nz]; omega)]
      dsimp only
      rw [c3', bd_eq, u3', bd_eq, oL_add, ltb_eq, ltb_eq, kI_1, oI_add, nat1]
/-- .. and the reference's -/
theorem tu_worth (s : sS) (m : Nat) (h4 : sG s 4 ≤ 4) : worth (coS s m) m - worth s m = tuV s m := by
  have e : ∀ p, p < (sG s 4).toNat → coE s m 4 (4 * m + p) * sRt s p - sE s (4 * m + p) * sRt s p = cor s (4 * m + p) * sRt s p := fun p hp => by
    rw [coE, cor]
    by_cases q : sC s (4 * m + p) = -1
    · rw [if_neg (fun h => h.2 q), if_pos q]; omega
    · rw [if_pos ⟨by omega, q⟩, if_neg q, ← Int.sub_mul]
  rw [tuV, ← sumN_congr (f := fun p => coE s m 4 (4 * m + p) * sRt s p - sE s (4 * m + p) * sRt s p) e, sumN_sub]
  rfl
theorem co_w6 (h6 : W6 s) {m : Nat} (hm : (m : Int) < sG s 5) : W6 (coS s m) := by
  refine ⟨fun c hc => ?_, fun m' p hm' hp => ?_⟩
  · have h9 := h6.1 c hc
    show 0 ≤ coE s m 4 c ∧ coE s m 4 c ≤ 1000000000 ∧ -1 ≤ coC s m 4 c ∧ coC s m 4 c ≤ 1000000000
    rw [coE, coC]
    split <;> split <;> omega
  · have h9 := h6.2 m' p hm' hp
    show (sG s 5 < m' → coE s m 4 (4 * m' + p) = 0) ∧ (sG s 5 ≤ m' → coC s m 4 (4 * m' + p) = -1) ∧ (sG s 4 ≤ p → coE s m 4 (4 * m' + p) = 0 ∧ coC s m 4 (4 * m' + p) = -1)
    rw [coE, coC]
    refine ⟨fun q => ?_, fun q => ?_, fun q => ⟨?_, ?_⟩⟩
    · rw [if_neg (by omega)]; exact h9.1 q
    · rw [if_neg (by omega)]; exact h9.2.1 q
    · rw [if_neg (fun h => h.2 (h9.2.2 q).2)]; exact (h9.2.2 q).1
    · split
      · rfl
      · exact (h9.2.2 q).2
theorem tuZ (hn : n ≤ 512) (hZ : ZR (zA Z) (zB Z) s) (hW : WF n s N) {m : Nat} (hm : (m : Int) < sG s 5) (x : Int) : ∃ Z', Fr mvZ Z Z' ∧ ZR (zA Z') (zB Z') (tuS s N m) ∧ Z'.1 10 6 0 0 = Z.1 10 6 0 0 ∧ ∀ kk fuel, fX10_trueUp_L13 kk (fuel + 1) (oL x) (oI m) Z = fX10_trueUp_L13 kk fuel (oL (x + tuV s m)) (oI (m + 1 : Nat)) Z' := by
  obtain ⟨w1, w2, w3, w4, w5, w6, w7, w8⟩ := id hW
  obtain ⟨g0, g1, g2, g3, g4, g5, g6, g7, hN⟩ := id w1
  have hb := tu_bd w1 w2 w6 (m := m) (by omega)
  obtain ⟨hD, hp, hps⟩ := tu_pt hW hm
  have e5 : Z.1 27 0 0 5 = oI (sG s 5) := hZ.g (by omega)
  have hc : ¬ oI (sG s 5) ≤ oI (m : Int) := by simp (disch := omega) only [oI_lt, oI_le, oI_eq, oL_lt, oL_le, oL_eq, oI_L, oI_clamp, oI_inb, oL_nz]; omega
  have hw := wor hZ w1 w2 w6 (m := m) (by omega)
  obtain ⟨Z1, u1, u2, u3⟩ := ccZ_L (s := s) (m := m) (by omega) w6 (oL x) (oL (worth s m)) 10000 0 Z (by omega) (by omega) (by rw [coE_0, coC_0]; exact hZ)
  have hw2 := wor (s := coS s m) u2 w1 w2 (co_w6 w6 hm) (m := m) (by omega)
  have ht := tu_worth s m g4.2
  by_cases e0 : tuV s m = 0
  · refine ⟨Z1, m27_mv u1, by rw [tuS, if_pos e0]; exact u2, u1.i rfl, fun kk fuel => ?_⟩
    rw [fX10_trueUp_L13, tn_5, e5, if_neg hc, hw, bd_eq]
    refine (u3 _).trans ?_
    rw [hw2, bd_eq, oL_sub, ht, ltb_eq, ltb_eq, e0, if_pos (show oL 0 = (0 : Int64) from rfl)]
    dsimp only
    rw [oL_add, ltb_eq, ltb_eq, kI_1, oI_add, nat1]
  · obtain ⟨Z2, d1, d2, d3⟩ := dvm (s := coS s m) (N := N) u2 w1 w3 w5 (m := m) (d := 0) (by omega) (by omega) hD
    have hZ2 : ZR (zA Z2) (zB Z2) (coS s m) := u2.keep (fun k => d1.i rfl) (fun k => d1.l rfl)
    have d2' : ∀ k, k ≤ N → Z2.2 34 0 0 k = oL (tuP s N m k) := d2
    have e7 : Z2.1 27 0 0 7 = oI N := (hZ2.g (k := 7) (by omega)).trans (congrArg oI g7)
    have eo : Z2.2 30 0 0 1 = oL (sF s 1) := hZ2.fo (by omega)
    have hdb : ∀ j, j < N → 0 ≤ sA s j 0 ∧ sA s j 0 < 4611686018427387904 := fun j hj => by
      have := (debt_bd w7 w8 w2 w6 hn (show j < 16 by omega)).1
      omega
    have hTb : ∀ j, j < N → ∀ q, q < 60 → 0 ≤ sT s j q ∧ sT s j q < 4611686018427387904 := fun j hj q hq => by
      have := (bal_bd w7 w8 w2 w6 hn (show j < 16 by omega)).2 q hq
      omega
    obtain ⟨M, hM⟩ : ∃ M : Nat, sG s 5 = M := ⟨(sG s 5).toNat, by omega⟩
    have key : ∃ Z4, Fr m30 Z2 Z4 ∧ ZR (zA Z4) (zB Z4) (tuS s N m) ∧ fX10_truesUp (oI m) (oL (tuV s m)) Z1 = some Z4 := by
      by_cases e1 : 0 < tuV s m
      · rw [if_pos e1] at d3
        have d3' : fX10_dividesMonth (oL (tuV s m)) (oI m) (0 : Int32) Z1 = some Z2 := d3
        have h3 := hZ2.wF (k0 := 1) (v := sF s 1 + 1 * tuP s N m N) (by omega)
        obtain ⟨Z4, c1, c2, c3⟩ := tpZ_L (s := uF (coS s m) (up1 (sF s) 1 (sF s 1 + 1 * tuP s N m N))) (p := tuP s N m) (m := M) ⟨e1, by omega⟩ w1 w3 hM (by omega) (fun j hj => hp j (by omega)) hdb 10000 0 _ (by omega) (by omega) h3 (fun j hj => by rw [wL_2, if_neg (by omega)]; exact d2' j (by omega))
        refine ⟨Z4, Fr.trans ((Fr.refl _).wL rfl) c1, ?_, ?_⟩
        · rw [tuS, if_neg e0, if_pos e1, show decide (0 < tuV s m) = true from decide_eq_true e1]
          rw [Int.one_mul] at c2; exact c2
        · rw [fX10_truesUp, ltb_eq, if_pos (by simp (disch := omega) only [kI_0, kI_1, kI_2, kI_3, kI_4, kI_5, kI_6, kI_7, kI_8, kI_9, kI_10, kI_12, kI_16, kI_17, kI_19, kI_20, kI_23, kI_24, kI_30, kI_32, kI_36, kI_48, kI_57, kI_59, kI_60, kI_72, kI_80, kI_84, kI_97, kI_98, kI_100, kI_122, kI_148, kI_200, kI_300, kI_1058, kI_1108, kI_1348, kI_1588, kI_5290, kI_7940, kI_100000, kI_e7, kI_e9, kL_0, kL_1, kL_5, kL_9, kL_10, kL_12, kL_23, kL_30, kL_48, kL_57, kL_59, kL_97, kL_100, kL_122, kL_1000, kL_e7, kL_e9, kL_e10, oI_lt, oI_le, oI_eq, oL_lt, oL_le, oL_eq, oI_L, oI_clamp, oI_inb, oL_nz]; omega)]
          dsimp only
          rw [d3', bd_eq, ltb_eq, if_pos (by simp (disch := omega) only [kI_0, kI_1, kI_2, kI_3, kI_4, kI_5, kI_6, kI_7, kI_8, kI_9, kI_10, kI_12, kI_16, kI_17, kI_19, kI_20, kI_23, kI_24, kI_30, kI_32, kI_36, kI_48, kI_57, kI_59, kI_60, kI_72, kI_80, kI_84, kI_97, kI_98, kI_100, kI_122, kI_148, kI_200, kI_300, kI_1058, kI_1108, kI_1348, kI_1588, kI_5290, kI_7940, kI_100000, kI_e7, kI_e9, kL_0, kL_1, kL_5, kL_9, kL_10, kL_12, kL_23, kL_30, kL_48, kL_57, kL_59, kL_97, kL_100, kL_122, kL_1000, kL_e7, kL_e9, kL_e10, oI_lt, oI_le, oI_eq, oL_lt, oL_le, oL_eq, oI_L, oI_clamp, oI_inb, oL_nz]; omega)]
          dsimp only
          rw [tn_7, e7, inbA (by omega) (by omega), gd_true, clpA (by omega), tn_1, eo, d2' N (Nat.le_refl _)]
          rw [show (1 : Int64) * oL (tuP s N m N) = oL (1 * tuP s N m N) from (by rw [kL_1, oL_mul]), oL_add, ltb_eq]
          exact c3
      · rw [if_neg e1] at d3
        have d3' : fX10_dividesMonth (oL (-(tuV s m))) (oI m) (0 : Int32) Z1 = some Z2 := d3
        have h3 := hZ2.wF (k0 := 1) (v := sF s 1 + -1 * tuP s N m N) (by omega)
        obtain ⟨Z4, c1, c2, c3⟩ := tnZ_L (s := uF (coS s m) (up1 (sF s) 1 (sF s 1 + -1 * tuP s N m N))) (p := tuP s N m) (x := tuV s m) ⟨by omega, by omega⟩ w1 w3 (fun j hj => hp j (by omega)) hTb 10000 0 _ (by omega) (by omega) h3 (fun j hj => by rw [wL_2, if_neg (by omega)]; exact d2' j (by omega))
        refine ⟨Z4, Fr.trans ((Fr.refl _).wL rfl) c1, ?_, ?_⟩
        · rw [tuS, if_neg e0, if_neg e1, show decide (0 < tuV s m) = false from decide_eq_false e1, show -tuP s N m N = -1 * tuP s N m N by omega]
          exact c2
        · rw [fX10_truesUp, ltb_eq, if_neg (by simp (disch := omega) only [kI_0, kI_1, kI_2, kI_3, kI_4, kI_5, kI_6, kI_7, kI_8, kI_9, kI_10, kI_12, kI_16, kI_17, kI_19, kI_20, kI_23, kI_24, kI_30, kI_32, kI_36, kI_48, kI_57, kI_59, kI_60, kI_72, kI_80, kI_84, kI_97, kI_98, kI_100, kI_122, kI_148, kI_200, kI_300, kI_1058, kI_1108, kI_1348, kI_1588, kI_5290, kI_7940, kI_100000, kI_e7, kI_e9, kL_0, kL_1, kL_5, kL_9, kL_10, kL_12, kL_23, kL_30, kL_48, kL_57, kL_59, kL_97, kL_100, kL_122, kL_1000, kL_e7, kL_e9, kL_e10, oI_lt, oI_le, oI_eq, oL_lt, oL_le, oL_eq, oI_L, oI_clamp, oI_inb, oL_nz]; omega), oL_neg]
          dsimp only
          rw [d3', bd_eq, ltb_eq, if_neg (by simp (disch := omega) only [kI_0, kI_1, kI_2, kI_3, kI_4, kI_5, kI_6, kI_7, kI_8, kI_9, kI_10, kI_12, kI_16, kI_17, kI_19, kI_20, kI_23, kI_24, kI_30, kI_32, kI_36, kI_48, kI_57, kI_59, kI_60, kI_72, kI_80, kI_84, kI_97, kI_98, kI_100, kI_122, kI_148, kI_200, kI_300, kI_1058, kI_1108, kI_1348, kI_1588, kI_5290, kI_7940, kI_100000, kI_e7, kI_e9, kL_0, kL_1, kL_5, kL_9, kL_10, kL_12, kL_23, kL_30, kL_48, kL_57, kL_59, kL_97, kL_100, kL_122, kL_1000, kL_e7, kL_e9, kL_e10, oI_lt, oI_le, oI_eq, oL_lt, oL_le, oL_eq, oI_L, oI_clamp, oI_inb, oL_nz]; omega)]
          dsimp only
          rw [tn_7, e7, inbA (by omega) (by omega), gd_true, clpA (by omega), tn_1, eo, d2' N (Nat.le_refl _)]
          rw [show (-1 : Int64) * oL (tuP s N m N) = oL (-1 * tuP s N m N) from (by rw [show (-1 : Int64) = oL (-1) from Eq.trans rfl rfl, oL_mul]), oL_add, ltb_eq]
          exact c3
    obtain ⟨Z4, k1, k2, k3⟩ := key
    refine ⟨Z4, Fr.trans (Fr.trans (m27_mv u1) (wk_mvZ (pZ_wk d1))) (m30_mv k1), k2, by rw [k1.i rfl, d1.i rfl, u1.i rfl], fun kk fuel => ?_⟩
    rw [fX10_trueUp_L13, tn_5, e5, if_neg hc, hw, bd_eq]
    refine (u3 _).trans ?_
    rw [hw2, bd_eq, oL_sub, ht, ltb_eq, ltb_eq, if_neg (by simp (disch := omega) only [kI_0, kI_1, kI_2, kI_3, kI_4, kI_5, kI_6, kI_7, kI_8, kI_9, kI_10, kI_12, kI_16, kI_17, kI_19, kI_20, kI_23, kI_24, kI_30, kI_32, kI_36, kI_48, kI_57, kI_59, kI_60, kI_72, kI_80, kI_84, kI_97, kI_98, kI_100, kI_122, kI_148, kI_200, kI_300, kI_1058, kI_1108, kI_1348, kI_1588, kI_5290, kI_7940, kI_100000, kI_e7, kI_e9, kL_0, kL_1, kL_5, kL_9, kL_10, kL_12, kL_23, kL_30, kL_48, kL_57, kL_59, kL_97, kL_100, kL_122, kL_1000, kL_e7, kL_e9, kL_e10, oI_lt, oI_le, oI_eq, oL_lt, oL_le, oL_eq, oI_L, oI_clamp, oI_inb, oL_nz]; exact e0), k3, bd_eq]
    dsimp only
    rw [oL_add, ltb_eq, ltb_eq, kI_1, oI_add, nat1]
end
