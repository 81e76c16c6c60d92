section
variable {s : sS} {N : Nat}
theorem nr_loop (h1 : W1 s N) (h3 : W3 s N) (h5 : W5 s N) {A0 Z0 : sM} {m pl : Nat} {d c made rest : Int} (hm : m < 60) (hmo : sG s 5 = m) (hd : d = 30 - sG s 6) (hs : sumN (wv s m d) N ≤ 30 * sG s 0) (hc : -9223372036854775808 ≤ c ∧ c < 9223372036854775808) (hmd : 0 ≤ made ∧ made ≤ 1000000000) (hre : 0 ≤ rest ∧ rest ≤ 800000000000) (e3 : A0.2 3 1 0 0 = oL (30 * sG s 0)) (e4 : ∀ j, j < 17 → A0.2 15 0 0 j = oL (w17 s N m d j)) (hZ0 : ZR (zA Z0) (zB Z0) s) (hpl : pl ≤ N) {a : Int} (ha : (a = -1 ∧ pl = N) ∨ (a = pl ∧ pl < N))
    (k1 : Int32 → sM → Option ((Nat ⊕ Int32) × sM)) (k2 : sM → Option ((Nat ⊕ Int32) × sM)) (z1 : Int32 → sM → Option (Int32 × sM)) (z2 : sM → Option (Int32 × sM)) :
    ∀ (fuel r : Nat) (A Z : sM), r ≤ 201 → 201 - r < fuel → Fr pD A0 A → Fr pZ Z0 Z →
    ∃ A' Z', Fr pD A0 A' ∧ Fr pZ Z0 Z' ∧ ((∃ r0 : Nat, fX9_neededRate_L81 (oL c) (oI (if a = -1 then 16 else a)) (oL made) (oL rest) k1 k2 fuel (oI r) A = k1 (oI r0) A' ∧ fX10_neededRate_L97 (oI a) (oL c) (oL made) (oL rest) z1 z2 fuel (oI r) Z = z1 (oI r0) Z') ∨ (fX9_neededRate_L81 (oL c) (oI (if a = -1 then 16 else a)) (oL made) (oL rest) k1 k2 fuel (oI r) A = k2 A' ∧ fX10_neededRate_L97 (oI a) (oL c) (oL made) (oL rest) z1 z2 fuel (oI r) Z = z2 Z')) := by
  obtain ⟨g0, g1, g2, g3, g4, g5, g6, g7, hN⟩ := id h1
  intro fuel
  induction fuel with
  | zero => intro r A Z _ h; omega
  | succ fuel ih =>
    intro r A Z hr hf hA hZf
    have hZ : ZR (zA Z) (zB Z) s := hZ0.keep (fun k => hZf.i rfl) (fun k => hZf.l rfl)
    by_cases e : r = 201
    · refine ⟨A, Z, hA, hZf, Or.inr ⟨?_, ?_⟩⟩
      · rw [fX9_neededRate_L81, if_pos (by simp (disch := omega) only [kI_0, kI_1, kI_2, kI_3, kI_4, kI_5, kI_6, kI_7, kI_8, kI_9, kI_10, kI_12, kI_16, kI_17, kI_19, kI_20, kI_23, kI_24, kI_30, kI_32, kI_36, kI_48, kI_57, kI_59, kI_60, kI_72, kI_80, kI_84, kI_97, kI_98, kI_100, kI_122, kI_148, kI_200, kI_300, kI_1058, kI_1108, kI_1348, kI_1588, kI_5290, kI_7940, kI_100000, kI_e7, kI_e9, kL_0, kL_1, kL_5, kL_9, kL_10, kL_12, kL_23, kL_30, kL_48, kL_57, kL_59, kL_97, kL_100, kL_122, kL_1000, kL_e7, kL_e9, kL_e10, oI_lt, oI_le, oI_eq, oL_lt, oL_le, oL_eq, oI_L, oI_clamp, oI_inb, oL_nz]; omega)]
      · rw [fX10_neededRate_L97, if_pos (by simp (disch := omega) only [kI_0, kI_1, kI_2, kI_3, kI_4, kI_5, kI_6, kI_7, kI_8, kI_9, kI_10, kI_12, kI_16, kI_17, kI_19, kI_20, kI_23, kI_24, kI_30, kI_32, kI_36, kI_48, kI_57, kI_59, kI_60, kI_72, kI_80, kI_84, kI_97, kI_98, kI_100, kI_122, kI_148, kI_200, kI_300, kI_1058, kI_1108, kI_1348, kI_1588, kI_5290, kI_7940, kI_100000, kI_e7, kI_e9, kL_0, kL_1, kL_5, kL_9, kL_10, kL_12, kL_23, kL_30, kL_48, kL_57, kL_59, kL_97, kL_100, kL_122, kL_1000, kL_e7, kL_e9, kL_e10, oI_lt, oI_le, oI_eq, oL_lt, oL_le, oL_eq, oI_L, oI_clamp, oI_inb, oL_nz]; omega)]
    · have hmr : 0 ≤ made * r ∧ made * r ≤ 200000000000 := by
        refine ⟨Int.mul_nonneg hmd.1 (by omega), ?_⟩
        have := Int.mul_le_mul hmd.2 (show (r : Int) ≤ 200 by omega) (by omega) (by omega)
        omega
      have hD := DVm (V := rest + made * r) h1 h3 h5 (a := m) (d := d) (by omega) (by omega) hs (by omega)
      obtain ⟨A2, r1, r2, r3, r4⟩ := divM h1 hD (by rw [hA.l rfl]; exact e3) (fun j hj => by rw [hA.l rfl]; exact e4 j hj)
      obtain ⟨Z2, t1, t2, t3⟩ := dvm hZ h1 h3 h5 (m := m) (d := d) hm (by omega) hD
      have hZ2 : ZR (zA Z2) (zB Z2) s := hZ.keep (fun k => t1.i rfl) (fun k => t1.l rfl)
      have hp1 := dvd_nn hD (k := pl) (by omega)
      have hp2 := dvd_le hD (k := pl) (by omega)
      have ev : A2.2 17 0 0 (if a = -1 then (16 : Int) else a).toNat = oL (pt s N m d (rest + made * r) pl) := by
        rcases ha with ⟨q, q2⟩ | ⟨q, q2⟩
        · rw [if_pos q, q2]; exact r3
        · rw [if_neg (by omega), q, cl_nat]; exact r2 pl q2
      have hpt : pt s N m d (rest + made * r) pl = dvd (rest + made * r) (30 * sG s 0) (wop s N m d) (N + 1) pl := rfl
      have hai : 0 ≤ (if a = -1 then (16 : Int) else a) ∧ (if a = -1 then (16 : Int) else a) < 17 := by
        rcases ha with ⟨q, q2⟩ | ⟨q, q2⟩
        · rw [if_pos q]; omega
        · rw [if_neg (by omega)]; omega
      have stA : fX9_neededRate_L81 (oL c) (oI (if a = -1 then 16 else a)) (oL made) (oL rest) k1 k2 (fuel + 1) (oI r) A = if pt s N m d (rest + made * r) pl < c then fX9_neededRate_L81 (oL c) (oI (if a = -1 then 16 else a)) (oL made) (oL rest) k1 k2 fuel (oI (r + 1 : Nat)) A2 else k1 (oI r) A2 := by
        rw [fX9_neededRate_L81, if_neg (by simp (disch := omega) only [kI_0, kI_1, kI_2, kI_3, kI_4, kI_5, kI_6, kI_7, kI_8, kI_9, kI_10, kI_12, kI_16, kI_17, kI_19, kI_20, kI_23, kI_24, kI_30, kI_32, kI_36, kI_48, kI_57, kI_59, kI_60, kI_72, kI_80, kI_84, kI_97, kI_98, kI_100, kI_122, kI_148, kI_200, kI_300, kI_1058, kI_1108, kI_1348, kI_1588, kI_5290, kI_7940, kI_100000, kI_e7, kI_e9, kL_0, kL_1, kL_5, kL_9, kL_10, kL_12, kL_23, kL_30, kL_48, kL_57, kL_59, kL_97, kL_100, kL_122, kL_1000, kL_e7, kL_e9, kL_e10, oI_lt, oI_le, oI_eq, oL_lt, oL_le, oL_eq, oI_L, oI_clamp, oI_inb, oL_nz]; omega)]
        simp (disch := omega) only [kI_0, kI_1, kI_2, kI_3, kI_4, kI_5, kI_6, kI_7, kI_8, kI_9, kI_10, kI_12, kI_16, kI_17, kI_19, kI_20, kI_23, kI_24, kI_30, kI_32, kI_36, kI_48, kI_57, kI_59, kI_60, kI_72, kI_80, kI_84, kI_97, kI_98, kI_100, kI_122, kI_148, kI_200, kI_300, kI_1058, kI_1108, kI_1348, kI_1588, kI_5290, kI_7940, kI_100000, kI_e7, kI_e9, kL_0, kL_1, kL_5, kL_9, kL_10, kL_12, kL_23, kL_30, kL_48, kL_57, kL_59, kL_97, kL_100, kL_122, kL_1000, kL_e7, kL_e9, kL_e10, oI_lt, oI_le, oI_eq, oL_lt, oL_le, oL_eq, oI_L, oI_clamp, oI_inb, oL_nz, oI_add, oI_sub, oI_mul, oI_neg, oL_add, oL_sub, oL_mul, oL_neg, oL_I, gd_true, ltb_eq, bd_eq, bd2_eq, rq_none, rq_thr, xc_val, xc_thr, r4, ev, nat1]
      have stZ : fX10_neededRate_L97 (oI a) (oL c) (oL made) (oL rest) z1 z2 (fuel + 1) (oI r) Z = if pt s N m d (rest + made * r) pl < c then fX10_neededRate_L97 (oI a) (oL c) (oL made) (oL rest) z1 z2 fuel (oI (r + 1 : Nat)) Z2 else z1 (oI r) Z2 := by
        rw [fX10_neededRate_L97, if_neg (by simp (disch := omega) only [kI_0, kI_1, kI_2, kI_3, kI_4, kI_5, kI_6, kI_7, kI_8, kI_9, kI_10, kI_12, kI_16, kI_17, kI_19, kI_20, kI_23, kI_24, kI_30, kI_32, kI_36, kI_48, kI_57, kI_59, kI_60, kI_72, kI_80, kI_84, kI_97, kI_98, kI_100, kI_122, kI_148, kI_200, kI_300, kI_1058, kI_1108, kI_1348, kI_1588, kI_5290, kI_7940, kI_100000, kI_e7, kI_e9, kL_0, kL_1, kL_5, kL_9, kL_10, kL_12, kL_23, kL_30, kL_48, kL_57, kL_59, kL_97, kL_100, kL_122, kL_1000, kL_e7, kL_e9, kL_e10, oI_lt, oI_le, oI_eq, oL_lt, oL_le, oL_eq, oI_L, oI_clamp, oI_inb, oL_nz]; omega), show Z.1 27 0 0 (5 : Int32).toNatClampNeg = oI (sG s 5) from hZ.g (k := 5) (by omega), show Z.1 27 0 0 (6 : Int32).toNatClampNeg = oI (sG s 6) from hZ.g (k := 6) (by omega), hmo, kI_30, oI_sub, ← hd, oI_L (by omega) (by omega), oL_mul, oL_add, t3, bd_eq, ltb_eq]
        rcases ha with ⟨v, v2⟩ | ⟨v, v2⟩
        · rw [if_pos (by rw [v]; rfl), show Z2.1 27 0 0 (7 : Int32).toNatClampNeg = oI pl from (hZ2.g (k := 7) (by omega)).trans (by rw [g7, v2])]
          simp (disch := omega) only [kI_0, kI_1, kI_2, kI_3, kI_4, kI_5, kI_6, kI_7, kI_8, kI_9, kI_10, kI_12, kI_16, kI_17, kI_19, kI_20, kI_23, kI_24, kI_30, kI_32, kI_36, kI_48, kI_57, kI_59, kI_60, kI_72, kI_80, kI_84, kI_97, kI_98, kI_100, kI_122, kI_148, kI_200, kI_300, kI_1058, kI_1108, kI_1348, kI_1588, kI_5290, kI_7940, kI_100000, kI_e7, kI_e9, kL_0, kL_1, kL_5, kL_9, kL_10, kL_12, kL_23, kL_30, kL_48, kL_57, kL_59, kL_97, kL_100, kL_122, kL_1000, kL_e7, kL_e9, kL_e10, oI_lt, oI_le, oI_eq, oL_lt, oL_le, oL_eq, oI_L, oI_clamp, oI_inb, oL_nz, oI_add, oI_sub, oI_mul, oI_neg, oL_add, oL_sub, oL_mul, oL_neg, oL_I, gd_true, ltb_eq, bd_eq, bd2_eq, rq_none, rq_thr, xc_val, xc_thr, cl_nat, t2 pl hpl, nat1]
        · rw [if_neg (by simp (disch := omega) only [kI_0, kI_1, kI_2, kI_3, kI_4, kI_5, kI_6, kI_7, kI_8, kI_9, kI_10, kI_12, kI_16, kI_17, kI_19, kI_20, kI_23, kI_24, kI_30, kI_32, kI_36, kI_48, kI_57, kI_59, kI_60, kI_72, kI_80, kI_84, kI_97, kI_98, kI_100, kI_122, kI_148, kI_200, kI_300, kI_1058, kI_1108, kI_1348, kI_1588, kI_5290, kI_7940, kI_100000, kI_e7, kI_e9, kL_0, kL_1, kL_5, kL_9, kL_10, kL_12, kL_23, kL_30, kL_48, kL_57, kL_59, kL_97, kL_100, kL_122, kL_1000, kL_e7, kL_e9, kL_e10, oI_lt, oI_le, oI_eq, oL_lt, oL_le, oL_eq, oI_L, oI_clamp, oI_inb, oL_nz, oI_add, oI_sub, oI_mul, oI_neg, oL_add, oL_sub, oL_mul, oL_neg, oL_I]; omega), v]
          simp (disch := omega) only [kI_0, kI_1, kI_2, kI_3, kI_4, kI_5, kI_6, kI_7, kI_8, kI_9, kI_10, kI_12, kI_16, kI_17, kI_19, kI_20, kI_23, kI_24, kI_30, kI_32, kI_36, kI_48, kI_57, kI_59, kI_60, kI_72, kI_80, kI_84, kI_97, kI_98, kI_100, kI_122, kI_148, kI_200, kI_300, kI_1058, kI_1108, kI_1348, kI_1588, kI_5290, kI_7940, kI_100000, kI_e7, kI_e9, kL_0, kL_1, kL_5, kL_9, kL_10, kL_12, kL_23, kL_30, kL_48, kL_57, kL_59, kL_97, kL_100, kL_122, kL_1000, kL_e7, kL_e9, kL_e10, oI_lt, oI_le, oI_eq, oL_lt, oL_le, oL_eq, oI_L, oI_clamp, oI_inb, oL_nz, oI_add, oI_sub, oI_mul, oI_neg, oL_add, oL_sub, oL_mul, oL_neg, oL_I, gd_true, ltb_eq, bd_eq, bd2_eq, rq_none, rq_thr, xc_val, xc_thr, cl_nat, t2 pl hpl, nat1]
      by_cases e5 : pt s N m d (rest + made * r) pl < c
      · obtain ⟨A', Z', u1, u2, u3⟩ := ih (r + 1) A2 Z2 (by omega) (by omega) (hA.trans r1) (hZf.trans t1)
        refine ⟨A', Z', u1, u2, ?_⟩
        rw [stA, stZ, if_pos e5, if_pos e5]
        exact u3
      · refine ⟨A2, Z2, hA.trans r1, hZf.trans t1, Or.inl ⟨r, ?_, ?_⟩⟩
        · rw [stA, if_neg e5]
        · rw [stZ, if_neg e5]
end
theorem ndr_A {A A1 : sM} {s : sS} {N n m p pl : Nat} {a c : Int} (hS : SR A 0 s N) (hW : WF n s N) (hm : sG s 5 = m) (hp : (p : Int) < sG s 4) (hpa : (a = -1 ∧ pl = N) ∨ (a = pl ∧ pl < N)) (eA : fX9_weighProjected A = some A1) : fX9_neededRate (oI a) (oI p) (oL c) A = fX9_neededRate_L81 (oL c) (oI (if a = -1 then 16 else a)) (oL (sE s (4 * m + p))) (oL (worth s m - sE s (4 * m + p) * sRt s p)) (fun x10_9 A_10 => some (.inr x10_9, A_10)) (fun A_11 => some (.inl 3, A_11)) 10000 (oI (0 : Nat)) A1 := by
  obtain ⟨w1, w2, w3, w4, w5, w6, w7, w8⟩ := id hW
  obtain ⟨g0, g1, g2, g3, g4, g5, g6, g7, hN⟩ := id w1
  have hgen := w6.1 (4 * m + p) (by omega)
  have hrt := w2.2 p (by omega)
  have r0 : fX9_requireParticipant (oI a) A = some none := by
    rcases hpa with ⟨v, -⟩ | ⟨v, v2⟩
    · rw [v]; exact rqQ_o A
    · rw [v]; exact rqQ_t hS hN v2
  have r1 : fX9_placeOf (oI a) A = some (oI (if a = -1 then 16 else a)) := by
    rw [fX9_placeOf]
    simp (disch := omega) only [kI_0, kI_1, kI_2, kI_3, kI_4, kI_5, kI_6, kI_7, kI_8, kI_9, kI_10, kI_12, kI_16, kI_17, kI_19, kI_20, kI_23, kI_24, kI_30, kI_32, kI_36, kI_48, kI_57, kI_59, kI_60, kI_72, kI_80, kI_84, kI_97, kI_98, kI_100, kI_122, kI_148, kI_200, kI_300, kI_1058, kI_1108, kI_1348, kI_1588, kI_5290, kI_7940, kI_100000, kI_e7, kI_e9, kL_0, kL_1, kL_5, kL_9, kL_10, kL_12, kL_23, kL_30, kL_48, kL_57, kL_59, kL_97, kL_100, kL_122, kL_1000, kL_e7, kL_e9, kL_e10, oI_add, oI_sub, oI_mul, oI_neg, oL_add, oL_sub, oL_mul, oL_neg, oL_I, oI_lt, oI_le, oI_eq, oL_lt, oL_le, oL_eq, oI_L, oI_clamp, oI_inb, oL_nz]
    split <;> rfl
  rw [fX9_neededRate, r0, rqP_t hS w1 hp, r1, hS.mon, hm, val hS w1 w2 w6 (by omega), eA]
  simp (disch := omega) only [gd_true, ltb_eq, bd_eq, bd2_eq, rq_none, rq_thr, xc_val, xc_thr, kI_0, kI_1, kI_2, kI_3, kI_4, kI_5, kI_6, kI_7, kI_8, kI_9, kI_10, kI_12, kI_16, kI_17, kI_19, kI_20, kI_23, kI_24, kI_30, kI_32, kI_36, kI_48, kI_57, kI_59, kI_60, kI_72, kI_80, kI_84, kI_97, kI_98, kI_100, kI_122, kI_148, kI_200, kI_300, kI_1058, kI_1108, kI_1348, kI_1588, kI_5290, kI_7940, kI_100000, kI_e7, kI_e9, kL_0, kL_1, kL_5, kL_9, kL_10, kL_12, kL_23, kL_30, kL_48, kL_57, kL_59, kL_97, kL_100, kL_122, kL_1000, kL_e7, kL_e9, kL_e10, oI_add, oI_sub, oI_mul, oI_neg, oL_add, oL_sub, oL_mul, oL_neg, oL_I, oI_lt, oI_le, oI_eq, oL_lt, oL_le, oL_eq, oI_L, oI_clamp, oI_inb, oL_nz, fX7_cell, cl_nat]
  rw [show ((m : Int) * 4 + (p : Int)).toNat = 4 * m + p by omega, hS.gn (by omega), hS.rt hp]
  simp (disch := omega) only [oI_add, oI_sub, oI_mul, oI_neg, oL_add, oL_sub, oL_mul, oL_neg, oL_I, oI_lt, oI_le, oI_eq, oL_lt, oL_le, oL_eq, oI_L, oI_clamp, oI_inb, oL_nz]
  rw [show oI 0 = oI (0 : Nat) from rfl]
theorem ndr_Z {Z : sM} {s : sS} {N n m p pl : Nat} {a c : Int} (hZ : ZR (zA Z) (zB Z) s) (hW : WF n s N) (hm : sG s 5 = m) (hp : (p : Int) < sG s 4) (hpa : (a = -1 ∧ pl = N) ∨ (a = pl ∧ pl < N)) : fX10_neededRate (oI a) (oI p) (oL c) Z = fX10_neededRate_L97 (oI a) (oL c) (oL (sE s (4 * m + p))) (oL (worth s m - sE s (4 * m + p) * sRt s p)) (fun x9_12 Z_13 => some (x9_12, Z_13)) (fun Z_14 => ltb (wI Z_14 10 6 0 0 (2 : Int32)) fun Z_15 => some ((0 : Int32), Z_15)) 10000 (oI (0 : Nat)) (wI Z 10 6 0 0 (oI 0)) := by
  obtain ⟨w1, w2, w3, w4, w5, w6, w7, w8⟩ := id hW
  obtain ⟨g0, g1, g2, g3, g4, g5, g6, g7, hN⟩ := id w1
  have hgen := w6.1 (4 * m + p) (by omega)
  have hrt := w2.2 p (by omega)
  rw [fX10_neededRate]
  have r0 : ∀ (x y : Option (Int32 × sM)), (if oI a = (-1 : Int32) then y else Option.bind (fX10_isMember (oI a) Z) fun r_23 => if r_23 = 0 then x else y) = y := by
    intro x y
    rcases hpa with ⟨v, -⟩ | ⟨v, v2⟩
    · rw [v]; exact if_pos rfl
    · rw [if_neg (by simp (disch := omega) only [kI_0, kI_1, kI_2, kI_3, kI_4, kI_5, kI_6, kI_7, kI_8, kI_9, kI_10, kI_12, kI_16, kI_17, kI_19, kI_20, kI_23, kI_24, kI_30, kI_32, kI_36, kI_48, kI_57, kI_59, kI_60, kI_72, kI_80, kI_84, kI_97, kI_98, kI_100, kI_122, kI_148, kI_200, kI_300, kI_1058, kI_1108, kI_1348, kI_1588, kI_5290, kI_7940, kI_100000, kI_e7, kI_e9, kL_0, kL_1, kL_5, kL_9, kL_10, kL_12, kL_23, kL_30, kL_48, kL_57, kL_59, kL_97, kL_100, kL_122, kL_1000, kL_e7, kL_e9, kL_e10, oI_add, oI_sub, oI_mul, oI_neg, oL_add, oL_sub, oL_mul, oL_neg, oL_I, oI_lt, oI_le, oI_eq, oL_lt, oL_le, oL_eq, oI_L, oI_clamp, oI_inb, oL_nz]; omega), v, mem_t hZ w1 v2]
      rfl
  simp only [ltb_eq]
  rw [r0]
  simp (disch := omega) only [gd_true, ltb_eq, bd_eq, bd2_eq, rq_none, rq_thr, xc_val, xc_thr, kI_0, kI_1, kI_2, kI_3, kI_4, kI_5, kI_6, kI_7, kI_8, kI_9, kI_10, kI_12, kI_16, kI_17, kI_19, kI_20, kI_23, kI_24, kI_30, kI_32, kI_36, kI_48, kI_57, kI_59, kI_60, kI_72, kI_80, kI_84, kI_97, kI_98, kI_100, kI_122, kI_148, kI_200, kI_300, kI_1058, kI_1108, kI_1348, kI_1588, kI_5290, kI_7940, kI_100000, kI_e7, kI_e9, kL_0, kL_1, kL_5, kL_9, kL_10, kL_12, kL_23, kL_30, kL_48, kL_57, kL_59, kL_97, kL_100, kL_122, kL_1000, kL_e7, kL_e9, kL_e10, oI_add, oI_sub, oI_mul, oI_neg, oL_add, oL_sub, oL_mul, oL_neg, oL_I, oI_lt, oI_le, oI_eq, oL_lt, oL_le, oL_eq, oI_L, oI_clamp, oI_inb, oL_nz, wI_1, wI_2, wL_1, wL_2, fI_1, fI_2, fL_1, fL_2, eq_self, Nat.reduceEqDiff, Int.reduceLE, Int.reduceLT, Int.reduceEq, Int.reduceToNat, and_true, true_and, and_false, false_and, and_self, if_true, if_false, ite_true, ite_false, reduceCtorEq, Zg hZ]
  rw [isIn_t _ (by omega) (by omega) (by omega)]
  simp (disch := omega) only [gd_true, ltb_eq, bd_eq, bd2_eq, rq_none, rq_thr, xc_val, xc_thr, kI_0, kI_1, kI_2, kI_3, kI_4, kI_5, kI_6, kI_7, kI_8, kI_9, kI_10, kI_12, kI_16, kI_17, kI_19, kI_20, kI_23, kI_24, kI_30, kI_32, kI_36, kI_48, kI_57, kI_59, kI_60, kI_72, kI_80, kI_84, kI_97, kI_98, kI_100, kI_122, kI_148, kI_200, kI_300, kI_1058, kI_1108, kI_1348, kI_1588, kI_5290, kI_7940, kI_100000, kI_e7, kI_e9, kL_0, kL_1, kL_5, kL_9, kL_10, kL_12, kL_23, kL_30, kL_48, kL_57, kL_59, kL_97, kL_100, kL_122, kL_1000, kL_e7, kL_e9, kL_e10, oI_add, oI_sub, oI_mul, oI_neg, oL_add, oL_sub, oL_mul, oL_neg, oL_I, oI_lt, oI_le, oI_eq, oL_lt, oL_le, oL_eq, oI_L, oI_clamp, oI_inb, oL_nz, wI_1, wI_2, wL_1, wL_2, fI_1, fI_2, fL_1, fL_2, eq_self, Nat.reduceEqDiff, Int.reduceLE, Int.reduceLT, Int.reduceEq, Int.reduceToNat, and_true, true_and, and_false, false_and, and_self, if_true, if_false, ite_true, ite_false, reduceCtorEq, hm, fX10_generatedAt, wor (ZRt hZ) w1 w2 w6 (show m < 60 by omega)]
  rw [show Z.1 27 0 0 (1108 + 4 * (m : Int) + (p : Int)).toNat = oI (sE s (4 * m + p)) from by rw [show (1108 + 4 * (m : Int) + (p : Int)).toNat = 1108 + (4 * m + p) by omega]; exact hZ.gn (by omega), show Z.1 27 0 0 (32 + (p : Int)).toNat = oI (sRt s p) from hZ.rt (by omega)]
  simp (disch := omega) only [oI_add, oI_sub, oI_mul, oI_neg, oL_add, oL_sub, oL_mul, oL_neg, oL_I, oI_lt, oI_le, oI_eq, oL_lt, oL_le, oL_eq, oI_L, oI_clamp, oI_inb, oL_nz]
  rw [show oI 0 = oI (0 : Nat) from rfl]
theorem ndr {n : Nat} {A Z : sM} (hI : Inv n A Z) (x y : Int32) (z : Int64) : OKI n (fL_neededRate x y z A) (fX10_neededRate x y z Z) := by
  obtain ⟨⟨s, N, hS, hZ, hW⟩, hR⟩ := id hI
  obtain ⟨w1, w2, w3, w4, w5, w6, w7, w8⟩ := id hW
  obtain ⟨g0, g1, g2, g3, g4, g5, g6, g7, hN⟩ := id w1
  obtain ⟨a, a1, a2, rfl⟩ := I_ex x
  obtain ⟨q, q1, q2, rfl⟩ := I_ex y
  obtain ⟨c, c1, c2, rfl⟩ := L_ex z
  obtain ⟨m, hm⟩ : ∃ m : Nat, sG s 5 = m := ⟨(sG s 5).toNat, by omega⟩
  have hwb := worth_bd w1 w2 w6 (m := m) (by omega)
  by_cases ha : -1 ≤ a ∧ a < N
  · by_cases hq : 0 ≤ q ∧ q < sG s 4
    · obtain ⟨p, hp, rfl⟩ := int_ix2 hq
      obtain ⟨A1, b1, b2, b3, b4⟩ := wsd hS w1 w3 w5 (a := m) (d := 30 - sG s 6) (by omega) (by omega)
      have hgen := w6.1 (4 * m + p) (by omega)
      have hrt := w2.2 p (by omega)
      have hterm : sE s (4 * m + p) * sRt s p ≤ worth s m := sumN_mem (f := fun p => sE s (4 * m + p) * sRt s p) (show p < (sG s 4).toNat by omega) (fun j hj => Int.mul_nonneg (w6.1 (4 * m + j) (by omega)).1 (w2.2 j (by omega)).1)
      have hterm0 : 0 ≤ sE s (4 * m + p) * sRt s p := Int.mul_nonneg hgen.1 hrt.1
      have eA : fX9_weighProjected A = some A1 := by
        rw [fX9_weighProjected, hS.mon, hS.day, hm]
        simp only [kI_0, kI_1, kI_2, kI_3, kI_4, kI_5, kI_6, kI_7, kI_8, kI_9, kI_10, kI_12, kI_16, kI_17, kI_19, kI_20, kI_23, kI_24, kI_30, kI_32, kI_36, kI_48, kI_57, kI_59, kI_60, kI_72, kI_80, kI_84, kI_97, kI_98, kI_100, kI_122, kI_148, kI_200, kI_300, kI_1058, kI_1108, kI_1348, kI_1588, kI_5290, kI_7940, kI_100000, kI_e7, kI_e9, kL_0, kL_1, kL_5, kL_9, kL_10, kL_12, kL_23, kL_30, kL_48, kL_57, kL_59, kL_97, kL_100, kL_122, kL_1000, kL_e7, kL_e9, kL_e10, oI_add, oI_sub, oI_mul, oI_neg, oL_add, oL_sub, oL_mul, oL_neg, oL_I]
        rw [b4]
        rfl
      obtain ⟨pl, hpl, hpa⟩ : ∃ pl : Nat, pl ≤ N ∧ ((a = -1 ∧ pl = N) ∨ (a = pl ∧ pl < N)) := by
        by_cases e : a = -1
        · exact ⟨N, Nat.le_refl N, Or.inl ⟨e, rfl⟩⟩
        · exact ⟨a.toNat, by omega, Or.inr ⟨by omega, by omega⟩⟩
      obtain ⟨A', Z', u1, u2, u3⟩ := nr_loop w1 w3 w5 (A0 := A1) (Z0 := wI Z 10 6 0 0 (oI 0)) (m := m) (pl := pl) (d := 30 - sG s 6) (c := c) (made := sE s (4 * m + p)) (rest := worth s m - sE s (4 * m + p) * sRt s p) (by omega) hm rfl (hs_proj w1 w3 w5 hm) ⟨c1, c2⟩ (by omega) (by omega) b2 b3 (ZRt hZ) hpl hpa
        (fun x10_9 A_10 => some (.inr x10_9, A_10)) (fun A_11 => some (.inl 3, A_11)) (fun x9_12 Z_13 => some (x9_12, Z_13)) (fun Z_14 => ltb (wI Z_14 10 6 0 0 (2 : Int32)) fun Z_15 => some ((0 : Int32), Z_15)) 10000 0 A1 (wI Z 10 6 0 0 (oI 0)) (by omega) (by omega) (Fr.refl _) (Fr.refl _)
      have hAf : Fr wkA A A' := (pW_wk b1).trans (pD_wk u1)
      have hZf : Fr wkZ Z Z' := (frT Z (oI 0)).trans (pZ_wk u2)
      have ht : Z'.1 10 6 0 0 = 0 := by rw [u2.i rfl]; rfl
      have rA := ndr_A (c := c) hS hW hm hp hpa eA
      have rZ := ndr_Z (c := c) hZ hW hm hp hpa
      rcases u3 with ⟨r0, v1, v2⟩ | ⟨v1, v2⟩
      · refine OKI.v (v := oI r0) hI ?_ ?_ ht hAf hZf
        · rw [fL_neededRate, rA, v1]; rfl
        · rw [rZ, v2]
      · refine OKI.t (r := 2) (v := 0) (A' := A') (Z' := wI Z' 10 6 0 0 2) hI ?_ ?_ rfl (by decide) hAf (hZf.wI rfl)
        · rw [fL_neededRate, rA, v1]; rfl
        · rw [rZ, v2]; rfl
    · refine OKI.t (r := 1) (v := 0) (A' := A) (Z' := wI Z 10 6 0 0 (oI 1)) hI ?_ ?_ rfl (by decide) (Fr.refl _) (frT Z _)
      · have r0 : fX9_requireParticipant (oI a) A = some none := by
          by_cases e : a = -1
          · rw [e]; exact rqQ_o A
          · obtain ⟨i, hi, rfl⟩ := int_ix (a := a) (N := N) (by omega)
            exact rqQ_t hS hN hi
        rw [fL_neededRate, fX9_neededRate, r0, rqP_f hS w1 q1 q2 hq]
        rfl
      · rw [fX10_neededRate]
        simp only [ltb_eq]
        simp (disch := omega) only [gd_true, ltb_eq, bd_eq, bd2_eq, rq_none, rq_thr, xc_val, xc_thr, kI_0, kI_1, kI_2, kI_3, kI_4, kI_5, kI_6, kI_7, kI_8, kI_9, kI_10, kI_12, kI_16, kI_17, kI_19, kI_20, kI_23, kI_24, kI_30, kI_32, kI_36, kI_48, kI_57, kI_59, kI_60, kI_72, kI_80, kI_84, kI_97, kI_98, kI_100, kI_122, kI_148, kI_200, kI_300, kI_1058, kI_1108, kI_1348, kI_1588, kI_5290, kI_7940, kI_100000, kI_e7, kI_e9, kL_0, kL_1, kL_5, kL_9, kL_10, kL_12, kL_23, kL_30, kL_48, kL_57, kL_59, kL_97, kL_100, kL_122, kL_1000, kL_e7, kL_e9, kL_e10, oI_add, oI_sub, oI_mul, oI_neg, oL_add, oL_sub, oL_mul, oL_neg, oL_I, oI_lt, oI_le, oI_eq, oL_lt, oL_le, oL_eq, oI_L, oI_clamp, oI_inb, oL_nz, wI_1, wI_2, wL_1, wL_2, fI_1, fI_2, fL_1, fL_2, eq_self, Nat.reduceEqDiff, Int.reduceLE, Int.reduceLT, Int.reduceEq, Int.reduceToNat, and_true, true_and, and_false, false_and, and_self, if_true, if_false, ite_true, ite_false, reduceCtorEq, Zg hZ]
        rw [isIn_f _ (by omega) (by omega) (by omega) (by omega) (by omega) (by omega) (by omega)]
        simp (disch := omega) only [gd_true, ltb_eq, bd_eq, bd2_eq, rq_none, rq_thr, xc_val, xc_thr, kI_0, kI_1, kI_2, kI_3, kI_4, kI_5, kI_6, kI_7, kI_8, kI_9, kI_10, kI_12, kI_16, kI_17, kI_19, kI_20, kI_23, kI_24, kI_30, kI_32, kI_36, kI_48, kI_57, kI_59, kI_60, kI_72, kI_80, kI_84, kI_97, kI_98, kI_100, kI_122, kI_148, kI_200, kI_300, kI_1058, kI_1108, kI_1348, kI_1588, kI_5290, kI_7940, kI_100000, kI_e7, kI_e9, kL_0, kL_1, kL_5, kL_9, kL_10, kL_12, kL_23, kL_30, kL_48, kL_57, kL_59, kL_97, kL_100, kL_122, kL_1000, kL_e7, kL_e9, kL_e10, oI_add, oI_sub, oI_mul, oI_neg, oL_add, oL_sub, oL_mul, oL_neg, oL_I, oI_lt, oI_le, oI_eq, oL_lt, oL_le, oL_eq, oI_L, oI_clamp, oI_inb, oL_nz, wI_1, wI_2, wL_1, wL_2, fI_1, fI_2, fL_1, fL_2, eq_self, Nat.reduceEqDiff, Int.reduceLE, Int.reduceLT, Int.reduceEq, Int.reduceToNat, and_true, true_and, and_false, false_and, and_self, if_true, if_false, ite_true, ite_false, reduceCtorEq]
        by_cases e : a = -1
        · rw [if_pos e]
        · obtain ⟨i, hi, rfl⟩ := int_ix (a := a) (N := N) (by omega)
          rw [if_neg e, mem_t hZ w1 hi]
          rfl
  · refine OKI.t (r := 1) (v := 0) (A' := A) (Z' := wI Z 10 6 0 0 (oI 1)) hI ?_ ?_ rfl (by decide) (Fr.refl _) (frT Z _)
    · rw [fL_neededRate, fX9_neededRate, rqQ_f hS hN a1 a2 ha]
      rfl
    · rw [fX10_neededRate, mem_f hZ w1 a1 a2 (by omega)]
      simp (disch := omega) only [gd_true, ltb_eq, bd_eq, bd2_eq, rq_none, rq_thr, xc_val, xc_thr, kI_0, kI_1, kI_2, kI_3, kI_4, kI_5, kI_6, kI_7, kI_8, kI_9, kI_10, kI_12, kI_16, kI_17, kI_19, kI_20, kI_23, kI_24, kI_30, kI_32, kI_36, kI_48, kI_57, kI_59, kI_60, kI_72, kI_80, kI_84, kI_97, kI_98, kI_100, kI_122, kI_148, kI_200, kI_300, kI_1058, kI_1108, kI_1348, kI_1588, kI_5290, kI_7940, kI_100000, kI_e7, kI_e9, kL_0, kL_1, kL_5, kL_9, kL_10, kL_12, kL_23, kL_30, kL_48, kL_57, kL_59, kL_97, kL_100, kL_122, kL_1000, kL_e7, kL_e9, kL_e10, oI_add, oI_sub, oI_mul, oI_neg, oL_add, oL_sub, oL_mul, oL_neg, oL_I, oI_lt, oI_le, oI_eq, oL_lt, oL_le, oL_eq, oI_L, oI_clamp, oI_inb, oL_nz, wI_1, wI_2, wL_1, wL_2, fI_1, fI_2, fL_1, fL_2, eq_self, Nat.reduceEqDiff, Int.reduceLE, Int.reduceLT, Int.reduceEq, Int.reduceToNat, and_true, true_and, and_false, false_and, and_self, if_true, if_false, ite_true, ite_false, reduceCtorEq]
      rw [if_neg (by omega)]
theorem case26 : CaseOK fL_case26 := by
  intro n L A Z xs x4 hn hI hin
  obtain ⟨_, i1, i2, i3, i4, i5⟩ := hin
  rw [fL_case26]
  simp only [i1, i2, i3, i4, i5, gd_true]
  exact OKI.c (ndr hI _ _ _)
