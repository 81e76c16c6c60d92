theorem fcS_0 {f : Nat → Int} {mo e : Nat} (hf : ∀ j, f j = 0) : ∀ n : Nat, (∀ j, (fcS f 0 0 0 0 mo e n).1 j = 0) ∧ (fcS f 0 0 0 0 mo e n).2 = 0
  | 0 => ⟨hf, rfl⟩
  | n + 1 => by
    obtain ⟨i1, i2⟩ := fcS_0 (mo := mo) (e := e) hf n
    rw [fcS]
    generalize fcS f 0 0 0 0 mo e n = q at *
    have hc : fcC 0 0 n = 0 := by rw [fcC]; split <;> rfl
    have hm : mn q.2 (fcC 0 0 n) = 0 := by rw [i2, hc]; rfl
    have h1 : ∀ j, mT1 q.1 q.2 (fcC 0 0 n) (mo + n) j = 0 := fun j => by
      rw [mT1, up1, hm, hc, i1, i1]
      split <;> rfl
    have h2 : ∀ j, mT2 q.1 q.2 0 (fcC 0 0 n) (mo + n) j = 0 := fun j => by
      have := payd_bd (Int.le_refl 0) (f := mT1 q.1 q.2 (fcC 0 0 n) (mo + n)) (m := j) (fun k _ => by rw [h1]; omega)
      rw [h1] at this
      rw [mT2]; omega
    refine ⟨fun j => ?_, ?_⟩
    · show mT3 q.1 q.2 0 (fcC 0 0 n) (mo + n) e j = 0
      rw [mT3]
      split
      · rw [up1, h2]; split <;> rfl
      · exact h2 j
    · show q.2 - mn q.2 (fcC 0 0 n) = 0
      rw [hm, i2]; rfl
theorem fcA {n : Nat} {A : sM} {s : sS} {N : Nat} (hn : n < 512) (hS : SR A 0 s N) (hW : WF n s N) {d : Nat → Nat} (hA : AS (toS s) (pcS s) N d) {i m e en : Nat} (hi : i < N) (hm : sG s 5 = m) (he : sG s 1 = e) (hen : 1 ≤ en ∧ en ≤ 12) {tot1 tot2 : Nat → Int} (hT1 : TT (fun k => if sB s k 3 = 1 then pt s N m (30 - sG s 6) (worth s m) k else 0) (toS s) (pcS s) tot1 N) (hT2 : TT (fun k => if sB s k 3 = 1 then pt s N (-1) 30 (worth s m) k else 0) (toS s) (pcS s) tot2 N) :
    ∃ A', Fr wkA A A' ∧ fX9_forecastBalance (oI i) (oI en) A = some (.inr (oL (sumN (fcS (fun j => if j < 60 then sT s i j else 0) (sA s i 0) (sA s i 1) (kp (fun k => if sB s k 3 = 1 then pt s N m (30 - sG s 6) (worth s m) k else 0) (toS s) (pcS s) tot1 N i) (kp (fun k => if sB s k 3 = 1 then pt s N (-1) 30 (worth s m) k else 0) (toS s) (pcS s) tot2 N i) m e en).1 72)), A') := by
  obtain ⟨w1, w2, w3, w4, w5, w6, w7, w8⟩ := id hW
  obtain ⟨g0, g1, g2, g3, g4, g5, g6, g7, hN⟩ := id w1
  have hwb := worth_bd w1 w2 w6 (m := m) (by omega)
  have hD1 := DVm (V := worth s m) w1 w3 w5 (a := m) (d := 30 - sG s 6) (by omega) (by omega) (hs_proj w1 w3 w5 hm) (by omega)
  have hD2 := DVm (V := worth s m) w1 w3 w5 (a := -1) (d := 30) (by omega) (by omega) (hs_whole w3) (by omega)
  have hk1 := kp_bd hA hT1 (cs_le hD1 (by omega)).2.2.1 hi
  have hk2 := kp_bd hA hT2 (cs_le hD2 (by omega)).2.2.1 hi
  have hc1 := (cs_le (s := s) hD1 (by omega)).2.2.2
  have hc2 := (cs_le (s := s) hD2 (by omega)).2.2.2
  generalize hk1e : kp (fun k => if sB s k 3 = 1 then pt s N m (30 - sG s 6) (worth s m) k else 0) (toS s) (pcS s) tot1 N i = k1 at *
  generalize hk2e : kp (fun k => if sB s k 3 = 1 then pt s N (-1) 30 (worth s m) k else 0) (toS s) (pcS s) tot2 N i = k2 at *
  have hb := bal_bd w7 w8 w2 w6 (by omega) (show i < 16 by omega)
  have hdb := (debt_bd w7 w8 w2 w6 (by omega) (show i < 16 by omega)).1
  have hB := w7.1 i (by omega)
  have hf : ∀ j, 0 ≤ (fun j => if j < 60 then sT s i j else 0) j ∧ (fun j => if j < 60 then sT s i j else 0) j ≤ 76000000000000 := fun j => by
    dsimp only
    split
    · have := hb.2 j (by assumption); omega
    · omega
  obtain ⟨A2, q1, q2, q3, q4⟩ := cpT hS hN hi
  have hS2 := hS.wk (pC_wk q1) hN (by omega)
  obtain ⟨B1, B2, B3, b1, b2, b3, b4, b5, b6, b7, b8, b9⟩ := prjA hS2 w1 w3 w5 hA (a := m) (d9 := 30 - sG s 6) (by omega) (by omega) hD1 (by omega) hT1
  have hSB1 := hS2.wk (pW_wk b1) hN (by omega)
  have hF3 : Fr wkA A2 B3 := (pW_wk b1).trans ((pD_wk b3).trans (pK_wk b7))
  have hSB3 := hS2.wk hF3 hN (by omega)
  have c25 : ∀ j, j < 72 → B3.2 25 0 112 j = oL (if j < 60 then sT s i j else 0) := fun j hj => by rw [b7.l rfl, b3.l rfl, b1.l rfl]; exact q2 j hj
  have c26 : ∀ w, w < 6 → B3.2 26 0 112 w = oL (sA s i w) := fun w hw => by rw [b7.l rfl, b3.l rfl, b1.l rfl]; exact q3 w hw
  obtain ⟨A10, u1, u2, u3, u4⟩ := finM (A := B3) (o := 112) (m := m) (e := e) (f := fun j => if j < 60 then sT s i j else 0) (g := sA s i) (c := k1) (by omega) (by omega) (by omega) (fun j hj => ⟨(hf j).1, Int.lt_of_le_of_lt (hf j).2 (by omega)⟩) (by omega) c25 c26
  have hF10 : Fr wkA A2 A10 := hF3.trans (pS_wk u1)
  have hS10 := hS2.wk hF10 hN (by omega)
  obtain ⟨C1, C2, C3, d1, d2, d3, d4, d5, d6, d7, d8, d9⟩ := prjA hS10 w1 w3 w5 hA (a := -1) (d9 := 30) (by omega) (by omega) hD2 (by omega) hT2
  have hF14 : Fr wkA A2 C3 := hF10.trans ((pW_wk d1).trans ((pD_wk d3).trans (pK_wk d7)))
  have hS14 := hS2.wk hF14 hN (by omega)
  have hfc1 : fcS (fun j => if j < 60 then sT s i j else 0) (sA s i 0) (sA s i 1) k1 k2 m e 1 = (mT3 (fun j => if j < 60 then sT s i j else 0) (sA s i 0) (sA s i 1) k1 m e, sA s i 0 - mn (sA s i 0) k1) := by
    rw [fcS, fcS, fcC, if_pos rfl]
    rfl
  have u3' : ∀ w, w < 6 → C3.2 26 0 112 w = oL (mA (sA s i) (sA s i 0) k1 (mL (fun j => if j < 60 then sT s i j else 0) (sA s i 0) (sA s i 1) k1 m 72) (mX (fun j => if j < 60 then sT s i j else 0) (sA s i 0) (sA s i 1) k1 m e) w) := fun w hw => by rw [d7.l rfl, d3.l rfl, d1.l rfl]; exact u3 w hw
  obtain ⟨A', v1, v2, v3⟩ := fcA_L hS14 hN (i := i) (e := e) (mo := m) (en := en) hi he hm hen.2 (f := fun j => if j < 60 then sT s i j else 0) (D := sA s i 0) (B := sA s i 1) (k1 := k1) (k2 := k2) hf hdb ⟨hB.2.1, hB.2.2.1⟩ (by omega) (by omega) (by omega) (by omega) (by rw [d9 i hi, hk2e]) (fun A_15 => Option.bind (fX8_lotSum 112 A_15) fun r_16 => some (.inr r_16, A_15)) 10000 1 C3 (by omega) (by omega) (by omega) (Fr.refl _) (fun j hj => by
      rw [d7.l rfl, d3.l rfl, d1.l rfl, hfc1]; exact u2 j hj) ⟨_, by rw [mA, if_pos rfl, hfc1], u3'⟩
  refine ⟨A', (pC_wk q1).trans (hF14.trans (pS_wk v1)), ?_⟩
  rw [fX9_forecastBalance, rqS_t hS hN hi, rq_none, if_neg (by simp (disch := omega) only [kI_0, kI_1, kI_2, kI_3, kI_4, kI_5, kI_6, kI_7, kI_8, kI_9, kI_10, kI_12, kI_16, kI_17, kI_19, kI_20, kI_23, kI_24, kI_30, kI_32, kI_36, kI_48, kI_57, kI_59, kI_60, kI_72, kI_80, kI_84, kI_97, kI_98, kI_100, kI_122, kI_148, kI_200, kI_300, kI_1058, kI_1108, kI_1348, kI_1588, kI_5290, kI_7940, kI_100000, kI_e7, kI_e9, kL_0, kL_1, kL_5, kL_9, kL_10, kL_12, kL_23, kL_30, kL_48, kL_57, kL_59, kL_97, kL_100, kL_122, kL_1000, kL_e7, kL_e9, kL_e10, oI_lt, oI_le, oI_eq, oL_lt, oL_le, oL_eq, oI_L, oI_clamp, oI_inb, oL_nz]; omega), if_pos (by simp (disch := omega) only [kI_0, kI_1, kI_2, kI_3, kI_4, kI_5, kI_6, kI_7, kI_8, kI_9, kI_10, kI_12, kI_16, kI_17, kI_19, kI_20, kI_23, kI_24, kI_30, kI_32, kI_36, kI_48, kI_57, kI_59, kI_60, kI_72, kI_80, kI_84, kI_97, kI_98, kI_100, kI_122, kI_148, kI_200, kI_300, kI_1058, kI_1108, kI_1348, kI_1588, kI_5290, kI_7940, kI_100000, kI_e7, kI_e9, kL_0, kL_1, kL_5, kL_9, kL_10, kL_12, kL_23, kL_30, kL_48, kL_57, kL_59, kL_97, kL_100, kL_122, kL_1000, kL_e7, kL_e9, kL_e10, oI_lt, oI_le, oI_eq, oL_lt, oL_le, oL_eq, oI_L, oI_clamp, oI_inb, oL_nz]; omega), oI_inb (by omega) (by omega) (by omega), gd_true, oI_clamp (by omega) (by omega), cl_nat, q4, bd_eq, hS2.mon, hm, val hS2 w1 w2 w6 (by omega), bd_eq, show A2.2 26 0 112 (Int32.toNatClampNeg 1) = oL (sA s i 1) from q3 1 (by omega), ltb_eq, fX9_weighProjected, hS2.mon, hS2.day, hm, kI_30, oI_sub, b2, bd_eq, bd_eq, b4, bd_eq, b8, bd_eq, gd_true, b9 i hi, hk1e, hSB3.mon, hm, hSB3.g (by omega), he, u4, bd2_eq, kI_1, oI_neg, d2, bd_eq, d4, bd_eq, d8, bd_eq, show oI 1 = oI (1 : Nat) from rfl, v3, lotSum v2]
  rfl
theorem fcb {n : Nat} {A Z : sM} (hn : n < 512) (hI : Inv n A Z) (x y : Int32) : OKL n (fL_forecastBalance x y A) (fX10_forecastBalance x y Z) := by
  obtain ⟨⟨s, N, hS, hZ, hW⟩, hR⟩ := id hI
  obtain ⟨w1, w2, w3, w4, w5, w6, w7, w8⟩ := id hW
  obtain ⟨g0, g1, g2, g3, g4, g5, g6, g7, hN⟩ := id w1
  obtain ⟨a, a1, a2, rfl⟩ := I_ex x
  obtain ⟨c, c1, c2, rfl⟩ := I_ex y
  obtain ⟨m, hm⟩ : ∃ m : Nat, sG s 5 = m := ⟨(sG s 5).toNat, by omega⟩
  obtain ⟨e, he⟩ : ∃ e : Nat, sG s 1 = e := ⟨(sG s 1).toNat, by omega⟩
  obtain ⟨d, hA⟩ := AS_of w4
  by_cases ha : 0 ≤ a ∧ a < N
  · obtain ⟨i, hi, rfl⟩ := int_ix ha
    by_cases hc : 1 ≤ c ∧ c ≤ 12
    · obtain ⟨en, hen, rfl⟩ : ∃ en : Nat, (1 ≤ en ∧ en ≤ 12) ∧ c = en := ⟨c.toNat, by omega, by omega⟩
      obtain ⟨tot1, hT1⟩ := TT_ex (c := fun k => if sB s k 3 = 1 then pt s N m (30 - sG s 6) (worth s m) k else 0) hA
      obtain ⟨tot2, hT2⟩ := TT_ex (c := fun k => if sB s k 3 = 1 then pt s N (-1) 30 (worth s m) k else 0) hA
      obtain ⟨A', q1, q2⟩ := fcA hn hS hW hA hi hm he hen hT1 hT2
      by_cases hac : sB s i 3 = 1
      · have hwb := worth_bd w1 w2 w6 (m := m) (by omega)
        have hD1 := DVm (V := worth s m) w1 w3 w5 (a := m) (d := 30 - sG s 6) (by omega) (by omega) (hs_proj w1 w3 w5 hm) (by omega)
        have hD2 := DVm (V := worth s m) w1 w3 w5 (a := -1) (d := 30) (by omega) (by omega) (hs_whole w3) (by omega)
        have hk1 := kp_bd hA hT1 (cs_le hD1 (by omega)).2.2.1 hi
        have hk2 := kp_bd hA hT2 (cs_le hD2 (by omega)).2.2.1 hi
        have hc1 := (cs_le (s := s) hD1 (by omega)).2.2.2
        have hc2 := (cs_le (s := s) hD2 (by omega)).2.2.2
        have hp : ∀ Z, ZR (zA Z) (zB Z) s → ∃ Z', Fr pY Z Z' ∧ Z'.2 37 0 0 i = oL (kp (fun k => if sB s k 3 = 1 then pt s N m (30 - sG s 6) (worth s m) k else 0) (toS s) (pcS s) tot1 N i) ∧ fX10_projects Z = some Z' := fun Z h => by
          obtain ⟨Z', t1, t2, t3⟩ := prj h w1 w2 w3 w5 w6 hA hm hT1
          exact ⟨Z', t1, t2 i hi, t3⟩
        have hw : ∀ Z, ZR (zA Z) (zB Z) s → ∃ Z', Fr pY Z Z' ∧ Z'.2 37 0 0 i = oL (kp (fun k => if sB s k 3 = 1 then pt s N (-1) 30 (worth s m) k else 0) (toS s) (pcS s) tot2 N i) ∧ fX10_projectsWhole Z = some Z' := fun Z h => by
          obtain ⟨Z', t1, t2, t3⟩ := prw h w1 w2 w3 w5 w6 hA hm hT2
          exact ⟨Z', t1, t2 i hi, t3⟩
        generalize kp (fun k => if sB s k 3 = 1 then pt s N m (30 - sG s 6) (worth s m) k else 0) (toS s) (pcS s) tot1 N i = k1 at *
        generalize kp (fun k => if sB s k 3 = 1 then pt s N (-1) 30 (worth s m) k else 0) (toS s) (pcS s) tot2 N i = k2 at *
        have hb := bal_bd w7 w8 w2 w6 (by omega) (show i < 16 by omega)
        have hdb := (debt_bd w7 w8 w2 w6 (by omega) (show i < 16 by omega)).1
        have hB := w7.1 i (by omega)
        have hf : ∀ j, 0 ≤ (fun j => if j < 60 then sT s i j else 0) j ∧ (fun j => if j < 60 then sT s i j else 0) j ≤ 76000000000000 := fun j => by
          dsimp only
          split
          · have := hb.2 j (by assumption); omega
          · omega
        obtain ⟨Z1, r1, r2, r3⟩ := lay2_L (ZRt (v := oI 0) hZ) (show i < 16 by omega) (oI en) (fun Z_6 =>
          Option.bind (fX10_accountAt (oI i) (0 : Int32) Z_6) fun r_7 =>
          gd (inb r_7 1058) (
            ltb (Z_6.2 30 0 0 r_7.toNatClampNeg) fun x3_9 =>
            fX10_forecastBalance_L108 (oI i) (oI en) (fun (Z_10 : sM) =>
              fX10_forecastBalance_L240 Z_10 (fun (x5_11 : Int64) =>
                some (x5_11, Z_10)) 10000 (0 : Int64) (0 : Int32)) 10000 x3_9 (0 : Int32) Z_6)) 10000 0 (wI Z 10 6 0 0 (oI 0)) (by omega) (by omega) (Fr.refl _) (fun j hj => by omega)
        have hZ1 : ZR (zA Z1) (zB Z1) s := (ZRt (v := oI 0) hZ).keep (fun k => r1.i rfl) (fun k => r1.l rfl)
        obtain ⟨Z2, v1, v2, v3⟩ := fcZ_L hZ1 w1 w7 (i := i) (e := e) (mo := m) (en := en) hi he hm hen.2 (f := fun j => if j < 60 then sT s i j else 0) (D := sA s i 0) (k1 := k1) (k2 := k2) hf hdb (by omega) (by omega) hp hw (fun (Z_10 : sM) =>
              fX10_forecastBalance_L240 Z_10 (fun (x5_11 : Int64) =>
                some (x5_11, Z_10)) 10000 (0 : Int64) (0 : Int32)) 10000 0 Z1 (by omega) (by omega) (Fr.refl _) (fun j hj => r2 j hj)
        have hz := fcS_z (mo := m) (e := e) (k1 := k1) (k2 := k2) hf (fun j hj => if_neg (by omega)) hdb hB.2.1 (by omega) (by omega) (by omega) en hen.2
        have hsum : sumN (fcS (fun j => if j < 60 then sT s i j else 0) (sA s i 0) (sA s i 1) k1 k2 m e en).1 84 = sumN (fcS (fun j => if j < 60 then sT s i j else 0) (sA s i 0) (sA s i 1) k1 k2 m e en).1 72 := by
          rw [← sumN_cut _ 72 12]
          exact sumN_congr fun j _ => by
            split
            · rfl
            · exact hz j (by omega)
        refine OKL.v (A' := A') (Z' := Z2) hI (by rw [fL_forecastBalance, q2]; rfl) ?_ (by rw [v1.i rfl, r1.i rfl]; rfl) q1 ((frT Z (oI 0)).trans ((p39_wk r1).trans (pQ_wk v1)))
        have ea : Z1.2 30 0 0 (2 + 6 * (i : Int) + 0).toNat = oL (sA s i 0) := hZ1.ac (w := 0) (by omega) (by omega)
        have e9 : fX10_forecastBalance (oI i) (oI en) Z = fX10_forecastBalance_L54 (oI i) (oI en) (fun Z_6 =>
          Option.bind (fX10_accountAt (oI i) (0 : Int32) Z_6) fun r_7 =>
          gd (inb r_7 1058) (
            ltb (Z_6.2 30 0 0 r_7.toNatClampNeg) fun x3_9 =>
            fX10_forecastBalance_L108 (oI i) (oI en) (fun (Z_10 : sM) =>
              fX10_forecastBalance_L240 Z_10 (fun (x5_11 : Int64) =>
                some (x5_11, Z_10)) 10000 (0 : Int64) (0 : Int32)) 10000 x3_9 (0 : Int32) Z_6)) 10000 (oI (0 : Nat)) (wI Z 10 6 0 0 (oI 0)) := by
          rw [fX10_forecastBalance, mem_t hZ w1 hi, bd_eq, ltb_eq, if_neg (show ¬ oI 1 = (0 : Int32) by decide), oI_L (by omega) (by omega), kL_1, kL_12, isIn_t _ (by omega) (by omega) (by omega), bd_eq]
          rw [if_neg (show ¬ oI 1 = (0 : Int32) by decide)]
          dsimp only
          rw [ltb_eq, if_pos (show (wI Z 10 6 0 0 (0 : Int32)).1 10 6 0 0 ≤ 0 from by rw [thr_g]; decide), actZ (ZRt hZ) w3 hi hN, bd_eq, if_pos hac, if_neg (show ¬ oI 1 = (0 : Int32) by decide)]
          rfl
        rw [e9, r3, fX10_accountAt, bd_eq]
        simp (disch := omega) only [oI_add, oI_sub, oI_mul, oI_neg, oL_add, oL_sub, oL_mul, oL_neg, oL_I, oI_lt, oI_le, oI_eq, oL_lt, oL_le, oL_eq, oI_L, oI_clamp, oI_inb, oL_nz, kI_2, kI_6, kI_0, gd_true, ltb_eq, ea]
        rw [show oI 0 = oI (0 : Nat) from rfl]
        refine v3.trans ?_
        rw [kL_0, show (0 : Int32) = oI (0 : Nat) from rfl, fsum_L v2 _ 10000 0 0 (by omega) (by omega), hsum]
        exact congrArg (fun x => some (oL x, Z2)) (by rw [sumN]; omega)
      · have hz0 := w7.2.2.1 i hi hac
        rw [kp_na w4 hi hac, kp_na w4 hi hac, hz0.1, hz0.2.1, sumN_zero (fun j _ => (fcS_0 (f := fun j => if j < 60 then sT s i j else 0) (fun j => by
          split
          · exact hz0.2.2.1 j (by assumption)
          · rfl) en).1 j)] at q2
        refine OKL.v (v := oL 0) (A' := A') (Z' := wI Z 10 6 0 0 (oI 0)) hI (by rw [fL_forecastBalance, q2]; rfl) ?_ rfl q1 (frT Z _)
        rw [fX10_forecastBalance, mem_t hZ w1 hi]
        simp (disch := omega) only [gd_true, ltb_eq, bd_eq, bd2_eq, rq_none, rq_thr, xc_val, xc_thr, oI_lt, oI_le, oI_eq, oL_lt, oL_le, oL_eq, oI_L, oI_clamp, oI_inb, oL_nz, kI_0, kI_1, kI_2, kI_3, kI_4, kI_5, kI_6, kI_7, kI_8, kI_9, kI_10, kI_12, kI_16, kI_17, kI_19, kI_20, kI_23, kI_24, kI_30, kI_32, kI_36, kI_48, kI_57, kI_59, kI_60, kI_72, kI_80, kI_84, kI_97, kI_98, kI_100, kI_122, kI_148, kI_200, kI_300, kI_1058, kI_1108, kI_1348, kI_1588, kI_5290, kI_7940, kI_100000, kI_e7, kI_e9, kL_0, kL_1, kL_5, kL_9, kL_10, kL_12, kL_23, kL_30, kL_48, kL_57, kL_59, kL_97, kL_100, kL_122, kL_1000, kL_e7, kL_e9, kL_e10]
        rw [isIn_t _ (by omega) (by omega) (by omega)]
        simp (disch := omega) only [gd_true, ltb_eq, bd_eq, bd2_eq, rq_none, rq_thr, xc_val, xc_thr, oI_lt, oI_le, oI_eq, oL_lt, oL_le, oL_eq, oI_L, oI_clamp, oI_inb, oL_nz, kI_0, kI_1, kI_2, kI_3, kI_4, kI_5, kI_6, kI_7, kI_8, kI_9, kI_10, kI_12, kI_16, kI_17, kI_19, kI_20, kI_23, kI_24, kI_30, kI_32, kI_36, kI_48, kI_57, kI_59, kI_60, kI_72, kI_80, kI_84, kI_97, kI_98, kI_100, kI_122, kI_148, kI_200, kI_300, kI_1058, kI_1108, kI_1348, kI_1588, kI_5290, kI_7940, kI_100000, kI_e7, kI_e9, kL_0, kL_1, kL_5, kL_9, kL_10, kL_12, kL_23, kL_30, kL_48, kL_57, kL_59, kL_97, kL_100, kL_122, kL_1000, kL_e7, kL_e9, kL_e10, oI_add, oI_sub, oI_mul, oI_neg, oL_add, oL_sub, oL_mul, oL_neg, oL_I, wI_1, wI_2, wL_1, wL_2, fI_1, fI_2, fL_1, fL_2, eq_self, Nat.reduceEqDiff, Int.reduceLE, Int.reduceLT, Int.reduceEq, Int.reduceToNat, and_true, true_and, and_false, false_and, and_self, if_true, if_false, ite_true, ite_false, reduceCtorEq, actZ (ZRt hZ) w3 hi hN, if_neg hac]
    · refine OKL.t (r := 2) (v := 0) hI ?_ ?_ (thr_g Z _) (by decide) (Fr.refl _) (frT Z _)
      · rw [fL_forecastBalance, fX9_forecastBalance, rqS_t hS hN hi, rq_none]
        simp (disch := omega) only [oI_lt, oI_le, oI_eq, oL_lt, oL_le, oL_eq, oI_L, oI_clamp, oI_inb, oL_nz, kI_0, kI_1, kI_2, kI_3, kI_4, kI_5, kI_6, kI_7, kI_8, kI_9, kI_10, kI_12, kI_16, kI_17, kI_19, kI_20, kI_23, kI_24, kI_30, kI_32, kI_36, kI_48, kI_57, kI_59, kI_60, kI_72, kI_80, kI_84, kI_97, kI_98, kI_100, kI_122, kI_148, kI_200, kI_300, kI_1058, kI_1108, kI_1348, kI_1588, kI_5290, kI_7940, kI_100000, kI_e7, kI_e9, kL_0, kL_1, kL_5, kL_9, kL_10, kL_12, kL_23, kL_30, kL_48, kL_57, kL_59, kL_97, kL_100, kL_122, kL_1000, kL_e7, kL_e9, kL_e10]
        by_cases e1 : c < 1
        · rw [if_pos e1]; rfl
        · rw [if_neg e1, if_neg (by omega)]; rfl
      · rw [fX10_forecastBalance, mem_t hZ w1 hi]
        simp (disch := omega) only [gd_true, ltb_eq, bd_eq, bd2_eq, rq_none, rq_thr, xc_val, xc_thr, oI_lt, oI_le, oI_eq, oL_lt, oL_le, oL_eq, oI_L, oI_clamp, oI_inb, oL_nz, kI_0, kI_1, kI_2, kI_3, kI_4, kI_5, kI_6, kI_7, kI_8, kI_9, kI_10, kI_12, kI_16, kI_17, kI_19, kI_20, kI_23, kI_24, kI_30, kI_32, kI_36, kI_48, kI_57, kI_59, kI_60, kI_72, kI_80, kI_84, kI_97, kI_98, kI_100, kI_122, kI_148, kI_200, kI_300, kI_1058, kI_1108, kI_1348, kI_1588, kI_5290, kI_7940, kI_100000, kI_e7, kI_e9, kL_0, kL_1, kL_5, kL_9, kL_10, kL_12, kL_23, kL_30, kL_48, kL_57, kL_59, kL_97, kL_100, kL_122, kL_1000, kL_e7, kL_e9, kL_e10]
        rw [isIn_f _ (by omega) (by omega) (by omega) (by omega) (by omega) (by omega) (by omega)]
        simp (disch := omega) only [gd_true, ltb_eq, bd_eq, bd2_eq, rq_none, rq_thr, xc_val, xc_thr, oI_lt, oI_le, oI_eq, oL_lt, oL_le, oL_eq, oI_L, oI_clamp, oI_inb, oL_nz, kI_0, kI_1, kI_2, kI_3, kI_4, kI_5, kI_6, kI_7, kI_8, kI_9, kI_10, kI_12, kI_16, kI_17, kI_19, kI_20, kI_23, kI_24, kI_30, kI_32, kI_36, kI_48, kI_57, kI_59, kI_60, kI_72, kI_80, kI_84, kI_97, kI_98, kI_100, kI_122, kI_148, kI_200, kI_300, kI_1058, kI_1108, kI_1348, kI_1588, kI_5290, kI_7940, kI_100000, kI_e7, kI_e9, kL_0, kL_1, kL_5, kL_9, kL_10, kL_12, kL_23, kL_30, kL_48, kL_57, kL_59, kL_97, kL_100, kL_122, kL_1000, kL_e7, kL_e9, kL_e10, oI_add, oI_sub, oI_mul, oI_neg, oL_add, oL_sub, oL_mul, oL_neg, oL_I, wI_1, wI_2, wL_1, wL_2, fI_1, fI_2, fL_1, fL_2, eq_self, Nat.reduceEqDiff, Int.reduceLE, Int.reduceLT, Int.reduceEq, Int.reduceToNat, and_true, true_and, and_false, false_and, and_self, if_true, if_false, ite_true, ite_false, reduceCtorEq]
  · refine OKL.t (r := 1) (v := 0) hI ?_ ?_ (thr_g Z _) (by decide) (Fr.refl _) (frT Z _)
    · rw [fL_forecastBalance, fX9_forecastBalance, rqS_f hS hN a1 a2 ha]
      rfl
    · rw [fX10_forecastBalance, mem_f hZ w1 a1 a2 ha]
      simp (disch := omega) only [gd_true, ltb_eq, bd_eq, bd2_eq, rq_none, rq_thr, xc_val, xc_thr, oI_lt, oI_le, oI_eq, oL_lt, oL_le, oL_eq, oI_L, oI_clamp, oI_inb, oL_nz, kI_0, kI_1, kI_2, kI_3, kI_4, kI_5, kI_6, kI_7, kI_8, kI_9, kI_10, kI_12, kI_16, kI_17, kI_19, kI_20, kI_23, kI_24, kI_30, kI_32, kI_36, kI_48, kI_57, kI_59, kI_60, kI_72, kI_80, kI_84, kI_97, kI_98, kI_100, kI_122, kI_148, kI_200, kI_300, kI_1058, kI_1108, kI_1348, kI_1588, kI_5290, kI_7940, kI_100000, kI_e7, kI_e9, kL_0, kL_1, kL_5, kL_9, kL_10, kL_12, kL_23, kL_30, kL_48, kL_57, kL_59, kL_97, kL_100, kL_122, kL_1000, kL_e7, kL_e9, kL_e10, oI_add, oI_sub, oI_mul, oI_neg, oL_add, oL_sub, oL_mul, oL_neg, oL_I, wI_1, wI_2, wL_1, wL_2, fI_1, fI_2, fL_1, fL_2, eq_self, Nat.reduceEqDiff, Int.reduceLE, Int.reduceLT, Int.reduceEq, Int.reduceToNat, and_true, true_and, and_false, false_and, and_self, if_true, if_false, ite_true, ite_false, reduceCtorEq]
theorem case25 : CaseOK fL_case25 := by
  intro n L A Z xs x4 hn hI hin
  obtain ⟨_, i1, i2, i3, i4, i5⟩ := hin
  rw [fL_case25]
  simp only [i1, i2, i3, i4, i5, gd_true]
  exact OKL.c (fcb hn hI _ _)
