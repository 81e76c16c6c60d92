def qA (c k o : Nat) : Bool := dA c k o || wkA c k o
def qZ (c k o : Nat) : Bool := dZ c k o || wkZ c k o
theorem dA_q {A A' : sM} (h : Fr dA A A') : Fr qA A A' := h.mono fun c k o hq => by
  simp only [qA, Bool.or_eq_false_iff] at hq; exact hq.1
theorem dZ_q {A A' : sM} (h : Fr dZ A A') : Fr qZ A A' := h.mono fun c k o hq => by
  simp only [qZ, Bool.or_eq_false_iff] at hq; exact hq.1
theorem Inv.ds {n N dl : Nat} {A A' Z Z' : sM} {s : sS} {v : Int64} (hW : WF n s N) (hR : Rest n A Z) (hd : DS s N A' Z' dl) (hl : dl ≤ 80) (hA : Fr qA A A') (hZ : Fr qZ Z Z') : Inv (n + 1) (wL A' 41 0 0 0 v) Z' := by
  obtain ⟨⟨K, p, t, Nt, ⟨h1, h2, h3, h4, h5⟩, h6⟩, ⟨len, t1, t2, t3, t4, t5⟩, _⟩ := hR
  have hN : N ≤ 16 := hW.1.2.2.2.2.2.2.2.2
  have hA2 : Fr qA A (wL A' 41 0 0 0 v) := hA.wL rfl
  refine ⟨⟨s, N, hd.1.wk ((Fr.refl _).wL rfl) hN (by omega), hd.2.1, hW.mono (by omega)⟩, ⟨K, p, t, Nt, ⟨h1, h2, ?_, ?_, ?_⟩, fun j hj => ?_⟩, ⟨len, t1, ?_, ?_, ?_, fun k hk => ?_⟩, dl, hl, hd.2.2.1, hd.2.2.2.1, hd.2.2.2.2⟩
  · rw [hA2.i rfl]; exact h3
  · rw [hA2.i rfl]; exact h4
  · rw [hZ.i rfl]; exact h5
  · obtain ⟨a, b, c, d⟩ := h6 j hj
    have hs : slot p K j < 6 := Nat.mod_lt _ (by omega)
    refine ⟨by rw [hA2.i rfl]; exact a, b.keep hA2 d.1.2.2.2.2.2.2.2.2 (fun c k hc => ?_) (fun c k i hc hi => ?_), c.keep (fun k => hZ.i rfl) (fun k => hZ.l rfl), d.mono (by omega)⟩
    · rcases hc with rfl | rfl | rfl | rfl | rfl | rfl <;> rfl
    · rcases hc with rfl | rfl | rfl | rfl <;> simp [qA, dA, wkA] <;> omega
  · rw [hA2.i rfl]; exact t2
  · rw [hZ.i rfl]; exact t3
  · rw [hA2.i rfl, hZ.i rfl]; exact t4
  · rw [hA2.i rfl, hZ.i rfl]; exact t5 k hk
theorem w41_l : w41.length = 8 := by decide
theorem w43_l : w43.length = 7 := by decide
theorem w47_l : w47.length = 5 := by decide
theorem ahead_bd (s : sS) (k j : Nat) : 0 ≤ ahead s k j ∧ ahead s k j ≤ 1 := by
  rw [ahead]
  by_cases q1 : j = k
  · rw [if_pos q1]; omega
  · rw [if_neg q1]
    by_cases q2 : ¬ sB s j 3 = 0
    · rw [if_pos q2]; omega
    · rw [if_neg q2]
      split <;> omega
theorem dsc {n : Nat} {A Z : sM} (hn : n < 512) (hI : Inv n A Z) (x : Int32) : OKI n (fL_describe x A) (fX10_describe x Z) := by
  obtain ⟨⟨s, N, hS, hZ, hW⟩, hR⟩ := id hI
  obtain ⟨w1, w2, w3, w4, w5, w6, w7, w8⟩ := id hW
  obtain ⟨g0, g1, g2, g3, g4, g5, g6, g7, hN⟩ := id w1
  obtain ⟨a, a1, a2, rfl⟩ := I_ex x
  by_cases ha : 0 ≤ a ∧ a < N
  · obtain ⟨i, hi, rfl⟩ := int_ix ha
    have hst := (w3.1 i hi).2.2.2
    have t10 : (10 : Int) ^ (1 + 1) = 100 := by decide
    have t11 : (10 : Int) ^ (5 + 1) = 1000000 := by decide
    have t12 : (10 : Int) ^ (10 + 1) = 100000000000 := by decide
    have t13 : (10 : Int) ^ (18 + 1) = 10000000000000000000 := by decide
    have t14 : (10 : Int) ^ (2 + 1) = 1000 := by decide
    have d0 : DS s N (wI A 2 1 0 0 (0 : Int32)) (wI (wI Z 10 6 0 0 (oI 0)) 10 25 0 0 (0 : Int32)) 0 := by
      refine ⟨hS.keep (P := dA) ((Fr.refl _).wI rfl) hN (fun c k hc => ?_) (fun c k j hc _ => ?_), hZ, rfl, rfl, fun k hk => by omega⟩
      · rcases hc with rfl | rfl | rfl | rfl | rfl | rfl <;> rfl
      · rcases hc with rfl | rfl | rfl | rfl <;> rfl
    obtain ⟨xs1, l1, n1, m1⟩ := nums (v := (i : Int)) (m := 1) (by omega) (by omega) (by omega) (by omega)
    obtain ⟨A1, Z1, p1, q1, f1, g1', d1⟩ := stp hN xs1 d0 (by omega)
    obtain ⟨A2, Z2, p2, q2, f2, g2', d2⟩ := stp hN [58] d1 (by show _ + 1 ≤ 80; omega)
    have e1 : fX2_putNumber (oL (i : Int)) (wI A 2 1 0 0 (0 : Int32)) = some A1 := (n1 _).trans p1
    have e2 : fX2_putText 40 A1 = some A2 := (x40 _).trans p2
    have e3 : fX10_tellsNumber 30 (oL (i : Int)) (wI (wI Z 10 6 0 0 (oI 0)) 10 25 0 0 (0 : Int32)) = some Z1 := (m1 _).trans q1
    have e4 : fX10_tells (58 : Int32) Z1 = some Z2 := (z1 _ _).trans q2
    have fA2 : Fr qA A A2 := Fr.trans ((Fr.refl _).wI rfl) (Fr.trans (dA_q f1) (dA_q f2))
    have fZ2 : Fr qZ Z Z2 := Fr.trans (((Fr.refl _).wI rfl).wI rfl) (Fr.trans (dZ_q g1') (dZ_q g2'))
    have k2 : Z2.1 10 6 0 0 = 0 := by rw [g2'.i rfl, g1'.i rfl]; rfl
    have ll2 : 0 + xs1.length + [(58 : Int32)].length ≤ 3 := by show 0 + xs1.length + 1 ≤ 3; omega
    generalize 0 + xs1.length + [(58 : Int32)].length = dl2 at d2 ll2
    have key : ∃ A3 Z3 dl, DS s N A3 Z3 dl ∧ dl ≤ 80 ∧ Fr dA A2 A3 ∧ Fr dZ Z2 Z3 ∧ fX2_write 0 (oI i) A = some A3 ∧ fX10_describe (oI i) Z = some (oI dl, Z3) := by
      have hw : ∀ R, (if oI (sB s i 3) = 0 then (
      Option.bind (fX2_putText 41 A2) fun A_22 =>
      Option.bind (fX0_placeOnWaitingList 0 (oI i) A_22) fun r_23 =>
      Option.bind (fX2_putNumber (r_23.toInt64) A_22) fun A_24 =>
      Option.bind (fX2_putText 42 A_24) fun A_25 =>
      Option.bind (fX2_putNumber ((A_25.1 8 2 (16 * 0 + i) 0).toInt64) A_25) fun A_26 =>
      some A_26)
    else (
      if oI (sB s i 3) = (1 : Int32) then (
        Option.bind (fX2_putText 43 A2) fun A_10 =>
        Option.bind (fX2_putNumber ((A_10.1 8 4 (16 * 0 + i) 0).toInt64) A_10) fun A_11 =>
        Option.bind (fX2_putText 42 A_11) fun A_12 =>
        Option.bind (fX8_lotSum (16 * 0 + i) A_12) fun r_13 =>
        Option.bind (fX2_putMoney r_13 A_12) fun A_14 =>
        Option.bind (fX2_putAssignment (16 * 0 + i) A_14) fun A_15 =>
        some A_15)
      else (
        Option.bind (fX2_putText 47 A2) fun A_5 =>
        Option.bind (fX2_putMoney (A_5.2 26 0 (16 * 0 + i) (3 : Int32).toNatClampNeg) A_5) fun A_7 =>
        some A_7))) = R → fX2_write 0 (oI i) A = R := by
        rintro R rfl
        rw [fX2_write, inbA (by omega) (by omega), gd_true, ltb_eq, oI_L (by omega) (by omega), e1, bd_eq, e2, bd_eq, clpA (by omega), d2.1.st hi]
      have hz : ∀ R, (if oI (sB s i 3) = 0 then (
      Option.bind (fX10_tellsWord (0 : Int32) (7 : Int32) Z2) fun Z_30 =>
      Option.bind (fX10_placeOf (oI i) Z_30) fun r_31 =>
      Option.bind (fX10_tellsNumber 30 (r_31.toInt64) Z_30) fun Z_32 =>
      Option.bind (fX10_tells (32 : Int32) Z_32) fun Z_33 =>
      Option.bind (fX10_ofMember (oI i) (1 : Int32) Z_33) fun r_34 =>
      Option.bind (fX10_tellsNumber 30 (r_34.toInt64) Z_33) fun Z_35 =>
      some (Z_35.1 10 25 0 0, Z_35))
    else (
      Option.bind (fX10_ofMember (oI i) (3 : Int32) Z2) fun r_7 =>
      if r_7 = (2 : Int32) then (
        Option.bind (fX10_tellsWord (13 : Int32) (17 : Int32) Z2) fun Z_22 =>
        Option.bind (fX10_accountAt (oI i) (3 : Int32) Z_22) fun r_23 =>
        gd (inb r_23 1058) (
          Option.bind (fX10_tellsCents (Z_22.2 30 0 0 r_23.toNatClampNeg) Z_22) fun Z_25 =>
          some (Z_25.1 10 25 0 0, Z_25)))
      else (
        Option.bind (fX10_tellsWord (7 : Int32) (13 : Int32) Z2) fun Z_8 =>
        Option.bind (fX10_ofMember (oI i) (4 : Int32) Z_8) fun r_9 =>
        Option.bind (fX10_tellsNumber 30 (r_9.toInt64) Z_8) fun Z_10 =>
        Option.bind (fX10_tells (32 : Int32) Z_10) fun Z_11 =>
        Option.bind (fX10_balanceOf (oI i) Z_11) fun r_12 =>
        Option.bind (fX10_tellsCents r_12 Z_11) fun Z_13 =>
        Option.bind (fX10_tellsAssignment (oI i) Z_13) fun Z_14 =>
        some (Z_14.1 10 25 0 0, Z_14)))) = R → fX10_describe (oI i) Z = R := by
        rintro R rfl
        rw [fX10_describe, lacks_t hZ w1 hi, bd2_eq, if_pos nul_eq, ltb_eq, oI_L (by omega) (by omega), e3, bd_eq, e4, bd_eq, ofM3' d2.2.1 (by omega), bd_eq]
      by_cases h0 : sB s i 3 = 0
      · have hpl : 0 ≤ sumN (ahead s i) N ∧ sumN (ahead s i) N ≤ 16 := by
          refine ⟨sumN_nonneg fun j _ => (ahead_bd s i j).1, ?_⟩
          have h9 := sumN_le (f := ahead s i) (g := fun _ => 1) (n := N) fun j _ => (ahead_bd s i j).2
          rw [sumN_const] at h9
          omega
        have hmi := w3.1 i hi
        obtain ⟨A3, Z3, p3, q3, f3, g3', d3⟩ := stp hN w41 d2 (by rw [w41_l]; omega)
        rw [w41_l] at d3
        obtain ⟨xs2, l2, n2, m2⟩ := nums (v := sumN (ahead s i) N) (m := 1) (by omega) (by omega) (by omega) (by omega)
        obtain ⟨A4, Z4, p4, q4, f4, g4', d4⟩ := stp hN xs2 d3 (by omega)
        obtain ⟨A5, Z5, p5, q5, f5, g5', d5⟩ := stp hN [32] d4 (by show _ + 1 ≤ 80; omega)
        obtain ⟨xs3, l3, n3, m3⟩ := nums (v := sB s i 1) (m := 5) (by omega) (by omega) (by omega) (by omega)
        obtain ⟨A6, Z6, p6, q6, f6, g6', d6⟩ := stp hN xs3 d5 (by show _ + 1 + _ ≤ 80; omega)
        refine ⟨A6, Z6, _, d6, by show _ + 1 + _ ≤ 80; omega, f3.trans (f4.trans (f5.trans f6)), g3'.trans (g4'.trans (g5'.trans g6')), hw _ ?_, hz _ ?_⟩
        · rw [h0, if_pos nul_eq, x41, p3, bd_eq, plc d3.1 hN w3 hi, bd_eq, if_pos h0, oI_L (by omega) (by omega), n2, p4, bd_eq, x42, p5, bd_eq, d5.1.mi hi, oI_L (by omega) (by omega), n3, p6, bd_eq]
        · rw [h0, if_pos nul_eq, z41, q3, bd_eq, pof d3.2.1 w1 w3 hi, bd_eq, oI_L (by omega) (by omega), m2, q4, bd_eq, z1, q5, bd_eq, kI_1, ofM1 d5.2.1 (by omega), bd_eq, oI_L (by omega) (by omega), m3, q6, bd_eq, d6.2.2.2.1]
      · by_cases h1 : sB s i 3 = 1
        · have hsb := sh_bd w1 w3 hi
          have hbb := (bal_bd w7 w8 w2 w6 (by omega) (show i < 16 by omega)).1
          obtain ⟨A3, Z3, p3, q3, f3, g3', d3⟩ := stp hN w43 d2 (by rw [w43_l]; omega)
          rw [w43_l] at d3
          obtain ⟨xs2, l2, n2, m2⟩ := nums (v := sB s i 4) (m := 5) (by omega) (by omega) (by omega) (by omega)
          obtain ⟨A4, Z4, p4, q4, f4, g4', d4⟩ := stp hN xs2 d3 (by omega)
          obtain ⟨A5, Z5, p5, q5, f5, g5', d5⟩ := stp hN [32] d4 (by show _ + 1 ≤ 80; omega)
          obtain ⟨xs3, l3, n3, m3⟩ := mny (y := oL (bal s i)) (w := bal s i / 1000) (m := 10) (by rw [kL_1000, oL_div (by omega) (by omega) (by omega) (by omega)]) (by omega) (by omega) (by omega) (by omega)
          obtain ⟨A6, Z6, p6, q6, f6, g6', d6⟩ := stp hN xs3 d5 (by show _ + 1 + _ ≤ 80; omega)
          have hd6 : dl2 + 7 + xs2.length + [(32 : Int32)].length + xs3.length ≤ 60 := by show dl2 + 7 + xs2.length + 1 + xs3.length ≤ 60; omega
          generalize dl2 + 7 + xs2.length + [(32 : Int32)].length + xs3.length = dl6 at d6 hd6
          have last : ∃ A7 Z7 dl, DS s N A7 Z7 dl ∧ dl ≤ 80 ∧ Fr dA A6 A7 ∧ Fr dZ Z6 Z7 ∧ fX2_putAssignment (16 * 0 + i) A6 = some A7 ∧ fX10_tellsAssignment (oI i) Z6 = some Z7 := by
            by_cases q : sB s i 5 = -1
            · refine ⟨A6, Z6, dl6, d6, by omega, Fr.refl _, Fr.refl _, ?_, ?_⟩
              · rw [fX2_putAssignment, d6.1.to hi, q, if_pos km1.symm]
              · rw [fX10_tellsAssignment, kI_5, ofM5 d6.2.1 (by omega), bd_eq, q, if_pos km1.symm]
            · rcases w4.1 i hi with h9 | ⟨_, tt, ht, h9, _, hp⟩
              · exact absurd h9 q
              obtain ⟨A7, Z7, p7, q7, f7, g7', d7⟩ := stp hN [32, 45, 62] d6 (by show _ + 3 ≤ 80; omega)
              obtain ⟨xs4, l4, n4, m4⟩ := nums (v := sB s i 5) (m := 1) (by omega) (by omega) (by omega) (by omega)
              obtain ⟨A8, Z8, p8, q8, f8, g8', d8⟩ := stp hN xs4 d7 (by show _ + 3 + _ ≤ 80; omega)
              obtain ⟨A9, Z9, p9, q9, f9, g9', d9⟩ := stp hN [58] d8 (by show _ + 3 + _ + 1 ≤ 80; omega)
              obtain ⟨xs5, l5, n5, m5⟩ := nums (v := sB s i 6) (m := 2) (by omega) (by omega) (by omega) (by omega)
              obtain ⟨B1, Y1, r1, s1, b1, y1, c1⟩ := stp hN xs5 d9 (by show _ + 3 + _ + 1 + _ ≤ 80; omega)
              obtain ⟨B2, Y2, r2, s2, b2, y2, c2⟩ := stp hN [37] c1 (by show _ + 3 + _ + 1 + _ + 1 ≤ 80; omega)
              have hne : ¬ oI (sB s i 5) = (-1 : Int32) := by rw [km1]; simp (disch := omega) only [oI_lt, oI_le, oI_eq, oL_lt, oL_le, oL_eq, oI_L, oI_clamp, oI_inb, oL_nz]; exact q
              refine ⟨B2, Y2, _, c2, by show _ + 3 + _ + 1 + _ + 1 ≤ 80; omega, f7.trans (f8.trans (f9.trans (b1.trans b2))), g7'.trans (g8'.trans (g9'.trans (y1.trans y2))), ?_, ?_⟩
              · rw [fX2_putAssignment, d6.1.to hi, if_neg hne, x45, p7, bd_eq, d7.1.to hi, oI_L (by omega) (by omega), n4, p8, bd_eq, x40, p9, bd_eq, d9.1.pc hi q, oI_L (by omega) (by omega), n5, r1, bd_eq, x46, r2, bd_eq]
              · have u3 : ∀ Y : sM, (Option.bind (fX10_tells (32 : Int32) Z6) fun Z_2 => Option.bind (fX10_tells (45 : Int32) Z_2) fun Z_3 => Option.bind (fX10_tells (62 : Int32) Z_3) fun Z_4 => some Z_4) = telL [32, 45, 62] Z6 := fun _ => rfl
                have u4 : ∀ (F : sM → Option sM), (Option.bind (fX10_tells (32 : Int32) Z6) fun Z_2 => Option.bind (fX10_tells (45 : Int32) Z_2) fun Z_3 => Option.bind (fX10_tells (62 : Int32) Z_3) F) = F Z7 := fun F => by
                  have h8 : Option.bind (telL [32, 45, 62] Z6) F = F Z7 := by rw [q7, bd_eq]
                  rw [← h8]
                  show _ = Option.bind (Option.bind (fX10_tells (32 : Int32) Z6) fun Z_2 => Option.bind (fX10_tells (45 : Int32) Z_2) fun Z_3 => Option.bind (fX10_tells (62 : Int32) Z_3) fun Z_4 => some Z_4) F
                  rw [bd_bd]
                  refine congrArg _ (funext fun Y2 => ?_)
                  rw [bd_bd]
                  refine congrArg _ (funext fun Y3 => ?_)
                  rw [bd_bd]
                  rfl
                rw [fX10_tellsAssignment, kI_5, ofM5 d6.2.1 (by omega), bd_eq, if_neg hne, u4, ofM5 d7.2.1 (by omega), bd_eq, oI_L (by omega) (by omega), m4, q8, bd_eq, z1, q9, bd_eq, kI_6, ofM6 d9.2.1 (by omega), bd_eq, oI_L (by omega) (by omega), m5, s1, bd_eq, z1, s2, bd_eq]
          obtain ⟨A7, Z7, dl, d7, l7, f7, g7', p7, q7⟩ := last
          refine ⟨A7, Z7, dl, d7, l7, f3.trans (f4.trans (f5.trans (f6.trans f7))), g3'.trans (g4'.trans (g5'.trans (g6'.trans g7'))), hw _ ?_, hz _ ?_⟩
          · rw [h1, if_neg one_ne, if_pos (show oI 1 = (1 : Int32) from rfl), x43, p3, bd_eq, d3.1.sh hi, oI_L (by omega) (by omega), n2, p4, bd_eq, x42, p5, bd_eq, lotSumS d5.1 hi, bd_eq, n3, p6, bd_eq, p7, bd_eq]
          · rw [h1, if_neg one_ne, ofM3' d2.2.1 (by omega), bd_eq, h1, if_neg (by decide), z43, q3, bd_eq, kI_4, ofM4 d3.2.1 (by omega), bd_eq, oI_L (by omega) (by omega), m2, q4, bd_eq, z1, q5, bd_eq, balOf d5.2.1 (by omega), bd_eq, m3, q6, bd_eq, q7, bd_eq, d7.2.2.2.1]
        · have h2 : sB s i 3 = 2 := by omega
          obtain ⟨w, w1', w2', hw9⟩ := L_ex (oL (sA s i 3) / (1000 : Int64))
          obtain ⟨A3, Z3, p3, q3, f3, g3', d3⟩ := stp hN w47 d2 (by rw [w47_l]; omega)
          rw [w47_l] at d3
          obtain ⟨xs3, l3, n3, m3⟩ := mny (y := oL (sA s i 3)) (w := w) (m := 18) hw9 w1' w2' (by omega) (by omega)
          obtain ⟨A6, Z6, p6, q6, f6, g6', d6⟩ := stp hN xs3 d3 (by omega)
          have e9 : Z3.2 30 0 0 (2 + 6 * i + 3) = oL (sA s i 3) := d3.2.1.ac (by omega) (by omega)
          refine ⟨A6, Z6, _, d6, by omega, f3.trans f6, g3'.trans g6', hw _ ?_, hz _ ?_⟩
          · rw [h2, if_neg (by decide), if_neg (by decide), x47, p3, bd_eq, tn_3, d3.1.ac hi (by omega), n3, p6, bd_eq]
          · rw [h2, if_neg (by decide), ofM3' d2.2.1 (by omega), bd_eq, h2, if_pos (show oI 2 = (2 : Int32) from rfl), z47, q3, bd_eq, acc3, bd_eq, inbA (by omega) (by omega), gd_true, clpA (by omega), e9, m3, q6, bd_eq, d6.2.2.2.1]
    obtain ⟨A3, Z3, dl, d3, l3, f3, g3', p3, q3⟩ := key
    refine ⟨wL A3 41 0 0 0 (oI dl).toInt64, Z3, 0, oI dl, ?_, q3, by rw [g3'.i rfl]; exact k2, fun _ => rfl, Inv.ds hW hR d3 l3 (fA2.trans (dA_q f3)) (fZ2.trans (dZ_q g3'))⟩
    have eA : fX9_describe (oI i) A = some (.inr (oI dl), A3) := by
      rw [fX9_describe, rqS_t hS hN hi, rq_none, p3, bd_eq, d3.2.2.1]
    rw [fL_describe, eA]; rfl
  · refine OKI.t (r := 1) (v := 0) (Z' := wI Z 10 6 0 0 (oI 1)) hI ?_ ?_ (thr_g Z _) (by decide) (Fr.refl _) (frT Z _)
    · rw [fL_describe, fX9_describe, rqS_f hS hN a1 a2 ha]
      rfl
    · rw [fX10_describe, lacks_f hZ w1 a1 a2 ha, bd2_eq, if_neg one_ne]
theorem case40 : CaseOK fL_case40 := by
  intro n L A Z xs x4 hn hI hin
  obtain ⟨_, i1, i2, i3, i4, i5⟩ := hin
  rw [fL_case40]
  simp only [i1, i2, i3, i4, i5, gd_true]
  exact OKI.c (dsc hn hI _)
