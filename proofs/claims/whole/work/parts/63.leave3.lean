section
variable {A Z : sM} {s : sS} {N n i : Nat}
theorem accZ {x : Int32} {w : Nat} (hx : x = oI w) (i : Nat) (Z : sM) : fX10_accountAt (oI i) x Z = some (oI ((2 + 6 * i + w : Nat) : Int)) := by
  rw [fX10_accountAt, hx, kI_2, kI_6, oI_mul, oI_add, oI_add]
  exact congrArg (fun x => some (oI x)) (by omega)
theorem acc0 (i : Nat) (Z : sM) : fX10_accountAt (oI i) (0 : Int32) Z = some (oI ((2 + 6 * i + 0 : Nat) : Int)) := accZ rfl i Z
theorem acc1 (i : Nat) (Z : sM) : fX10_accountAt (oI i) (1 : Int32) Z = some (oI ((2 + 6 * i + 1 : Nat) : Int)) := accZ rfl i Z
theorem acc2 (i : Nat) (Z : sM) : fX10_accountAt (oI i) (2 : Int32) Z = some (oI ((2 + 6 * i + 2 : Nat) : Int)) := accZ rfl i Z
theorem acc3 (i : Nat) (Z : sM) : fX10_accountAt (oI i) (3 : Int32) Z = some (oI ((2 + 6 * i + 3 : Nat) : Int)) := accZ rfl i Z
theorem acc4 (i : Nat) (Z : sM) : fX10_accountAt (oI i) (4 : Int32) Z = some (oI ((2 + 6 * i + 4 : Nat) : Int)) := accZ rfl i Z
theorem acc5 (i : Nat) (Z : sM) : fX10_accountAt (oI i) (5 : Int32) Z = some (oI ((2 + 6 * i + 5 : Nat) : Int)) := accZ rfl i Z
theorem set32 (hi : i < 16) (Z : sM) : fX10_setMember (oI i) (3 : Int32) (2 : Int32) Z = some (wI Z 27 0 0 (36 + 7 * i + 3) (oI 2)) := setM (w := 3) (v := 2) hi (by omega)
theorem set40 (hi : i < 16) (Z : sM) : fX10_setMember (oI i) (4 : Int32) (0 : Int32) Z = some (wI Z 27 0 0 (36 + 7 * i + 4) (oI 0)) := setM (w := 4) (v := 0) hi (by omega)
theorem set5m (hi : i < 16) (Z : sM) : fX10_setMember (oI i) (5 : Int32) (-1 : Int32) Z = some (wI Z 27 0 0 (36 + 7 * i + 5) (oI (-1))) := by
  rw [km1]; exact setM (w := 5) (v := -1) hi (by omega)
theorem inbA {k n : Nat} (hk : k < n) (hn : n < 2147483648) : inb (oI (k : Int)) n = true := oI_inb (by omega) (by omega) hn
theorem clpA {k : Nat} (hk : k < 2147483648) : (oI (k : Int)).toNatClampNeg = k := by rw [oI_clamp (by omega) (by omega)]; rfl
theorem up1_u (f : Nat → Int) (i : Nat) (v v' : Int) : up1 (up1 f i v) i v' = up1 f i v' := by
  funext j
  simp only [up1]
  split <;> rfl
theorem lvA_z (s : sS) (i : Nat) : up2 (up2 (up2 (up2 (sA s) i 0 0) i 3 (lvY s i)) i 2 (sA s i 2 + sA s i 1)) i 1 0 = lvA s i := by
  rw [lvA, up2_c _ (lvY s i) _ (by omega), up2_c _ (lvY s i) _ (by omega)]
theorem sg_f (k : Nat) : sg false k = k := rfl
theorem lv_rm (hB : LvB s i) (h7 : W7 s N) (hi : i < 16) : rmn (fun k => sT s i (sg false k)) (sA s i 0) 60 = sA s i 0 - lvU s i := by
  rw [rmn_eq (f := fun k => sT s i (sg false k)) hB.2.1.1 (fun m hm => (h7.1 i hi).2.2.2 m hm), lvU, mn]
  show (if bal s i ≤ sA s i 0 then sA s i 0 - bal s i else 0) = _
  split <;> split <;> omega
theorem lv_bl (hB : LvB s i) (h7 : W7 s N) (hi : i < 16) : sumN (fun m => tk s i false (sA s i 0) 60 i m) 60 = lvX s i := by
  rw [sumN_congr (g := payd (fun k => sT s i (sg false k)) (sA s i 0)) (fun m hm => by rw [tk, if_pos ⟨rfl, hm, by rw [sg_f]; exact hm⟩, sg_f]), payd_sum, lv_rm hB h7 hi, lvX]
  show bal s i - _ = _
  omega
theorem lgZ (hZ : ZR (zA Z) (zB Z) s) (hW : WF n s N) (hn : n ≤ 512) (hi : i < N) (hac : sB s i 3 = 1) : ∃ Z', Fr mvZ Z Z' ∧ ZR (zA Z') (zB Z') (gth (lvS s N i) N) ∧ Z'.1 10 6 0 0 = Z.1 10 6 0 0 ∧ (Option.bind (fX10_isActive (oI i) Z) fun r_6 =>
      Option.bind (fX10_setMember (oI i) (3 : Int32) (2 : Int32) Z) fun Z_7 =>
      if r_6 = 0 then (
        some ((0 : Int64), Z_7))
      else (
        Option.bind (fX10_accountAt (oI i) (0 : Int32) Z_7) fun r_9 =>
        gd (inb r_9 1058) (
          bd2 (fX10_takesLots (oI i) (Z_7.2 30 0 0 r_9.toNatClampNeg) (0 : Int32) Z_7) fun r_12 Z_11 =>
          ltb (wL Z_11 30 0 0 (0 : Int32).toNatClampNeg ((Z_7.2 30 0 0 (0 : Int32).toNatClampNeg) - r_12)) fun Z_14 =>
          Option.bind (fX10_accountAt (oI i) (0 : Int32) Z_14) fun r_15 =>
          gd (inb r_15 1058) (
            ltb (wL Z_14 30 0 0 r_15.toNatClampNeg (0 : Int64)) fun Z_17 =>
            Option.bind (fX10_balanceOf (oI i) Z_17) fun r_18 =>
            ltb ((r_18 * ((Z_17.1 27 0 0 (2 : Int32).toNatClampNeg).toInt64)) / (100 : Int64)) fun x5_20 =>
            ltb (wL Z_17 30 0 0 (0 : Int32).toNatClampNeg ((Z_17.2 30 0 0 (0 : Int32).toNatClampNeg) + (r_18 - x5_20))) fun Z_23 =>
            fX10_leave_L138 (oI i) x5_20 (fun (Z_24 : sM) =>
              Option.bind (fX10_accountAt (oI i) (3 : Int32) Z_24) fun r_25 =>
              gd (inb r_25 1058) (
                ltb (wL Z_24 30 0 0 r_25.toNatClampNeg x5_20) fun Z_27 =>
                Option.bind (fX10_accountAt (oI i) (2 : Int32) Z_27) fun r_28 =>
                gd (inb r_28 1058) (
                  Option.bind (fX10_accountAt (oI i) (1 : Int32) Z_27) fun r_30 =>
                  gd (inb r_30 1058) (
                    gd (inb r_28 1058) (
                      ltb (wL Z_27 30 0 0 r_28.toNatClampNeg ((Z_27.2 30 0 0 r_28.toNatClampNeg) + (Z_27.2 30 0 0 r_30.toNatClampNeg))) fun Z_33 =>
                      Option.bind (fX10_accountAt (oI i) (1 : Int32) Z_33) fun r_34 =>
                      gd (inb r_34 1058) (
                        ltb (wL Z_33 30 0 0 r_34.toNatClampNeg (0 : Int64)) fun Z_36 =>
                        Option.bind (fX10_setMember (oI i) (4 : Int32) (0 : Int32) Z_36) fun Z_37 =>
                        Option.bind (fX10_setMember (oI i) (5 : Int32) (-1 : Int32) Z_37) fun Z_38 =>
                        fX10_leave_L231 (oI i) x5_20 (fun (Z_39 : sM) =>
                          Option.bind (fX10_goesThrough Z_39) fun Z_40 =>
                          some (x5_20, Z_40)) 10000 (0 : Int32) Z_38)))))) 10000 (0 : Int32) Z_23)))) = some (oL (lvY s i), Z') := by
  obtain ⟨w1, w2, w3, w4, w5, w6, w7, w8⟩ := id hW
  obtain ⟨g0, g1, g2, g3, g4, g5, g6, g7, hN⟩ := id w1
  have hB := lv_bd hn hW hi
  obtain ⟨hb, hd, hu, hx, hp, hy⟩ := id hB
  have hi6 : i < 16 := by omega
  have ht := (bal_bd w7 w8 w2 w6 hn hi6).2
  have h7 := hZ.wB (i0 := i) (w0 := 3) (v := 2) hi6 (by omega)
  obtain ⟨Z8, a1, h8, a3⟩ := tkZ (b := false) (x := sA s i 0) h7 hi6 ⟨hd.1, by omega⟩ (fun m hm => by
    have := ht m hm
    exact ⟨this.1, by show sT s i m < _; omega⟩)
  have e1 : (wI Z 27 0 0 (36 + 7 * i + 3) (oI 2)).2 30 0 0 (2 + 6 * i + 0) = oL (sA s i 0) := h7.ac hi6 (by omega)
  have e2 : (wI Z 27 0 0 (36 + 7 * i + 3) (oI 2)).2 30 0 0 0 = oL (sF s 0) := h7.fo (by omega)
  have a4 : fX10_takesLots (oI i) (oL (sA s i 0)) (0 : Int32) (wI Z 27 0 0 (36 + 7 * i + 3) (oI 2)) = some (oL (sA s i 0 - lvU s i), Z8) := by
    rw [← lv_rm hB w7 hi6]; exact a3
  have h9 := h8.wF (k0 := 0) (v := sF s 0 - (sA s i 0 - lvU s i)) (by omega)
  have h10 := h9.wA (i0 := i) (w0 := 0) (v := 0) hi6 (by omega)
  have e3 := balOf h10 hi6
  have e4 : sumN (fun m => tk s i false (sA s i 0) 60 i m) 60 = lvX s i := lv_bl hB w7 hi6
  have e5 : fX10_balanceOf (oI i) (wL (wL Z8 30 0 0 0 (oL (sF s 0 - (sA s i 0 - lvU s i)))) 30 0 0 (2 + 6 * i + 0) (oL 0)) = some (oL (lvX s i)) := e3.trans (congrArg (fun x => some (oL x)) e4)
  have e6 : (wL (wL Z8 30 0 0 0 (oL (sF s 0 - (sA s i 0 - lvU s i)))) 30 0 0 (2 + 6 * i + 0) (oL 0)).1 27 0 0 2 = oI (sG s 2) := h10.g (by omega)
  have e7 : (wL (wL Z8 30 0 0 0 (oL (sF s 0 - (sA s i 0 - lvU s i)))) 30 0 0 (2 + 6 * i + 0) (oL 0)).2 30 0 0 0 = oL (sF s 0 - (sA s i 0 - lvU s i)) := (h10.fo (k := 0) (by omega)).trans (congrArg oL (show up1 (sF s) 0 (sF s 0 - (sA s i 0 - lvU s i)) 0 = _ from up1_s _ _ _))
  have h11 := h10.wF (k0 := 0) (v := sF s 0 - (sA s i 0 - lvU s i) + (lvX s i - lvY s i)) (by omega)
  obtain ⟨Z12, b1, h12, b3⟩ := clZ_L (s := (sG s, sH s, sRt s, up2 (sB s) i 3 2, sD s, sE s, sC s, up1 (up1 (sF s) 0 (sF s 0 - (sA s i 0 - lvU s i))) 0 (sF s 0 - (sA s i 0 - lvU s i) + (lvX s i - lvY s i)), up2 (sA s) i 0 0, tk s i false (sA s i 0) 60)) hi6 (oL (lvY s i)) 10000 0 _ (by omega) (by omega) (by rw [cl0_0]; exact h11)
  have h13 := h12.wA (i0 := i) (w0 := 3) (v := lvY s i) hi6 (by omega)
  have e8 : (wL Z12 30 0 0 (2 + 6 * i + 3) (oL (lvY s i))).2 30 0 0 (2 + 6 * i + 2) = oL (sA s i 2) := (h13.ac (w := 2) hi6 (by omega)).trans (congrArg oL (show up2 (up2 (sA s) i 0 0) i 3 (lvY s i) i 2 = _ by rw [up2_n _ _ (by omega), up2_n _ _ (by omega)]))
  have e9 : (wL Z12 30 0 0 (2 + 6 * i + 3) (oL (lvY s i))).2 30 0 0 (2 + 6 * i + 1) = oL (sA s i 1) := (h13.ac (w := 1) hi6 (by omega)).trans (congrArg oL (show up2 (up2 (sA s) i 0 0) i 3 (lvY s i) i 1 = _ by rw [up2_n _ _ (by omega), up2_n _ _ (by omega)]))
  have h14 := (h13.wA (i0 := i) (w0 := 2) (v := sA s i 2 + sA s i 1) hi6 (by omega)).wA (i0 := i) (w0 := 1) (v := 0) hi6 (by omega)
  have h15 := (h14.wB (i0 := i) (w0 := 4) (v := 0) hi6 (by omega)).wB (i0 := i) (w0 := 5) (v := -1) hi6 (by omega)
  have hs : (sG s, sH s, sRt s, lvB s i, sD s, sE s, sC s, up1 (up1 (sF s) 0 (sF s 0 - (sA s i 0 - lvU s i))) 0 (sF s 0 - (sA s i 0 - lvU s i) + (lvX s i - lvY s i)), up2 (up2 (up2 (up2 (sA s) i 0 0) i 3 (lvY s i)) i 2 (sA s i 2 + sA s i 1)) i 1 0, cl0 (tk s i false (sA s i 0) 60) i 60) = ((sG s, sH s, sRt s, lvB s i, sD s, sE s, sC s, up1 (sF s) 0 (lvF s i), lvA s i, cl0 (sT s) i 60) : sS) := by
    rw [up1_u, lvA_z, show sF s 0 - (sA s i 0 - lvU s i) + (lvX s i - lvY s i) = lvF s i by simp only [lvF]; omega, show cl0 (tk s i false (sA s i 0) 60) i 60 = cl0 (sT s) i 60 by
      funext j m
      rw [cl0, cl0]
      by_cases q : j = i ∧ m < 60
      · rw [if_pos q, if_pos q]
      · rw [if_neg q, if_neg q, tk, if_neg (fun e => q ⟨e.1, e.2.1⟩)]]
  have h16 : ZR _ _ (sG s, sH s, sRt s, lvB s i, sD s, sE s, sC s, up1 (up1 (sF s) 0 (sF s 0 - (sA s i 0 - lvU s i))) 0 (sF s 0 - (sA s i 0 - lvU s i) + (lvX s i - lvY s i)), up2 (up2 (up2 (up2 (sA s) i 0 0) i 3 (lvY s i)) i 2 (sA s i 2 + sA s i 1)) i 1 0, cl0 (tk s i false (sA s i 0) 60) i 60) := h15
  rw [hs] at h16
  obtain ⟨Z18, c1, c2, c3⟩ := enZ_L (s := (sG s, sH s, sRt s, lvB s i, sD s, sE s, sC s, up1 (sF s) 0 (lvF s i), lvA s i, cl0 (sT s) i 60)) (i := i) w1 hi (lvr w4 hi) (oL (lvY s i)) 10000 0 _ (by omega) (by omega) (by rw [enB_0]; exact h16)
  have hZ1 : ZR (zA Z18) (zB Z18) (lvS s N i) := c2
  obtain ⟨Z19, d1, d2, d3⟩ := gtZ hZ1 (WF_lv hn hW hi)
  refine ⟨Z19, ?_, d2, ?_, ?_⟩
  · exact Fr.trans (Fr.trans (((((Fr.trans (((Fr.trans ((Fr.refl _).wI rfl) (m30_mv a1)).wL rfl).wL rfl |>.wL rfl) (m30_mv b1)).wL rfl).wL rfl).wL rfl).wI rfl |>.wI rfl) (m27_mv c1)) (m27_mv d1)
  · rw [d1.i rfl, c1.i rfl, wI_1, if_neg (by omega), wI_1, if_neg (by omega), wL_1, wL_1, wL_1, b1.i rfl, wL_1, wL_1, wL_1, a1.i rfl, wI_1, if_neg (by omega)]
  · rw [actZ hZ w3 hi hN, bd_eq, if_pos hac, set32 hi6, bd_eq, if_neg one_ne, acc0, bd_eq, inbA (by omega) (by omega), gd_true, clpA (by omega), e1, a4, bd2_eq, tn_0, e2, oL_sub, ltb_eq, acc0, bd_eq, inbA (by omega) (by omega), gd_true, clpA (by omega), kL_0, ltb_eq, e5, bd_eq, tn_2, e6, oI_L (by omega) (by omega), oL_mul, kL_100, oL_div (by omega) (by omega) (by omega) (by omega), show lvX s i * sG s 2 / 100 = lvY s i from rfl, ltb_eq, e7, oL_sub, oL_add, ltb_eq]
    refine (b3 _).trans ?_
    rw [acc3, bd_eq, inbA (by omega) (by omega), gd_true, clpA (by omega), ltb_eq, acc2, bd_eq, inbA (by omega) (by omega), gd_true, clpA (by omega), acc1, bd_eq, inbA (by omega) (by omega), gd_true, gd_true, clpA (by omega), e8, e9, oL_add, ltb_eq, acc1, bd_eq, inbA (by omega) (by omega), gd_true, clpA (by omega), ltb_eq, set40 hi6, bd_eq, set5m hi6, bd_eq]
    refine (c3 _).trans ?_
    rw [d3, bd_eq]
theorem ofM3' (hZ : ZR (zA Z) (zB Z) s) (hi : i < 16) : fX10_ofMember (oI i) (3 : Int32) Z = some (oI (sB s i 3)) := ofM3 hZ hi
theorem WF_w2 (hW : WF n s N) (hi : i < N) (h0 : sB s i 3 = 0) : WF n (uB s (up2 (sB s) i 3 2)) N := by
  obtain ⟨w1, w2, w3, w4, w5, w6, w7, w8⟩ := id hW
  obtain ⟨g0, g1, g2, g3, g4, g5, g6, g7, hN⟩ := id w1
  have b9 : ∀ j w, ¬ (j = i ∧ w = 3) → up2 (sB s) i 3 2 j w = sB s j w := fun j w h => up2_n _ _ h
  have b3 : up2 (sB s) i 3 2 i 3 = 2 := up2_s _ _ _ _
  have bq : ∀ j, up2 (sB s) i 3 2 j 3 = 1 ↔ sB s j 3 = 1 := fun j => by
    by_cases e : j = i
    · rw [e, b3, h0]; omega
    · rw [b9 j 3 (by omega)]
  refine ⟨w1, w2, ⟨fun j hj => ?_, fun j hj => ?_, fun j hj q => ?_, fun j hj q => ?_, fun j h1 h2 => ?_, ?_⟩, ⟨fun j hj => ?_, ?_⟩, w5, w6, ⟨w7.1, w7.2.1, fun j hj q => ?_, w7.2.2.2⟩, w8⟩
  · have h9 := w3.1 j hj
    show (1 ≤ up2 (sB s) i 3 2 j 0 ∧ up2 (sB s) i 3 2 j 0 ≤ sG s 0) ∧ (1 ≤ up2 (sB s) i 3 2 j 1 ∧ up2 (sB s) i 3 2 j 1 ≤ up2 (sB s) i 3 2 j 0) ∧ (0 ≤ up2 (sB s) i 3 2 j 2 ∧ up2 (sB s) i 3 2 j 2 ≤ 9) ∧ (0 ≤ up2 (sB s) i 3 2 j 3 ∧ up2 (sB s) i 3 2 j 3 ≤ 2)
    rw [b9 j 0 (by omega), b9 j 1 (by omega), b9 j 2 (by omega)]
    refine ⟨h9.1, h9.2.1, h9.2.2.1, ?_⟩
    by_cases e : j = i
    · rw [e, b3]; omega
    · rw [b9 j 3 (by omega)]; exact h9.2.2.2
  · show 0 ≤ up2 (sB s) i 3 2 j 4
    rw [b9 j 4 (by omega)]; exact w3.2.1 j hj
  · show 1 ≤ up2 (sB s) i 3 2 j 4
    rw [b9 j 4 (by omega)]; exact w3.2.2.1 j hj ((bq j).1 q)
  · show up2 (sB s) i 3 2 j 4 = 0
    rw [b9 j 4 (by omega)]; exact w3.2.2.2.1 j hj (fun e => q ((bq j).2 e))
  · show up2 (sB s) i 3 2 j 4 = 0
    rw [b9 j 4 (by omega)]; exact w3.2.2.2.2.1 j h1 h2
  · show sumN (fun j => up2 (sB s) i 3 2 j 4) N ≤ sG s 0
    rw [sumN_congr (g := fun j => sB s j 4) (fun j hj => b9 j 4 (by omega))]; exact w3.2.2.2.2.2
  · show up2 (sB s) i 3 2 j 5 = -1 ∨ (up2 (sB s) i 3 2 j 3 = 1 ∧ ∃ t : Nat, t < N ∧ up2 (sB s) i 3 2 j 5 = t ∧ up2 (sB s) i 3 2 t 3 = 1 ∧ 1 ≤ up2 (sB s) i 3 2 j 6 ∧ up2 (sB s) i 3 2 j 6 ≤ 100)
    rw [b9 j 5 (by omega), b9 j 6 (by omega)]
    rcases w4.1 j hj with q | ⟨q1, t, ht, q2, q3, q4⟩
    · exact Or.inl q
    · exact Or.inr ⟨(bq j).2 q1, t, ht, q2, (bq t).2 q3, q4⟩
  · obtain ⟨d, hd9⟩ := w4.2
    refine ⟨d, fun j t hj ht q => hd9 j t hj ht ?_⟩
    have q' : up2 (sB s) i 3 2 j 5 = (t : Int) := q
    rw [b9 j 5 (by omega)] at q'; exact q'
  · have h9 := w7.2.2.1 j hj (fun e => q ((bq j).2 e))
    refine ⟨h9.1, h9.2.1, h9.2.2.1, fun e => ?_⟩
    have e' : up2 (sB s) i 3 2 j 3 = 0 := e
    by_cases ej : j = i
    · rw [ej, b3] at e'; omega
    · rw [b9 j 3 (by omega)] at e'; exact h9.2.2.2 e'
end
theorem lve {n : Nat} {A Z : sM} (hn : n < 512) (hI : Inv n A Z) (x : Int32) : OKL n (fL_leave x A) (fX10_leave x Z) := by
  obtain ⟨⟨s, N, hS, hZ, hW⟩, hR⟩ := id hI
  obtain ⟨w1, w2, w3, w4, w5, w6, w7, w8⟩ := id hW
  obtain ⟨g0, g1, g2, g3, g4, g5, g6, g7, hN⟩ := id w1
  obtain ⟨a, a1, a2, rfl⟩ := I_ex x
  by_cases ha : 0 ≤ a ∧ a < N
  · obtain ⟨i, hi, rfl⟩ := int_ix ha
    have hst := (w3.1 i hi).2.2.2
    by_cases h2 : sB s i 3 = 2
    · refine OKL.t (r := 2) (v := 0) hI ?_ ?_ (thr_g Z _) (by decide) (Fr.refl _) (frT Z _)
      · rw [fL_leave, fX9_leave, rqS_t hS hN hi, rq_none, inbA (by omega) (by omega), gd_true, clpA (by omega), hS.st hi, h2, if_pos (show oI 2 = (2 : Int32) from rfl)]
        rfl
      · rw [fX10_leave, mem_t hZ w1 hi, bd_eq, ltb_eq, if_neg one_ne, ofM3' hZ (by omega), bd_eq, h2, if_pos (show oI 2 = (2 : Int32) from rfl)]
        dsimp only
        rw [ltb_eq, thr_no (by decide)]
        all_goals rfl
    · obtain ⟨A1, Z1, k1, k2, k3, k4, k5, k6, k7⟩ := keep0 ⟨hS, hZ, hW⟩ hR
      have k2' : fX10_keeps (wI Z 10 6 0 0 (0 : Int32)) = some Z1 := k2
      have eA : fX9_leave (oI i) A = Option.bind (fX0_letGo 0 (oI i) A1) fun A_4 => some (.inr (A_4.2 26 0 (16 * 0 + i) 3), A_4) := by
        rw [fX9_leave, rqS_t hS hN hi, rq_none, inbA (by omega) (by omega), gd_true, clpA (by omega), hS.st hi, if_neg (by simp (disch := omega) only [kI_0, kI_1, kI_2, kI_3, kI_4, kI_5, kI_6, kI_7, kI_8, kI_9, kI_10, kI_12, kI_16, kI_17, kI_19, kI_20, kI_23, kI_24, kI_30, kI_32, kI_36, kI_48, kI_57, kI_59, kI_60, kI_72, kI_80, kI_84, kI_97, kI_98, kI_100, kI_122, kI_148, kI_200, kI_300, kI_1058, kI_1108, kI_1348, kI_1588, kI_5290, kI_7940, kI_100000, kI_e7, kI_e9, kL_0, kL_1, kL_5, kL_9, kL_10, kL_12, kL_23, kL_30, kL_48, kL_57, kL_59, kL_97, kL_100, kL_122, kL_1000, kL_e7, kL_e9, kL_e10, oI_lt, oI_le, oI_eq, oL_lt, oL_le, oL_eq, oI_L, oI_clamp, oI_inb, oL_nz]; exact h2), k1, bd_eq]
        simp only [gd_true, tn_3]
      by_cases hac : sB s i 3 = 1
      · obtain ⟨A2, p1, p2, p3, p4⟩ := lgA k3 hW (by omega) hi hac
        obtain ⟨Z2, q1, q2, q3, q4⟩ := lgZ k4 hW (by omega) hi hac
        refine OKL.m (v := oL (lvY s i)) (A2 := A2) (Z2 := Z2) k5 (by rw [fL_leave, eA, p4, bd_eq, p3]; rfl) ?_ (q3.trans k6) p1 q1 p2 q2 ((WF_gth (WF_lv (by omega) hW hi)).mono (by omega))
        rw [fX10_leave, mem_t hZ w1 hi, bd_eq, ltb_eq, if_neg one_ne, ofM3' hZ (by omega), bd_eq, if_neg (by simp (disch := omega) only [kI_0, kI_1, kI_2, kI_3, kI_4, kI_5, kI_6, kI_7, kI_8, kI_9, kI_10, kI_12, kI_16, kI_17, kI_19, kI_20, kI_23, kI_24, kI_30, kI_32, kI_36, kI_48, kI_57, kI_59, kI_60, kI_72, kI_80, kI_84, kI_97, kI_98, kI_100, kI_122, kI_148, kI_200, kI_300, kI_1058, kI_1108, kI_1348, kI_1588, kI_5290, kI_7940, kI_100000, kI_e7, kI_e9, kL_0, kL_1, kL_5, kL_9, kL_10, kL_12, kL_23, kL_30, kL_48, kL_57, kL_59, kL_97, kL_100, kL_122, kL_1000, kL_e7, kL_e9, kL_e10, oI_lt, oI_le, oI_eq, oL_lt, oL_le, oL_eq, oI_L, oI_clamp, oI_inb, oL_nz]; exact h2)]
        dsimp only
        rw [ltb_eq, thr_yes, k2', bd_eq]
        exact q4
      · have h0 : sB s i 3 = 0 := by omega
        have p4 : fX0_letGo 0 (oI i) A1 = some (wI A1 8 0 (16 * 0 + i) 0 (oI 2)) := by
          rw [fX0_letGo, inbA (by omega) (by omega), gd_true, clpA (by omega), actA k3 w3 hi, bd_eq, if_neg hac, ltb_eq, if_pos nul_eq]
          rfl
        have h1 := k3.wSt (i0 := i) (v := 2) hi
        have p3 : (wI A1 8 0 (16 * 0 + i) 0 (oI 2)).2 26 0 (16 * 0 + i) 3 = (0 : Int64) := (k3.ac hi (by omega)).trans (by rw [(w7.2.2.1 i hi hac).2.2.2 h0]; rfl)
        refine OKL.m (v := 0) (A2 := wI A1 8 0 (16 * 0 + i) 0 (oI 2)) (Z2 := wI Z1 27 0 0 (36 + 7 * i + 3) (oI 2)) k5 (by rw [fL_leave, eA, p4, bd_eq, p3]; rfl) ?_ k6 ((Fr.refl _).wI (by simp [mvA]; omega)) ((Fr.refl _).wI rfl) h1 (k4.wB (i0 := i) (w0 := 3) (by omega) (by omega)) ((WF_w2 hW hi h0).mono (by omega))
        rw [fX10_leave, mem_t hZ w1 hi, bd_eq, ltb_eq, if_neg one_ne, ofM3' hZ (by omega), bd_eq, if_neg (by simp (disch := omega) only [kI_0, kI_1, kI_2, kI_3, kI_4, kI_5, kI_6, kI_7, kI_8, kI_9, kI_10, kI_12, kI_16, kI_17, kI_19, kI_20, kI_23, kI_24, kI_30, kI_32, kI_36, kI_48, kI_57, kI_59, kI_60, kI_72, kI_80, kI_84, kI_97, kI_98, kI_100, kI_122, kI_148, kI_200, kI_300, kI_1058, kI_1108, kI_1348, kI_1588, kI_5290, kI_7940, kI_100000, kI_e7, kI_e9, kL_0, kL_1, kL_5, kL_9, kL_10, kL_12, kL_23, kL_30, kL_48, kL_57, kL_59, kL_97, kL_100, kL_122, kL_1000, kL_e7, kL_e9, kL_e10, oI_lt, oI_le, oI_eq, oL_lt, oL_le, oL_eq, oI_L, oI_clamp, oI_inb, oL_nz]; exact h2)]
        dsimp only
        rw [ltb_eq, thr_yes, k2', bd_eq, actZ k4 w3 hi hN, bd_eq, set32 (by omega), bd_eq, if_neg hac, if_pos nul_eq]
  · refine OKL.t (r := 1) (v := 0) hI ?_ ?_ (thr_g Z _) (by decide) (Fr.refl _) (frT Z _)
    · rw [fL_leave, fX9_leave, rqS_f hS hN a1 a2 ha]
      rfl
    · rw [fX10_leave, mem_f hZ w1 a1 a2 ha, bd_eq, ltb_eq, if_pos nul_eq]
      dsimp only
      rw [ltb_eq, thr_no (by decide)]
      all_goals rfl
theorem case10 : CaseOK fL_case10 := by
  intro n L A Z xs x4 hn hI hin
  obtain ⟨_, i1, i2, i3, i4, i5⟩ := hin
  rw [fL_case10]
  simp only [i1, i2, i3, i4, i5, gd_true]
  exact OKL.c (lve hn hI _)
