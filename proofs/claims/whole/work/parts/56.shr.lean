theorem rdc {n : Nat} {A Z : sM} (hI : Inv n A Z) (x y : Int32) : OKI n (fL_reduce x y A) (fX10_reduce x y Z) := by
  obtain ⟨⟨s, N, hS, hZ, hW⟩, hR⟩ := id hI
  obtain ⟨w1, w2, w3, w4, w5, w6, w7, w8⟩ := id hW
  obtain ⟨g0, g1, g2, g3, g4, g5, g6, g7, hN⟩ := id w1
  obtain ⟨a, a1, a2, rfl⟩ := I_ex x
  obtain ⟨w, c1, c2, rfl⟩ := I_ex y
  by_cases ha : 0 ≤ a ∧ a < N
  · obtain ⟨i, hi, rfl⟩ := int_ix ha
    by_cases hw : 1 ≤ w
    · have hb := sh_bd w1 w3 hi
      have eA : fX9_reduce (oI i) (oI w) A = if sB s i 3 = 1 ∧ w < sB s i 4 then (Option.bind (fX6_keep A) fun A_2 =>
            ltb (wI A_2 8 4 (16 * 0 + i) 0 ((A_2.1 8 4 (16 * 0 + i) 0) - oI w)) fun A_4 =>
            Option.bind (fX0_goThroughWaitingList 0 A_4) fun A_5 =>
            Option.bind (fX0_unheldShares 0 A_5) fun r_6 =>
            some (.inr r_6, A_5)) else some (.inl 2, A) := by
        rw [fX9_reduce, rqS_t hS hN hi, rq_none, rqC A c1 c2, if_pos hw, rq_none, rqA hS hN w3 hi]
        by_cases e1 : sB s i 3 = 1
        · rw [if_pos e1, rq_none, oI_inb (by omega) (by omega) (by omega), gd_true, oI_clamp (by omega) (by omega), cl_nat, rqK hS w1 w3 hi c1 c2]
          by_cases e2 : w < sB s i 4
          · rw [if_pos e2, rq_none, if_pos ⟨e1, e2⟩]
          · rw [if_neg e2, rq_thr, if_neg (fun q => e2 q.2)]
        · rw [if_neg e1, rq_thr, if_neg (fun q => e1 q.1)]
      have eZ : fX10_reduce (oI i) (oI w) Z = if sB s i 3 = 1 ∧ w < sB s i 4 then (Option.bind (fX10_keeps (wI Z 10 6 0 0 (oI 0))) fun Z_5 =>
      Option.bind (fX10_ofMember (oI i) (4 : Int32) Z_5) fun r_6 =>
      Option.bind (fX10_setMember (oI i) (4 : Int32) (r_6 - oI w) Z_5) fun Z_7 =>
      Option.bind (fX10_goesThrough Z_7) fun Z_8 =>
      Option.bind (fX10_free Z_8) fun r_9 =>
      some (r_9, Z_8)) else some (oI 0, wI Z 10 6 0 0 (oI 3)) := by
        rw [fX10_reduce, mem_t hZ w1 hi, bd_eq, ltb_eq, if_neg one_ne, if_pos (by simp (disch := omega) only [kI_0, kI_1, kI_2, kI_3, kI_4, kI_5, kI_6, kI_7, kI_8, kI_9, kI_10, kI_12, kI_16, kI_17, kI_19, kI_20, kI_23, kI_24, kI_30, kI_32, kI_36, kI_48, kI_57, kI_59, kI_60, kI_72, kI_80, kI_84, kI_97, kI_98, kI_100, kI_122, kI_148, kI_200, kI_300, kI_1058, kI_1108, kI_1348, kI_1588, kI_5290, kI_7940, kI_100000, kI_e7, kI_e9, kL_0, kL_1, kL_5, kL_9, kL_10, kL_12, kL_23, kL_30, kL_48, kL_57, kL_59, kL_97, kL_100, kL_122, kL_1000, kL_e7, kL_e9, kL_e10, oI_lt, oI_le, oI_eq, oL_lt, oL_le, oL_eq, oI_L, oI_clamp, oI_inb, oL_nz]; omega), actZ hZ w3 hi hN, bd_eq, ltb_eq]
        by_cases e1 : sB s i 3 = 1
        · rw [if_pos e1, if_neg one_ne, kI_4, ofM4 hZ (by omega), bd_eq]
          by_cases e2 : w < sB s i 4
          · rw [if_pos (by simp (disch := omega) only [oI_lt, oI_le, oI_eq, oL_lt, oL_le, oL_eq, oI_L, oI_clamp, oI_inb, oL_nz]; omega), if_pos ⟨e1, e2⟩]
            dsimp only
            rw [ltb_eq, thr_yes, kI_0]
          · rw [if_neg (by simp (disch := omega) only [oI_lt, oI_le, oI_eq, oL_lt, oL_le, oL_eq, oI_L, oI_clamp, oI_inb, oL_nz]; omega), if_neg (fun q => e2 q.2)]
            dsimp only
            rw [ltb_eq, thr_no (by decide)]
            all_goals rfl
        · rw [if_neg e1, if_pos nul_eq, if_neg (fun q => e1 q.1)]
          dsimp only
          rw [ltb_eq, thr_no (by decide)]
          all_goals rfl
      by_cases hc : sB s i 3 = 1 ∧ w < sB s i 4
      · obtain ⟨A1, Z1, k1, k2, k3, k4, k5, k6, k7⟩ := keep0 ⟨hS, hZ, hW⟩ hR
        have hW1 : WF (n + 1) (uB s (up2 (sB s) i 4 (sB s i 4 - w))) N := W_sh hW (fun j v _ hv => up2_n _ _ (by omega)) (fun j hj => by
            have := w3.2.1 j hj
            rw [up2]; split <;> omega) (fun j hj q => by
            have := w3.2.2.1 j hj q
            rw [up2]; split <;> omega) (fun j hj q => by
            have := w3.2.2.2.1 j hj q
            rw [up2_n _ _ (by rintro ⟨rfl, -⟩; exact q hc.1)]; exact this) (fun j h1 h2 => by
            rw [up2_n _ _ (by omega)]; exact w3.2.2.2.2.1 j h1 h2) (by
            have := w3.2.2.2.2.2
            rw [sumN_up (f := fun j => sB s j 4) hi (fun j hj hn => up2_n _ _ (by omega)), up2_s]
            omega)
        obtain ⟨A2, u1, u2, u3⟩ := gtA (A := wI A1 8 4 (16 * 0 + i) 0 (oI (sB s i 4 - w))) (k3.wSh hi) hW1
        obtain ⟨Z2, v1, v2, v3⟩ := gtZ (Z := wI Z1 27 0 0 (36 + 7 * i + 4) (oI (sB s i 4 - w))) (k4.wB (i0 := i) (w0 := 4) (by omega) (by omega)) hW1
        have hW2 := WF_gth hW1
        rw [if_pos hc, k1, bd_eq, k3.sh hi, oI_sub, ltb_eq, u3, bd_eq, unheld u2 hN, bd_eq] at eA
        rw [if_pos hc, k2, bd_eq, kI_4, ofM4 k4 (by omega), bd_eq, oI_sub, show oI 4 = oI (4 : Nat) from rfl, setM (by omega) (by omega), bd_eq, v3, bd_eq, free v2 hW2.1, bd_eq] at eZ
        refine OKI.m (A2 := A2) (Z2 := Z2) k5 (by rw [fL_reduce, eA]; rfl) eZ (by rw [v1.i rfl, wI_1, if_neg (by omega)]; exact k6) (Fr.trans ((Fr.refl _).wI (by simp [mvA]; omega)) (m8_mv u1)) (Fr.trans ((Fr.refl _).wI rfl) (m27_mv v1)) u2 v2 hW2
      · refine OKI.t (r := 3) (v := 0) hI (by rw [fL_reduce, eA, if_neg hc]; rfl) (by rw [eZ, if_neg hc]; rfl) (thr_g _ _) (by decide) (Fr.refl _) (frT Z _)
    · refine OKI.t (r := 2) (v := 0) hI ?_ ?_ (thr_g Z _) (by decide) (Fr.refl _) (frT Z _)
      · rw [fL_reduce, fX9_reduce, rqS_t hS hN hi, rq_none, rqC A c1 c2, if_neg hw]
        rfl
      · rw [fX10_reduce, mem_t hZ w1 hi, bd_eq, ltb_eq, if_neg one_ne, if_neg (by simp (disch := omega) only [kI_0, kI_1, kI_2, kI_3, kI_4, kI_5, kI_6, kI_7, kI_8, kI_9, kI_10, kI_12, kI_16, kI_17, kI_19, kI_20, kI_23, kI_24, kI_30, kI_32, kI_36, kI_48, kI_57, kI_59, kI_60, kI_72, kI_80, kI_84, kI_97, kI_98, kI_100, kI_122, kI_148, kI_200, kI_300, kI_1058, kI_1108, kI_1348, kI_1588, kI_5290, kI_7940, kI_100000, kI_e7, kI_e9, kL_0, kL_1, kL_5, kL_9, kL_10, kL_12, kL_23, kL_30, kL_48, kL_57, kL_59, kL_97, kL_100, kL_122, kL_1000, kL_e7, kL_e9, kL_e10, oI_lt, oI_le, oI_eq, oL_lt, oL_le, oL_eq, oI_L, oI_clamp, oI_inb, oL_nz]; omega)]
        dsimp only
        rw [ltb_eq, thr_no (by decide)]
        all_goals rfl
  · refine OKI.t (r := 1) (v := 0) hI ?_ ?_ (thr_g Z _) (by decide) (Fr.refl _) (frT Z _)
    · rw [fL_reduce, fX9_reduce, rqS_f hS hN a1 a2 ha]
      rfl
    · rw [fX10_reduce, mem_f hZ w1 a1 a2 ha, bd_eq, ltb_eq, if_pos nul_eq]
      dsimp only
      rw [ltb_eq, thr_no (by decide)]
      all_goals rfl
theorem case7 : CaseOK fL_case7 := by
  intro n L A Z xs x4 hn hI hin
  obtain ⟨_, i1, i2, i3, i4, i5⟩ := hin
  rw [fL_case7]
  simp only [i1, i2, i3, i4, i5, gd_true]
  exact OKI.c (rdc hI _ _)
theorem rqD {a b : Int} (A : sM) (a1 : -2147483648 ≤ a) (a2 : a < 2147483648) (b1 : -2147483648 ≤ b) (b2 : b < 2147483648) : fX9_requireDifferent (oI a) (oI b) A = some (if a = b then some 1 else none) := by
  rw [fX9_requireDifferent]
  simp (disch := omega) only [oI_lt, oI_le, oI_eq, oL_lt, oL_le, oL_eq, oI_L, oI_clamp, oI_inb, oL_nz]
  split <;> rfl
theorem trf {n : Nat} {A Z : sM} (hI : Inv n A Z) (x y z : Int32) : OKI n (fL_transfer x y z A) (fX10_transfer x y z Z) := by
  obtain ⟨⟨s, N, hS, hZ, hW⟩, hR⟩ := id hI
  obtain ⟨w1, w2, w3, w4, w5, w6, w7, w8⟩ := id hW
  obtain ⟨g0, g1, g2, g3, g4, g5, g6, g7, hN⟩ := id w1
  obtain ⟨a, a1, a2, rfl⟩ := I_ex x
  obtain ⟨b, b1, b2, rfl⟩ := I_ex y
  obtain ⟨w, c1, c2, rfl⟩ := I_ex z
  by_cases ha : 0 ≤ a ∧ a < N
  · obtain ⟨i, hi, rfl⟩ := int_ix ha
    by_cases hb : 0 ≤ b ∧ b < N
    · obtain ⟨t, ht, rfl⟩ := int_ix hb
      by_cases hd : ¬ (i : Int) = t ∧ 1 ≤ w
      · have hbi := sh_bd w1 w3 hi
        have hbt := sh_bd w1 w3 ht
        have hm := most_bd w1
        have hne : ¬ t = i := by omega
        have eA : fX9_transfer (oI i) (oI t) (oI w) A = if sB s i 3 = 1 ∧ sB s t 3 = 1 ∧ w < sB s i 4 ∧ sB s t 4 + w ≤ most s then (Option.bind (fX6_keep A) fun A_3 =>
                      ltb (wI A_3 8 4 (16 * 0 + i) 0 ((A_3.1 8 4 (16 * 0 + i) 0) - oI w)) fun A_5 =>
                      ltb (wI A_5 8 4 (16 * 0 + t) 0 ((A_5.1 8 4 (16 * 0 + t) 0) + oI w)) fun A_6 =>
                      some (.inr (A_6.1 8 4 (16 * 0 + t) 0), A_6)) else some (.inl 2, A) := by
          rw [fX9_transfer, rqS_t hS hN hi, rq_none, rqS_t hS hN ht, rq_none, rqD A (by omega) (by omega) (by omega) (by omega), if_neg hd.1, rq_none, rqC A c1 c2, if_pos hd.2, rq_none, rqA hS hN w3 hi]
          by_cases e1 : sB s i 3 = 1
          · rw [if_pos e1, rq_none, rqA hS hN w3 ht]
            by_cases e2 : sB s t 3 = 1
            · rw [if_pos e2, rq_none, oI_inb (by omega) (by omega) (by omega), gd_true, oI_inb (by omega) (by omega) (by omega), gd_true, oI_clamp (by omega) (by omega), oI_clamp (by omega) (by omega), cl_nat, cl_nat, rqK hS w1 w3 hi c1 c2]
              by_cases e3 : w < sB s i 4
              · rw [if_pos e3, rq_none, rqR hS w1 w3 ht c1 c2]
                by_cases e4 : sB s t 4 + w ≤ most s
                · rw [if_pos e4, rq_none, if_pos ⟨e1, e2, e3, e4⟩]
                · rw [if_neg e4, rq_thr, if_neg (fun q => e4 q.2.2.2)]
              · rw [if_neg e3, rq_thr, if_neg (fun q => e3 q.2.2.1)]
            · rw [if_neg e2, rq_thr, if_neg (fun q => e2 q.2.1)]
          · rw [if_neg e1, rq_thr, if_neg (fun q => e1 q.1)]
        have eZ : fX10_transfer (oI i) (oI t) (oI w) Z = if sB s i 3 = 1 ∧ sB s t 3 = 1 ∧ w < sB s i 4 ∧ sB s t 4 + w ≤ most s then (Option.bind (fX10_keeps (wI Z 10 6 0 0 (oI 0))) fun Z_11 =>
          Option.bind (fX10_ofMember (oI i) (oI 4) Z_11) fun r_12 =>
          Option.bind (fX10_setMember (oI i) (oI 4) (r_12 - oI w) Z_11) fun Z_13 =>
          Option.bind (fX10_setMember (oI t) (oI 4) (oI (sB s t 4 + w)) Z_13) fun Z_14 =>
          some (oI (sB s t 4 + w), Z_14)) else some (oI 0, wI Z 10 6 0 0 (oI 3)) := by
          rw [fX10_transfer, mem_t hZ w1 hi, bd_eq, ltb_eq, ltb_eq, if_neg one_ne, mem_t hZ w1 ht, bd_eq, if_neg one_ne, ltb_eq, if_neg (by simp (disch := omega) only [oI_lt, oI_le, oI_eq, oL_lt, oL_le, oL_eq, oI_L, oI_clamp, oI_inb, oL_nz]; omega), if_pos (by simp (disch := omega) only [kI_0, kI_1, kI_2, kI_3, kI_4, kI_5, kI_6, kI_7, kI_8, kI_9, kI_10, kI_12, kI_16, kI_17, kI_19, kI_20, kI_23, kI_24, kI_30, kI_32, kI_36, kI_48, kI_57, kI_59, kI_60, kI_72, kI_80, kI_84, kI_97, kI_98, kI_100, kI_122, kI_148, kI_200, kI_300, kI_1058, kI_1108, kI_1348, kI_1588, kI_5290, kI_7940, kI_100000, kI_e7, kI_e9, kL_0, kL_1, kL_5, kL_9, kL_10, kL_12, kL_23, kL_30, kL_48, kL_57, kL_59, kL_97, kL_100, kL_122, kL_1000, kL_e7, kL_e9, kL_e10, oI_lt, oI_le, oI_eq, oL_lt, oL_le, oL_eq, oI_L, oI_clamp, oI_inb, oL_nz]; omega)]
          dsimp only
          rw [ltb_eq, thr_yes, kI_4, ofM4 (ZRt hZ) (by omega), bd_eq, ltb_eq, oI_L (by omega) (by omega), oI_L (by omega) (by omega), oL_add, actZ (ZRt hZ) w3 hi hN, bd_eq, ltb_eq, ltb_eq, actZ (ZRt hZ) w3 ht hN, bd_eq, ofM4 (ZRt hZ) (by omega), bd_eq, mst (ZRt hZ) w1, bd_eq, oI_L (by omega) (by omega)]
          by_cases e1 : sB s i 3 = 1
          · rw [if_pos e1, if_neg one_ne]
            by_cases e2 : sB s t 3 = 1
            · rw [if_pos e2, if_neg one_ne]
              by_cases e3 : w < sB s i 4
              · rw [if_neg (by simp (disch := omega) only [oI_lt, oI_le, oI_eq, oL_lt, oL_le, oL_eq, oI_L, oI_clamp, oI_inb, oL_nz]; omega)]
                by_cases e4 : sB s t 4 + w ≤ most s
                · rw [if_pos (by simp (disch := omega) only [oI_lt, oI_le, oI_eq, oL_lt, oL_le, oL_eq, oI_L, oI_clamp, oI_inb, oL_nz]; omega), if_pos ⟨e1, e2, e3, e4⟩]
                  dsimp only
                  rw [ltb_eq, thr_yes, wI_wI, oL_I, kI_0]
                · rw [if_neg (by simp (disch := omega) only [oI_lt, oI_le, oI_eq, oL_lt, oL_le, oL_eq, oI_L, oI_clamp, oI_inb, oL_nz]; omega), if_neg (fun q => e4 q.2.2.2)]
                  dsimp only
                  rw [ltb_eq, thr_no (by decide), wI_wI]
                  rfl
              · rw [if_pos (by simp (disch := omega) only [oI_lt, oI_le, oI_eq, oL_lt, oL_le, oL_eq, oI_L, oI_clamp, oI_inb, oL_nz]; omega), if_neg (fun q => e3 q.2.2.1)]
                dsimp only
                rw [ltb_eq, thr_no (by decide), wI_wI]
                rfl
            · rw [if_neg e2, if_pos nul_eq, if_neg (fun q => e2 q.2.1)]
              dsimp only
              rw [ltb_eq, thr_no (by decide), wI_wI]
              rfl
          · rw [if_neg e1, if_pos nul_eq, if_neg (fun q => e1 q.1)]
            dsimp only
            rw [ltb_eq, thr_no (by decide), wI_wI]
            rfl
        by_cases hc : sB s i 3 = 1 ∧ sB s t 3 = 1 ∧ w < sB s i 4 ∧ sB s t 4 + w ≤ most s
        · obtain ⟨A1, Z1, k1, k2, k3, k4, k5, k6, k7⟩ := keep0 ⟨hS, hZ, hW⟩ hR
          have f9 : ∀ j v, ¬ (j = i ∧ v = 4) → ¬ (j = t ∧ v = 4) → up2 (up2 (sB s) i 4 (sB s i 4 - w)) t 4 (sB s t 4 + w) j v = sB s j v := fun j v h1 h2 => by
            rw [up2_n _ _ h2, up2_n _ _ h1]
          have fi : up2 (up2 (sB s) i 4 (sB s i 4 - w)) t 4 (sB s t 4 + w) i 4 = sB s i 4 - w := by rw [up2_n _ _ (by omega), up2_s]
          have ft : up2 (up2 (sB s) i 4 (sB s i 4 - w)) t 4 (sB s t 4 + w) t 4 = sB s t 4 + w := up2_s _ _ _ _
          have hW1 : WF (n + 1) (uB s (up2 (up2 (sB s) i 4 (sB s i 4 - w)) t 4 (sB s t 4 + w))) N := W_sh hW (fun j v _ hv => f9 j v (by omega) (by omega)) (fun j hj => by
              have := w3.2.1 j hj
              by_cases q1 : j = i
              · rw [q1, fi]; omega
              · by_cases q2 : j = t
                · rw [q2, ft]; omega
                · rw [f9 j 4 (by omega) (by omega)]; exact this) (fun j hj q => by
              have := w3.2.2.1 j hj q
              by_cases q1 : j = i
              · rw [q1, fi]; omega
              · by_cases q2 : j = t
                · rw [q2, ft]; omega
                · rw [f9 j 4 (by omega) (by omega)]; exact this) (fun j hj q => by
              have := w3.2.2.2.1 j hj q
              rw [f9 j 4 (by rintro ⟨rfl, -⟩; exact q hc.1) (by rintro ⟨rfl, -⟩; exact q hc.2.1)]; exact this) (fun j h1 h2 => by
              rw [f9 j 4 (by omega) (by omega)]; exact w3.2.2.2.2.1 j h1 h2) (by
              have := w3.2.2.2.2.2
              rw [sumN_up (f := fun j => up2 (sB s) i 4 (sB s i 4 - w) j 4) ht (fun j hj hn => up2_n _ _ (by omega)), sumN_up (f := fun j => sB s j 4) hi (fun j hj hn => up2_n _ _ (by omega)), ft, up2_s, up2_n _ _ (by omega)]
              omega)
          have g1 : (wI A1 8 4 (16 * 0 + i) 0 (oI (sB s i 4 - w))).1 8 4 (16 * 0 + t) 0 = oI (sB s t 4) := by rw [wI_1, if_neg (by omega)]; exact k3.sh ht
          rw [if_pos hc, k1, bd_eq, k3.sh hi, oI_sub, ltb_eq, g1, oI_add, ltb_eq, wI_1, if_pos ⟨rfl, rfl, rfl, rfl⟩] at eA
          rw [if_pos hc, k2, bd_eq, ofM4 k4 (by omega), bd_eq, oI_sub, show oI 4 = oI (4 : Nat) from rfl, setM (by omega) (by omega), bd_eq, setM (by omega) (by omega), bd_eq] at eZ
          have hS2 : SR (wI (wI A1 8 4 (16 * 0 + i) 0 (oI (sB s i 4 - w))) 8 4 (16 * 0 + t) 0 (oI (sB s t 4 + w))) 0 (uB s (up2 (up2 (sB s) i 4 (sB s i 4 - w)) t 4 (sB s t 4 + w))) N := (k3.wSh hi).wSh ht
          have hZ2 := (k4.wB (i0 := i) (w0 := 4) (v := sB s i 4 - w) (by omega) (by omega)).wB (i0 := t) (w0 := 4) (v := sB s t 4 + w) (by omega) (by omega)
          exact OKI.m k5 (by rw [fL_transfer, eA]; rfl) eZ (by rw [wI_1, if_neg (by omega), wI_1, if_neg (by omega)]; exact k6) (((Fr.refl _).wI (by simp [mvA]; omega)).wI (by simp [mvA]; omega)) (((Fr.refl _).wI rfl).wI rfl) hS2 hZ2 hW1
        · refine OKI.t (r := 3) (v := 0) hI (by rw [fL_transfer, eA, if_neg hc]; rfl) (by rw [eZ, if_neg hc]; rfl) (thr_g _ _) (by decide) (Fr.refl _) (frT Z _)
      · refine OKI.t (r := 2) (v := 0) hI ?_ ?_ (thr_g Z _) (by decide) (Fr.refl _) (frT Z _)
        · have e9 : fX9_transfer (oI i) (oI t) (oI w) A = some (.inl 1, A) := by
            rw [fX9_transfer, rqS_t hS hN hi, rq_none, rqS_t hS hN ht, rq_none, rqD A (by omega) (by omega) (by omega) (by omega)]
            by_cases e : (i : Int) = t
            · rw [if_pos e]; rfl
            · rw [if_neg e, rq_none, rqC A c1 c2, if_neg (fun q => hd ⟨e, q⟩)]; rfl
          rw [fL_transfer, e9]
          rfl
        · rw [fX10_transfer, mem_t hZ w1 hi, bd_eq, ltb_eq, ltb_eq, if_neg one_ne, mem_t hZ w1 ht, bd_eq, if_neg one_ne, ltb_eq]
          by_cases e : (i : Int) = t
          · rw [if_pos (by rw [e])]
            dsimp only
            rw [ltb_eq, thr_no (by decide)]
            all_goals rfl
          · rw [if_neg (by simp (disch := omega) only [oI_lt, oI_le, oI_eq, oL_lt, oL_le, oL_eq, oI_L, oI_clamp, oI_inb, oL_nz]; omega), if_neg (by simp (disch := omega) only [kI_0, kI_1, kI_2, kI_3, kI_4, kI_5, kI_6, kI_7, kI_8, kI_9, kI_10, kI_12, kI_16, kI_17, kI_19, kI_20, kI_23, kI_24, kI_30, kI_32, kI_36, kI_48, kI_57, kI_59, kI_60, kI_72, kI_80, kI_84, kI_97, kI_98, kI_100, kI_122, kI_148, kI_200, kI_300, kI_1058, kI_1108, kI_1348, kI_1588, kI_5290, kI_7940, kI_100000, kI_e7, kI_e9, kL_0, kL_1, kL_5, kL_9, kL_10, kL_12, kL_23, kL_30, kL_48, kL_57, kL_59, kL_97, kL_100, kL_122, kL_1000, kL_e7, kL_e9, kL_e10, oI_lt, oI_le, oI_eq, oL_lt, oL_le, oL_eq, oI_L, oI_clamp, oI_inb, oL_nz]; omega)]
            dsimp only
            rw [ltb_eq, thr_no (by decide)]
            all_goals rfl
    · refine OKI.t (r := 1) (v := 0) hI ?_ ?_ (thr_g Z _) (by decide) (Fr.refl _) (frT Z _)
      · rw [fL_transfer, fX9_transfer, rqS_t hS hN hi, rq_none, rqS_f hS hN b1 b2 hb]
        rfl
      · rw [fX10_transfer, mem_t hZ w1 hi, bd_eq, ltb_eq, ltb_eq, if_neg one_ne, mem_f hZ w1 b1 b2 hb, bd_eq, if_pos nul_eq]
        dsimp only
        rw [ltb_eq, thr_no (by decide)]
        all_goals rfl
  · refine OKI.t (r := 1) (v := 0) hI ?_ ?_ (thr_g Z _) (by decide) (Fr.refl _) (frT Z _)
    · rw [fL_transfer, fX9_transfer, rqS_f hS hN a1 a2 ha]
      rfl
    · rw [fX10_transfer, mem_f hZ w1 a1 a2 ha, bd_eq, ltb_eq, ltb_eq, if_pos nul_eq]
      dsimp only
      rw [ltb_eq, thr_no (by decide)]
      all_goals rfl
theorem case8 : CaseOK fL_case8 := by
  intro n L A Z xs x4 hn hI hin
  obtain ⟨_, i1, i2, i3, i4, i5⟩ := hin
  rw [fL_case8]
  simp only [i1, i2, i3, i4, i5, gd_true]
  exact OKI.c (trf hI _ _ _)
