theorem lotZ {i k : Nat} {x : Int32} (hi : i < 16) (hk : k < 60) (hx : x = oI k) (Z : sM) : fX10_lotAt (oI i) x Z = some (oI ((98 + 60 * i + k : Nat) : Int)) := by
  rw [fX10_lotAt, hx, kI_98, kI_60, oI_mul, oI_add, oI_add]
  exact congrArg (fun x => some (oI x)) (by omega)
section
variable {A Z : sM} {s : sS} {N n i : Nat}
theorem em_A (s : sS) (i : Nat) (c : Int) : up2 (up2 (up2 (up2 (up2 (sA s) i 0 (sA s i 0 - mn (sA s i 0) c)) i 4 (sA s i 4 + (sA s i 1 - eL s i c))) i 2 (sA s i 2 + eL s i c)) i 1 0) i 5 (sA s i 5 + eX s i c) = emA s i c := by
  funext j w
  simp only [up2, emA, mA]
  by_cases e : j = i
  · subst e
    by_cases e5 : w = 5
    · subst e5; simp
    · by_cases e1 : w = 1
      · subst e1; simp
      · by_cases e2 : w = 2
        · subst e2; simp
        · by_cases e4 : w = 4
          · subst e4; simp
          · by_cases e0 : w = 0
            · subst e0; simp
            · simp [e5, e1, e2, e4, e0]
  · simp [e]
theorem em_A0 (s : sS) (i : Nat) (c : Int) (h : eX s i c = 0) : up2 (up2 (up2 (up2 (sA s) i 0 (sA s i 0 - mn (sA s i 0) c)) i 4 (sA s i 4 + (sA s i 1 - eL s i c))) i 2 (sA s i 2 + eL s i c)) i 1 0 = emA s i c := by
  funext j w
  simp only [up2, emA, mA, h]
  by_cases e : j = i
  · subst e
    by_cases e5 : w = 5
    · subst e5; simp
    · by_cases e1 : w = 1
      · subst e1; simp
      · by_cases e2 : w = 2
        · subst e2; simp
        · by_cases e4 : w = 4
          · subst e4; simp
          · by_cases e0 : w = 0
            · subst e0; simp
            · simp [e5, e1, e2, e4, e0]
  · simp [e]
theorem em_T1 (s : sS) (i : Nat) (c : Int) : (fun k => sT (crS s i c) i (sg false k)) = eT1 s i c := by
  funext k
  show up2 (sT s) i (sG s 5).toNat (sT s i (sG s 5).toNat + (c - mn (sA s i 0) c)) i k = _
  rw [eT1, mT1, up2, up1]
  by_cases e : k = (sG s 5).toNat
  · rw [if_pos ⟨rfl, e⟩, if_pos e]
  · rw [if_neg (fun h => e h.2), if_neg e]
theorem em_tk (s : sS) (i : Nat) (c x : Int) {k : Nat} (hk : k < 60) : tk (crS s i c) i false x 60 i k = payd (eT1 s i c) x k := by
  rw [tk, if_pos ⟨rfl, hk, by rw [sg_f]; exact hk⟩, em_T1, sg_f]
theorem em_tko (s : sS) (i : Nat) (c x : Int) {j k : Nat} (hm : (sG s 5).toNat < 60) (h : ¬ (j = i ∧ k < 60)) : tk (crS s i c) i false x 60 j k = sT s j k := by
  rw [tk, if_neg (fun q => h ⟨q.1, q.2.1⟩)]
  exact up2_n _ _ (fun q => h ⟨q.1, by omega⟩)
theorem emZ {m e : Nat} {c : Int} (hZ : ZR (zA Z) (zB Z) s) (hi : i < 16) (hm : sG s 5 = m) (hm2 : m < 60) (he : sG s 1 = e) (he2 : e ≤ 24) (hc : 0 ≤ c ∧ c < 1152921504606846976) (hT : ∀ k, k < 60 → 0 ≤ sT s i k ∧ sT s i k < 1152921504606846976) (hg : 0 ≤ sA s i 0 ∧ sA s i 0 < 1152921504606846976 ∧ 0 ≤ sA s i 1 ∧ sA s i 1 < 1152921504606846976) (h37 : Z.2 37 0 0 i = oL c) :
    ∃ Z', Fr m30 Z Z' ∧ ZR (zA Z') (zB Z') (emS s i c) ∧ fX10_ends (oI i) Z = some Z' := by
  have hmn := mn_le (sA s i 0) c
  have hm0 := mn_nn hg.1 hc.1
  obtain ⟨Z1, a1, h1, a3⟩ := crZ (i := i) (c := c) hZ hi hm hm2 ⟨hc.1, by omega⟩ ⟨hg.1, by omega⟩
  have e1 : Z1.2 30 0 0 (2 + 6 * i + 1) = oL (sA s i 1) := (h1.ac (w := 1) hi (by omega)).trans (congrArg oL (show up2 (sA s) i 0 _ i 1 = _ from up2_n _ _ (by omega)))
  obtain ⟨Z2, b1, h2, b3⟩ := tkZ (i := i) (b := false) (x := sA s i 1) h1 hi ⟨hg.2.2.1, by omega⟩ (fun k hk => by
    have q1 := hT k hk
    have q2 := hT m hm2
    have q3 : sT (crS s i c) i k = eT1 s i c k := congrFun (em_T1 s i c) k
    rw [q3, eT1, mT1, hm, cl_nat, up1]
    split <;> omega)
  rw [em_T1] at b3
  have b3' : fX10_takesLots (oI i) (oL (sA s i 1)) (0 : Int32) Z1 = some (oL (eL s i c), Z2) := b3
  have e4 : Z2.2 30 0 0 (2 + 6 * i + 4) = oL (sA s i 4) := (h2.ac (w := 4) hi (by omega)).trans (congrArg oL (show up2 (sA s) i 0 _ i 4 = _ from up2_n _ _ (by omega)))
  have e2 : Z2.2 30 0 0 (2 + 6 * i + 1) = oL (sA s i 1) := (h2.ac (w := 1) hi (by omega)).trans (congrArg oL (show up2 (sA s) i 0 _ i 1 = _ from up2_n _ _ (by omega)))
  have h3 := h2.wA (i0 := i) (w0 := 4) (v := sA s i 4 + (sA s i 1 - eL s i c)) hi (by omega)
  have e5 : (wL Z2 30 0 0 (2 + 6 * i + 4) (oL (sA s i 4 + (sA s i 1 - eL s i c)))).2 30 0 0 (2 + 6 * i + 2) = oL (sA s i 2) := (h3.ac (w := 2) hi (by omega)).trans (congrArg oL (show up2 (up2 (sA s) i 0 _) i 4 _ i 2 = _ from (up2_n _ _ (by omega)).trans (up2_n _ _ (by omega))))
  have h5 := (h3.wA (i0 := i) (w0 := 2) (v := sA s i 2 + eL s i c) hi (by omega)).wA (i0 := i) (w0 := 1) (v := 0) hi (by omega)
  generalize hZ5 : wL (wL (wL Z2 30 0 0 (2 + 6 * i + 4) (oL (sA s i 4 + (sA s i 1 - eL s i c)))) 30 0 0 (2 + 6 * i + 2) (oL (sA s i 2 + eL s i c))) 30 0 0 (2 + 6 * i + 1) (oL 0) = Z5 at h5
  have f5 : Fr m30 Z Z5 := by rw [← hZ5]; exact (((a1.trans b1).wL rfl).wL rfl).wL rfl
  have g5 : Z5.1 27 0 0 5 = oI m := (h5.g (k := 5) (by omega)).trans (congrArg oI hm)
  have g1 : Z5.1 27 0 0 1 = oI e := (h5.g (k := 1) (by omega)).trans (congrArg oI he)
  have g0 : Z5.2 30 0 0 0 = oL (sF s 0) := h5.fo (by omega)
  have hpre : ∀ (R : sM → Option sM), (∀ q, R q = (ltb ((q.1 27 0 0 (5 : Int32).toNatClampNeg) - (q.1 27 0 0 (1 : Int32).toNatClampNeg)) fun x5_20 =>
                  if 0 ≤ x5_20 then (
                    Option.bind (fX10_lotAt (oI i) x5_20 q) fun r_22 =>
                    gd (inb r_22 1058) (
                      ltb (wL q 30 0 0 (0 : Int32).toNatClampNeg ((q.2 30 0 0 (0 : Int32).toNatClampNeg) + (q.2 30 0 0 r_22.toNatClampNeg))) fun Z_25 =>
                      Option.bind (fX10_accountAt (oI i) (5 : Int32) Z_25) fun r_26 =>
                      gd (inb r_26 1058) (
                        Option.bind (fX10_lotAt (oI i) x5_20 Z_25) fun r_28 =>
                        gd (inb r_28 1058) (
                          gd (inb r_26 1058) (
                            ltb (wL Z_25 30 0 0 r_26.toNatClampNeg ((Z_25.2 30 0 0 r_26.toNatClampNeg) + (Z_25.2 30 0 0 r_28.toNatClampNeg))) fun Z_31 =>
                            Option.bind (fX10_lotAt (oI i) x5_20 Z_31) fun r_32 =>
                            gd (inb r_32 1058) (
                              ltb (wL Z_31 30 0 0 r_32.toNatClampNeg (0 : Int64)) fun Z_34 =>
                              some Z_34))))))
                  else (
                    some q))) → fX10_ends (oI i) Z = R Z5 := by
    intro R hR
    rw [hR, fX10_ends, inbA (by omega) (by omega), gd_true, clpA (by omega), h37, a3, bd_eq, acc1, bd_eq, inbA (by omega) (by omega), gd_true, clpA (by omega), e1, b3', bd2_eq, acc4, bd_eq, inbA (by omega) (by omega), gd_true, gd_true, gd_true, clpA (by omega), e4, e2, oL_sub, oL_add, ltb_eq, acc2, bd_eq, inbA (by omega) (by omega), gd_true, gd_true, clpA (by omega), e5, oL_add, ltb_eq, gd_true, kL_0, ltb_eq, hZ5]
  by_cases q : e ≤ m
  · have hk : m - e < 60 := by omega
    have hX : eX s i c = payd (eT1 s i c) (sA s i 1) (m - e) := by rw [eX, hm, he, if_pos (by omega), cl_nat, cl_nat]
    have l5 : Z5.2 30 0 0 (98 + 60 * i + (m - e)) = oL (eX s i c) := (h5.lt hi hk).trans (congrArg oL (show tk (crS s i c) i false (sA s i 1) 60 i (m - e) = _ by rw [em_tk s i c _ hk, hX]))
    have h6 := h5.wF (k0 := 0) (v := sF s 0 + eX s i c) (by omega)
    have l6 : (wL Z5 30 0 0 0 (oL (sF s 0 + eX s i c))).2 30 0 0 (98 + 60 * i + (m - e)) = oL (eX s i c) := by rw [wL_2, if_neg (by omega)]; exact l5
    have a6 : (wL Z5 30 0 0 0 (oL (sF s 0 + eX s i c))).2 30 0 0 (2 + 6 * i + 5) = oL (sA s i 5) := (h6.ac (w := 5) hi (by omega)).trans (congrArg oL (show up2 (up2 (up2 (up2 (sA s) i 0 _) i 4 _) i 2 _) i 1 _ i 5 = _ from (up2_n _ _ (by omega)).trans ((up2_n _ _ (by omega)).trans ((up2_n _ _ (by omega)).trans (up2_n _ _ (by omega))))))
    have h7 := (h6.wA (i0 := i) (w0 := 5) (v := sA s i 5 + eX s i c) hi (by omega)).wT (i0 := i) (m0 := m - e) (v := 0) hi hk
    refine ⟨wL (wL (wL Z5 30 0 0 0 (oL (sF s 0 + eX s i c))) 30 0 0 (2 + 6 * i + 5) (oL (sA s i 5 + eX s i c))) 30 0 0 (98 + 60 * i + (m - e)) (oL 0), ((f5.wL rfl).wL rfl).wL rfl, ?_, ?_⟩
    · have hs : emS s i c = (sG s, sH s, sRt s, sB s, sD s, sE s, sC s, up1 (sF s) 0 (sF s 0 + eX s i c), up2 (up2 (up2 (up2 (up2 (sA s) i 0 (sA s i 0 - mn (sA s i 0) c)) i 4 (sA s i 4 + (sA s i 1 - eL s i c))) i 2 (sA s i 2 + eL s i c)) i 1 0) i 5 (sA s i 5 + eX s i c), up2 (tk (crS s i c) i false (sA s i 1) 60) i (m - e) 0) := by
        rw [em_A, emS, show emT s i c = up2 (tk (crS s i c) i false (sA s i 1) 60) i (m - e) 0 by
          funext j k
          rw [emT, up2, hm, he, cl_nat, cl_nat]
          by_cases p1 : j = i ∧ k < 60
          · rw [if_pos p1]
            by_cases p2 : k = m - e
            · rw [if_pos ⟨by omega, p2⟩, if_pos ⟨p1.1, p2⟩]
            · rw [if_neg (fun h => p2 h.2), if_neg (fun h => p2 h.2), p1.1, em_tk s i c _ p1.2]
          · rw [if_neg p1, if_neg (by omega), em_tko s i c _ (by omega) p1]]
      rw [hs]; exact h7
    · rw [hpre _ (fun _ => rfl), tn_5, tn_1, g5, g1, oI_sub, ltb_eq, if_pos (by simp (disch := omega) only [kI_0, kI_1, kI_2, kI_3, kI_4, kI_5, kI_6, kI_7, kI_8, kI_9, kI_10, kI_12, kI_16, kI_17, kI_19, kI_20, kI_23, kI_24, kI_30, kI_32, kI_36, kI_48, kI_57, kI_59, kI_60, kI_72, kI_80, kI_84, kI_97, kI_98, kI_100, kI_122, kI_148, kI_200, kI_300, kI_1058, kI_1108, kI_1348, kI_1588, kI_5290, kI_7940, kI_100000, kI_e7, kI_e9, kL_0, kL_1, kL_5, kL_9, kL_10, kL_12, kL_23, kL_30, kL_48, kL_57, kL_59, kL_97, kL_100, kL_122, kL_1000, kL_e7, kL_e9, kL_e10, oI_lt, oI_le, oI_eq, oL_lt, oL_le, oL_eq, oI_L, oI_clamp, oI_inb, oL_nz]; omega), lotZ (k := m - e) hi hk (by rw [show ((m - e : Nat) : Int) = (m : Int) - e by omega]), bd_eq, inbA (by omega) (by omega), gd_true, clpA (by omega), tn_0, g0, l5, oL_add, ltb_eq, acc5, bd_eq, inbA (by omega) (by omega), gd_true, lotZ (k := m - e) hi hk (by rw [show ((m - e : Nat) : Int) = (m : Int) - e by omega]), bd_eq, inbA (by omega) (by omega), gd_true, gd_true, clpA (by omega), clpA (by omega), a6, l6, oL_add, ltb_eq, lotZ (k := m - e) hi hk (by rw [show ((m - e : Nat) : Int) = (m : Int) - e by omega]), bd_eq, inbA (by omega) (by omega), gd_true, clpA (by omega), kL_0, ltb_eq]
  · have hX : eX s i c = 0 := by rw [eX, hm, he, if_neg (by omega)]
    refine ⟨Z5, f5, ?_, ?_⟩
    · have hs : emS s i c = (sG s, sH s, sRt s, sB s, sD s, sE s, sC s, sF s, up2 (up2 (up2 (up2 (sA s) i 0 (sA s i 0 - mn (sA s i 0) c)) i 4 (sA s i 4 + (sA s i 1 - eL s i c))) i 2 (sA s i 2 + eL s i c)) i 1 0, tk (crS s i c) i false (sA s i 1) 60) := by
        rw [em_A0 s i c hX, emS, hX, Int.add_zero, up1_self, show emT s i c = tk (crS s i c) i false (sA s i 1) 60 by
          funext j k
          rw [emT, hm, he]
          by_cases p1 : j = i ∧ k < 60
          · rw [if_pos p1, if_neg (by omega), p1.1, em_tk s i c _ p1.2]
          · rw [if_neg p1, em_tko s i c _ (by omega) p1]]
      rw [hs]; exact h5
    · rw [hpre _ (fun _ => rfl), tn_5, tn_1, g5, g1, oI_sub, ltb_eq, if_neg (by simp (disch := omega) only [kI_0, kI_1, kI_2, kI_3, kI_4, kI_5, kI_6, kI_7, kI_8, kI_9, kI_10, kI_12, kI_16, kI_17, kI_19, kI_20, kI_23, kI_24, kI_30, kI_32, kI_36, kI_48, kI_57, kI_59, kI_60, kI_72, kI_80, kI_84, kI_97, kI_98, kI_100, kI_122, kI_148, kI_200, kI_300, kI_1058, kI_1108, kI_1348, kI_1588, kI_5290, kI_7940, kI_100000, kI_e7, kI_e9, kL_0, kL_1, kL_5, kL_9, kL_10, kL_12, kL_23, kL_30, kL_48, kL_57, kL_59, kL_97, kL_100, kL_122, kL_1000, kL_e7, kL_e9, kL_e10, oI_lt, oI_le, oI_eq, oL_lt, oL_le, oL_eq, oI_L, oI_clamp, oI_inb, oL_nz]; omega)]
end
