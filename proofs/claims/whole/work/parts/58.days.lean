/-! Days pass. -/
def dyD (s : sS) (m : Nat) (w : Int) (k : Nat) : Nat → Nat → Int := fun m' i => if m' = m ∧ i < k then sD s m' i + w * sB s i 4 else sD s m' i
section
variable {A Z : sM} {s : sS} {N n : Nat}
theorem dyD_s (s : sS) (m : Nat) (w : Int) (k : Nat) : dyD s m w (k + 1) = up2 (dyD s m w k) m k (sD s m k + w * sB s k 4) := by
  funext m' i
  rw [dyD, up2, dyD]
  by_cases e : m' = m ∧ i = k
  · rw [if_pos (by omega), if_pos e, e.1, e.2]
  · rw [if_neg e]
    by_cases e2 : m' = m ∧ i < k
    · rw [if_pos (by omega), if_pos e2]
    · rw [if_neg (by omega), if_neg e2]
theorem dyD_0 (s : sS) (m : Nat) (w : Int) : dyD s m w 0 = sD s := by
  funext m' i
  rw [dyD, if_neg (by omega)]
def m24 (c _ o : Nat) : Bool := c == 24 && decide (o < 16)
theorem m24_mv {A A' : sM} (h : Fr m24 A A') : Fr mvA A A' := h.mono fun c k o hq => by
  by_cases e : c = 24
  · subst e
    simp [mvA, wkA] at hq
    simp [m24]; omega
  · simp [m24, e]
theorem adA_L (hN : N ≤ 16) {m : Nat} (hm : sG s 5 = m) (hm2 : m < 60) {w : Int} : ∀ (fuel i : Nat) (A : sM), i ≤ N → N - i < fuel → SR A 0 (uD s (dyD s m w i)) N → ∃ A', Fr m24 A A' ∧ SR A' 0 (uD s (dyD s m w N)) N ∧ fX0_addDays_L12 0 (oI w) (fun A => some A) fuel (oI i) A = some A' := by
  intro fuel
  induction fuel with
  | zero => intro i A _ h; omega
  | succ fuel ih =>
    intro i A hi hfu hS
    have hmon : A.1 0 4 0 0 = oI (m : Int) := hS.mon.trans (by rw [show sG (uD s (dyD s m w i)) 5 = sG s 5 from rfl, hm])
    rw [fX0_addDays_L12, hS.cnt]
    by_cases e : i = N
    · refine ⟨A, Fr.refl _, by rw [← e]; rw [e] at hS ⊢; exact hS, ?_⟩
      rw [if_pos (by simp (disch := omega) only [oI_lt, oI_le, oI_eq, oL_lt, oL_le, oL_eq, oI_L, oI_clamp, oI_inb, oL_nz]; omega)]
    · have hi2 : i < N := by omega
      have ed : A.1 24 0 (16 * 0 + i) m = oI (sD s m i) := (hS.dy hi2 hm2).trans (by
        show oI (dyD s m w i m i) = _
        rw [dyD, if_neg (by omega)])
      have es : A.1 8 4 (16 * 0 + i) 0 = oI (sB s i 4) := hS.sh hi2
      have hS1 : SR (wI A 24 0 (16 * 0 + i) m (oI (sD s m i + w * sB s i 4))) 0 (uD s (dyD s m w (i + 1))) N := by
        rw [dyD_s]
        exact hS.wD hi2 hm2
      obtain ⟨A', u1, u2, u3⟩ := ih (i + 1) _ (by omega) (by omega) hS1
      refine ⟨A', Fr.trans ((Fr.refl _).wI (by simp [m24]; omega)) u1, u2, ?_⟩
      rw [if_neg (by simp (disch := omega) only [oI_lt, oI_le, oI_eq, oL_lt, oL_le, oL_eq, oI_L, oI_clamp, oI_inb, oL_nz]; omega), hmon]
      simp (disch := omega) only [kI_0, kI_1, kI_2, kI_3, kI_4, kI_5, kI_6, kI_7, kI_8, kI_9, kI_10, kI_12, kI_16, kI_17, kI_19, kI_20, kI_23, kI_24, kI_30, kI_32, kI_36, kI_48, kI_57, kI_59, kI_60, kI_72, kI_80, kI_84, kI_97, kI_98, kI_100, kI_122, kI_148, kI_200, kI_300, kI_1058, kI_1108, kI_1348, kI_1588, kI_5290, kI_7940, kI_100000, kI_e7, kI_e9, kL_0, kL_1, kL_5, kL_9, kL_10, kL_12, kL_23, kL_30, kL_48, kL_57, kL_59, kL_97, kL_100, kL_122, kL_1000, kL_e7, kL_e9, kL_e10, oI_lt, oI_le, oI_eq, oL_lt, oL_le, oL_eq, oI_L, oI_clamp, oI_inb, oL_nz, gd_true, ltb_eq, bd_eq, bd2_eq, rq_none, rq_thr, xc_val, xc_thr, oI_add, oI_sub, oI_mul, oI_neg, oL_add, oL_sub, oL_mul, oL_neg, oL_I, cl_nat, nat1, ed, es]
      rw [Int.mul_comm (sB s i 4) w]
      exact u3
theorem adZ_L (h1 : W1 s N) {m : Nat} (hm : sG s 5 = m) (hm2 : m < 60) {w : Int} (kk : sM → Option (Int32 × sM)) : ∀ (fuel i : Nat) (Z : sM), i ≤ N → N - i < fuel → ZR (zA Z) (zB Z) (uD s (dyD s m w i)) → ∃ Z', Fr m27 Z Z' ∧ ZR (zA Z') (zB Z') (uD s (dyD s m w N)) ∧ fX10_passDays_L65 (oI w) kk fuel (oI i) Z = kk Z' := by
  obtain ⟨_, _, _, _, _, _, _, g7, hN⟩ := id h1
  intro fuel
  induction fuel with
  | zero => intro i Z _ h; omega
  | succ fuel ih =>
    intro i Z hi hfu hZ
    have e5 : Z.1 27 0 0 (5 : Int32).toNatClampNeg = oI (m : Int) := (hZ.g (k := 5) (by omega)).trans (by rw [show sG (uD s (dyD s m w i)) 5 = sG s 5 from rfl, hm])
    have e7 : Z.1 27 0 0 (7 : Int32).toNatClampNeg = oI N := (hZ.g (k := 7) (by omega)).trans (by rw [show sG (uD s (dyD s m w i)) 7 = sG s 7 from rfl, g7])
    rw [fX10_passDays_L65, e7, e5]
    by_cases e : i = N
    · refine ⟨Z, Fr.refl _, by rw [e] at hZ; exact hZ, ?_⟩
      rw [if_pos (by simp (disch := omega) only [oI_lt, oI_le, oI_eq, oL_lt, oL_le, oL_eq, oI_L, oI_clamp, oI_inb, oL_nz]; omega)]
    · have ed : Z.1 27 0 0 (148 + 16 * m + i) = oI (sD s m i) := (hZ.dy hm2 (by omega)).trans (by
        show oI (dyD s m w i m i) = _
        rw [dyD, if_neg (by omega)])
      have hZ1 : ZR (zA (wI Z 27 0 0 (148 + 16 * m + i) (oI (sD s m i + w * sB s i 4)))) (zB (wI Z 27 0 0 (148 + 16 * m + i) (oI (sD s m i + w * sB s i 4)))) (uD s (dyD s m w (i + 1))) := by
        rw [dyD_s]
        exact hZ.wD hm2 (by omega)
      obtain ⟨Z', u1, u2, u3⟩ := ih (i + 1) _ (by omega) (by omega) hZ1
      refine ⟨Z', Fr.trans ((Fr.refl _).wI rfl) u1, u2, ?_⟩
      rw [if_neg (by simp (disch := omega) only [oI_lt, oI_le, oI_eq, oL_lt, oL_le, oL_eq, oI_L, oI_clamp, oI_inb, oL_nz]; omega), fX10_daysAt, bd_eq, kI_148, kI_16, oI_mul, oI_add, oI_add, oI_inb (by omega) (by omega) (by omega), gd_true, kI_4, ofM4 hZ (by omega), bd_eq, gd_true, oI_clamp (by omega) (by omega), show (148 + 16 * (m : Int) + (i : Int)).toNat = 148 + 16 * m + i by omega, ed, oI_mul, oI_add, ltb_eq, ltb_eq, kI_1, oI_add, nat1]
      exact u3
theorem WF_day (hW : WF n s N) {m : Nat} (hm : sG s 5 = m) {w : Int} (hw : 1 ≤ w) (hw2 : sG s 6 + w ≤ 30) : WF n (uG (uD s (dyD s m w N)) (up1 (sG s) 6 (sG s 6 + w))) N := by
  obtain ⟨w1, w2, w3, w4, w5, w6, w7, w8⟩ := id hW
  obtain ⟨h0, h1, h2, h3, h4, h5, h6, h7, hN⟩ := id w1
  have g : ∀ k, ¬ k = 6 → sG (uG (uD s (dyD s m w N)) (up1 (sG s) 6 (sG s 6 + w))) k = sG s k := fun k hk => up1_n _ _ hk
  have g6 : sG (uG (uD s (dyD s m w N)) (up1 (sG s) 6 (sG s 6 + w))) 6 = sG s 6 + w := (show up1 (sG s) 6 (sG s 6 + w) 6 = _ from up1_s _ _ _)
  have hd : ∀ m' i, ¬ m' = m → dyD s m w N m' i = sD s m' i := fun m' i q => by rw [dyD, if_neg (fun z => q z.1)]
  have hd2 : ∀ i, N ≤ i → dyD s m w N m i = sD s m i := fun i q => by rw [dyD, if_neg (by omega)]
  have hd3 : ∀ i, i < N → dyD s m w N m i = sD s m i + w * sB s i 4 := fun i q => by rw [dyD, if_pos ⟨rfl, q⟩]
  refine ⟨⟨?_, ?_, ?_, ?_, ?_, ?_, ?_, ?_⟩, ⟨fun h hh => ?_, w2.2⟩, ⟨fun j hj => ?_, w3.2.1, w3.2.2.1, w3.2.2.2.1, w3.2.2.2.2.1, ?_⟩, w4, ⟨fun m' i hm' hi => ?_, fun m' i hm' h1 h2 => ?_, fun m' i hm' hi q => ?_, fun m' q => ?_, fun m' q => ?_⟩, ⟨w6.1, fun m' p hm' hp => ?_⟩, ⟨w7.1, w7.2.1, w7.2.2.1, fun i m' hi hm' q => ?_⟩, ⟨?_, w8.2⟩⟩
  · rw [g 0 (by omega)]; exact h0
  · rw [g 1 (by omega)]; exact h1
  · rw [g 2 (by omega)]; exact h2
  · rw [g 3 (by omega)]; exact h3
  · rw [g 4 (by omega)]; exact h4
  · rw [g 5 (by omega)]; exact h5
  · rw [g6]; omega
  · rw [g 7 (by omega)]; exact ⟨h7, hN⟩
  · rw [g 4 (by omega)]; exact w2.1 h hh
  · rw [g 0 (by omega)]; exact w3.1 j hj
  · rw [g 0 (by omega)]; exact w3.2.2.2.2.2
  · show 0 ≤ dyD s m w N m' i
    have := w5.1 m' i hm' hi
    rw [dyD]
    split
    · have := Int.mul_nonneg (show 0 ≤ w by omega) (w3.2.1 i hi); omega
    · exact this
  · show dyD s m w N m' i = 0
    have := w5.2.1 m' i hm' h1 h2
    rw [dyD, if_neg (by omega)]; exact this
  · rw [g 5 (by omega)] at q
    show dyD s m w N m' i = 0
    rw [hd m' i (by omega)]; exact w5.2.2.1 m' i hm' hi q
  · rw [g 5 (by omega)] at q
    rw [g 0 (by omega)]
    show sumN (fun i => dyD s m w N m' i) N ≤ _
    rw [sumN_congr (g := fun i => sD s m' i) (fun i _ => hd m' i (by omega))]
    exact w5.2.2.2.1 m' q
  · rw [g 5 (by omega)] at q
    have em : m' = m := by omega
    rw [g 0 (by omega), g6]
    show sumN (fun i => dyD s m w N m' i) N ≤ _
    rw [em, sumN_congr (g := fun i => sD s m i + w * sB s i 4) (fun i hi => hd3 i hi), sumN_add, sumN_mul]
    have a1 := w5.2.2.2.2 m (by omega)
    have a2 : w * sumN (fun i => sB s i 4) N ≤ w * sG s 0 := Int.mul_le_mul_of_nonneg_left w3.2.2.2.2.2 (by omega)
    rw [Int.add_mul]
    have a3 : sumN (fun i => sD s m i) N = sumN (sD s m) N := rfl
    omega
  · rw [g 5 (by omega), g 4 (by omega)]; exact w6.2 m' p hm' hp
  · rw [g 5 (by omega), g 1 (by omega)] at q; exact w7.2.2.2 i m' hi hm' q
  · have e : sumN (pot (uG (uD s (dyD s m w N)) (up1 (sG s) 6 (sG s 6 + w)))) 240 = sumN (pot s) 240 := sumN_congr fun k _ => by
      show sRt s (k % 4) * (if sG (uG (uD s (dyD s m w N)) (up1 (sG s) 6 (sG s 6 + w))) 5 ≤ _ then _ else _) = _
      rw [g 5 (by omega)]; rfl
    rw [e]; exact w8.1
end
theorem psd {n : Nat} {A Z : sM} (hI : Inv n A Z) (x : Int32) : OKI n (fL_passDays x A) (fX10_passDays x Z) := by
  obtain ⟨⟨s, N, hS, hZ, hW⟩, hR⟩ := id hI
  obtain ⟨w1, w2, w3, w4, w5, w6, w7, w8⟩ := id hW
  obtain ⟨g0, g1, g2, g3, g4, g5, g6, g7, hN⟩ := id w1
  obtain ⟨w, a1, a2, rfl⟩ := I_ex x
  obtain ⟨m, hm⟩ : ∃ m : Nat, sG s 5 = m := ⟨(sG s 5).toNat, by omega⟩
  have e6 : Z.1 27 0 0 (6 : Int32).toNatClampNeg = oI (sG s 6) := hZ.g (k := 6) (by omega)
  by_cases hw : 1 ≤ w ∧ w ≤ 30
  · by_cases hs : sG s 6 + w ≤ 30
    · obtain ⟨A1, Z1, k1, k2, k3, k4, k5, k6, k7⟩ := keep0 ⟨hS, hZ, hW⟩ hR
      have hS1 : SR (wI A1 0 5 0 0 (oI (sG s 6 + w))) 0 (uD (uG s (up1 (sG s) 6 (sG s 6 + w))) (dyD (uG s (up1 (sG s) 6 (sG s 6 + w))) m w 0)) N := by
        rw [dyD_0]; exact k3.wDay (z0 := 0) rfl
      have hm' : sG (uG s (up1 (sG s) 6 (sG s 6 + w))) 5 = m := (show up1 (sG s) 6 (sG s 6 + w) 5 = _ from (up1_n _ _ (by omega)).trans hm)
      obtain ⟨A2, u1, u2, u3⟩ := adA_L (s := uG s (up1 (sG s) 6 (sG s 6 + w))) (w := w) hN hm' (by omega) 10000 0 _ (by omega) (by omega) hS1
      have hZ1 : ZR (zA (wI Z1 27 0 0 6 (oI (sG s 6 + w)))) (zB (wI Z1 27 0 0 6 (oI (sG s 6 + w)))) (uD (uG s (up1 (sG s) 6 (sG s 6 + w))) (dyD (uG s (up1 (sG s) 6 (sG s 6 + w))) m w 0)) := by
        rw [dyD_0]; exact k4.wG (k0 := 6) (by omega)
      have hW2 : WF (n + 1) (uG (uD s (dyD s m w N)) (up1 (sG s) 6 (sG s 6 + w))) N := WF_day (hW.mono (by omega)) hm (by omega) hs
      obtain ⟨Z2, v1, v2, v3⟩ := adZ_L (s := uG s (up1 (sG s) 6 (sG s 6 + w))) (w := w) hW2.1 hm' (by omega) (fun (Z_9 : sM) => some (Z_9.1 27 0 0 (6 : Int32).toNatClampNeg, Z_9)) 10000 0 _ (by omega) (by omega) hZ1
      have ez : Z2.1 27 0 0 (6 : Int32).toNatClampNeg = oI (sG s 6 + w) := (v2.g (k := 6) (by omega)).trans (by
        show oI (up1 (sG s) 6 (sG s 6 + w) 6) = _
        rw [up1_s])
      have ea : A2.1 0 5 0 0 = oI (sG s 6 + w) := u2.day.trans (by
        show oI (up1 (sG s) 6 (sG s 6 + w) 6) = _
        rw [up1_s])
      refine OKI.m (v := oI (sG s 6 + w)) (A2 := A2) (Z2 := Z2) k5 ?_ ?_ (by rw [v1.i rfl, wI_1, if_neg (by omega)]; exact k6) (Fr.trans ((Fr.refl _).wI rfl) (m24_mv u1)) (Fr.trans ((Fr.refl _).wI rfl) (m27_mv v1)) u2 v2 hW2
      · have e9 : fX9_passDays (oI w) A = some (.inr (oI (sG s 6 + w)), A2) := by
          rw [fX9_passDays, if_neg (by simp (disch := omega) only [kI_0, kI_1, kI_2, kI_3, kI_4, kI_5, kI_6, kI_7, kI_8, kI_9, kI_10, kI_12, kI_16, kI_17, kI_19, kI_20, kI_23, kI_24, kI_30, kI_32, kI_36, kI_48, kI_57, kI_59, kI_60, kI_72, kI_80, kI_84, kI_97, kI_98, kI_100, kI_122, kI_148, kI_200, kI_300, kI_1058, kI_1108, kI_1348, kI_1588, kI_5290, kI_7940, kI_100000, kI_e7, kI_e9, kL_0, kL_1, kL_5, kL_9, kL_10, kL_12, kL_23, kL_30, kL_48, kL_57, kL_59, kL_97, kL_100, kL_122, kL_1000, kL_e7, kL_e9, kL_e10, oI_lt, oI_le, oI_eq, oL_lt, oL_le, oL_eq, oI_L, oI_clamp, oI_inb, oL_nz]; omega), if_pos (by simp (disch := omega) only [kI_0, kI_1, kI_2, kI_3, kI_4, kI_5, kI_6, kI_7, kI_8, kI_9, kI_10, kI_12, kI_16, kI_17, kI_19, kI_20, kI_23, kI_24, kI_30, kI_32, kI_36, kI_48, kI_57, kI_59, kI_60, kI_72, kI_80, kI_84, kI_97, kI_98, kI_100, kI_122, kI_148, kI_200, kI_300, kI_1058, kI_1108, kI_1348, kI_1588, kI_5290, kI_7940, kI_100000, kI_e7, kI_e9, kL_0, kL_1, kL_5, kL_9, kL_10, kL_12, kL_23, kL_30, kL_48, kL_57, kL_59, kL_97, kL_100, kL_122, kL_1000, kL_e7, kL_e9, kL_e10, oI_lt, oI_le, oI_eq, oL_lt, oL_le, oL_eq, oI_L, oI_clamp, oI_inb, oL_nz]; omega), hS.day, kI_30, oI_sub, if_pos (by simp (disch := omega) only [oI_lt, oI_le, oI_eq, oL_lt, oL_le, oL_eq, oI_L, oI_clamp, oI_inb, oL_nz]; omega), k1, bd_eq, fX0_addDays, ltb_eq, k3.day, oI_add, show (0 : Int32) = oI (0 : Nat) from rfl, u3, bd_eq, ea]
        rw [fL_passDays, e9]
        rfl
      · rw [fX10_passDays, oI_L (by omega) (by omega), kL_1, kL_30, isIn_t _ (by omega) (by omega) (by omega), bd_eq, ltb_eq, if_neg one_ne, e6, oI_add, if_pos (by simp (disch := omega) only [kI_0, kI_1, kI_2, kI_3, kI_4, kI_5, kI_6, kI_7, kI_8, kI_9, kI_10, kI_12, kI_16, kI_17, kI_19, kI_20, kI_23, kI_24, kI_30, kI_32, kI_36, kI_48, kI_57, kI_59, kI_60, kI_72, kI_80, kI_84, kI_97, kI_98, kI_100, kI_122, kI_148, kI_200, kI_300, kI_1058, kI_1108, kI_1348, kI_1588, kI_5290, kI_7940, kI_100000, kI_e7, kI_e9, kL_0, kL_1, kL_5, kL_9, kL_10, kL_12, kL_23, kL_30, kL_48, kL_57, kL_59, kL_97, kL_100, kL_122, kL_1000, kL_e7, kL_e9, kL_e10, oI_lt, oI_le, oI_eq, oL_lt, oL_le, oL_eq, oI_L, oI_clamp, oI_inb, oL_nz]; omega)]
        dsimp only
        rw [ltb_eq, thr_yes, kI_0, k2, bd_eq, ltb_eq, show Z1.1 27 0 0 (6 : Int32).toNatClampNeg = oI (sG s 6) from k4.g (k := 6) (by omega), oI_add, show oI 0 = oI (0 : Nat) from rfl]
        exact v3.trans (by rw [ez])
    · refine OKI.t (r := 2) (v := 0) hI ?_ ?_ (thr_g Z _) (by decide) (Fr.refl _) (frT Z _)
      · have e9 : fX9_passDays (oI w) A = some (.inl 2, A) := by
          rw [fX9_passDays, if_neg (by simp (disch := omega) only [kI_0, kI_1, kI_2, kI_3, kI_4, kI_5, kI_6, kI_7, kI_8, kI_9, kI_10, kI_12, kI_16, kI_17, kI_19, kI_20, kI_23, kI_24, kI_30, kI_32, kI_36, kI_48, kI_57, kI_59, kI_60, kI_72, kI_80, kI_84, kI_97, kI_98, kI_100, kI_122, kI_148, kI_200, kI_300, kI_1058, kI_1108, kI_1348, kI_1588, kI_5290, kI_7940, kI_100000, kI_e7, kI_e9, kL_0, kL_1, kL_5, kL_9, kL_10, kL_12, kL_23, kL_30, kL_48, kL_57, kL_59, kL_97, kL_100, kL_122, kL_1000, kL_e7, kL_e9, kL_e10, oI_lt, oI_le, oI_eq, oL_lt, oL_le, oL_eq, oI_L, oI_clamp, oI_inb, oL_nz]; omega), if_pos (by simp (disch := omega) only [kI_0, kI_1, kI_2, kI_3, kI_4, kI_5, kI_6, kI_7, kI_8, kI_9, kI_10, kI_12, kI_16, kI_17, kI_19, kI_20, kI_23, kI_24, kI_30, kI_32, kI_36, kI_48, kI_57, kI_59, kI_60, kI_72, kI_80, kI_84, kI_97, kI_98, kI_100, kI_122, kI_148, kI_200, kI_300, kI_1058, kI_1108, kI_1348, kI_1588, kI_5290, kI_7940, kI_100000, kI_e7, kI_e9, kL_0, kL_1, kL_5, kL_9, kL_10, kL_12, kL_23, kL_30, kL_48, kL_57, kL_59, kL_97, kL_100, kL_122, kL_1000, kL_e7, kL_e9, kL_e10, oI_lt, oI_le, oI_eq, oL_lt, oL_le, oL_eq, oI_L, oI_clamp, oI_inb, oL_nz]; omega), hS.day, kI_30, oI_sub, if_neg (by simp (disch := omega) only [oI_lt, oI_le, oI_eq, oL_lt, oL_le, oL_eq, oI_L, oI_clamp, oI_inb, oL_nz]; omega)]
        rw [fL_passDays, e9]
        rfl
      · rw [fX10_passDays, oI_L (by omega) (by omega), kL_1, kL_30, isIn_t _ (by omega) (by omega) (by omega), bd_eq, ltb_eq, if_neg one_ne, e6, oI_add, if_neg (by simp (disch := omega) only [kI_0, kI_1, kI_2, kI_3, kI_4, kI_5, kI_6, kI_7, kI_8, kI_9, kI_10, kI_12, kI_16, kI_17, kI_19, kI_20, kI_23, kI_24, kI_30, kI_32, kI_36, kI_48, kI_57, kI_59, kI_60, kI_72, kI_80, kI_84, kI_97, kI_98, kI_100, kI_122, kI_148, kI_200, kI_300, kI_1058, kI_1108, kI_1348, kI_1588, kI_5290, kI_7940, kI_100000, kI_e7, kI_e9, kL_0, kL_1, kL_5, kL_9, kL_10, kL_12, kL_23, kL_30, kL_48, kL_57, kL_59, kL_97, kL_100, kL_122, kL_1000, kL_e7, kL_e9, kL_e10, oI_lt, oI_le, oI_eq, oL_lt, oL_le, oL_eq, oI_L, oI_clamp, oI_inb, oL_nz]; omega)]
        dsimp only
        rw [ltb_eq, thr_no (by decide)]
        all_goals rfl
  · refine OKI.t (r := 1) (v := 0) hI ?_ ?_ (thr_g Z _) (by decide) (Fr.refl _) (frT Z _)
    · have e9 : fX9_passDays (oI w) A = some (.inl 1, A) := by
        rw [fX9_passDays]
        simp (disch := omega) only [kI_0, kI_1, kI_2, kI_3, kI_4, kI_5, kI_6, kI_7, kI_8, kI_9, kI_10, kI_12, kI_16, kI_17, kI_19, kI_20, kI_23, kI_24, kI_30, kI_32, kI_36, kI_48, kI_57, kI_59, kI_60, kI_72, kI_80, kI_84, kI_97, kI_98, kI_100, kI_122, kI_148, kI_200, kI_300, kI_1058, kI_1108, kI_1348, kI_1588, kI_5290, kI_7940, kI_100000, kI_e7, kI_e9, kL_0, kL_1, kL_5, kL_9, kL_10, kL_12, kL_23, kL_30, kL_48, kL_57, kL_59, kL_97, kL_100, kL_122, kL_1000, kL_e7, kL_e9, kL_e10, oI_lt, oI_le, oI_eq, oL_lt, oL_le, oL_eq, oI_L, oI_clamp, oI_inb, oL_nz]
        by_cases e : w < 1
        · rw [if_pos e]
        · rw [if_neg e, if_neg (by omega)]
      rw [fL_passDays, e9]
      rfl
    · rw [fX10_passDays, oI_L (by omega) (by omega), kL_1, kL_30, isIn_f _ (by omega) (by omega) (by omega) (by omega) (by omega) (by omega) (by omega), bd_eq, ltb_eq, if_pos nul_eq]
      dsimp only
      rw [ltb_eq, thr_no (by decide)]
      all_goals rfl
theorem case16 : CaseOK fL_case16 := by
  intro n L A Z xs x4 hn hI hin
  obtain ⟨_, i1, i2, i3, i4, i5⟩ := hin
  rw [fL_case16]
  simp only [i1, i2, i3, i4, i5, gd_true]
  exact OKI.c (psd hI _)
