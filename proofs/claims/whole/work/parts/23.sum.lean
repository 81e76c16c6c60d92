/-! Sums that both sides form. -/
theorem nat1 (i : Nat) : ((i : Int) + 1) = ((i + 1 : Nat) : Int) := rfl
theorem sumN_s (f : Nat → Int) (n : Nat) : sumN f (n + 1) = sumN f n + f n := rfl
section
variable {A Z : sM} {s : sS} {N n b : Nat}
theorem held_L (hS : SR A b s N) (hN : N ≤ 16) (k : Int32 → Option Int32) : ∀ (fuel i : Nat) (acc : Int), i ≤ N → N - i < fuel → fX0_heldShares_L4 b A k fuel (oI acc) (oI i) = k (oI (acc + (sumN (fun i => sB s i 4) N - sumN (fun i => sB s i 4) i))) := by
  intro fuel
  induction fuel with
  | zero => intro i acc _ h; omega
  | succ fuel ih =>
    intro i acc hi hf
    rw [fX0_heldShares_L4, hS.cnt]
    simp (disch := omega) only [oI_lt, oI_le, oI_eq, oL_lt, oL_le, oL_eq, oI_L, oI_clamp, oI_inb, oL_nz]
    by_cases e : i = N
    · subst e
      rw [if_pos (by omega)]
      exact congrArg (fun x => k (oI x)) (by omega)
    · rw [if_neg (by omega), gd_true, cl_nat, hS.sh (by omega)]
      simp only [ltb_eq, kI_0, kI_1, kI_2, kI_3, kI_4, kI_5, kI_6, kI_7, kI_8, kI_9, kI_10, kI_12, kI_16, kI_17, kI_19, kI_20, kI_23, kI_24, kI_30, kI_32, kI_36, kI_48, kI_57, kI_59, kI_60, kI_72, kI_80, kI_84, kI_97, kI_98, kI_100, kI_122, kI_148, kI_200, kI_300, kI_1058, kI_1108, kI_1348, kI_1588, kI_5290, kI_7940, kI_100000, kI_e7, kI_e9, kL_0, kL_1, kL_5, kL_9, kL_10, kL_12, kL_23, kL_30, kL_48, kL_57, kL_59, kL_97, kL_100, kL_122, kL_1000, kL_e7, kL_e9, kL_e10, oI_add, oI_sub, oI_mul, oI_neg, oL_add, oL_sub, oL_mul, oL_neg, oL_I, nat1]
      rw [ih (i + 1) _ (by omega) (by omega), sumN]
      exact congrArg (fun x => k (oI x)) (by omega)
theorem held (hS : SR A b s N) (hN : N ≤ 16) : fX0_heldShares b A = some (oI (sumN (fun i => sB s i 4) N)) := by
  rw [fX0_heldShares, kI_0, show oI 0 = oI (0 : Nat) from rfl, held_L hS hN _ 10000 0 _ (by omega) (by omega)]
  simp [sumN]
theorem unheld (hS : SR A b s N) (hN : N ≤ 16) : fX0_unheldShares b A = some (oI (sG s 0 - sumN (fun i => sB s i 4) N)) := by
  rw [fX0_unheldShares, held hS hN, bd_eq, hS.g (by omega), oI_sub]
theorem free_L (hZ : ZR (zA Z) (zB Z) s) (h1 : W1 s N) (k : Int32 → Option Int32) : ∀ (fuel i : Nat) (acc : Int), i ≤ N → N - i < fuel → fX10_free_L9 Z k fuel (oI acc) (oI i) = k (oI (acc - (sumN (fun i => sB s i 4) N - sumN (fun i => sB s i 4) i))) := by
  obtain ⟨_, _, _, _, _, _, _, h7, h8⟩ := h1
  intro fuel
  induction fuel with
  | zero => intro i acc _ h; omega
  | succ fuel ih =>
    intro i acc hi hf
    rw [fX10_free_L9]
    simp (disch := omega) only [kI_0, kI_1, kI_2, kI_3, kI_4, kI_5, kI_6, kI_7, kI_8, kI_9, kI_10, kI_12, kI_16, kI_17, kI_19, kI_20, kI_23, kI_24, kI_30, kI_32, kI_36, kI_48, kI_57, kI_59, kI_60, kI_72, kI_80, kI_84, kI_97, kI_98, kI_100, kI_122, kI_148, kI_200, kI_300, kI_1058, kI_1108, kI_1348, kI_1588, kI_5290, kI_7940, kI_100000, kI_e7, kI_e9, kL_0, kL_1, kL_5, kL_9, kL_10, kL_12, kL_23, kL_30, kL_48, kL_57, kL_59, kL_97, kL_100, kL_122, kL_1000, kL_e7, kL_e9, kL_e10, oI_lt, oI_le, oI_eq, oL_lt, oL_le, oL_eq, oI_L, oI_clamp, oI_inb, oL_nz, show (7 : Int).toNat = 7 from rfl, Zg hZ, h7]
    by_cases e : i = N
    · subst e
      rw [if_pos (by omega)]
      exact congrArg (fun x => k (oI x)) (by omega)
    · rw [if_neg (by omega), ofM4 hZ (by omega)]
      simp only [bd_eq, ltb_eq, oI_add, oI_sub, oI_mul, oI_neg, oL_add, oL_sub, oL_mul, oL_neg, oL_I, nat1]
      rw [ih (i + 1) _ (by omega) (by omega), sumN]
      exact congrArg (fun x => k (oI x)) (by omega)
theorem free (hZ : ZR (zA Z) (zB Z) s) (h1 : W1 s N) : fX10_free Z = some (oI (sG s 0 - sumN (fun i => sB s i 4) N)) := by
  have hN := h1.2.2.2.2.2.2.2.2
  rw [fX10_free]
  simp (disch := omega) only [gd_true, ltb_eq, bd_eq, bd2_eq, rq_none, rq_thr, xc_val, xc_thr, kI_0, kI_1, kI_2, kI_3, kI_4, kI_5, kI_6, kI_7, kI_8, kI_9, kI_10, kI_12, kI_16, kI_17, kI_19, kI_20, kI_23, kI_24, kI_30, kI_32, kI_36, kI_48, kI_57, kI_59, kI_60, kI_72, kI_80, kI_84, kI_97, kI_98, kI_100, kI_122, kI_148, kI_200, kI_300, kI_1058, kI_1108, kI_1348, kI_1588, kI_5290, kI_7940, kI_100000, kI_e7, kI_e9, kL_0, kL_1, kL_5, kL_9, kL_10, kL_12, kL_23, kL_30, kL_48, kL_57, kL_59, kL_97, kL_100, kL_122, kL_1000, kL_e7, kL_e9, kL_e10, oI_lt, oI_le, oI_eq, oL_lt, oL_le, oL_eq, oI_L, oI_clamp, oI_inb, oL_nz, show (0 : Int).toNat = 0 from rfl, Zg hZ]
  rw [show oI 0 = oI (0 : Nat) from rfl, free_L hZ h1 _ 10000 0 _ (by omega) (by omega)]
  simp [sumN]
theorem lotSum_L {o : Nat} {f : Nat → Int} (hf : ∀ m, m < 72 → A.2 25 0 o m = oL (f m)) (k : Int64 → Option Int64) : ∀ (fuel i : Nat) (acc : Int), i ≤ 72 → 72 - i < fuel → fX8_lotSum_L4 o A k fuel (oL acc) (oI i) = k (oL (acc + (sumN f 72 - sumN f i))) := by
  intro fuel
  induction fuel with
  | zero => intro i acc _ h; omega
  | succ fuel ih =>
    intro i acc hi hfu
    rw [fX8_lotSum_L4]
    simp (disch := omega) only [kI_0, kI_1, kI_2, kI_3, kI_4, kI_5, kI_6, kI_7, kI_8, kI_9, kI_10, kI_12, kI_16, kI_17, kI_19, kI_20, kI_23, kI_24, kI_30, kI_32, kI_36, kI_48, kI_57, kI_59, kI_60, kI_72, kI_80, kI_84, kI_97, kI_98, kI_100, kI_122, kI_148, kI_200, kI_300, kI_1058, kI_1108, kI_1348, kI_1588, kI_5290, kI_7940, kI_100000, kI_e7, kI_e9, kL_0, kL_1, kL_5, kL_9, kL_10, kL_12, kL_23, kL_30, kL_48, kL_57, kL_59, kL_97, kL_100, kL_122, kL_1000, kL_e7, kL_e9, kL_e10, oI_lt, oI_le, oI_eq, oL_lt, oL_le, oL_eq, oI_L, oI_clamp, oI_inb, oL_nz]
    by_cases e : i = 72
    · subst e
      rw [if_pos (by omega)]
      exact congrArg (fun x => k (oL x)) (by omega)
    · rw [if_neg (by omega), gd_true, cl_nat, hf i (by omega)]
      simp only [ltb_eq, oI_add, oI_sub, oI_mul, oI_neg, oL_add, oL_sub, oL_mul, oL_neg, oL_I, nat1]
      rw [ih (i + 1) _ (by omega) (by omega), sumN_s _ i]
      exact congrArg (fun x => k (oL x)) (by omega)
theorem lotSum {o : Nat} {f : Nat → Int} (hf : ∀ m, m < 72 → A.2 25 0 o m = oL (f m)) : fX8_lotSum o A = some (oL (sumN f 72)) := by
  rw [fX8_lotSum, kI_0, kL_0, show oI 0 = oI (0 : Nat) from rfl, lotSum_L hf _ 10000 0 _ (by omega) (by omega)]
  simp [sumN]
theorem sumN_cut (f : Nat → Int) (a : Nat) : ∀ d : Nat, sumN (fun m => if m < a then f m else 0) (a + d) = sumN f a
  | 0 => sumN_congr (fun i hi => if_pos hi)
  | d + 1 => by rw [← Nat.add_assoc, sumN, sumN_cut f a d, if_neg (by omega)]; omega
theorem lotSumS (hS : SR A b s N) {i : Nat} (hi : i < N) : fX8_lotSum (16 * b + i) A = some (oL (bal s i)) := by
  rw [lotSum (fun m hm => hS.lt hi hm), show (72 : Nat) = 60 + 12 from rfl, sumN_cut]
  rfl
theorem balOf_L {i : Nat} (hZ : ZR (zA Z) (zB Z) s) (hi : i < 16) (k : Int64 → Option Int64) : ∀ (fuel m : Nat) (acc : Int), m ≤ 60 → 60 - m < fuel → fX10_balanceOf_L5 (oI i) Z k fuel (oL acc) (oI m) = k (oL (acc + (bal s i - sumN (fun m => sT s i m) m))) := by
  intro fuel
  induction fuel with
  | zero => intro i acc _ h; omega
  | succ fuel ih =>
    intro m acc hm hfu
    rw [fX10_balanceOf_L5, fX10_lotAt]
    simp (disch := omega) only [kI_0, kI_1, kI_2, kI_3, kI_4, kI_5, kI_6, kI_7, kI_8, kI_9, kI_10, kI_12, kI_16, kI_17, kI_19, kI_20, kI_23, kI_24, kI_30, kI_32, kI_36, kI_48, kI_57, kI_59, kI_60, kI_72, kI_80, kI_84, kI_97, kI_98, kI_100, kI_122, kI_148, kI_200, kI_300, kI_1058, kI_1108, kI_1348, kI_1588, kI_5290, kI_7940, kI_100000, kI_e7, kI_e9, kL_0, kL_1, kL_5, kL_9, kL_10, kL_12, kL_23, kL_30, kL_48, kL_57, kL_59, kL_97, kL_100, kL_122, kL_1000, kL_e7, kL_e9, kL_e10, oI_add, oI_sub, oI_mul, oI_neg, oL_add, oL_sub, oL_mul, oL_neg, oL_I, oI_lt, oI_le, oI_eq, oL_lt, oL_le, oL_eq, oI_L, oI_clamp, oI_inb, oL_nz, gd_true, ltb_eq, bd_eq, bd2_eq, rq_none, rq_thr, xc_val, xc_thr]
    by_cases e : m = 60
    · subst e
      rw [if_pos (by omega), bal]
      exact congrArg (fun x => k (oL x)) (by omega)
    · rw [if_neg (by omega), show Z.2 30 0 0 (98 + 60 * (i : Int) + (m : Int)).toNat = oL (sT s i m) from hZ.lt hi (by omega)]
      simp (disch := omega) only [oI_add, oI_sub, oI_mul, oI_neg, oL_add, oL_sub, oL_mul, oL_neg, oL_I, oI_lt, oI_le, oI_eq, oL_lt, oL_le, oL_eq, oI_L, oI_clamp, oI_inb, oL_nz, gd_true, ltb_eq, bd_eq, bd2_eq, rq_none, rq_thr, xc_val, xc_thr, nat1]
      rw [ih (m + 1) _ (by omega) (by omega), sumN_s _ m]
      exact congrArg (fun x => k (oL x)) (by omega)
theorem balOf {i : Nat} (hZ : ZR (zA Z) (zB Z) s) (hi : i < 16) : fX10_balanceOf (oI i) Z = some (oL (bal s i)) := by
  rw [fX10_balanceOf, kI_0, kL_0, show oI 0 = oI (0 : Nat) from rfl, balOf_L hZ hi _ 10000 0 _ (by omega) (by omega)]
  simp [sumN]
/-- what a month's generation is worth -/
def worth (s : sS) (m : Nat) : Int := sumN (fun p => sE s (4 * m + p) * sRt s p) (sG s 4).toNat
theorem val_L (hS : SR A b s N) (h1 : W1 s N) (h2 : W2 s) (h6 : W6 s) {m : Nat} (hm : m < 60) (k : Int64 → Option Int64) : ∀ (fuel i : Nat) (acc : Int), i ≤ (sG s 4).toNat → (sG s 4).toNat - i < fuel → fX7_value_22_L5 b (oI m) b A k fuel (oL acc) (oI i) = k (oL (acc + (worth s m - sumN (fun p => sE s (4 * m + p) * sRt s p) i))) := by
  obtain ⟨_, _, _, _, h5, _⟩ := h1
  intro fuel
  induction fuel with
  | zero => intro i acc _ h; omega
  | succ fuel ih =>
    intro i acc hi hfu
    rw [fX7_value_22_L5, fX7_cell, hS.g (by omega)]
    simp (disch := omega) only [kI_0, kI_1, kI_2, kI_3, kI_4, kI_5, kI_6, kI_7, kI_8, kI_9, kI_10, kI_12, kI_16, kI_17, kI_19, kI_20, kI_23, kI_24, kI_30, kI_32, kI_36, kI_48, kI_57, kI_59, kI_60, kI_72, kI_80, kI_84, kI_97, kI_98, kI_100, kI_122, kI_148, kI_200, kI_300, kI_1058, kI_1108, kI_1348, kI_1588, kI_5290, kI_7940, kI_100000, kI_e7, kI_e9, kL_0, kL_1, kL_5, kL_9, kL_10, kL_12, kL_23, kL_30, kL_48, kL_57, kL_59, kL_97, kL_100, kL_122, kL_1000, kL_e7, kL_e9, kL_e10, oI_add, oI_sub, oI_mul, oI_neg, oL_add, oL_sub, oL_mul, oL_neg, oL_I, oI_lt, oI_le, oI_eq, oL_lt, oL_le, oL_eq, oI_L, oI_clamp, oI_inb, oL_nz, gd_true, ltb_eq, bd_eq, bd2_eq, rq_none, rq_thr, xc_val, xc_thr]
    by_cases e : i = (sG s 4).toNat
    · subst e
      rw [if_pos (by omega), worth]
      exact congrArg (fun x => k (oL x)) (by omega)
    · have h9 := h6.1 (4 * m + i) (by omega)
      have h8 := h2.2 i (by omega)
      rw [if_neg (by omega), show A.1 22 0 b ((m : Int) * 4 + (i : Int)).toNat = oI (sE s (4 * m + i)) from by rw [show ((m : Int) * 4 + (i : Int)).toNat = 4 * m + i by omega]; exact hS.gn (by omega), cl_nat, hS.rt (p := i) (by omega)]
      simp (disch := omega) only [oI_add, oI_sub, oI_mul, oI_neg, oL_add, oL_sub, oL_mul, oL_neg, oL_I, oI_lt, oI_le, oI_eq, oL_lt, oL_le, oL_eq, oI_L, oI_clamp, oI_inb, oL_nz, nat1]
      rw [ih (i + 1) _ (by omega) (by omega), sumN_s _ i]
      exact congrArg (fun x => k (oL x)) (by omega)
theorem val (hS : SR A b s N) (h1 : W1 s N) (h2 : W2 s) (h6 : W6 s) {m : Nat} (hm : m < 60) : fX0_valueOfMonth b (oI m) A = some (oL (worth s m)) := by
  have h5 := h1.2.2.2.2.1
  rw [fX0_valueOfMonth, fX7_countedValue, fX7_value_22, kI_0, kL_0, show oI 0 = oI (0 : Nat) from rfl, val_L hS h1 h2 h6 hm _ 10000 0 _ (by omega) (by omega)]
  simp [sumN]
theorem wor_L (hZ : ZR (zA Z) (zB Z) s) (h1 : W1 s N) (h2 : W2 s) (h6 : W6 s) {m : Nat} (hm : m < 60) (k : Int64 → Option Int64) : ∀ (fuel i : Nat) (acc : Int), i ≤ (sG s 4).toNat → (sG s 4).toNat - i < fuel → fX10_worthOf_L5 (oI m) Z k fuel (oL acc) (oI i) = k (oL (acc + (worth s m - sumN (fun p => sE s (4 * m + p) * sRt s p) i))) := by
  obtain ⟨_, _, _, _, h5, _⟩ := h1
  intro fuel
  induction fuel with
  | zero => intro i acc _ h; omega
  | succ fuel ih =>
    intro i acc hi hfu
    rw [fX10_worthOf_L5, fX10_generatedAt]
    simp (disch := omega) only [kI_0, kI_1, kI_2, kI_3, kI_4, kI_5, kI_6, kI_7, kI_8, kI_9, kI_10, kI_12, kI_16, kI_17, kI_19, kI_20, kI_23, kI_24, kI_30, kI_32, kI_36, kI_48, kI_57, kI_59, kI_60, kI_72, kI_80, kI_84, kI_97, kI_98, kI_100, kI_122, kI_148, kI_200, kI_300, kI_1058, kI_1108, kI_1348, kI_1588, kI_5290, kI_7940, kI_100000, kI_e7, kI_e9, kL_0, kL_1, kL_5, kL_9, kL_10, kL_12, kL_23, kL_30, kL_48, kL_57, kL_59, kL_97, kL_100, kL_122, kL_1000, kL_e7, kL_e9, kL_e10, oI_add, oI_sub, oI_mul, oI_neg, oL_add, oL_sub, oL_mul, oL_neg, oL_I, oI_lt, oI_le, oI_eq, oL_lt, oL_le, oL_eq, oI_L, oI_clamp, oI_inb, oL_nz, gd_true, ltb_eq, bd_eq, bd2_eq, rq_none, rq_thr, xc_val, xc_thr, show (4 : Int).toNat = 4 from rfl, Zg hZ]
    by_cases e : i = (sG s 4).toNat
    · subst e
      rw [if_pos (by omega), worth]
      exact congrArg (fun x => k (oL x)) (by omega)
    · have h9 := h6.1 (4 * m + i) (by omega)
      have h8 := h2.2 i (by omega)
      rw [if_neg (by omega), show Z.1 27 0 0 (1108 + 4 * (m : Int) + (i : Int)).toNat = oI (sE s (4 * m + i)) from by rw [show (1108 + 4 * (m : Int) + (i : Int)).toNat = 1108 + (4 * m + i) by omega]; exact hZ.gn (by omega), show Z.1 27 0 0 (32 + (i : Int)).toNat = oI (sRt s i) from hZ.rt (by omega)]
      simp (disch := omega) only [oI_add, oI_sub, oI_mul, oI_neg, oL_add, oL_sub, oL_mul, oL_neg, oL_I, oI_lt, oI_le, oI_eq, oL_lt, oL_le, oL_eq, oI_L, oI_clamp, oI_inb, oL_nz, nat1]
      rw [ih (i + 1) _ (by omega) (by omega), sumN_s _ i]
      exact congrArg (fun x => k (oL x)) (by omega)
theorem wor (hZ : ZR (zA Z) (zB Z) s) (h1 : W1 s N) (h2 : W2 s) (h6 : W6 s) {m : Nat} (hm : m < 60) : fX10_worthOf (oI m) Z = some (oL (worth s m)) := by
  have h5 := h1.2.2.2.2.1
  rw [fX10_worthOf, kI_0, kL_0, show oI 0 = oI (0 : Nat) from rfl, wor_L hZ h1 h2 h6 hm _ 10000 0 _ (by omega) (by omega)]
  simp [sumN]
theorem worth_bd (h1 : W1 s N) (h2 : W2 s) (h6 : W6 s) {m : Nat} (hm : m < 60) : 0 ≤ worth s m ∧ worth s m ≤ 800000000000 := by
  obtain ⟨_, _, _, _, h5, _⟩ := h1
  have hb : ∀ p, p < (sG s 4).toNat → 0 ≤ sE s (4 * m + p) * sRt s p ∧ sE s (4 * m + p) * sRt s p ≤ 200000000000 := by
    intro p hp
    have h9 := h6.1 (4 * m + p) (by omega)
    have h8 := h2.2 p (by omega)
    refine ⟨Int.mul_nonneg h9.1 h8.1, ?_⟩
    have := Int.mul_le_mul h9.2.1 h8.2 h8.1 (by omega)
    omega
  refine ⟨sumN_nonneg fun p hp => (hb p hp).1, ?_⟩
  have := sumN_le (g := fun _ => 200000000000) fun p hp => (hb p hp).2
  rw [sumN_const] at this
  rw [worth]
  omega
/-- what a month is worth to the operator in days -/
theorem opd_L (hS : SR A b s N) (hN : N ≤ 16) {m : Nat} (hm : m < 60) (k : Int32 → Option Int32) : ∀ (fuel i : Nat) (acc : Int), i ≤ N → N - i < fuel → fX0_operatorShareDays_L31 b (oI m) A k fuel (oI acc) (oI i) = k (oI (acc - (sumN (fun i => sD s m i) N - sumN (fun i => sD s m i) i))) := by
  intro fuel
  induction fuel with
  | zero => intro i acc _ h; omega
  | succ fuel ih =>
    intro i acc hi hf
    rw [fX0_operatorShareDays_L31, hS.cnt]
    simp (disch := omega) only [oI_lt, oI_le, oI_eq, oL_lt, oL_le, oL_eq, oI_L, oI_clamp, oI_inb, oL_nz]
    by_cases e : i = N
    · subst e
      rw [if_pos (by omega)]
      exact congrArg (fun x => k (oI x)) (by omega)
    · rw [if_neg (by omega)]
      simp only [gd_true, cl_nat]
      rw [hS.dy (by omega) hm]
      simp only [ltb_eq, kI_0, kI_1, kI_2, kI_3, kI_4, kI_5, kI_6, kI_7, kI_8, kI_9, kI_10, kI_12, kI_16, kI_17, kI_19, kI_20, kI_23, kI_24, kI_30, kI_32, kI_36, kI_48, kI_57, kI_59, kI_60, kI_72, kI_80, kI_84, kI_97, kI_98, kI_100, kI_122, kI_148, kI_200, kI_300, kI_1058, kI_1108, kI_1348, kI_1588, kI_5290, kI_7940, kI_100000, kI_e7, kI_e9, kL_0, kL_1, kL_5, kL_9, kL_10, kL_12, kL_23, kL_30, kL_48, kL_57, kL_59, kL_97, kL_100, kL_122, kL_1000, kL_e7, kL_e9, kL_e10, oI_add, oI_sub, oI_mul, oI_neg, oL_add, oL_sub, oL_mul, oL_neg, oL_I, nat1]
      rw [ih (i + 1) _ (by omega) (by omega), sumN]
      exact congrArg (fun x => k (oI x)) (by omega)
theorem shd_L (hZ : ZR (zA Z) (zB Z) s) (h1 : W1 s N) {m : Nat} (hm : m < 60) (k : Int32 → Option (Int32 × sM)) : ∀ (fuel i : Nat) (acc : Int), i ≤ N → N - i < fuel → fX10_shareDays_L89 (oI m) Z k fuel (oI acc) (oI i) = k (oI (acc - (sumN (fun i => sD s m i) N - sumN (fun i => sD s m i) i))) := by
  obtain ⟨_, _, _, _, _, _, _, h7, h8⟩ := h1
  intro fuel
  induction fuel with
  | zero => intro i acc _ h; omega
  | succ fuel ih =>
    intro i acc hi hf
    rw [fX10_shareDays_L89, fX10_daysAt]
    simp (disch := omega) only [kI_0, kI_1, kI_2, kI_3, kI_4, kI_5, kI_6, kI_7, kI_8, kI_9, kI_10, kI_12, kI_16, kI_17, kI_19, kI_20, kI_23, kI_24, kI_30, kI_32, kI_36, kI_48, kI_57, kI_59, kI_60, kI_72, kI_80, kI_84, kI_97, kI_98, kI_100, kI_122, kI_148, kI_200, kI_300, kI_1058, kI_1108, kI_1348, kI_1588, kI_5290, kI_7940, kI_100000, kI_e7, kI_e9, kL_0, kL_1, kL_5, kL_9, kL_10, kL_12, kL_23, kL_30, kL_48, kL_57, kL_59, kL_97, kL_100, kL_122, kL_1000, kL_e7, kL_e9, kL_e10, oI_add, oI_sub, oI_mul, oI_neg, oL_add, oL_sub, oL_mul, oL_neg, oL_I, oI_lt, oI_le, oI_eq, oL_lt, oL_le, oL_eq, oI_L, oI_clamp, oI_inb, oL_nz, gd_true, ltb_eq, bd_eq, bd2_eq, rq_none, rq_thr, xc_val, xc_thr, show (7 : Int).toNat = 7 from rfl, Zg hZ, h7]
    by_cases e : i = N
    · subst e
      rw [if_pos (by omega)]
      exact congrArg (fun x => k (oI x)) (by omega)
    · rw [if_neg (by omega), show Z.1 27 0 0 (148 + 16 * (m : Int) + (i : Int)).toNat = oI (sD s m i) from hZ.dy hm (by omega)]
      simp only [oI_add, oI_sub, oI_mul, oI_neg, oL_add, oL_sub, oL_mul, oL_neg, oL_I, nat1]
      rw [ih (i + 1) _ (by omega) (by omega), sumN]
      exact congrArg (fun x => k (oI x)) (by omega)
end
