section
variable {A Z : sM} {s : sS} {N n b : Nat}
/-! The greatest holding. -/
def most (s : sS) : Int := if 1 < sG s 0 * sG s 3 / 100 then sG s 0 * sG s 3 / 100 else 1
theorem cl_bd (h1 : W1 s N) : 0 ≤ sG s 0 * sG s 3 ∧ sG s 0 * sG s 3 ≤ 10000000 := by
  obtain ⟨g0, _, _, g3, _⟩ := h1
  refine ⟨Int.mul_nonneg (by omega) (by omega), ?_⟩
  have := Int.mul_le_mul g0.2 g3.2 (by omega) (by omega)
  omega
theorem most_bd (h1 : W1 s N) : 1 ≤ most s ∧ most s ≤ 100000 := by
  have := cl_bd h1
  unfold most
  split <;> omega
theorem grt (hS : SR A b s N) (h1 : W1 s N) : fX4_greatestHolding b A = some (oI (most s)) := by
  have hc := cl_bd h1
  rw [fX4_greatestHolding, hS.g (by omega), hS.g (by omega)]
  simp (disch := omega) only [kI_0, kI_1, kI_2, kI_3, kI_4, kI_5, kI_6, kI_7, kI_8, kI_9, kI_10, kI_12, kI_16, kI_17, kI_19, kI_20, kI_23, kI_24, kI_30, kI_32, kI_36, kI_48, kI_57, kI_59, kI_60, kI_72, kI_80, kI_84, kI_97, kI_98, kI_100, kI_122, kI_148, kI_200, kI_300, kI_1058, kI_1108, kI_1348, kI_1588, kI_5290, kI_7940, kI_100000, kI_e7, kI_e9, kL_0, kL_1, kL_5, kL_9, kL_10, kL_12, kL_23, kL_30, kL_48, kL_57, kL_59, kL_97, kL_100, kL_122, kL_1000, kL_e7, kL_e9, kL_e10, oI_add, oI_sub, oI_mul, oI_neg, oL_add, oL_sub, oL_mul, oL_neg, oL_I, oI_div, oI_lt, oI_le, oI_eq, oL_lt, oL_le, oL_eq, oI_L, oI_clamp, oI_inb, oL_nz]
  rw [most]
  congr 1
  split <;> rfl
theorem mst (hZ : ZR (zA Z) (zB Z) s) (h1 : W1 s N) : fX10_mostShares Z = some (oI (most s)) := by
  have hc := cl_bd h1
  obtain ⟨g0, _, _, g3, _⟩ := h1
  rw [fX10_mostShares]
  simp (disch := omega) only [kI_0, kI_1, kI_2, kI_3, kI_4, kI_5, kI_6, kI_7, kI_8, kI_9, kI_10, kI_12, kI_16, kI_17, kI_19, kI_20, kI_23, kI_24, kI_30, kI_32, kI_36, kI_48, kI_57, kI_59, kI_60, kI_72, kI_80, kI_84, kI_97, kI_98, kI_100, kI_122, kI_148, kI_200, kI_300, kI_1058, kI_1108, kI_1348, kI_1588, kI_5290, kI_7940, kI_100000, kI_e7, kI_e9, kL_0, kL_1, kL_5, kL_9, kL_10, kL_12, kL_23, kL_30, kL_48, kL_57, kL_59, kL_97, kL_100, kL_122, kL_1000, kL_e7, kL_e9, kL_e10, gd_true, ltb_eq, bd_eq, bd2_eq, rq_none, rq_thr, xc_val, xc_thr, oI_lt, oI_le, oI_eq, oL_lt, oL_le, oL_eq, oI_L, oI_clamp, oI_inb, oL_nz, eq_self, Nat.reduceEqDiff, Int.reduceLE, Int.reduceLT, Int.reduceEq, Int.reduceToNat, and_true, true_and, and_false, false_and, and_self, if_true, if_false, ite_true, ite_false, reduceCtorEq, Zg hZ, oI_add, oI_sub, oI_mul, oI_neg, oL_add, oL_sub, oL_mul, oL_neg, oL_I, oL_div]
  rw [most]
  generalize sG s 0 * sG s 3 / 100 = q
  by_cases e : 1 < q
  · rw [if_pos (by omega), if_pos e]
  · by_cases e2 : 1 ≤ q
    · rw [if_pos e2, if_neg e, show q = 1 by omega]
    · rw [if_neg e2, if_neg e]
/-! The place on the waiting list. -/
def ahead (s : sS) (k j : Nat) : Int := if j = k then 0 else if ¬ sB s j 3 = 0 then 0 else if sB s k 2 < sB s j 2 ∨ (sB s j 2 = sB s k 2 ∧ j < k) then 1 else 0
theorem plc_L (hS : SR A b s N) (hN : N ≤ 16) (h3 : W3 s N) {k : Nat} (hk : k < N) (kk : Int32 → Option Int32) : ∀ (fuel i : Nat) (acc : Int), i ≤ N → N - i < fuel → fX0_placeOnWaitingList_L21 b (oI k) (16 * b + k) A kk fuel (oI acc) (oI i) = kk (oI (acc + (sumN (ahead s k) N - sumN (ahead s k) i))) := by
  intro fuel
  induction fuel with
  | zero => intro i acc _ h; omega
  | succ fuel ih =>
    intro i acc hi hf
    rw [fX0_placeOnWaitingList_L21, hS.cnt]
    by_cases e : i = N
    · subst e
      rw [if_pos (by simp (disch := omega) only [oI_lt, oI_le, oI_eq, oL_lt, oL_le, oL_eq, oI_L, oI_clamp, oI_inb, oL_nz]; omega)]
      exact congrArg (fun x => kk (oI x)) (by omega)
    · have hi2 : i < N := by omega
      have b1 := h3.1 i hi2
      have b2 := h3.1 k hk
      rw [if_neg (by simp (disch := omega) only [oI_lt, oI_le, oI_eq, oL_lt, oL_le, oL_eq, oI_L, oI_clamp, oI_inb, oL_nz]; omega)]
      simp (disch := omega) only [kI_0, kI_1, kI_2, kI_3, kI_4, kI_5, kI_6, kI_7, kI_8, kI_9, kI_10, kI_12, kI_16, kI_17, kI_19, kI_20, kI_23, kI_24, kI_30, kI_32, kI_36, kI_48, kI_57, kI_59, kI_60, kI_72, kI_80, kI_84, kI_97, kI_98, kI_100, kI_122, kI_148, kI_200, kI_300, kI_1058, kI_1108, kI_1348, kI_1588, kI_5290, kI_7940, kI_100000, kI_e7, kI_e9, kL_0, kL_1, kL_5, kL_9, kL_10, kL_12, kL_23, kL_30, kL_48, kL_57, kL_59, kL_97, kL_100, kL_122, kL_1000, kL_e7, kL_e9, kL_e10, oI_lt, oI_le, oI_eq, oL_lt, oL_le, oL_eq, oI_L, oI_clamp, oI_inb, oL_nz, gd_true, ltb_eq, bd_eq, bd2_eq, rq_none, rq_thr, xc_val, xc_thr, cl_nat, hS.st hi2, oI_add, oI_sub, oI_mul, oI_neg, oL_add, oL_sub, oL_mul, oL_neg, oL_I, nat1, fX8_isAheadOf, hS.pr hi2, hS.pr hk]
      have hn := fun acc => ih (i + 1) acc (by omega) (by omega)
      have hs : sumN (ahead s k) (i + 1) = sumN (ahead s k) i + ahead s k i := rfl
      by_cases e1 : i = k
      · rw [if_pos (by omega), hn, hs, show ahead s k i = 0 from if_pos e1]
        exact congrArg (fun x => kk (oI x)) (by omega)
      · rw [if_neg (by omega)]
        by_cases e2 : sB s i 3 = 0
        · rw [if_pos e2]
          by_cases e3 : sB s k 2 < sB s i 2 ∨ (sB s i 2 = sB s k 2 ∧ i < k)
          · have ha : ahead s k i = 1 := by rw [ahead, if_neg e1, if_neg (by omega), if_pos e3]
            by_cases e4 : k ≤ i
            · rw [if_pos (by omega), if_pos (by omega)]
              simp (disch := omega) only [gd_true, ltb_eq, bd_eq, bd2_eq, rq_none, rq_thr, xc_val, xc_thr, oI_lt, oI_le, oI_eq, oL_lt, oL_le, oL_eq, oI_L, oI_clamp, oI_inb, oL_nz, eq_self, Nat.reduceEqDiff, Int.reduceLE, Int.reduceLT, Int.reduceEq, Int.reduceToNat, and_true, true_and, and_false, false_and, and_self, if_true, if_false, ite_true, ite_false, reduceCtorEq]
              rw [hn, hs, ha]
              exact congrArg (fun x => kk (oI x)) (by omega)
            · rw [if_neg (by omega), if_neg (by omega)]
              simp (disch := omega) only [gd_true, ltb_eq, bd_eq, bd2_eq, rq_none, rq_thr, xc_val, xc_thr, oI_lt, oI_le, oI_eq, oL_lt, oL_le, oL_eq, oI_L, oI_clamp, oI_inb, oL_nz, eq_self, Nat.reduceEqDiff, Int.reduceLE, Int.reduceLT, Int.reduceEq, Int.reduceToNat, and_true, true_and, and_false, false_and, and_self, if_true, if_false, ite_true, ite_false, reduceCtorEq]
              rw [hn, hs, ha]
              exact congrArg (fun x => kk (oI x)) (by omega)
          · have ha : ahead s k i = 0 := by rw [ahead, if_neg e1, if_neg (by omega), if_neg e3]
            by_cases e4 : k ≤ i
            · rw [if_pos (by omega), if_neg (by omega)]
              simp (disch := omega) only [gd_true, ltb_eq, bd_eq, bd2_eq, rq_none, rq_thr, xc_val, xc_thr, oI_lt, oI_le, oI_eq, oL_lt, oL_le, oL_eq, oI_L, oI_clamp, oI_inb, oL_nz, eq_self, Nat.reduceEqDiff, Int.reduceLE, Int.reduceLT, Int.reduceEq, Int.reduceToNat, and_true, true_and, and_false, false_and, and_self, if_true, if_false, ite_true, ite_false, reduceCtorEq]
              rw [hn, hs, ha]
              exact congrArg (fun x => kk (oI x)) (by omega)
            · rw [if_neg (by omega), if_pos (by omega)]
              simp (disch := omega) only [gd_true, ltb_eq, bd_eq, bd2_eq, rq_none, rq_thr, xc_val, xc_thr, oI_lt, oI_le, oI_eq, oL_lt, oL_le, oL_eq, oI_L, oI_clamp, oI_inb, oL_nz, eq_self, Nat.reduceEqDiff, Int.reduceLE, Int.reduceLT, Int.reduceEq, Int.reduceToNat, and_true, true_and, and_false, false_and, and_self, if_true, if_false, ite_true, ite_false, reduceCtorEq]
              rw [hn, hs, ha]
              exact congrArg (fun x => kk (oI x)) (by omega)
        · rw [if_neg e2, hn, hs, show ahead s k i = 0 by rw [ahead, if_neg e1, if_pos e2]]
          exact congrArg (fun x => kk (oI x)) (by omega)
theorem plc (hS : SR A b s N) (hN : N ≤ 16) (h3 : W3 s N) {k : Nat} (hk : k < N) : fX0_placeOnWaitingList b (oI k) A = some (oI (if sB s k 3 = 0 then sumN (ahead s k) N else -1)) := by
  have b2 := h3.1 k hk
  rw [fX0_placeOnWaitingList]
  simp (disch := omega) only [kI_0, kI_1, kI_2, kI_3, kI_4, kI_5, kI_6, kI_7, kI_8, kI_9, kI_10, kI_12, kI_16, kI_17, kI_19, kI_20, kI_23, kI_24, kI_30, kI_32, kI_36, kI_48, kI_57, kI_59, kI_60, kI_72, kI_80, kI_84, kI_97, kI_98, kI_100, kI_122, kI_148, kI_200, kI_300, kI_1058, kI_1108, kI_1348, kI_1588, kI_5290, kI_7940, kI_100000, kI_e7, kI_e9, kL_0, kL_1, kL_5, kL_9, kL_10, kL_12, kL_23, kL_30, kL_48, kL_57, kL_59, kL_97, kL_100, kL_122, kL_1000, kL_e7, kL_e9, kL_e10, oI_lt, oI_le, oI_eq, oL_lt, oL_le, oL_eq, oI_L, oI_clamp, oI_inb, oL_nz, gd_true, ltb_eq, bd_eq, bd2_eq, rq_none, rq_thr, xc_val, xc_thr, cl_nat, hS.st hk, oI_add, oI_sub, oI_mul, oI_neg, oL_add, oL_sub, oL_mul, oL_neg, oL_I]
  by_cases e : sB s k 3 = 0
  · rw [if_pos e, if_pos e, show oI 0 = oI (0 : Nat) from rfl, plc_L hS hN h3 hk _ 10000 0 _ (by omega) (by omega)]
    simp [sumN]
  · rw [if_neg e, if_neg e]
theorem pof_L (hZ : ZR (zA Z) (zB Z) s) (h1 : W1 s N) (h3 : W3 s N) {k : Nat} (hk : k < N) (kk : Int32 → Option Int32) : ∀ (fuel i : Nat) (acc : Int), i ≤ N → N - i < fuel → fX10_placeOf_L4 (oI k) Z kk fuel (oI acc) (oI i) = kk (oI (acc + (sumN (ahead s k) N - sumN (ahead s k) i))) := by
  obtain ⟨_, _, _, _, _, _, _, h7, hN⟩ := h1
  intro fuel
  induction fuel with
  | zero => intro i acc _ h; omega
  | succ fuel ih =>
    intro i acc hi hf
    rw [fX10_placeOf_L4]
    simp (disch := omega) only [kI_0, kI_1, kI_2, kI_3, kI_4, kI_5, kI_6, kI_7, kI_8, kI_9, kI_10, kI_12, kI_16, kI_17, kI_19, kI_20, kI_23, kI_24, kI_30, kI_32, kI_36, kI_48, kI_57, kI_59, kI_60, kI_72, kI_80, kI_84, kI_97, kI_98, kI_100, kI_122, kI_148, kI_200, kI_300, kI_1058, kI_1108, kI_1348, kI_1588, kI_5290, kI_7940, kI_100000, kI_e7, kI_e9, kL_0, kL_1, kL_5, kL_9, kL_10, kL_12, kL_23, kL_30, kL_48, kL_57, kL_59, kL_97, kL_100, kL_122, kL_1000, kL_e7, kL_e9, kL_e10, oI_lt, oI_le, oI_eq, oL_lt, oL_le, oL_eq, oI_L, oI_clamp, oI_inb, oL_nz, eq_self, Nat.reduceEqDiff, Int.reduceLE, Int.reduceLT, Int.reduceEq, Int.reduceToNat, and_true, true_and, and_false, false_and, and_self, if_true, if_false, ite_true, ite_false, reduceCtorEq, Zg hZ, h7]
    by_cases e : i = N
    · subst e
      rw [if_pos (by omega)]
      exact congrArg (fun x => kk (oI x)) (by omega)
    · have hi2 : i < N := by omega
      have b1 := h3.1 i hi2
      have b2 := h3.1 k hk
      rw [if_neg (by omega)]
      simp (disch := omega) only [kI_0, kI_1, kI_2, kI_3, kI_4, kI_5, kI_6, kI_7, kI_8, kI_9, kI_10, kI_12, kI_16, kI_17, kI_19, kI_20, kI_23, kI_24, kI_30, kI_32, kI_36, kI_48, kI_57, kI_59, kI_60, kI_72, kI_80, kI_84, kI_97, kI_98, kI_100, kI_122, kI_148, kI_200, kI_300, kI_1058, kI_1108, kI_1348, kI_1588, kI_5290, kI_7940, kI_100000, kI_e7, kI_e9, kL_0, kL_1, kL_5, kL_9, kL_10, kL_12, kL_23, kL_30, kL_48, kL_57, kL_59, kL_97, kL_100, kL_122, kL_1000, kL_e7, kL_e9, kL_e10, oI_lt, oI_le, oI_eq, oL_lt, oL_le, oL_eq, oI_L, oI_clamp, oI_inb, oL_nz, gd_true, ltb_eq, bd_eq, bd2_eq, rq_none, rq_thr, xc_val, xc_thr, cl_nat, oI_add, oI_sub, oI_mul, oI_neg, oL_add, oL_sub, oL_mul, oL_neg, oL_I, nat1, ofM2 hZ, ofM3 hZ]
      have hn := fun acc => ih (i + 1) acc (by omega) (by omega)
      have hs : sumN (ahead s k) (i + 1) = sumN (ahead s k) i + ahead s k i := rfl
      by_cases e1 : i = k
      · rw [if_pos (by omega), hn, hs, show ahead s k i = 0 from if_pos e1]
        exact congrArg (fun x => kk (oI x)) (by omega)
      · rw [if_neg (by omega)]
        by_cases e2 : sB s i 3 = 0
        · rw [if_pos e2]
          by_cases e3 : sB s k 2 < sB s i 2 ∨ (sB s i 2 = sB s k 2 ∧ i < k)
          · have ha : ahead s k i = 1 := by rw [ahead, if_neg e1, if_neg (by omega), if_pos e3]
            by_cases e5 : 0 < sB s i 2 - sB s k 2
            · rw [if_pos e5, hn, hs, ha]
              exact congrArg (fun x => kk (oI x)) (by omega)
            · rw [if_neg e5, if_pos (by omega), if_neg (by omega), hn, hs, ha]
              exact congrArg (fun x => kk (oI x)) (by omega)
          · have ha : ahead s k i = 0 := by rw [ahead, if_neg e1, if_neg (by omega), if_neg e3]
            rw [if_neg (by omega)]
            by_cases e5 : sB s i 2 - sB s k 2 = 0
            · rw [if_pos e5, if_pos (by omega), hn, hs, ha]
              exact congrArg (fun x => kk (oI x)) (by omega)
            · rw [if_neg e5, hn, hs, ha]
              exact congrArg (fun x => kk (oI x)) (by omega)
        · rw [if_neg e2, hn, hs, show ahead s k i = 0 by rw [ahead, if_neg e1, if_pos e2]]
          exact congrArg (fun x => kk (oI x)) (by omega)
theorem pof (hZ : ZR (zA Z) (zB Z) s) (h1 : W1 s N) (h3 : W3 s N) {k : Nat} (hk : k < N) : fX10_placeOf (oI k) Z = some (oI (sumN (ahead s k) N)) := by
  have hN := h1.2.2.2.2.2.2.2.2
  rw [fX10_placeOf, kI_0, show oI 0 = oI (0 : Nat) from rfl, pof_L hZ h1 h3 hk _ 10000 0 _ (by omega) (by omega)]
  simp [sumN]
/-! Euclid's rows. -/
theorem gcd_rw (a b : Nat) : Nat.gcd b a = Nat.gcd (a % b) b := Nat.gcd_rec b a
theorem half_mod {a b : Nat} (hb : 0 < b) (hr : 0 < a % b) : 2 * (b % (a % b)) < b := by
  have h1 : a % b < b := Nat.mod_lt _ hb
  generalize a % b = r at *
  by_cases h : 2 * r ≤ b
  · have := Nat.mod_lt b hr; omega
  · rw [Nat.mod_eq_sub_mod (by omega), Nat.mod_eq_of_lt (by omega)]; omega
theorem gdv_L (A : sM) (k : Int64 → Option Int64) : ∀ (e : Nat) (fuel a b i : Nat), b < 2 ^ e → a < 4611686018427387904 → b < 4611686018427387904 → 2 * e < fuel → i + 2 * e ≤ 199 → fX9_greatestDivisor_L3 A k fuel (oL a) (oL b) (oI i) = k (oL (Nat.gcd b a : Nat)) := by
  intro e
  induction e with
  | zero =>
    intro fuel a b i hb ha hb2 hf hi
    have : b = 0 := by simp at hb; exact hb
    subst this
    obtain ⟨f, rfl⟩ : ∃ f, fuel = f + 1 := ⟨fuel - 1, by omega⟩
    rw [fX9_greatestDivisor_L3]
    simp (disch := omega) only [kI_0, kI_1, kI_2, kI_3, kI_4, kI_5, kI_6, kI_7, kI_8, kI_9, kI_10, kI_12, kI_16, kI_17, kI_19, kI_20, kI_23, kI_24, kI_30, kI_32, kI_36, kI_48, kI_57, kI_59, kI_60, kI_72, kI_80, kI_84, kI_97, kI_98, kI_100, kI_122, kI_148, kI_200, kI_300, kI_1058, kI_1108, kI_1348, kI_1588, kI_5290, kI_7940, kI_100000, kI_e7, kI_e9, kL_0, kL_1, kL_5, kL_9, kL_10, kL_12, kL_23, kL_30, kL_48, kL_57, kL_59, kL_97, kL_100, kL_122, kL_1000, kL_e7, kL_e9, kL_e10, oI_lt, oI_le, oI_eq, oL_lt, oL_le, oL_eq, oI_L, oI_clamp, oI_inb, oL_nz]
    rw [if_neg (by omega), if_pos (by omega), Nat.gcd_zero_left]
  | succ e ih =>
    intro fuel a b i hb ha hb2 hf hi
    rw [Nat.pow_succ] at hb
    obtain ⟨f, rfl⟩ : ∃ f, fuel = f + 1 + 1 := ⟨fuel - 2, by omega⟩
    rw [fX9_greatestDivisor_L3]
    by_cases h0 : b = 0
    · subst h0
      simp (disch := omega) only [kI_0, kI_1, kI_2, kI_3, kI_4, kI_5, kI_6, kI_7, kI_8, kI_9, kI_10, kI_12, kI_16, kI_17, kI_19, kI_20, kI_23, kI_24, kI_30, kI_32, kI_36, kI_48, kI_57, kI_59, kI_60, kI_72, kI_80, kI_84, kI_97, kI_98, kI_100, kI_122, kI_148, kI_200, kI_300, kI_1058, kI_1108, kI_1348, kI_1588, kI_5290, kI_7940, kI_100000, kI_e7, kI_e9, kL_0, kL_1, kL_5, kL_9, kL_10, kL_12, kL_23, kL_30, kL_48, kL_57, kL_59, kL_97, kL_100, kL_122, kL_1000, kL_e7, kL_e9, kL_e10, oI_lt, oI_le, oI_eq, oL_lt, oL_le, oL_eq, oI_L, oI_clamp, oI_inb, oL_nz]
      rw [if_neg (by omega), if_pos (by omega), Nat.gcd_zero_left]
    · have hlt := Nat.mod_lt a (Nat.pos_of_ne_zero h0)
      simp (disch := omega) only [kI_0, kI_1, kI_2, kI_3, kI_4, kI_5, kI_6, kI_7, kI_8, kI_9, kI_10, kI_12, kI_16, kI_17, kI_19, kI_20, kI_23, kI_24, kI_30, kI_32, kI_36, kI_48, kI_57, kI_59, kI_60, kI_72, kI_80, kI_84, kI_97, kI_98, kI_100, kI_122, kI_148, kI_200, kI_300, kI_1058, kI_1108, kI_1348, kI_1588, kI_5290, kI_7940, kI_100000, kI_e7, kI_e9, kL_0, kL_1, kL_5, kL_9, kL_10, kL_12, kL_23, kL_30, kL_48, kL_57, kL_59, kL_97, kL_100, kL_122, kL_1000, kL_e7, kL_e9, kL_e10, oI_lt, oI_le, oI_eq, oL_lt, oL_le, oL_eq, oI_L, oI_clamp, oI_inb, oL_nz, oL_div, gd_true, ltb_eq, bd_eq, bd2_eq, rq_none, rq_thr, xc_val, xc_thr, oI_add, oI_sub, oI_mul, oI_neg, oL_add, oL_sub, oL_mul, oL_neg, oL_I, nat1]
      rw [if_neg (by omega), if_neg (by omega), rem_eq, show ((a : Int) % (b : Int)) = ((a % b : Nat) : Int) from rfl, gcd_rw a b, fX9_greatestDivisor_L3]
      by_cases h1 : a % b = 0
      · rw [h1]
        simp (disch := omega) only [kI_0, kI_1, kI_2, kI_3, kI_4, kI_5, kI_6, kI_7, kI_8, kI_9, kI_10, kI_12, kI_16, kI_17, kI_19, kI_20, kI_23, kI_24, kI_30, kI_32, kI_36, kI_48, kI_57, kI_59, kI_60, kI_72, kI_80, kI_84, kI_97, kI_98, kI_100, kI_122, kI_148, kI_200, kI_300, kI_1058, kI_1108, kI_1348, kI_1588, kI_5290, kI_7940, kI_100000, kI_e7, kI_e9, kL_0, kL_1, kL_5, kL_9, kL_10, kL_12, kL_23, kL_30, kL_48, kL_57, kL_59, kL_97, kL_100, kL_122, kL_1000, kL_e7, kL_e9, kL_e10, oI_lt, oI_le, oI_eq, oL_lt, oL_le, oL_eq, oI_L, oI_clamp, oI_inb, oL_nz]
        rw [if_neg (by omega), if_pos (by omega), Nat.gcd_zero_left]
      · have hh := half_mod (Nat.pos_of_ne_zero h0) (Nat.pos_of_ne_zero h1)
        have hlt2 := Nat.mod_lt b (Nat.pos_of_ne_zero h1)
        simp (disch := omega) only [kI_0, kI_1, kI_2, kI_3, kI_4, kI_5, kI_6, kI_7, kI_8, kI_9, kI_10, kI_12, kI_16, kI_17, kI_19, kI_20, kI_23, kI_24, kI_30, kI_32, kI_36, kI_48, kI_57, kI_59, kI_60, kI_72, kI_80, kI_84, kI_97, kI_98, kI_100, kI_122, kI_148, kI_200, kI_300, kI_1058, kI_1108, kI_1348, kI_1588, kI_5290, kI_7940, kI_100000, kI_e7, kI_e9, kL_0, kL_1, kL_5, kL_9, kL_10, kL_12, kL_23, kL_30, kL_48, kL_57, kL_59, kL_97, kL_100, kL_122, kL_1000, kL_e7, kL_e9, kL_e10, oI_lt, oI_le, oI_eq, oL_lt, oL_le, oL_eq, oI_L, oI_clamp, oI_inb, oL_nz, oL_div, gd_true, ltb_eq, bd_eq, bd2_eq, rq_none, rq_thr, xc_val, xc_thr, oI_add, oI_sub, oI_mul, oI_neg, oL_add, oL_sub, oL_mul, oL_neg, oL_I, nat1]
        rw [if_neg (by omega), if_neg (by omega), rem_eq, show ((b : Int) % ((a % b : Nat) : Int)) = ((b % (a % b) : Nat) : Int) from rfl, gcd_rw b (a % b)]
        exact ih f (a % b) (b % (a % b)) (i + 1 + 1) (by omega) (by omega) (by omega) (by omega) (by omega)
theorem dvs_L (Z : sM) : ∀ (e : Nat) (fuel a b : Nat), b < 2 ^ e → a < 4611686018427387904 → b < 4611686018427387904 → 2 * e < fuel → fX10_divisor fuel (oL a) (oL b) Z = some (oL (Nat.gcd b a : Nat)) := by
  intro e
  induction e with
  | zero =>
    intro fuel a b hb ha hb2 hf
    have : b = 0 := by simp at hb; exact hb
    subst this
    obtain ⟨f, rfl⟩ : ∃ f, fuel = f + 1 := ⟨fuel - 1, by omega⟩
    rw [fX10_divisor]
    simp (disch := omega) only [kI_0, kI_1, kI_2, kI_3, kI_4, kI_5, kI_6, kI_7, kI_8, kI_9, kI_10, kI_12, kI_16, kI_17, kI_19, kI_20, kI_23, kI_24, kI_30, kI_32, kI_36, kI_48, kI_57, kI_59, kI_60, kI_72, kI_80, kI_84, kI_97, kI_98, kI_100, kI_122, kI_148, kI_200, kI_300, kI_1058, kI_1108, kI_1348, kI_1588, kI_5290, kI_7940, kI_100000, kI_e7, kI_e9, kL_0, kL_1, kL_5, kL_9, kL_10, kL_12, kL_23, kL_30, kL_48, kL_57, kL_59, kL_97, kL_100, kL_122, kL_1000, kL_e7, kL_e9, kL_e10, oI_lt, oI_le, oI_eq, oL_lt, oL_le, oL_eq, oI_L, oI_clamp, oI_inb, oL_nz]
    rw [if_pos (by omega), Nat.gcd_zero_left]
  | succ e ih =>
    intro fuel a b hb ha hb2 hf
    rw [Nat.pow_succ] at hb
    obtain ⟨f, rfl⟩ : ∃ f, fuel = f + 1 + 1 := ⟨fuel - 2, by omega⟩
    rw [fX10_divisor]
    by_cases h0 : b = 0
    · subst h0
      simp (disch := omega) only [kI_0, kI_1, kI_2, kI_3, kI_4, kI_5, kI_6, kI_7, kI_8, kI_9, kI_10, kI_12, kI_16, kI_17, kI_19, kI_20, kI_23, kI_24, kI_30, kI_32, kI_36, kI_48, kI_57, kI_59, kI_60, kI_72, kI_80, kI_84, kI_97, kI_98, kI_100, kI_122, kI_148, kI_200, kI_300, kI_1058, kI_1108, kI_1348, kI_1588, kI_5290, kI_7940, kI_100000, kI_e7, kI_e9, kL_0, kL_1, kL_5, kL_9, kL_10, kL_12, kL_23, kL_30, kL_48, kL_57, kL_59, kL_97, kL_100, kL_122, kL_1000, kL_e7, kL_e9, kL_e10, oI_lt, oI_le, oI_eq, oL_lt, oL_le, oL_eq, oI_L, oI_clamp, oI_inb, oL_nz]
      rw [if_pos (by omega), Nat.gcd_zero_left]
    · have hlt := Nat.mod_lt a (Nat.pos_of_ne_zero h0)
      simp (disch := omega) only [kI_0, kI_1, kI_2, kI_3, kI_4, kI_5, kI_6, kI_7, kI_8, kI_9, kI_10, kI_12, kI_16, kI_17, kI_19, kI_20, kI_23, kI_24, kI_30, kI_32, kI_36, kI_48, kI_57, kI_59, kI_60, kI_72, kI_80, kI_84, kI_97, kI_98, kI_100, kI_122, kI_148, kI_200, kI_300, kI_1058, kI_1108, kI_1348, kI_1588, kI_5290, kI_7940, kI_100000, kI_e7, kI_e9, kL_0, kL_1, kL_5, kL_9, kL_10, kL_12, kL_23, kL_30, kL_48, kL_57, kL_59, kL_97, kL_100, kL_122, kL_1000, kL_e7, kL_e9, kL_e10, oI_lt, oI_le, oI_eq, oL_lt, oL_le, oL_eq, oI_L, oI_clamp, oI_inb, oL_nz, oL_div, gd_true, ltb_eq, bd_eq, bd2_eq, rq_none, rq_thr, xc_val, xc_thr, oI_add, oI_sub, oI_mul, oI_neg, oL_add, oL_sub, oL_mul, oL_neg, oL_I, nat1]
      rw [if_neg (by omega), rem_eq, show ((a : Int) % (b : Int)) = ((a % b : Nat) : Int) from rfl, gcd_rw a b, fX10_divisor]
      by_cases h1 : a % b = 0
      · rw [h1]
        simp (disch := omega) only [kI_0, kI_1, kI_2, kI_3, kI_4, kI_5, kI_6, kI_7, kI_8, kI_9, kI_10, kI_12, kI_16, kI_17, kI_19, kI_20, kI_23, kI_24, kI_30, kI_32, kI_36, kI_48, kI_57, kI_59, kI_60, kI_72, kI_80, kI_84, kI_97, kI_98, kI_100, kI_122, kI_148, kI_200, kI_300, kI_1058, kI_1108, kI_1348, kI_1588, kI_5290, kI_7940, kI_100000, kI_e7, kI_e9, kL_0, kL_1, kL_5, kL_9, kL_10, kL_12, kL_23, kL_30, kL_48, kL_57, kL_59, kL_97, kL_100, kL_122, kL_1000, kL_e7, kL_e9, kL_e10, oI_lt, oI_le, oI_eq, oL_lt, oL_le, oL_eq, oI_L, oI_clamp, oI_inb, oL_nz]
        rw [if_pos (by omega), Nat.gcd_zero_left, bd_eq]
      · have hh := half_mod (Nat.pos_of_ne_zero h0) (Nat.pos_of_ne_zero h1)
        have hlt2 := Nat.mod_lt b (Nat.pos_of_ne_zero h1)
        simp (disch := omega) only [kI_0, kI_1, kI_2, kI_3, kI_4, kI_5, kI_6, kI_7, kI_8, kI_9, kI_10, kI_12, kI_16, kI_17, kI_19, kI_20, kI_23, kI_24, kI_30, kI_32, kI_36, kI_48, kI_57, kI_59, kI_60, kI_72, kI_80, kI_84, kI_97, kI_98, kI_100, kI_122, kI_148, kI_200, kI_300, kI_1058, kI_1108, kI_1348, kI_1588, kI_5290, kI_7940, kI_100000, kI_e7, kI_e9, kL_0, kL_1, kL_5, kL_9, kL_10, kL_12, kL_23, kL_30, kL_48, kL_57, kL_59, kL_97, kL_100, kL_122, kL_1000, kL_e7, kL_e9, kL_e10, oI_lt, oI_le, oI_eq, oL_lt, oL_le, oL_eq, oI_L, oI_clamp, oI_inb, oL_nz, oL_div, gd_true, ltb_eq, bd_eq, bd2_eq, rq_none, rq_thr, xc_val, xc_thr, oI_add, oI_sub, oI_mul, oI_neg, oL_add, oL_sub, oL_mul, oL_neg, oL_I, nat1]
        rw [if_neg (by omega), rem_eq, show ((b : Int) % ((a % b : Nat) : Int)) = ((b % (a % b) : Nat) : Int) from rfl, gcd_rw b (a % b), ih f (a % b) (b % (a % b)) (by omega) (by omega) (by omega) (by omega)]
        rfl
end
theorem case3 : CaseOK fL_case3 := by
  intro n L A Z xs x4 hn hI hin
  obtain ⟨_, i1, i2, i3, i4, i5⟩ := hin
  rw [fL_case3]
  simp only [i1, i2, i3, i4, i5, gd_true]
  obtain ⟨⟨s, N, hS, hZ, hW⟩, hR⟩ := id hI
  obtain ⟨w1, w2, w3, w4, w5, w6, w7, w8⟩ := id hW
  obtain ⟨g0, g1, g2, g3, g4, g5, g6, g7, hN⟩ := id w1
  refine OKI.c ?_
  generalize xs (x4 + 1).toNatClampNeg = x
  obtain ⟨a, a1, a2, rfl⟩ := I_ex x
  have hm := most_bd w1
  by_cases ha : 0 ≤ a ∧ a ≤ 5
  · obtain ⟨i, hi, rfl⟩ := int_ix (N := 6) (a := a) (by omega)
    refine OKI.v (v := oI (if i = 5 then most s else sG s i)) hI ?_ ?_ (thr_g Z _) (Fr.refl _) (frT Z _)
    · rw [fL_setting, fX9_setting]
      simp (disch := omega) only [gd_true, ltb_eq, bd_eq, bd2_eq, rq_none, rq_thr, xc_val, xc_thr, oI_lt, oI_le, oI_eq, oL_lt, oL_le, oL_eq, oI_L, oI_clamp, oI_inb, oL_nz, kI_0, kI_1, kI_2, kI_3, kI_4, kI_5, kI_6, kI_7, kI_8, kI_9, kI_10, kI_12, kI_16, kI_17, kI_19, kI_20, kI_23, kI_24, kI_30, kI_32, kI_36, kI_48, kI_57, kI_59, kI_60, kI_72, kI_80, kI_84, kI_97, kI_98, kI_100, kI_122, kI_148, kI_200, kI_300, kI_1058, kI_1108, kI_1348, kI_1588, kI_5290, kI_7940, kI_100000, kI_e7, kI_e9, kL_0, kL_1, kL_5, kL_9, kL_10, kL_12, kL_23, kL_30, kL_48, kL_57, kL_59, kL_97, kL_100, kL_122, kL_1000, kL_e7, kL_e9, kL_e10, grt hS w1]
      rcases (by omega : i = 0 ∨ i = 1 ∨ i = 2 ∨ i = 3 ∨ i = 4 ∨ i = 5) with e | e | e | e | e | e
      · rw [if_pos (by omega), hS.g (by omega)]; subst e; rfl
      · rw [if_neg (by omega), if_pos (by omega), hS.g (by omega)]; subst e; rfl
      · rw [if_neg (by omega), if_neg (by omega), if_pos (by omega), hS.g (by omega)]; subst e; rfl
      · rw [if_neg (by omega), if_neg (by omega), if_neg (by omega), if_pos (by omega), hS.g (by omega)]; subst e; rfl
      · rw [if_neg (by omega), if_neg (by omega), if_neg (by omega), if_neg (by omega), if_pos (by omega), hS.g (by omega)]; subst e; rfl
      · rw [if_neg (by omega), if_neg (by omega), if_neg (by omega), if_neg (by omega), if_neg (by omega), if_pos (by omega)]; subst e; rfl
    · rw [fX10_setting]
      simp (disch := omega) only [kI_0, kI_1, kI_2, kI_3, kI_4, kI_5, kI_6, kI_7, kI_8, kI_9, kI_10, kI_12, kI_16, kI_17, kI_19, kI_20, kI_23, kI_24, kI_30, kI_32, kI_36, kI_48, kI_57, kI_59, kI_60, kI_72, kI_80, kI_84, kI_97, kI_98, kI_100, kI_122, kI_148, kI_200, kI_300, kI_1058, kI_1108, kI_1348, kI_1588, kI_5290, kI_7940, kI_100000, kI_e7, kI_e9, kL_0, kL_1, kL_5, kL_9, kL_10, kL_12, kL_23, kL_30, kL_48, kL_57, kL_59, kL_97, kL_100, kL_122, kL_1000, kL_e7, kL_e9, kL_e10, oI_lt, oI_le, oI_eq, oL_lt, oL_le, oL_eq, oI_L, oI_clamp, oI_inb, oL_nz]
      rw [isIn_t _ (by omega) (by omega) (by omega)]
      simp (disch := omega) only [gd_true, ltb_eq, bd_eq, bd2_eq, rq_none, rq_thr, xc_val, xc_thr, oI_lt, oI_le, oI_eq, oL_lt, oL_le, oL_eq, oI_L, oI_clamp, oI_inb, oL_nz, oI_add, oI_sub, oI_mul, oI_neg, oL_add, oL_sub, oL_mul, oL_neg, oL_I, wI_1, wI_2, wL_1, wL_2, fI_1, fI_2, fL_1, fL_2, eq_self, Nat.reduceEqDiff, Int.reduceLE, Int.reduceLT, Int.reduceEq, Int.reduceToNat, and_true, true_and, and_false, false_and, and_self, if_true, if_false, ite_true, ite_false, reduceCtorEq]
      by_cases e : i = 5
      · rw [if_pos (by omega), mst (ZRt hZ) w1, bd_eq, if_pos e]
      · rw [if_neg (by omega), if_neg e, cl_nat, Zg hZ (by omega)]
  · refine OKI.t (r := 1) (v := 0) hI ?_ ?_ (thr_g Z _) (by decide) (Fr.refl _) (frT Z _)
    · rw [fL_setting, fX9_setting]
      simp (disch := omega) only [gd_true, ltb_eq, bd_eq, bd2_eq, rq_none, rq_thr, xc_val, xc_thr, oI_lt, oI_le, oI_eq, oL_lt, oL_le, oL_eq, oI_L, oI_clamp, oI_inb, oL_nz, kI_0, kI_1, kI_2, kI_3, kI_4, kI_5, kI_6, kI_7, kI_8, kI_9, kI_10, kI_12, kI_16, kI_17, kI_19, kI_20, kI_23, kI_24, kI_30, kI_32, kI_36, kI_48, kI_57, kI_59, kI_60, kI_72, kI_80, kI_84, kI_97, kI_98, kI_100, kI_122, kI_148, kI_200, kI_300, kI_1058, kI_1108, kI_1348, kI_1588, kI_5290, kI_7940, kI_100000, kI_e7, kI_e9, kL_0, kL_1, kL_5, kL_9, kL_10, kL_12, kL_23, kL_30, kL_48, kL_57, kL_59, kL_97, kL_100, kL_122, kL_1000, kL_e7, kL_e9, kL_e10]
      rw [if_neg (by omega), if_neg (by omega), if_neg (by omega), if_neg (by omega), if_neg (by omega), if_neg (by omega)]
      rfl
    · rw [fX10_setting]
      simp (disch := omega) only [kI_0, kI_1, kI_2, kI_3, kI_4, kI_5, kI_6, kI_7, kI_8, kI_9, kI_10, kI_12, kI_16, kI_17, kI_19, kI_20, kI_23, kI_24, kI_30, kI_32, kI_36, kI_48, kI_57, kI_59, kI_60, kI_72, kI_80, kI_84, kI_97, kI_98, kI_100, kI_122, kI_148, kI_200, kI_300, kI_1058, kI_1108, kI_1348, kI_1588, kI_5290, kI_7940, kI_100000, kI_e7, kI_e9, kL_0, kL_1, kL_5, kL_9, kL_10, kL_12, kL_23, kL_30, kL_48, kL_57, kL_59, kL_97, kL_100, kL_122, kL_1000, kL_e7, kL_e9, kL_e10, oI_lt, oI_le, oI_eq, oL_lt, oL_le, oL_eq, oI_L, oI_clamp, oI_inb, oL_nz]
      rw [isIn_f _ (by omega) (by omega) (by omega) (by omega) (by omega) (by omega) (by omega)]
      simp (disch := omega) only [gd_true, ltb_eq, bd_eq, bd2_eq, rq_none, rq_thr, xc_val, xc_thr, oI_lt, oI_le, oI_eq, oL_lt, oL_le, oL_eq, oI_L, oI_clamp, oI_inb, oL_nz, oI_add, oI_sub, oI_mul, oI_neg, oL_add, oL_sub, oL_mul, oL_neg, oL_I, wI_1, wI_2, wL_1, wL_2, fI_1, fI_2, fL_1, fL_2, eq_self, Nat.reduceEqDiff, Int.reduceLE, Int.reduceLT, Int.reduceEq, Int.reduceToNat, and_true, true_and, and_false, false_and, and_self, if_true, if_false, ite_true, ite_false, reduceCtorEq]
theorem case15 : CaseOK fL_case15 := by
  intro n L A Z xs x4 hn hI hin
  obtain ⟨_, i1, i2, i3, i4, i5⟩ := hin
  rw [fL_case15]
  simp only [i1, i2, i3, i4, i5, gd_true]
  obtain ⟨⟨s, N, hS, hZ, hW⟩, hR⟩ := id hI
  obtain ⟨w1, w2, w3, w4, w5, w6, w7, w8⟩ := id hW
  obtain ⟨g0, g1, g2, g3, g4, g5, g6, g7, hN⟩ := id w1
  refine OKI.c ?_
  generalize xs (x4 + 1).toNatClampNeg = x
  obtain ⟨a, a1, a2, rfl⟩ := I_ex x
  by_cases ha : 0 ≤ a ∧ a < N
  · obtain ⟨i, hi, rfl⟩ := int_ix ha
    refine OKI.v (v := oI (if sB s i 3 = 0 then sumN (ahead s i) N else -1)) hI ?_ ?_ (thr_g Z _) (Fr.refl _) (frT Z _)
    · rw [fL_waitingPlace, fX9_waitingPlace, rqS_t hS hN hi]
      simp (disch := omega) only [gd_true, ltb_eq, bd_eq, bd2_eq, rq_none, rq_thr, xc_val, xc_thr, plc hS hN w3 hi]
      rfl
    · rw [fX10_waitingPlace, lacks_t hZ w1 hi]
      have b1 := w3.1 i hi
      simp (disch := omega) only [gd_true, ltb_eq, bd_eq, bd2_eq, rq_none, rq_thr, xc_val, xc_thr, kI_0, kI_1, kI_2, kI_3, kI_4, kI_5, kI_6, kI_7, kI_8, kI_9, kI_10, kI_12, kI_16, kI_17, kI_19, kI_20, kI_23, kI_24, kI_30, kI_32, kI_36, kI_48, kI_57, kI_59, kI_60, kI_72, kI_80, kI_84, kI_97, kI_98, kI_100, kI_122, kI_148, kI_200, kI_300, kI_1058, kI_1108, kI_1348, kI_1588, kI_5290, kI_7940, kI_100000, kI_e7, kI_e9, kL_0, kL_1, kL_5, kL_9, kL_10, kL_12, kL_23, kL_30, kL_48, kL_57, kL_59, kL_97, kL_100, kL_122, kL_1000, kL_e7, kL_e9, kL_e10, oI_lt, oI_le, oI_eq, oL_lt, oL_le, oL_eq, oI_L, oI_clamp, oI_inb, oL_nz, eq_self, Nat.reduceEqDiff, Int.reduceLE, Int.reduceLT, Int.reduceEq, Int.reduceToNat, and_true, true_and, and_false, false_and, and_self, if_true, if_false, ite_true, ite_false, reduceCtorEq, ofM3 (ZRt hZ), pof (ZRt hZ) w1 w3 hi, oI_add, oI_sub, oI_mul, oI_neg, oL_add, oL_sub, oL_mul, oL_neg, oL_I]
      by_cases e : sB s i 3 = 0
      · rw [if_pos e, if_pos e]
      · rw [if_neg e, if_neg e]
  · refine OKI.t (r := 1) (v := 0) hI ?_ ?_ (thr_g Z _) (by decide) (Fr.refl _) (frT Z _)
    · rw [fL_waitingPlace, fX9_waitingPlace, rqS_f hS hN a1 a2 ha]
      rfl
    · rw [fX10_waitingPlace, lacks_f hZ w1 a1 a2 ha]
      rfl
theorem case21 : CaseOK fL_case21 := by
  intro n L A Z xs x4 hn hI hin
  obtain ⟨_, i1, i2, i3, i4, i5⟩ := hin
  rw [fL_case21]
  simp only [i1, i2, i3, i4, i5, gd_true]
  obtain ⟨⟨s, N, hS, hZ, hW⟩, hR⟩ := id hI
  obtain ⟨w1, w2, w3, w4, w5, w6, w7, w8⟩ := id hW
  obtain ⟨g0, g1, g2, g3, g4, g5, g6, g7, hN⟩ := id w1
  refine OKI.c ?_
  generalize xs (x4 + 1).toNatClampNeg = x
  generalize xs (x4 + 2).toNatClampNeg = y
  obtain ⟨a, a1, a2, rfl⟩ := I_ex x
  obtain ⟨c, c1, c2, rfl⟩ := I_ex y
  by_cases ha : 0 ≤ a ∧ a ≤ sG s 5
  · obtain ⟨i, hi, rfl⟩ := int_ix' ha
    by_cases hc : 0 ≤ c ∧ c < sG s 4
    · obtain ⟨p, hp, rfl⟩ := int_ix2 hc
      refine OKI.v (v := oI (sE s (4 * i + p))) hI ?_ ?_ (thr_g Z _) (Fr.refl _) (frT Z _)
      · rw [fL_generation, fX9_generation, rqM_t hS w1 hi, rqP_t hS w1 hp]
        simp (disch := omega) only [gd_true, ltb_eq, bd_eq, bd2_eq, rq_none, rq_thr, xc_val, xc_thr, oI_lt, oI_le, oI_eq, oL_lt, oL_le, oL_eq, oI_L, oI_clamp, oI_inb, oL_nz, kI_0, kI_1, kI_2, kI_3, kI_4, kI_5, kI_6, kI_7, kI_8, kI_9, kI_10, kI_12, kI_16, kI_17, kI_19, kI_20, kI_23, kI_24, kI_30, kI_32, kI_36, kI_48, kI_57, kI_59, kI_60, kI_72, kI_80, kI_84, kI_97, kI_98, kI_100, kI_122, kI_148, kI_200, kI_300, kI_1058, kI_1108, kI_1348, kI_1588, kI_5290, kI_7940, kI_100000, kI_e7, kI_e9, kL_0, kL_1, kL_5, kL_9, kL_10, kL_12, kL_23, kL_30, kL_48, kL_57, kL_59, kL_97, kL_100, kL_122, kL_1000, kL_e7, kL_e9, kL_e10, oI_add, oI_sub, oI_mul, oI_neg, oL_add, oL_sub, oL_mul, oL_neg, oL_I, fX7_cell]
        rw [show ((i : Int) * 4 + (p : Int)).toNat = 4 * i + p by omega, hS.gn (by omega)]
        rfl
      · rw [fX10_generation, mon_t hZ w1 hi]
        simp (disch := omega) only [gd_true, ltb_eq, bd_eq, bd2_eq, rq_none, rq_thr, xc_val, xc_thr, oI_lt, oI_le, oI_eq, oL_lt, oL_le, oL_eq, oI_L, oI_clamp, oI_inb, oL_nz, kI_0, kI_1, kI_2, kI_3, kI_4, kI_5, kI_6, kI_7, kI_8, kI_9, kI_10, kI_12, kI_16, kI_17, kI_19, kI_20, kI_23, kI_24, kI_30, kI_32, kI_36, kI_48, kI_57, kI_59, kI_60, kI_72, kI_80, kI_84, kI_97, kI_98, kI_100, kI_122, kI_148, kI_200, kI_300, kI_1058, kI_1108, kI_1348, kI_1588, kI_5290, kI_7940, kI_100000, kI_e7, kI_e9, kL_0, kL_1, kL_5, kL_9, kL_10, kL_12, kL_23, kL_30, kL_48, kL_57, kL_59, kL_97, kL_100, kL_122, kL_1000, kL_e7, kL_e9, kL_e10, oI_add, oI_sub, oI_mul, oI_neg, oL_add, oL_sub, oL_mul, oL_neg, oL_I, wI_1, wI_2, wL_1, wL_2, fI_1, fI_2, fL_1, fL_2, eq_self, Nat.reduceEqDiff, Int.reduceLE, Int.reduceLT, Int.reduceEq, Int.reduceToNat, and_true, true_and, and_false, false_and, and_self, if_true, if_false, ite_true, ite_false, reduceCtorEq, Zg hZ, fX10_generatedAt]
        rw [isIn_t _ (by omega) (by omega) (by omega)]
        simp (disch := omega) only [gd_true, ltb_eq, bd_eq, bd2_eq, rq_none, rq_thr, xc_val, xc_thr, oI_lt, oI_le, oI_eq, oL_lt, oL_le, oL_eq, oI_L, oI_clamp, oI_inb, oL_nz, eq_self, Nat.reduceEqDiff, Int.reduceLE, Int.reduceLT, Int.reduceEq, Int.reduceToNat, and_true, true_and, and_false, false_and, and_self, if_true, if_false, ite_true, ite_false, reduceCtorEq]
        rw [show (1108 + 4 * (i : Int) + (p : Int)).toNat = 1108 + (4 * i + p) by omega, show Z.1 27 0 0 (1108 + (4 * i + p)) = oI (sE s (4 * i + p)) from hZ.gn (by omega)]
    · refine OKI.t (r := 1) (v := 0) hI ?_ ?_ (thr_g Z _) (by decide) (Fr.refl _) (frT Z _)
      · rw [fL_generation, fX9_generation, rqM_t hS w1 hi, rqP_f hS w1 c1 c2 hc]
        rfl
      · rw [fX10_generation, mon_t hZ w1 hi]
        simp (disch := omega) only [gd_true, ltb_eq, bd_eq, bd2_eq, rq_none, rq_thr, xc_val, xc_thr, oI_lt, oI_le, oI_eq, oL_lt, oL_le, oL_eq, oI_L, oI_clamp, oI_inb, oL_nz, kI_0, kI_1, kI_2, kI_3, kI_4, kI_5, kI_6, kI_7, kI_8, kI_9, kI_10, kI_12, kI_16, kI_17, kI_19, kI_20, kI_23, kI_24, kI_30, kI_32, kI_36, kI_48, kI_57, kI_59, kI_60, kI_72, kI_80, kI_84, kI_97, kI_98, kI_100, kI_122, kI_148, kI_200, kI_300, kI_1058, kI_1108, kI_1348, kI_1588, kI_5290, kI_7940, kI_100000, kI_e7, kI_e9, kL_0, kL_1, kL_5, kL_9, kL_10, kL_12, kL_23, kL_30, kL_48, kL_57, kL_59, kL_97, kL_100, kL_122, kL_1000, kL_e7, kL_e9, kL_e10, oI_add, oI_sub, oI_mul, oI_neg, oL_add, oL_sub, oL_mul, oL_neg, oL_I, wI_1, wI_2, wL_1, wL_2, fI_1, fI_2, fL_1, fL_2, eq_self, Nat.reduceEqDiff, Int.reduceLE, Int.reduceLT, Int.reduceEq, Int.reduceToNat, and_true, true_and, and_false, false_and, and_self, if_true, if_false, ite_true, ite_false, reduceCtorEq, Zg hZ, fX10_generatedAt]
        rw [isIn_f _ (by omega) (by omega) (by omega) (by omega) (by omega) (by omega) (by omega)]
        simp (disch := omega) only [gd_true, ltb_eq, bd_eq, bd2_eq, rq_none, rq_thr, xc_val, xc_thr, oI_lt, oI_le, oI_eq, oL_lt, oL_le, oL_eq, oI_L, oI_clamp, oI_inb, oL_nz, eq_self, Nat.reduceEqDiff, Int.reduceLE, Int.reduceLT, Int.reduceEq, Int.reduceToNat, and_true, true_and, and_false, false_and, and_self, if_true, if_false, ite_true, ite_false, reduceCtorEq]
  · refine OKI.t (r := 1) (v := 0) hI ?_ ?_ (thr_g Z _) (by decide) (Fr.refl _) (frT Z _)
    · rw [fL_generation, fX9_generation, rqM_f hS w1 a1 a2 ha]
      rfl
    · rw [fX10_generation, mon_f hZ w1 a1 a2 ha]
      simp (disch := omega) only [gd_true, ltb_eq, bd_eq, bd2_eq, rq_none, rq_thr, xc_val, xc_thr, oI_lt, oI_le, oI_eq, oL_lt, oL_le, oL_eq, oI_L, oI_clamp, oI_inb, oL_nz, kI_0, kI_1, kI_2, kI_3, kI_4, kI_5, kI_6, kI_7, kI_8, kI_9, kI_10, kI_12, kI_16, kI_17, kI_19, kI_20, kI_23, kI_24, kI_30, kI_32, kI_36, kI_48, kI_57, kI_59, kI_60, kI_72, kI_80, kI_84, kI_97, kI_98, kI_100, kI_122, kI_148, kI_200, kI_300, kI_1058, kI_1108, kI_1348, kI_1588, kI_5290, kI_7940, kI_100000, kI_e7, kI_e9, kL_0, kL_1, kL_5, kL_9, kL_10, kL_12, kL_23, kL_30, kL_48, kL_57, kL_59, kL_97, kL_100, kL_122, kL_1000, kL_e7, kL_e9, kL_e10, oI_add, oI_sub, oI_mul, oI_neg, oL_add, oL_sub, oL_mul, oL_neg, oL_I, wI_1, wI_2, wL_1, wL_2, fI_1, fI_2, fL_1, fL_2, eq_self, Nat.reduceEqDiff, Int.reduceLE, Int.reduceLT, Int.reduceEq, Int.reduceToNat, and_true, true_and, and_false, false_and, and_self, if_true, if_false, ite_true, ite_false, reduceCtorEq]
theorem case27 : CaseOK fL_case27 := by
  intro n L A Z xs x4 hn hI hin
  obtain ⟨_, i1, i2, i3, i4, i5⟩ := hin
  rw [fL_case27]
  simp only [i1, i2, i3, i4, i5, gd_true]
  obtain ⟨⟨s, N, hS, hZ, hW⟩, hR⟩ := id hI
  obtain ⟨w1, w2, w3, w4, w5, w6, w7, w8⟩ := id hW
  obtain ⟨g0, g1, g2, g3, g4, g5, g6, g7, hN⟩ := id w1
  refine OKL.c ?_
  generalize xs (x4 + 1).toNatClampNeg = x
  obtain ⟨a, a1, a2, rfl⟩ := I_ex x
  by_cases ha : 0 ≤ a ∧ a ≤ sG s 5
  · obtain ⟨i, hi, rfl⟩ := int_ix' ha
    refine OKL.v (v := oL (worth s i)) hI ?_ ?_ (thr_g Z _) (Fr.refl _) (frT Z _)
    · rw [fL_issued, fX9_issued, rqM_t hS w1 hi, val hS w1 w2 w6 (by omega)]
      rfl
    · rw [fX10_issued, mon_t hZ w1 hi]
      simp (disch := omega) only [gd_true, ltb_eq, bd_eq, bd2_eq, rq_none, rq_thr, xc_val, xc_thr, oI_lt, oI_le, oI_eq, oL_lt, oL_le, oL_eq, oI_L, oI_clamp, oI_inb, oL_nz, kI_0, kI_1, kI_2, kI_3, kI_4, kI_5, kI_6, kI_7, kI_8, kI_9, kI_10, kI_12, kI_16, kI_17, kI_19, kI_20, kI_23, kI_24, kI_30, kI_32, kI_36, kI_48, kI_57, kI_59, kI_60, kI_72, kI_80, kI_84, kI_97, kI_98, kI_100, kI_122, kI_148, kI_200, kI_300, kI_1058, kI_1108, kI_1348, kI_1588, kI_5290, kI_7940, kI_100000, kI_e7, kI_e9, kL_0, kL_1, kL_5, kL_9, kL_10, kL_12, kL_23, kL_30, kL_48, kL_57, kL_59, kL_97, kL_100, kL_122, kL_1000, kL_e7, kL_e9, kL_e10, oI_add, oI_sub, oI_mul, oI_neg, oL_add, oL_sub, oL_mul, oL_neg, oL_I, wI_1, wI_2, wL_1, wL_2, fI_1, fI_2, fL_1, fL_2, eq_self, Nat.reduceEqDiff, Int.reduceLE, Int.reduceLT, Int.reduceEq, Int.reduceToNat, and_true, true_and, and_false, false_and, and_self, if_true, if_false, ite_true, ite_false, reduceCtorEq, wor (ZRt hZ) w1 w2 w6]
  · refine OKL.t (r := 1) (v := 0) hI ?_ ?_ (thr_g Z _) (by decide) (Fr.refl _) (frT Z _)
    · rw [fL_issued, fX9_issued, rqM_f hS w1 a1 a2 ha]
      rfl
    · rw [fX10_issued, mon_f hZ w1 a1 a2 ha]
      simp (disch := omega) only [gd_true, ltb_eq, bd_eq, bd2_eq, rq_none, rq_thr, xc_val, xc_thr, oI_lt, oI_le, oI_eq, oL_lt, oL_le, oL_eq, oI_L, oI_clamp, oI_inb, oL_nz, kI_0, kI_1, kI_2, kI_3, kI_4, kI_5, kI_6, kI_7, kI_8, kI_9, kI_10, kI_12, kI_16, kI_17, kI_19, kI_20, kI_23, kI_24, kI_30, kI_32, kI_36, kI_48, kI_57, kI_59, kI_60, kI_72, kI_80, kI_84, kI_97, kI_98, kI_100, kI_122, kI_148, kI_200, kI_300, kI_1058, kI_1108, kI_1348, kI_1588, kI_5290, kI_7940, kI_100000, kI_e7, kI_e9, kL_0, kL_1, kL_5, kL_9, kL_10, kL_12, kL_23, kL_30, kL_48, kL_57, kL_59, kL_97, kL_100, kL_122, kL_1000, kL_e7, kL_e9, kL_e10, oI_add, oI_sub, oI_mul, oI_neg, oL_add, oL_sub, oL_mul, oL_neg, oL_I, wI_1, wI_2, wL_1, wL_2, fI_1, fI_2, fL_1, fL_2, eq_self, Nat.reduceEqDiff, Int.reduceLE, Int.reduceLT, Int.reduceEq, Int.reduceToNat, and_true, true_and, and_false, false_and, and_self, if_true, if_false, ite_true, ite_false, reduceCtorEq]
theorem case31 : CaseOK fL_case31 := by
  intro n L A Z xs x4 hn hI hin
  obtain ⟨_, i1, i2, i3, i4, i5⟩ := hin
  rw [fL_case31]
  simp only [i1, i2, i3, i4, i5, gd_true]
  obtain ⟨⟨s, N, hS, hZ, hW⟩, hR⟩ := id hI
  obtain ⟨w1, w2, w3, w4, w5, w6, w7, w8⟩ := id hW
  obtain ⟨g0, g1, g2, g3, g4, g5, g6, g7, hN⟩ := id w1
  refine OKL.c ?_
  generalize xs (x4 + 1).toNatClampNeg = x
  generalize xs (x4 + 2).toNatClampNeg = y
  obtain ⟨a, a1, a2, rfl⟩ := I_ex x
  obtain ⟨c, c1, c2, rfl⟩ := I_ex y
  by_cases ha : 0 ≤ a ∧ a < N
  · obtain ⟨i, hi, rfl⟩ := int_ix ha
    by_cases hc : 0 ≤ c ∧ c ≤ sG s 5
    · obtain ⟨p, hp, rfl⟩ := int_ix' hc
      refine OKL.v (v := oL (sT s i p)) hI ?_ ?_ (thr_g Z _) (Fr.refl _) (frT Z _)
      · rw [fL_lot, fX9_lot, rqS_t hS hN hi, rqM_t hS w1 hp]
        simp (disch := omega) only [gd_true, ltb_eq, bd_eq, bd2_eq, rq_none, rq_thr, xc_val, xc_thr, oI_lt, oI_le, oI_eq, oL_lt, oL_le, oL_eq, oI_L, oI_clamp, oI_inb, oL_nz, kI_0, kI_1, kI_2, kI_3, kI_4, kI_5, kI_6, kI_7, kI_8, kI_9, kI_10, kI_12, kI_16, kI_17, kI_19, kI_20, kI_23, kI_24, kI_30, kI_32, kI_36, kI_48, kI_57, kI_59, kI_60, kI_72, kI_80, kI_84, kI_97, kI_98, kI_100, kI_122, kI_148, kI_200, kI_300, kI_1058, kI_1108, kI_1348, kI_1588, kI_5290, kI_7940, kI_100000, kI_e7, kI_e9, kL_0, kL_1, kL_5, kL_9, kL_10, kL_12, kL_23, kL_30, kL_48, kL_57, kL_59, kL_97, kL_100, kL_122, kL_1000, kL_e7, kL_e9, kL_e10, oI_add, oI_sub, oI_mul, oI_neg, oL_add, oL_sub, oL_mul, oL_neg, oL_I, cl_nat]
        rw [hS.lt hi (by omega), if_pos (by omega)]
        rfl
      · rw [fX10_lot, mem_t hZ w1 hi, mon_t hZ w1 hp]
        simp (disch := omega) only [gd_true, ltb_eq, bd_eq, bd2_eq, rq_none, rq_thr, xc_val, xc_thr, oI_lt, oI_le, oI_eq, oL_lt, oL_le, oL_eq, oI_L, oI_clamp, oI_inb, oL_nz, kI_0, kI_1, kI_2, kI_3, kI_4, kI_5, kI_6, kI_7, kI_8, kI_9, kI_10, kI_12, kI_16, kI_17, kI_19, kI_20, kI_23, kI_24, kI_30, kI_32, kI_36, kI_48, kI_57, kI_59, kI_60, kI_72, kI_80, kI_84, kI_97, kI_98, kI_100, kI_122, kI_148, kI_200, kI_300, kI_1058, kI_1108, kI_1348, kI_1588, kI_5290, kI_7940, kI_100000, kI_e7, kI_e9, kL_0, kL_1, kL_5, kL_9, kL_10, kL_12, kL_23, kL_30, kL_48, kL_57, kL_59, kL_97, kL_100, kL_122, kL_1000, kL_e7, kL_e9, kL_e10, oI_add, oI_sub, oI_mul, oI_neg, oL_add, oL_sub, oL_mul, oL_neg, oL_I, wI_1, wI_2, wL_1, wL_2, fI_1, fI_2, fL_1, fL_2, eq_self, Nat.reduceEqDiff, Int.reduceLE, Int.reduceLT, Int.reduceEq, Int.reduceToNat, and_true, true_and, and_false, false_and, and_self, if_true, if_false, ite_true, ite_false, reduceCtorEq, fX10_lotAt]
        rw [show Z.2 30 0 0 (98 + 60 * (i : Int) + (p : Int)).toNat = oL (sT s i p) from hZ.lt (by omega) (by omega)]
    · refine OKL.t (r := 1) (v := 0) hI ?_ ?_ (thr_g Z _) (by decide) (Fr.refl _) (frT Z _)
      · rw [fL_lot, fX9_lot, rqS_t hS hN hi, rqM_f hS w1 c1 c2 hc]
        rfl
      · rw [fX10_lot, mem_t hZ w1 hi, mon_f hZ w1 c1 c2 hc]
        simp (disch := omega) only [gd_true, ltb_eq, bd_eq, bd2_eq, rq_none, rq_thr, xc_val, xc_thr, oI_lt, oI_le, oI_eq, oL_lt, oL_le, oL_eq, oI_L, oI_clamp, oI_inb, oL_nz, kI_0, kI_1, kI_2, kI_3, kI_4, kI_5, kI_6, kI_7, kI_8, kI_9, kI_10, kI_12, kI_16, kI_17, kI_19, kI_20, kI_23, kI_24, kI_30, kI_32, kI_36, kI_48, kI_57, kI_59, kI_60, kI_72, kI_80, kI_84, kI_97, kI_98, kI_100, kI_122, kI_148, kI_200, kI_300, kI_1058, kI_1108, kI_1348, kI_1588, kI_5290, kI_7940, kI_100000, kI_e7, kI_e9, kL_0, kL_1, kL_5, kL_9, kL_10, kL_12, kL_23, kL_30, kL_48, kL_57, kL_59, kL_97, kL_100, kL_122, kL_1000, kL_e7, kL_e9, kL_e10, oI_add, oI_sub, oI_mul, oI_neg, oL_add, oL_sub, oL_mul, oL_neg, oL_I, wI_1, wI_2, wL_1, wL_2, fI_1, fI_2, fL_1, fL_2, eq_self, Nat.reduceEqDiff, Int.reduceLE, Int.reduceLT, Int.reduceEq, Int.reduceToNat, and_true, true_and, and_false, false_and, and_self, if_true, if_false, ite_true, ite_false, reduceCtorEq, fX10_lotAt]
  · refine OKL.t (r := 1) (v := 0) hI ?_ ?_ (thr_g Z _) (by decide) (Fr.refl _) (frT Z _)
    · rw [fL_lot, fX9_lot, rqS_f hS hN a1 a2 ha]
      rfl
    · rw [fX10_lot, mem_f hZ w1 a1 a2 ha]
      simp (disch := omega) only [gd_true, ltb_eq, bd_eq, bd2_eq, rq_none, rq_thr, xc_val, xc_thr, oI_lt, oI_le, oI_eq, oL_lt, oL_le, oL_eq, oI_L, oI_clamp, oI_inb, oL_nz, kI_0, kI_1, kI_2, kI_3, kI_4, kI_5, kI_6, kI_7, kI_8, kI_9, kI_10, kI_12, kI_16, kI_17, kI_19, kI_20, kI_23, kI_24, kI_30, kI_32, kI_36, kI_48, kI_57, kI_59, kI_60, kI_72, kI_80, kI_84, kI_97, kI_98, kI_100, kI_122, kI_148, kI_200, kI_300, kI_1058, kI_1108, kI_1348, kI_1588, kI_5290, kI_7940, kI_100000, kI_e7, kI_e9, kL_0, kL_1, kL_5, kL_9, kL_10, kL_12, kL_23, kL_30, kL_48, kL_57, kL_59, kL_97, kL_100, kL_122, kL_1000, kL_e7, kL_e9, kL_e10, oI_add, oI_sub, oI_mul, oI_neg, oL_add, oL_sub, oL_mul, oL_neg, oL_I, wI_1, wI_2, wL_1, wL_2, fI_1, fI_2, fL_1, fL_2, eq_self, Nat.reduceEqDiff, Int.reduceLE, Int.reduceLT, Int.reduceEq, Int.reduceToNat, and_true, true_and, and_false, false_and, and_self, if_true, if_false, ite_true, ite_false, reduceCtorEq, fX10_lotAt]
theorem case32 : CaseOK fL_case32 := by
  intro n L A Z xs x4 hn hI hin
  obtain ⟨_, i1, i2, i3, i4, i5⟩ := hin
  rw [fL_case32]
  simp only [i1, i2, i3, i4, i5, gd_true]
  obtain ⟨⟨s, N, hS, hZ, hW⟩, hR⟩ := id hI
  obtain ⟨w1, w2, w3, w4, w5, w6, w7, w8⟩ := id hW
  obtain ⟨g0, g1, g2, g3, g4, g5, g6, g7, hN⟩ := id w1
  refine OKL.c ?_
  generalize xs (x4 + 1).toNatClampNeg = x
  generalize xs (x4 + 2).toNatClampNeg = y
  obtain ⟨a, a1, a2, rfl⟩ := I_ex x
  obtain ⟨c, c1, c2, rfl⟩ := I_ex y
  by_cases ha : 0 ≤ a ∧ a < N
  · obtain ⟨i, hi, rfl⟩ := int_ix ha
    by_cases hc : 0 ≤ c ∧ c < 6
    · obtain ⟨p, hp, rfl⟩ := int_ix2 hc
      refine OKL.v (v := oL (sA s i p)) hI ?_ ?_ (thr_g Z _) (Fr.refl _) (frT Z _)
      · rw [fL_account, fX9_account, rqS_t hS hN hi]
        simp (disch := omega) only [gd_true, ltb_eq, bd_eq, bd2_eq, rq_none, rq_thr, xc_val, xc_thr, oI_lt, oI_le, oI_eq, oL_lt, oL_le, oL_eq, oI_L, oI_clamp, oI_inb, oL_nz, kI_0, kI_1, kI_2, kI_3, kI_4, kI_5, kI_6, kI_7, kI_8, kI_9, kI_10, kI_12, kI_16, kI_17, kI_19, kI_20, kI_23, kI_24, kI_30, kI_32, kI_36, kI_48, kI_57, kI_59, kI_60, kI_72, kI_80, kI_84, kI_97, kI_98, kI_100, kI_122, kI_148, kI_200, kI_300, kI_1058, kI_1108, kI_1348, kI_1588, kI_5290, kI_7940, kI_100000, kI_e7, kI_e9, kL_0, kL_1, kL_5, kL_9, kL_10, kL_12, kL_23, kL_30, kL_48, kL_57, kL_59, kL_97, kL_100, kL_122, kL_1000, kL_e7, kL_e9, kL_e10, oI_add, oI_sub, oI_mul, oI_neg, oL_add, oL_sub, oL_mul, oL_neg, oL_I, cl_nat]
        rw [if_neg (by omega), if_pos (by omega), hS.ac hi (by omega)]
        rfl
      · rw [fX10_account, mem_t hZ w1 hi]
        simp (disch := omega) only [gd_true, ltb_eq, bd_eq, bd2_eq, rq_none, rq_thr, xc_val, xc_thr, oI_lt, oI_le, oI_eq, oL_lt, oL_le, oL_eq, oI_L, oI_clamp, oI_inb, oL_nz, kI_0, kI_1, kI_2, kI_3, kI_4, kI_5, kI_6, kI_7, kI_8, kI_9, kI_10, kI_12, kI_16, kI_17, kI_19, kI_20, kI_23, kI_24, kI_30, kI_32, kI_36, kI_48, kI_57, kI_59, kI_60, kI_72, kI_80, kI_84, kI_97, kI_98, kI_100, kI_122, kI_148, kI_200, kI_300, kI_1058, kI_1108, kI_1348, kI_1588, kI_5290, kI_7940, kI_100000, kI_e7, kI_e9, kL_0, kL_1, kL_5, kL_9, kL_10, kL_12, kL_23, kL_30, kL_48, kL_57, kL_59, kL_97, kL_100, kL_122, kL_1000, kL_e7, kL_e9, kL_e10, oI_add, oI_sub, oI_mul, oI_neg, oL_add, oL_sub, oL_mul, oL_neg, oL_I, wI_1, wI_2, wL_1, wL_2, fI_1, fI_2, fL_1, fL_2, eq_self, Nat.reduceEqDiff, Int.reduceLE, Int.reduceLT, Int.reduceEq, Int.reduceToNat, and_true, true_and, and_false, false_and, and_self, if_true, if_false, ite_true, ite_false, reduceCtorEq, fX10_accountAt]
        rw [isIn_t _ (by omega) (by omega) (by omega)]
        simp (disch := omega) only [gd_true, ltb_eq, bd_eq, bd2_eq, rq_none, rq_thr, xc_val, xc_thr, oI_lt, oI_le, oI_eq, oL_lt, oL_le, oL_eq, oI_L, oI_clamp, oI_inb, oL_nz, eq_self, Nat.reduceEqDiff, Int.reduceLE, Int.reduceLT, Int.reduceEq, Int.reduceToNat, and_true, true_and, and_false, false_and, and_self, if_true, if_false, ite_true, ite_false, reduceCtorEq]
        rw [show Z.2 30 0 0 (2 + 6 * (i : Int) + (p : Int)).toNat = oL (sA s i p) from hZ.ac (by omega) (by omega)]
    · refine OKL.t (r := 2) (v := 0) hI ?_ ?_ (thr_g Z _) (by decide) (Fr.refl _) (frT Z _)
      · rw [fL_account, fX9_account, rqS_t hS hN hi]
        simp (disch := omega) only [gd_true, ltb_eq, bd_eq, bd2_eq, rq_none, rq_thr, xc_val, xc_thr, oI_lt, oI_le, oI_eq, oL_lt, oL_le, oL_eq, oI_L, oI_clamp, oI_inb, oL_nz, kI_0, kI_1, kI_2, kI_3, kI_4, kI_5, kI_6, kI_7, kI_8, kI_9, kI_10, kI_12, kI_16, kI_17, kI_19, kI_20, kI_23, kI_24, kI_30, kI_32, kI_36, kI_48, kI_57, kI_59, kI_60, kI_72, kI_80, kI_84, kI_97, kI_98, kI_100, kI_122, kI_148, kI_200, kI_300, kI_1058, kI_1108, kI_1348, kI_1588, kI_5290, kI_7940, kI_100000, kI_e7, kI_e9, kL_0, kL_1, kL_5, kL_9, kL_10, kL_12, kL_23, kL_30, kL_48, kL_57, kL_59, kL_97, kL_100, kL_122, kL_1000, kL_e7, kL_e9, kL_e10, oI_add, oI_sub, oI_mul, oI_neg, oL_add, oL_sub, oL_mul, oL_neg, oL_I, cl_nat]
        by_cases e : c < 0
        · rw [if_pos e]; rfl
        · rw [if_neg e, if_neg (by omega)]; rfl
      · rw [fX10_account, mem_t hZ w1 hi]
        simp (disch := omega) only [gd_true, ltb_eq, bd_eq, bd2_eq, rq_none, rq_thr, xc_val, xc_thr, oI_lt, oI_le, oI_eq, oL_lt, oL_le, oL_eq, oI_L, oI_clamp, oI_inb, oL_nz, kI_0, kI_1, kI_2, kI_3, kI_4, kI_5, kI_6, kI_7, kI_8, kI_9, kI_10, kI_12, kI_16, kI_17, kI_19, kI_20, kI_23, kI_24, kI_30, kI_32, kI_36, kI_48, kI_57, kI_59, kI_60, kI_72, kI_80, kI_84, kI_97, kI_98, kI_100, kI_122, kI_148, kI_200, kI_300, kI_1058, kI_1108, kI_1348, kI_1588, kI_5290, kI_7940, kI_100000, kI_e7, kI_e9, kL_0, kL_1, kL_5, kL_9, kL_10, kL_12, kL_23, kL_30, kL_48, kL_57, kL_59, kL_97, kL_100, kL_122, kL_1000, kL_e7, kL_e9, kL_e10, oI_add, oI_sub, oI_mul, oI_neg, oL_add, oL_sub, oL_mul, oL_neg, oL_I, wI_1, wI_2, wL_1, wL_2, fI_1, fI_2, fL_1, fL_2, eq_self, Nat.reduceEqDiff, Int.reduceLE, Int.reduceLT, Int.reduceEq, Int.reduceToNat, and_true, true_and, and_false, false_and, and_self, if_true, if_false, ite_true, ite_false, reduceCtorEq, fX10_accountAt]
        rw [isIn_f _ (by omega) (by omega) (by omega) (by omega) (by omega) (by omega) (by omega)]
        simp (disch := omega) only [gd_true, ltb_eq, bd_eq, bd2_eq, rq_none, rq_thr, xc_val, xc_thr, oI_lt, oI_le, oI_eq, oL_lt, oL_le, oL_eq, oI_L, oI_clamp, oI_inb, oL_nz, eq_self, Nat.reduceEqDiff, Int.reduceLE, Int.reduceLT, Int.reduceEq, Int.reduceToNat, and_true, true_and, and_false, false_and, and_self, if_true, if_false, ite_true, ite_false, reduceCtorEq]
  · refine OKL.t (r := 1) (v := 0) hI ?_ ?_ (thr_g Z _) (by decide) (Fr.refl _) (frT Z _)
    · rw [fL_account, fX9_account, rqS_f hS hN a1 a2 ha]
      rfl
    · rw [fX10_account, mem_f hZ w1 a1 a2 ha]
      simp (disch := omega) only [gd_true, ltb_eq, bd_eq, bd2_eq, rq_none, rq_thr, xc_val, xc_thr, oI_lt, oI_le, oI_eq, oL_lt, oL_le, oL_eq, oI_L, oI_clamp, oI_inb, oL_nz, kI_0, kI_1, kI_2, kI_3, kI_4, kI_5, kI_6, kI_7, kI_8, kI_9, kI_10, kI_12, kI_16, kI_17, kI_19, kI_20, kI_23, kI_24, kI_30, kI_32, kI_36, kI_48, kI_57, kI_59, kI_60, kI_72, kI_80, kI_84, kI_97, kI_98, kI_100, kI_122, kI_148, kI_200, kI_300, kI_1058, kI_1108, kI_1348, kI_1588, kI_5290, kI_7940, kI_100000, kI_e7, kI_e9, kL_0, kL_1, kL_5, kL_9, kL_10, kL_12, kL_23, kL_30, kL_48, kL_57, kL_59, kL_97, kL_100, kL_122, kL_1000, kL_e7, kL_e9, kL_e10, oI_add, oI_sub, oI_mul, oI_neg, oL_add, oL_sub, oL_mul, oL_neg, oL_I, wI_1, wI_2, wL_1, wL_2, fI_1, fI_2, fL_1, fL_2, eq_self, Nat.reduceEqDiff, Int.reduceLE, Int.reduceLT, Int.reduceEq, Int.reduceToNat, and_true, true_and, and_false, false_and, and_self, if_true, if_false, ite_true, ite_false, reduceCtorEq, fX10_accountAt]
