def p39 (c _ _ : Nat) : Bool := c == 39
theorem p39_wk {A A' : sM} (h : Fr p39 A A') : Fr wkZ A A' := h.mono fun c k o hq => by
  simp only [wkZ, p39] at hq ⊢
  by_cases e : c = 39
  · subst e; simp at hq
  · simpa using e
section
variable {A Z : sM} {s : sS} {N n b : Nat}
theorem zpay_L {f : Nat → Int} {x : Int} (hx : 0 ≤ x ∧ x < 9223372036854775808) (hf : ∀ m, m < 84 → 0 ≤ f m ∧ f m < 4611686018427387904) {Z0 : sM} (k : Int64 → sM → Option (Int32 × sM)) :
    ∀ (fuel i : Nat) (Z : sM), i ≤ 84 → 84 - i < fuel → Fr p39 Z0 Z → (∀ m, m < 84 → Z.2 39 0 0 m = oL (if m < i then payd f x m else f m)) →
    ∃ Z', Fr p39 Z0 Z' ∧ (∀ m, m < 84 → Z'.2 39 0 0 m = oL (payd f x m)) ∧ fX10_pays_L5 k fuel (oL (rmn f x i)) (oI i) Z = k (oL (rmn f x 84)) Z' := by
  intro fuel
  induction fuel with
  | zero => intro i A _ h; omega
  | succ fuel ih =>
    intro i Z hi hfu hF h25
    have hb := rmn_bd hx.1 (f := f) (n := i) (fun m hm => (hf m (by omega)).1)
    by_cases e : i = 84
    · refine ⟨Z, hF, fun m hm => by rw [h25 m hm, if_pos (by omega)], ?_⟩
      rw [fX10_pays_L5, if_pos (by simp (disch := omega) only [kI_0, kI_1, kI_2, kI_3, kI_4, kI_5, kI_6, kI_7, kI_8, kI_9, kI_10, kI_12, kI_16, kI_17, kI_19, kI_20, kI_23, kI_24, kI_30, kI_32, kI_36, kI_48, kI_57, kI_59, kI_60, kI_72, kI_80, kI_84, kI_97, kI_98, kI_100, kI_122, kI_148, kI_200, kI_300, kI_1058, kI_1108, kI_1348, kI_1588, kI_5290, kI_7940, kI_100000, kI_e7, kI_e9, kL_0, kL_1, kL_5, kL_9, kL_10, kL_12, kL_23, kL_30, kL_48, kL_57, kL_59, kL_97, kL_100, kL_122, kL_1000, kL_e7, kL_e9, kL_e10, oI_lt, oI_le, oI_eq, oL_lt, oL_le, oL_eq, oI_L, oI_clamp, oI_inb, oL_nz]; omega), e]
    · by_cases e2 : rmn f x i = 0
      · refine ⟨Z, hF, fun m hm => ?_, ?_⟩
        · rw [h25 m hm]
          by_cases e3 : m < i
          · rw [if_pos e3]
          · rw [if_neg e3, payd_done e2 (by omega) (fun j hj => (hf j (by omega)).1)]
        · have e4 := rmn_done e2 (84 - i) (fun j hj => (hf j (by omega)).1)
          rw [show i + (84 - i) = 84 by omega] at e4
          rw [fX10_pays_L5, if_neg (by simp (disch := omega) only [kI_0, kI_1, kI_2, kI_3, kI_4, kI_5, kI_6, kI_7, kI_8, kI_9, kI_10, kI_12, kI_16, kI_17, kI_19, kI_20, kI_23, kI_24, kI_30, kI_32, kI_36, kI_48, kI_57, kI_59, kI_60, kI_72, kI_80, kI_84, kI_97, kI_98, kI_100, kI_122, kI_148, kI_200, kI_300, kI_1058, kI_1108, kI_1348, kI_1588, kI_5290, kI_7940, kI_100000, kI_e7, kI_e9, kL_0, kL_1, kL_5, kL_9, kL_10, kL_12, kL_23, kL_30, kL_48, kL_57, kL_59, kL_97, kL_100, kL_122, kL_1000, kL_e7, kL_e9, kL_e10, oI_lt, oI_le, oI_eq, oL_lt, oL_le, oL_eq, oI_L, oI_clamp, oI_inb, oL_nz]; omega), if_pos (by simp (disch := omega) only [kI_0, kI_1, kI_2, kI_3, kI_4, kI_5, kI_6, kI_7, kI_8, kI_9, kI_10, kI_12, kI_16, kI_17, kI_19, kI_20, kI_23, kI_24, kI_30, kI_32, kI_36, kI_48, kI_57, kI_59, kI_60, kI_72, kI_80, kI_84, kI_97, kI_98, kI_100, kI_122, kI_148, kI_200, kI_300, kI_1058, kI_1108, kI_1348, kI_1588, kI_5290, kI_7940, kI_100000, kI_e7, kI_e9, kL_0, kL_1, kL_5, kL_9, kL_10, kL_12, kL_23, kL_30, kL_48, kL_57, kL_59, kL_97, kL_100, kL_122, kL_1000, kL_e7, kL_e9, kL_e10, oI_lt, oI_le, oI_eq, oL_lt, oL_le, oL_eq, oI_L, oI_clamp, oI_inb, oL_nz]; omega), e2, e4]
      · have hfi := hf i (by omega)
        have hm9 := mn_le (f i) (rmn f x i)
        obtain ⟨Z', q1, q3, q4⟩ := ih (i + 1) (wL Z 39 0 0 i (oL (payd f x i))) (by omega) (by omega) (hF.wL rfl) (fun m hm => by
          rw [wL_2]
          by_cases em : m = i
          · rw [if_pos ⟨rfl, rfl, rfl, em⟩, if_pos (by omega), em]
          · rw [if_neg (by omega), h25 m hm]
            by_cases e3 : m < i
            · rw [if_pos e3, if_pos (by omega)]
            · rw [if_neg e3, if_neg (by omega)])
        refine ⟨Z', q1, q3, ?_⟩
        rw [fX10_pays_L5, if_neg (by simp (disch := omega) only [kI_0, kI_1, kI_2, kI_3, kI_4, kI_5, kI_6, kI_7, kI_8, kI_9, kI_10, kI_12, kI_16, kI_17, kI_19, kI_20, kI_23, kI_24, kI_30, kI_32, kI_36, kI_48, kI_57, kI_59, kI_60, kI_72, kI_80, kI_84, kI_97, kI_98, kI_100, kI_122, kI_148, kI_200, kI_300, kI_1058, kI_1108, kI_1348, kI_1588, kI_5290, kI_7940, kI_100000, kI_e7, kI_e9, kL_0, kL_1, kL_5, kL_9, kL_10, kL_12, kL_23, kL_30, kL_48, kL_57, kL_59, kL_97, kL_100, kL_122, kL_1000, kL_e7, kL_e9, kL_e10, oI_lt, oI_le, oI_eq, oL_lt, oL_le, oL_eq, oI_L, oI_clamp, oI_inb, oL_nz]; omega), if_neg (by simp (disch := omega) only [kI_0, kI_1, kI_2, kI_3, kI_4, kI_5, kI_6, kI_7, kI_8, kI_9, kI_10, kI_12, kI_16, kI_17, kI_19, kI_20, kI_23, kI_24, kI_30, kI_32, kI_36, kI_48, kI_57, kI_59, kI_60, kI_72, kI_80, kI_84, kI_97, kI_98, kI_100, kI_122, kI_148, kI_200, kI_300, kI_1058, kI_1108, kI_1348, kI_1588, kI_5290, kI_7940, kI_100000, kI_e7, kI_e9, kL_0, kL_1, kL_5, kL_9, kL_10, kL_12, kL_23, kL_30, kL_48, kL_57, kL_59, kL_97, kL_100, kL_122, kL_1000, kL_e7, kL_e9, kL_e10, oI_lt, oI_le, oI_eq, oL_lt, oL_le, oL_eq, oI_L, oI_clamp, oI_inb, oL_nz]; omega)]
        have ev : Z.2 39 0 0 i = oL (f i) := by rw [h25 i (by omega), if_neg (by omega)]
        simp (disch := omega) only [kI_0, kI_1, kI_2, kI_3, kI_4, kI_5, kI_6, kI_7, kI_8, kI_9, kI_10, kI_12, kI_16, kI_17, kI_19, kI_20, kI_23, kI_24, kI_30, kI_32, kI_36, kI_48, kI_57, kI_59, kI_60, kI_72, kI_80, kI_84, kI_97, kI_98, kI_100, kI_122, kI_148, kI_200, kI_300, kI_1058, kI_1108, kI_1348, kI_1588, kI_5290, kI_7940, kI_100000, kI_e7, kI_e9, kL_0, kL_1, kL_5, kL_9, kL_10, kL_12, kL_23, kL_30, kL_48, kL_57, kL_59, kL_97, kL_100, kL_122, kL_1000, kL_e7, kL_e9, kL_e10, oI_lt, oI_le, oI_eq, oL_lt, oL_le, oL_eq, oI_L, oI_clamp, oI_inb, oL_nz, gd_true, ltb_eq, bd_eq, bd2_eq, rq_none, rq_thr, xc_val, xc_thr, cl_nat, ev, oI_add, oI_sub, oI_mul, oI_neg, oL_add, oL_sub, oL_mul, oL_neg, oL_I, nat1]
        rw [← q4]
        by_cases e5 : rmn f x i ≤ f i
        · have em : mn (f i) (rmn f x i) = rmn f x i := by rw [mn, if_neg (by omega)]
          rw [if_pos e5, rmn, payd, em]
        · have em : mn (f i) (rmn f x i) = f i := by rw [mn, if_pos (by omega)]
          rw [if_neg e5, rmn, payd, em]
theorem zpay {f : Nat → Int} {x : Int} (hx : 0 ≤ x ∧ x < 9223372036854775808) (hf : ∀ m, m < 84 → 0 ≤ f m ∧ f m < 4611686018427387904) (h39 : ∀ m, m < 84 → Z.2 39 0 0 m = oL (f m)) :
    ∃ Z', Fr p39 Z Z' ∧ (∀ m, m < 84 → Z'.2 39 0 0 m = oL (payd f x m)) ∧ fX10_pays (oL x) Z = some (oI (if rmn f x 84 = 0 then 1 else 0), Z') := by
  have hb := rmn_bd hx.1 (f := f) (n := 84) (fun m hm => (hf m (by omega)).1)
  obtain ⟨Z', q1, q3, q4⟩ := zpay_L hx hf (Z0 := Z) (fun x3_1 Z_2 => if x3_1 = (0 : Int64) then some ((1 : Int32), Z_2) else some ((0 : Int32), Z_2)) 10000 0 Z (by omega) (by omega) (Fr.refl _) (fun m hm => by rw [h39 m hm, if_neg (by omega)])
  refine ⟨Z', q1, q3, ?_⟩
  rw [fX10_pays]
  refine q4.trans ?_
  simp (disch := omega) only [kI_0, kI_1, kI_2, kI_3, kI_4, kI_5, kI_6, kI_7, kI_8, kI_9, kI_10, kI_12, kI_16, kI_17, kI_19, kI_20, kI_23, kI_24, kI_30, kI_32, kI_36, kI_48, kI_57, kI_59, kI_60, kI_72, kI_80, kI_84, kI_97, kI_98, kI_100, kI_122, kI_148, kI_200, kI_300, kI_1058, kI_1108, kI_1348, kI_1588, kI_5290, kI_7940, kI_100000, kI_e7, kI_e9, kL_0, kL_1, kL_5, kL_9, kL_10, kL_12, kL_23, kL_30, kL_48, kL_57, kL_59, kL_97, kL_100, kL_122, kL_1000, kL_e7, kL_e9, kL_e10, oI_lt, oI_le, oI_eq, oL_lt, oL_le, oL_eq, oI_L, oI_clamp, oI_inb, oL_nz]
  split <;> rfl
theorem lay1_L {i : Nat} {Z0 : sM} (hZ0 : ZR (zA Z0) (zB Z0) s) (hi : i < 16) (x2 : Int64) (k : sM → Option (Int32 × sM)) : ∀ (fuel m : Nat) (Z : sM), m ≤ 84 → 84 - m < fuel → Fr p39 Z0 Z → (∀ j, j < m → Z.2 39 0 0 j = oL (if j < 60 then sT s i j else 0)) →
    ∃ Z', Fr p39 Z0 Z' ∧ (∀ j, j < 84 → Z'.2 39 0 0 j = oL (if j < 60 then sT s i j else 0)) ∧ fX10_monthsCovered_L39 (oI i) x2 k fuel (oI m) Z = k Z' := by
  intro fuel
  induction fuel with
  | zero => intro i A _ h; omega
  | succ fuel ih =>
    intro m Z hm hfu hF h9
    have hZ : ZR (zA Z) (zB Z) s := hZ0.keep (fun k => hF.i rfl) (fun k => hF.l rfl)
    by_cases e : m = 84
    · refine ⟨Z, hF, fun j hj => h9 j (by omega), ?_⟩
      rw [fX10_monthsCovered_L39, if_pos (by simp (disch := omega) only [kI_0, kI_1, kI_2, kI_3, kI_4, kI_5, kI_6, kI_7, kI_8, kI_9, kI_10, kI_12, kI_16, kI_17, kI_19, kI_20, kI_23, kI_24, kI_30, kI_32, kI_36, kI_48, kI_57, kI_59, kI_60, kI_72, kI_80, kI_84, kI_97, kI_98, kI_100, kI_122, kI_148, kI_200, kI_300, kI_1058, kI_1108, kI_1348, kI_1588, kI_5290, kI_7940, kI_100000, kI_e7, kI_e9, kL_0, kL_1, kL_5, kL_9, kL_10, kL_12, kL_23, kL_30, kL_48, kL_57, kL_59, kL_97, kL_100, kL_122, kL_1000, kL_e7, kL_e9, kL_e10, oI_lt, oI_le, oI_eq, oL_lt, oL_le, oL_eq, oI_L, oI_clamp, oI_inb, oL_nz]; omega)]
    · obtain ⟨Z', q1, q2, q3⟩ := ih (m + 1) (wL Z 39 0 0 m (oL (if m < 60 then sT s i m else 0))) (by omega) (by omega) (hF.wL rfl) (fun j hj => by
        rw [wL_2]
        by_cases ej : j = m
        · rw [if_pos ⟨rfl, rfl, rfl, ej⟩, ej]
        · rw [if_neg (by omega)]; exact h9 j (by omega))
      refine ⟨Z', q1, q2, ?_⟩
      rw [fX10_monthsCovered_L39, if_neg (by simp (disch := omega) only [kI_0, kI_1, kI_2, kI_3, kI_4, kI_5, kI_6, kI_7, kI_8, kI_9, kI_10, kI_12, kI_16, kI_17, kI_19, kI_20, kI_23, kI_24, kI_30, kI_32, kI_36, kI_48, kI_57, kI_59, kI_60, kI_72, kI_80, kI_84, kI_97, kI_98, kI_100, kI_122, kI_148, kI_200, kI_300, kI_1058, kI_1108, kI_1348, kI_1588, kI_5290, kI_7940, kI_100000, kI_e7, kI_e9, kL_0, kL_1, kL_5, kL_9, kL_10, kL_12, kL_23, kL_30, kL_48, kL_57, kL_59, kL_97, kL_100, kL_122, kL_1000, kL_e7, kL_e9, kL_e10, oI_lt, oI_le, oI_eq, oL_lt, oL_le, oL_eq, oI_L, oI_clamp, oI_inb, oL_nz]; omega), ← q3]
      by_cases e2 : m < 60
      · simp (disch := omega) only [kI_0, kI_1, kI_2, kI_3, kI_4, kI_5, kI_6, kI_7, kI_8, kI_9, kI_10, kI_12, kI_16, kI_17, kI_19, kI_20, kI_23, kI_24, kI_30, kI_32, kI_36, kI_48, kI_57, kI_59, kI_60, kI_72, kI_80, kI_84, kI_97, kI_98, kI_100, kI_122, kI_148, kI_200, kI_300, kI_1058, kI_1108, kI_1348, kI_1588, kI_5290, kI_7940, kI_100000, kI_e7, kI_e9, kL_0, kL_1, kL_5, kL_9, kL_10, kL_12, kL_23, kL_30, kL_48, kL_57, kL_59, kL_97, kL_100, kL_122, kL_1000, kL_e7, kL_e9, kL_e10, oI_lt, oI_le, oI_eq, oL_lt, oL_le, oL_eq, oI_L, oI_clamp, oI_inb, oL_nz, gd_true, ltb_eq, bd_eq, bd2_eq, rq_none, rq_thr, xc_val, xc_thr, oI_add, oI_sub, oI_mul, oI_neg, oL_add, oL_sub, oL_mul, oL_neg, oL_I, cl_nat, nat1, fX10_lotAt]
        rw [if_neg (by omega), if_pos e2, show Z.2 30 0 0 (98 + 60 * (i : Int) + (m : Int)).toNat = oL (sT s i m) from hZ.lt hi e2]
      · simp (disch := omega) only [kI_0, kI_1, kI_2, kI_3, kI_4, kI_5, kI_6, kI_7, kI_8, kI_9, kI_10, kI_12, kI_16, kI_17, kI_19, kI_20, kI_23, kI_24, kI_30, kI_32, kI_36, kI_48, kI_57, kI_59, kI_60, kI_72, kI_80, kI_84, kI_97, kI_98, kI_100, kI_122, kI_148, kI_200, kI_300, kI_1058, kI_1108, kI_1348, kI_1588, kI_5290, kI_7940, kI_100000, kI_e7, kI_e9, kL_0, kL_1, kL_5, kL_9, kL_10, kL_12, kL_23, kL_30, kL_48, kL_57, kL_59, kL_97, kL_100, kL_122, kL_1000, kL_e7, kL_e9, kL_e10, oI_lt, oI_le, oI_eq, oL_lt, oL_le, oL_eq, oI_L, oI_clamp, oI_inb, oL_nz, gd_true, ltb_eq, bd_eq, bd2_eq, rq_none, rq_thr, xc_val, xc_thr, oI_add, oI_sub, oI_mul, oI_neg, oL_add, oL_sub, oL_mul, oL_neg, oL_I, cl_nat, nat1]
        rw [if_pos (by omega), if_neg e2]
theorem lay2_L {i : Nat} {Z0 : sM} (hZ0 : ZR (zA Z0) (zB Z0) s) (hi : i < 16) (x2 : Int32) (k : sM → Option (Int64 × sM)) : ∀ (fuel m : Nat) (Z : sM), m ≤ 84 → 84 - m < fuel → Fr p39 Z0 Z → (∀ j, j < m → Z.2 39 0 0 j = oL (if j < 60 then sT s i j else 0)) →
    ∃ Z', Fr p39 Z0 Z' ∧ (∀ j, j < 84 → Z'.2 39 0 0 j = oL (if j < 60 then sT s i j else 0)) ∧ fX10_forecastBalance_L54 (oI i) x2 k fuel (oI m) Z = k Z' := by
  intro fuel
  induction fuel with
  | zero => intro i A _ h; omega
  | succ fuel ih =>
    intro m Z hm hfu hF h9
    have hZ : ZR (zA Z) (zB Z) s := hZ0.keep (fun k => hF.i rfl) (fun k => hF.l rfl)
    by_cases e : m = 84
    · refine ⟨Z, hF, fun j hj => h9 j (by omega), ?_⟩
      rw [fX10_forecastBalance_L54, if_pos (by simp (disch := omega) only [kI_0, kI_1, kI_2, kI_3, kI_4, kI_5, kI_6, kI_7, kI_8, kI_9, kI_10, kI_12, kI_16, kI_17, kI_19, kI_20, kI_23, kI_24, kI_30, kI_32, kI_36, kI_48, kI_57, kI_59, kI_60, kI_72, kI_80, kI_84, kI_97, kI_98, kI_100, kI_122, kI_148, kI_200, kI_300, kI_1058, kI_1108, kI_1348, kI_1588, kI_5290, kI_7940, kI_100000, kI_e7, kI_e9, kL_0, kL_1, kL_5, kL_9, kL_10, kL_12, kL_23, kL_30, kL_48, kL_57, kL_59, kL_97, kL_100, kL_122, kL_1000, kL_e7, kL_e9, kL_e10, oI_lt, oI_le, oI_eq, oL_lt, oL_le, oL_eq, oI_L, oI_clamp, oI_inb, oL_nz]; omega)]
    · obtain ⟨Z', q1, q2, q3⟩ := ih (m + 1) (wL Z 39 0 0 m (oL (if m < 60 then sT s i m else 0))) (by omega) (by omega) (hF.wL rfl) (fun j hj => by
        rw [wL_2]
        by_cases ej : j = m
        · rw [if_pos ⟨rfl, rfl, rfl, ej⟩, ej]
        · rw [if_neg (by omega)]; exact h9 j (by omega))
      refine ⟨Z', q1, q2, ?_⟩
      rw [fX10_forecastBalance_L54, if_neg (by simp (disch := omega) only [kI_0, kI_1, kI_2, kI_3, kI_4, kI_5, kI_6, kI_7, kI_8, kI_9, kI_10, kI_12, kI_16, kI_17, kI_19, kI_20, kI_23, kI_24, kI_30, kI_32, kI_36, kI_48, kI_57, kI_59, kI_60, kI_72, kI_80, kI_84, kI_97, kI_98, kI_100, kI_122, kI_148, kI_200, kI_300, kI_1058, kI_1108, kI_1348, kI_1588, kI_5290, kI_7940, kI_100000, kI_e7, kI_e9, kL_0, kL_1, kL_5, kL_9, kL_10, kL_12, kL_23, kL_30, kL_48, kL_57, kL_59, kL_97, kL_100, kL_122, kL_1000, kL_e7, kL_e9, kL_e10, oI_lt, oI_le, oI_eq, oL_lt, oL_le, oL_eq, oI_L, oI_clamp, oI_inb, oL_nz]; omega), ← q3]
      by_cases e2 : m < 60
      · simp (disch := omega) only [kI_0, kI_1, kI_2, kI_3, kI_4, kI_5, kI_6, kI_7, kI_8, kI_9, kI_10, kI_12, kI_16, kI_17, kI_19, kI_20, kI_23, kI_24, kI_30, kI_32, kI_36, kI_48, kI_57, kI_59, kI_60, kI_72, kI_80, kI_84, kI_97, kI_98, kI_100, kI_122, kI_148, kI_200, kI_300, kI_1058, kI_1108, kI_1348, kI_1588, kI_5290, kI_7940, kI_100000, kI_e7, kI_e9, kL_0, kL_1, kL_5, kL_9, kL_10, kL_12, kL_23, kL_30, kL_48, kL_57, kL_59, kL_97, kL_100, kL_122, kL_1000, kL_e7, kL_e9, kL_e10, oI_lt, oI_le, oI_eq, oL_lt, oL_le, oL_eq, oI_L, oI_clamp, oI_inb, oL_nz, gd_true, ltb_eq, bd_eq, bd2_eq, rq_none, rq_thr, xc_val, xc_thr, oI_add, oI_sub, oI_mul, oI_neg, oL_add, oL_sub, oL_mul, oL_neg, oL_I, cl_nat, nat1, fX10_lotAt]
        rw [if_neg (by omega), if_pos e2, show Z.2 30 0 0 (98 + 60 * (i : Int) + (m : Int)).toNat = oL (sT s i m) from hZ.lt hi e2]
      · simp (disch := omega) only [kI_0, kI_1, kI_2, kI_3, kI_4, kI_5, kI_6, kI_7, kI_8, kI_9, kI_10, kI_12, kI_16, kI_17, kI_19, kI_20, kI_23, kI_24, kI_30, kI_32, kI_36, kI_48, kI_57, kI_59, kI_60, kI_72, kI_80, kI_84, kI_97, kI_98, kI_100, kI_122, kI_148, kI_200, kI_300, kI_1058, kI_1108, kI_1348, kI_1588, kI_5290, kI_7940, kI_100000, kI_e7, kI_e9, kL_0, kL_1, kL_5, kL_9, kL_10, kL_12, kL_23, kL_30, kL_48, kL_57, kL_59, kL_97, kL_100, kL_122, kL_1000, kL_e7, kL_e9, kL_e10, oI_lt, oI_le, oI_eq, oL_lt, oL_le, oL_eq, oI_L, oI_clamp, oI_inb, oL_nz, gd_true, ltb_eq, bd_eq, bd2_eq, rq_none, rq_thr, xc_val, xc_thr, oI_add, oI_sub, oI_mul, oI_neg, oL_add, oL_sub, oL_mul, oL_neg, oL_I, cl_nat, nat1]
        rw [if_pos (by omega), if_neg e2]
theorem mcv_loop {A0 Z0 : sM} (hS0 : SR A0 0 s N) (hZ0 : ZR (zA Z0) (zB Z0) s) (h1 : W1 s N) {c : Int} (hc : 1 ≤ c ∧ c < 9223372036854775808) {e mo : Nat} (he : sG s 1 = e) (hmo : sG s 5 = mo) :
    ∀ (fuel k : Nat) (A Z : sM) (f : Nat → Int), k ≤ e + 1 → e + 1 - k < fuel → Fr wkA A0 A → Fr p39 Z0 Z → (∀ m, m < 72 → A.2 25 0 112 m = oL (f m)) → (∀ m, m < 84 → Z.2 39 0 0 m = oL (f m)) → (∀ m, 0 ≤ f m) → sumN f 72 < 4611686018427387904 → (∀ m : Nat, (mo < m ∨ m + e < mo + k) → f m = 0) →
    ∃ (r : Nat) (A' Z' : sM), Fr wkA A0 A' ∧ Fr p39 Z0 Z' ∧ fX9_monthsCovered_L53 (oL c) (oI e) (fun x5_4 A_5 => some (.inr x5_4, A_5)) (fun A_6 => some (.inr (oI e + (1 : Int32)), A_6)) fuel (oI k) A = some (.inr (oI r), A') ∧ fX10_monthsCovered_L85 (oL c) (fun x4_6 Z_7 => some (x4_6, Z_7)) fuel (oI k) Z = some (oI r, Z') := by
  obtain ⟨g0, g1, g2, g3, g4, g5, g6, g7, hN⟩ := id h1
  intro fuel
  induction fuel with
  | zero => intro k A Z f _ h; omega
  | succ fuel ih =>
    intro k A Z f hk hfu hA hZ h25 h39 hf0 hfs hfz
    have hZ9 : ZR (zA Z) (zB Z) s := hZ0.keep (fun k => hZ.i rfl) (fun k => hZ.l rfl)
    have hfb : ∀ m, m < 84 → 0 ≤ f m ∧ f m < 4611686018427387904 := fun m hm => by
      refine ⟨hf0 m, ?_⟩
      by_cases e1 : m < 72
      · have := sumN_mem (f := f) e1 (fun j _ => hf0 j); omega
      · rw [hfz m (Or.inl (by omega))]; omega
    have hsn : 0 ≤ sumN f 72 := sumN_nonneg fun m _ => hf0 m
    -- the reference pays
    obtain ⟨Z1, z1, z2, z3⟩ := zpay (Z := Z) (x := c) (by omega) hfb h39
    have hr : rmn f c 84 = if sumN f 72 ≤ c then c - sumN f 72 else 0 := by
      rw [show (84 : Nat) = 72 + 12 from rfl, rmn_z (by omega) (fun m _ => hf0 m) 12 (fun m h2 _ => hfz m (Or.inl (by omega))), rmn_eq (by omega) (fun m _ => hf0 m)]
    by_cases e1 : k = e + 1
    · have hs0 : sumN f 72 = 0 := sumN_zero fun m _ => hfz m (by omega)
      refine ⟨e + 1, A, Z1, hA, hZ.trans z1, ?_, ?_⟩
      · rw [fX9_monthsCovered_L53, if_pos (by simp (disch := omega) only [kI_0, kI_1, kI_2, kI_3, kI_4, kI_5, kI_6, kI_7, kI_8, kI_9, kI_10, kI_12, kI_16, kI_17, kI_19, kI_20, kI_23, kI_24, kI_30, kI_32, kI_36, kI_48, kI_57, kI_59, kI_60, kI_72, kI_80, kI_84, kI_97, kI_98, kI_100, kI_122, kI_148, kI_200, kI_300, kI_1058, kI_1108, kI_1348, kI_1588, kI_5290, kI_7940, kI_100000, kI_e7, kI_e9, kL_0, kL_1, kL_5, kL_9, kL_10, kL_12, kL_23, kL_30, kL_48, kL_57, kL_59, kL_97, kL_100, kL_122, kL_1000, kL_e7, kL_e9, kL_e10, oI_lt, oI_le, oI_eq, oL_lt, oL_le, oL_eq, oI_L, oI_clamp, oI_inb, oL_nz]; omega)]
        simp only [kI_0, kI_1, kI_2, kI_3, kI_4, kI_5, kI_6, kI_7, kI_8, kI_9, kI_10, kI_12, kI_16, kI_17, kI_19, kI_20, kI_23, kI_24, kI_30, kI_32, kI_36, kI_48, kI_57, kI_59, kI_60, kI_72, kI_80, kI_84, kI_97, kI_98, kI_100, kI_122, kI_148, kI_200, kI_300, kI_1058, kI_1108, kI_1348, kI_1588, kI_5290, kI_7940, kI_100000, kI_e7, kI_e9, kL_0, kL_1, kL_5, kL_9, kL_10, kL_12, kL_23, kL_30, kL_48, kL_57, kL_59, kL_97, kL_100, kL_122, kL_1000, kL_e7, kL_e9, kL_e10, oI_add, oI_sub, oI_mul, oI_neg, oL_add, oL_sub, oL_mul, oL_neg, oL_I, nat1]
      · rw [fX10_monthsCovered_L85, z3, bd2_eq, if_neg (show ¬ rmn f c 84 = 0 by rw [hr]; split <;> omega), if_pos (show oI 0 = (0 : Int32) from rfl), e1]
    · have hls := lotSum (A := A) (o := 112) (f := f) h25
      by_cases e2 : c ≤ sumN f 72
      · have hr0 : rmn f c 84 = 0 := by rw [hr]; split <;> omega
        obtain ⟨A1, a1, a2, a3, a4⟩ := pay (A := A) (o := 112) (x := c) (by omega) (fun m hm => hfb m (by omega)) h25
        have hA1 : Fr wkA A0 A1 := hA.trans (pS_wk a1)
        have hS1 := hS0.wk hA1 hN (by omega)
        have hZ1 : ZR (zA Z1) (zB Z1) s := hZ9.keep (fun k => z1.i rfl) (fun k => z1.l rfl)
        have hpd : ∀ m, 0 ≤ payd f c m ∧ payd f c m ≤ f m := fun m => payd_bd (by omega) (fun j _ => hf0 j)
        have hps : sumN (payd f c) 72 ≤ sumN f 72 := sumN_le fun m _ => (hpd m).2
        have stA : fX9_monthsCovered_L53 (oL c) (oI e) (fun x5_4 A_5 => some (.inr x5_4, A_5)) (fun A_6 => some (.inr (oI e + (1 : Int32)), A_6)) (fuel + 1) (oI k) A = bd2 (fX8_takeExpiredLot 112 (oI (mo + k - e)) A1) fun r_5 A_4 => fX9_monthsCovered_L53 (oL c) (oI e) (fun x5_4 A_5 => some (.inr x5_4, A_5)) (fun A_6 => some (.inr (oI e + (1 : Int32)), A_6)) fuel (oI (k + 1 : Nat)) A_4 := by
          rw [fX9_monthsCovered_L53, if_neg (by simp (disch := omega) only [kI_0, kI_1, kI_2, kI_3, kI_4, kI_5, kI_6, kI_7, kI_8, kI_9, kI_10, kI_12, kI_16, kI_17, kI_19, kI_20, kI_23, kI_24, kI_30, kI_32, kI_36, kI_48, kI_57, kI_59, kI_60, kI_72, kI_80, kI_84, kI_97, kI_98, kI_100, kI_122, kI_148, kI_200, kI_300, kI_1058, kI_1108, kI_1348, kI_1588, kI_5290, kI_7940, kI_100000, kI_e7, kI_e9, kL_0, kL_1, kL_5, kL_9, kL_10, kL_12, kL_23, kL_30, kL_48, kL_57, kL_59, kL_97, kL_100, kL_122, kL_1000, kL_e7, kL_e9, kL_e10, oI_lt, oI_le, oI_eq, oL_lt, oL_le, oL_eq, oI_L, oI_clamp, oI_inb, oL_nz]; omega), hls, bd_eq, if_pos (by simp (disch := omega) only [kI_0, kI_1, kI_2, kI_3, kI_4, kI_5, kI_6, kI_7, kI_8, kI_9, kI_10, kI_12, kI_16, kI_17, kI_19, kI_20, kI_23, kI_24, kI_30, kI_32, kI_36, kI_48, kI_57, kI_59, kI_60, kI_72, kI_80, kI_84, kI_97, kI_98, kI_100, kI_122, kI_148, kI_200, kI_300, kI_1058, kI_1108, kI_1348, kI_1588, kI_5290, kI_7940, kI_100000, kI_e7, kI_e9, kL_0, kL_1, kL_5, kL_9, kL_10, kL_12, kL_23, kL_30, kL_48, kL_57, kL_59, kL_97, kL_100, kL_122, kL_1000, kL_e7, kL_e9, kL_e10, oI_lt, oI_le, oI_eq, oL_lt, oL_le, oL_eq, oI_L, oI_clamp, oI_inb, oL_nz]; omega), a4, bd2_eq, hS1.mon, hmo]
          simp only [kI_0, kI_1, kI_2, kI_3, kI_4, kI_5, kI_6, kI_7, kI_8, kI_9, kI_10, kI_12, kI_16, kI_17, kI_19, kI_20, kI_23, kI_24, kI_30, kI_32, kI_36, kI_48, kI_57, kI_59, kI_60, kI_72, kI_80, kI_84, kI_97, kI_98, kI_100, kI_122, kI_148, kI_200, kI_300, kI_1058, kI_1108, kI_1348, kI_1588, kI_5290, kI_7940, kI_100000, kI_e7, kI_e9, kL_0, kL_1, kL_5, kL_9, kL_10, kL_12, kL_23, kL_30, kL_48, kL_57, kL_59, kL_97, kL_100, kL_122, kL_1000, kL_e7, kL_e9, kL_e10, oI_add, oI_sub, oI_mul, oI_neg, oL_add, oL_sub, oL_mul, oL_neg, oL_I, nat1, ltb_eq]
        by_cases e3 : (mo : Int) + k - e < 0
        · obtain ⟨r, A', Z', u1, u2, u3, u4⟩ := ih (k + 1) A1 Z1 (payd f c) (by omega) (by omega) hA1 (hZ.trans z1) a3 z2 (fun m => (hpd m).1) (by omega) (fun m hm => by
            have h9 := hpd m
            have h8 := hfz m (by omega)
            omega)
          refine ⟨r, A', Z', u1, u2, ?_, ?_⟩
          · rw [stA, fX8_takeExpiredLot, if_pos (by simp (disch := omega) only [kI_0, kI_1, kI_2, kI_3, kI_4, kI_5, kI_6, kI_7, kI_8, kI_9, kI_10, kI_12, kI_16, kI_17, kI_19, kI_20, kI_23, kI_24, kI_30, kI_32, kI_36, kI_48, kI_57, kI_59, kI_60, kI_72, kI_80, kI_84, kI_97, kI_98, kI_100, kI_122, kI_148, kI_200, kI_300, kI_1058, kI_1108, kI_1348, kI_1588, kI_5290, kI_7940, kI_100000, kI_e7, kI_e9, kL_0, kL_1, kL_5, kL_9, kL_10, kL_12, kL_23, kL_30, kL_48, kL_57, kL_59, kL_97, kL_100, kL_122, kL_1000, kL_e7, kL_e9, kL_e10, oI_lt, oI_le, oI_eq, oL_lt, oL_le, oL_eq, oI_L, oI_clamp, oI_inb, oL_nz]; omega), bd2_eq, u3]
          · rw [fX10_monthsCovered_L85, z3, bd2_eq, hr0, if_pos rfl]
            simp (disch := omega) only [kI_0, kI_1, kI_2, kI_3, kI_4, kI_5, kI_6, kI_7, kI_8, kI_9, kI_10, kI_12, kI_16, kI_17, kI_19, kI_20, kI_23, kI_24, kI_30, kI_32, kI_36, kI_48, kI_57, kI_59, kI_60, kI_72, kI_80, kI_84, kI_97, kI_98, kI_100, kI_122, kI_148, kI_200, kI_300, kI_1058, kI_1108, kI_1348, kI_1588, kI_5290, kI_7940, kI_100000, kI_e7, kI_e9, kL_0, kL_1, kL_5, kL_9, kL_10, kL_12, kL_23, kL_30, kL_48, kL_57, kL_59, kL_97, kL_100, kL_122, kL_1000, kL_e7, kL_e9, kL_e10, oI_lt, oI_le, oI_eq, oL_lt, oL_le, oL_eq, oI_L, oI_clamp, oI_inb, oL_nz, gd_true, ltb_eq, bd_eq, bd2_eq, rq_none, rq_thr, xc_val, xc_thr, eq_self, Nat.reduceEqDiff, Int.reduceLE, Int.reduceLT, Int.reduceEq, Int.reduceToNat, and_true, true_and, and_false, false_and, and_self, if_true, if_false, ite_true, ite_false, reduceCtorEq, Zg hZ1, hmo, he, oI_add, oI_sub, oI_mul, oI_neg, oL_add, oL_sub, oL_mul, oL_neg, oL_I, nat1]
            rw [isIn_f _ (by omega) (by omega) (by omega) (by omega) (by omega) (by omega) (by omega)]
            simp (disch := omega) only [kI_0, kI_1, kI_2, kI_3, kI_4, kI_5, kI_6, kI_7, kI_8, kI_9, kI_10, kI_12, kI_16, kI_17, kI_19, kI_20, kI_23, kI_24, kI_30, kI_32, kI_36, kI_48, kI_57, kI_59, kI_60, kI_72, kI_80, kI_84, kI_97, kI_98, kI_100, kI_122, kI_148, kI_200, kI_300, kI_1058, kI_1108, kI_1348, kI_1588, kI_5290, kI_7940, kI_100000, kI_e7, kI_e9, kL_0, kL_1, kL_5, kL_9, kL_10, kL_12, kL_23, kL_30, kL_48, kL_57, kL_59, kL_97, kL_100, kL_122, kL_1000, kL_e7, kL_e9, kL_e10, oI_lt, oI_le, oI_eq, oL_lt, oL_le, oL_eq, oI_L, oI_clamp, oI_inb, oL_nz, gd_true, ltb_eq, bd_eq, bd2_eq, rq_none, rq_thr, xc_val, xc_thr, eq_self, Nat.reduceEqDiff, Int.reduceLE, Int.reduceLT, Int.reduceEq, Int.reduceToNat, and_true, true_and, and_false, false_and, and_self, if_true, if_false, ite_true, ite_false, reduceCtorEq]
            exact u4
        · obtain ⟨od, hod⟩ : ∃ od : Nat, (mo : Int) + k - e = od := ⟨((mo : Int) + k - e).toNat, by omega⟩
          have hn9 : ∀ m, 0 ≤ up1 (payd f c) od 0 m ∧ up1 (payd f c) od 0 m ≤ payd f c m := fun m => by
            have := (hpd m).1
            rw [up1]; split <;> omega
          have hps2 : sumN (up1 (payd f c) od 0) 72 ≤ sumN (payd f c) 72 := sumN_le fun m _ => (hn9 m).2
          obtain ⟨r, A', Z', u1, u2, u3, u4⟩ := ih (k + 1) (wL (wL A1 25 0 112 od (oL 0)) 26 0 112 5 (A1.2 26 0 112 5 + oL (payd f c od))) (wL Z1 39 0 0 od (oL 0)) (up1 (payd f c) od 0) (by omega) (by omega) ((hA1.wL rfl).wL rfl) ((hZ.trans z1).wL rfl) (fun m hm => by
              rw [wL_2, if_neg (by omega), wL_2, up1]
              by_cases em : m = od
              · rw [if_pos ⟨rfl, rfl, rfl, em⟩, if_pos em]
              · rw [if_neg (by omega), if_neg em]; exact a3 m hm) (fun m hm => by
              rw [wL_2, up1]
              by_cases em : m = od
              · rw [if_pos ⟨rfl, rfl, rfl, em⟩, if_pos em]
              · rw [if_neg (by omega), if_neg em]; exact z2 m hm) (fun m => (hn9 m).1) (by omega) (fun m hm => by
              by_cases em : m = od
              · rw [em, up1_s]
              · have h9 := hpd m
                have h8 := hfz m (by omega)
                rw [up1_n _ _ em]; omega)
          refine ⟨r, A', Z', u1, u2, ?_, ?_⟩
          · rw [stA, hod, fX8_takeExpiredLot]
            simp (disch := omega) only [kI_0, kI_1, kI_2, kI_3, kI_4, kI_5, kI_6, kI_7, kI_8, kI_9, kI_10, kI_12, kI_16, kI_17, kI_19, kI_20, kI_23, kI_24, kI_30, kI_32, kI_36, kI_48, kI_57, kI_59, kI_60, kI_72, kI_80, kI_84, kI_97, kI_98, kI_100, kI_122, kI_148, kI_200, kI_300, kI_1058, kI_1108, kI_1348, kI_1588, kI_5290, kI_7940, kI_100000, kI_e7, kI_e9, kL_0, kL_1, kL_5, kL_9, kL_10, kL_12, kL_23, kL_30, kL_48, kL_57, kL_59, kL_97, kL_100, kL_122, kL_1000, kL_e7, kL_e9, kL_e10, oI_lt, oI_le, oI_eq, oL_lt, oL_le, oL_eq, oI_L, oI_clamp, oI_inb, oL_nz, gd_true, ltb_eq, bd_eq, bd2_eq, rq_none, rq_thr, xc_val, xc_thr, eq_self, Nat.reduceEqDiff, Int.reduceLE, Int.reduceLT, Int.reduceEq, Int.reduceToNat, and_true, true_and, and_false, false_and, and_self, if_true, if_false, ite_true, ite_false, reduceCtorEq, cl_nat, a3]
            rw [if_neg (by omega), if_pos (by omega), bd2_eq, wL_2, if_neg (by omega)]
            exact u3
          · rw [fX10_monthsCovered_L85, z3, bd2_eq, hr0, if_pos rfl]
            simp (disch := omega) only [kI_0, kI_1, kI_2, kI_3, kI_4, kI_5, kI_6, kI_7, kI_8, kI_9, kI_10, kI_12, kI_16, kI_17, kI_19, kI_20, kI_23, kI_24, kI_30, kI_32, kI_36, kI_48, kI_57, kI_59, kI_60, kI_72, kI_80, kI_84, kI_97, kI_98, kI_100, kI_122, kI_148, kI_200, kI_300, kI_1058, kI_1108, kI_1348, kI_1588, kI_5290, kI_7940, kI_100000, kI_e7, kI_e9, kL_0, kL_1, kL_5, kL_9, kL_10, kL_12, kL_23, kL_30, kL_48, kL_57, kL_59, kL_97, kL_100, kL_122, kL_1000, kL_e7, kL_e9, kL_e10, oI_lt, oI_le, oI_eq, oL_lt, oL_le, oL_eq, oI_L, oI_clamp, oI_inb, oL_nz, gd_true, ltb_eq, bd_eq, bd2_eq, rq_none, rq_thr, xc_val, xc_thr, eq_self, Nat.reduceEqDiff, Int.reduceLE, Int.reduceLT, Int.reduceEq, Int.reduceToNat, and_true, true_and, and_false, false_and, and_self, if_true, if_false, ite_true, ite_false, reduceCtorEq, Zg hZ1, hmo, he, oI_add, oI_sub, oI_mul, oI_neg, oL_add, oL_sub, oL_mul, oL_neg, oL_I, nat1, hod]
            rw [isIn_t _ (by omega) (by omega) (by omega)]
            simp (disch := omega) only [kI_0, kI_1, kI_2, kI_3, kI_4, kI_5, kI_6, kI_7, kI_8, kI_9, kI_10, kI_12, kI_16, kI_17, kI_19, kI_20, kI_23, kI_24, kI_30, kI_32, kI_36, kI_48, kI_57, kI_59, kI_60, kI_72, kI_80, kI_84, kI_97, kI_98, kI_100, kI_122, kI_148, kI_200, kI_300, kI_1058, kI_1108, kI_1348, kI_1588, kI_5290, kI_7940, kI_100000, kI_e7, kI_e9, kL_0, kL_1, kL_5, kL_9, kL_10, kL_12, kL_23, kL_30, kL_48, kL_57, kL_59, kL_97, kL_100, kL_122, kL_1000, kL_e7, kL_e9, kL_e10, oI_lt, oI_le, oI_eq, oL_lt, oL_le, oL_eq, oI_L, oI_clamp, oI_inb, oL_nz, gd_true, ltb_eq, bd_eq, bd2_eq, rq_none, rq_thr, xc_val, xc_thr, eq_self, Nat.reduceEqDiff, Int.reduceLE, Int.reduceLT, Int.reduceEq, Int.reduceToNat, and_true, true_and, and_false, false_and, and_self, if_true, if_false, ite_true, ite_false, reduceCtorEq, cl_nat]
            exact u4
      · refine ⟨k, A, Z1, hA, hZ.trans z1, ?_, ?_⟩
        · rw [fX9_monthsCovered_L53, if_neg (by simp (disch := omega) only [kI_0, kI_1, kI_2, kI_3, kI_4, kI_5, kI_6, kI_7, kI_8, kI_9, kI_10, kI_12, kI_16, kI_17, kI_19, kI_20, kI_23, kI_24, kI_30, kI_32, kI_36, kI_48, kI_57, kI_59, kI_60, kI_72, kI_80, kI_84, kI_97, kI_98, kI_100, kI_122, kI_148, kI_200, kI_300, kI_1058, kI_1108, kI_1348, kI_1588, kI_5290, kI_7940, kI_100000, kI_e7, kI_e9, kL_0, kL_1, kL_5, kL_9, kL_10, kL_12, kL_23, kL_30, kL_48, kL_57, kL_59, kL_97, kL_100, kL_122, kL_1000, kL_e7, kL_e9, kL_e10, oI_lt, oI_le, oI_eq, oL_lt, oL_le, oL_eq, oI_L, oI_clamp, oI_inb, oL_nz]; omega), hls, bd_eq, if_neg (by simp (disch := omega) only [kI_0, kI_1, kI_2, kI_3, kI_4, kI_5, kI_6, kI_7, kI_8, kI_9, kI_10, kI_12, kI_16, kI_17, kI_19, kI_20, kI_23, kI_24, kI_30, kI_32, kI_36, kI_48, kI_57, kI_59, kI_60, kI_72, kI_80, kI_84, kI_97, kI_98, kI_100, kI_122, kI_148, kI_200, kI_300, kI_1058, kI_1108, kI_1348, kI_1588, kI_5290, kI_7940, kI_100000, kI_e7, kI_e9, kL_0, kL_1, kL_5, kL_9, kL_10, kL_12, kL_23, kL_30, kL_48, kL_57, kL_59, kL_97, kL_100, kL_122, kL_1000, kL_e7, kL_e9, kL_e10, oI_lt, oI_le, oI_eq, oL_lt, oL_le, oL_eq, oI_L, oI_clamp, oI_inb, oL_nz]; omega)]
        · rw [fX10_monthsCovered_L85, z3, bd2_eq, if_neg (show ¬ rmn f c 84 = 0 by rw [hr]; split <;> omega), if_pos (show oI 0 = (0 : Int32) from rfl)]
end
theorem mcv {n : Nat} {A Z : sM} (hn : n < 512) (hI : Inv n A Z) (x : Int32) (z : Int64) : OKI n (fL_monthsCovered x z A) (fX10_monthsCovered x z Z) := by
  obtain ⟨⟨s, N, hS, hZ, hW⟩, hR⟩ := id hI
  obtain ⟨w1, w2, w3, w4, w5, w6, w7, w8⟩ := id hW
  obtain ⟨g0, g1, g2, g3, g4, g5, g6, g7, hN⟩ := id w1
  obtain ⟨a, a1, a2, rfl⟩ := I_ex x
  obtain ⟨c, c1, c2, rfl⟩ := L_ex z
  by_cases ha : 0 ≤ a ∧ a < N
  · obtain ⟨i, hi, rfl⟩ := int_ix ha
    by_cases hc : 1 ≤ c
    · obtain ⟨e, he⟩ : ∃ e : Nat, sG s 1 = e := ⟨(sG s 1).toNat, by omega⟩
      obtain ⟨mo, hmo⟩ : ∃ mo : Nat, sG s 5 = mo := ⟨(sG s 5).toNat, by omega⟩
      obtain ⟨A1, q1, q2, q3, q4⟩ := cpT hS hN hi
      have hS1 := hS.wk (pC_wk q1) hN (by omega)
      have hb := bal_bd w7 w8 w2 w6 (by omega) (show i < 16 by omega)
      obtain ⟨Z1, r1, r2, r3⟩ := lay1_L (ZRt (v := oI 0) hZ) (show i < 16 by omega) (oL c) (fun Z_5 => fX10_monthsCovered_L85 (oL c) (fun x4_6 Z_7 => some (x4_6, Z_7)) 10000 (0 : Int32) Z_5) 10000 0 (wI Z 10 6 0 0 (oI 0)) (by omega) (by omega) (Fr.refl _) (fun j hj => by omega)
      have hZ1 : ZR (zA Z1) (zB Z1) s := (ZRt (v := oI 0) hZ).keep (fun k => r1.i rfl) (fun k => r1.l rfl)
      obtain ⟨r, A', Z', u1, u2, u3, u4⟩ := mcv_loop hS1 hZ1 w1 (c := c) (by omega) he hmo 10000 0 A1 Z1 (fun j => if j < 60 then sT s i j else 0) (by omega) (by omega) (Fr.refl _) (Fr.refl _) q2 r2 (fun m => by
          split
          · exact (hb.2 m (by assumption)).1
          · omega) (by rw [show (72 : Nat) = 60 + 12 from rfl, sumN_cut, show sumN (fun m => sT s i m) 60 = bal s i from rfl]; omega) (fun m hm => by
          split
          · exact w7.2.2.2 i m (by omega) (by assumption) (by omega)
          · rfl)
      have ht : Z'.1 10 6 0 0 = 0 := by rw [u2.i rfl, r1.i rfl]; rfl
      refine OKI.v (v := oI r) (A' := A') (Z' := Z') hI ?_ ?_ ht ((pC_wk q1).trans u1) ((frT Z (oI 0)).trans ((p39_wk r1).trans (p39_wk u2)))
      · rw [fL_monthsCovered, fX9_monthsCovered, rqS_t hS hN hi]
        simp (disch := omega) only [gd_true, ltb_eq, bd_eq, bd2_eq, rq_none, rq_thr, xc_val, xc_thr, oI_lt, oI_le, oI_eq, oL_lt, oL_le, oL_eq, oI_L, oI_clamp, oI_inb, oL_nz, kI_0, kI_1, kI_2, kI_3, kI_4, kI_5, kI_6, kI_7, kI_8, kI_9, kI_10, kI_12, kI_16, kI_17, kI_19, kI_20, kI_23, kI_24, kI_30, kI_32, kI_36, kI_48, kI_57, kI_59, kI_60, kI_72, kI_80, kI_84, kI_97, kI_98, kI_100, kI_122, kI_148, kI_200, kI_300, kI_1058, kI_1108, kI_1348, kI_1588, kI_5290, kI_7940, kI_100000, kI_e7, kI_e9, kL_0, kL_1, kL_5, kL_9, kL_10, kL_12, kL_23, kL_30, kL_48, kL_57, kL_59, kL_97, kL_100, kL_122, kL_1000, kL_e7, kL_e9, kL_e10, cl_nat, q4]
        rw [if_pos hc, hS1.g (by omega), he]
        rw [show oI 0 = oI (0 : Nat) from rfl]
        rw [← kI_1, u3]
        rfl
      · rw [fX10_monthsCovered, mem_t hZ w1 hi]
        simp (disch := omega) only [gd_true, ltb_eq, bd_eq, bd2_eq, rq_none, rq_thr, xc_val, xc_thr, oI_lt, oI_le, oI_eq, oL_lt, oL_le, oL_eq, oI_L, oI_clamp, oI_inb, oL_nz, kI_0, kI_1, kI_2, kI_3, kI_4, kI_5, kI_6, kI_7, kI_8, kI_9, kI_10, kI_12, kI_16, kI_17, kI_19, kI_20, kI_23, kI_24, kI_30, kI_32, kI_36, kI_48, kI_57, kI_59, kI_60, kI_72, kI_80, kI_84, kI_97, kI_98, kI_100, kI_122, kI_148, kI_200, kI_300, kI_1058, kI_1108, kI_1348, kI_1588, kI_5290, kI_7940, kI_100000, kI_e7, kI_e9, kL_0, kL_1, kL_5, kL_9, kL_10, kL_12, kL_23, kL_30, kL_48, kL_57, kL_59, kL_97, kL_100, kL_122, kL_1000, kL_e7, kL_e9, kL_e10, oI_add, oI_sub, oI_mul, oI_neg, oL_add, oL_sub, oL_mul, oL_neg, oL_I, wI_1, wI_2, wL_1, wL_2, fI_1, fI_2, fL_1, fL_2, eq_self, Nat.reduceEqDiff, Int.reduceLE, Int.reduceLT, Int.reduceEq, Int.reduceToNat, and_true, true_and, and_false, false_and, and_self, if_true, if_false, ite_true, ite_false, reduceCtorEq] at r3 ⊢
        rw [if_pos hc, show oI 0 = oI (0 : Nat) from rfl]
        rw [show oI 0 = oI (0 : Nat) from rfl] at r3
        rw [r3]
        exact u4
    · refine OKI.t (r := 2) (v := 0) hI ?_ ?_ (thr_g Z _) (by decide) (Fr.refl _) (frT Z _)
      · rw [fL_monthsCovered, fX9_monthsCovered, rqS_t hS hN hi]
        simp (disch := omega) only [gd_true, ltb_eq, bd_eq, bd2_eq, rq_none, rq_thr, xc_val, xc_thr, oI_lt, oI_le, oI_eq, oL_lt, oL_le, oL_eq, oI_L, oI_clamp, oI_inb, oL_nz, kI_0, kI_1, kI_2, kI_3, kI_4, kI_5, kI_6, kI_7, kI_8, kI_9, kI_10, kI_12, kI_16, kI_17, kI_19, kI_20, kI_23, kI_24, kI_30, kI_32, kI_36, kI_48, kI_57, kI_59, kI_60, kI_72, kI_80, kI_84, kI_97, kI_98, kI_100, kI_122, kI_148, kI_200, kI_300, kI_1058, kI_1108, kI_1348, kI_1588, kI_5290, kI_7940, kI_100000, kI_e7, kI_e9, kL_0, kL_1, kL_5, kL_9, kL_10, kL_12, kL_23, kL_30, kL_48, kL_57, kL_59, kL_97, kL_100, kL_122, kL_1000, kL_e7, kL_e9, kL_e10]
        rw [if_neg hc]
        rfl
      · rw [fX10_monthsCovered, mem_t hZ w1 hi]
        simp (disch := omega) only [gd_true, ltb_eq, bd_eq, bd2_eq, rq_none, rq_thr, xc_val, xc_thr, oI_lt, oI_le, oI_eq, oL_lt, oL_le, oL_eq, oI_L, oI_clamp, oI_inb, oL_nz, kI_0, kI_1, kI_2, kI_3, kI_4, kI_5, kI_6, kI_7, kI_8, kI_9, kI_10, kI_12, kI_16, kI_17, kI_19, kI_20, kI_23, kI_24, kI_30, kI_32, kI_36, kI_48, kI_57, kI_59, kI_60, kI_72, kI_80, kI_84, kI_97, kI_98, kI_100, kI_122, kI_148, kI_200, kI_300, kI_1058, kI_1108, kI_1348, kI_1588, kI_5290, kI_7940, kI_100000, kI_e7, kI_e9, kL_0, kL_1, kL_5, kL_9, kL_10, kL_12, kL_23, kL_30, kL_48, kL_57, kL_59, kL_97, kL_100, kL_122, kL_1000, kL_e7, kL_e9, kL_e10, oI_add, oI_sub, oI_mul, oI_neg, oL_add, oL_sub, oL_mul, oL_neg, oL_I, wI_1, wI_2, wL_1, wL_2, fI_1, fI_2, fL_1, fL_2, eq_self, Nat.reduceEqDiff, Int.reduceLE, Int.reduceLT, Int.reduceEq, Int.reduceToNat, and_true, true_and, and_false, false_and, and_self, if_true, if_false, ite_true, ite_false, reduceCtorEq]
        rw [if_neg hc]
  · refine OKI.t (r := 1) (v := 0) hI ?_ ?_ (thr_g Z _) (by decide) (Fr.refl _) (frT Z _)
    · rw [fL_monthsCovered, fX9_monthsCovered, rqS_f hS hN a1 a2 ha]
      rfl
    · rw [fX10_monthsCovered, mem_f hZ w1 a1 a2 ha]
      simp (disch := omega) only [gd_true, ltb_eq, bd_eq, bd2_eq, rq_none, rq_thr, xc_val, xc_thr, oI_lt, oI_le, oI_eq, oL_lt, oL_le, oL_eq, oI_L, oI_clamp, oI_inb, oL_nz, kI_0, kI_1, kI_2, kI_3, kI_4, kI_5, kI_6, kI_7, kI_8, kI_9, kI_10, kI_12, kI_16, kI_17, kI_19, kI_20, kI_23, kI_24, kI_30, kI_32, kI_36, kI_48, kI_57, kI_59, kI_60, kI_72, kI_80, kI_84, kI_97, kI_98, kI_100, kI_122, kI_148, kI_200, kI_300, kI_1058, kI_1108, kI_1348, kI_1588, kI_5290, kI_7940, kI_100000, kI_e7, kI_e9, kL_0, kL_1, kL_5, kL_9, kL_10, kL_12, kL_23, kL_30, kL_48, kL_57, kL_59, kL_97, kL_100, kL_122, kL_1000, kL_e7, kL_e9, kL_e10, oI_add, oI_sub, oI_mul, oI_neg, oL_add, oL_sub, oL_mul, oL_neg, oL_I, wI_1, wI_2, wL_1, wL_2, fI_1, fI_2, fL_1, fL_2, eq_self, Nat.reduceEqDiff, Int.reduceLE, Int.reduceLT, Int.reduceEq, Int.reduceToNat, and_true, true_and, and_false, false_and, and_self, if_true, if_false, ite_true, ite_false, reduceCtorEq]
theorem case34 : CaseOK fL_case34 := by
  intro n L A Z xs x4 hn hI hin
  obtain ⟨_, i1, i2, i3, i4, i5⟩ := hin
  rw [fL_case34]
  simp only [i1, i2, i3, i4, i5, gd_true]
  exact OKI.c (mcv hn hI _ _)
