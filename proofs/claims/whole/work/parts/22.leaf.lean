/-! Leaves: tests of arguments and single reads, on both sides. -/
section
variable {A Z : sM} {s : sS} {N n : Nat}
theorem isIn_t {a b c : Int} (Z : sM) (h : b ≤ a ∧ a ≤ c) (ha : -9223372036854775808 ≤ b) (hc : c < 9223372036854775808) : fX10_isIn (oL a) (oL b) (oL c) Z = some (oI 1) := by
  simp (disch := omega) only [fX10_isIn, kI_0, kI_1, kI_2, kI_3, kI_4, kI_5, kI_6, kI_7, kI_8, kI_9, kI_10, kI_12, kI_16, kI_17, kI_19, kI_20, kI_23, kI_24, kI_30, kI_32, kI_36, kI_48, kI_57, kI_59, kI_60, kI_72, kI_80, kI_84, kI_97, kI_98, kI_100, kI_122, kI_148, kI_200, kI_300, kI_1058, kI_1108, kI_1348, kI_1588, kI_5290, kI_7940, kI_100000, kI_e7, kI_e9, kL_0, kL_1, kL_5, kL_9, kL_10, kL_12, kL_23, kL_30, kL_48, kL_57, kL_59, kL_97, kL_100, kL_122, kL_1000, kL_e7, kL_e9, kL_e10, oI_lt, oI_le, oI_eq, oL_lt, oL_le, oL_eq, oI_L, oI_clamp, oI_inb, oL_nz]
  rw [if_neg (by omega), if_neg (by omega)]
theorem isIn_f {a b c : Int} (Z : sM) (h : ¬ (b ≤ a ∧ a ≤ c)) (h1 : -9223372036854775808 ≤ a) (h2 : a < 9223372036854775808) (h3 : -9223372036854775808 ≤ b) (h4 : b < 9223372036854775808) (h5 : -9223372036854775808 ≤ c) (h6 : c < 9223372036854775808) : fX10_isIn (oL a) (oL b) (oL c) Z = some (oI 0) := by
  simp (disch := omega) only [fX10_isIn, kI_0, kI_1, kI_2, kI_3, kI_4, kI_5, kI_6, kI_7, kI_8, kI_9, kI_10, kI_12, kI_16, kI_17, kI_19, kI_20, kI_23, kI_24, kI_30, kI_32, kI_36, kI_48, kI_57, kI_59, kI_60, kI_72, kI_80, kI_84, kI_97, kI_98, kI_100, kI_122, kI_148, kI_200, kI_300, kI_1058, kI_1108, kI_1348, kI_1588, kI_5290, kI_7940, kI_100000, kI_e7, kI_e9, kL_0, kL_1, kL_5, kL_9, kL_10, kL_12, kL_23, kL_30, kL_48, kL_57, kL_59, kL_97, kL_100, kL_122, kL_1000, kL_e7, kL_e9, kL_e10, oI_lt, oI_le, oI_eq, oL_lt, oL_le, oL_eq, oI_L, oI_clamp, oI_inb, oL_nz]
  by_cases h7 : a < b
  · rw [if_pos h7]
  · rw [if_neg h7, if_pos (by omega)]
theorem Zg {k : Nat} (h : ZR (zA Z) (zB Z) s) (hk : k < 8) : Z.1 27 0 0 k = oI (sG s k) := h.g hk
theorem cl_nat (i : Nat) : ((i : Int)).toNat = i := rfl
theorem mem_t {i : Nat} (h : ZR (zA Z) (zB Z) s) (hw : W1 s N) (hi : i < N) : fX10_isMember (oI i) Z = some (oI 1) := by
  obtain ⟨_, _, _, _, _, _, _, h7, h8⟩ := hw
  rw [fX10_isMember]
  simp (disch := omega) only [kI_0, kI_1, kI_2, kI_3, kI_4, kI_5, kI_6, kI_7, kI_8, kI_9, kI_10, kI_12, kI_16, kI_17, kI_19, kI_20, kI_23, kI_24, kI_30, kI_32, kI_36, kI_48, kI_57, kI_59, kI_60, kI_72, kI_80, kI_84, kI_97, kI_98, kI_100, kI_122, kI_148, kI_200, kI_300, kI_1058, kI_1108, kI_1348, kI_1588, kI_5290, kI_7940, kI_100000, kI_e7, kI_e9, kL_0, kL_1, kL_5, kL_9, kL_10, kL_12, kL_23, kL_30, kL_48, kL_57, kL_59, kL_97, kL_100, kL_122, kL_1000, kL_e7, kL_e9, kL_e10, oI_lt, oI_le, oI_eq, oL_lt, oL_le, oL_eq, oI_L, oI_clamp, oI_inb, oL_nz, show (7 : Int).toNat = 7 from rfl, Zg h, h7, oI_add, oI_sub, oI_mul, oI_neg, oL_add, oL_sub, oL_mul, oL_neg, oL_I]
  rw [isIn_t _ (by omega) (by omega) (by omega)]
  rfl
theorem mem_f {a : Int} (h : ZR (zA Z) (zB Z) s) (hw : W1 s N) (h1 : -2147483648 ≤ a) (h2 : a < 2147483648) (hi : ¬ (0 ≤ a ∧ a < N)) : fX10_isMember (oI a) Z = some (oI 0) := by
  obtain ⟨_, _, _, _, _, _, _, h7, h8⟩ := hw
  rw [fX10_isMember]
  simp (disch := omega) only [kI_0, kI_1, kI_2, kI_3, kI_4, kI_5, kI_6, kI_7, kI_8, kI_9, kI_10, kI_12, kI_16, kI_17, kI_19, kI_20, kI_23, kI_24, kI_30, kI_32, kI_36, kI_48, kI_57, kI_59, kI_60, kI_72, kI_80, kI_84, kI_97, kI_98, kI_100, kI_122, kI_148, kI_200, kI_300, kI_1058, kI_1108, kI_1348, kI_1588, kI_5290, kI_7940, kI_100000, kI_e7, kI_e9, kL_0, kL_1, kL_5, kL_9, kL_10, kL_12, kL_23, kL_30, kL_48, kL_57, kL_59, kL_97, kL_100, kL_122, kL_1000, kL_e7, kL_e9, kL_e10, oI_lt, oI_le, oI_eq, oL_lt, oL_le, oL_eq, oI_L, oI_clamp, oI_inb, oL_nz, show (7 : Int).toNat = 7 from rfl, Zg h, h7, oI_add, oI_sub, oI_mul, oI_neg, oL_add, oL_sub, oL_mul, oL_neg, oL_I]
  rw [isIn_f _ (by omega) (by omega) (by omega) (by omega) (by omega) (by omega) (by omega)]
  rfl
theorem ofM {i w : Nat} (h : ZR (zA Z) (zB Z) s) (hi : i < 16) (hw : w < 7) : fX10_ofMember (oI i) (oI w) Z = some (oI (sB s i w)) := by
  rw [fX10_ofMember]
  simp (disch := omega) only [kI_0, kI_1, kI_2, kI_3, kI_4, kI_5, kI_6, kI_7, kI_8, kI_9, kI_10, kI_12, kI_16, kI_17, kI_19, kI_20, kI_23, kI_24, kI_30, kI_32, kI_36, kI_48, kI_57, kI_59, kI_60, kI_72, kI_80, kI_84, kI_97, kI_98, kI_100, kI_122, kI_148, kI_200, kI_300, kI_1058, kI_1108, kI_1348, kI_1588, kI_5290, kI_7940, kI_100000, kI_e7, kI_e9, kL_0, kL_1, kL_5, kL_9, kL_10, kL_12, kL_23, kL_30, kL_48, kL_57, kL_59, kL_97, kL_100, kL_122, kL_1000, kL_e7, kL_e9, kL_e10, oI_add, oI_sub, oI_mul, oI_neg, oL_add, oL_sub, oL_mul, oL_neg, oL_I, oI_lt, oI_le, oI_eq, oL_lt, oL_le, oL_eq, oI_L, oI_clamp, oI_inb, oL_nz, gd_true, ltb_eq, bd_eq, bd2_eq, rq_none, rq_thr, xc_val, xc_thr]
  exact congrArg some (h.mb hi hw)
theorem ofM0 {i : Nat} (h : ZR (zA Z) (zB Z) s) (hi : i < 16) : fX10_ofMember (oI i) (oI 0) Z = some (oI (sB s i 0)) := ofM (w := 0) h hi (by omega)
theorem ofM1 {i : Nat} (h : ZR (zA Z) (zB Z) s) (hi : i < 16) : fX10_ofMember (oI i) (oI 1) Z = some (oI (sB s i 1)) := ofM (w := 1) h hi (by omega)
theorem ofM2 {i : Nat} (h : ZR (zA Z) (zB Z) s) (hi : i < 16) : fX10_ofMember (oI i) (oI 2) Z = some (oI (sB s i 2)) := ofM (w := 2) h hi (by omega)
theorem ofM3 {i : Nat} (h : ZR (zA Z) (zB Z) s) (hi : i < 16) : fX10_ofMember (oI i) (oI 3) Z = some (oI (sB s i 3)) := ofM (w := 3) h hi (by omega)
theorem ofM4 {i : Nat} (h : ZR (zA Z) (zB Z) s) (hi : i < 16) : fX10_ofMember (oI i) (oI 4) Z = some (oI (sB s i 4)) := ofM (w := 4) h hi (by omega)
theorem ofM5 {i : Nat} (h : ZR (zA Z) (zB Z) s) (hi : i < 16) : fX10_ofMember (oI i) (oI 5) Z = some (oI (sB s i 5)) := ofM (w := 5) h hi (by omega)
theorem ofM6 {i : Nat} (h : ZR (zA Z) (zB Z) s) (hi : i < 16) : fX10_ofMember (oI i) (oI 6) Z = some (oI (sB s i 6)) := ofM (w := 6) h hi (by omega)
theorem lacks_t {i : Nat} (h : ZR (zA Z) (zB Z) s) (hw : W1 s N) (hi : i < N) : fX10_lacks (oI i) Z = some (oI 0, wI Z 10 6 0 0 (oI 0)) := by
  rw [fX10_lacks, mem_t h hw hi]
  simp (disch := omega) only [kI_0, kI_1, kI_2, kI_3, kI_4, kI_5, kI_6, kI_7, kI_8, kI_9, kI_10, kI_12, kI_16, kI_17, kI_19, kI_20, kI_23, kI_24, kI_30, kI_32, kI_36, kI_48, kI_57, kI_59, kI_60, kI_72, kI_80, kI_84, kI_97, kI_98, kI_100, kI_122, kI_148, kI_200, kI_300, kI_1058, kI_1108, kI_1348, kI_1588, kI_5290, kI_7940, kI_100000, kI_e7, kI_e9, kL_0, kL_1, kL_5, kL_9, kL_10, kL_12, kL_23, kL_30, kL_48, kL_57, kL_59, kL_97, kL_100, kL_122, kL_1000, kL_e7, kL_e9, kL_e10, oI_lt, oI_le, oI_eq, oL_lt, oL_le, oL_eq, oI_L, oI_clamp, oI_inb, oL_nz, gd_true, ltb_eq, bd_eq, bd2_eq, rq_none, rq_thr, xc_val, xc_thr, wI_1, wI_2, wL_1, wL_2, fI_1, fI_2, fL_1, fL_2, eq_self, Nat.reduceEqDiff, Int.reduceLE, Int.reduceLT, Int.reduceEq, Int.reduceToNat, and_true, true_and, and_false, false_and, and_self, if_true, if_false, ite_true, ite_false, reduceCtorEq]
theorem lacks_f {a : Int} (h : ZR (zA Z) (zB Z) s) (hw : W1 s N) (h1 : -2147483648 ≤ a) (h2 : a < 2147483648) (hi : ¬ (0 ≤ a ∧ a < N)) : fX10_lacks (oI a) Z = some (oI 1, wI Z 10 6 0 0 (oI 1)) := by
  rw [fX10_lacks, mem_f h hw h1 h2 hi]
  simp (disch := omega) only [kI_0, kI_1, kI_2, kI_3, kI_4, kI_5, kI_6, kI_7, kI_8, kI_9, kI_10, kI_12, kI_16, kI_17, kI_19, kI_20, kI_23, kI_24, kI_30, kI_32, kI_36, kI_48, kI_57, kI_59, kI_60, kI_72, kI_80, kI_84, kI_97, kI_98, kI_100, kI_122, kI_148, kI_200, kI_300, kI_1058, kI_1108, kI_1348, kI_1588, kI_5290, kI_7940, kI_100000, kI_e7, kI_e9, kL_0, kL_1, kL_5, kL_9, kL_10, kL_12, kL_23, kL_30, kL_48, kL_57, kL_59, kL_97, kL_100, kL_122, kL_1000, kL_e7, kL_e9, kL_e10, oI_lt, oI_le, oI_eq, oL_lt, oL_le, oL_eq, oI_L, oI_clamp, oI_inb, oL_nz, gd_true, ltb_eq, bd_eq, bd2_eq, rq_none, rq_thr, xc_val, xc_thr, wI_1, wI_2, wL_1, wL_2, fI_1, fI_2, fL_1, fL_2, eq_self, Nat.reduceEqDiff, Int.reduceLE, Int.reduceLT, Int.reduceEq, Int.reduceToNat, and_true, true_and, and_false, false_and, and_self, if_true, if_false, ite_true, ite_false, reduceCtorEq]
theorem rqS_t {i : Nat} (h : SR A 0 s N) (hN : N ≤ 16) (hi : i < N) : fX9_requireSubscriber (oI i) A = some none := by
  rw [fX9_requireSubscriber, h.cnt]
  simp (disch := omega) only [kI_0, kI_1, kI_2, kI_3, kI_4, kI_5, kI_6, kI_7, kI_8, kI_9, kI_10, kI_12, kI_16, kI_17, kI_19, kI_20, kI_23, kI_24, kI_30, kI_32, kI_36, kI_48, kI_57, kI_59, kI_60, kI_72, kI_80, kI_84, kI_97, kI_98, kI_100, kI_122, kI_148, kI_200, kI_300, kI_1058, kI_1108, kI_1348, kI_1588, kI_5290, kI_7940, kI_100000, kI_e7, kI_e9, kL_0, kL_1, kL_5, kL_9, kL_10, kL_12, kL_23, kL_30, kL_48, kL_57, kL_59, kL_97, kL_100, kL_122, kL_1000, kL_e7, kL_e9, kL_e10, oI_lt, oI_le, oI_eq, oL_lt, oL_le, oL_eq, oI_L, oI_clamp, oI_inb, oL_nz]
  rw [if_neg (by omega), if_pos (by omega)]
theorem rqS_f {a : Int} (h : SR A 0 s N) (hN : N ≤ 16) (h1 : -2147483648 ≤ a) (h2 : a < 2147483648) (hi : ¬ (0 ≤ a ∧ a < N)) : fX9_requireSubscriber (oI a) A = some (some 0) := by
  rw [fX9_requireSubscriber, h.cnt]
  simp (disch := omega) only [kI_0, kI_1, kI_2, kI_3, kI_4, kI_5, kI_6, kI_7, kI_8, kI_9, kI_10, kI_12, kI_16, kI_17, kI_19, kI_20, kI_23, kI_24, kI_30, kI_32, kI_36, kI_48, kI_57, kI_59, kI_60, kI_72, kI_80, kI_84, kI_97, kI_98, kI_100, kI_122, kI_148, kI_200, kI_300, kI_1058, kI_1108, kI_1348, kI_1588, kI_5290, kI_7940, kI_100000, kI_e7, kI_e9, kL_0, kL_1, kL_5, kL_9, kL_10, kL_12, kL_23, kL_30, kL_48, kL_57, kL_59, kL_97, kL_100, kL_122, kL_1000, kL_e7, kL_e9, kL_e10, oI_lt, oI_le, oI_eq, oL_lt, oL_le, oL_eq, oI_L, oI_clamp, oI_inb, oL_nz]
  by_cases h7 : a < 0
  · rw [if_pos h7]
  · rw [if_neg h7, if_neg (by omega)]
theorem int_ix {a : Int} {N : Nat} (h : 0 ≤ a ∧ a < N) : ∃ i : Nat, i < N ∧ a = i := ⟨a.toNat, by omega, by omega⟩
end
/-! How the law compares. -/
theorem cs_int {fA : Option (Int32 × sM)} {fZ : Option (Int32 × sM)} {A' Z' : sM} {r v : Int32} (hA : fA = some (r, A')) (hZ : fZ = some (v, Z')) (ht : Z'.1 10 6 0 0 = r) (hv : r = 0 → A'.2 41 0 0 0 = v.toInt64) :
    (bd2 fA fun r_2 A_1 => bd2 fZ fun r_6 Z_5 => Option.bind (fX10_thrown Z_5) fun r_8 => if r_8 = r_2 then (if r_2 = 0 then (if (A_1.2 41 0 0 (0 : Int32).toNatClampNeg) = (r_6.toInt64) then some (A_1, Z_5) else none) else some (A_1, Z_5)) else none) = some (A', Z') := by
  subst hA; subst hZ
  simp only [bd2_eq, fX10_thrown, bd_eq, ht, if_true]
  by_cases h : r = 0
  · rw [if_pos h]; exact if_pos (hv h)
  · rw [if_neg h]
theorem cs_long {fA : Option (Int32 × sM)} {fZ : Option (Int64 × sM)} {A' Z' : sM} {r : Int32} {v : Int64} (hA : fA = some (r, A')) (hZ : fZ = some (v, Z')) (ht : Z'.1 10 6 0 0 = r) (hv : r = 0 → A'.2 41 0 0 0 = v) :
    (bd2 fA fun r_2 A_1 => bd2 fZ fun r_6 Z_5 => Option.bind (fX10_thrown Z_5) fun r_8 => if r_8 = r_2 then (if r_2 = 0 then (if (A_1.2 41 0 0 (0 : Int32).toNatClampNeg) = r_6 then some (A_1, Z_5) else none) else some (A_1, Z_5)) else none) = some (A', Z') := by
  subst hA; subst hZ
  simp only [bd2_eq, fX10_thrown, bd_eq, ht, if_true]
  by_cases h : r = 0
  · rw [if_pos h]; exact if_pos (hv h)
  · rw [if_neg h]
/-- what a case owes -/
def CaseOK (f : Nat → (Nat → Int32) → Int32 → sM → sM → Option (sM × sM)) : Prop := ∀ (n L : Nat) (A Z : sM) (xs : Nat → Int32) (x4 : Int32), n < 512 → Inv n A Z → (inb x4 L = true ∧ inb (x4 + (1 : Int32)) L = true ∧ inb (x4 + (2 : Int32)) L = true ∧ inb (x4 + (3 : Int32)) L = true ∧ inb (x4 + (4 : Int32)) L = true ∧ inb (x4 + (5 : Int32)) L = true) → ∃ A' Z', f L xs x4 A Z = some (A', Z') ∧ Inv (n + 1) A' Z'
theorem case12 : CaseOK fL_case12 := by
  intro n L A Z xs x4 hn hI hin
  obtain ⟨_, i1, i2, i3, i4, i5⟩ := hin
  rw [fL_case12]
  simp only [i1, i2, i3, i4, i5, gd_true]
  obtain ⟨⟨s, N, hS, hZ, hW⟩, -⟩ := id hI
  generalize xs (x4 + 1).toNatClampNeg = x
  obtain ⟨a, a1, a2, rfl⟩ := I_ex x
  have hN : N ≤ 16 := hW.1.2.2.2.2.2.2.2.2
  by_cases ha : 0 ≤ a ∧ a < N
  · obtain ⟨i, hi, rfl⟩ := int_ix ha
    refine ⟨_, _, cs_int (r := 0) (v := oI (sB s i 3)) (A' := wL A 41 0 0 0 (oI (sB s i 3)).toInt64) (Z' := wI Z 10 6 0 0 (oI 0)) ?_ ?_ rfl (fun _ => rfl), hI.wk ((Fr.refl _).wL rfl) ((Fr.refl _).wI rfl)⟩
    · rw [fL_state, fX9_state, rqS_t hS hN hi]
      simp (disch := omega) only [gd_true, ltb_eq, bd_eq, bd2_eq, rq_none, rq_thr, xc_val, xc_thr, oI_lt, oI_le, oI_eq, oL_lt, oL_le, oL_eq, oI_L, oI_clamp, oI_inb, oL_nz, cl_nat, hS.st hi]
      rfl
    · rw [fX10_state, lacks_t hZ hW.1 hi]
      have hZ' : ZR (zA (wI Z 10 6 0 0 (oI 0))) (zB (wI Z 10 6 0 0 (oI 0))) s := hZ
      simp (disch := omega) only [gd_true, ltb_eq, bd_eq, bd2_eq, rq_none, rq_thr, xc_val, xc_thr, kI_0, kI_1, kI_2, kI_3, kI_4, kI_5, kI_6, kI_7, kI_8, kI_9, kI_10, kI_12, kI_16, kI_17, kI_19, kI_20, kI_23, kI_24, kI_30, kI_32, kI_36, kI_48, kI_57, kI_59, kI_60, kI_72, kI_80, kI_84, kI_97, kI_98, kI_100, kI_122, kI_148, kI_200, kI_300, kI_1058, kI_1108, kI_1348, kI_1588, kI_5290, kI_7940, kI_100000, kI_e7, kI_e9, kL_0, kL_1, kL_5, kL_9, kL_10, kL_12, kL_23, kL_30, kL_48, kL_57, kL_59, kL_97, kL_100, kL_122, kL_1000, kL_e7, kL_e9, kL_e10, eq_self, Nat.reduceEqDiff, Int.reduceLE, Int.reduceLT, Int.reduceEq, Int.reduceToNat, and_true, true_and, and_false, false_and, and_self, if_true, if_false, ite_true, ite_false, reduceCtorEq, ofM3 hZ']
  · refine ⟨_, _, cs_int (r := 1) (v := 0) (A' := A) (Z' := wI Z 10 6 0 0 (oI 1)) ?_ ?_ rfl (fun q => absurd q (by decide)), hI.wk (Fr.refl _) ((Fr.refl _).wI rfl)⟩
    · rw [fL_state, fX9_state, rqS_f hS hN a1 a2 ha]
      rfl
    · rw [fX10_state, lacks_f hZ hW.1 a1 a2 ha]
      rfl
