/-! Copies of a subscriber; what would expire; months covered. -/
def pC (o0 : Nat) (c _ o : Nat) : Bool := (c == 8 || c == 24 || c == 25 || c == 26) && o == o0
theorem pC_8 (o k : Nat) : pC o 8 k o = true := by simp [pC]
theorem pC_24 (o k : Nat) : pC o 24 k o = true := by simp [pC]
theorem pC_25 (o k : Nat) : pC o 25 k o = true := by simp [pC]
theorem pC_26 (o k : Nat) : pC o 26 k o = true := by simp [pC]
theorem pC_wk {A A' : sM} (h : Fr (pC 112) A A') : Fr wkA A A' := h.mono fun c k o hq => by
  simp only [wkA, pC, Bool.or_eq_false_iff] at hq ⊢; exact hq.2
theorem pS_wk {A A' : sM} (h : Fr (pS 112) A A') : Fr wkA A A' := h.mono fun c k o hq => by
  simp only [wkA, pS, Bool.or_eq_false_iff] at hq ⊢
  by_cases e : o = 112
  · subst e
    simp at hq ⊢
    simp [hq]
  · simp [e]
section
variable {A Z : sM} {s : sS} {N n b : Nat}
theorem cpS {o o1 : Nat} (h : ¬ o1 = o) : ∃ A', Fr (pC o) A A' ∧ (∀ k, k < 7 → A'.1 8 k o 0 = A.1 8 k o1 0) ∧ (∀ j, j < 60 → A'.1 24 0 o j = A.1 24 0 o1 j) ∧ (∀ j, j < 72 → A'.2 25 0 o j = A.2 25 0 o1 j) ∧ (∀ w, w < 6 → A'.2 26 0 o w = A.2 26 0 o1 w) ∧ fX8_copyFrom o o1 A = some A' := by
  have hq : nq o1 o = true := by simp [nq, h]
  refine ⟨_, ?_, ?_, ?_, ?_, ?_, by simp only [fX8_copyFrom, ltb_eq, hq, gd_true]; rfl⟩
  · exact (((((((((((Fr.refl _).wI (pC_8 o _)).wI (pC_8 o _)).wI (pC_8 o _)).wI (pC_8 o _)).wI (pC_8 o _)).wI (pC_8 o _)).wI (pC_8 o _)).cI (pC_24 o _)).cL (pC_25 o _)).cL (pC_26 o _))
  · intro k hk
    rcases (by omega : k = 0 ∨ k = 1 ∨ k = 2 ∨ k = 3 ∨ k = 4 ∨ k = 5 ∨ k = 6) with rfl | rfl | rfl | rfl | rfl | rfl | rfl <;> simp [wI_1, cI_1, cL_1, h]
  · intro j hj
    simp [wI_1, cI_1, cL_1, hj]
  · intro j hj
    simp [wI_2, cI_2, cL_2, hj]
  · intro j hj
    simp [wI_2, cI_2, cL_2, hj]
/-- the trial row as a copy of a subscriber -/
theorem cpT (hS : SR A 0 s N) (hN : N ≤ 16) {i : Nat} (hi : i < N) : ∃ A', Fr (pC 112) A A' ∧ (∀ j, j < 72 → A'.2 25 0 112 j = oL (if j < 60 then sT s i j else 0)) ∧ (∀ w, w < 6 → A'.2 26 0 112 w = oL (sA s i w)) ∧ fX8_copyFrom 112 (16 * 0 + i) A = some A' := by
  obtain ⟨A', q1, q2, q3, q4, q5, q6⟩ := cpS (A := A) (o := 112) (o1 := 16 * 0 + i) (by omega)
  exact ⟨A', q1, fun j hj => by rw [q4 j hj]; exact hS.lt hi hj, fun w hw => by rw [q5 w hw]; exact hS.ac hi hw, q6⟩
theorem bal_bd {n : Nat} (h7 : W7 s N) (h8 : W8 n s) (h2 : W2 s) (h6 : W6 s) (hn : n ≤ 512) {i : Nat} (hi : i < 16) : (0 ≤ bal s i ∧ bal s i ≤ 76000000000000) ∧ ∀ m, m < 60 → 0 ≤ sT s i m ∧ sT s i m ≤ 76000000000000 := by
  have hp : 0 ≤ sumN (pot s) 240 := sumN_nonneg fun c hc => by
    have a := h2.2 (c % 4) (by omega)
    have b := h6.1 c hc
    refine Int.mul_nonneg a.1 ?_
    split
    · omega
    · split
      · omega
      · split <;> omega
  have hb : ∀ j, j < 16 → 0 ≤ bal s j := fun j hj => sumN_nonneg fun m hm => (h7.1 j hj).2.2.2 m hm
  have h9 := sumN_mem (f := bal s) hi hb
  have h10 := h8.1
  have h11 : 0 ≤ (if 0 ≤ sF s 0 then sF s 0 else 0) := by split <;> omega
  have h12 : bal s i ≤ 76000000000000 := by omega
  refine ⟨⟨hb i hi, h12⟩, fun m hm => ⟨(h7.1 i hi).2.2.2 m hm, ?_⟩⟩
  have := sumN_mem (f := fun m => sT s i m) hm (fun m hm => (h7.1 i hi).2.2.2 m hm)
  have e : sumN (fun m => sT s i m) 60 = bal s i := rfl
  omega
theorem debt_bd {n : Nat} (h7 : W7 s N) (h8 : W8 n s) (h2 : W2 s) (h6 : W6 s) (hn : n ≤ 512) {i : Nat} (hi : i < 16) : (0 ≤ sA s i 0 ∧ sA s i 0 ≤ 200000000000000000) ∧ -200000000000000000 ≤ sF s 0 ∧ sF s 0 ≤ 76000000000000 := by
  have hp : 0 ≤ sumN (pot s) 240 := sumN_nonneg fun c hc => by
    have a := h2.2 (c % 4) (by omega)
    have b := h6.1 c hc
    refine Int.mul_nonneg a.1 ?_
    split
    · omega
    · split
      · omega
      · split <;> omega
  have hb : 0 ≤ sumN (bal s) 16 := sumN_nonneg fun j hj => sumN_nonneg fun m hm => (h7.1 j hj).2.2.2 m hm
  have hd := sumN_mem (f := fun i => sA s i 0) hi (fun j hj => (h7.1 j hj).1)
  have hd0 : 0 ≤ sumN (fun i => sA s i 0) 16 := sumN_nonneg fun j hj => (h7.1 j hj).1
  have h9 := h8.1
  have h10 := h8.2
  have h11 : sF s 0 ≤ (if 0 ≤ sF s 0 then sF s 0 else 0) := by split <;> omega
  exact ⟨⟨(h7.1 i hi).1, by omega⟩, by omega, by omega⟩
end
theorem case33 : CaseOK fL_case33 := by
  intro n L A Z xs x4 hn hI hin
  obtain ⟨_, i1, i2, i3, i4, i5⟩ := hin
  rw [fL_case33]
  simp only [i1, i2, i3, i4, i5, gd_true]
  obtain ⟨⟨s, N, hS, hZ, hW⟩, hR⟩ := id hI
  obtain ⟨w1, w2, w3, w4, w5, w6, w7, w8⟩ := id hW
  obtain ⟨g0, g1, g2, g3, g4, g5, g6, g7, hN⟩ := id w1
  refine OKL.c ?_
  generalize xs (x4 + 1).toNatClampNeg = x
  obtain ⟨a, a1, a2, rfl⟩ := I_ex x
  by_cases ha : 0 ≤ a ∧ a < N
  · obtain ⟨i, hi, rfl⟩ := int_ix ha
    obtain ⟨A1, q1, q2, q3, q4⟩ := cpT hS hN hi
    have hb := (bal_bd w7 w8 w2 w6 (by omega) (show i < 16 by omega)).2
    have hB := w7.1 i (by omega)
    obtain ⟨A2, r1, r2, r3, r4⟩ := pay (A := A1) (o := 112) (x := sA s i 1) (f := fun j => if j < 60 then sT s i j else 0) (by omega) (fun m hm => by
      split
      · have := hb m (by omega); omega
      · omega) q2
    have hF2 : Fr wkA A A2 := (pC_wk q1).trans (pS_wk r1)
    have hS2 := hS.wk hF2 hN (by omega)
    have eA : ∀ v A', fX8_takeExpiredLot 112 (oI (sG s 5 - sG s 1)) A2 = some (v, A') → fL_expiring (oI i) A = some (0, wL A' 41 0 0 0 v) := by
      intro v A' h
      rw [fL_expiring, fX9_expiring, rqS_t hS hN hi]
      simp (disch := omega) only [gd_true, ltb_eq, bd_eq, bd2_eq, rq_none, rq_thr, xc_val, xc_thr, oI_lt, oI_le, oI_eq, oL_lt, oL_le, oL_eq, oI_L, oI_clamp, oI_inb, oL_nz, cl_nat, q4]
      rw [show A1.2 26 0 112 (Int32.toNatClampNeg 1) = oL (sA s i 1) from q3 1 (by omega), r4, bd2_eq, hS2.mon, hS2.g (by omega), oI_sub, h]
      rfl
    by_cases ho : sG s 5 - sG s 1 < 0
    · refine OKL.v (v := oL 0) hI (eA _ _ ?_) ?_ (thr_g Z _) hF2 (frT Z _)
      · rw [fX8_takeExpiredLot]
        simp (disch := omega) only [kI_0, kI_1, kI_2, kI_3, kI_4, kI_5, kI_6, kI_7, kI_8, kI_9, kI_10, kI_12, kI_16, kI_17, kI_19, kI_20, kI_23, kI_24, kI_30, kI_32, kI_36, kI_48, kI_57, kI_59, kI_60, kI_72, kI_80, kI_84, kI_97, kI_98, kI_100, kI_122, kI_148, kI_200, kI_300, kI_1058, kI_1108, kI_1348, kI_1588, kI_5290, kI_7940, kI_100000, kI_e7, kI_e9, kL_0, kL_1, kL_5, kL_9, kL_10, kL_12, kL_23, kL_30, kL_48, kL_57, kL_59, kL_97, kL_100, kL_122, kL_1000, kL_e7, kL_e9, kL_e10, oI_lt, oI_le, oI_eq, oL_lt, oL_le, oL_eq, oI_L, oI_clamp, oI_inb, oL_nz]
        rw [if_pos ho]
      · rw [fX10_expiring, lacks_t hZ w1 hi]
        simp (disch := omega) only [gd_true, ltb_eq, bd_eq, bd2_eq, rq_none, rq_thr, xc_val, xc_thr, kI_0, kI_1, kI_2, kI_3, kI_4, kI_5, kI_6, kI_7, kI_8, kI_9, kI_10, kI_12, kI_16, kI_17, kI_19, kI_20, kI_23, kI_24, kI_30, kI_32, kI_36, kI_48, kI_57, kI_59, kI_60, kI_72, kI_80, kI_84, kI_97, kI_98, kI_100, kI_122, kI_148, kI_200, kI_300, kI_1058, kI_1108, kI_1348, kI_1588, kI_5290, kI_7940, kI_100000, kI_e7, kI_e9, kL_0, kL_1, kL_5, kL_9, kL_10, kL_12, kL_23, kL_30, kL_48, kL_57, kL_59, kL_97, kL_100, kL_122, kL_1000, kL_e7, kL_e9, kL_e10, oI_lt, oI_le, oI_eq, oL_lt, oL_le, oL_eq, oI_L, oI_clamp, oI_inb, oL_nz, oI_add, oI_sub, oI_mul, oI_neg, oL_add, oL_sub, oL_mul, oL_neg, oL_I, wI_1, wI_2, wL_1, wL_2, fI_1, fI_2, fL_1, fL_2, eq_self, Nat.reduceEqDiff, Int.reduceLE, Int.reduceLT, Int.reduceEq, Int.reduceToNat, and_true, true_and, and_false, false_and, and_self, if_true, if_false, ite_true, ite_false, reduceCtorEq, Zg hZ]
        rw [if_neg (by omega)]
    · obtain ⟨d, hd, hd2⟩ : ∃ d : Nat, sG s 5 - sG s 1 = d ∧ d < 60 := ⟨(sG s 5 - sG s 1).toNat, by omega, by omega⟩
      have hz : ∀ m, m < d → sT s i m = 0 := fun m hm => w7.2.2.2 i m (by omega) (by omega) (Or.inr (by omega))
      have hrm : rmn (fun j => if j < 60 then sT s i j else 0) (sA s i 1) d = sA s i 1 := by
        rw [rmn_eq hB.2.1 (fun m hm => by rw [if_pos (by omega), hz m hm]; omega), sumN_zero (fun m hm => by rw [if_pos (by omega), hz m hm]), if_pos hB.2.1]
        omega
      have hpd : payd (fun j => if j < 60 then sT s i j else 0) (sA s i 1) d = sT s i d - mn (sT s i d) (sA s i 1) := by
        rw [payd, hrm, if_pos hd2]
      have hbd := hb d hd2
      refine OKL.v (v := oL (sT s i d - mn (sT s i d) (sA s i 1))) (A' := wL (wL A2 25 0 112 d (oL 0)) 26 0 112 5 (A2.2 26 0 112 5 + oL (sT s i d - mn (sT s i d) (sA s i 1)))) hI (eA _ _ ?_) ?_ (thr_g Z _) ((hF2.wL rfl).wL rfl) (frT Z _)
      · rw [fX8_takeExpiredLot, hd]
        simp (disch := omega) only [kI_0, kI_1, kI_2, kI_3, kI_4, kI_5, kI_6, kI_7, kI_8, kI_9, kI_10, kI_12, kI_16, kI_17, kI_19, kI_20, kI_23, kI_24, kI_30, kI_32, kI_36, kI_48, kI_57, kI_59, kI_60, kI_72, kI_80, kI_84, kI_97, kI_98, kI_100, kI_122, kI_148, kI_200, kI_300, kI_1058, kI_1108, kI_1348, kI_1588, kI_5290, kI_7940, kI_100000, kI_e7, kI_e9, kL_0, kL_1, kL_5, kL_9, kL_10, kL_12, kL_23, kL_30, kL_48, kL_57, kL_59, kL_97, kL_100, kL_122, kL_1000, kL_e7, kL_e9, kL_e10, oI_lt, oI_le, oI_eq, oL_lt, oL_le, oL_eq, oI_L, oI_clamp, oI_inb, oL_nz, gd_true, ltb_eq, bd_eq, bd2_eq, rq_none, rq_thr, xc_val, xc_thr, eq_self, Nat.reduceEqDiff, Int.reduceLE, Int.reduceLT, Int.reduceEq, Int.reduceToNat, and_true, true_and, and_false, false_and, and_self, if_true, if_false, ite_true, ite_false, reduceCtorEq, cl_nat, r3]
        rw [if_neg (by omega), if_pos (by omega), wL_2, if_neg (by omega), hpd]
      · rw [fX10_expiring, lacks_t hZ w1 hi]
        simp (disch := omega) only [gd_true, ltb_eq, bd_eq, bd2_eq, rq_none, rq_thr, xc_val, xc_thr, kI_0, kI_1, kI_2, kI_3, kI_4, kI_5, kI_6, kI_7, kI_8, kI_9, kI_10, kI_12, kI_16, kI_17, kI_19, kI_20, kI_23, kI_24, kI_30, kI_32, kI_36, kI_48, kI_57, kI_59, kI_60, kI_72, kI_80, kI_84, kI_97, kI_98, kI_100, kI_122, kI_148, kI_200, kI_300, kI_1058, kI_1108, kI_1348, kI_1588, kI_5290, kI_7940, kI_100000, kI_e7, kI_e9, kL_0, kL_1, kL_5, kL_9, kL_10, kL_12, kL_23, kL_30, kL_48, kL_57, kL_59, kL_97, kL_100, kL_122, kL_1000, kL_e7, kL_e9, kL_e10, oI_lt, oI_le, oI_eq, oL_lt, oL_le, oL_eq, oI_L, oI_clamp, oI_inb, oL_nz, oI_add, oI_sub, oI_mul, oI_neg, oL_add, oL_sub, oL_mul, oL_neg, oL_I, wI_1, wI_2, wL_1, wL_2, fI_1, fI_2, fL_1, fL_2, eq_self, Nat.reduceEqDiff, Int.reduceLE, Int.reduceLT, Int.reduceEq, Int.reduceToNat, and_true, true_and, and_false, false_and, and_self, if_true, if_false, ite_true, ite_false, reduceCtorEq, Zg hZ, hd, fX10_lotAt, fX10_accountAt]
        rw [if_pos (by omega), show Z.2 30 0 0 (98 + 60 * (i : Int) + (d : Int)).toNat = oL (sT s i d) from hZ.lt (by omega) hd2, show Z.2 30 0 0 (2 + 6 * (i : Int) + 1).toNat = oL (sA s i 1) from hZ.ac (w := 1) (by omega) (by omega)]
        simp (disch := omega) only [oI_lt, oI_le, oI_eq, oL_lt, oL_le, oL_eq, oI_L, oI_clamp, oI_inb, oL_nz, oI_add, oI_sub, oI_mul, oI_neg, oL_add, oL_sub, oL_mul, oL_neg, oL_I]
        rw [mn]
        by_cases e : sT s i d - sA s i 1 ≤ 0
        · rw [if_pos e]
          split
          · congr 3; omega
          · congr 3; omega
        · rw [if_neg e, if_neg (by omega)]
  · refine OKL.t (r := 1) (v := 0) hI ?_ ?_ (thr_g Z _) (by decide) (Fr.refl _) (frT Z _)
    · rw [fL_expiring, fX9_expiring, rqS_f hS hN a1 a2 ha]
      rfl
    · rw [fX10_expiring, lacks_f hZ w1 a1 a2 ha]
      rfl
