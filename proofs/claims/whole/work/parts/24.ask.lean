/-! Calls that only ask. -/
def OKI (n : Nat) (fA : Option (Int32 × sM)) (fZ : Option (Int32 × sM)) : Prop := ∃ A' Z' r v, fA = some (r, A') ∧ fZ = some (v, Z') ∧ Z'.1 10 6 0 0 = r ∧ (r = 0 → A'.2 41 0 0 0 = v.toInt64) ∧ Inv (n + 1) A' Z'
def OKL (n : Nat) (fA : Option (Int32 × sM)) (fZ : Option (Int64 × sM)) : Prop := ∃ A' Z' r v, fA = some (r, A') ∧ fZ = some (v, Z') ∧ Z'.1 10 6 0 0 = r ∧ (r = 0 → A'.2 41 0 0 0 = v) ∧ Inv (n + 1) A' Z'
theorem OKI.v {n : Nat} {A A' Z Z' : sM} {fA : Option (Int32 × sM)} {fZ : Option (Int32 × sM)} {v : Int32} (hI : Inv n A Z) (hA : fA = some (0, wL A' 41 0 0 0 v.toInt64)) (hZ : fZ = some (v, Z')) (ht : Z'.1 10 6 0 0 = 0) (a : Fr wkA A A') (z : Fr wkZ Z Z') : OKI n fA fZ :=
  ⟨_, _, _, _, hA, hZ, ht, fun _ => rfl, hI.wk (a.wL rfl) z⟩
theorem OKI.t {n : Nat} {A A' Z Z' : sM} {fA : Option (Int32 × sM)} {fZ : Option (Int32 × sM)} {r v : Int32} (hI : Inv n A Z) (hA : fA = some (r, A')) (hZ : fZ = some (v, Z')) (ht : Z'.1 10 6 0 0 = r) (hr : ¬ r = 0) (a : Fr wkA A A') (z : Fr wkZ Z Z') : OKI n fA fZ :=
  ⟨_, _, _, _, hA, hZ, ht, fun q => absurd q hr, hI.wk a z⟩
theorem OKL.v {n : Nat} {A A' Z Z' : sM} {fA : Option (Int32 × sM)} {fZ : Option (Int64 × sM)} {v : Int64} (hI : Inv n A Z) (hA : fA = some (0, wL A' 41 0 0 0 v)) (hZ : fZ = some (v, Z')) (ht : Z'.1 10 6 0 0 = 0) (a : Fr wkA A A') (z : Fr wkZ Z Z') : OKL n fA fZ :=
  ⟨_, _, _, _, hA, hZ, ht, fun _ => rfl, hI.wk (a.wL rfl) z⟩
theorem OKL.t {n : Nat} {A A' Z Z' : sM} {fA : Option (Int32 × sM)} {fZ : Option (Int64 × sM)} {r : Int32} {v : Int64} (hI : Inv n A Z) (hA : fA = some (r, A')) (hZ : fZ = some (v, Z')) (ht : Z'.1 10 6 0 0 = r) (hr : ¬ r = 0) (a : Fr wkA A A') (z : Fr wkZ Z Z') : OKL n fA fZ :=
  ⟨_, _, _, _, hA, hZ, ht, fun q => absurd q hr, hI.wk a z⟩
theorem OKI.c {n : Nat} {fA : Option (Int32 × sM)} {fZ : Option (Int32 × sM)} (h : OKI n fA fZ) : ∃ A' Z',
    (bd2 fA fun r_2 A_1 => bd2 fZ fun r_6 Z_5 => Option.bind (fX10_thrown Z_5) fun r_8 => if r_8 = r_2 then (if r_2 = 0 then (if (A_1.2 41 0 0 (0 : Int32).toNatClampNeg) = (r_6.toInt64) then some (A_1, Z_5) else none) else some (A_1, Z_5)) else none) = some (A', Z') ∧ Inv (n + 1) A' Z' := by
  obtain ⟨A', Z', r, v, h1, h2, h3, h4, h5⟩ := h
  exact ⟨A', Z', cs_int h1 h2 h3 h4, h5⟩
theorem OKL.c {n : Nat} {fA : Option (Int32 × sM)} {fZ : Option (Int64 × sM)} (h : OKL n fA fZ) : ∃ A' Z',
    (bd2 fA fun r_2 A_1 => bd2 fZ fun r_6 Z_5 => Option.bind (fX10_thrown Z_5) fun r_8 => if r_8 = r_2 then (if r_2 = 0 then (if (A_1.2 41 0 0 (0 : Int32).toNatClampNeg) = r_6 then some (A_1, Z_5) else none) else some (A_1, Z_5)) else none) = some (A', Z') ∧ Inv (n + 1) A' Z' := by
  obtain ⟨A', Z', r, v, h1, h2, h3, h4, h5⟩ := h
  exact ⟨A', Z', cs_long h1 h2 h3 h4, h5⟩
theorem ZRt {Z : sM} {s : sS} {v : Int32} (h : ZR (zA Z) (zB Z) s) : ZR (zA (wI Z 10 6 0 0 v)) (zB (wI Z 10 6 0 0 v)) s := h
theorem thr_g (Z : sM) (v : Int32) : (wI Z 10 6 0 0 v).1 10 6 0 0 = v := rfl
theorem frT (Z : sM) (v : Int32) : Fr wkZ Z (wI Z 10 6 0 0 v) := (Fr.refl _).wI rfl
section
variable {A Z : sM} {s : sS} {N n b : Nat}
theorem rqM_t {m : Nat} (h : SR A 0 s N) (h1 : W1 s N) (hm : (m : Int) ≤ sG s 5) : fX9_requireMonth (oI m) A = some none := by
  obtain ⟨_, _, _, _, _, h5, _⟩ := h1
  rw [fX9_requireMonth, h.mon]
  simp (disch := omega) only [kI_0, kI_1, kI_2, kI_3, kI_4, kI_5, kI_6, kI_7, kI_8, kI_9, kI_10, kI_12, kI_16, kI_17, kI_19, kI_20, kI_23, kI_24, kI_30, kI_32, kI_36, kI_48, kI_57, kI_59, kI_60, kI_72, kI_80, kI_84, kI_97, kI_98, kI_100, kI_122, kI_148, kI_200, kI_300, kI_1058, kI_1108, kI_1348, kI_1588, kI_5290, kI_7940, kI_100000, kI_e7, kI_e9, kL_0, kL_1, kL_5, kL_9, kL_10, kL_12, kL_23, kL_30, kL_48, kL_57, kL_59, kL_97, kL_100, kL_122, kL_1000, kL_e7, kL_e9, kL_e10, oI_lt, oI_le, oI_eq, oL_lt, oL_le, oL_eq, oI_L, oI_clamp, oI_inb, oL_nz]
  rw [if_neg (by omega), if_pos (by omega)]
theorem rqM_f {a : Int} (h : SR A 0 s N) (h1 : W1 s N) (a1 : -2147483648 ≤ a) (a2 : a < 2147483648) (hm : ¬ (0 ≤ a ∧ a ≤ sG s 5)) : fX9_requireMonth (oI a) A = some (some 0) := by
  obtain ⟨_, _, _, _, _, h5, _⟩ := h1
  rw [fX9_requireMonth, h.mon]
  simp (disch := omega) only [kI_0, kI_1, kI_2, kI_3, kI_4, kI_5, kI_6, kI_7, kI_8, kI_9, kI_10, kI_12, kI_16, kI_17, kI_19, kI_20, kI_23, kI_24, kI_30, kI_32, kI_36, kI_48, kI_57, kI_59, kI_60, kI_72, kI_80, kI_84, kI_97, kI_98, kI_100, kI_122, kI_148, kI_200, kI_300, kI_1058, kI_1108, kI_1348, kI_1588, kI_5290, kI_7940, kI_100000, kI_e7, kI_e9, kL_0, kL_1, kL_5, kL_9, kL_10, kL_12, kL_23, kL_30, kL_48, kL_57, kL_59, kL_97, kL_100, kL_122, kL_1000, kL_e7, kL_e9, kL_e10, oI_lt, oI_le, oI_eq, oL_lt, oL_le, oL_eq, oI_L, oI_clamp, oI_inb, oL_nz]
  by_cases h7 : a < 0
  · rw [if_pos h7]
  · rw [if_neg h7, if_neg (by omega)]
theorem rqP_t {p : Nat} (h : SR A 0 s N) (h1 : W1 s N) (hm : (p : Int) < sG s 4) : fX9_requirePeriod (oI p) A = some none := by
  obtain ⟨_, _, _, _, h5, _⟩ := h1
  rw [fX9_requirePeriod, h.g (by omega)]
  simp (disch := omega) only [kI_0, kI_1, kI_2, kI_3, kI_4, kI_5, kI_6, kI_7, kI_8, kI_9, kI_10, kI_12, kI_16, kI_17, kI_19, kI_20, kI_23, kI_24, kI_30, kI_32, kI_36, kI_48, kI_57, kI_59, kI_60, kI_72, kI_80, kI_84, kI_97, kI_98, kI_100, kI_122, kI_148, kI_200, kI_300, kI_1058, kI_1108, kI_1348, kI_1588, kI_5290, kI_7940, kI_100000, kI_e7, kI_e9, kL_0, kL_1, kL_5, kL_9, kL_10, kL_12, kL_23, kL_30, kL_48, kL_57, kL_59, kL_97, kL_100, kL_122, kL_1000, kL_e7, kL_e9, kL_e10, oI_lt, oI_le, oI_eq, oL_lt, oL_le, oL_eq, oI_L, oI_clamp, oI_inb, oL_nz]
  rw [if_neg (by omega), if_pos (by omega)]
theorem rqP_f {a : Int} (h : SR A 0 s N) (h1 : W1 s N) (a1 : -2147483648 ≤ a) (a2 : a < 2147483648) (hm : ¬ (0 ≤ a ∧ a < sG s 4)) : fX9_requirePeriod (oI a) A = some (some 0) := by
  obtain ⟨_, _, _, _, h5, _⟩ := h1
  rw [fX9_requirePeriod, h.g (by omega)]
  simp (disch := omega) only [kI_0, kI_1, kI_2, kI_3, kI_4, kI_5, kI_6, kI_7, kI_8, kI_9, kI_10, kI_12, kI_16, kI_17, kI_19, kI_20, kI_23, kI_24, kI_30, kI_32, kI_36, kI_48, kI_57, kI_59, kI_60, kI_72, kI_80, kI_84, kI_97, kI_98, kI_100, kI_122, kI_148, kI_200, kI_300, kI_1058, kI_1108, kI_1348, kI_1588, kI_5290, kI_7940, kI_100000, kI_e7, kI_e9, kL_0, kL_1, kL_5, kL_9, kL_10, kL_12, kL_23, kL_30, kL_48, kL_57, kL_59, kL_97, kL_100, kL_122, kL_1000, kL_e7, kL_e9, kL_e10, oI_lt, oI_le, oI_eq, oL_lt, oL_le, oL_eq, oI_L, oI_clamp, oI_inb, oL_nz]
  by_cases h7 : a < 0
  · rw [if_pos h7]
  · rw [if_neg h7, if_neg (by omega)]
theorem rqH_t {p : Nat} (A : sM) (hm : p < 24) : fX9_requireHour (oI p) A = some none := by
  rw [fX9_requireHour]
  simp (disch := omega) only [kI_0, kI_1, kI_2, kI_3, kI_4, kI_5, kI_6, kI_7, kI_8, kI_9, kI_10, kI_12, kI_16, kI_17, kI_19, kI_20, kI_23, kI_24, kI_30, kI_32, kI_36, kI_48, kI_57, kI_59, kI_60, kI_72, kI_80, kI_84, kI_97, kI_98, kI_100, kI_122, kI_148, kI_200, kI_300, kI_1058, kI_1108, kI_1348, kI_1588, kI_5290, kI_7940, kI_100000, kI_e7, kI_e9, kL_0, kL_1, kL_5, kL_9, kL_10, kL_12, kL_23, kL_30, kL_48, kL_57, kL_59, kL_97, kL_100, kL_122, kL_1000, kL_e7, kL_e9, kL_e10, oI_lt, oI_le, oI_eq, oL_lt, oL_le, oL_eq, oI_L, oI_clamp, oI_inb, oL_nz]
  rw [if_neg (by omega), if_pos (by omega)]
theorem rqH_f {a : Int} (A : sM) (a1 : -2147483648 ≤ a) (a2 : a < 2147483648) (hm : ¬ (0 ≤ a ∧ a < 24)) : fX9_requireHour (oI a) A = some (some 0) := by
  rw [fX9_requireHour]
  simp (disch := omega) only [kI_0, kI_1, kI_2, kI_3, kI_4, kI_5, kI_6, kI_7, kI_8, kI_9, kI_10, kI_12, kI_16, kI_17, kI_19, kI_20, kI_23, kI_24, kI_30, kI_32, kI_36, kI_48, kI_57, kI_59, kI_60, kI_72, kI_80, kI_84, kI_97, kI_98, kI_100, kI_122, kI_148, kI_200, kI_300, kI_1058, kI_1108, kI_1348, kI_1588, kI_5290, kI_7940, kI_100000, kI_e7, kI_e9, kL_0, kL_1, kL_5, kL_9, kL_10, kL_12, kL_23, kL_30, kL_48, kL_57, kL_59, kL_97, kL_100, kL_122, kL_1000, kL_e7, kL_e9, kL_e10, oI_lt, oI_le, oI_eq, oL_lt, oL_le, oL_eq, oI_L, oI_clamp, oI_inb, oL_nz]
  by_cases h7 : a < 0
  · rw [if_pos h7]
  · rw [if_neg h7, if_neg (by omega)]
theorem mon_t {m : Nat} (h : ZR (zA Z) (zB Z) s) (h1 : W1 s N) (hm : (m : Int) ≤ sG s 5) : fX10_isMonth (oI m) Z = some (oI 1) := by
  obtain ⟨_, _, _, _, _, h5, _⟩ := h1
  rw [fX10_isMonth]
  simp (disch := omega) only [kI_0, kI_1, kI_2, kI_3, kI_4, kI_5, kI_6, kI_7, kI_8, kI_9, kI_10, kI_12, kI_16, kI_17, kI_19, kI_20, kI_23, kI_24, kI_30, kI_32, kI_36, kI_48, kI_57, kI_59, kI_60, kI_72, kI_80, kI_84, kI_97, kI_98, kI_100, kI_122, kI_148, kI_200, kI_300, kI_1058, kI_1108, kI_1348, kI_1588, kI_5290, kI_7940, kI_100000, kI_e7, kI_e9, kL_0, kL_1, kL_5, kL_9, kL_10, kL_12, kL_23, kL_30, kL_48, kL_57, kL_59, kL_97, kL_100, kL_122, kL_1000, kL_e7, kL_e9, kL_e10, oI_lt, oI_le, oI_eq, oL_lt, oL_le, oL_eq, oI_L, oI_clamp, oI_inb, oL_nz, show (5 : Int).toNat = 5 from rfl, Zg h, oI_add, oI_sub, oI_mul, oI_neg, oL_add, oL_sub, oL_mul, oL_neg, oL_I]
  rw [isIn_t _ (by omega) (by omega) (by omega)]
  rfl
theorem mon_f {a : Int} (h : ZR (zA Z) (zB Z) s) (h1 : W1 s N) (a1 : -2147483648 ≤ a) (a2 : a < 2147483648) (hm : ¬ (0 ≤ a ∧ a ≤ sG s 5)) : fX10_isMonth (oI a) Z = some (oI 0) := by
  obtain ⟨_, _, _, _, _, h5, _⟩ := h1
  rw [fX10_isMonth]
  simp (disch := omega) only [kI_0, kI_1, kI_2, kI_3, kI_4, kI_5, kI_6, kI_7, kI_8, kI_9, kI_10, kI_12, kI_16, kI_17, kI_19, kI_20, kI_23, kI_24, kI_30, kI_32, kI_36, kI_48, kI_57, kI_59, kI_60, kI_72, kI_80, kI_84, kI_97, kI_98, kI_100, kI_122, kI_148, kI_200, kI_300, kI_1058, kI_1108, kI_1348, kI_1588, kI_5290, kI_7940, kI_100000, kI_e7, kI_e9, kL_0, kL_1, kL_5, kL_9, kL_10, kL_12, kL_23, kL_30, kL_48, kL_57, kL_59, kL_97, kL_100, kL_122, kL_1000, kL_e7, kL_e9, kL_e10, oI_lt, oI_le, oI_eq, oL_lt, oL_le, oL_eq, oI_L, oI_clamp, oI_inb, oL_nz, show (5 : Int).toNat = 5 from rfl, Zg h, oI_add, oI_sub, oI_mul, oI_neg, oL_add, oL_sub, oL_mul, oL_neg, oL_I]
  rw [isIn_f _ (by omega) (by omega) (by omega) (by omega) (by omega) (by omega) (by omega)]
  rfl
theorem int_ix' {a b : Int} (h : 0 ≤ a ∧ a ≤ b) : ∃ i : Nat, (i : Int) ≤ b ∧ a = i := ⟨a.toNat, by omega, by omega⟩
theorem int_ix2 {a b : Int} (h : 0 ≤ a ∧ a < b) : ∃ i : Nat, (i : Int) < b ∧ a = i := ⟨a.toNat, by omega, by omega⟩
end
theorem case2 : CaseOK fL_case2 := by
  intro n L A Z xs x4 hn hI hin
  obtain ⟨-, -, ⟨len, -, -, -, ht, -⟩, -⟩ := id hI
  refine ⟨A, wI Z 10 6 0 0 0, ?_, hI.wk (Fr.refl _) (frT _ _)⟩
  rw [fL_case2, fX9_errorPosition, bd_eq, fX10_errorPosition, ltb_eq, bd2_eq]
  exact if_pos ht
theorem case11 : CaseOK fL_case11 := by
  intro n L A Z xs x4 hn hI hin
  obtain ⟨⟨s, N, hS, hZ, hW⟩, hR⟩ := id hI
  obtain ⟨w1, w2, w3, w4, w5, w6, w7, w8⟩ := id hW
  obtain ⟨g0, g1, g2, g3, g4, g5, g6, g7, hN⟩ := id w1
  refine ⟨A, wI Z 10 6 0 0 0, ?_, hI.wk (Fr.refl _) (frT _ _)⟩
  rw [fL_case11, fX9_subscriberCount, bd_eq, fX10_subscriberCount, ltb_eq, bd2_eq]
  refine if_pos ?_
  rw [hS.cnt, show (wI Z 10 6 0 0 0).1 27 0 0 (Int32.toNatClampNeg 7) = oI (sG s 7) from hZ.g (k := 7) (by omega), g7]
theorem case14 : CaseOK fL_case14 := by
  intro n L A Z xs x4 hn hI hin
  obtain ⟨⟨s, N, hS, hZ, hW⟩, hR⟩ := id hI
  obtain ⟨w1, w2, w3, w4, w5, w6, w7, w8⟩ := id hW
  obtain ⟨g0, g1, g2, g3, g4, g5, g6, g7, hN⟩ := id w1
  refine ⟨A, wI Z 10 6 0 0 0, ?_, hI.wk (Fr.refl _) (frT _ _)⟩
  rw [fL_case14, fX9_freeShares, unheld hS hN, bd_eq, bd_eq, fX10_freeShares, ltb_eq, free (ZRt hZ) w1, bd_eq, bd2_eq]
  exact if_pos rfl
theorem case20 : CaseOK fL_case20 := by
  intro n L A Z xs x4 hn hI hin
  obtain ⟨⟨s, N, hS, hZ, hW⟩, hR⟩ := id hI
  obtain ⟨w1, w2, w3, w4, w5, w6, w7, w8⟩ := id hW
  obtain ⟨g0, g1, g2, g3, g4, g5, g6, g7, hN⟩ := id w1
  refine ⟨A, wI Z 10 6 0 0 0, ?_, hI.wk (Fr.refl _) (frT _ _)⟩
  rw [fL_case20, fX9_month, bd_eq, fX10_month, ltb_eq, bd2_eq]
  refine if_pos ?_
  rw [hS.mon, show (wI Z 10 6 0 0 0).1 27 0 0 (Int32.toNatClampNeg 5) = oI (sG s 5) from hZ.g (k := 5) (by omega)]
theorem case35 : CaseOK fL_case35 := by
  intro n L A Z xs x4 hn hI hin
  obtain ⟨⟨s, N, hS, hZ, hW⟩, hR⟩ := id hI
  obtain ⟨w1, w2, w3, w4, w5, w6, w7, w8⟩ := id hW
  obtain ⟨g0, g1, g2, g3, g4, g5, g6, g7, hN⟩ := id w1
  refine ⟨A, wI Z 10 6 0 0 0, ?_, hI.wk (Fr.refl _) (frT _ _)⟩
  rw [fL_case35, fX9_fund, bd_eq, fX10_fund, ltb_eq, bd2_eq]
  refine if_pos ?_
  rw [hS.fu, show (wI Z 10 6 0 0 0).2 30 0 0 (Int32.toNatClampNeg 0) = oL (sF s 0) from hZ.fo (k := 0) (by omega)]
theorem case36 : CaseOK fL_case36 := by
  intro n L A Z xs x4 hn hI hin
  obtain ⟨⟨s, N, hS, hZ, hW⟩, hR⟩ := id hI
  obtain ⟨w1, w2, w3, w4, w5, w6, w7, w8⟩ := id hW
  obtain ⟨g0, g1, g2, g3, g4, g5, g6, g7, hN⟩ := id w1
  refine ⟨A, wI Z 10 6 0 0 0, ?_, hI.wk (Fr.refl _) (frT _ _)⟩
  rw [fL_case36, fX9_operatorAccount, bd_eq, fX10_operatorAccount, ltb_eq, bd2_eq]
  refine if_pos ?_
  rw [hS.op, show (wI Z 10 6 0 0 0).2 30 0 0 (Int32.toNatClampNeg 1) = oL (sF s 1) from hZ.fo (k := 1) (by omega)]
theorem case4 : CaseOK fL_case4 := by
  intro n L A Z xs x4 hn hI hin
  obtain ⟨_, i1, i2, i3, i4, i5⟩ := hin
  rw [fL_case4]
  simp only [i1, i2, i3, i4, i5, gd_true]
  obtain ⟨⟨s, N, hS, hZ, hW⟩, hR⟩ := id hI
  obtain ⟨w1, w2, w3, w4, w5, w6, w7, w8⟩ := id hW
  obtain ⟨g0, g1, g2, g3, g4, g5, g6, g7, hN⟩ := id w1
  refine OKI.c ?_
  generalize xs (x4 + 1).toNatClampNeg = x
  obtain ⟨a, a1, a2, rfl⟩ := I_ex x
  by_cases ha : 0 ≤ a ∧ a < 24
  · obtain ⟨i, hi, rfl⟩ := int_ix (N := 24) ha
    refine OKI.v (v := oI (sH s i)) hI ?_ ?_ (thr_g Z _) (Fr.refl _) (frT Z _)
    · rw [fL_periodOf, fX9_periodOf, rqH_t _ hi]
      simp (disch := omega) only [gd_true, ltb_eq, bd_eq, bd2_eq, rq_none, rq_thr, xc_val, xc_thr, oI_lt, oI_le, oI_eq, oL_lt, oL_le, oL_eq, oI_L, oI_clamp, oI_inb, oL_nz, cl_nat, hS.hr hi]
      rfl
    · rw [fX10_periodOf]
      simp (disch := omega) only [kI_0, kI_1, kI_2, kI_3, kI_4, kI_5, kI_6, kI_7, kI_8, kI_9, kI_10, kI_12, kI_16, kI_17, kI_19, kI_20, kI_23, kI_24, kI_30, kI_32, kI_36, kI_48, kI_57, kI_59, kI_60, kI_72, kI_80, kI_84, kI_97, kI_98, kI_100, kI_122, kI_148, kI_200, kI_300, kI_1058, kI_1108, kI_1348, kI_1588, kI_5290, kI_7940, kI_100000, kI_e7, kI_e9, kL_0, kL_1, kL_5, kL_9, kL_10, kL_12, kL_23, kL_30, kL_48, kL_57, kL_59, kL_97, kL_100, kL_122, kL_1000, kL_e7, kL_e9, kL_e10, oI_lt, oI_le, oI_eq, oL_lt, oL_le, oL_eq, oI_L, oI_clamp, oI_inb, oL_nz]
      rw [isIn_t _ (by omega) (by omega) (by omega)]
      simp (disch := omega) only [gd_true, ltb_eq, bd_eq, bd2_eq, rq_none, rq_thr, xc_val, xc_thr, oI_lt, oI_le, oI_eq, oL_lt, oL_le, oL_eq, oI_L, oI_clamp, oI_inb, oL_nz, oI_add, oI_sub, oI_mul, oI_neg, oL_add, oL_sub, oL_mul, oL_neg, oL_I, wI_1, wI_2, wL_1, wL_2, fI_1, fI_2, fL_1, fL_2, eq_self, Nat.reduceEqDiff, Int.reduceLE, Int.reduceLT, Int.reduceEq, Int.reduceToNat, and_true, true_and, and_false, false_and, and_self, if_true, if_false, ite_true, ite_false, reduceCtorEq]
      rw [show Z.1 27 0 0 (8 + (i : Int)).toNat = oI (sH s i) from hZ.hr hi]
  · refine OKI.t (r := 1) (v := 0) hI ?_ ?_ (thr_g Z _) (by decide) (Fr.refl _) (frT Z _)
    · rw [fL_periodOf, fX9_periodOf, rqH_f _ a1 a2 ha]
      rfl
    · rw [fX10_periodOf]
      simp (disch := omega) only [kI_0, kI_1, kI_2, kI_3, kI_4, kI_5, kI_6, kI_7, kI_8, kI_9, kI_10, kI_12, kI_16, kI_17, kI_19, kI_20, kI_23, kI_24, kI_30, kI_32, kI_36, kI_48, kI_57, kI_59, kI_60, kI_72, kI_80, kI_84, kI_97, kI_98, kI_100, kI_122, kI_148, kI_200, kI_300, kI_1058, kI_1108, kI_1348, kI_1588, kI_5290, kI_7940, kI_100000, kI_e7, kI_e9, kL_0, kL_1, kL_5, kL_9, kL_10, kL_12, kL_23, kL_30, kL_48, kL_57, kL_59, kL_97, kL_100, kL_122, kL_1000, kL_e7, kL_e9, kL_e10, oI_lt, oI_le, oI_eq, oL_lt, oL_le, oL_eq, oI_L, oI_clamp, oI_inb, oL_nz]
      rw [isIn_f _ (by omega) (by omega) (by omega) (by omega) (by omega) (by omega) (by omega)]
      simp (disch := omega) only [gd_true, ltb_eq, bd_eq, bd2_eq, rq_none, rq_thr, xc_val, xc_thr, oI_lt, oI_le, oI_eq, oL_lt, oL_le, oL_eq, oI_L, oI_clamp, oI_inb, oL_nz, oI_add, oI_sub, oI_mul, oI_neg, oL_add, oL_sub, oL_mul, oL_neg, oL_I, wI_1, wI_2, wL_1, wL_2, fI_1, fI_2, fL_1, fL_2, eq_self, Nat.reduceEqDiff, Int.reduceLE, Int.reduceLT, Int.reduceEq, Int.reduceToNat, and_true, true_and, and_false, false_and, and_self, if_true, if_false, ite_true, ite_false, reduceCtorEq]
theorem case13 : CaseOK fL_case13 := by
  intro n L A Z xs x4 hn hI hin
  obtain ⟨_, i1, i2, i3, i4, i5⟩ := hin
  rw [fL_case13]
  simp only [i1, i2, i3, i4, i5, gd_true]
  obtain ⟨⟨s, N, hS, hZ, hW⟩, hR⟩ := id hI
  obtain ⟨w1, w2, w3, w4, w5, w6, w7, w8⟩ := id hW
  obtain ⟨g0, g1, g2, g3, g4, g5, g6, g7, hN⟩ := id w1
  refine OKI.c ?_
  generalize xs (x4 + 1).toNatClampNeg = x
  obtain ⟨a, a1, a2, rfl⟩ := I_ex x
  by_cases ha : 0 ≤ a ∧ a < N
  · obtain ⟨i, hi, rfl⟩ := int_ix ha
    refine OKI.v (v := oI (sB s i 4)) hI ?_ ?_ (thr_g Z _) (Fr.refl _) (frT Z _)
    · rw [fL_shares, fX9_shares, rqS_t hS hN hi]
      simp (disch := omega) only [gd_true, ltb_eq, bd_eq, bd2_eq, rq_none, rq_thr, xc_val, xc_thr, oI_lt, oI_le, oI_eq, oL_lt, oL_le, oL_eq, oI_L, oI_clamp, oI_inb, oL_nz, cl_nat, hS.sh hi]
      rfl
    · rw [fX10_shares, lacks_t hZ w1 hi]
      simp (disch := omega) only [gd_true, ltb_eq, bd_eq, bd2_eq, rq_none, rq_thr, xc_val, xc_thr, kI_0, kI_1, kI_2, kI_3, kI_4, kI_5, kI_6, kI_7, kI_8, kI_9, kI_10, kI_12, kI_16, kI_17, kI_19, kI_20, kI_23, kI_24, kI_30, kI_32, kI_36, kI_48, kI_57, kI_59, kI_60, kI_72, kI_80, kI_84, kI_97, kI_98, kI_100, kI_122, kI_148, kI_200, kI_300, kI_1058, kI_1108, kI_1348, kI_1588, kI_5290, kI_7940, kI_100000, kI_e7, kI_e9, kL_0, kL_1, kL_5, kL_9, kL_10, kL_12, kL_23, kL_30, kL_48, kL_57, kL_59, kL_97, kL_100, kL_122, kL_1000, kL_e7, kL_e9, kL_e10, eq_self, Nat.reduceEqDiff, Int.reduceLE, Int.reduceLT, Int.reduceEq, Int.reduceToNat, and_true, true_and, and_false, false_and, and_self, if_true, if_false, ite_true, ite_false, reduceCtorEq, ofM4 (ZRt hZ)]
  · refine OKI.t (r := 1) (v := 0) hI ?_ ?_ (thr_g Z _) (by decide) (Fr.refl _) (frT Z _)
    · rw [fL_shares, fX9_shares, rqS_f hS hN a1 a2 ha]
      rfl
    · rw [fX10_shares, lacks_f hZ w1 a1 a2 ha]
      rfl
theorem case30 : CaseOK fL_case30 := by
  intro n L A Z xs x4 hn hI hin
  obtain ⟨_, i1, i2, i3, i4, i5⟩ := hin
  rw [fL_case30]
  simp only [i1, i2, i3, i4, i5, gd_true]
  obtain ⟨⟨s, N, hS, hZ, hW⟩, hR⟩ := id hI
  obtain ⟨w1, w2, w3, w4, w5, w6, w7, w8⟩ := id hW
  obtain ⟨g0, g1, g2, g3, g4, g5, g6, g7, hN⟩ := id w1
  refine OKL.c ?_
  generalize xs (x4 + 1).toNatClampNeg = x
  obtain ⟨a, a1, a2, rfl⟩ := I_ex x
  by_cases ha : 0 ≤ a ∧ a < N
  · obtain ⟨i, hi, rfl⟩ := int_ix ha
    refine OKL.v (v := oL (bal s i)) hI ?_ ?_ (thr_g Z _) (Fr.refl _) (frT Z _)
    · rw [fL_balance, fX9_balance, rqS_t hS hN hi]
      simp (disch := omega) only [gd_true, ltb_eq, bd_eq, bd2_eq, rq_none, rq_thr, xc_val, xc_thr, oI_lt, oI_le, oI_eq, oL_lt, oL_le, oL_eq, oI_L, oI_clamp, oI_inb, oL_nz, cl_nat, lotSumS hS hi]
      rfl
    · rw [fX10_balance, lacks_t hZ w1 hi]
      simp (disch := omega) only [gd_true, ltb_eq, bd_eq, bd2_eq, rq_none, rq_thr, xc_val, xc_thr, kI_0, kI_1, kI_2, kI_3, kI_4, kI_5, kI_6, kI_7, kI_8, kI_9, kI_10, kI_12, kI_16, kI_17, kI_19, kI_20, kI_23, kI_24, kI_30, kI_32, kI_36, kI_48, kI_57, kI_59, kI_60, kI_72, kI_80, kI_84, kI_97, kI_98, kI_100, kI_122, kI_148, kI_200, kI_300, kI_1058, kI_1108, kI_1348, kI_1588, kI_5290, kI_7940, kI_100000, kI_e7, kI_e9, kL_0, kL_1, kL_5, kL_9, kL_10, kL_12, kL_23, kL_30, kL_48, kL_57, kL_59, kL_97, kL_100, kL_122, kL_1000, kL_e7, kL_e9, kL_e10, eq_self, Nat.reduceEqDiff, Int.reduceLE, Int.reduceLT, Int.reduceEq, Int.reduceToNat, and_true, true_and, and_false, false_and, and_self, if_true, if_false, ite_true, ite_false, reduceCtorEq, balOf (ZRt hZ)]
  · refine OKL.t (r := 1) (v := 0) hI ?_ ?_ (thr_g Z _) (by decide) (Fr.refl _) (frT Z _)
    · rw [fL_balance, fX9_balance, rqS_f hS hN a1 a2 ha]
      rfl
    · rw [fX10_balance, lacks_f hZ w1 a1 a2 ha]
      rfl
