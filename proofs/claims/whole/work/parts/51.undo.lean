/-! Undo. -/
def p2730 (c _ _ : Nat) : Bool := c == 27 || c == 30
section
variable {A Z : sM} {s : sS} {N n : Nat}
theorem uz1_L {Z0 : sM} {K : Nat} (hK : K ≤ 5) (hk : Z0.1 10 5 0 0 = oI K) (kk : sM → Option (Int32 × sM)) : ∀ (fuel i : Nat) (Z : sM), i ≤ 1588 → 1588 - i < fuel → Fr p2730 Z0 Z → (∀ c k j, Z.2 c k 0 j = Z0.2 c k 0 j) → (∀ x, x < i → Z.1 27 0 0 x = Z0.1 29 0 0 (1588 * K + x)) →
    ∃ Z', Fr p2730 Z0 Z' ∧ (∀ c k j, Z'.2 c k 0 j = Z0.2 c k 0 j) ∧ (∀ x, x < 1588 → Z'.1 27 0 0 x = Z0.1 29 0 0 (1588 * K + x)) ∧ fX10_undo_L37 kk fuel (oI i) Z = kk Z' := by
  intro fuel
  induction fuel with
  | zero => intro i Z _ h; omega
  | succ fuel ih =>
    intro i Z hi hfu hF h2 h9
    have ek : Z.1 10 5 0 0 = oI K := by rw [hF.i rfl]; exact hk
    rw [fX10_undo_L37]
    by_cases e : i = 1588
    · refine ⟨Z, hF, h2, fun x hx => h9 x (by omega), ?_⟩
      rw [if_pos (by simp (disch := omega) only [kI_0, kI_1, kI_2, kI_3, kI_4, kI_5, kI_6, kI_7, kI_8, kI_9, kI_10, kI_12, kI_16, kI_17, kI_19, kI_20, kI_23, kI_24, kI_30, kI_32, kI_36, kI_48, kI_57, kI_59, kI_60, kI_72, kI_80, kI_84, kI_97, kI_98, kI_100, kI_122, kI_148, kI_200, kI_300, kI_1058, kI_1108, kI_1348, kI_1588, kI_5290, kI_7940, kI_100000, kI_e7, kI_e9, kL_0, kL_1, kL_5, kL_9, kL_10, kL_12, kL_23, kL_30, kL_48, kL_57, kL_59, kL_97, kL_100, kL_122, kL_1000, kL_e7, kL_e9, kL_e10, oI_lt, oI_le, oI_eq, oL_lt, oL_le, oL_eq, oI_L, oI_clamp, oI_inb, oL_nz]; omega)]
    · obtain ⟨Z', q1, q2, q3, q4⟩ := ih (i + 1) (wI Z 27 0 0 i (Z.1 29 0 0 (1588 * K + i))) (by omega) (by omega) (hF.wI rfl) (fun c k j => h2 c k j) (fun x hx => by
        rw [wI_1]
        by_cases ex : x = i
        · rw [if_pos ⟨rfl, rfl, rfl, ex⟩, hF.i rfl, ex]
        · rw [if_neg (by omega)]; exact h9 x (by omega))
      refine ⟨Z', q1, q2, q3, ?_⟩
      rw [if_neg (by simp (disch := omega) only [kI_0, kI_1, kI_2, kI_3, kI_4, kI_5, kI_6, kI_7, kI_8, kI_9, kI_10, kI_12, kI_16, kI_17, kI_19, kI_20, kI_23, kI_24, kI_30, kI_32, kI_36, kI_48, kI_57, kI_59, kI_60, kI_72, kI_80, kI_84, kI_97, kI_98, kI_100, kI_122, kI_148, kI_200, kI_300, kI_1058, kI_1108, kI_1348, kI_1588, kI_5290, kI_7940, kI_100000, kI_e7, kI_e9, kL_0, kL_1, kL_5, kL_9, kL_10, kL_12, kL_23, kL_30, kL_48, kL_57, kL_59, kL_97, kL_100, kL_122, kL_1000, kL_e7, kL_e9, kL_e10, oI_lt, oI_le, oI_eq, oL_lt, oL_le, oL_eq, oI_L, oI_clamp, oI_inb, oL_nz]; omega), ek]
      simp (disch := omega) only [kI_0, kI_1, kI_2, kI_3, kI_4, kI_5, kI_6, kI_7, kI_8, kI_9, kI_10, kI_12, kI_16, kI_17, kI_19, kI_20, kI_23, kI_24, kI_30, kI_32, kI_36, kI_48, kI_57, kI_59, kI_60, kI_72, kI_80, kI_84, kI_97, kI_98, kI_100, kI_122, kI_148, kI_200, kI_300, kI_1058, kI_1108, kI_1348, kI_1588, kI_5290, kI_7940, kI_100000, kI_e7, kI_e9, kL_0, kL_1, kL_5, kL_9, kL_10, kL_12, kL_23, kL_30, kL_48, kL_57, kL_59, kL_97, kL_100, kL_122, kL_1000, kL_e7, kL_e9, kL_e10, oI_lt, oI_le, oI_eq, oL_lt, oL_le, oL_eq, oI_L, oI_clamp, oI_inb, oL_nz, gd_true, ltb_eq, bd_eq, bd2_eq, rq_none, rq_thr, xc_val, xc_thr, oI_add, oI_sub, oI_mul, oI_neg, oL_add, oL_sub, oL_mul, oL_neg, oL_I, cl_nat, nat1]
      rw [show (1588 * (K : Int) + (i : Int)).toNat = 1588 * K + i by omega]
      exact q4
theorem uz2_L {Z0 : sM} {K : Nat} (hK : K ≤ 5) (hk : Z0.1 10 5 0 0 = oI K) (kk : sM → Option (Int32 × sM)) : ∀ (fuel i : Nat) (Z : sM), i ≤ 1058 → 1058 - i < fuel → Fr p2730 Z0 Z → (∀ c k j, Z.1 c k 0 j = Z0.1 c k 0 j) → (∀ x, x < i → Z.2 30 0 0 x = Z0.2 31 0 0 (1058 * K + x)) →
    ∃ Z', Fr p2730 Z0 Z' ∧ (∀ c k j, Z'.1 c k 0 j = Z0.1 c k 0 j) ∧ (∀ x, x < 1058 → Z'.2 30 0 0 x = Z0.2 31 0 0 (1058 * K + x)) ∧ fX10_undo_L73 kk fuel (oI i) Z = kk Z' := by
  intro fuel
  induction fuel with
  | zero => intro i Z _ h; omega
  | succ fuel ih =>
    intro i Z hi hfu hF h2 h9
    have ek : Z.1 10 5 0 0 = oI K := by rw [hF.i rfl]; exact hk
    rw [fX10_undo_L73]
    by_cases e : i = 1058
    · refine ⟨Z, hF, h2, fun x hx => h9 x (by omega), ?_⟩
      rw [if_pos (by simp (disch := omega) only [kI_0, kI_1, kI_2, kI_3, kI_4, kI_5, kI_6, kI_7, kI_8, kI_9, kI_10, kI_12, kI_16, kI_17, kI_19, kI_20, kI_23, kI_24, kI_30, kI_32, kI_36, kI_48, kI_57, kI_59, kI_60, kI_72, kI_80, kI_84, kI_97, kI_98, kI_100, kI_122, kI_148, kI_200, kI_300, kI_1058, kI_1108, kI_1348, kI_1588, kI_5290, kI_7940, kI_100000, kI_e7, kI_e9, kL_0, kL_1, kL_5, kL_9, kL_10, kL_12, kL_23, kL_30, kL_48, kL_57, kL_59, kL_97, kL_100, kL_122, kL_1000, kL_e7, kL_e9, kL_e10, oI_lt, oI_le, oI_eq, oL_lt, oL_le, oL_eq, oI_L, oI_clamp, oI_inb, oL_nz]; omega)]
    · obtain ⟨Z', q1, q2, q3, q4⟩ := ih (i + 1) (wL Z 30 0 0 i (Z.2 31 0 0 (1058 * K + i))) (by omega) (by omega) (hF.wL rfl) (fun c k j => h2 c k j) (fun x hx => by
        rw [wL_2]
        by_cases ex : x = i
        · rw [if_pos ⟨rfl, rfl, rfl, ex⟩, hF.l rfl, ex]
        · rw [if_neg (by omega)]; exact h9 x (by omega))
      refine ⟨Z', q1, q2, q3, ?_⟩
      rw [if_neg (by simp (disch := omega) only [kI_0, kI_1, kI_2, kI_3, kI_4, kI_5, kI_6, kI_7, kI_8, kI_9, kI_10, kI_12, kI_16, kI_17, kI_19, kI_20, kI_23, kI_24, kI_30, kI_32, kI_36, kI_48, kI_57, kI_59, kI_60, kI_72, kI_80, kI_84, kI_97, kI_98, kI_100, kI_122, kI_148, kI_200, kI_300, kI_1058, kI_1108, kI_1348, kI_1588, kI_5290, kI_7940, kI_100000, kI_e7, kI_e9, kL_0, kL_1, kL_5, kL_9, kL_10, kL_12, kL_23, kL_30, kL_48, kL_57, kL_59, kL_97, kL_100, kL_122, kL_1000, kL_e7, kL_e9, kL_e10, oI_lt, oI_le, oI_eq, oL_lt, oL_le, oL_eq, oI_L, oI_clamp, oI_inb, oL_nz]; omega), ek]
      simp (disch := omega) only [kI_0, kI_1, kI_2, kI_3, kI_4, kI_5, kI_6, kI_7, kI_8, kI_9, kI_10, kI_12, kI_16, kI_17, kI_19, kI_20, kI_23, kI_24, kI_30, kI_32, kI_36, kI_48, kI_57, kI_59, kI_60, kI_72, kI_80, kI_84, kI_97, kI_98, kI_100, kI_122, kI_148, kI_200, kI_300, kI_1058, kI_1108, kI_1348, kI_1588, kI_5290, kI_7940, kI_100000, kI_e7, kI_e9, kL_0, kL_1, kL_5, kL_9, kL_10, kL_12, kL_23, kL_30, kL_48, kL_57, kL_59, kL_97, kL_100, kL_122, kL_1000, kL_e7, kL_e9, kL_e10, oI_lt, oI_le, oI_eq, oL_lt, oL_le, oL_eq, oI_L, oI_clamp, oI_inb, oL_nz, gd_true, ltb_eq, bd_eq, bd2_eq, rq_none, rq_thr, xc_val, xc_thr, oI_add, oI_sub, oI_mul, oI_neg, oL_add, oL_sub, oL_mul, oL_neg, oL_I, cl_nat, nat1]
      rw [show (1058 * (K : Int) + (i : Int)).toNat = 1058 * K + i by omega]
      exact q4
end
theorem udo {n : Nat} {A Z : sM} (hI : Inv n A Z) : OKI n (fL_undo A) (fX10_undo Z) := by
  obtain ⟨⟨s, N, hS, hZ, hW⟩, ⟨K, p, t, Nt, ⟨h1, h2, h3, h4, h5⟩, h6⟩, ⟨len, t1, t2, t3, t4, t5⟩, dl, d1, d2, d3, d4⟩ := id hI
  by_cases e : K = 0
  · refine OKI.t (r := 1) (v := 0) hI ?_ ?_ (thr_g Z _) (by decide) (Fr.refl _) (frT Z _)
    · rw [fL_undo, fX9_undo, h4, if_neg (by simp (disch := omega) only [kI_0, kI_1, kI_2, kI_3, kI_4, kI_5, kI_6, kI_7, kI_8, kI_9, kI_10, kI_12, kI_16, kI_17, kI_19, kI_20, kI_23, kI_24, kI_30, kI_32, kI_36, kI_48, kI_57, kI_59, kI_60, kI_72, kI_80, kI_84, kI_97, kI_98, kI_100, kI_122, kI_148, kI_200, kI_300, kI_1058, kI_1108, kI_1348, kI_1588, kI_5290, kI_7940, kI_100000, kI_e7, kI_e9, kL_0, kL_1, kL_5, kL_9, kL_10, kL_12, kL_23, kL_30, kL_48, kL_57, kL_59, kL_97, kL_100, kL_122, kL_1000, kL_e7, kL_e9, kL_e10, oI_lt, oI_le, oI_eq, oL_lt, oL_le, oL_eq, oI_L, oI_clamp, oI_inb, oL_nz]; omega)]
      rfl
    · rw [fX10_undo, h5]
      simp (disch := omega) only [kI_0, kI_1, kI_2, kI_3, kI_4, kI_5, kI_6, kI_7, kI_8, kI_9, kI_10, kI_12, kI_16, kI_17, kI_19, kI_20, kI_23, kI_24, kI_30, kI_32, kI_36, kI_48, kI_57, kI_59, kI_60, kI_72, kI_80, kI_84, kI_97, kI_98, kI_100, kI_122, kI_148, kI_200, kI_300, kI_1058, kI_1108, kI_1348, kI_1588, kI_5290, kI_7940, kI_100000, kI_e7, kI_e9, kL_0, kL_1, kL_5, kL_9, kL_10, kL_12, kL_23, kL_30, kL_48, kL_57, kL_59, kL_97, kL_100, kL_122, kL_1000, kL_e7, kL_e9, kL_e10, oI_lt, oI_le, oI_eq, oL_lt, oL_le, oL_eq, oI_L, oI_clamp, oI_inb, oL_nz, gd_true, ltb_eq, bd_eq, bd2_eq, rq_none, rq_thr, xc_val, xc_thr, wI_1, wI_2, wL_1, wL_2, fI_1, fI_2, fL_1, fL_2, eq_self, Nat.reduceEqDiff, Int.reduceLE, Int.reduceLT, Int.reduceEq, Int.reduceToNat, and_true, true_and, and_false, false_and, and_self, if_true, if_false, ite_true, ite_false, reduceCtorEq]
      rw [if_pos (by omega)]
  · obtain ⟨f1, f2, f3, f4⟩ := h6 (K - 1) (by omega)
    have hsl : slot p K (K - 1) = (p + 5) % 6 := by rw [slot]; omega
    have hNt : Nt (K - 1) ≤ 16 := f4.1.2.2.2.2.2.2.2.2
    rw [hsl] at f1 f2
    -- the system
    obtain ⟨A2, hA2⟩ : ∃ A2, A2 = wI (wI A 6 1 0 0 (oI ((p + 5) % 6 : Nat))) 6 2 0 0 (oI (K - 1 : Nat)) := ⟨_, rfl⟩
    have hF2 : Fr (fun c _ _ => c == 6) A A2 := by rw [hA2]; exact ((Fr.refl _).wI rfl).wI rfl
    have f2' : SR A2 ((p + 5) % 6 + 1) (t (K - 1)) (Nt (K - 1)) := f2.keep hF2 hNt (fun c k hc => by rcases hc with rfl | rfl | rfl | rfl | rfl | rfl <;> rfl) (fun c k i hc hi => by rcases hc with rfl | rfl | rfl | rfl <;> rfl)
    obtain ⟨A3, q1, q2, q3⟩ := cpB (o := 0) (o1 := (p + 5) % 6 + 1) (by omega) f2' hNt f4.1.2.2.2.2.1.2
    have r1 : oI p + 6 - 1 - (oI p + 6 - 1) / 6 * 6 = oI ((p + 5) % 6 : Nat) := by
      simp (disch := omega) only [kI_0, kI_1, kI_2, kI_3, kI_4, kI_5, kI_6, kI_7, kI_8, kI_9, kI_10, kI_12, kI_16, kI_17, kI_19, kI_20, kI_23, kI_24, kI_30, kI_32, kI_36, kI_48, kI_57, kI_59, kI_60, kI_72, kI_80, kI_84, kI_97, kI_98, kI_100, kI_122, kI_148, kI_200, kI_300, kI_1058, kI_1108, kI_1348, kI_1588, kI_5290, kI_7940, kI_100000, kI_e7, kI_e9, kL_0, kL_1, kL_5, kL_9, kL_10, kL_12, kL_23, kL_30, kL_48, kL_57, kL_59, kL_97, kL_100, kL_122, kL_1000, kL_e7, kL_e9, kL_e10, oI_add, oI_sub, oI_mul, oI_neg, oL_add, oL_sub, oL_mul, oL_neg, oL_I, oI_div]
      rw [rem_eq, show ((p : Int) + 6 - 1) = ((p + 5 : Nat) : Int) by omega]; rfl
    have r2 : (if oI K - 1 < (0 : Int32) then (0 : Int32) else oI K - 1) = oI (K - 1 : Nat) := by
      simp (disch := omega) only [kI_0, kI_1, kI_2, kI_3, kI_4, kI_5, kI_6, kI_7, kI_8, kI_9, kI_10, kI_12, kI_16, kI_17, kI_19, kI_20, kI_23, kI_24, kI_30, kI_32, kI_36, kI_48, kI_57, kI_59, kI_60, kI_72, kI_80, kI_84, kI_97, kI_98, kI_100, kI_122, kI_148, kI_200, kI_300, kI_1058, kI_1108, kI_1348, kI_1588, kI_5290, kI_7940, kI_100000, kI_e7, kI_e9, kL_0, kL_1, kL_5, kL_9, kL_10, kL_12, kL_23, kL_30, kL_48, kL_57, kL_59, kL_97, kL_100, kL_122, kL_1000, kL_e7, kL_e9, kL_e10, oI_add, oI_sub, oI_mul, oI_neg, oL_add, oL_sub, oL_mul, oL_neg, oL_I, oI_lt, oI_le, oI_eq, oL_lt, oL_le, oL_eq, oI_L, oI_clamp, oI_inb, oL_nz]
      rw [if_neg (by omega)]
      congr 1; omega
    have c3 : (wI A 6 1 0 0 (oI ((p + 5) % 6 : Nat))).1 6 2 0 0 = oI K := by rw [wI_1, if_neg (by omega)]; exact h4
    have c4 : A2.1 6 1 0 0 = oI ((p + 5) % 6 : Nat) := by rw [hA2, wI_1, if_neg (by omega), wI_1, if_pos ⟨rfl, rfl, rfl, rfl⟩]
    have c5 : A2.1 6 2 0 0 = oI (K - 1 : Nat) := by rw [hA2, wI_1, if_pos ⟨rfl, rfl, rfl, rfl⟩]
    have eA : fX9_undo A = some (.inr (oI (K - 1 : Nat)), A3) := by
      rw [fX9_undo, h4, if_pos (by simp (disch := omega) only [kI_0, kI_1, kI_2, kI_3, kI_4, kI_5, kI_6, kI_7, kI_8, kI_9, kI_10, kI_12, kI_16, kI_17, kI_19, kI_20, kI_23, kI_24, kI_30, kI_32, kI_36, kI_48, kI_57, kI_59, kI_60, kI_72, kI_80, kI_84, kI_97, kI_98, kI_100, kI_122, kI_148, kI_200, kI_300, kI_1058, kI_1108, kI_1348, kI_1588, kI_5290, kI_7940, kI_100000, kI_e7, kI_e9, kL_0, kL_1, kL_5, kL_9, kL_10, kL_12, kL_23, kL_30, kL_48, kL_57, kL_59, kL_97, kL_100, kL_122, kL_1000, kL_e7, kL_e9, kL_e10, oI_lt, oI_le, oI_eq, oL_lt, oL_le, oL_eq, oI_L, oI_clamp, oI_inb, oL_nz]; omega), fX6_restore, h3, ltb_eq, ltb_eq, r1, c3, r2, ← hA2, c4, oI_inb (by omega) (by omega) (by omega), gd_true, oI_clamp (by omega) (by omega), cl_nat, if_neg (by rw [hF2.i rfl]; exact f1), q3, bd_eq, q1.i rfl, c5]
    -- the reference
    have hT : ∀ v, (wI (wI Z 10 6 0 0 v) 10 5 0 0 (oI (K - 1 : Nat))).1 10 5 0 0 = oI (K - 1 : Nat) := fun v => by rw [wI_1, if_pos ⟨rfl, rfl, rfl, rfl⟩]
    obtain ⟨Z1, a1, a2, a3, a4⟩ := uz1_L (Z0 := wI (wI Z 10 6 0 0 (oI 0)) 10 5 0 0 (oI (K - 1 : Nat))) (K := K - 1) (by omega) (hT _) (fun (Z_5 : sM) =>
        fX10_undo_L73 (fun (Z_6 : sM) =>
          some (Z_6.1 10 5 0 0, Z_6)) 10000 (0 : Int32) Z_5) 10000 0 _ (by omega) (by omega) (Fr.refl _) (fun _ _ _ => rfl) (fun x hx => by omega)
    have hk1 : Z1.1 10 5 0 0 = oI (K - 1 : Nat) := by rw [a1.i rfl]; exact hT _
    obtain ⟨Z2, b1, b2, b3, b4⟩ := uz2_L (Z0 := Z1) (K := K - 1) (by omega) hk1 (fun (Z_6 : sM) => some (Z_6.1 10 5 0 0, Z_6)) 10000 0 Z1 (by omega) (by omega) (Fr.refl _) (fun _ _ _ => rfl) (fun x hx => by omega)
    have hFz : Fr p2730 (wI (wI Z 10 6 0 0 (oI 0)) 10 5 0 0 (oI (K - 1 : Nat))) Z2 := a1.trans b1
    have hk2 : Z2.1 10 5 0 0 = oI (K - 1 : Nat) := by rw [hFz.i rfl]; exact hT _
    have eZ : fX10_undo Z = some (oI (K - 1 : Nat), Z2) := by
      rw [fX10_undo, h5]
      simp (disch := omega) only [kI_0, kI_1, kI_2, kI_3, kI_4, kI_5, kI_6, kI_7, kI_8, kI_9, kI_10, kI_12, kI_16, kI_17, kI_19, kI_20, kI_23, kI_24, kI_30, kI_32, kI_36, kI_48, kI_57, kI_59, kI_60, kI_72, kI_80, kI_84, kI_97, kI_98, kI_100, kI_122, kI_148, kI_200, kI_300, kI_1058, kI_1108, kI_1348, kI_1588, kI_5290, kI_7940, kI_100000, kI_e7, kI_e9, kL_0, kL_1, kL_5, kL_9, kL_10, kL_12, kL_23, kL_30, kL_48, kL_57, kL_59, kL_97, kL_100, kL_122, kL_1000, kL_e7, kL_e9, kL_e10, oI_lt, oI_le, oI_eq, oL_lt, oL_le, oL_eq, oI_L, oI_clamp, oI_inb, oL_nz, gd_true, ltb_eq, bd_eq, bd2_eq, rq_none, rq_thr, xc_val, xc_thr, oI_add, oI_sub, oI_mul, oI_neg, oL_add, oL_sub, oL_mul, oL_neg, oL_I, wI_1, wI_2, wL_1, wL_2, fI_1, fI_2, fL_1, fL_2, eq_self, Nat.reduceEqDiff, Int.reduceLE, Int.reduceLT, Int.reduceEq, Int.reduceToNat, and_true, true_and, and_false, false_and, and_self, if_true, if_false, ite_true, ite_false, reduceCtorEq] at a4 b4 ⊢
      rw [if_neg (by omega), h5, oI_sub, show ((K : Int) - 1) = ((K - 1 : Nat) : Int) by omega]
      rw [show oI 0 = oI (0 : Nat) from rfl] at a4 ⊢
      rw [a4, b4, hk2]
    have z27 : ∀ c k j, (c = 29 ∨ c = 32 ∨ c = 40 ∨ (c = 10 ∧ ¬ k = 5 ∧ ¬ k = 6)) → Z2.1 c k 0 j = Z.1 c k 0 j := fun c k j hc => by
      rw [hFz.i (by rcases hc with rfl | rfl | rfl | ⟨rfl, -⟩ <;> rfl), wI_1, if_neg (by omega), wI_1, if_neg (by omega)]
    have z31 : ∀ j, Z2.2 31 0 0 j = Z.2 31 0 0 j := fun j => by rw [hFz.l rfl]; rfl
    have aF : ∀ c k o, ¬ c = 6 → pBk 0 c k o = false → ∀ j, A3.1 c k o j = A.1 c k o j ∧ A3.2 c k o j = A.2 c k o j := fun c k o hc hp j => by
      have h9 : (fun (c _ _ : Nat) => c == 6) c k o = false := by simpa using hc
      exact ⟨by rw [q1.i hp, hF2.i h9], by rw [q1.l hp, hF2.l h9]⟩
    refine ⟨wL A3 41 0 0 0 (oI (K - 1 : Nat)).toInt64, Z2, 0, oI (K - 1 : Nat), by rw [fL_undo, eA]; rfl, eZ, by rw [hFz.i rfl]; rfl, fun _ => rfl, ?_⟩
    have hF41 : Fr (fun c _ _ => c == 41) A3 (wL A3 41 0 0 0 (oI (K - 1 : Nat)).toInt64) := (Fr.refl _).wL rfl
    refine ⟨⟨t (K - 1), Nt (K - 1), q2.keep hF41 hNt (fun c k hc => by rcases hc with rfl | rfl | rfl | rfl | rfl | rfl <;> rfl) (fun c k i hc hi => by rcases hc with rfl | rfl | rfl | rfl <;> rfl), f3.sub (fun k hk => ?_) (fun k hk => ?_), f4.mono (by omega)⟩, ⟨K - 1, (p + 5) % 6, t, Nt, ⟨by omega, by omega, ?_, ?_, hk2⟩, fun j hj => ?_⟩, ⟨len, t1, ?_, ?_, ?_, fun k hk => ?_⟩, dl, d1, ?_, ?_, fun k hk => ?_⟩
    · show Z2.1 27 0 0 k = _
      rw [b2, a3 k hk, wI_1, if_neg (by omega), wI_1, if_neg (by omega)]
    · show Z2.2 30 0 0 k = _
      rw [b3 k hk, a2]; rfl
    · rw [hF41.i rfl, q1.i rfl]; exact c4
    · rw [hF41.i rfl, q1.i rfl]; exact c5
    · have hs2 : slot ((p + 5) % 6) (K - 1) j = slot p K j := by rw [slot, slot]; omega
      obtain ⟨k1, k2, k3, k4⟩ := h6 j (by omega)
      have hno := pBk_no (b := 0) (b' := slot p K j + 1) (by omega)
      have hsr : SR A2 (slot p K j + 1) (t j) (Nt j) := k2.keep hF2 k4.1.2.2.2.2.2.2.2.2 (fun c k hc => by rcases hc with rfl | rfl | rfl | rfl | rfl | rfl <;> rfl) (fun c k i hc hi => by rcases hc with rfl | rfl | rfl | rfl <;> rfl)
      have hsr3 : SR A3 (slot p K j + 1) (t j) (Nt j) := hsr.keep q1 k4.1.2.2.2.2.2.2.2.2 hno.1 hno.2
      rw [hs2]
      refine ⟨by rw [hF41.i rfl, (aF 21 0 0 (by omega) rfl _).1]; exact k1, hsr3.keep hF41 k4.1.2.2.2.2.2.2.2.2 (fun c k hc => by rcases hc with rfl | rfl | rfl | rfl | rfl | rfl <;> rfl) (fun c k i hc hi => by rcases hc with rfl | rfl | rfl | rfl <;> rfl), k3.keep (fun k => z27 29 0 _ (by omega)) (fun k => z31 _), k4.mono (by omega)⟩
    · rw [hF41.i rfl, (aF 5 1 0 (by omega) rfl _).1]; exact t2
    · rw [z27 10 8 0 (by omega)]; exact t3
    · rw [hF41.i rfl, (aF 9 7 0 (by omega) rfl _).1, z27 10 15 0 (by omega)]; exact t4
    · rw [hF41.i rfl, (aF 20 0 0 (by omega) rfl _).1, z27 32 0 k (by omega)]; exact t5 k hk
    · rw [hF41.i rfl, (aF 2 1 0 (by omega) rfl _).1]; exact d2
    · rw [z27 10 25 0 (by omega)]; exact d3
    · rw [hF41.i rfl, (aF 14 0 0 (by omega) rfl _).1, z27 40 0 k (by omega)]; exact d4 k hk
theorem case42 : CaseOK fL_case42 := by
  intro n L A Z xs x4 hn hI hin
  rw [fL_case42]
  exact OKI.c (udo hI)
