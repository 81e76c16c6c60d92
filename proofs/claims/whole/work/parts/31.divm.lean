/-! The rows of a division, on both sides. -/
def pW (c _ _ : Nat) : Bool := c == 15 || c == 3
def pD (c _ _ : Nat) : Bool := c == 16 || c == 17
def pWz (c _ _ : Nat) : Bool := c == 33
def pDz (c _ _ : Nat) : Bool := c == 34 || c == 35 || c == 36
theorem pW_wk {A A' : sM} (h : Fr pW A A') : Fr wkA A A' := h.mono fun c k o hq => by
  simp only [wkA, pW, Bool.or_eq_false_iff] at hq ⊢; simp only [hq, and_self]
theorem pD_wk {A A' : sM} (h : Fr pD A A') : Fr wkA A A' := h.mono fun c k o hq => by
  simp only [wkA, pD, Bool.or_eq_false_iff] at hq ⊢; simp only [hq, and_self]
theorem pWz_wk {A A' : sM} (h : Fr pWz A A') : Fr wkZ A A' := h.mono fun c k o hq => by
  simp only [wkZ, pWz] at hq ⊢
  by_cases e : c = 33
  · subst e; simp at hq
  · simpa using e
theorem pDz_wk {A A' : sM} (h : Fr pDz A A') : Fr wkZ A A' := h.mono fun c k o hq => by
  simp only [wkZ, pDz] at hq ⊢
  by_cases e : c = 34
  · subst e; simp at hq
  · by_cases e2 : c = 35
    · subst e2; simp at hq
    · by_cases e3 : c = 36
      · subst e3; simp at hq
      · simp [e, e2, e3]
/-- a member's weight: share-days of the month a (none: a < 0), and d days of its shares -/
def wv (s : sS) (a d : Int) (i : Nat) : Int := sB s i 4 * d + (if 0 ≤ a then sD s a.toNat i else 0)
section
variable {A Z : sM} {s : sS} {N n b : Nat}
theorem wsub_L {A0 : sM} (h0 : SR A0 0 s N) (h1 : W1 s N) (h3 : W3 s N) (h5 : W5 s N) {a d : Int} (ha : -1 ≤ a ∧ a < 60) (hd : 0 ≤ d ∧ d ≤ 30) (hdb : ∀ i, i < N → sB s i 4 < 2147483648 ∧ ∀ m, m < 60 → sD s m i < 2147483648) (k : Int64 → sM → Option (Int64 × sM)) :
    ∀ (fuel i : Nat) (acc : Int) (A : sM), i ≤ N → N - i < fuel → Fr pW A0 A → (∀ j, j < 17 → A.2 15 0 0 j = oL (if j < i then wv s a d j else 0)) →
    ∃ A', Fr pW A0 A' ∧ (∀ j, j < 17 → A'.2 15 0 0 j = oL (if j < N then wv s a d j else 0)) ∧ fX3_weighSubscribers_L14 0 (oI a) (oI d) k fuel (oL acc) (oI i) A = k (oL (acc + (sumN (wv s a d) N - sumN (wv s a d) i))) A' := by
  have hN := h1.2.2.2.2.2.2.2.2
  intro fuel
  induction fuel with
  | zero => intro i acc A _ h; omega
  | succ fuel ih =>
    intro i acc A hi hf hF hw
    have hS : SR A 0 s N := h0.wk (pW_wk hF) hN (by omega)
    by_cases e : i = N
    · refine ⟨A, hF, fun j hj => by rw [hw j hj, e], ?_⟩
      rw [fX3_weighSubscribers_L14, hS.cnt, if_pos (by simp (disch := omega) only [oI_lt, oI_le, oI_eq, oL_lt, oL_le, oL_eq, oI_L, oI_clamp, oI_inb, oL_nz]; omega), e]
      exact congrArg (fun x => k (oL x) A) (by omega)
    · have hi2 : i < N := by omega
      have b1 := h3.2.1 i (by omega)
      have b2 := hdb i hi2
      have hstep : fX3_weighSubscribers_L14 0 (oI a) (oI d) k (fuel + 1) (oL acc) (oI i) A = fX3_weighSubscribers_L14 0 (oI a) (oI d) k fuel (oL (acc + wv s a d i)) (oI (i + 1 : Nat)) (wL A 15 0 0 i (oL (wv s a d i))) := by
        rw [fX3_weighSubscribers_L14, hS.cnt, if_neg (by simp (disch := omega) only [oI_lt, oI_le, oI_eq, oL_lt, oL_le, oL_eq, oI_L, oI_clamp, oI_inb, oL_nz]; omega)]
        by_cases e2 : a < 0
        · simp (disch := omega) only [kI_0, kI_1, kI_2, kI_3, kI_4, kI_5, kI_6, kI_7, kI_8, kI_9, kI_10, kI_12, kI_16, kI_17, kI_19, kI_20, kI_23, kI_24, kI_30, kI_32, kI_36, kI_48, kI_57, kI_59, kI_60, kI_72, kI_80, kI_84, kI_97, kI_98, kI_100, kI_122, kI_148, kI_200, kI_300, kI_1058, kI_1108, kI_1348, kI_1588, kI_5290, kI_7940, kI_100000, kI_e7, kI_e9, kL_0, kL_1, kL_5, kL_9, kL_10, kL_12, kL_23, kL_30, kL_48, kL_57, kL_59, kL_97, kL_100, kL_122, kL_1000, kL_e7, kL_e9, kL_e10, oI_lt, oI_le, oI_eq, oL_lt, oL_le, oL_eq, oI_L, oI_clamp, oI_inb, oL_nz, gd_true, ltb_eq, bd_eq, bd2_eq, rq_none, rq_thr, xc_val, xc_thr, oI_add, oI_sub, oI_mul, oI_neg, oL_add, oL_sub, oL_mul, oL_neg, oL_I, cl_nat, nat1, hS.sh hi2]
          rw [if_pos e2, show wv s a d i = sB s i 4 * d by rw [wv, if_neg (by omega)]; omega]
        · have b3 := h5.1 a.toNat i (by omega) (by omega)
          have b4 := b2.2 a.toNat (by omega)
          simp (disch := omega) only [kI_0, kI_1, kI_2, kI_3, kI_4, kI_5, kI_6, kI_7, kI_8, kI_9, kI_10, kI_12, kI_16, kI_17, kI_19, kI_20, kI_23, kI_24, kI_30, kI_32, kI_36, kI_48, kI_57, kI_59, kI_60, kI_72, kI_80, kI_84, kI_97, kI_98, kI_100, kI_122, kI_148, kI_200, kI_300, kI_1058, kI_1108, kI_1348, kI_1588, kI_5290, kI_7940, kI_100000, kI_e7, kI_e9, kL_0, kL_1, kL_5, kL_9, kL_10, kL_12, kL_23, kL_30, kL_48, kL_57, kL_59, kL_97, kL_100, kL_122, kL_1000, kL_e7, kL_e9, kL_e10, oI_lt, oI_le, oI_eq, oL_lt, oL_le, oL_eq, oI_L, oI_clamp, oI_inb, oL_nz, gd_true, ltb_eq, bd_eq, bd2_eq, rq_none, rq_thr, xc_val, xc_thr, oI_add, oI_sub, oI_mul, oI_neg, oL_add, oL_sub, oL_mul, oL_neg, oL_I, cl_nat, nat1, hS.sh hi2, hS.dy hi2 (show a.toNat < 60 by omega)]
          rw [if_neg e2, if_neg (by omega), show wv s a d i = sB s i 4 * d + sD s a.toNat i by rw [wv, if_pos (by omega)]]
      obtain ⟨A', q1, q2, q3⟩ := ih (i + 1) (acc + wv s a d i) (wL A 15 0 0 i (oL (wv s a d i))) (by omega) (by omega) (hF.wL rfl) (fun j hj => by
        rw [wL_2]
        by_cases ej : j = i
        · subst ej; simp
        · rw [if_neg (by omega), hw j hj]
          by_cases e3 : j < i
          · rw [if_pos e3, if_pos (by omega)]
          · rw [if_neg e3, if_neg (by omega)])
      refine ⟨A', q1, q2, ?_⟩
      rw [hstep, q3, sumN_s _ i]
      exact congrArg (fun x => k (oL x) A') (by omega)
theorem sub_ix {i : Nat} (h3 : W3 s N) (h1 : W1 s N) (h5 : W5 s N) (hi : i < N) : sB s i 4 ≤ 100000 ∧ ∀ m, m < 60 → sD s m i ≤ 3000000 := by
  obtain ⟨g0, _, _, _, _, g5, g6, _, hN⟩ := h1
  have h4 := sumN_mem (f := fun i => sB s i 4) hi (fun j hj => h3.2.1 j (by omega))
  refine ⟨by have := h3.2.2.2.2.2; omega, fun m hm => ?_⟩
  have h6 := sumN_mem (f := fun i => sD s m i) hi (fun j hj => h5.1 m j hm (by omega))
  have h7 : sG s 6 * sG s 0 ≤ 30 * sG s 0 := Int.mul_le_mul_of_nonneg_right g6.2 (by omega)
  by_cases c1 : (m : Int) < sG s 5
  · have := h5.2.2.2.1 m c1; omega
  · by_cases c2 : (m : Int) = sG s 5
    · have := h5.2.2.2.2 m c2; omega
    · have := h5.2.2.1 m i hm (by omega) (by omega); omega
theorem wsub (h0 : SR A 0 s N) (h1 : W1 s N) (h3 : W3 s N) (h5 : W5 s N) {a d : Int} (ha : -1 ≤ a ∧ a < 60) (hd : 0 ≤ d ∧ d ≤ 30) :
    ∃ A', Fr pW A A' ∧ (∀ j, j < 17 → A'.2 15 0 0 j = oL (if j < N then wv s a d j else 0)) ∧ fX3_weighSubscribers 0 (oI a) (oI d) A = some (oL (sumN (wv s a d) N), A') := by
  have hN := h1.2.2.2.2.2.2.2.2
  obtain ⟨A', q1, q2, q3⟩ := wsub_L h0 h1 h3 h5 ha hd (fun i hi => by have := sub_ix h3 h1 h5 hi; exact ⟨by omega, fun m hm => by have := this.2 m hm; omega⟩) (fun x A => some (x, A)) 10000 0 0 (fL A 15 0 17 (oL 0)) (by omega) (by omega) ((Fr.refl _).fL rfl) (fun j hj => by rw [fL_2, if_pos ⟨rfl, rfl, rfl, hj⟩, if_neg (by omega)])
  refine ⟨A', q1, q2, ?_⟩
  rw [fX3_weighSubscribers, ltb_eq]
  refine q3.trans ?_
  simp [sumN]
/-! The system's division. -/
theorem gtg_L {f : Nat → Int} (hf : ∀ j, j < 17 → A.2 16 0 0 j = oL (f j) ∧ -1 ≤ f j ∧ f j < 9223372036854775808) (k : Int32 → Option sM) : ∀ (fuel i : Nat), 1 ≤ i → i ≤ 17 → 17 - i < fuel → fX3_giveToGreatestRemainder_L4 A k fuel (oI (am f i)) (oI i) = k (oI (am f 17)) := by
  intro fuel
  induction fuel with
  | zero => intro i _ _ h; omega
  | succ fuel ih =>
    intro i h1 hi hfu
    rw [fX3_giveToGreatestRemainder_L4]
    by_cases e : i = 17
    · rw [if_pos (by simp (disch := omega) only [kI_0, kI_1, kI_2, kI_3, kI_4, kI_5, kI_6, kI_7, kI_8, kI_9, kI_10, kI_12, kI_16, kI_17, kI_19, kI_20, kI_23, kI_24, kI_30, kI_32, kI_36, kI_48, kI_57, kI_59, kI_60, kI_72, kI_80, kI_84, kI_97, kI_98, kI_100, kI_122, kI_148, kI_200, kI_300, kI_1058, kI_1108, kI_1348, kI_1588, kI_5290, kI_7940, kI_100000, kI_e7, kI_e9, kL_0, kL_1, kL_5, kL_9, kL_10, kL_12, kL_23, kL_30, kL_48, kL_57, kL_59, kL_97, kL_100, kL_122, kL_1000, kL_e7, kL_e9, kL_e10, oI_lt, oI_le, oI_eq, oL_lt, oL_le, oL_eq, oI_L, oI_clamp, oI_inb, oL_nz]; omega), e]
    · have hl := am_lt f (n := i) h1
      obtain ⟨f1, f2, f3⟩ := hf i (by omega)
      obtain ⟨f4, f5, f6⟩ := hf (am f i) (by omega)
      rw [if_neg (by simp (disch := omega) only [kI_0, kI_1, kI_2, kI_3, kI_4, kI_5, kI_6, kI_7, kI_8, kI_9, kI_10, kI_12, kI_16, kI_17, kI_19, kI_20, kI_23, kI_24, kI_30, kI_32, kI_36, kI_48, kI_57, kI_59, kI_60, kI_72, kI_80, kI_84, kI_97, kI_98, kI_100, kI_122, kI_148, kI_200, kI_300, kI_1058, kI_1108, kI_1348, kI_1588, kI_5290, kI_7940, kI_100000, kI_e7, kI_e9, kL_0, kL_1, kL_5, kL_9, kL_10, kL_12, kL_23, kL_30, kL_48, kL_57, kL_59, kL_97, kL_100, kL_122, kL_1000, kL_e7, kL_e9, kL_e10, oI_lt, oI_le, oI_eq, oL_lt, oL_le, oL_eq, oI_L, oI_clamp, oI_inb, oL_nz]; omega)]
      simp (disch := omega) only [kI_0, kI_1, kI_2, kI_3, kI_4, kI_5, kI_6, kI_7, kI_8, kI_9, kI_10, kI_12, kI_16, kI_17, kI_19, kI_20, kI_23, kI_24, kI_30, kI_32, kI_36, kI_48, kI_57, kI_59, kI_60, kI_72, kI_80, kI_84, kI_97, kI_98, kI_100, kI_122, kI_148, kI_200, kI_300, kI_1058, kI_1108, kI_1348, kI_1588, kI_5290, kI_7940, kI_100000, kI_e7, kI_e9, kL_0, kL_1, kL_5, kL_9, kL_10, kL_12, kL_23, kL_30, kL_48, kL_57, kL_59, kL_97, kL_100, kL_122, kL_1000, kL_e7, kL_e9, kL_e10, oI_lt, oI_le, oI_eq, oL_lt, oL_le, oL_eq, oI_L, oI_clamp, oI_inb, oL_nz, gd_true, ltb_eq, bd_eq, bd2_eq, rq_none, rq_thr, xc_val, xc_thr, oI_add, oI_sub, oI_mul, oI_neg, oL_add, oL_sub, oL_mul, oL_neg, oL_I, cl_nat, nat1, f1, f4]
      rw [← ih (i + 1) (by omega) (by omega) (by omega), am]
      by_cases e2 : f (am f i) < f i
      · rw [if_neg (by omega), if_pos e2]
      · rw [if_pos (by omega), if_neg e2]
theorem gtg {f p : Nat → Int} (hf : ∀ j, j < 17 → A.2 16 0 0 j = oL (f j) ∧ -1 ≤ f j ∧ f j < 9223372036854775808) (hp : ∀ j, j < 17 → A.2 17 0 0 j = oL (p j)) :
    ∃ A', Fr pD A A' ∧ (∀ j, j < 17 → A'.2 16 0 0 j = oL (up1 f (am f 17) (-1) j)) ∧ (∀ j, j < 17 → A'.2 17 0 0 j = oL (up1 p (am f 17) (p (am f 17) + 1) j)) ∧ fX3_giveToGreatestRemainder A = some A' := by
  have hl := am_lt f (n := 17) (by omega)
  refine ⟨wL (wL A 17 0 0 (am f 17) (oL (p (am f 17) + 1))) 16 0 0 (am f 17) (oL (-1)), ((Fr.refl _).wL rfl).wL rfl, fun j hj => ?_, fun j hj => ?_, ?_⟩
  · rw [wL_2, up1]
    by_cases e : j = am f 17
    · rw [if_pos ⟨rfl, rfl, rfl, e⟩, if_pos e]
    · rw [if_neg (by omega), if_neg e, wL_2, if_neg (by omega)]
      exact (hf j hj).1
  · rw [wL_2, if_neg (by omega), wL_2, up1]
    by_cases e : j = am f 17
    · rw [if_pos ⟨rfl, rfl, rfl, e⟩, if_pos e]
    · rw [if_neg (by omega), if_neg e]
      exact hp j hj
  · rw [fX3_giveToGreatestRemainder, kI_0, kI_1, show oI 0 = oI (am f 1 : Nat) by simp [am], show oI 1 = oI (1 : Nat) from rfl, gtg_L hf _ 10000 1 (by omega) (by omega) (by omega)]
    simp (disch := omega) only [kI_0, kI_1, kI_2, kI_3, kI_4, kI_5, kI_6, kI_7, kI_8, kI_9, kI_10, kI_12, kI_16, kI_17, kI_19, kI_20, kI_23, kI_24, kI_30, kI_32, kI_36, kI_48, kI_57, kI_59, kI_60, kI_72, kI_80, kI_84, kI_97, kI_98, kI_100, kI_122, kI_148, kI_200, kI_300, kI_1058, kI_1108, kI_1348, kI_1588, kI_5290, kI_7940, kI_100000, kI_e7, kI_e9, kL_0, kL_1, kL_5, kL_9, kL_10, kL_12, kL_23, kL_30, kL_48, kL_57, kL_59, kL_97, kL_100, kL_122, kL_1000, kL_e7, kL_e9, kL_e10, oI_lt, oI_le, oI_eq, oL_lt, oL_le, oL_eq, oI_L, oI_clamp, oI_inb, oL_nz, gd_true, ltb_eq, bd_eq, bd2_eq, rq_none, rq_thr, xc_val, xc_thr, oI_add, oI_sub, oI_mul, oI_neg, oL_add, oL_sub, oL_mul, oL_neg, oL_I, cl_nat, hp]
theorem div2_L {V T : Int} {w : Nat → Int} (hD : DV V T w 17) {A0 : sM} : ∀ (fuel g : Nat) (A : sM), (g : Int) ≤ lft V T w 17 → (lft V T w 17).toNat - g < fuel → Fr pD A0 A → (∀ j, j < 17 → A.2 16 0 0 j = oL (giv (rm V T w) 17 g j)) → (∀ j, j < 17 → A.2 17 0 0 j = oL (prt (qt V T w) (rm V T w) 17 g j)) →
    ∃ A', Fr pD A0 A' ∧ (∀ j, j < 17 → A'.2 17 0 0 j = oL (dvd V T w 17 j)) ∧ fX3_divide_L88 (fun A => some A) fuel (oL (lft V T w 17 - g)) (oI g) A = some A' := by
  have hl := hD.l0
  have hT := hD.2.1
  have hTb : T < 9223372036854775808 := hD.2.2.1.2
  intro fuel
  induction fuel with
  | zero => intro g A _ h; omega
  | succ fuel ih =>
    intro g A hg hf hF h6 h7
    rw [fX3_divide_L88]
    by_cases e : (g : Int) = lft V T w 17
    · refine ⟨A, hF, fun j hj => ?_, ?_⟩
      · rw [h7 j hj, dvd, ← e]; rfl
      · simp (disch := omega) only [kI_0, kI_1, kI_2, kI_3, kI_4, kI_5, kI_6, kI_7, kI_8, kI_9, kI_10, kI_12, kI_16, kI_17, kI_19, kI_20, kI_23, kI_24, kI_30, kI_32, kI_36, kI_48, kI_57, kI_59, kI_60, kI_72, kI_80, kI_84, kI_97, kI_98, kI_100, kI_122, kI_148, kI_200, kI_300, kI_1058, kI_1108, kI_1348, kI_1588, kI_5290, kI_7940, kI_100000, kI_e7, kI_e9, kL_0, kL_1, kL_5, kL_9, kL_10, kL_12, kL_23, kL_30, kL_48, kL_57, kL_59, kL_97, kL_100, kL_122, kL_1000, kL_e7, kL_e9, kL_e10, oI_lt, oI_le, oI_eq, oL_lt, oL_le, oL_eq, oI_L, oI_clamp, oI_inb, oL_nz]
        rw [if_neg (by omega), if_pos (by omega)]
    · have hgr : ∀ j, j < 17 → A.2 16 0 0 j = oL (giv (rm V T w) 17 g j) ∧ -1 ≤ giv (rm V T w) 17 g j ∧ giv (rm V T w) 17 g j < 9223372036854775808 := fun j hj => by
        have := hD.r0 j
        rcases giv_or (rm V T w) 17 g j with q | q
        · exact ⟨h6 j hj, by omega, by omega⟩
        · exact ⟨h6 j hj, by omega, by omega⟩
      obtain ⟨A1, q1, q2, q3, q4⟩ := gtg hgr h7
      obtain ⟨A', r1, r2, r3⟩ := ih (g + 1) A1 (by omega) (by omega) (hF.trans q1) q2 q3
      refine ⟨A', r1, r2, ?_⟩
      simp (disch := omega) only [kI_0, kI_1, kI_2, kI_3, kI_4, kI_5, kI_6, kI_7, kI_8, kI_9, kI_10, kI_12, kI_16, kI_17, kI_19, kI_20, kI_23, kI_24, kI_30, kI_32, kI_36, kI_48, kI_57, kI_59, kI_60, kI_72, kI_80, kI_84, kI_97, kI_98, kI_100, kI_122, kI_148, kI_200, kI_300, kI_1058, kI_1108, kI_1348, kI_1588, kI_5290, kI_7940, kI_100000, kI_e7, kI_e9, kL_0, kL_1, kL_5, kL_9, kL_10, kL_12, kL_23, kL_30, kL_48, kL_57, kL_59, kL_97, kL_100, kL_122, kL_1000, kL_e7, kL_e9, kL_e10, oI_lt, oI_le, oI_eq, oL_lt, oL_le, oL_eq, oI_L, oI_clamp, oI_inb, oL_nz]
      rw [if_neg (by omega), if_neg (by omega), q4, bd_eq]
      simp only [ltb_eq, oI_add, oI_sub, oI_mul, oI_neg, oL_add, oL_sub, oL_mul, oL_neg, oL_I, nat1]
      rw [← r3]
      exact congrArg (fun x => fX3_divide_L88 (fun A => some A) fuel (oL x) (oI (g + 1 : Nat)) A1) (by omega)
theorem div1_L {V T : Int} {w : Nat → Int} (hD : DV V T w 17) {A0 : sM} (h3 : A0.2 3 1 0 0 = oL T) (hw : ∀ j, j < 17 → A0.2 15 0 0 j = oL (w j)) (k : Int64 → sM → Option sM) : ∀ (fuel i : Nat) (A : sM), i ≤ 17 → 17 - i < fuel → Fr pD A0 A → (∀ j, j < i → A.2 16 0 0 j = oL (rm V T w j) ∧ A.2 17 0 0 j = oL (qt V T w j)) →
    ∃ A', Fr pD A0 A' ∧ (∀ j, j < 17 → A'.2 16 0 0 j = oL (rm V T w j) ∧ A'.2 17 0 0 j = oL (qt V T w j)) ∧ fX3_divide_L23 (oL V) k fuel (oL (V - sumN (qt V T w) i)) (oI i) A = k (oL (lft V T w 17)) A' := by
  have hT := hD.2.1
  have hTb := hD.2.2.1
  intro fuel
  induction fuel with
  | zero => intro i A _ h; omega
  | succ fuel ih =>
    intro i A hi hf hF hc
    rw [fX3_divide_L23]
    by_cases e : i = 17
    · subst e
      refine ⟨A, hF, hc, ?_⟩
      rw [if_pos (by simp (disch := omega) only [kI_0, kI_1, kI_2, kI_3, kI_4, kI_5, kI_6, kI_7, kI_8, kI_9, kI_10, kI_12, kI_16, kI_17, kI_19, kI_20, kI_23, kI_24, kI_30, kI_32, kI_36, kI_48, kI_57, kI_59, kI_60, kI_72, kI_80, kI_84, kI_97, kI_98, kI_100, kI_122, kI_148, kI_200, kI_300, kI_1058, kI_1108, kI_1348, kI_1588, kI_5290, kI_7940, kI_100000, kI_e7, kI_e9, kL_0, kL_1, kL_5, kL_9, kL_10, kL_12, kL_23, kL_30, kL_48, kL_57, kL_59, kL_97, kL_100, kL_122, kL_1000, kL_e7, kL_e9, kL_e10, oI_lt, oI_le, oI_eq, oL_lt, oL_le, oL_eq, oI_L, oI_clamp, oI_inb, oL_nz]; omega)]
      rfl
    · have hp := hD.prod (k := i) (by omega)
      have e3 : A.2 3 1 0 0 = oL T := by rw [hF.l rfl]; exact h3
      have e4 : A.2 15 0 0 i = oL (w i) := by rw [hF.l rfl]; exact hw i (by omega)
      have e5 : ∀ v, (wL A 17 0 0 i v).2 3 1 0 0 = oL T := fun v => by rw [wL_2, if_neg (by omega)]; exact e3
      rw [if_neg (by simp (disch := omega) only [kI_0, kI_1, kI_2, kI_3, kI_4, kI_5, kI_6, kI_7, kI_8, kI_9, kI_10, kI_12, kI_16, kI_17, kI_19, kI_20, kI_23, kI_24, kI_30, kI_32, kI_36, kI_48, kI_57, kI_59, kI_60, kI_72, kI_80, kI_84, kI_97, kI_98, kI_100, kI_122, kI_148, kI_200, kI_300, kI_1058, kI_1108, kI_1348, kI_1588, kI_5290, kI_7940, kI_100000, kI_e7, kI_e9, kL_0, kL_1, kL_5, kL_9, kL_10, kL_12, kL_23, kL_30, kL_48, kL_57, kL_59, kL_97, kL_100, kL_122, kL_1000, kL_e7, kL_e9, kL_e10, oI_lt, oI_le, oI_eq, oL_lt, oL_le, oL_eq, oI_L, oI_clamp, oI_inb, oL_nz]; omega)]
      simp (disch := omega) only [kI_0, kI_1, kI_2, kI_3, kI_4, kI_5, kI_6, kI_7, kI_8, kI_9, kI_10, kI_12, kI_16, kI_17, kI_19, kI_20, kI_23, kI_24, kI_30, kI_32, kI_36, kI_48, kI_57, kI_59, kI_60, kI_72, kI_80, kI_84, kI_97, kI_98, kI_100, kI_122, kI_148, kI_200, kI_300, kI_1058, kI_1108, kI_1348, kI_1588, kI_5290, kI_7940, kI_100000, kI_e7, kI_e9, kL_0, kL_1, kL_5, kL_9, kL_10, kL_12, kL_23, kL_30, kL_48, kL_57, kL_59, kL_97, kL_100, kL_122, kL_1000, kL_e7, kL_e9, kL_e10, oI_lt, oI_le, oI_eq, oL_lt, oL_le, oL_eq, oI_L, oI_clamp, oI_inb, oL_nz, gd_true, ltb_eq, bd_eq, bd2_eq, rq_none, rq_thr, xc_val, xc_thr, oI_add, oI_sub, oI_mul, oI_neg, oL_add, oL_sub, oL_mul, oL_neg, oL_I, cl_nat, nat1, e3, e4, e5, oL_div]
      rw [rem_eq]
      obtain ⟨A', r1, r2, r3⟩ := ih (i + 1) (wL (wL A 17 0 0 i (oL (V * w i / T))) 16 0 0 i (oL (V * w i % T))) (by omega) (by omega) ((hF.wL rfl).wL rfl) (fun j hj => by
        by_cases ej : j = i
        · subst ej
          exact ⟨by rw [wL_2, if_pos ⟨rfl, rfl, rfl, rfl⟩]; rfl, by rw [wL_2, if_neg (by omega), wL_2, if_pos ⟨rfl, rfl, rfl, rfl⟩]; rfl⟩
        · obtain ⟨c1, c2⟩ := hc j (by omega)
          exact ⟨by rw [wL_2, if_neg (by omega), wL_2, if_neg (by omega)]; exact c1, by rw [wL_2, if_neg (by omega), wL_2, if_neg (by omega)]; exact c2⟩)
      refine ⟨A', r1, r2, ?_⟩
      rw [← r3, wL_2, if_neg (by omega), wL_2, if_pos ⟨rfl, rfl, rfl, rfl⟩, oL_sub, sumN_s _ i]
      exact congrArg (fun x => fX3_divide_L23 (oL V) k fuel (oL x) (oI (i + 1 : Nat)) _) (by rw [qt]; omega)
theorem divA {V T : Int} {w : Nat → Int} (hD : DV V T w 17) (h3 : A.2 3 1 0 0 = oL T) (hw : ∀ j, j < 17 → A.2 15 0 0 j = oL (w j)) :
    ∃ A', Fr pD A A' ∧ (∀ j, j < 17 → A'.2 17 0 0 j = oL (dvd V T w 17 j)) ∧ fX3_divide (oL V) A = some A' := by
  have hT := hD.2.1
  have hTb := hD.2.2.1
  have hl := hD.l0
  obtain ⟨A1, q1, q2, q3⟩ := div1_L hD h3 hw (fun x A => fX3_divide_L88 (fun A => some A) 10000 x (0 : Int32) A) 10000 0 A (by omega) (by omega) (Fr.refl _) (fun j hj => by omega)
  obtain ⟨A', r1, r2, r3⟩ := div2_L hD 10000 0 A1 (by omega) (by omega) q1 (fun j hj => (q2 j hj).1) (fun j hj => (q2 j hj).2)
  refine ⟨A', r1, r2, ?_⟩
  rw [fX3_divide, h3, if_pos (by simp (disch := omega) only [kI_0, kI_1, kI_2, kI_3, kI_4, kI_5, kI_6, kI_7, kI_8, kI_9, kI_10, kI_12, kI_16, kI_17, kI_19, kI_20, kI_23, kI_24, kI_30, kI_32, kI_36, kI_48, kI_57, kI_59, kI_60, kI_72, kI_80, kI_84, kI_97, kI_98, kI_100, kI_122, kI_148, kI_200, kI_300, kI_1058, kI_1108, kI_1348, kI_1588, kI_5290, kI_7940, kI_100000, kI_e7, kI_e9, kL_0, kL_1, kL_5, kL_9, kL_10, kL_12, kL_23, kL_30, kL_48, kL_57, kL_59, kL_97, kL_100, kL_122, kL_1000, kL_e7, kL_e9, kL_e10, oI_lt, oI_le, oI_eq, oL_lt, oL_le, oL_eq, oI_L, oI_clamp, oI_inb, oL_nz]; omega), ← r3]
  rw [show oL V = oL (V - sumN (qt V T w) 0) by rw [sumN]; congr 1; omega] at *
  refine Eq.trans ?_ (q3.trans ?_)
  · rw [show (V - sumN (qt V T w) 0) = V by rw [sumN]; omega]; rfl
  · exact congrArg (fun x => fX3_divide_L88 (fun A => some A) 10000 (oL x) (oI 0) A1) (by omega)
/-! The reference's division. -/
def bst (f : Nat → Int) : Nat → Int
  | 0 => -1
  | n + 1 => if f n = -1 then bst f n else if bst f n = -1 then n else if f n ≤ f (bst f n).toNat then bst f n else n
theorem bst_am {f : Nat → Int} : ∀ {n : Nat}, (∀ k, k < n → -1 ≤ f k) → (bst f n = -1 ∧ ∀ k, k < n → f k = -1) ∨ (bst f n = am f n ∧ 0 ≤ f (am f n))
  | 0, _ => Or.inl ⟨rfl, fun k hk => by omega⟩
  | n + 1, h => by
    have hn := h n (by omega)
    rw [bst, am]
    rcases bst_am (f := f) (n := n) (fun k hk => h k (by omega)) with ⟨h1, h2⟩ | ⟨h1, h2⟩
    · by_cases e : f n = -1
      · left
        refine ⟨by rw [if_pos e]; exact h1, fun k hk => ?_⟩
        by_cases e2 : k = n
        · rw [e2]; exact e
        · exact h2 k (by omega)
      · right
        have e3 : (if f (am f n) < f n then n else am f n) = n := by
          by_cases e4 : n = 0
          · subst e4; simp [am]
          · have := am_lt f (n := n) (by omega)
            rw [if_pos (by have := h2 _ this; omega)]
        rw [if_neg e, if_pos h1, e3]
        exact ⟨rfl, by omega⟩
    · right
      have e4 : f (bst f n).toNat = f (am f n) := by rw [h1]; rfl
      rw [e4]
      by_cases e : f n = -1
      · rw [if_pos e, if_neg (by omega)]; exact ⟨h1, h2⟩
      · rw [if_neg e, if_neg (by omega)]
        by_cases e5 : f n ≤ f (am f n)
        · rw [if_pos e5, if_neg (by omega)]; exact ⟨h1, h2⟩
        · rw [if_neg e5, if_pos (by omega)]; exact ⟨rfl, by omega⟩
theorem bst_rg {f : Nat → Int} : ∀ {n : Nat}, -1 ≤ bst f n ∧ bst f n < n ∧ (bst f n = -1 ∨ ¬ f (bst f n).toNat = -1)
  | 0 => ⟨by rw [bst]; omega, by rw [bst]; omega, Or.inl rfl⟩
  | n + 1 => by
    have ih := bst_rg (f := f) (n := n)
    rw [bst]
    split
    · exact ⟨ih.1, by omega, ih.2.2⟩
    · split
      · exact ⟨by omega, by omega, Or.inr (by assumption)⟩
      · split
        · exact ⟨ih.1, by omega, ih.2.2⟩
        · exact ⟨by omega, by omega, Or.inr (by assumption)⟩
theorem zbst_L {P : Nat} (hP : P ≤ 17) {f r : Nat → Int} (hf : ∀ j, j < P → (f j = -1 ∨ f j = r j) ∧ 0 ≤ r j ∧ r j < 9223372036854775808) (hr : ∀ j, j < P → Z.2 35 0 0 j = oL (r j)) (hg : ∀ j, j < P → Z.1 36 0 0 j = oI (if f j = -1 then 1 else 0)) (x6 : Int64) (k : Int32 → Option sM) :
    ∀ (fuel i : Nat), i ≤ P → P - i < fuel → fX10_divides_L89 (oI P) x6 Z k fuel (oI (bst f i)) (oI i) = k (oI (bst f P)) := by
  intro fuel
  induction fuel with
  | zero => intro i _ h; omega
  | succ fuel ih =>
    intro i hi hfu
    rw [fX10_divides_L89]
    by_cases e : i = P
    · rw [if_pos (by simp (disch := omega) only [kI_0, kI_1, kI_2, kI_3, kI_4, kI_5, kI_6, kI_7, kI_8, kI_9, kI_10, kI_12, kI_16, kI_17, kI_19, kI_20, kI_23, kI_24, kI_30, kI_32, kI_36, kI_48, kI_57, kI_59, kI_60, kI_72, kI_80, kI_84, kI_97, kI_98, kI_100, kI_122, kI_148, kI_200, kI_300, kI_1058, kI_1108, kI_1348, kI_1588, kI_5290, kI_7940, kI_100000, kI_e7, kI_e9, kL_0, kL_1, kL_5, kL_9, kL_10, kL_12, kL_23, kL_30, kL_48, kL_57, kL_59, kL_97, kL_100, kL_122, kL_1000, kL_e7, kL_e9, kL_e10, oI_lt, oI_le, oI_eq, oL_lt, oL_le, oL_eq, oI_L, oI_clamp, oI_inb, oL_nz]; omega), e]
    · have hb := bst_rg (f := f) (n := i)
      obtain ⟨f1, f2, f3⟩ := hf i (by omega)
      rw [if_neg (by simp (disch := omega) only [kI_0, kI_1, kI_2, kI_3, kI_4, kI_5, kI_6, kI_7, kI_8, kI_9, kI_10, kI_12, kI_16, kI_17, kI_19, kI_20, kI_23, kI_24, kI_30, kI_32, kI_36, kI_48, kI_57, kI_59, kI_60, kI_72, kI_80, kI_84, kI_97, kI_98, kI_100, kI_122, kI_148, kI_200, kI_300, kI_1058, kI_1108, kI_1348, kI_1588, kI_5290, kI_7940, kI_100000, kI_e7, kI_e9, kL_0, kL_1, kL_5, kL_9, kL_10, kL_12, kL_23, kL_30, kL_48, kL_57, kL_59, kL_97, kL_100, kL_122, kL_1000, kL_e7, kL_e9, kL_e10, oI_lt, oI_le, oI_eq, oL_lt, oL_le, oL_eq, oI_L, oI_clamp, oI_inb, oL_nz]; omega)]
      have hn := ih (i + 1) (by omega) (by omega)
      rw [bst] at hn
      by_cases e1 : f i = -1
      · rw [if_pos e1] at hn
        have hz : Z.1 36 0 0 i = oI 1 := by rw [hg i (by omega), if_pos e1]
        simp (disch := omega) only [kI_0, kI_1, kI_2, kI_3, kI_4, kI_5, kI_6, kI_7, kI_8, kI_9, kI_10, kI_12, kI_16, kI_17, kI_19, kI_20, kI_23, kI_24, kI_30, kI_32, kI_36, kI_48, kI_57, kI_59, kI_60, kI_72, kI_80, kI_84, kI_97, kI_98, kI_100, kI_122, kI_148, kI_200, kI_300, kI_1058, kI_1108, kI_1348, kI_1588, kI_5290, kI_7940, kI_100000, kI_e7, kI_e9, kL_0, kL_1, kL_5, kL_9, kL_10, kL_12, kL_23, kL_30, kL_48, kL_57, kL_59, kL_97, kL_100, kL_122, kL_1000, kL_e7, kL_e9, kL_e10, oI_lt, oI_le, oI_eq, oL_lt, oL_le, oL_eq, oI_L, oI_clamp, oI_inb, oL_nz, gd_true, ltb_eq, bd_eq, bd2_eq, rq_none, rq_thr, xc_val, xc_thr, oI_add, oI_sub, oI_mul, oI_neg, oL_add, oL_sub, oL_mul, oL_neg, oL_I, cl_nat, nat1, hz, eq_self, Nat.reduceEqDiff, Int.reduceLE, Int.reduceLT, Int.reduceEq, Int.reduceToNat, and_true, true_and, and_false, false_and, and_self, if_true, if_false, ite_true, ite_false, reduceCtorEq]
        exact hn
      · rw [if_neg e1] at hn
        have hz : Z.1 36 0 0 i = oI 0 := by rw [hg i (by omega), if_neg e1]
        simp (disch := omega) only [kI_0, kI_1, kI_2, kI_3, kI_4, kI_5, kI_6, kI_7, kI_8, kI_9, kI_10, kI_12, kI_16, kI_17, kI_19, kI_20, kI_23, kI_24, kI_30, kI_32, kI_36, kI_48, kI_57, kI_59, kI_60, kI_72, kI_80, kI_84, kI_97, kI_98, kI_100, kI_122, kI_148, kI_200, kI_300, kI_1058, kI_1108, kI_1348, kI_1588, kI_5290, kI_7940, kI_100000, kI_e7, kI_e9, kL_0, kL_1, kL_5, kL_9, kL_10, kL_12, kL_23, kL_30, kL_48, kL_57, kL_59, kL_97, kL_100, kL_122, kL_1000, kL_e7, kL_e9, kL_e10, oI_lt, oI_le, oI_eq, oL_lt, oL_le, oL_eq, oI_L, oI_clamp, oI_inb, oL_nz, gd_true, ltb_eq, bd_eq, bd2_eq, rq_none, rq_thr, xc_val, xc_thr, oI_add, oI_sub, oI_mul, oI_neg, oL_add, oL_sub, oL_mul, oL_neg, oL_I, cl_nat, nat1, hz, eq_self, Nat.reduceEqDiff, Int.reduceLE, Int.reduceLT, Int.reduceEq, Int.reduceToNat, and_true, true_and, and_false, false_and, and_self, if_true, if_false, ite_true, ite_false, reduceCtorEq]
        by_cases e2 : bst f i = -1
        · rw [if_pos e2] at hn
          rw [if_pos e2]
          exact hn
        · rw [if_neg e2] at hn
          obtain ⟨f4, f5, f6⟩ := hf (bst f i).toNat (by omega)
          have f7 : f (bst f i).toNat = r (bst f i).toNat := by
            rcases f4 with q | q
            · exact absurd q (by rcases hb.2.2 with z | z; exact absurd z e2; exact z)
            · exact q
          have f8 : f i = r i := by rcases f1 with q | q; exact absurd q e1; exact q
          simp (disch := omega) only [oI_lt, oI_le, oI_eq, oL_lt, oL_le, oL_eq, oI_L, oI_clamp, oI_inb, oL_nz, gd_true, ltb_eq, bd_eq, bd2_eq, rq_none, rq_thr, xc_val, xc_thr, hr i (by omega), hr (bst f i).toNat (by omega)]
          rw [if_neg e2]
          by_cases e3 : f i ≤ f (bst f i).toNat
          · rw [if_pos e3] at hn
            rw [if_pos (by omega)]
            exact hn
          · rw [if_neg e3] at hn
            rw [if_neg (by omega)]
            exact hn
theorem zdiv2_L {V T : Int} {w : Nat → Int} {P : Nat} (hP : P ≤ 17) (hD : DV V T w P) {Z0 : sM} : ∀ (fuel g : Nat) (Z : sM), (g : Int) ≤ lft V T w P → (lft V T w P).toNat - g < fuel → Fr pDz Z0 Z → (∀ j, j < P → Z.2 35 0 0 j = oL (rm V T w j)) → (∀ j, j < P → Z.1 36 0 0 j = oI (if giv (rm V T w) P g j = -1 then 1 else 0)) → (∀ j, j < P → Z.2 34 0 0 j = oL (prt (qt V T w) (rm V T w) P g j)) →
    ∃ Z', Fr pDz Z0 Z' ∧ (∀ j, j < P → Z'.2 34 0 0 j = oL (dvd V T w P j)) ∧ fX10_divides_L76 (oI P) (fun Z => some Z) fuel (oL (lft V T w P - g)) Z = some Z' := by
  have hl := hD.l0
  have hT := hD.2.1
  have hTb : T < 9223372036854775808 := hD.2.2.1.2
  intro fuel
  induction fuel with
  | zero => intro g Z _ h; omega
  | succ fuel ih =>
    intro g Z hg hf hF h5 h6 h4
    rw [fX10_divides_L76]
    by_cases e : (g : Int) = lft V T w P
    · refine ⟨Z, hF, fun j hj => ?_, ?_⟩
      · rw [h4 j hj, dvd, ← e]; rfl
      · simp (disch := omega) only [kI_0, kI_1, kI_2, kI_3, kI_4, kI_5, kI_6, kI_7, kI_8, kI_9, kI_10, kI_12, kI_16, kI_17, kI_19, kI_20, kI_23, kI_24, kI_30, kI_32, kI_36, kI_48, kI_57, kI_59, kI_60, kI_72, kI_80, kI_84, kI_97, kI_98, kI_100, kI_122, kI_148, kI_200, kI_300, kI_1058, kI_1108, kI_1348, kI_1588, kI_5290, kI_7940, kI_100000, kI_e7, kI_e9, kL_0, kL_1, kL_5, kL_9, kL_10, kL_12, kL_23, kL_30, kL_48, kL_57, kL_59, kL_97, kL_100, kL_122, kL_1000, kL_e7, kL_e9, kL_e10, oI_lt, oI_le, oI_eq, oL_lt, oL_le, oL_eq, oI_L, oI_clamp, oI_inb, oL_nz]
        rw [if_pos (by omega)]
    · have hpos := giv_pos hD (g := g) (by omega)
      have hal := am_lt (giv (rm V T w) P g) hD.pos
      have hb : bst (giv (rm V T w) P g) P = am (giv (rm V T w) P g) P := by
        rcases bst_am (f := giv (rm V T w) P g) (n := P) (fun k hk => by
          have := hD.r0 k
          rcases giv_or (rm V T w) P g k with q | q <;> omega) with ⟨-, q⟩ | ⟨q, -⟩
        · have := q _ hal; omega
        · exact q
      have hx := zbst_L hP (f := giv (rm V T w) P g) (r := rm V T w) (fun j hj => ⟨giv_or _ _ _ _, (hD.r0 j).1, by have := (hD.r0 j).2; omega⟩) h5 h6 (oL (lft V T w P - g))
      simp (disch := omega) only [kI_0, kI_1, kI_2, kI_3, kI_4, kI_5, kI_6, kI_7, kI_8, kI_9, kI_10, kI_12, kI_16, kI_17, kI_19, kI_20, kI_23, kI_24, kI_30, kI_32, kI_36, kI_48, kI_57, kI_59, kI_60, kI_72, kI_80, kI_84, kI_97, kI_98, kI_100, kI_122, kI_148, kI_200, kI_300, kI_1058, kI_1108, kI_1348, kI_1588, kI_5290, kI_7940, kI_100000, kI_e7, kI_e9, kL_0, kL_1, kL_5, kL_9, kL_10, kL_12, kL_23, kL_30, kL_48, kL_57, kL_59, kL_97, kL_100, kL_122, kL_1000, kL_e7, kL_e9, kL_e10, oI_lt, oI_le, oI_eq, oL_lt, oL_le, oL_eq, oI_L, oI_clamp, oI_inb, oL_nz]
      rw [if_neg (by omega), oI_neg, show oI (-1) = oI (bst (giv (rm V T w) P g) 0) from rfl, show oI 0 = oI (0 : Nat) from rfl, hx _ 10000 0 (by omega) (by omega), hb]
      simp (disch := omega) only [kI_0, kI_1, kI_2, kI_3, kI_4, kI_5, kI_6, kI_7, kI_8, kI_9, kI_10, kI_12, kI_16, kI_17, kI_19, kI_20, kI_23, kI_24, kI_30, kI_32, kI_36, kI_48, kI_57, kI_59, kI_60, kI_72, kI_80, kI_84, kI_97, kI_98, kI_100, kI_122, kI_148, kI_200, kI_300, kI_1058, kI_1108, kI_1348, kI_1588, kI_5290, kI_7940, kI_100000, kI_e7, kI_e9, kL_0, kL_1, kL_5, kL_9, kL_10, kL_12, kL_23, kL_30, kL_48, kL_57, kL_59, kL_97, kL_100, kL_122, kL_1000, kL_e7, kL_e9, kL_e10, oI_lt, oI_le, oI_eq, oL_lt, oL_le, oL_eq, oI_L, oI_clamp, oI_inb, oL_nz, gd_true, ltb_eq, bd_eq, bd2_eq, rq_none, rq_thr, xc_val, xc_thr, oI_add, oI_sub, oI_mul, oI_neg, oL_add, oL_sub, oL_mul, oL_neg, oL_I, cl_nat, nat1, h4]
      obtain ⟨Z', r1, r2, r3⟩ := ih (g + 1) (wI (wL Z 34 0 0 (am (giv (rm V T w) P g) P) (oL (prt (qt V T w) (rm V T w) P g (am (giv (rm V T w) P g) P) + 1))) 36 0 0 (am (giv (rm V T w) P g) P) (oI 1)) (by omega) (by omega) ((hF.wL rfl).wI rfl) (fun j hj => by
          rw [wI_2, wL_2, if_neg (by omega)]; exact h5 j hj) (fun j hj => by
          rw [wI_1, wL_1, giv, up1]
          by_cases ej : j = am (giv (rm V T w) P g) P
          · rw [if_pos ⟨rfl, rfl, rfl, ej⟩, if_pos ej, if_pos rfl]
          · rw [if_neg (by omega), if_neg ej]; exact h6 j hj) (fun j hj => by
          rw [wI_2, wL_2, prt, up1]
          by_cases ej : j = am (giv (rm V T w) P g) P
          · rw [if_pos ⟨rfl, rfl, rfl, ej⟩, if_pos ej]
          · rw [if_neg (by omega), if_neg ej]; exact h4 j hj)
      refine ⟨Z', r1, r2, ?_⟩
      rw [← r3]
      exact congrArg (fun x => fX10_divides_L76 (oI P) (fun Z => some Z) fuel (oL x) _) (by omega)
theorem zdiv1_L {V T : Int} {w : Nat → Int} {P : Nat} (hP : P ≤ 17) (hD : DV V T w P) {Z0 : sM} (hw : ∀ j, j < P → Z0.2 33 0 0 j = oL (w j)) (k : Int64 → sM → Option sM) : ∀ (fuel i : Nat) (Z : sM), i ≤ P → P - i < fuel → Fr pDz Z0 Z → (∀ j, j < i → Z.2 35 0 0 j = oL (rm V T w j) ∧ Z.2 34 0 0 j = oL (qt V T w j) ∧ Z.1 36 0 0 j = oI 0) →
    ∃ Z', Fr pDz Z0 Z' ∧ (∀ j, j < P → Z'.2 35 0 0 j = oL (rm V T w j) ∧ Z'.2 34 0 0 j = oL (qt V T w j) ∧ Z'.1 36 0 0 j = oI 0) ∧ fX10_divides_L6 (oL V) (oI P) (oL T) k fuel (oL (V - sumN (qt V T w) i)) (oI i) Z = k (oL (lft V T w P)) Z' := by
  have hT := hD.2.1
  have hTb := hD.2.2.1
  intro fuel
  induction fuel with
  | zero => intro i Z _ h; omega
  | succ fuel ih =>
    intro i Z hi hf hF hc
    rw [fX10_divides_L6]
    by_cases e : i = P
    · subst e
      refine ⟨Z, hF, hc, ?_⟩
      rw [if_pos (by simp (disch := omega) only [kI_0, kI_1, kI_2, kI_3, kI_4, kI_5, kI_6, kI_7, kI_8, kI_9, kI_10, kI_12, kI_16, kI_17, kI_19, kI_20, kI_23, kI_24, kI_30, kI_32, kI_36, kI_48, kI_57, kI_59, kI_60, kI_72, kI_80, kI_84, kI_97, kI_98, kI_100, kI_122, kI_148, kI_200, kI_300, kI_1058, kI_1108, kI_1348, kI_1588, kI_5290, kI_7940, kI_100000, kI_e7, kI_e9, kL_0, kL_1, kL_5, kL_9, kL_10, kL_12, kL_23, kL_30, kL_48, kL_57, kL_59, kL_97, kL_100, kL_122, kL_1000, kL_e7, kL_e9, kL_e10, oI_lt, oI_le, oI_eq, oL_lt, oL_le, oL_eq, oI_L, oI_clamp, oI_inb, oL_nz]; omega)]
      rfl
    · have hp := hD.prod (k := i) (by omega)
      have e4 : Z.2 33 0 0 i = oL (w i) := by rw [hF.l rfl]; exact hw i (by omega)
      have e5 : ∀ v, (wL Z 34 0 0 i v).2 33 0 0 i = oL (w i) := fun v => by rw [wL_2, if_neg (by omega)]; exact e4
      rw [if_neg (by simp (disch := omega) only [kI_0, kI_1, kI_2, kI_3, kI_4, kI_5, kI_6, kI_7, kI_8, kI_9, kI_10, kI_12, kI_16, kI_17, kI_19, kI_20, kI_23, kI_24, kI_30, kI_32, kI_36, kI_48, kI_57, kI_59, kI_60, kI_72, kI_80, kI_84, kI_97, kI_98, kI_100, kI_122, kI_148, kI_200, kI_300, kI_1058, kI_1108, kI_1348, kI_1588, kI_5290, kI_7940, kI_100000, kI_e7, kI_e9, kL_0, kL_1, kL_5, kL_9, kL_10, kL_12, kL_23, kL_30, kL_48, kL_57, kL_59, kL_97, kL_100, kL_122, kL_1000, kL_e7, kL_e9, kL_e10, oI_lt, oI_le, oI_eq, oL_lt, oL_le, oL_eq, oI_L, oI_clamp, oI_inb, oL_nz]; omega)]
      simp (disch := omega) only [kI_0, kI_1, kI_2, kI_3, kI_4, kI_5, kI_6, kI_7, kI_8, kI_9, kI_10, kI_12, kI_16, kI_17, kI_19, kI_20, kI_23, kI_24, kI_30, kI_32, kI_36, kI_48, kI_57, kI_59, kI_60, kI_72, kI_80, kI_84, kI_97, kI_98, kI_100, kI_122, kI_148, kI_200, kI_300, kI_1058, kI_1108, kI_1348, kI_1588, kI_5290, kI_7940, kI_100000, kI_e7, kI_e9, kL_0, kL_1, kL_5, kL_9, kL_10, kL_12, kL_23, kL_30, kL_48, kL_57, kL_59, kL_97, kL_100, kL_122, kL_1000, kL_e7, kL_e9, kL_e10, oI_lt, oI_le, oI_eq, oL_lt, oL_le, oL_eq, oI_L, oI_clamp, oI_inb, oL_nz, gd_true, ltb_eq, bd_eq, bd2_eq, rq_none, rq_thr, xc_val, xc_thr, oI_add, oI_sub, oI_mul, oI_neg, oL_add, oL_sub, oL_mul, oL_neg, oL_I, cl_nat, nat1, e4, e5, oL_div]
      rw [rem_eq]
      obtain ⟨Z', r1, r2, r3⟩ := ih (i + 1) (wI (wL (wL Z 34 0 0 i (oL (V * w i / T))) 35 0 0 i (oL (V * w i % T))) 36 0 0 i (oI 0)) (by omega) (by omega) (((hF.wL rfl).wL rfl).wI rfl) (fun j hj => by
        rw [wI_1, wL_1, wL_1, wI_2, wL_2, wL_2, wL_2, wL_2]
        by_cases ej : j = i
        · subst ej
          exact ⟨if_pos ⟨rfl, rfl, rfl, rfl⟩, by rw [if_neg (by omega), if_pos ⟨rfl, rfl, rfl, rfl⟩]; rfl, if_pos ⟨rfl, rfl, rfl, rfl⟩⟩
        · obtain ⟨c1, c2, c3⟩ := hc j (by omega)
          exact ⟨by rw [if_neg (by omega), if_neg (by omega)]; exact c1, by rw [if_neg (by omega), if_neg (by omega)]; exact c2, by rw [if_neg (by omega)]; exact c3⟩)
      refine ⟨Z', r1, r2, ?_⟩
      rw [← r3, wI_2, wL_2, if_neg (by omega), wL_2, if_pos ⟨rfl, rfl, rfl, rfl⟩, oL_sub, sumN_s _ i]
      exact congrArg (fun x => fX10_divides_L6 (oL V) (oI P) (oL T) k fuel (oL x) (oI (i + 1 : Nat)) _) (by rw [qt]; omega)
theorem divZ {V T : Int} {w : Nat → Int} {P : Nat} (hP : P ≤ 17) (hD : DV V T w P) (hw : ∀ j, j < P → Z.2 33 0 0 j = oL (w j)) :
    ∃ Z', Fr pDz Z Z' ∧ (∀ j, j < P → Z'.2 34 0 0 j = oL (dvd V T w P j)) ∧ fX10_divides (oL V) (oI P) (oL T) Z = some Z' := by
  have hT := hD.2.1
  have hTb := hD.2.2.1
  have hl := hD.l0
  obtain ⟨Z1, q1, q2, q3⟩ := zdiv1_L hP hD hw (fun x Z => fX10_divides_L76 (oI P) (fun Z => some Z) 10000 x Z) 10000 0 Z (by omega) (by omega) (Fr.refl _) (fun j hj => by omega)
  obtain ⟨Z', r1, r2, r3⟩ := zdiv2_L hP hD 10000 0 Z1 (by omega) (by omega) q1 (fun j hj => (q2 j hj).1) (fun j hj => by rw [(q2 j hj).2.2, if_neg (by have := (hD.r0 j).1; rw [giv]; omega)]) (fun j hj => (q2 j hj).2.1)
  refine ⟨Z', r1, r2, ?_⟩
  rw [fX10_divides, ← r3]
  refine Eq.trans ?_ (q3.trans ?_)
  · rw [show (V - sumN (qt V T w) 0) = V by rw [sumN]; omega]; rfl
  · exact congrArg (fun x => fX10_divides_L76 (oI P) (fun Z => some Z) 10000 (oL x) Z1) (by omega)
end
