/-! Payments out of lots. -/
def mn (a b : Int) : Int := if a < b then a else b
theorem mn_le (a b : Int) : mn a b ≤ a ∧ mn a b ≤ b := by unfold mn; split <;> omega
theorem mn_or (a b : Int) : mn a b = a ∨ mn a b = b := by unfold mn; split <;> simp
theorem mn_comm (a b : Int) : mn a b = mn b a := by unfold mn; split <;> split <;> omega
/-- what is left to pay ahead of lot m -/
def rmn (f : Nat → Int) (x : Int) : Nat → Int
  | 0 => x
  | m + 1 => rmn f x m - mn (f m) (rmn f x m)
/-- a lot after the payment -/
def payd (f : Nat → Int) (x : Int) (m : Nat) : Int := f m - mn (f m) (rmn f x m)
theorem rmn_eq {f : Nat → Int} {x : Int} (hx : 0 ≤ x) : ∀ {n : Nat}, (∀ m, m < n → 0 ≤ f m) → rmn f x n = if sumN f n ≤ x then x - sumN f n else 0
  | 0, _ => by rw [rmn, sumN, if_pos hx]; omega
  | n + 1, h => by
    have h1 := rmn_eq (f := f) hx (n := n) (fun m hm => h m (by omega))
    have h2 := h n (by omega)
    rw [rmn, h1, sumN, mn]
    split <;> split <;> split <;> omega
theorem rmn_bd {f : Nat → Int} {x : Int} (hx : 0 ≤ x) {n : Nat} (h : ∀ m, m < n → 0 ≤ f m) : 0 ≤ rmn f x n ∧ rmn f x n ≤ x := by
  have := sumN_nonneg h
  rw [rmn_eq hx h]
  split <;> omega
theorem payd_bd {f : Nat → Int} {x : Int} (hx : 0 ≤ x) {m : Nat} (h : ∀ j, j < m + 1 → 0 ≤ f j) : 0 ≤ payd f x m ∧ payd f x m ≤ f m := by
  have h1 := rmn_bd hx (n := m) (fun j hj => h j (by omega))
  have h2 := h m (by omega)
  rw [payd, mn]
  split <;> omega
theorem rmn_done {f : Nat → Int} {x : Int} {i : Nat} (h0 : rmn f x i = 0) : ∀ d : Nat, (∀ m, m < i + d → 0 ≤ f m) → rmn f x (i + d) = 0
  | 0, _ => h0
  | d + 1, h => by
    have h1 := rmn_done h0 d (fun m hm => h m (by omega))
    have h2 := h (i + d) (by omega)
    rw [← Nat.add_assoc, rmn, h1, mn]
    split <;> omega
theorem payd_done {f : Nat → Int} {x : Int} {i m : Nat} (h0 : rmn f x i = 0) (him : i ≤ m) (h : ∀ j, j < m + 1 → 0 ≤ f j) : payd f x m = f m := by
  have h1 := rmn_done h0 (m - i) (fun j hj => h j (by omega))
  rw [show i + (m - i) = m by omega] at h1
  have h2 := h m (by omega)
  rw [payd, h1, mn]
  split <;> omega
theorem payd_sum (f : Nat → Int) (x : Int) : ∀ n : Nat, sumN (payd f x) n = sumN f n - (x - rmn f x n)
  | 0 => by rw [rmn, sumN, sumN]; omega
  | n + 1 => by rw [sumN, sumN, rmn, payd_sum f x n, payd]; omega
theorem rmn_congr {f g : Nat → Int} {x : Int} : ∀ {n : Nat}, (∀ m, m < n → f m = g m) → rmn f x n = rmn g x n
  | 0, _ => rfl
  | n + 1, h => by rw [rmn, rmn, rmn_congr (fun m hm => h m (by omega)), h n (by omega)]
theorem rmn_z {f : Nat → Int} {x : Int} {a : Nat} (hx : 0 ≤ x) (hf : ∀ m, m < a → 0 ≤ f m) : ∀ d : Nat, (∀ m, a ≤ m → m < a + d → f m = 0) → rmn f x (a + d) = rmn f x a
  | 0, _ => rfl
  | d + 1, h => by
    have h1 := rmn_z hx hf d (fun m h1 h2 => h m h1 (by omega))
    have h2 := rmn_bd hx hf
    rw [← Nat.add_assoc, rmn, h1, h (a + d) (by omega) (by omega), mn]
    split <;> omega
def pO (c0 o0 : Nat) (c _ o : Nat) : Bool := c == c0 && o == o0
theorem pO_t (c0 o0 k : Nat) : pO c0 o0 c0 k o0 = true := by simp [pO]
/-- the lots and accounts of one subscriber -/
def pS (o0 : Nat) (c _ o : Nat) : Bool := (c == 25 || c == 26) && o == o0
theorem pS_25 (o k : Nat) : pS o 25 k o = true := by simp [pS]
theorem pS_26 (o k : Nat) : pS o 26 k o = true := by simp [pS]
section
variable {A Z : sM} {s : sS} {N n b : Nat}
theorem pay_L {o : Nat} {f : Nat → Int} {x : Int} (hx : 0 ≤ x ∧ x < 9223372036854775808) (hf : ∀ m, m < 72 → 0 ≤ f m ∧ f m < 4611686018427387904) {A0 : sM} (k : Int64 → sM → Option (Int64 × sM)) :
    ∀ (fuel i : Nat) (A : sM), i ≤ 72 → 72 - i < fuel → Fr (pS o) A0 A → (∀ w, A.2 26 0 o w = A0.2 26 0 o w) → (∀ m, m < 72 → A.2 25 0 o m = oL (if m < i then payd f x m else f m)) →
    ∃ A', Fr (pS o) A0 A' ∧ (∀ w, A'.2 26 0 o w = A0.2 26 0 o w) ∧ (∀ m, m < 72 → A'.2 25 0 o m = oL (payd f x m)) ∧ fX8_payFromLots_L5 o k fuel (oL (rmn f x i)) (oI i) A = k (oL (rmn f x 72)) A' := by
  intro fuel
  induction fuel with
  | zero => intro i A _ h; omega
  | succ fuel ih =>
    intro i A hi hfu hF h26 h25
    have hb := rmn_bd hx.1 (f := f) (n := i) (fun m hm => (hf m (by omega)).1)
    by_cases e : i = 72
    · refine ⟨A, hF, h26, fun m hm => by rw [h25 m hm, if_pos (by omega)], ?_⟩
      rw [fX8_payFromLots_L5, if_pos (by simp (disch := omega) only [kI_0, kI_1, kI_2, kI_3, kI_4, kI_5, kI_6, kI_7, kI_8, kI_9, kI_10, kI_12, kI_16, kI_17, kI_19, kI_20, kI_23, kI_24, kI_30, kI_32, kI_36, kI_48, kI_57, kI_59, kI_60, kI_72, kI_80, kI_84, kI_97, kI_98, kI_100, kI_122, kI_148, kI_200, kI_300, kI_1058, kI_1108, kI_1348, kI_1588, kI_5290, kI_7940, kI_100000, kI_e7, kI_e9, kL_0, kL_1, kL_5, kL_9, kL_10, kL_12, kL_23, kL_30, kL_48, kL_57, kL_59, kL_97, kL_100, kL_122, kL_1000, kL_e7, kL_e9, kL_e10, oI_lt, oI_le, oI_eq, oL_lt, oL_le, oL_eq, oI_L, oI_clamp, oI_inb, oL_nz]; omega), e]
    · by_cases e2 : rmn f x i = 0
      · refine ⟨A, hF, h26, fun m hm => ?_, ?_⟩
        · rw [h25 m hm]
          by_cases e3 : m < i
          · rw [if_pos e3]
          · rw [if_neg e3, payd_done e2 (by omega) (fun j hj => (hf j (by omega)).1)]
        · have e4 := rmn_done e2 (72 - i) (fun j hj => (hf j (by omega)).1)
          rw [show i + (72 - i) = 72 by omega] at e4
          rw [fX8_payFromLots_L5, if_neg (by simp (disch := omega) only [kI_0, kI_1, kI_2, kI_3, kI_4, kI_5, kI_6, kI_7, kI_8, kI_9, kI_10, kI_12, kI_16, kI_17, kI_19, kI_20, kI_23, kI_24, kI_30, kI_32, kI_36, kI_48, kI_57, kI_59, kI_60, kI_72, kI_80, kI_84, kI_97, kI_98, kI_100, kI_122, kI_148, kI_200, kI_300, kI_1058, kI_1108, kI_1348, kI_1588, kI_5290, kI_7940, kI_100000, kI_e7, kI_e9, kL_0, kL_1, kL_5, kL_9, kL_10, kL_12, kL_23, kL_30, kL_48, kL_57, kL_59, kL_97, kL_100, kL_122, kL_1000, kL_e7, kL_e9, kL_e10, oI_lt, oI_le, oI_eq, oL_lt, oL_le, oL_eq, oI_L, oI_clamp, oI_inb, oL_nz]; omega), if_pos (by simp (disch := omega) only [kI_0, kI_1, kI_2, kI_3, kI_4, kI_5, kI_6, kI_7, kI_8, kI_9, kI_10, kI_12, kI_16, kI_17, kI_19, kI_20, kI_23, kI_24, kI_30, kI_32, kI_36, kI_48, kI_57, kI_59, kI_60, kI_72, kI_80, kI_84, kI_97, kI_98, kI_100, kI_122, kI_148, kI_200, kI_300, kI_1058, kI_1108, kI_1348, kI_1588, kI_5290, kI_7940, kI_100000, kI_e7, kI_e9, kL_0, kL_1, kL_5, kL_9, kL_10, kL_12, kL_23, kL_30, kL_48, kL_57, kL_59, kL_97, kL_100, kL_122, kL_1000, kL_e7, kL_e9, kL_e10, oI_lt, oI_le, oI_eq, oL_lt, oL_le, oL_eq, oI_L, oI_clamp, oI_inb, oL_nz]; omega), e2, e4]
      · have hfi := hf i (by omega)
        have hm9 := mn_le (f i) (rmn f x i)
        obtain ⟨A', q1, q2, q3, q4⟩ := ih (i + 1) (wL A 25 0 o i (oL (payd f x i))) (by omega) (by omega) (hF.wL (pS_25 o 0)) (fun w => by rw [wL_2, if_neg (by omega)]; exact h26 w) (fun m hm => by
          rw [wL_2]
          by_cases em : m = i
          · rw [if_pos ⟨rfl, rfl, rfl, em⟩, if_pos (by omega), em]
          · rw [if_neg (by omega), h25 m hm]
            by_cases e3 : m < i
            · rw [if_pos e3, if_pos (by omega)]
            · rw [if_neg e3, if_neg (by omega)])
        refine ⟨A', q1, q2, q3, ?_⟩
        rw [fX8_payFromLots_L5, if_neg (by simp (disch := omega) only [kI_0, kI_1, kI_2, kI_3, kI_4, kI_5, kI_6, kI_7, kI_8, kI_9, kI_10, kI_12, kI_16, kI_17, kI_19, kI_20, kI_23, kI_24, kI_30, kI_32, kI_36, kI_48, kI_57, kI_59, kI_60, kI_72, kI_80, kI_84, kI_97, kI_98, kI_100, kI_122, kI_148, kI_200, kI_300, kI_1058, kI_1108, kI_1348, kI_1588, kI_5290, kI_7940, kI_100000, kI_e7, kI_e9, kL_0, kL_1, kL_5, kL_9, kL_10, kL_12, kL_23, kL_30, kL_48, kL_57, kL_59, kL_97, kL_100, kL_122, kL_1000, kL_e7, kL_e9, kL_e10, oI_lt, oI_le, oI_eq, oL_lt, oL_le, oL_eq, oI_L, oI_clamp, oI_inb, oL_nz]; omega), if_neg (by simp (disch := omega) only [kI_0, kI_1, kI_2, kI_3, kI_4, kI_5, kI_6, kI_7, kI_8, kI_9, kI_10, kI_12, kI_16, kI_17, kI_19, kI_20, kI_23, kI_24, kI_30, kI_32, kI_36, kI_48, kI_57, kI_59, kI_60, kI_72, kI_80, kI_84, kI_97, kI_98, kI_100, kI_122, kI_148, kI_200, kI_300, kI_1058, kI_1108, kI_1348, kI_1588, kI_5290, kI_7940, kI_100000, kI_e7, kI_e9, kL_0, kL_1, kL_5, kL_9, kL_10, kL_12, kL_23, kL_30, kL_48, kL_57, kL_59, kL_97, kL_100, kL_122, kL_1000, kL_e7, kL_e9, kL_e10, oI_lt, oI_le, oI_eq, oL_lt, oL_le, oL_eq, oI_L, oI_clamp, oI_inb, oL_nz]; omega)]
        have ev : A.2 25 0 o i = oL (f i) := by rw [h25 i (by omega), if_neg (by omega)]
        have em : (if f i < rmn f x i then oL (f i) else oL (rmn f x i)) = oL (mn (f i) (rmn f x i)) := by rw [mn]; split <;> rfl
        simp (disch := omega) only [kI_0, kI_1, kI_2, kI_3, kI_4, kI_5, kI_6, kI_7, kI_8, kI_9, kI_10, kI_12, kI_16, kI_17, kI_19, kI_20, kI_23, kI_24, kI_30, kI_32, kI_36, kI_48, kI_57, kI_59, kI_60, kI_72, kI_80, kI_84, kI_97, kI_98, kI_100, kI_122, kI_148, kI_200, kI_300, kI_1058, kI_1108, kI_1348, kI_1588, kI_5290, kI_7940, kI_100000, kI_e7, kI_e9, kL_0, kL_1, kL_5, kL_9, kL_10, kL_12, kL_23, kL_30, kL_48, kL_57, kL_59, kL_97, kL_100, kL_122, kL_1000, kL_e7, kL_e9, kL_e10, oI_lt, oI_le, oI_eq, oL_lt, oL_le, oL_eq, oI_L, oI_clamp, oI_inb, oL_nz, gd_true, ltb_eq, bd_eq, bd2_eq, rq_none, rq_thr, xc_val, xc_thr, cl_nat, ev]
        simp (disch := omega) only [em, oI_add, oI_sub, oI_mul, oI_neg, oL_add, oL_sub, oL_mul, oL_neg, oL_I, nat1]
        exact q4
theorem pay {o : Nat} {f : Nat → Int} {x : Int} (hx : 0 ≤ x ∧ x < 9223372036854775808) (hf : ∀ m, m < 72 → 0 ≤ f m ∧ f m < 4611686018427387904) (h25 : ∀ m, m < 72 → A.2 25 0 o m = oL (f m)) :
    ∃ A', Fr (pS o) A A' ∧ (∀ w, A'.2 26 0 o w = A.2 26 0 o w) ∧ (∀ m, m < 72 → A'.2 25 0 o m = oL (payd f x m)) ∧ fX8_payFromLots o (oL x) A = some (oL (rmn f x 72), A') := by
  obtain ⟨A', q1, q2, q3, q4⟩ := pay_L hx hf (A0 := A) (fun x A => some (x, A)) 10000 0 A (by omega) (by omega) (Fr.refl _) (fun _ => rfl) (fun m hm => by rw [h25 m hm, if_neg (by omega)])
  refine ⟨A', q1, q2, q3, ?_⟩
  rw [fX8_payFromLots]
  exact q4
/-! A subscriber's month. -/
def mT1 (f : Nat → Int) (D c : Int) (m : Nat) : Nat → Int := up1 f m (f m + (c - mn D c))
def mT2 (f : Nat → Int) (D B c : Int) (m : Nat) : Nat → Int := payd (mT1 f D c m) B
def mT3 (f : Nat → Int) (D B c : Int) (m e : Nat) : Nat → Int := if e ≤ m then up1 (mT2 f D B c m) (m - e) 0 else mT2 f D B c m
def mX (f : Nat → Int) (D B c : Int) (m e : Nat) : Int := if e ≤ m then mT2 f D B c m (m - e) else 0
/-- what the lots don't pay of a bill -/
def mL (f : Nat → Int) (D B c : Int) (m q : Nat) : Int := rmn (mT1 f D c m) B q
def mA (g : Nat → Int) (D c L X : Int) (w : Nat) : Int := if w = 0 then D - mn D c else if w = 1 then 0 else if w = 2 then g 2 + L else if w = 4 then g 4 + (g 1 - L) else if w = 5 then g 5 + X else g w
theorem finM {o m e : Nat} {f g : Nat → Int} {c : Int} (hm : m < 72) (he : e ≤ 24) (hc : 0 ≤ c ∧ c < 1152921504606846976) (hf : ∀ j, j < 72 → 0 ≤ f j ∧ f j < 1152921504606846976) (hg : 0 ≤ g 0 ∧ g 0 < 1152921504606846976 ∧ 0 ≤ g 1 ∧ g 1 < 1152921504606846976) (h25 : ∀ j, j < 72 → A.2 25 0 o j = oL (f j)) (h26 : ∀ w, w < 6 → A.2 26 0 o w = oL (g w)) :
    ∃ A', Fr (pS o) A A' ∧ (∀ j, j < 72 → A'.2 25 0 o j = oL (mT3 f (g 0) (g 1) c m e j)) ∧ (∀ w, w < 6 → A'.2 26 0 o w = oL (mA g (g 0) c (mL f (g 0) (g 1) c m 72) (mX f (g 0) (g 1) c m e) w)) ∧ fX8_finishMonth o (oL c) (oI m) (oI e) A = some (oL (mX f (g 0) (g 1) c m e), A') := by
  have hmn := mn_le (g 0) c
  have hmo := mn_or (g 0) c
  -- the credit
  have ft : ∀ j, j < 72 → 0 ≤ mT1 f (g 0) c m j ∧ mT1 f (g 0) c m j < 4611686018427387904 := fun j hj => by
    rw [mT1, up1]
    have := hf j hj
    have := hf m hm
    split <;> omega
  have e1 : fX8_takeCredit o (oL c) (oI m) A = some (wL (wL A 26 0 o 0 (oL (g 0 - mn (g 0) c))) 25 0 o m (oL (f m + (c - mn (g 0) c)))) := by
    have em : (if g 0 < c then oL (g 0) else oL c) = oL (mn (g 0) c) := by rw [mn]; split <;> rfl
    rw [fX8_takeCredit, show A.2 26 0 o (Int32.toNatClampNeg 0) = oL (g 0) from h26 0 (by omega)]
    simp (disch := omega) only [kI_0, kI_1, kI_2, kI_3, kI_4, kI_5, kI_6, kI_7, kI_8, kI_9, kI_10, kI_12, kI_16, kI_17, kI_19, kI_20, kI_23, kI_24, kI_30, kI_32, kI_36, kI_48, kI_57, kI_59, kI_60, kI_72, kI_80, kI_84, kI_97, kI_98, kI_100, kI_122, kI_148, kI_200, kI_300, kI_1058, kI_1108, kI_1348, kI_1588, kI_5290, kI_7940, kI_100000, kI_e7, kI_e9, kL_0, kL_1, kL_5, kL_9, kL_10, kL_12, kL_23, kL_30, kL_48, kL_57, kL_59, kL_97, kL_100, kL_122, kL_1000, kL_e7, kL_e9, kL_e10, oI_lt, oI_le, oI_eq, oL_lt, oL_le, oL_eq, oI_L, oI_clamp, oI_inb, oL_nz, gd_true, ltb_eq, bd_eq, bd2_eq, rq_none, rq_thr, xc_val, xc_thr, em, eq_self, Nat.reduceEqDiff, Int.reduceLE, Int.reduceLT, Int.reduceEq, Int.reduceToNat, and_true, true_and, and_false, false_and, and_self, if_true, if_false, ite_true, ite_false, reduceCtorEq, cl_nat]
    rw [if_neg (by omega), if_neg (by omega), wL_2, if_neg (by omega), h25 m hm]
    simp only [oI_add, oI_sub, oI_mul, oI_neg, oL_add, oL_sub, oL_mul, oL_neg, oL_I]
  generalize hA1 : wL (wL A 26 0 o 0 (oL (g 0 - mn (g 0) c))) 25 0 o m (oL (f m + (c - mn (g 0) c))) = A1 at e1
  have F1 : Fr (pS o) A A1 := by rw [← hA1]; exact ((Fr.refl _).wL (pS_26 o 0)).wL (pS_25 o 0)
  have a25 : ∀ j, j < 72 → A1.2 25 0 o j = oL (mT1 f (g 0) c m j) := fun j hj => by
    rw [← hA1, wL_2, mT1, up1]
    by_cases ej : j = m
    · rw [if_pos ⟨rfl, rfl, rfl, ej⟩, if_pos ej]
    · rw [if_neg (by omega), if_neg ej, wL_2, if_neg (by omega)]; exact h25 j hj
  have a26 : ∀ w, w < 6 → A1.2 26 0 o w = oL (if w = 0 then g 0 - mn (g 0) c else g w) := fun w hw => by
    rw [← hA1, wL_2, if_neg (by omega), wL_2]
    by_cases ew : w = 0
    · rw [if_pos ⟨rfl, rfl, rfl, ew⟩, if_pos ew]
    · rw [if_neg (by omega), if_neg ew]; exact h26 w hw
  clear hA1
  -- the bill
  obtain ⟨A2, F2, b26, b25, e2⟩ := pay (A := A1) (o := o) (x := g 1) (by omega) ft a25
  have e3 : fX8_payBill o A1 = some (wL (wL (wL A2 26 0 o 4 (oL (g 4 + (g 1 - mL f (g 0) (g 1) c m 72)))) 26 0 o 2 (oL (g 2 + mL f (g 0) (g 1) c m 72))) 26 0 o 1 (oL 0)) := by
    rw [fX8_payBill, show A1.2 26 0 o (Int32.toNatClampNeg 1) = oL (g 1) from a26 1 (by omega), ltb_eq, e2]
    simp (disch := omega) only [kI_0, kI_1, kI_2, kI_3, kI_4, kI_5, kI_6, kI_7, kI_8, kI_9, kI_10, kI_12, kI_16, kI_17, kI_19, kI_20, kI_23, kI_24, kI_30, kI_32, kI_36, kI_48, kI_57, kI_59, kI_60, kI_72, kI_80, kI_84, kI_97, kI_98, kI_100, kI_122, kI_148, kI_200, kI_300, kI_1058, kI_1108, kI_1348, kI_1588, kI_5290, kI_7940, kI_100000, kI_e7, kI_e9, kL_0, kL_1, kL_5, kL_9, kL_10, kL_12, kL_23, kL_30, kL_48, kL_57, kL_59, kL_97, kL_100, kL_122, kL_1000, kL_e7, kL_e9, kL_e10, oI_lt, oI_le, oI_eq, oL_lt, oL_le, oL_eq, oI_L, oI_clamp, oI_inb, oL_nz, gd_true, ltb_eq, bd_eq, bd2_eq, rq_none, rq_thr, xc_val, xc_thr, eq_self, Nat.reduceEqDiff, Int.reduceLE, Int.reduceLT, Int.reduceEq, Int.reduceToNat, and_true, true_and, and_false, false_and, and_self, if_true, if_false, ite_true, ite_false, reduceCtorEq, cl_nat]
    rw [wL_2, if_neg (by omega), b26, b26, a26 4 (by omega), a26 2 (by omega), if_neg (by omega), if_neg (by omega)]
    simp only [oI_add, oI_sub, oI_mul, oI_neg, oL_add, oL_sub, oL_mul, oL_neg, oL_I]
    rfl
  generalize hA3 : wL (wL (wL A2 26 0 o 4 (oL (g 4 + (g 1 - mL f (g 0) (g 1) c m 72)))) 26 0 o 2 (oL (g 2 + mL f (g 0) (g 1) c m 72))) 26 0 o 1 (oL 0) = A3 at e3
  have F3 : Fr (pS o) A A3 := by rw [← hA3]; exact (((F1.trans F2).wL (pS_26 o 0)).wL (pS_26 o 0)).wL (pS_26 o 0)
  have c25 : ∀ j, j < 72 → A3.2 25 0 o j = oL (mT2 f (g 0) (g 1) c m j) := fun j hj => by
    rw [← hA3, wL_2, if_neg (by omega), wL_2, if_neg (by omega), wL_2, if_neg (by omega)]; exact b25 j hj
  have c26 : ∀ w, w < 6 → A3.2 26 0 o w = oL (if w = 0 then g 0 - mn (g 0) c else if w = 1 then 0 else if w = 2 then g 2 + mL f (g 0) (g 1) c m 72 else if w = 4 then g 4 + (g 1 - mL f (g 0) (g 1) c m 72) else g w) := fun w hw => by
    rw [← hA3, wL_2]
    by_cases w1 : w = 1
    · rw [if_pos ⟨rfl, rfl, rfl, w1⟩, if_neg (by omega), if_pos w1]
    · rw [if_neg (by omega), wL_2]
      by_cases w2 : w = 2
      · rw [if_pos ⟨rfl, rfl, rfl, w2⟩, if_neg (by omega), if_neg w1, if_pos w2]
      · rw [if_neg (by omega), wL_2]
        by_cases w4 : w = 4
        · rw [if_pos ⟨rfl, rfl, rfl, w4⟩, if_neg (by omega), if_neg w1, if_neg w2, if_pos w4]
        · rw [if_neg (by omega), b26, a26 w hw, if_neg (c := w = 1) w1, if_neg w2, if_neg w4]
  clear hA3
  -- what expires
  rw [fX8_finishMonth, e1, bd_eq, e3, bd_eq, oI_sub]
  by_cases ee : e ≤ m
  · refine ⟨wL (wL A3 25 0 o (m - e) (oL 0)) 26 0 o 5 (oL (g 5 + mT2 f (g 0) (g 1) c m (m - e))), (F3.wL (pS_25 o 0)).wL (pS_26 o 0), fun j hj => ?_, fun w hw => ?_, ?_⟩
    · rw [wL_2, if_neg (by omega), wL_2, mT3, if_pos ee, up1]
      by_cases ej : j = m - e
      · rw [if_pos ⟨rfl, rfl, rfl, ej⟩, if_pos ej]
      · rw [if_neg (by omega), if_neg ej]; exact c25 j hj
    · rw [wL_2, mA, mX, if_pos ee]
      by_cases w5 : w = 5
      · rw [if_pos ⟨rfl, rfl, rfl, w5⟩, if_neg (by omega), if_neg (by omega), if_neg (by omega), if_neg (by omega), if_pos w5]
      · rw [if_neg (by omega), wL_2, if_neg (by omega), c26 w hw, if_neg (c := w = 5) w5]
    · rw [fX8_takeExpiredLot, mX, if_pos ee]
      simp (disch := omega) only [kI_0, kI_1, kI_2, kI_3, kI_4, kI_5, kI_6, kI_7, kI_8, kI_9, kI_10, kI_12, kI_16, kI_17, kI_19, kI_20, kI_23, kI_24, kI_30, kI_32, kI_36, kI_48, kI_57, kI_59, kI_60, kI_72, kI_80, kI_84, kI_97, kI_98, kI_100, kI_122, kI_148, kI_200, kI_300, kI_1058, kI_1108, kI_1348, kI_1588, kI_5290, kI_7940, kI_100000, kI_e7, kI_e9, kL_0, kL_1, kL_5, kL_9, kL_10, kL_12, kL_23, kL_30, kL_48, kL_57, kL_59, kL_97, kL_100, kL_122, kL_1000, kL_e7, kL_e9, kL_e10, oI_lt, oI_le, oI_eq, oL_lt, oL_le, oL_eq, oI_L, oI_clamp, oI_inb, oL_nz, gd_true, ltb_eq, bd_eq, bd2_eq, rq_none, rq_thr, xc_val, xc_thr, eq_self, Nat.reduceEqDiff, Int.reduceLE, Int.reduceLT, Int.reduceEq, Int.reduceToNat, and_true, true_and, and_false, false_and, and_self, if_true, if_false, ite_true, ite_false, reduceCtorEq]
      rw [if_neg (by omega), if_pos (by omega), show ((m : Int) - (e : Int)).toNat = m - e by omega, c25 (m - e) (by omega), wL_2, if_neg (by omega), c26 5 (by omega)]
      simp only [oI_add, oI_sub, oI_mul, oI_neg, oL_add, oL_sub, oL_mul, oL_neg, oL_I]
      rfl
  · refine ⟨A3, F3, fun j hj => ?_, fun w hw => ?_, ?_⟩
    · rw [mT3, if_neg ee]; exact c25 j hj
    · rw [c26 w hw, mA, mX, if_neg ee]
      congr 1
      split <;> try rfl
      split <;> try rfl
      split <;> try rfl
      split <;> try rfl
      split
      · rename_i q; rw [q]; omega
      · rfl
    · rw [fX8_takeExpiredLot, mX, if_neg ee]
      simp (disch := omega) only [kI_0, kI_1, kI_2, kI_3, kI_4, kI_5, kI_6, kI_7, kI_8, kI_9, kI_10, kI_12, kI_16, kI_17, kI_19, kI_20, kI_23, kI_24, kI_30, kI_32, kI_36, kI_48, kI_57, kI_59, kI_60, kI_72, kI_80, kI_84, kI_97, kI_98, kI_100, kI_122, kI_148, kI_200, kI_300, kI_1058, kI_1108, kI_1348, kI_1588, kI_5290, kI_7940, kI_100000, kI_e7, kI_e9, kL_0, kL_1, kL_5, kL_9, kL_10, kL_12, kL_23, kL_30, kL_48, kL_57, kL_59, kL_97, kL_100, kL_122, kL_1000, kL_e7, kL_e9, kL_e10, oI_lt, oI_le, oI_eq, oL_lt, oL_le, oL_eq, oI_L, oI_clamp, oI_inb, oL_nz, gd_true, ltb_eq, bd_eq, bd2_eq, rq_none, rq_thr, xc_val, xc_thr, eq_self, Nat.reduceEqDiff, Int.reduceLE, Int.reduceLT, Int.reduceEq, Int.reduceToNat, and_true, true_and, and_false, false_and, and_self, if_true, if_false, ite_true, ite_false, reduceCtorEq]
      rw [if_pos (by omega), bd2_eq]
end
