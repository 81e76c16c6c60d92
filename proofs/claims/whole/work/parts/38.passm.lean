def p37 (c _ _ : Nat) : Bool := c == 37 || c == 38
theorem p37_wk {A A' : sM} (h : Fr p37 A A') : Fr wkZ A A' := h.mono fun c k o hq => by
  simp only [wkZ, p37] at hq ⊢
  by_cases e : c = 37
  · subst e; simp at hq
  · by_cases e2 : c = 38
    · subst e2; simp at hq
    · simp [e, e2]
def pK (c _ _ : Nat) : Bool := c == 12 || c == 13
theorem pK_wk {A A' : sM} (h : Fr pK A A') : Fr wkA A A' := h.mono fun c k o hq => by
  simp only [wkA, pK, Bool.or_eq_false_iff] at hq ⊢; simp only [hq, and_self]
abbrev toS (s : sS) : Nat → Int := fun i => sB s i 5
abbrev pcS (s : sS) : Nat → Int := fun i => sB s i 6
theorem AS_of {s : sS} {N : Nat} (h4 : W4 s N) : ∃ d, AS (toS s) (pcS s) N d := by
  obtain ⟨h1, d, h2⟩ := h4
  refine ⟨d, fun i hi => ?_⟩
  rcases h1 i hi with q | ⟨-, t, ht, q, -, q3⟩
  · exact Or.inl q
  · exact Or.inr ⟨t, ht, q, h2 i t hi ht q, q3⟩
section
variable {A Z : sM} {s : sS} {N n b : Nat} {c tot : Nat → Int} {d : Nat → Nat}
theorem to_rg (hA : AS (toS s) (pcS s) N d) {i : Nat} (hi : i < N) : -1 ≤ sB s i 5 ∧ sB s i 5 < N := by
  rcases hA i hi with q | ⟨k, hk, q, -⟩
  · have q2 : sB s i 5 = -1 := q
    omega
  · have q2 : sB s i 5 = (k : Int) := q
    omega
theorem isx_t (hZ : ZR (zA Z) (zB Z) s) (h1 : W1 s N) (hA : AS (toS s) (pcS s) N d) {P : Nat → Bool} (h38 : ∀ j, j < N → Z.1 38 0 0 j = oI (if P j = true then 1 else 0)) {k : Nat} (hk : k < N) (x y : Option Int32) :
    ∀ (fuel i : Nat), i ≤ N → N - i < fuel → (∀ j, i ≤ j → j < N → toS s j = (k : Int) → P j = true) → fX10_isNext_L13 (oI k) Z x y fuel (oI i) = y := by
  obtain ⟨_, _, _, _, _, _, _, g7, hN⟩ := id h1
  intro fuel
  induction fuel with
  | zero => intro i _ h; omega
  | succ fuel ih =>
    intro i hi hfu hp
    rw [fX10_isNext_L13]
    simp (disch := omega) only [kI_0, kI_1, kI_2, kI_3, kI_4, kI_5, kI_6, kI_7, kI_8, kI_9, kI_10, kI_12, kI_16, kI_17, kI_19, kI_20, kI_23, kI_24, kI_30, kI_32, kI_36, kI_48, kI_57, kI_59, kI_60, kI_72, kI_80, kI_84, kI_97, kI_98, kI_100, kI_122, kI_148, kI_200, kI_300, kI_1058, kI_1108, kI_1348, kI_1588, kI_5290, kI_7940, kI_100000, kI_e7, kI_e9, kL_0, kL_1, kL_5, kL_9, kL_10, kL_12, kL_23, kL_30, kL_48, kL_57, kL_59, kL_97, kL_100, kL_122, kL_1000, kL_e7, kL_e9, kL_e10, oI_lt, oI_le, oI_eq, oL_lt, oL_le, oL_eq, oI_L, oI_clamp, oI_inb, oL_nz, eq_self, Nat.reduceEqDiff, Int.reduceLE, Int.reduceLT, Int.reduceEq, Int.reduceToNat, and_true, true_and, and_false, false_and, and_self, if_true, if_false, ite_true, ite_false, reduceCtorEq, Zg hZ, g7]
    by_cases e : i = N
    · rw [if_pos (by omega)]
    · have hto := to_rg hA (show i < N by omega)
      rw [if_neg (by omega), ofM5 hZ (by omega), bd_eq]
      simp (disch := omega) only [oI_lt, oI_le, oI_eq, oL_lt, oL_le, oL_eq, oI_L, oI_clamp, oI_inb, oL_nz, gd_true, ltb_eq, bd_eq, bd2_eq, rq_none, rq_thr, xc_val, xc_thr, cl_nat, oI_add, oI_sub, oI_mul, oI_neg, oL_add, oL_sub, oL_mul, oL_neg, oL_I, nat1, h38 i (show i < N by omega)]
      have hn := ih (i + 1) (by omega) (by omega) (fun j h2 h3 h4 => hp j (by omega) h3 h4)
      by_cases e2 : sB s i 5 = (k : Int)
      · simp only [if_pos e2, hp i (by omega) (by omega) e2]
        simp (disch := omega) only [oI_lt, oI_le, oI_eq, oL_lt, oL_le, oL_eq, oI_L, oI_clamp, oI_inb, oL_nz, eq_self, Nat.reduceEqDiff, Int.reduceLE, Int.reduceLT, Int.reduceEq, Int.reduceToNat, and_true, true_and, and_false, false_and, and_self, if_true, if_false, ite_true, ite_false, reduceCtorEq]
        exact hn
      · rw [if_neg e2]; exact hn
theorem isx_f (hZ : ZR (zA Z) (zB Z) s) (h1 : W1 s N) (hA : AS (toS s) (pcS s) N d) {P : Nat → Bool} (h38 : ∀ j, j < N → Z.1 38 0 0 j = oI (if P j = true then 1 else 0)) {k q : Nat} (hk : k < N) (hq : q < N) (hqt : toS s q = (k : Int)) (hqp : P q = false) (x y : Option Int32) :
    ∀ (fuel i : Nat), i ≤ q → N - i < fuel → fX10_isNext_L13 (oI k) Z x y fuel (oI i) = x := by
  obtain ⟨_, _, _, _, _, _, _, g7, hN⟩ := id h1
  intro fuel
  induction fuel with
  | zero => intro i _ h; omega
  | succ fuel ih =>
    intro i hi hfu
    have hto := to_rg hA (show i < N by omega)
    rw [fX10_isNext_L13]
    simp (disch := omega) only [kI_0, kI_1, kI_2, kI_3, kI_4, kI_5, kI_6, kI_7, kI_8, kI_9, kI_10, kI_12, kI_16, kI_17, kI_19, kI_20, kI_23, kI_24, kI_30, kI_32, kI_36, kI_48, kI_57, kI_59, kI_60, kI_72, kI_80, kI_84, kI_97, kI_98, kI_100, kI_122, kI_148, kI_200, kI_300, kI_1058, kI_1108, kI_1348, kI_1588, kI_5290, kI_7940, kI_100000, kI_e7, kI_e9, kL_0, kL_1, kL_5, kL_9, kL_10, kL_12, kL_23, kL_30, kL_48, kL_57, kL_59, kL_97, kL_100, kL_122, kL_1000, kL_e7, kL_e9, kL_e10, oI_lt, oI_le, oI_eq, oL_lt, oL_le, oL_eq, oI_L, oI_clamp, oI_inb, oL_nz, eq_self, Nat.reduceEqDiff, Int.reduceLE, Int.reduceLT, Int.reduceEq, Int.reduceToNat, and_true, true_and, and_false, false_and, and_self, if_true, if_false, ite_true, ite_false, reduceCtorEq, Zg hZ, g7]
    rw [if_neg (by omega), ofM5 hZ (by omega), bd_eq]
    simp (disch := omega) only [oI_lt, oI_le, oI_eq, oL_lt, oL_le, oL_eq, oI_L, oI_clamp, oI_inb, oL_nz, gd_true, ltb_eq, bd_eq, bd2_eq, rq_none, rq_thr, xc_val, xc_thr, cl_nat, oI_add, oI_sub, oI_mul, oI_neg, oL_add, oL_sub, oL_mul, oL_neg, oL_I, nat1, h38 i (show i < N by omega)]
    by_cases e2 : sB s i 5 = (k : Int)
    · cases hpi : P i with
      | true =>
        have e3 : ¬ i = q := fun e => by rw [e, hqp] at hpi; cases hpi
        simp only [if_pos e2, hpi]
        simp (disch := omega) only [oI_lt, oI_le, oI_eq, oL_lt, oL_le, oL_eq, oI_L, oI_clamp, oI_inb, oL_nz, eq_self, Nat.reduceEqDiff, Int.reduceLE, Int.reduceLT, Int.reduceEq, Int.reduceToNat, and_true, true_and, and_false, false_and, and_self, if_true, if_false, ite_true, ite_false, reduceCtorEq]
        exact ih (i + 1) (by omega) (by omega)
      | false =>
        simp only [if_pos e2, hpi, Bool.false_eq_true]
        simp (disch := omega) only [oI_lt, oI_le, oI_eq, oL_lt, oL_le, oL_eq, oI_L, oI_clamp, oI_inb, oL_nz, eq_self, Nat.reduceEqDiff, Int.reduceLE, Int.reduceLT, Int.reduceEq, Int.reduceToNat, and_true, true_and, and_false, false_and, and_self, if_true, if_false, ite_true, ite_false, reduceCtorEq]
    · have e3 : ¬ i = q := fun e => e2 (by rw [e]; exact hqt)
      rw [if_neg e2]; exact ih (i + 1) (by omega) (by omega)
theorem isN_t (hZ : ZR (zA Z) (zB Z) s) (h1 : W1 s N) (hA : AS (toS s) (pcS s) N d) {P : Nat → Bool} (h38 : ∀ j, j < N → Z.1 38 0 0 j = oI (if P j = true then 1 else 0)) {k : Nat} (hk : k < N) (hn : nxt (toS s) N P k) : fX10_isNext (oI k) Z = some (oI 1) := by
  have hN := h1.2.2.2.2.2.2.2.2
  rw [fX10_isNext]
  simp (disch := omega) only [kI_0, kI_1, kI_2, kI_3, kI_4, kI_5, kI_6, kI_7, kI_8, kI_9, kI_10, kI_12, kI_16, kI_17, kI_19, kI_20, kI_23, kI_24, kI_30, kI_32, kI_36, kI_48, kI_57, kI_59, kI_60, kI_72, kI_80, kI_84, kI_97, kI_98, kI_100, kI_122, kI_148, kI_200, kI_300, kI_1058, kI_1108, kI_1348, kI_1588, kI_5290, kI_7940, kI_100000, kI_e7, kI_e9, kL_0, kL_1, kL_5, kL_9, kL_10, kL_12, kL_23, kL_30, kL_48, kL_57, kL_59, kL_97, kL_100, kL_122, kL_1000, kL_e7, kL_e9, kL_e10, oI_lt, oI_le, oI_eq, oL_lt, oL_le, oL_eq, oI_L, oI_clamp, oI_inb, oL_nz, gd_true, ltb_eq, bd_eq, bd2_eq, rq_none, rq_thr, xc_val, xc_thr, cl_nat, h38 k hk, hn.1]
  simp (disch := omega) only [oI_lt, oI_le, oI_eq, oL_lt, oL_le, oL_eq, oI_L, oI_clamp, oI_inb, oL_nz, eq_self, Nat.reduceEqDiff, Int.reduceLE, Int.reduceLT, Int.reduceEq, Int.reduceToNat, and_true, true_and, and_false, false_and, and_self, if_true, if_false, ite_true, ite_false, reduceCtorEq]
  rw [show oI 0 = oI (0 : Nat) from rfl]
  exact isx_t hZ h1 hA h38 hk _ _ 10000 0 (by omega) (by omega) (fun j _ h2 h3 => hn.2 j h2 h3)
theorem isN_f (hZ : ZR (zA Z) (zB Z) s) (h1 : W1 s N) (hA : AS (toS s) (pcS s) N d) {P : Nat → Bool} (h38 : ∀ j, j < N → Z.1 38 0 0 j = oI (if P j = true then 1 else 0)) {k : Nat} (hk : k < N) (hn : ¬ nxt (toS s) N P k) : fX10_isNext (oI k) Z = some (oI 0) := by
  have hN := h1.2.2.2.2.2.2.2.2
  rw [fX10_isNext]
  cases hpk : P k with
  | true =>
    simp (disch := omega) only [kI_0, kI_1, kI_2, kI_3, kI_4, kI_5, kI_6, kI_7, kI_8, kI_9, kI_10, kI_12, kI_16, kI_17, kI_19, kI_20, kI_23, kI_24, kI_30, kI_32, kI_36, kI_48, kI_57, kI_59, kI_60, kI_72, kI_80, kI_84, kI_97, kI_98, kI_100, kI_122, kI_148, kI_200, kI_300, kI_1058, kI_1108, kI_1348, kI_1588, kI_5290, kI_7940, kI_100000, kI_e7, kI_e9, kL_0, kL_1, kL_5, kL_9, kL_10, kL_12, kL_23, kL_30, kL_48, kL_57, kL_59, kL_97, kL_100, kL_122, kL_1000, kL_e7, kL_e9, kL_e10, oI_lt, oI_le, oI_eq, oL_lt, oL_le, oL_eq, oI_L, oI_clamp, oI_inb, oL_nz, gd_true, ltb_eq, bd_eq, bd2_eq, rq_none, rq_thr, xc_val, xc_thr, cl_nat, h38 k hk, hpk]
    simp (disch := omega) only [oI_lt, oI_le, oI_eq, oL_lt, oL_le, oL_eq, oI_L, oI_clamp, oI_inb, oL_nz, eq_self, Nat.reduceEqDiff, Int.reduceLE, Int.reduceLT, Int.reduceEq, Int.reduceToNat, and_true, true_and, and_false, false_and, and_self, if_true, if_false, ite_true, ite_false, reduceCtorEq]
  | false =>
    simp (disch := omega) only [kI_0, kI_1, kI_2, kI_3, kI_4, kI_5, kI_6, kI_7, kI_8, kI_9, kI_10, kI_12, kI_16, kI_17, kI_19, kI_20, kI_23, kI_24, kI_30, kI_32, kI_36, kI_48, kI_57, kI_59, kI_60, kI_72, kI_80, kI_84, kI_97, kI_98, kI_100, kI_122, kI_148, kI_200, kI_300, kI_1058, kI_1108, kI_1348, kI_1588, kI_5290, kI_7940, kI_100000, kI_e7, kI_e9, kL_0, kL_1, kL_5, kL_9, kL_10, kL_12, kL_23, kL_30, kL_48, kL_57, kL_59, kL_97, kL_100, kL_122, kL_1000, kL_e7, kL_e9, kL_e10, oI_lt, oI_le, oI_eq, oL_lt, oL_le, oL_eq, oI_L, oI_clamp, oI_inb, oL_nz, gd_true, ltb_eq, bd_eq, bd2_eq, rq_none, rq_thr, xc_val, xc_thr, cl_nat, h38 k hk, hpk]
    have e2 : ∃ j, j < N ∧ toS s j = (k : Int) ∧ P j = false := Classical.byContradiction fun q => hn ⟨hpk, fun j hj ht => by
      cases hpj : P j with
      | true => rfl
      | false => exact absurd ⟨j, hj, ht, hpj⟩ q⟩
    obtain ⟨q, hq, ht, hpq⟩ := e2
    simp (disch := omega) only [oI_lt, oI_le, oI_eq, oL_lt, oL_le, oL_eq, oI_L, oI_clamp, oI_inb, oL_nz, eq_self, Nat.reduceEqDiff, Int.reduceLE, Int.reduceLT, Int.reduceEq, Int.reduceToNat, and_true, true_and, and_false, false_and, and_self, if_true, if_false, ite_true, ite_false, reduceCtorEq, Bool.false_eq_true]
    exact isx_f hZ h1 hA h38 hk hq ht hpq _ _ 10000 0 (by omega) (by omega)
theorem fnd_L (hZ : ZR (zA Z) (zB Z) s) (h1 : W1 s N) (hA : AS (toS s) (pcS s) N d) {P : Nat → Bool} (h38 : ∀ j, j < N → Z.1 38 0 0 j = oI (if P j = true then 1 else 0)) (x1 : Int32) (kk : Int32 → Option sM) {q : Nat} (hq : q < N) (hqn : nxt (toS s) N P q) :
    ∀ (fuel i : Nat), i ≤ q → N - i < fuel → ∃ k : Nat, k < N ∧ nxt (toS s) N P k ∧ fX10_passesOn_L41 x1 Z kk fuel (oI i) = kk (oI k) := by
  intro fuel
  induction fuel with
  | zero => intro i _ h; omega
  | succ fuel ih =>
    intro i hi hfu
    by_cases e : nxt (toS s) N P i
    · refine ⟨i, by omega, e, ?_⟩
      rw [fX10_passesOn_L41, isN_t hZ h1 hA h38 (by omega) e]
      rfl
    · have e2 : ¬ i = q := fun h => e (by rw [h]; exact hqn)
      obtain ⟨k, k1, k2, k3⟩ := ih (i + 1) (by omega) (by omega)
      refine ⟨k, k1, k2, ?_⟩
      rw [fX10_passesOn_L41, isN_f hZ h1 hA h38 (by omega) e, bd_eq, if_pos (show oI 0 = (0 : Int32) from rfl), ltb_eq, kI_1, oI_add, nat1]
      exact k3
theorem po2_L {Z0 : sM} (hZ0 : ZR (zA Z0) (zB Z0) s) (h1 : W1 s N) (hA : AS (toS s) (pcS s) N d) (hT : TT c (toS s) (pcS s) tot N) (hcs : sumN c N ≤ 1000000000000) (kk : sM → Option sM) :
    ∀ (fuel r : Nat) (P : Nat → Bool) (Z : sM), r ≤ N → N - r < fuel → cnt P N = r → PI c (toS s) (pcS s) tot N P → Fr p37 Z0 Z → (∀ j, j < N → Z.1 38 0 0 j = oI (if P j = true then 1 else 0)) → (∀ j, j < N → Z.2 37 0 0 j = oL (rc c (toS s) (pcS s) tot N P j)) →
    ∃ Z', Fr p37 Z0 Z' ∧ (∀ j, j < N → Z'.2 37 0 0 j = oL (kp c (toS s) (pcS s) tot N j)) ∧ fX10_passesOn_L28 kk fuel (oI r) Z = kk Z' := by
  obtain ⟨_, _, _, _, _, _, _, g7, hN⟩ := id h1
  intro fuel
  induction fuel with
  | zero => intro r P Z _ h; omega
  | succ fuel ih =>
    intro r P Z hr hfu hcn hPI hF h38 h37
    have hZ : ZR (zA Z) (zB Z) s := hZ0.keep (fun k => hF.i rfl) (fun k => hF.l rfl)
    by_cases e : r = N
    · have hall := cnt_all (P := P) (N := N) (by omega)
      refine ⟨Z, hF, fun j hj => by rw [h37 j hj, kp, rc_congr (fun k hk => hall k hk) hj], ?_⟩
      rw [fX10_passesOn_L28]
      simp (disch := omega) only [kI_0, kI_1, kI_2, kI_3, kI_4, kI_5, kI_6, kI_7, kI_8, kI_9, kI_10, kI_12, kI_16, kI_17, kI_19, kI_20, kI_23, kI_24, kI_30, kI_32, kI_36, kI_48, kI_57, kI_59, kI_60, kI_72, kI_80, kI_84, kI_97, kI_98, kI_100, kI_122, kI_148, kI_200, kI_300, kI_1058, kI_1108, kI_1348, kI_1588, kI_5290, kI_7940, kI_100000, kI_e7, kI_e9, kL_0, kL_1, kL_5, kL_9, kL_10, kL_12, kL_23, kL_30, kL_48, kL_57, kL_59, kL_97, kL_100, kL_122, kL_1000, kL_e7, kL_e9, kL_e10, oI_lt, oI_le, oI_eq, oL_lt, oL_le, oL_eq, oI_L, oI_clamp, oI_inb, oL_nz, eq_self, Nat.reduceEqDiff, Int.reduceLE, Int.reduceLT, Int.reduceEq, Int.reduceToNat, and_true, true_and, and_false, false_and, and_self, if_true, if_false, ite_true, ite_false, reduceCtorEq, Zg hZ, g7]
      rw [if_pos (by omega)]
    · obtain ⟨q0, hq0, hpq0⟩ := cnt_ex (P := P) (N := N) (by omega)
      obtain ⟨q, hq, hqn⟩ := nxt_ex hA hq0 hpq0
      rw [fX10_passesOn_L28, if_neg (by simp (disch := omega) only [kI_0, kI_1, kI_2, kI_3, kI_4, kI_5, kI_6, kI_7, kI_8, kI_9, kI_10, kI_12, kI_16, kI_17, kI_19, kI_20, kI_23, kI_24, kI_30, kI_32, kI_36, kI_48, kI_57, kI_59, kI_60, kI_72, kI_80, kI_84, kI_97, kI_98, kI_100, kI_122, kI_148, kI_200, kI_300, kI_1058, kI_1108, kI_1348, kI_1588, kI_5290, kI_7940, kI_100000, kI_e7, kI_e9, kL_0, kL_1, kL_5, kL_9, kL_10, kL_12, kL_23, kL_30, kL_48, kL_57, kL_59, kL_97, kL_100, kL_122, kL_1000, kL_e7, kL_e9, kL_e10, oI_lt, oI_le, oI_eq, oL_lt, oL_le, oL_eq, oI_L, oI_clamp, oI_inb, oL_nz, eq_self, Nat.reduceEqDiff, Int.reduceLE, Int.reduceLT, Int.reduceEq, Int.reduceToNat, and_true, true_and, and_false, false_and, and_self, if_true, if_false, ite_true, ite_false, reduceCtorEq, Zg hZ, g7]; omega), show (0 : Int32) = oI (0 : Nat) from rfl]
      obtain ⟨k, hk, hkn, hf⟩ := fnd_L hZ h1 hA h38 (oI r) (fun x2_2 =>
        gd (inb x2_2 16) (
          ltb (wI Z 38 0 0 x2_2.toNatClampNeg (1 : Int32)) fun Z_4 =>
          Option.bind (fX10_ofMember x2_2 (5 : Int32) Z_4) fun r_5 =>
          ltb (α := sM → Option (sM)) (fun (Z_6 : sM) =>
            ltb (oI r + (1 : Int32)) fun x1_8 =>
            fX10_passesOn_L28 kk fuel x1_8 Z_6) fun kj_7 =>
          if r_5 = (-1 : Int32) then (
            kj_7 Z_4)
          else (
            gd (inb x2_2 16) (
              Option.bind (fX10_ofMember x2_2 (6 : Int32) Z_4) fun r_10 =>
              ltb (((Z_4.2 37 0 0 x2_2.toNatClampNeg) * (r_10.toInt64)) / (100 : Int64)) fun x4_11 =>
              gd (inb x2_2 16) (
                gd (inb x2_2 16) (
                  ltb (wL Z_4 37 0 0 x2_2.toNatClampNeg ((Z_4.2 37 0 0 x2_2.toNatClampNeg) - x4_11)) fun Z_14 =>
                  gd (inb r_5 16) (
                    gd (inb r_5 16) (
                      ltb (wL Z_14 37 0 0 r_5.toNatClampNeg ((Z_14.2 37 0 0 r_5.toNatClampNeg) + x4_11)) fun Z_17 =>
                      kj_7 Z_17)))))))) hq hqn 10000 0 (by omega) (by omega)
      have hto := to_rg hA hk
      have hrt := rc_tot hT hk hkn
      have hr0 := hPI.1 k hk
      have hr1 := sumN_mem hk hPI.1
      have hup := rc_up (c := c) (tot := tot) hA hk hkn.1
      have hPI' := PI_up hA hT hPI hk hkn
      have hcn' := cnt_up hk hkn.1
      rw [hPI.2.1] at hr1
      have hZ4 : ZR (zA (wI Z 38 0 0 k (oI 1))) (zB (wI Z 38 0 0 k (oI 1))) s := hZ.keep (fun _ => rfl) (fun _ => rfl)
      have h38' : ∀ j, j < N → (if 38 = 38 ∧ 0 = 0 ∧ 0 = 0 ∧ j = k then oI 1 else Z.1 38 0 0 j) = oI (if upB P k j = true then 1 else 0) := fun j hj => by
        by_cases ej : j = k
        · rw [if_pos ⟨rfl, rfl, rfl, ej⟩, upB, if_pos ej, if_pos rfl]
        · rw [if_neg (by omega), h38 j hj, upB, if_neg ej]
      rcases hA k hk with e5 | ⟨t, ht, e5, e6, e7⟩
      · obtain ⟨Z', u1, u2, u3⟩ := ih (r + 1) (upB P k) (wI Z 38 0 0 k (oI 1)) (by omega) (by omega) (by omega) hPI' (hF.wI rfl) (fun j hj => by rw [wI_1]; exact h38' j hj) (fun j hj => by
          rw [wI_2, h37 j hj, hup j hj, if_pos e5]
          congr 1
          split
          · rename_i q9; rw [q9]; omega
          · rw [if_neg (by omega)]; omega)
        refine ⟨Z', u1, u2, ?_⟩
        rw [hf]
        simp (disch := omega) only [kI_0, kI_1, kI_2, kI_3, kI_4, kI_5, kI_6, kI_7, kI_8, kI_9, kI_10, kI_12, kI_16, kI_17, kI_19, kI_20, kI_23, kI_24, kI_30, kI_32, kI_36, kI_48, kI_57, kI_59, kI_60, kI_72, kI_80, kI_84, kI_97, kI_98, kI_100, kI_122, kI_148, kI_200, kI_300, kI_1058, kI_1108, kI_1348, kI_1588, kI_5290, kI_7940, kI_100000, kI_e7, kI_e9, kL_0, kL_1, kL_5, kL_9, kL_10, kL_12, kL_23, kL_30, kL_48, kL_57, kL_59, kL_97, kL_100, kL_122, kL_1000, kL_e7, kL_e9, kL_e10, oI_lt, oI_le, oI_eq, oL_lt, oL_le, oL_eq, oI_L, oI_clamp, oI_inb, oL_nz, gd_true, ltb_eq, bd_eq, bd2_eq, rq_none, rq_thr, xc_val, xc_thr, oI_add, oI_sub, oI_mul, oI_neg, oL_add, oL_sub, oL_mul, oL_neg, oL_I, cl_nat, nat1, ofM5 hZ4, show sB s k 5 = -1 from e5, eq_self, Nat.reduceEqDiff, Int.reduceLE, Int.reduceLT, Int.reduceEq, Int.reduceToNat, and_true, true_and, and_false, false_and, and_self, if_true, if_false, ite_true, ite_false, reduceCtorEq]
        exact u3
      · have hpb := ppc_bd (p := pcS s) (x := tot k) (j := k) (by omega) e7
        have e7' : 1 ≤ sB s k 6 ∧ sB s k 6 ≤ 100 := e7
        have hmul : 0 ≤ tot k * sB s k 6 ∧ tot k * sB s k 6 ≤ 100000000000000 := by
          refine ⟨Int.mul_nonneg (by omega) (by omega), ?_⟩
          have := Int.mul_le_mul (show tot k ≤ 1000000000000 by omega) e7'.2 (by omega) (by omega)
          omega
        have hne : ¬ t = k := fun e => by subst e; omega
        obtain ⟨Z', u1, u2, u3⟩ := ih (r + 1) (upB P k) (wL (wL (wI Z 38 0 0 k (oI 1)) 37 0 0 k (oL (tot k - ppc (pcS s) (tot k) k))) 37 0 0 t (oL (rc c (toS s) (pcS s) tot N P t + ppc (pcS s) (tot k) k))) (by omega) (by omega) (by omega) hPI' (((hF.wI rfl).wL rfl).wL rfl) (fun j hj => by rw [wL_1, wL_1, wI_1]; exact h38' j hj) (fun j hj => by
          rw [wL_2, hup j hj]
          by_cases ej : j = t
          · rw [if_pos ⟨rfl, rfl, rfl, ej⟩, if_neg (by omega), if_pos (by omega), ej]
          · rw [if_neg (by omega), wL_2]
            by_cases ek : j = k
            · rw [if_pos ⟨rfl, rfl, rfl, ek⟩, if_pos ek, if_neg (by omega), hrt]
            · rw [if_neg (by omega), if_neg ek, if_neg (by omega), wI_2, h37 j hj]
              congr 1; omega)
        refine ⟨Z', u1, u2, ?_⟩
        rw [hf]
        simp (disch := omega) only [kI_0, kI_1, kI_2, kI_3, kI_4, kI_5, kI_6, kI_7, kI_8, kI_9, kI_10, kI_12, kI_16, kI_17, kI_19, kI_20, kI_23, kI_24, kI_30, kI_32, kI_36, kI_48, kI_57, kI_59, kI_60, kI_72, kI_80, kI_84, kI_97, kI_98, kI_100, kI_122, kI_148, kI_200, kI_300, kI_1058, kI_1108, kI_1348, kI_1588, kI_5290, kI_7940, kI_100000, kI_e7, kI_e9, kL_0, kL_1, kL_5, kL_9, kL_10, kL_12, kL_23, kL_30, kL_48, kL_57, kL_59, kL_97, kL_100, kL_122, kL_1000, kL_e7, kL_e9, kL_e10, oI_lt, oI_le, oI_eq, oL_lt, oL_le, oL_eq, oI_L, oI_clamp, oI_inb, oL_nz, gd_true, ltb_eq, bd_eq, bd2_eq, rq_none, rq_thr, xc_val, xc_thr, oI_add, oI_sub, oI_mul, oI_neg, oL_add, oL_sub, oL_mul, oL_neg, oL_I, cl_nat, nat1, ofM5 hZ4, show sB s k 5 = (t : Int) from e5, ofM6 hZ4, wI_2, h37 k hk, hrt, oL_div, eq_self, Nat.reduceEqDiff, Int.reduceLE, Int.reduceLT, Int.reduceEq, Int.reduceToNat, and_true, true_and, and_false, false_and, and_self, if_true, if_false, ite_true, ite_false, reduceCtorEq]
        rw [wL_2, if_neg (by omega), wI_2, h37 t ht, oL_add]
        exact u3
theorem po1_L {Z0 : sM} (hZ0 : ZR (zA Z0) (zB Z0) s) (h1 : W1 s N) (kk : sM → Option sM) : ∀ (fuel i : Nat) (Z : sM), i ≤ N → N - i < fuel → Fr p37 Z0 Z → (∀ j, Z.2 37 0 0 j = Z0.2 37 0 0 j) → (∀ j, j < i → Z.1 38 0 0 j = oI 0) →
    ∃ Z', Fr p37 Z0 Z' ∧ (∀ j, Z'.2 37 0 0 j = Z0.2 37 0 0 j) ∧ (∀ j, j < N → Z'.1 38 0 0 j = oI 0) ∧ fX10_passesOn_L2 kk fuel (oI i) Z = kk Z' := by
  obtain ⟨_, _, _, _, _, _, _, g7, hN⟩ := id h1
  intro fuel
  induction fuel with
  | zero => intro i Z _ h; omega
  | succ fuel ih =>
    intro i Z hi hfu hF h7 h8
    have hZ : ZR (zA Z) (zB Z) s := hZ0.keep (fun k => hF.i rfl) (fun k => hF.l rfl)
    rw [fX10_passesOn_L2]
    simp (disch := omega) only [kI_0, kI_1, kI_2, kI_3, kI_4, kI_5, kI_6, kI_7, kI_8, kI_9, kI_10, kI_12, kI_16, kI_17, kI_19, kI_20, kI_23, kI_24, kI_30, kI_32, kI_36, kI_48, kI_57, kI_59, kI_60, kI_72, kI_80, kI_84, kI_97, kI_98, kI_100, kI_122, kI_148, kI_200, kI_300, kI_1058, kI_1108, kI_1348, kI_1588, kI_5290, kI_7940, kI_100000, kI_e7, kI_e9, kL_0, kL_1, kL_5, kL_9, kL_10, kL_12, kL_23, kL_30, kL_48, kL_57, kL_59, kL_97, kL_100, kL_122, kL_1000, kL_e7, kL_e9, kL_e10, oI_lt, oI_le, oI_eq, oL_lt, oL_le, oL_eq, oI_L, oI_clamp, oI_inb, oL_nz, eq_self, Nat.reduceEqDiff, Int.reduceLE, Int.reduceLT, Int.reduceEq, Int.reduceToNat, and_true, true_and, and_false, false_and, and_self, if_true, if_false, ite_true, ite_false, reduceCtorEq, Zg hZ, g7]
    by_cases e : i = N
    · exact ⟨Z, hF, h7, fun j hj => h8 j (by omega), by rw [if_pos (by omega)]⟩
    · obtain ⟨Z', q1, q2, q3, q4⟩ := ih (i + 1) (wI Z 38 0 0 i (oI 0)) (by omega) (by omega) (hF.wI rfl) (fun j => by rw [wI_2]; exact h7 j) (fun j hj => by
        rw [wI_1]
        by_cases ej : j = i
        · rw [if_pos ⟨rfl, rfl, rfl, ej⟩]
        · rw [if_neg (by omega)]; exact h8 j (by omega))
      refine ⟨Z', q1, q2, q3, ?_⟩
      rw [if_neg (by omega)]
      simp (disch := omega) only [oI_lt, oI_le, oI_eq, oL_lt, oL_le, oL_eq, oI_L, oI_clamp, oI_inb, oL_nz, gd_true, ltb_eq, bd_eq, bd2_eq, rq_none, rq_thr, xc_val, xc_thr, oI_add, oI_sub, oI_mul, oI_neg, oL_add, oL_sub, oL_mul, oL_neg, oL_I, cl_nat, nat1]
      exact q4
theorem poZ (hZ : ZR (zA Z) (zB Z) s) (h1 : W1 s N) (hA : AS (toS s) (pcS s) N d) (hT : TT c (toS s) (pcS s) tot N) (hc : ∀ k, k < N → 0 ≤ c k) (hcs : sumN c N ≤ 1000000000000) (h37 : ∀ j, j < N → Z.2 37 0 0 j = oL (c j)) :
    ∃ Z', Fr p37 Z Z' ∧ (∀ j, j < N → Z'.2 37 0 0 j = oL (kp c (toS s) (pcS s) tot N j)) ∧ fX10_passesOn Z = some Z' := by
  have hN := h1.2.2.2.2.2.2.2.2
  obtain ⟨Z1, q1, q2, q3, q4⟩ := po1_L hZ h1 (fun Z_1 => fX10_passesOn_L28 (fun Z => some Z) 10000 (0 : Int32) Z_1) 10000 0 Z (by omega) (by omega) (Fr.refl _) (fun _ => rfl) (fun j hj => by omega)
  have hrc : ∀ j, rc c (toS s) (pcS s) tot N (fun _ => false) j = c j := fun j => by
    rw [rc, sumN_zero (fun j hj => if_neg (by simp)), if_neg (by simp)]; omega
  obtain ⟨Z', r1, r2, r3⟩ := po2_L hZ h1 hA hT hcs (fun Z => some Z) 10000 0 (fun _ => false) Z1 (by omega) (by omega) (sumN_zero fun j hj => by simp) (PI_0 hc) q1 (fun j hj => by rw [q3 j hj]; simp) (fun j hj => by rw [q2 j, h37 j hj, hrc])
  refine ⟨Z', r1, r2, ?_⟩
  rw [fX10_passesOn]
  exact q4.trans r3
end
