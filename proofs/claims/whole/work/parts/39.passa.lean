theorem rc_0 (c t p tot : Nat → Int) (N j : Nat) : rc c t p tot N (fun _ => false) j = c j := by
  rw [rc, sumN_zero (fun j hj => if_neg (by simp)), if_neg (by simp)]; omega
/-- how many have still to pass on to each one -/
def aw (t : Nat → Int) (N : Nat) (P : Nat → Bool) (k : Nat) : Int := if P k = true then -1 else sumN (fun j => if t j = (k : Int) ∧ P j = false then 1 else 0) N
section
variable {t : Nat → Int} {N : Nat} {P : Nat → Bool}
theorem aw_nxt {k : Nat} (hk : k < N) : aw t N P k = 0 ↔ nxt t N P k := by
  rw [aw]
  have h0 : ∀ j, j < N → (0 : Int) ≤ (if t j = (k : Int) ∧ P j = false then 1 else 0) := fun j _ => by split <;> omega
  constructor
  · intro h
    cases hP : P k with
    | true => rw [hP, if_pos rfl] at h; omega
    | false =>
      rw [hP, if_neg (by simp)] at h
      refine ⟨hP, fun j hj ht => ?_⟩
      cases hpj : P j with
      | true => rfl
      | false =>
        have := sumN_mem (f := fun j => if t j = (k : Int) ∧ P j = false then 1 else 0) hj h0
        rw [h] at this
        simp only [ht, hpj, and_self, if_true] at this
        omega
  · rintro ⟨h1, h2⟩
    rw [h1, if_neg (by simp)]
    refine sumN_zero fun j hj => if_neg ?_
    rintro ⟨a, b⟩
    rw [h2 j hj a] at b
    cases b
theorem aw_rg {k : Nat} : -1 ≤ aw t N P k ∧ aw t N P k ≤ N := by
  rw [aw]
  split
  · omega
  · have h1 : (0 : Int) ≤ sumN (fun j => if t j = (k : Int) ∧ P j = false then 1 else 0) N := sumN_nonneg fun j _ => by split <;> omega
    have h2 : sumN (fun j => if t j = (k : Int) ∧ P j = false then 1 else 0) N ≤ sumN (fun _ => 1) N := sumN_le fun j _ => by split <;> omega
    rw [sumN_const] at h2
    omega
theorem aw_up {k i : Nat} (hk : k < N) (hP : P k = false) (hi : i < N) (hcl : ∀ i, i < N → P i = true → ∀ j, j < N → t j = (i : Int) → P j = true) : aw t N (upB P k) i = if i = k then -1 else if t k = (i : Int) then aw t N P i - 1 else aw t N P i := by
  by_cases e : i = k
  · rw [if_pos e, aw, upB, if_pos e, if_pos rfl]
  · have e1 : upB P k i = P i := if_neg e
    rw [if_neg e, aw, aw, e1]
    by_cases ht : t k = (i : Int)
    · have hpi : P i = false := by
        cases hpi : P i with
        | false => rfl
        | true =>
          have := hcl i hi hpi k hk ht
          rw [hP] at this; cases this
      rw [if_pos ht, hpi, if_neg (by simp), if_neg (by simp), sumN_up (f := fun j => if t j = (i : Int) ∧ P j = false then 1 else 0) (g := fun j => if t j = (i : Int) ∧ upB P k j = false then 1 else 0) hk (fun j hj hn => by simp only [upB, if_neg hn])]
      have e2 : upB P k k = true := if_pos rfl
      simp [e2, ht, hP]
      omega
    · rw [if_neg ht]
      split
      · rfl
      · refine sumN_congr fun j hj => ?_
        by_cases ej : j = k
        · subst ej
          rw [if_neg (fun q => ht q.1), if_neg (fun q => ht q.1)]
        · simp only [upB, if_neg ej]
end
section
variable {A Z : sM} {s : sS} {N n b : Nat} {c tot : Nat → Int} {d : Nat → Nat}
theorem hasA (hS : SR A 0 s N) (hN : N ≤ 16) (hA : AS (toS s) (pcS s) N d) {i : Nat} (hi : i < N) : fX1_hasAssignee 0 (16 * 0 + i) A = some (oI (if sB s i 5 = -1 then 0 else 1)) := by
  have hto := to_rg hA hi
  rw [fX1_hasAssignee, hS.to hi, hS.cnt]
  simp (disch := omega) only [kI_0, kI_1, kI_2, kI_3, kI_4, kI_5, kI_6, kI_7, kI_8, kI_9, kI_10, kI_12, kI_16, kI_17, kI_19, kI_20, kI_23, kI_24, kI_30, kI_32, kI_36, kI_48, kI_57, kI_59, kI_60, kI_72, kI_80, kI_84, kI_97, kI_98, kI_100, kI_122, kI_148, kI_200, kI_300, kI_1058, kI_1108, kI_1348, kI_1588, kI_5290, kI_7940, kI_100000, kI_e7, kI_e9, kL_0, kL_1, kL_5, kL_9, kL_10, kL_12, kL_23, kL_30, kL_48, kL_57, kL_59, kL_97, kL_100, kL_122, kL_1000, kL_e7, kL_e9, kL_e10, oI_lt, oI_le, oI_eq, oL_lt, oL_le, oL_eq, oI_L, oI_clamp, oI_inb, oL_nz]
  by_cases e : sB s i 5 = -1
  · rw [if_pos (by omega), if_pos e]
  · rw [if_neg (by omega), if_neg (by omega), if_neg e]
theorem actA (hS : SR A b s N) {i : Nat} (h3 : W3 s N) (hi : i < N) : fX8_isActive (16 * b + i) A = some (oI (if sB s i 3 = 1 then 1 else 0)) := by
  have := h3.1 i hi
  rw [fX8_isActive, hS.st hi]
  simp (disch := omega) only [kI_0, kI_1, kI_2, kI_3, kI_4, kI_5, kI_6, kI_7, kI_8, kI_9, kI_10, kI_12, kI_16, kI_17, kI_19, kI_20, kI_23, kI_24, kI_30, kI_32, kI_36, kI_48, kI_57, kI_59, kI_60, kI_72, kI_80, kI_84, kI_97, kI_98, kI_100, kI_122, kI_148, kI_200, kI_300, kI_1058, kI_1108, kI_1348, kI_1588, kI_5290, kI_7940, kI_100000, kI_e7, kI_e9, kL_0, kL_1, kL_5, kL_9, kL_10, kL_12, kL_23, kL_30, kL_48, kL_57, kL_59, kL_97, kL_100, kL_122, kL_1000, kL_e7, kL_e9, kL_e10, oI_lt, oI_le, oI_eq, oL_lt, oL_le, oL_eq, oI_L, oI_clamp, oI_inb, oL_nz]
  split <;> rfl
theorem actZ (hZ : ZR (zA Z) (zB Z) s) {i : Nat} (h3 : W3 s N) (hi : i < N) (hN : N ≤ 16) : fX10_isActive (oI i) Z = some (oI (if sB s i 3 = 1 then 1 else 0)) := by
  have := h3.1 i hi
  rw [fX10_isActive]
  simp (disch := omega) only [kI_0, kI_1, kI_2, kI_3, kI_4, kI_5, kI_6, kI_7, kI_8, kI_9, kI_10, kI_12, kI_16, kI_17, kI_19, kI_20, kI_23, kI_24, kI_30, kI_32, kI_36, kI_48, kI_57, kI_59, kI_60, kI_72, kI_80, kI_84, kI_97, kI_98, kI_100, kI_122, kI_148, kI_200, kI_300, kI_1058, kI_1108, kI_1348, kI_1588, kI_5290, kI_7940, kI_100000, kI_e7, kI_e9, kL_0, kL_1, kL_5, kL_9, kL_10, kL_12, kL_23, kL_30, kL_48, kL_57, kL_59, kL_97, kL_100, kL_122, kL_1000, kL_e7, kL_e9, kL_e10, ofM3 hZ, bd_eq, oI_lt, oI_le, oI_eq, oL_lt, oL_le, oL_eq, oI_L, oI_clamp, oI_inb, oL_nz]
  split <;> rfl
/-- the credits that the system's rows hold when those of P have passed on -/
def KA (A0 A : sM) (s : sS) (N : Nat) (c tot : Nat → Int) (P : Nat → Bool) : Prop := Fr pK A0 A ∧ (∀ k, k < N → A.1 12 0 0 k = oI (aw (toS s) N P k)) ∧ (∀ k, k < N → A.2 13 0 0 k = oL (rc c (toS s) (pcS s) tot N P k)) ∧ PI c (toS s) (pcS s) tot N P
theorem pof1 {A0 : sM} (hS0 : SR A0 0 s N) (hN : N ≤ 16) (hA : AS (toS s) (pcS s) N d) (hT : TT c (toS s) (pcS s) tot N) (hcs : sumN c N ≤ 1000000000000) {P : Nat → Bool} (hK : KA A0 A s N c tot P) {i : Nat} (hi : i < N) (hn : nxt (toS s) N P i) :
    ∃ A', KA A0 A' s N c tot (upB P i) ∧ fX1_passOnFrom 0 (oI i) (wI A 12 0 0 i (oI (-1))) = some A' := by
  obtain ⟨hF, h12, h13, hPI⟩ := hK
  have hF1 : Fr pK A0 (wI A 12 0 0 i (oI (-1))) := hF.wI rfl
  have hS1 := hS0.wk (pK_wk hF1) hN (by omega)
  have hto := to_rg hA hi
  have hrt := rc_tot hT hi hn
  have hr0 := hPI.1 i hi
  have hr1 := sumN_mem hi hPI.1
  rw [hPI.2.1] at hr1
  have hup := rc_up (c := c) (tot := tot) hA hi hn.1
  have haw := fun k hk => aw_up (i := k) hi hn.1 hk hPI.2.2
  rw [fX1_passOnFrom]
  simp (disch := omega) only [kI_0, kI_1, kI_2, kI_3, kI_4, kI_5, kI_6, kI_7, kI_8, kI_9, kI_10, kI_12, kI_16, kI_17, kI_19, kI_20, kI_23, kI_24, kI_30, kI_32, kI_36, kI_48, kI_57, kI_59, kI_60, kI_72, kI_80, kI_84, kI_97, kI_98, kI_100, kI_122, kI_148, kI_200, kI_300, kI_1058, kI_1108, kI_1348, kI_1588, kI_5290, kI_7940, kI_100000, kI_e7, kI_e9, kL_0, kL_1, kL_5, kL_9, kL_10, kL_12, kL_23, kL_30, kL_48, kL_57, kL_59, kL_97, kL_100, kL_122, kL_1000, kL_e7, kL_e9, kL_e10, oI_lt, oI_le, oI_eq, oL_lt, oL_le, oL_eq, oI_L, oI_clamp, oI_inb, oL_nz, gd_true, ltb_eq, bd_eq, bd2_eq, rq_none, rq_thr, xc_val, xc_thr, oI_add, oI_sub, oI_mul, oI_neg, oL_add, oL_sub, oL_mul, oL_neg, oL_I, cl_nat, hasA hS1 hN hA hi]
  rcases hA i hi with e5 | ⟨t, ht, e5, e6, e7⟩
  · have e5' : sB s i 5 = -1 := e5
    refine ⟨wI A 12 0 0 i (oI (-1)), ⟨hF1, fun k hk => ?_, fun k hk => ?_, PI_up hA hT hPI hi hn⟩, ?_⟩
    · rw [wI_1, haw k hk]
      by_cases ek : k = i
      · rw [if_pos ⟨rfl, rfl, rfl, ek⟩, if_pos ek]
      · rw [if_neg (by omega), if_neg ek, if_neg (by omega)]; exact h12 k hk
    · rw [wI_2, h13 k hk, hup k hk, if_pos e5]
      congr 1
      split
      · rename_i q; rw [q]; omega
      · rw [if_neg (by omega)]; omega
    · simp (disch := omega) only [e5', oI_lt, oI_le, oI_eq, oL_lt, oL_le, oL_eq, oI_L, oI_clamp, oI_inb, oL_nz, eq_self, Nat.reduceEqDiff, Int.reduceLE, Int.reduceLT, Int.reduceEq, Int.reduceToNat, and_true, true_and, and_false, false_and, and_self, if_true, if_false, ite_true, ite_false, reduceCtorEq]
  · have e5' : sB s i 5 = (t : Int) := e5
    have e7' : 1 ≤ sB s i 6 ∧ sB s i 6 ≤ 100 := e7
    have hmul : 0 ≤ tot i * sB s i 6 ∧ tot i * sB s i 6 ≤ 100000000000000 := by
      refine ⟨Int.mul_nonneg (by omega) (by omega), ?_⟩
      have := Int.mul_le_mul (show tot i ≤ 1000000000000 by omega) e7'.2 (by omega) (by omega)
      omega
    have hne : ¬ t = i := fun e => by subst e; omega
    have g1 : A.2 13 0 0 i = oL (tot i) := by rw [h13 i hi, hrt]
    have g2 : (wI A 12 0 0 i (oI (-1))).1 8 6 (16 * 0 + i) 0 = oI (sB s i 6) := hS1.pc hi (by omega)
    have g3 : (wI A 12 0 0 i (oI (-1))).1 8 5 (16 * 0 + i) 0 = oI (t : Int) := by rw [hS1.to hi, e5']
    have g4 : A.2 13 0 0 t = oL (rc c (toS s) (pcS s) tot N P t) := h13 t ht
    have g5 : A.1 12 0 0 t = oI (aw (toS s) N P t) := h12 t ht
    refine ⟨wI (wL (wL (wI A 12 0 0 i (oI (-1))) 13 0 0 i (oL (tot i - ppc (pcS s) (tot i) i))) 13 0 0 t (oL (rc c (toS s) (pcS s) tot N P t + ppc (pcS s) (tot i) i))) 12 0 0 t (oI (aw (toS s) N P t - 1)), ⟨((hF1.wL rfl).wL rfl).wI rfl, fun k hk => ?_, fun k hk => ?_, PI_up hA hT hPI hi hn⟩, ?_⟩
    · rw [wI_1, wL_1, wL_1, wI_1, haw k hk]
      by_cases ek : k = t
      · rw [if_pos ⟨rfl, rfl, rfl, ek⟩, if_neg (by omega), if_pos (by omega), ek]
      · rw [if_neg (by omega)]
        by_cases ei : k = i
        · rw [if_pos ⟨rfl, rfl, rfl, ei⟩, if_pos ei]
        · rw [if_neg (by omega), if_neg ei, if_neg (by omega)]; exact h12 k hk
    · rw [wI_2, wL_2, hup k hk]
      by_cases ek : k = t
      · rw [if_pos ⟨rfl, rfl, rfl, ek⟩, if_neg (by omega), if_pos (by omega), ek]
      · rw [if_neg (by omega), wL_2]
        by_cases ei : k = i
        · rw [if_pos ⟨rfl, rfl, rfl, ei⟩, if_pos ei, if_neg (by omega), hrt]
        · rw [if_neg (by omega), if_neg ei, if_neg (by omega), wI_2, h13 k hk]
          congr 1; omega
    · have he : (if sB s i 5 = -1 then (0 : Int) else 1) = 1 := if_neg (by omega)
      rw [he, g2]
      simp (disch := omega) only [oI_lt, oI_le, oI_eq, oL_lt, oL_le, oL_eq, oI_L, oI_clamp, oI_inb, oL_nz, eq_self, Nat.reduceEqDiff, Int.reduceLE, Int.reduceLT, Int.reduceEq, Int.reduceToNat, and_true, true_and, and_false, false_and, and_self, if_true, if_false, ite_true, ite_false, reduceCtorEq, wL_1, g3, gd_true, ltb_eq, bd_eq, bd2_eq, rq_none, rq_thr, xc_val, xc_thr, cl_nat, wI_2, g1, oI_add, oI_sub, oI_mul, oI_neg, oL_add, oL_sub, oL_mul, oL_neg, oL_I, oL_div]
      rw [wL_2, if_neg (by omega), wI_2, g4, oL_add, wI_1, if_neg (by omega), g5, oI_sub]
      rfl
theorem pos_L {A0 : sM} (hS0 : SR A0 0 s N) (hN : N ≤ 16) (hA : AS (toS s) (pcS s) N d) (hT : TT c (toS s) (pcS s) tot N) (hcs : sumN c N ≤ 1000000000000) (kk : sM → Option sM) :
    ∀ (fuel i : Nat) (P : Nat → Bool) (A : sM), i ≤ N → N - i < fuel → KA A0 A s N c tot P →
    ∃ (P' : Nat → Bool) (A' : sM), KA A0 A' s N c tot P' ∧ (∀ k, k < N → P k = true → P' k = true) ∧ (∀ k, i ≤ k → k < N → nxt (toS s) N P k → P' k = true) ∧ fX1_passOnSettled_L2 0 kk fuel (oI i) A = kk A' := by
  intro fuel
  induction fuel with
  | zero => intro i P A _ h; omega
  | succ fuel ih =>
    intro i P A hi hfu hK
    have hS := hS0.wk (pK_wk hK.1) hN (by omega)
    by_cases e : i = N
    · refine ⟨P, A, hK, fun _ _ h => h, fun k h1 h2 => by omega, ?_⟩
      rw [fX1_passOnSettled_L2, hS.cnt, if_pos (by simp (disch := omega) only [oI_lt, oI_le, oI_eq, oL_lt, oL_le, oL_eq, oI_L, oI_clamp, oI_inb, oL_nz]; omega)]
    · have hi2 : i < N := by omega
      have hrg := aw_rg (t := toS s) (N := N) (P := P) (k := i)
      have e12 := hK.2.1 i hi2
      by_cases hn : nxt (toS s) N P i
      · have h0 := (aw_nxt hi2).mpr hn
        obtain ⟨A1, hK1, e1⟩ := pof1 hS0 hN hA hT hcs hK hi2 hn
        obtain ⟨P', A', u1, u2, u3, u4⟩ := ih (i + 1) (upB P i) A1 (by omega) (by omega) hK1
        refine ⟨P', A', u1, fun k hk h => u2 k hk (by rw [upB]; split; rfl; exact h), fun k h1 h2 h3 => ?_, ?_⟩
        · by_cases ek : k = i
          · exact u2 k h2 (by rw [upB, if_pos ek])
          · refine u3 k (by omega) h2 ⟨by rw [upB, if_neg ek]; exact h3.1, fun j hj ht => by rw [upB]; split; rfl; exact h3.2 j hj ht⟩
        · rw [fX1_passOnSettled_L2, hS.cnt, if_neg (by simp (disch := omega) only [oI_lt, oI_le, oI_eq, oL_lt, oL_le, oL_eq, oI_L, oI_clamp, oI_inb, oL_nz]; omega)]
          simp (disch := omega) only [kI_0, kI_1, kI_2, kI_3, kI_4, kI_5, kI_6, kI_7, kI_8, kI_9, kI_10, kI_12, kI_16, kI_17, kI_19, kI_20, kI_23, kI_24, kI_30, kI_32, kI_36, kI_48, kI_57, kI_59, kI_60, kI_72, kI_80, kI_84, kI_97, kI_98, kI_100, kI_122, kI_148, kI_200, kI_300, kI_1058, kI_1108, kI_1348, kI_1588, kI_5290, kI_7940, kI_100000, kI_e7, kI_e9, kL_0, kL_1, kL_5, kL_9, kL_10, kL_12, kL_23, kL_30, kL_48, kL_57, kL_59, kL_97, kL_100, kL_122, kL_1000, kL_e7, kL_e9, kL_e10, oI_lt, oI_le, oI_eq, oL_lt, oL_le, oL_eq, oI_L, oI_clamp, oI_inb, oL_nz, gd_true, ltb_eq, bd_eq, bd2_eq, rq_none, rq_thr, xc_val, xc_thr, oI_add, oI_sub, oI_mul, oI_neg, oL_add, oL_sub, oL_mul, oL_neg, oL_I, cl_nat, nat1, e12, h0, eq_self, Nat.reduceEqDiff, Int.reduceLE, Int.reduceLT, Int.reduceEq, Int.reduceToNat, and_true, true_and, and_false, false_and, and_self, if_true, if_false, ite_true, ite_false, reduceCtorEq, e1]
          exact u4
      · have h0 : ¬ aw (toS s) N P i = 0 := fun q => hn ((aw_nxt hi2).mp q)
        obtain ⟨P', A', u1, u2, u3, u4⟩ := ih (i + 1) P A (by omega) (by omega) hK
        refine ⟨P', A', u1, u2, fun k h1 h2 h3 => ?_, ?_⟩
        · by_cases ek : k = i
          · rw [ek] at h3; exact absurd h3 hn
          · exact u3 k (by omega) h2 h3
        · rw [fX1_passOnSettled_L2, hS.cnt, if_neg (by simp (disch := omega) only [oI_lt, oI_le, oI_eq, oL_lt, oL_le, oL_eq, oI_L, oI_clamp, oI_inb, oL_nz]; omega)]
          simp (disch := omega) only [kI_0, kI_1, kI_2, kI_3, kI_4, kI_5, kI_6, kI_7, kI_8, kI_9, kI_10, kI_12, kI_16, kI_17, kI_19, kI_20, kI_23, kI_24, kI_30, kI_32, kI_36, kI_48, kI_57, kI_59, kI_60, kI_72, kI_80, kI_84, kI_97, kI_98, kI_100, kI_122, kI_148, kI_200, kI_300, kI_1058, kI_1108, kI_1348, kI_1588, kI_5290, kI_7940, kI_100000, kI_e7, kI_e9, kL_0, kL_1, kL_5, kL_9, kL_10, kL_12, kL_23, kL_30, kL_48, kL_57, kL_59, kL_97, kL_100, kL_122, kL_1000, kL_e7, kL_e9, kL_e10, oI_lt, oI_le, oI_eq, oL_lt, oL_le, oL_eq, oI_L, oI_clamp, oI_inb, oL_nz, gd_true, ltb_eq, bd_eq, bd2_eq, rq_none, rq_thr, xc_val, xc_thr, oI_add, oI_sub, oI_mul, oI_neg, oL_add, oL_sub, oL_mul, oL_neg, oL_I, cl_nat, nat1, e12]
          rw [if_neg h0]
          exact u4
theorem por_L {A0 : sM} (hS0 : SR A0 0 s N) (hN : N ≤ 16) (hA : AS (toS s) (pcS s) N d) (hT : TT c (toS s) (pcS s) tot N) (hcs : sumN c N ≤ 1000000000000) (kk : sM → Option sM) :
    ∀ (fuel r : Nat) (P : Nat → Bool) (A : sM), r ≤ N → N - r < fuel → (r : Int) ≤ cnt P N → KA A0 A s N c tot P →
    ∃ A', Fr pK A0 A' ∧ (∀ k, k < N → A'.2 13 0 0 k = oL (kp c (toS s) (pcS s) tot N k)) ∧ fX1_passOn_L78 0 kk fuel (oI r) A = kk A' := by
  intro fuel
  induction fuel with
  | zero => intro r P A _ h; omega
  | succ fuel ih =>
    intro r P A hr hfu hc hK
    have hS := hS0.wk (pK_wk hK.1) hN (by omega)
    by_cases e : r = N
    · have hall := cnt_all (P := P) (N := N) (by omega)
      refine ⟨A, hK.1, fun k hk => by rw [hK.2.2.1 k hk, kp, rc_congr (fun j hj => hall j hj) hk], ?_⟩
      rw [fX1_passOn_L78, hS.cnt, if_pos (by simp (disch := omega) only [oI_lt, oI_le, oI_eq, oL_lt, oL_le, oL_eq, oI_L, oI_clamp, oI_inb, oL_nz]; omega)]
    · obtain ⟨P', A1, u1, u2, u3, u4⟩ := pos_L hS0 hN hA hT hcs (fun A => some A) 10000 0 P A (by omega) (by omega) hK
      have hc' : ((r + 1 : Nat) : Int) ≤ cnt P' N := by
        by_cases h9 : cnt P N < N
        · obtain ⟨q0, hq0, hpq0⟩ := cnt_ex h9
          obtain ⟨q, hq, hqn⟩ := nxt_ex hA hq0 hpq0
          have h1 := cnt_up hq hqn.1
          have h2 : cnt (upB P q) N ≤ cnt P' N := cnt_mono fun k hk h => by
            rw [upB] at h
            by_cases ek : k = q
            · rw [ek]; exact u3 q (by omega) hq hqn
            · rw [if_neg ek] at h; exact u2 k hk h
          omega
        · have h2 : cnt P N ≤ cnt P' N := cnt_mono u2
          omega
      obtain ⟨A', v1, v2, v3⟩ := ih (r + 1) P' A1 (by omega) (by omega) hc' u1
      refine ⟨A', v1, v2, ?_⟩
      rw [fX1_passOn_L78, hS.cnt, if_neg (by simp (disch := omega) only [oI_lt, oI_le, oI_eq, oL_lt, oL_le, oL_eq, oI_L, oI_clamp, oI_inb, oL_nz]; omega), fX1_passOnSettled, show (0 : Int32) = oI (0 : Nat) from rfl, u4, bd_eq]
      simp only [kI_0, kI_1, kI_2, kI_3, kI_4, kI_5, kI_6, kI_7, kI_8, kI_9, kI_10, kI_12, kI_16, kI_17, kI_19, kI_20, kI_23, kI_24, kI_30, kI_32, kI_36, kI_48, kI_57, kI_59, kI_60, kI_72, kI_80, kI_84, kI_97, kI_98, kI_100, kI_122, kI_148, kI_200, kI_300, kI_1058, kI_1108, kI_1348, kI_1588, kI_5290, kI_7940, kI_100000, kI_e7, kI_e9, kL_0, kL_1, kL_5, kL_9, kL_10, kL_12, kL_23, kL_30, kL_48, kL_57, kL_59, kL_97, kL_100, kL_122, kL_1000, kL_e7, kL_e9, kL_e10, gd_true, ltb_eq, bd_eq, bd2_eq, rq_none, rq_thr, xc_val, xc_thr, oI_add, oI_sub, oI_mul, oI_neg, oL_add, oL_sub, oL_mul, oL_neg, oL_I, nat1]
      exact v3
theorem poi_L {A0 : sM} (hS0 : SR A0 0 s N) (hN : N ≤ 16) (h3 : W3 s N) (hA : AS (toS s) (pcS s) N d) {f : Nat → Int} (h17 : ∀ k, k < N → A0.2 17 0 0 k = oL (f k)) (kk : sM → Option sM) :
    ∀ (fuel i : Nat) (A : sM), i ≤ N → N - i < fuel → Fr pK A0 A → (∀ k, k < 16 → A.1 12 0 0 k = oI (sumN (fun j => if toS s j = (k : Int) then 1 else 0) i)) → (∀ k, k < i → A.2 13 0 0 k = oL (if sB s k 3 = 1 then f k else 0)) →
    ∃ A', Fr pK A0 A' ∧ (∀ k, k < 16 → A'.1 12 0 0 k = oI (sumN (fun j => if toS s j = (k : Int) then 1 else 0) N)) ∧ (∀ k, k < N → A'.2 13 0 0 k = oL (if sB s k 3 = 1 then f k else 0)) ∧ fX1_passOn_L10 0 kk fuel (oI i) A = kk A' := by
  intro fuel
  induction fuel with
  | zero => intro i A _ h; omega
  | succ fuel ih =>
    intro i A hi hfu hF h12 h13
    have hS := hS0.wk (pK_wk hF) hN (by omega)
    by_cases e : i = N
    · refine ⟨A, hF, fun k hk => by rw [h12 k hk, e], fun k hk => h13 k (by omega), ?_⟩
      rw [fX1_passOn_L10, hS.cnt, if_pos (by simp (disch := omega) only [oI_lt, oI_le, oI_eq, oL_lt, oL_le, oL_eq, oI_L, oI_clamp, oI_inb, oL_nz]; omega)]
    · have hi2 : i < N := by omega
      have hto := to_rg hA hi2
      have hb3 := h3.1 i hi2
      have hF1 : ∀ v, Fr pK A0 (wL A 13 0 0 i v) := fun v => hF.wL rfl
      have hS1 := fun v => hS0.wk (pK_wk (hF1 v)) hN (by omega)
      have e17 : A.2 17 0 0 i = oL (f i) := by rw [hF.l rfl]; exact h17 i hi2
      have g13 : ∀ (A9 : sM), (∀ j, A9.2 13 0 0 j = (wL A 13 0 0 i (oL (if sB s i 3 = 1 then f i else 0))).2 13 0 0 j) → ∀ k, k < i + 1 → A9.2 13 0 0 k = oL (if sB s k 3 = 1 then f k else 0) := fun A9 h9 k hk => by
        rw [h9, wL_2]
        by_cases ek : k = i
        · rw [if_pos ⟨rfl, rfl, rfl, ek⟩, ek]
        · rw [if_neg (by omega)]; exact h13 k (by omega)
      have st : fX1_passOn_L10 0 kk (fuel + 1) (oI i) A = if sB s i 5 = -1 then fX1_passOn_L10 0 kk fuel (oI (i + 1 : Nat)) (wL A 13 0 0 i (oL (if sB s i 3 = 1 then f i else 0))) else fX1_passOn_L10 0 kk fuel (oI (i + 1 : Nat)) (wI (wL A 13 0 0 i (oL (if sB s i 3 = 1 then f i else 0))) 12 0 0 (sB s i 5).toNat (oI (sumN (fun j => if toS s j = (((sB s i 5).toNat : Nat) : Int) then 1 else 0) i + 1))) := by
        rw [fX1_passOn_L10, hS.cnt, if_neg (by simp (disch := omega) only [oI_lt, oI_le, oI_eq, oL_lt, oL_le, oL_eq, oI_L, oI_clamp, oI_inb, oL_nz]; omega)]
        simp (disch := omega) only [kI_0, kI_1, kI_2, kI_3, kI_4, kI_5, kI_6, kI_7, kI_8, kI_9, kI_10, kI_12, kI_16, kI_17, kI_19, kI_20, kI_23, kI_24, kI_30, kI_32, kI_36, kI_48, kI_57, kI_59, kI_60, kI_72, kI_80, kI_84, kI_97, kI_98, kI_100, kI_122, kI_148, kI_200, kI_300, kI_1058, kI_1108, kI_1348, kI_1588, kI_5290, kI_7940, kI_100000, kI_e7, kI_e9, kL_0, kL_1, kL_5, kL_9, kL_10, kL_12, kL_23, kL_30, kL_48, kL_57, kL_59, kL_97, kL_100, kL_122, kL_1000, kL_e7, kL_e9, kL_e10, oI_lt, oI_le, oI_eq, oL_lt, oL_le, oL_eq, oI_L, oI_clamp, oI_inb, oL_nz, gd_true, ltb_eq, bd_eq, bd2_eq, rq_none, rq_thr, xc_val, xc_thr, oI_add, oI_sub, oI_mul, oI_neg, oL_add, oL_sub, oL_mul, oL_neg, oL_I, cl_nat, nat1, actA hS h3 hi2, e17]
        by_cases ea : sB s i 3 = 1
        · simp (disch := omega) only [if_pos ea, oI_lt, oI_le, oI_eq, oL_lt, oL_le, oL_eq, oI_L, oI_clamp, oI_inb, oL_nz, eq_self, Nat.reduceEqDiff, Int.reduceLE, Int.reduceLT, Int.reduceEq, Int.reduceToNat, and_true, true_and, and_false, false_and, and_self, if_true, if_false, ite_true, ite_false, reduceCtorEq, hasA (hS1 _) hN hA hi2, gd_true, ltb_eq, bd_eq, bd2_eq, rq_none, rq_thr, xc_val, xc_thr, (hS1 _).to hi2]
          by_cases et : sB s i 5 = -1
          · simp (disch := omega) only [if_pos et, oI_lt, oI_le, oI_eq, oL_lt, oL_le, oL_eq, oI_L, oI_clamp, oI_inb, oL_nz, eq_self, Nat.reduceEqDiff, Int.reduceLE, Int.reduceLT, Int.reduceEq, Int.reduceToNat, and_true, true_and, and_false, false_and, and_self, if_true, if_false, ite_true, ite_false, reduceCtorEq]
          · simp (disch := omega) only [if_neg et, oI_lt, oI_le, oI_eq, oL_lt, oL_le, oL_eq, oI_L, oI_clamp, oI_inb, oL_nz, eq_self, Nat.reduceEqDiff, Int.reduceLE, Int.reduceLT, Int.reduceEq, Int.reduceToNat, and_true, true_and, and_false, false_and, and_self, if_true, if_false, ite_true, ite_false, reduceCtorEq, gd_true, ltb_eq, bd_eq, bd2_eq, rq_none, rq_thr, xc_val, xc_thr, wL_1]
            rw [h12 _ (by omega), oI_add]
        · simp (disch := omega) only [if_neg ea, oI_lt, oI_le, oI_eq, oL_lt, oL_le, oL_eq, oI_L, oI_clamp, oI_inb, oL_nz, eq_self, Nat.reduceEqDiff, Int.reduceLE, Int.reduceLT, Int.reduceEq, Int.reduceToNat, and_true, true_and, and_false, false_and, and_self, if_true, if_false, ite_true, ite_false, reduceCtorEq, hasA (hS1 _) hN hA hi2, gd_true, ltb_eq, bd_eq, bd2_eq, rq_none, rq_thr, xc_val, xc_thr, (hS1 _).to hi2]
          by_cases et : sB s i 5 = -1
          · simp (disch := omega) only [if_pos et, oI_lt, oI_le, oI_eq, oL_lt, oL_le, oL_eq, oI_L, oI_clamp, oI_inb, oL_nz, eq_self, Nat.reduceEqDiff, Int.reduceLE, Int.reduceLT, Int.reduceEq, Int.reduceToNat, and_true, true_and, and_false, false_and, and_self, if_true, if_false, ite_true, ite_false, reduceCtorEq]
          · simp (disch := omega) only [if_neg et, oI_lt, oI_le, oI_eq, oL_lt, oL_le, oL_eq, oI_L, oI_clamp, oI_inb, oL_nz, eq_self, Nat.reduceEqDiff, Int.reduceLE, Int.reduceLT, Int.reduceEq, Int.reduceToNat, and_true, true_and, and_false, false_and, and_self, if_true, if_false, ite_true, ite_false, reduceCtorEq, gd_true, ltb_eq, bd_eq, bd2_eq, rq_none, rq_thr, xc_val, xc_thr, wL_1]
            rw [h12 _ (by omega), oI_add]
      by_cases et : sB s i 5 = -1
      · obtain ⟨A', u1, u2, u3, u4⟩ := ih (i + 1) (wL A 13 0 0 i (oL (if sB s i 3 = 1 then f i else 0))) (by omega) (by omega) (hF1 _) (fun k hk => by
          rw [wL_1, h12 k hk, sumN_s _ i, if_neg (by rw [show toS s i = sB s i 5 from rfl]; omega)]
          congr 1; omega) (g13 _ (fun _ => rfl))
        exact ⟨A', u1, u2, u3, by rw [st, if_pos et]; exact u4⟩
      · obtain ⟨A', u1, u2, u3, u4⟩ := ih (i + 1) (wI (wL A 13 0 0 i (oL (if sB s i 3 = 1 then f i else 0))) 12 0 0 (sB s i 5).toNat (oI (sumN (fun j => if toS s j = (((sB s i 5).toNat : Nat) : Int) then 1 else 0) i + 1))) (by omega) (by omega) ((hF1 _).wI rfl) (fun k hk => by
          rw [wI_1, wL_1, sumN_s _ i, show toS s i = sB s i 5 from rfl]
          by_cases ek : k = (sB s i 5).toNat
          · rw [if_pos ⟨rfl, rfl, rfl, ek⟩, if_pos (by omega), ek]
          · rw [if_neg (by omega), h12 k hk, if_neg (by omega)]
            congr 1; omega) (g13 _ (fun _ => rfl))
        exact ⟨A', u1, u2, u3, by rw [st, if_neg et]; exact u4⟩
/-- the system's step 2: what each active one keeps -/
theorem poA (hS : SR A 0 s N) (h1 : W1 s N) (h3 : W3 s N) (hA : AS (toS s) (pcS s) N d) {f : Nat → Int} (h17 : ∀ k, k < N → A.2 17 0 0 k = oL (f k)) (hT : TT (fun k => if sB s k 3 = 1 then f k else 0) (toS s) (pcS s) tot N) (hf : ∀ k, k < N → 0 ≤ f k) (hcs : sumN (fun k => if sB s k 3 = 1 then f k else 0) N ≤ 1000000000000) :
    ∃ A', Fr pK A A' ∧ (∀ k, k < N → A'.2 13 0 0 k = oL (kp (fun k => if sB s k 3 = 1 then f k else 0) (toS s) (pcS s) tot N k)) ∧ fX1_passOn 0 A = some A' := by
  have hN := h1.2.2.2.2.2.2.2.2
  have hrc : ∀ j, rc (fun k => if sB s k 3 = 1 then f k else 0) (toS s) (pcS s) tot N (fun _ => false) j = if sB s j 3 = 1 then f j else 0 := fun j => rc_0 _ _ _ _ _ _
  obtain ⟨A1, u1, u2, u3, u4⟩ := poi_L (A0 := fI A 12 0 16 (oI 0)) (hS.wk (pK_wk ((Fr.refl _).fI rfl)) hN (by omega)) hN h3 hA h17 (fun A_2 => fX1_passOn_L78 0 (fun A => some A) 10000 (0 : Int32) A_2) 10000 0 (fI A 12 0 16 (oI 0)) (by omega) (by omega) (Fr.refl _) (fun k hk => by rw [fI_1, if_pos ⟨rfl, rfl, rfl, hk⟩, sumN]) (fun k hk => by omega)
  have hF0 : Fr pK A A1 := ((Fr.refl _).fI rfl).trans u1
  obtain ⟨A', v1, v2, v3⟩ := por_L (c := fun k => if sB s k 3 = 1 then f k else 0) (tot := tot) hS hN hA hT hcs (fun A => some A) 10000 0 (fun _ => false) A1 (by omega) (by omega) (by rw [cnt, sumN_zero (fun j hj => by simp)]; omega) ⟨hF0, fun k hk => by
      rw [u2 k (by omega), aw, if_neg (by simp)]
      exact congrArg oI (sumN_congr fun j _ => by simp), fun k hk => by rw [u3 k hk, hrc], PI_0 fun k hk => by
      have := hf k hk
      split <;> omega⟩
  refine ⟨A', v1, v2, ?_⟩
  rw [fX1_passOn, ltb_eq, kI_0, show oI 0 = oI (0 : Nat) from rfl] at *
  exact u4.trans v3
end
