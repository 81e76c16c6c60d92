/-! True-ups: a month's corrections. -/
def coE (s : sS) (m k : Nat) : Nat → Int := fun c => if (4 * m ≤ c ∧ c < 4 * m + k) ∧ ¬ sC s c = -1 then sC s c else sE s c
def coC (s : sS) (m k : Nat) : Nat → Int := fun c => if 4 * m ≤ c ∧ c < 4 * m + k then -1 else sC s c
def coS (s : sS) (m : Nat) : sS := uC (uE s (coE s m 4)) (coC s m 4)
def cor (s : sS) (c : Nat) : Int := if sC s c = -1 then 0 else sC s c - sE s c
def tuV (s : sS) (m : Nat) : Int := sumN (fun p => cor s (4 * m + p) * sRt s p) (sG s 4).toNat
def tuP (s : sS) (N m : Nat) : Nat → Int := pt s N m 0 (if 0 < tuV s m then tuV s m else -(tuV s m))
def tuS (s : sS) (N m : Nat) : sS := if tuV s m = 0 then coS s m else stR (decide (0 < tuV s m)) (tuP s N m) N (uF (coS s m) (up1 (sF s) 1 (sF s 1 + (if 0 < tuV s m then tuP s N m N else -tuP s N m N))))
theorem coE_0 (s : sS) (m : Nat) : coE s m 0 = sE s := by
  funext c
  rw [coE, if_neg (by omega)]
theorem coC_0 (s : sS) (m : Nat) : coC s m 0 = sC s := by
  funext c
  rw [coC, if_neg (by omega)]
theorem coE_s (s : sS) (m k : Nat) : coE s m (k + 1) = up1 (coE s m k) (4 * m + k) (if sC s (4 * m + k) = -1 then sE s (4 * m + k) else sC s (4 * m + k)) := by
  funext c
  by_cases e : c = 4 * m + k
  · rw [e, up1_s, coE]
    by_cases q : sC s (4 * m + k) = -1
    · rw [if_neg (fun h => h.2 q), if_pos q]
    · rw [if_pos ⟨by omega, q⟩, if_neg q]
  · rw [up1_n _ _ e, coE, coE]
    by_cases q : (4 * m ≤ c ∧ c < 4 * m + k) ∧ ¬ sC s c = -1
    · rw [if_pos q, if_pos ⟨by omega, q.2⟩]
    · rw [if_neg q, if_neg (fun h => q ⟨by omega, h.2⟩)]
theorem coC_s (s : sS) (m k : Nat) : coC s m (k + 1) = up1 (coC s m k) (4 * m + k) (-1) := by
  funext c
  by_cases e : c = 4 * m + k
  · rw [e, up1_s, coC, if_pos (by omega)]
  · rw [up1_n _ _ e, coC, coC]
    by_cases q : 4 * m ≤ c ∧ c < 4 * m + k
    · rw [if_pos q, if_pos (by omega)]
    · rw [if_neg q, if_neg (by omega)]
section
variable {A Z : sM} {s : sS} {N n : Nat}
theorem stS_co (b : Bool) (s : sS) (e c : Nat → Int) (i : Nat) (x : Int) : stS b (uC (uE s e) c) i x = uC (uE (stS b s i x) e) c := by
  rw [stS, stS]
  show (if sB s i 3 = 1 then _ else _) = _
  split
  · split <;> rfl
  · rfl
theorem stR_co (b : Bool) (p : Nat → Int) (e c : Nat → Int) : ∀ (k : Nat) (s : sS), stR b p k (uC (uE s e) c) = uC (uE (stR b p k s) e) c
  | 0, _ => rfl
  | k + 1, s => by rw [stR, stR_co b p e c k s, stS_co, stR]
theorem co_same {s' s : sS} (h : same s' s) (m : Nat) : coE s' m 4 = coE s m 4 ∧ coC s' m 4 = coC s m 4 := by
  constructor
  · funext c; simp only [coE]; rw [h.2.2.2.2.2.1, h.2.2.2.2.2.2]
  · funext c; simp only [coC]; rw [h.2.2.2.2.2.2]
theorem cor_bd (h6 : W6 s) {c : Nat} (hc : c < 240) : -1000000000 ≤ cor s c ∧ cor s c ≤ 1000000000 := by
  have := h6.1 c hc
  rw [cor]; split <;> omega
theorem tu_bd (h1 : W1 s N) (h2 : W2 s) (h6 : W6 s) {m : Nat} (hm : m < 60) : -800000000000 ≤ tuV s m ∧ tuV s m ≤ 800000000000 := by
  obtain ⟨_, _, _, _, h5, _⟩ := h1
  have hb : ∀ p, p < (sG s 4).toNat → -200000000000 ≤ cor s (4 * m + p) * sRt s p ∧ cor s (4 * m + p) * sRt s p ≤ 200000000000 := by
    intro p hp
    have h9 := cor_bd h6 (c := 4 * m + p) (by omega)
    have h8 := h2.2 p (by omega)
    have a1 := Int.mul_le_mul_of_nonneg_right h9.2 h8.1
    have a2 := Int.mul_le_mul_of_nonneg_right h9.1 h8.1
    have a3 : 1000000000 * sRt s p ≤ 1000000000 * 200 := Int.mul_le_mul_of_nonneg_left h8.2 (by omega)
    omega
  have a1 := sumN_le (f := fun p => cor s (4 * m + p) * sRt s p) (g := fun _ => 200000000000) (n := (sG s 4).toNat) fun p hp => (hb p hp).2
  have a2 := sumN_le (f := fun _ => -200000000000) (g := fun p => cor s (4 * m + p) * sRt s p) (n := (sG s 4).toNat) fun p hp => (hb p hp).1
  rw [sumN_const] at a1 a2
  rw [tuV]
  omega
theorem cvl_L (hS : SR A 0 s N) (h1 : W1 s N) (h2 : W2 s) (h6 : W6 s) {m : Nat} (hm : m < 60) (k : Int64 → Option Int64) : ∀ (fuel i : Nat) (acc : Int), i ≤ (sG s 4).toNat → (sG s 4).toNat - i < fuel → fX7_value_23_L5 0 (oI m) 0 A k fuel (oL acc) (oI i) = k (oL (acc + (tuV s m - sumN (fun p => cor s (4 * m + p) * sRt s p) i))) := by
  obtain ⟨_, _, _, _, h5, _⟩ := h1
  intro fuel
  induction fuel with
  | zero => intro i acc _ h; omega
  | succ fuel ih =>
    intro i acc hi hfu
    rw [fX7_value_23_L5, fX7_cell, hS.g (by omega)]
    simp (disch := omega) only [kI_0, kI_1, kI_2, kI_3, kI_4, kI_5, kI_6, kI_7, kI_8, kI_9, kI_10, kI_12, kI_16, kI_17, kI_19, kI_20, kI_23, kI_24, kI_30, kI_32, kI_36, kI_48, kI_57, kI_59, kI_60, kI_72, kI_80, kI_84, kI_97, kI_98, kI_100, kI_122, kI_148, kI_200, kI_300, kI_1058, kI_1108, kI_1348, kI_1588, kI_5290, kI_7940, kI_100000, kI_e7, kI_e9, kL_0, kL_1, kL_5, kL_9, kL_10, kL_12, kL_23, kL_30, kL_48, kL_57, kL_59, kL_97, kL_100, kL_122, kL_1000, kL_e7, kL_e9, kL_e10, oI_add, oI_sub, oI_mul, oI_neg, oL_add, oL_sub, oL_mul, oL_neg, oL_I, oI_lt, oI_le, oI_eq, oL_lt, oL_le, oL_eq, oI_L, oI_clamp, oI_inb, oL_nz, gd_true, ltb_eq, bd_eq, bd2_eq, rq_none, rq_thr, xc_val, xc_thr]
    by_cases e : i = (sG s 4).toNat
    · subst e
      rw [if_pos (by omega), tuV]
      exact congrArg (fun x => k (oL x)) (by omega)
    · have h9 := cor_bd h6 (c := 4 * m + i) (by omega)
      have h8 := h2.2 i (by omega)
      rw [if_neg (by omega), show A.1 23 0 0 ((m : Int) * 4 + (i : Int)).toNat = oI (cor s (4 * m + i)) from by rw [show ((m : Int) * 4 + (i : Int)).toNat = 4 * m + i by omega]; exact hS.cr (by omega), cl_nat, hS.rt (p := i) (by omega)]
      simp (disch := omega) only [oI_add, oI_sub, oI_mul, oI_neg, oL_add, oL_sub, oL_mul, oL_neg, oL_I, oI_lt, oI_le, oI_eq, oL_lt, oL_le, oL_eq, oI_L, oI_clamp, oI_inb, oL_nz, nat1]
      rw [ih (i + 1) _ (by omega) (by omega), sumN_s _ i]
      exact congrArg (fun x => k (oL x)) (by omega)
theorem cvl (hS : SR A 0 s N) (h1 : W1 s N) (h2 : W2 s) (h6 : W6 s) {m : Nat} (hm : m < 60) : fX7_correctionValue 0 (oI m) 0 A = some (oL (tuV s m)) := by
  have h5 := h1.2.2.2.2.1
  rw [fX7_correctionValue, fX7_value_23, kI_0, kL_0, show oI 0 = oI (0 : Nat) from rfl, cvl_L hS h1 h2 h6 hm _ 10000 0 _ (by omega) (by omega)]
  simp [sumN]
theorem SR.wEC {c0 : Nat} {v : Int} (h : SR A 0 s N) (h0 : c0 < 240) : SR (wI (wI A 22 0 0 c0 (oI v)) 23 0 0 c0 (oI 0)) 0 (uC (uE s (up1 (sE s) c0 v)) (up1 (sC s) c0 (-1))) N := by
  refine ⟨fun k hk => ?_, ⟨?_, ?_, ?_⟩, fun k hk => ?_, fun p hp => ?_, fun i hi => ⟨?_, ?_, ?_, ?_, ?_, ?_, fun ht => ?_⟩, fun i hi m hm => ?_, fun c hc => ⟨?_, ?_⟩, ⟨h.fu, h.op⟩, fun i hi w hw => h.ac hi hw, fun i hi m hm => h.lt hi hm⟩
  · rw [wI_1, if_neg (by omega), wI_1, if_neg (by omega)]; exact h.g hk
  · rw [wI_1, if_neg (by omega), wI_1, if_neg (by omega)]; exact h.mon
  · rw [wI_1, if_neg (by omega), wI_1, if_neg (by omega)]; exact h.day
  · rw [wI_1, if_neg (by omega), wI_1, if_neg (by omega)]; exact h.cnt
  · rw [wI_1, if_neg (by omega), wI_1, if_neg (by omega)]; exact h.hr hk
  · rw [wI_1, if_neg (by omega), wI_1, if_neg (by omega)]; exact h.rt hp
  · rw [wI_1, if_neg (by omega), wI_1, if_neg (by omega)]; exact h.st hi
  · rw [wI_1, if_neg (by omega), wI_1, if_neg (by omega)]; exact h.wa hi
  · rw [wI_1, if_neg (by omega), wI_1, if_neg (by omega)]; exact h.mi hi
  · rw [wI_1, if_neg (by omega), wI_1, if_neg (by omega)]; exact h.pr hi
  · rw [wI_1, if_neg (by omega), wI_1, if_neg (by omega)]; exact h.sh hi
  · rw [wI_1, if_neg (by omega), wI_1, if_neg (by omega)]; exact h.to hi
  · rw [wI_1, if_neg (by omega), wI_1, if_neg (by omega)]; exact h.pc hi ht
  · rw [wI_1, if_neg (by omega), wI_1, if_neg (by omega)]; exact h.dy hi hm
  · rw [wI_1, if_neg (by omega), wI_1]
    show _ = oI (up1 (sE s) c0 v c)
    by_cases q : c = c0
    · rw [if_pos ⟨rfl, rfl, rfl, q⟩, q, up1_s]
    · rw [if_neg (by omega), up1_n _ _ q]; exact h.gn hc
  · rw [wI_1]
    show _ = oI (if up1 (sC s) c0 (-1) c = -1 then 0 else up1 (sC s) c0 (-1) c - up1 (sE s) c0 v c)
    by_cases q : c = c0
    · rw [if_pos ⟨rfl, rfl, rfl, q⟩, q, up1_s, if_pos rfl]
    · rw [if_neg (by omega), wI_1, if_neg (by omega), up1_n _ _ q, up1_n _ _ q]; exact h.cr hc
def m22 (c _ o : Nat) : Bool := (c == 22 || c == 23) && o == 0
theorem m22_mv {A A' : sM} (h : Fr m22 A A') : Fr mvA A A' := h.mono fun c k o hq => by
  simp only [m22]
  by_cases e : c = 22 ∨ c = 23
  · rcases e with rfl | rfl <;> simp [mvA, wkA] at hq ⊢ <;> exact hq
  · simp; omega
theorem ccA_L {m : Nat} (hm : m < 60) : ∀ (fuel k : Nat) (A : sM), k ≤ 4 → 4 - k < fuel → SR A 0 (uC (uE s (coE s m k)) (coC s m k)) N → ∃ A', Fr m22 A A' ∧ SR A' 0 (coS s m) N ∧ fX7_countCorrections_L2 0 (oI m) (fun A => some A) fuel (oI k) A = some A' := by
  intro fuel
  induction fuel with
  | zero => intro k A _ h; omega
  | succ fuel ih =>
    intro k A hk hfu hS
    by_cases e : k = 4
    · rw [e] at hS
      refine ⟨A, Fr.refl _, hS, ?_⟩
      rw [fX7_countCorrections_L2, if_pos (by simp (disch := omega) only [kI_0, kI_1, kI_2, kI_3, kI_4, kI_5, kI_6, kI_7, kI_8, kI_9, kI_10, kI_12, kI_16, kI_17, kI_19, kI_20, kI_23, kI_24, kI_30, kI_32, kI_36, kI_48, kI_57, kI_59, kI_60, kI_72, kI_80, kI_84, kI_97, kI_98, kI_100, kI_122, kI_148, kI_200, kI_300, kI_1058, kI_1108, kI_1348, kI_1588, kI_5290, kI_7940, kI_100000, kI_e7, kI_e9, kL_0, kL_1, kL_5, kL_9, kL_10, kL_12, kL_23, kL_30, kL_48, kL_57, kL_59, kL_97, kL_100, kL_122, kL_1000, kL_e7, kL_e9, kL_e10, oI_lt, oI_le, oI_eq, oL_lt, oL_le, oL_eq, oI_L, oI_clamp, oI_inb, oL_nz]; omega)]
    · have e1 : A.1 22 0 0 (4 * m + k) = oI (sE s (4 * m + k)) := (hS.gn (by omega)).trans (congrArg oI (show coE s m k (4 * m + k) = _ by rw [coE, if_neg (by omega)]))
      have e2 : A.1 23 0 0 (4 * m + k) = oI (cor s (4 * m + k)) := (hS.cr (by omega)).trans (congrArg oI (show (if coC s m k (4 * m + k) = -1 then 0 else coC s m k (4 * m + k) - coE s m k (4 * m + k)) = _ by rw [show coC s m k (4 * m + k) = sC s (4 * m + k) by rw [coC, if_neg (by omega)], show coE s m k (4 * m + k) = sE s (4 * m + k) by rw [coE, if_neg (by omega)]]; rfl))
      have e3 : sE s (4 * m + k) + cor s (4 * m + k) = if sC s (4 * m + k) = -1 then sE s (4 * m + k) else sC s (4 * m + k) := by
        rw [cor]; split <;> omega
      have h1 := hS.wEC (c0 := 4 * m + k) (v := if sC s (4 * m + k) = -1 then sE s (4 * m + k) else sC s (4 * m + k)) (by omega)
      obtain ⟨A', u1, u2, u3⟩ := ih (k + 1) _ (by omega) (by omega) (by rw [coE_s, coC_s]; exact h1)
      refine ⟨A', Fr.trans (((Fr.refl _).wI rfl).wI rfl) u1, u2, ?_⟩
      rw [fX7_countCorrections_L2, if_neg (by simp (disch := omega) only [kI_0, kI_1, kI_2, kI_3, kI_4, kI_5, kI_6, kI_7, kI_8, kI_9, kI_10, kI_12, kI_16, kI_17, kI_19, kI_20, kI_23, kI_24, kI_30, kI_32, kI_36, kI_48, kI_57, kI_59, kI_60, kI_72, kI_80, kI_84, kI_97, kI_98, kI_100, kI_122, kI_148, kI_200, kI_300, kI_1058, kI_1108, kI_1348, kI_1588, kI_5290, kI_7940, kI_100000, kI_e7, kI_e9, kL_0, kL_1, kL_5, kL_9, kL_10, kL_12, kL_23, kL_30, kL_48, kL_57, kL_59, kL_97, kL_100, kL_122, kL_1000, kL_e7, kL_e9, kL_e10, oI_lt, oI_le, oI_eq, oL_lt, oL_le, oL_eq, oI_L, oI_clamp, oI_inb, oL_nz]; omega), fX7_cell, bd_eq, kI_4, oI_mul, oI_add, oI_inb (by omega) (by omega) (by omega), gd_true, gd_true, gd_true, oI_clamp (by omega) (by omega), show ((m : Int) * 4 + (k : Int)).toNat = 4 * m + k by omega, e1, e2, oI_add, e3, ltb_eq, gd_true, kI_0, ltb_eq, ltb_eq, kI_1, oI_add, nat1]
      exact u3
theorem ccZ_L {m : Nat} (hm : m < 60) (h6 : W6 s) (x1 x4 : Int64) : ∀ (fuel k : Nat) (Z : sM), k ≤ 4 → 4 - k < fuel → ZR (zA Z) (zB Z) (uC (uE s (coE s m k)) (coC s m k)) → ∃ Z', Fr m27 Z Z' ∧ ZR (zA Z') (zB Z') (coS s m) ∧ ∀ kk, fX10_trueUp_L33 x1 (oI m) x4 kk fuel (oI k) Z = kk Z' := by
  intro fuel
  induction fuel with
  | zero => intro k Z _ h; omega
  | succ fuel ih =>
    intro k Z hk hfu hZ
    by_cases e : k = 4
    · rw [e] at hZ
      refine ⟨Z, Fr.refl _, hZ, fun kk => ?_⟩
      rw [fX10_trueUp_L33, if_pos (by simp (disch := omega) only [kI_0, kI_1, kI_2, kI_3, kI_4, kI_5, kI_6, kI_7, kI_8, kI_9, kI_10, kI_12, kI_16, kI_17, kI_19, kI_20, kI_23, kI_24, kI_30, kI_32, kI_36, kI_48, kI_57, kI_59, kI_60, kI_72, kI_80, kI_84, kI_97, kI_98, kI_100, kI_122, kI_148, kI_200, kI_300, kI_1058, kI_1108, kI_1348, kI_1588, kI_5290, kI_7940, kI_100000, kI_e7, kI_e9, kL_0, kL_1, kL_5, kL_9, kL_10, kL_12, kL_23, kL_30, kL_48, kL_57, kL_59, kL_97, kL_100, kL_122, kL_1000, kL_e7, kL_e9, kL_e10, oI_lt, oI_le, oI_eq, oL_lt, oL_le, oL_eq, oI_L, oI_clamp, oI_inb, oL_nz]; omega)]
    · have hb := h6.1 (4 * m + k) (by omega)
      have e2 : Z.1 27 0 0 (1348 + (4 * m + k)) = oI (sC s (4 * m + k)) := (hZ.cr (by omega)).trans (congrArg oI (show coC s m k (4 * m + k) = _ by rw [coC, if_neg (by omega)]))
      by_cases q : sC s (4 * m + k) = -1
      · have h1 := hZ.wC (c0 := 4 * m + k) (v := -1) (by omega)
        have h2 : ZR (zA (wI Z 27 0 0 (1348 + (4 * m + k)) (oI (-1)))) (zB (wI Z 27 0 0 (1348 + (4 * m + k)) (oI (-1)))) (uC (uE s (coE s m (k + 1))) (coC s m (k + 1))) := by
          rw [coE_s, coC_s, if_pos q, show up1 (coE s m k) (4 * m + k) (sE s (4 * m + k)) = coE s m k by
            rw [show sE s (4 * m + k) = coE s m k (4 * m + k) by rw [coE, if_neg (by omega)], up1_self]]
          exact h1
        obtain ⟨Z', u1, u2, u3⟩ := ih (k + 1) _ (by omega) (by omega) h2
        refine ⟨Z', Fr.trans ((Fr.refl _).wI rfl) u1, u2, fun kk => ?_⟩
        rw [fX10_trueUp_L33, if_neg (by simp (disch := omega) only [kI_0, kI_1, kI_2, kI_3, kI_4, kI_5, kI_6, kI_7, kI_8, kI_9, kI_10, kI_12, kI_16, kI_17, kI_19, kI_20, kI_23, kI_24, kI_30, kI_32, kI_36, kI_48, kI_57, kI_59, kI_60, kI_72, kI_80, kI_84, kI_97, kI_98, kI_100, kI_122, kI_148, kI_200, kI_300, kI_1058, kI_1108, kI_1348, kI_1588, kI_5290, kI_7940, kI_100000, kI_e7, kI_e9, kL_0, kL_1, kL_5, kL_9, kL_10, kL_12, kL_23, kL_30, kL_48, kL_57, kL_59, kL_97, kL_100, kL_122, kL_1000, kL_e7, kL_e9, kL_e10, oI_lt, oI_le, oI_eq, oL_lt, oL_le, oL_eq, oI_L, oI_clamp, oI_inb, oL_nz]; omega), ltb_eq, kI_1348, kI_4, oI_mul, oI_add, oI_add, oI_inb (by omega) (by omega) (by omega), gd_true, oI_clamp (by omega) (by omega), show (1348 + 4 * (m : Int) + (k : Int)).toNat = 1348 + (4 * m + k) by omega, ltb_eq, e2, q, if_pos km1.symm]
        dsimp only
        rw [gd_true, km1, ltb_eq, ltb_eq, kI_1, oI_add, nat1]
        exact u3 kk
      · have h1 := (hZ.wE (c0 := 4 * m + k) (v := sC s (4 * m + k)) (by omega)).wC (c0 := 4 * m + k) (v := -1) (by omega)
        have h2 : ZR (zA (wI (wI Z 27 0 0 (1108 + (4 * m + k)) (oI (sC s (4 * m + k)))) 27 0 0 (1348 + (4 * m + k)) (oI (-1)))) (zB (wI (wI Z 27 0 0 (1108 + (4 * m + k)) (oI (sC s (4 * m + k)))) 27 0 0 (1348 + (4 * m + k)) (oI (-1)))) (uC (uE s (coE s m (k + 1))) (coC s m (k + 1))) := by
          rw [coE_s, coC_s, if_neg q]
          exact h1
        obtain ⟨Z', u1, u2, u3⟩ := ih (k + 1) _ (by omega) (by omega) h2
        refine ⟨Z', Fr.trans (((Fr.refl _).wI rfl).wI rfl) u1, u2, fun kk => ?_⟩
        rw [fX10_trueUp_L33, if_neg (by simp (disch := omega) only [kI_0, kI_1, kI_2, kI_3, kI_4, kI_5, kI_6, kI_7, kI_8, kI_9, kI_10, kI_12, kI_16, kI_17, kI_19, kI_20, kI_23, kI_24, kI_30, kI_32, kI_36, kI_48, kI_57, kI_59, kI_60, kI_72, kI_80, kI_84, kI_97, kI_98, kI_100, kI_122, kI_148, kI_200, kI_300, kI_1058, kI_1108, kI_1348, kI_1588, kI_5290, kI_7940, kI_100000, kI_e7, kI_e9, kL_0, kL_1, kL_5, kL_9, kL_10, kL_12, kL_23, kL_30, kL_48, kL_57, kL_59, kL_97, kL_100, kL_122, kL_1000, kL_e7, kL_e9, kL_e10, oI_lt, oI_le, oI_eq, oL_lt, oL_le, oL_eq, oI_L, oI_clamp, oI_inb, oL_nz]; omega), ltb_eq, kI_1348, kI_4, oI_mul, oI_add, oI_add, oI_inb (by omega) (by omega) (by omega), gd_true, oI_clamp (by omega) (by omega), show (1348 + 4 * (m : Int) + (k : Int)).toNat = 1348 + (4 * m + k) by omega, ltb_eq, e2, if_neg (by rw [km1]; simp (disch := omega) only [oI_lt, oI_le, oI_eq, oL_lt, oL_le, oL_eq, oI_L, oI_clamp, oI_inb, oL_nz]; exact q), fX10_generatedAt, bd_eq, gd_true, kI_1108, kI_4, oI_mul, oI_add, oI_add, oI_inb (by omega) (by omega) (by omega), gd_true, oI_clamp (by omega) (by omega), show (1108 + 4 * (m : Int) + (k : Int)).toNat = 1108 + (4 * m + k) by omega, ltb_eq]
        dsimp only
        rw [gd_true, km1, ltb_eq, ltb_eq, kI_1, oI_add, nat1]
        exact u3 kk
end
