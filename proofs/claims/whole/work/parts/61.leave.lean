/-! Leaving. -/
theorem tn_0 : (0 : Int32).toNatClampNeg = 0 := Eq.trans rfl rfl
theorem tn_1 : (1 : Int32).toNatClampNeg = 1 := Eq.trans rfl rfl
theorem tn_2 : (2 : Int32).toNatClampNeg = 2 := Eq.trans rfl rfl
theorem tn_3 : (3 : Int32).toNatClampNeg = 3 := Eq.trans rfl rfl
theorem tn_4 : (4 : Int32).toNatClampNeg = 4 := Eq.trans rfl rfl
theorem tn_5 : (5 : Int32).toNatClampNeg = 5 := Eq.trans rfl rfl
theorem tn_7 : (7 : Int32).toNatClampNeg = 7 := Eq.trans rfl rfl
theorem km1 : (-1 : Int32) = oI (-1) := Eq.trans rfl rfl
theorem up2_c (f : Nat → Nat → Int) {i k i' k' : Nat} (v v' : Int) (h : ¬ (i = i' ∧ k = k')) : up2 (up2 f i k v) i' k' v' = up2 (up2 f i' k' v') i k v := by
  funext j l
  simp only [up2]
  by_cases e1 : j = i' ∧ l = k'
  · rw [if_pos e1, if_neg (by omega), if_pos e1]
  · rw [if_neg e1]
    by_cases e2 : j = i ∧ l = k
    · rw [if_pos e2, if_pos e2]
    · rw [if_neg e2, if_neg e2, if_neg e1]
def enB (B : Nat → Nat → Int) (i k : Nat) : Nat → Nat → Int := fun j w => if w = 5 ∧ j < k ∧ B j 5 = (i : Int) then -1 else B j w
def cl0 (T : Nat → Nat → Int) (i k : Nat) : Nat → Nat → Int := fun j m => if j = i ∧ m < k then 0 else T j m
def lvU (s : sS) (i : Nat) : Int := mn (sA s i 0) (bal s i)
def lvX (s : sS) (i : Nat) : Int := bal s i - lvU s i
def lvY (s : sS) (i : Nat) : Int := lvX s i * sG s 2 / 100
def lvF (s : sS) (i : Nat) : Int := sF s 0 + ((lvX s i - lvY s i) - (sA s i 0 - lvU s i))
def lvA (s : sS) (i : Nat) : Nat → Nat → Int := up2 (up2 (up2 (up2 (sA s) i 0 0) i 2 (sA s i 2 + sA s i 1)) i 1 0) i 3 (lvY s i)
def lvB (s : sS) (i : Nat) : Nat → Nat → Int := up2 (up2 (up2 (sB s) i 3 2) i 4 0) i 5 (-1)
def lvS (s : sS) (N i : Nat) : sS := (sG s, sH s, sRt s, enB (lvB s i) i N, sD s, sE s, sC s, up1 (sF s) 0 (lvF s i), lvA s i, cl0 (sT s) i 60)
theorem enB_0 (B : Nat → Nat → Int) (i : Nat) : enB B i 0 = B := by
  funext j w
  rw [enB, if_neg (by omega)]
theorem enB_p (B : Nat → Nat → Int) {i k : Nat} (h : B k 5 = (i : Int)) : enB B i (k + 1) = up2 (enB B i k) k 5 (-1) := by
  funext j w
  by_cases e : j = k ∧ w = 5
  · rw [e.1, e.2, up2_s, enB, if_pos ⟨rfl, by omega, h⟩]
  · rw [up2_n _ _ e, enB, enB]
    by_cases e2 : w = 5 ∧ j < k ∧ B j 5 = (i : Int)
    · rw [if_pos e2, if_pos ⟨e2.1, by omega, e2.2.2⟩]
    · rw [if_neg e2, if_neg (fun q => e2 ⟨q.1, by omega, q.2.2⟩)]
theorem enB_n (B : Nat → Nat → Int) {i k : Nat} (h : ¬ B k 5 = (i : Int)) : enB B i (k + 1) = enB B i k := by
  funext j w
  rw [enB, enB]
  by_cases e2 : w = 5 ∧ j < k ∧ B j 5 = (i : Int)
  · rw [if_pos e2, if_pos ⟨e2.1, by omega, e2.2.2⟩]
  · rw [if_neg e2, if_neg]
    rintro ⟨q1, q2, q3⟩
    by_cases e : j = k
    · exact h (e ▸ q3)
    · exact e2 ⟨q1, by omega, q3⟩
theorem cl0_s (T : Nat → Nat → Int) (i k : Nat) : cl0 T i (k + 1) = up2 (cl0 T i k) i k 0 := by
  funext j m
  simp only [cl0, up2]
  by_cases e : j = i ∧ m = k
  · rw [if_pos e, if_pos (by omega)]
  · rw [if_neg e]
    by_cases e2 : j = i ∧ m < k
    · rw [if_pos e2, if_pos (by omega)]
    · rw [if_neg e2, if_neg (by omega)]
theorem cl0_0 (T : Nat → Nat → Int) (i : Nat) : cl0 T i 0 = T := by
  funext j w
  rw [cl0, if_neg (by omega)]
section
variable {A Z : sM} {s : sS} {N n i : Nat}
theorem SR.b6 {b : Nat} {f g : Nat → Nat → Int} (h : SR A b (uB s f) N) (hg : ∀ j w, j < N → w < 6 → g j w = f j w) (h6 : ∀ j, j < N → ¬ f j 5 = -1 → g j 6 = f j 6) : SR A b (uB s g) N := by
  refine ⟨fun k hk => h.g hk, ⟨h.mon, h.day, h.cnt⟩, fun k hk => h.hr hk, fun p hp => h.rt hp, fun i hi => ⟨?_, ?_, ?_, ?_, ?_, ?_, fun ht => ?_⟩, fun i hi m hm => h.dy hi hm, fun c hc => ⟨h.gn hc, h.cr hc⟩, ⟨h.fu, h.op⟩, fun i hi w hw => h.ac hi hw, fun i hi m hm => h.lt hi hm⟩
  · exact (h.st hi).trans (congrArg oI (hg i 3 hi (by omega)).symm)
  · exact (h.wa hi).trans (congrArg oI (hg i 0 hi (by omega)).symm)
  · exact (h.mi hi).trans (congrArg oI (hg i 1 hi (by omega)).symm)
  · exact (h.pr hi).trans (congrArg oI (hg i 2 hi (by omega)).symm)
  · exact (h.sh hi).trans (congrArg oI (hg i 4 hi (by omega)).symm)
  · exact (h.to hi).trans (congrArg oI (hg i 5 hi (by omega)).symm)
  · have ht2 : ¬ g i 5 = -1 := ht
    rw [hg i 5 hi (by omega)] at ht2
    exact (h.pc hi ht2).trans (congrArg oI (h6 i hi ht2).symm)
theorem SR.asg1 {i0 : Nat} (h : SR A 0 s N) (h0 : i0 < N) : SR (wI (wI A 8 5 (16 * 0 + i0) 0 (oI (-1))) 8 6 (16 * 0 + i0) 0 (oI 0)) 0 (uB s (up2 (sB s) i0 5 (-1))) N :=
  (h.asg (v := -1) (p0 := 0) h0).b6 (fun j w hj hw => by rw [up2_n (up2 (sB s) i0 5 (-1)) _ (by omega)]) (fun j hj q => by
    by_cases e : j = i0
    · rw [e, up2_n _ _ (by omega), up2_s] at q; exact absurd rfl q
    · rw [up2_n (up2 (sB s) i0 5 (-1)) _ (by omega)])
theorem SR.fT {i0 : Nat} (h : SR A 0 s N) : SR (fL A 25 (16 * 0 + i0) 72 (oL 0)) 0 (uT s (cl0 (sT s) i0 60)) N := by
  refine ⟨fun k hk => h.g hk, ⟨h.mon, h.day, h.cnt⟩, fun k hk => h.hr hk, fun p hp => h.rt hp, fun i hi => ⟨h.st hi, h.wa hi, h.mi hi, h.pr hi, h.sh hi, h.to hi, fun ht => h.pc hi ht⟩, fun i hi m hm => h.dy hi hm, fun c hc => ⟨h.gn hc, h.cr hc⟩, ⟨?_, ?_⟩, fun i hi w hw => ?_, fun i hi m hm => ?_⟩
  · rw [fL_2, if_neg (by omega)]; exact h.fu
  · rw [fL_2, if_neg (by omega)]; exact h.op
  · rw [fL_2, if_neg (by omega)]; exact h.ac hi hw
  · rw [fL_2]; show _ = oL (if m < 60 then cl0 (sT s) i0 60 i m else 0)
    by_cases q : i = i0
    · rw [if_pos (by omega)]
      by_cases q2 : m < 60
      · rw [if_pos q2, cl0, if_pos ⟨q, q2⟩]
      · rw [if_neg q2]
    · rw [if_neg (by omega), h.lt hi hm, cl0, if_neg (show ¬ (i = i0 ∧ m < 60) from fun e => q e.1)]
theorem setA (A : sM) (o : Nat) : fX8_setAssignment o (-1 : Int32) (0 : Int32) A = some (wI (wI A 8 5 o 0 (oI (-1))) 8 6 o 0 (oI 0)) := by
  rw [fX8_setAssignment, if_pos (by decide)]
  rfl
theorem enA_L (hN : N ≤ 16) (hi : i < N) (hr : ∀ j, j < N → -1 ≤ sB s j 5 ∧ sB s j 5 < N) : ∀ (fuel k : Nat) (A : sM), k ≤ N → N - k < fuel → SR A 0 (uB s (enB (sB s) i k)) N → ∃ A', Fr m8 A A' ∧ SR A' 0 (uB s (enB (sB s) i N)) N ∧ fX0_endAssignments_L13 0 (oI i) (fun A => some A) fuel (oI k) A = some A' := by
  intro fuel
  induction fuel with
  | zero => intro k A _ h; omega
  | succ fuel ih =>
    intro k A hk hfu hS
    rw [fX0_endAssignments_L13, hS.cnt]
    by_cases e : k = N
    · refine ⟨A, Fr.refl _, by rw [e] at hS; exact hS, ?_⟩
      rw [if_pos (by simp (disch := omega) only [oI_lt, oI_le, oI_eq, oL_lt, oL_le, oL_eq, oI_L, oI_clamp, oI_inb, oL_nz]; omega)]
    · have hk2 : k < N := by omega
      have hrk := hr k hk2
      have ev : A.1 8 5 (16 * 0 + k) 0 = oI (sB s k 5) := (hS.to hk2).trans (by
        show oI (enB (sB s) i k k 5) = _
        rw [enB, if_neg (by omega)])
      rw [if_neg (by simp (disch := omega) only [oI_lt, oI_le, oI_eq, oL_lt, oL_le, oL_eq, oI_L, oI_clamp, oI_inb, oL_nz]; omega), oI_inb (by omega) (by omega) (by omega), gd_true, oI_clamp (by omega) (by omega), cl_nat, ev, ltb_eq]
      by_cases q : sB s k 5 = (i : Int)
      · have h1 := hS.asg1 hk2
        have h2 : SR (wI (wI A 8 5 (16 * 0 + k) 0 (oI (-1))) 8 6 (16 * 0 + k) 0 (oI 0)) 0 (uB s (enB (sB s) i (k + 1))) N := by
          rw [enB_p _ q]; exact h1
        obtain ⟨A', u1, u2, u3⟩ := ih (k + 1) _ (by omega) (by omega) h2
        refine ⟨A', Fr.trans (((Fr.refl _).wI (by simp [m8]; omega)).wI (by simp [m8]; omega)) u1, u2, ?_⟩
        rw [if_pos (by rw [q]), gd_true, setA, bd_eq]
        dsimp only
        rw [ltb_eq, kI_1, oI_add, nat1]
        exact u3
      · obtain ⟨A', u1, u2, u3⟩ := ih (k + 1) A (by omega) (by omega) (by rw [enB_n _ q]; exact hS)
        refine ⟨A', u1, u2, ?_⟩
        rw [if_neg (by simp (disch := omega) only [oI_lt, oI_le, oI_eq, oL_lt, oL_le, oL_eq, oI_L, oI_clamp, oI_inb, oL_nz]; exact q)]
        dsimp only
        rw [ltb_eq, kI_1, oI_add, nat1]
        exact u3
theorem enZ_L (h1 : W1 s N) (hi : i < N) (hr : ∀ j, j < N → -1 ≤ sB s j 5 ∧ sB s j 5 < N) (x5 : Int64) : ∀ (fuel k : Nat) (Z : sM), k ≤ N → N - k < fuel → ZR (zA Z) (zB Z) (uB s (enB (sB s) i k)) → ∃ Z', Fr m27 Z Z' ∧ ZR (zA Z') (zB Z') (uB s (enB (sB s) i N)) ∧ ∀ kk, fX10_leave_L231 (oI i) x5 kk fuel (oI k) Z = kk Z' := by
  obtain ⟨_, _, _, _, _, _, _, g7, hN⟩ := id h1
  intro fuel
  induction fuel with
  | zero => intro k Z _ h; omega
  | succ fuel ih =>
    intro k Z hk hfu hZ
    have e7 : Z.1 27 0 0 (7 : Int32).toNatClampNeg = oI N := (hZ.g (k := 7) (by omega)).trans (by rw [show sG (uB s (enB (sB s) i k)) 7 = sG s 7 from rfl, g7])
    by_cases e : k = N
    · refine ⟨Z, Fr.refl _, by rw [e] at hZ; exact hZ, fun kk => ?_⟩
      rw [fX10_leave_L231, e7, if_pos (by simp (disch := omega) only [oI_lt, oI_le, oI_eq, oL_lt, oL_le, oL_eq, oI_L, oI_clamp, oI_inb, oL_nz]; omega)]
    · have hk2 : k < N := by omega
      have hrk := hr k hk2
      have ev : fX10_ofMember (oI k) (oI 5) Z = some (oI (sB s k 5)) := (ofM5 hZ (by omega)).trans (by
        show some (oI (enB (sB s) i k k 5)) = _
        rw [enB, if_neg (by omega)])
      by_cases q : sB s k 5 = (i : Int)
      · have h1 := hZ.wB (i0 := k) (w0 := 5) (v := -1) (by omega) (by omega)
        have h2 : ZR (zA (wI Z 27 0 0 (36 + 7 * k + 5) (oI (-1)))) (zB (wI Z 27 0 0 (36 + 7 * k + 5) (oI (-1)))) (uB s (enB (sB s) i (k + 1))) := by
          rw [enB_p _ q]; exact h1
        obtain ⟨Z', u1, u2, u3⟩ := ih (k + 1) _ (by omega) (by omega) h2
        refine ⟨Z', Fr.trans ((Fr.refl _).wI rfl) u1, u2, fun kk => ?_⟩
        rw [fX10_leave_L231, e7, if_neg (by simp (disch := omega) only [oI_lt, oI_le, oI_eq, oL_lt, oL_le, oL_eq, oI_L, oI_clamp, oI_inb, oL_nz]; omega), kI_5, ev, bd_eq, ltb_eq, if_pos (by rw [q]), km1, show oI 5 = oI (5 : Nat) from rfl, setM (by omega) (by omega), bd_eq]
        dsimp only
        rw [ltb_eq, kI_1, oI_add, nat1]
        exact u3 kk
      · obtain ⟨Z', u1, u2, u3⟩ := ih (k + 1) Z (by omega) (by omega) (by rw [enB_n _ q]; exact hZ)
        refine ⟨Z', u1, u2, fun kk => ?_⟩
        rw [fX10_leave_L231, e7, if_neg (by simp (disch := omega) only [oI_lt, oI_le, oI_eq, oL_lt, oL_le, oL_eq, oI_L, oI_clamp, oI_inb, oL_nz]; omega), kI_5, ev, bd_eq, ltb_eq, if_neg (by simp (disch := omega) only [oI_lt, oI_le, oI_eq, oL_lt, oL_le, oL_eq, oI_L, oI_clamp, oI_inb, oL_nz]; exact q)]
        dsimp only
        rw [ltb_eq, kI_1, oI_add, nat1]
        exact u3 kk
theorem clZ_L (hi : i < 16) (x5 : Int64) : ∀ (fuel k : Nat) (Z : sM), k ≤ 60 → 60 - k < fuel → ZR (zA Z) (zB Z) (uT s (cl0 (sT s) i k)) → ∃ Z', Fr m30 Z Z' ∧ ZR (zA Z') (zB Z') (uT s (cl0 (sT s) i 60)) ∧ ∀ kk, fX10_leave_L138 (oI i) x5 kk fuel (oI k) Z = kk Z' := by
  intro fuel
  induction fuel with
  | zero => intro k Z _ h; omega
  | succ fuel ih =>
    intro k Z hk hfu hZ
    by_cases e : k = 60
    · refine ⟨Z, Fr.refl _, by rw [e] at hZ; exact hZ, fun kk => ?_⟩
      rw [fX10_leave_L138, if_pos (by simp (disch := omega) only [kI_0, kI_1, kI_2, kI_3, kI_4, kI_5, kI_6, kI_7, kI_8, kI_9, kI_10, kI_12, kI_16, kI_17, kI_19, kI_20, kI_23, kI_24, kI_30, kI_32, kI_36, kI_48, kI_57, kI_59, kI_60, kI_72, kI_80, kI_84, kI_97, kI_98, kI_100, kI_122, kI_148, kI_200, kI_300, kI_1058, kI_1108, kI_1348, kI_1588, kI_5290, kI_7940, kI_100000, kI_e7, kI_e9, kL_0, kL_1, kL_5, kL_9, kL_10, kL_12, kL_23, kL_30, kL_48, kL_57, kL_59, kL_97, kL_100, kL_122, kL_1000, kL_e7, kL_e9, kL_e10, oI_lt, oI_le, oI_eq, oL_lt, oL_le, oL_eq, oI_L, oI_clamp, oI_inb, oL_nz]; omega)]
    · have h1 := hZ.wT (i0 := i) (m0 := k) (v := 0) hi (by omega)
      have h2 : ZR (zA (wL Z 30 0 0 (98 + 60 * i + k) (oL 0))) (zB (wL Z 30 0 0 (98 + 60 * i + k) (oL 0))) (uT s (cl0 (sT s) i (k + 1))) := by
        rw [cl0_s]; exact h1
      obtain ⟨Z', u1, u2, u3⟩ := ih (k + 1) _ (by omega) (by omega) h2
      refine ⟨Z', Fr.trans ((Fr.refl _).wL rfl) u1, u2, fun kk => ?_⟩
      rw [fX10_leave_L138, if_neg (by simp (disch := omega) only [kI_0, kI_1, kI_2, kI_3, kI_4, kI_5, kI_6, kI_7, kI_8, kI_9, kI_10, kI_12, kI_16, kI_17, kI_19, kI_20, kI_23, kI_24, kI_30, kI_32, kI_36, kI_48, kI_57, kI_59, kI_60, kI_72, kI_80, kI_84, kI_97, kI_98, kI_100, kI_122, kI_148, kI_200, kI_300, kI_1058, kI_1108, kI_1348, kI_1588, kI_5290, kI_7940, kI_100000, kI_e7, kI_e9, kL_0, kL_1, kL_5, kL_9, kL_10, kL_12, kL_23, kL_30, kL_48, kL_57, kL_59, kL_97, kL_100, kL_122, kL_1000, kL_e7, kL_e9, kL_e10, oI_lt, oI_le, oI_eq, oL_lt, oL_le, oL_eq, oI_L, oI_clamp, oI_inb, oL_nz]; omega), fX10_lotAt, bd_eq, kI_98, kI_60, oI_mul, oI_add, oI_add, oI_inb (by omega) (by omega) (by omega), gd_true, oI_clamp (by omega) (by omega), show (98 + 60 * (i : Int) + (k : Int)).toNat = 98 + 60 * i + k by omega, kL_0, ltb_eq, ltb_eq, kI_1, oI_add, nat1]
      exact u3 kk
end
