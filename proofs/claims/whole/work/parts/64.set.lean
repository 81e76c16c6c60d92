/-! Credits, and credits lost. -/
def crS (s : sS) (i : Nat) (c : Int) : sS := uT (uA s (up2 (sA s) i 0 (sA s i 0 - mn (sA s i 0) c))) (up2 (sT s) i (sG s 5).toNat (sT s i (sG s 5).toNat + (c - mn (sA s i 0) c)))
def loS (s : sS) (i : Nat) (c : Int) : sS := uA (uT s (tk s i true c 60)) (up2 (sA s) i 0 (sA s i 0 + rmn (fun k => sT s i (sg true k)) c 60))
def inS (s : sS) (c : Int) : sS := uF s (up1 (sF s) 0 (sF s 0 + c))
def m26 (c _ o : Nat) : Bool := ((c == 25 || c == 26) && decide (o < 16)) || (c == 0 && o == 0)
theorem m26_mv {A A' : sM} (h : Fr m26 A A') : Fr mvA A A' := h.mono fun c k o hq => by
  simp only [m26]
  by_cases e : c = 25 ∨ c = 26
  · rcases e with rfl | rfl <;> simp [mvA, wkA] at hq ⊢ <;> omega
  · by_cases e2 : c = 0
    · subst e2; simp [mvA, wkA] at hq ⊢; exact hq
    · simp [e2]; omega
theorem m26_25 {i : Nat} (k : Nat) (hi : i < 16) : m26 25 k (16 * 0 + i) = true := by simp [m26]; omega
theorem m26_26 {i : Nat} (k : Nat) (hi : i < 16) : m26 26 k (16 * 0 + i) = true := by simp [m26]; omega
theorem tk_done (s : sS) (i : Nat) (b : Bool) {x : Int} {k : Nat} (hk : k ≤ 60) (h0 : rmn (fun k => sT s i (sg b k)) x k = 0) (hf : ∀ m, m < 60 → 0 ≤ sT s i m) : tk s i b x k = tk s i b x 60 ∧ rmn (fun k => sT s i (sg b k)) x 60 = 0 := by
  have hf2 : ∀ m, m < 60 → 0 ≤ (fun k => sT s i (sg b k)) m := fun m hm => hf _ (sg_lt b hm)
  constructor
  · funext j m
    rw [tk, tk]
    by_cases e : j = i ∧ m < 60
    · have hs := sg_lt b e.2
      by_cases e2 : sg b m < k
      · rw [if_pos ⟨e.1, e.2, e2⟩, if_pos ⟨e.1, e.2, hs⟩]
      · rw [if_neg (fun q => e2 q.2.2), if_pos ⟨e.1, e.2, hs⟩, payd_done h0 (by omega) (fun j hj => hf2 j (by omega)), sg_sg b e.2, e.1]
    · rw [if_neg (fun q => e ⟨q.1, q.2.1⟩), if_neg (fun q => e ⟨q.1, q.2.1⟩)]
  · have := rmn_done h0 (60 - k) (fun j hj => hf2 j (by omega))
    rw [show k + (60 - k) = 60 by omega] at this
    exact this
section
variable {A Z : sM} {s : sS} {N n i : Nat}
theorem crA {m : Nat} {c : Int} (hS : SR A 0 s N) (hN : N ≤ 16) (hi : i < N) (hm : sG s 5 = m) (hm2 : m < 60) (hc : 0 ≤ c ∧ c < 4611686018427387904) (hd : 0 ≤ sA s i 0 ∧ sA s i 0 < 4611686018427387904) : ∃ A', Fr m26 A A' ∧ SR A' 0 (crS s i c) N ∧ fX8_takeCredit (16 * 0 + i) (oL c) (oI m) A = some A' := by
  have eU : (if oL (sA s i 0) < oL c then oL (sA s i 0) else oL c) = oL (mn (sA s i 0) c) := by
    simp (disch := omega) only [oL_lt]; rw [mn]; split <;> rfl
  have h1 := hS.wA (i0 := i) (w0 := 0) (v := sA s i 0 - mn (sA s i 0) c) hi (by omega)
  have e1 : (wL A 26 0 (16 * 0 + i) 0 (oL (sA s i 0 - mn (sA s i 0) c))).2 25 0 (16 * 0 + i) m = oL (sT s i m) := (h1.lt hi (by omega)).trans (by rw [if_pos hm2])
  have h2 := h1.wT (i0 := i) (m0 := m) (v := sT s i m + (c - mn (sA s i 0) c)) hi hm2
  refine ⟨wL (wL A 26 0 (16 * 0 + i) 0 (oL (sA s i 0 - mn (sA s i 0) c))) 25 0 (16 * 0 + i) m (oL (sT s i m + (c - mn (sA s i 0) c))), ((Fr.refl _).wL (m26_26 0 (by omega))).wL (m26_25 0 (by omega)), ?_, ?_⟩
  · have : crS s i c = uT (uA s (up2 (sA s) i 0 (sA s i 0 - mn (sA s i 0) c))) (up2 (sT s) i m (sT s i m + (c - mn (sA s i 0) c))) := by
      rw [crS, hm, cl_nat]
    rw [this]; exact h2
  · rw [fX8_takeCredit, tn_0, hS.ac hi (w := 0) (by omega), eU, ltb_eq, oL_sub, ltb_eq, if_neg (by simp (disch := omega) only [kI_0, kI_1, kI_2, kI_3, kI_4, kI_5, kI_6, kI_7, kI_8, kI_9, kI_10, kI_12, kI_16, kI_17, kI_19, kI_20, kI_23, kI_24, kI_30, kI_32, kI_36, kI_48, kI_57, kI_59, kI_60, kI_72, kI_80, kI_84, kI_97, kI_98, kI_100, kI_122, kI_148, kI_200, kI_300, kI_1058, kI_1108, kI_1348, kI_1588, kI_5290, kI_7940, kI_100000, kI_e7, kI_e9, kL_0, kL_1, kL_5, kL_9, kL_10, kL_12, kL_23, kL_30, kL_48, kL_57, kL_59, kL_97, kL_100, kL_122, kL_1000, kL_e7, kL_e9, kL_e10, oI_lt, oI_le, oI_eq, oL_lt, oL_le, oL_eq, oI_L, oI_clamp, oI_inb, oL_nz]; omega), if_neg (by simp (disch := omega) only [kI_0, kI_1, kI_2, kI_3, kI_4, kI_5, kI_6, kI_7, kI_8, kI_9, kI_10, kI_12, kI_16, kI_17, kI_19, kI_20, kI_23, kI_24, kI_30, kI_32, kI_36, kI_48, kI_57, kI_59, kI_60, kI_72, kI_80, kI_84, kI_97, kI_98, kI_100, kI_122, kI_148, kI_200, kI_300, kI_1058, kI_1108, kI_1348, kI_1588, kI_5290, kI_7940, kI_100000, kI_e7, kI_e9, kL_0, kL_1, kL_5, kL_9, kL_10, kL_12, kL_23, kL_30, kL_48, kL_57, kL_59, kL_97, kL_100, kL_122, kL_1000, kL_e7, kL_e9, kL_e10, oI_lt, oI_le, oI_eq, oL_lt, oL_le, oL_eq, oI_L, oI_clamp, oI_inb, oL_nz]; omega), inbA (by omega) (by omega), gd_true, gd_true, clpA (by omega), e1, oL_sub, oL_add, ltb_eq]
theorem crZ {m : Nat} {c : Int} (hZ : ZR (zA Z) (zB Z) s) (hi : i < 16) (hm : sG s 5 = m) (hm2 : m < 60) (hc : 0 ≤ c ∧ c < 4611686018427387904) (hd : 0 ≤ sA s i 0 ∧ sA s i 0 < 4611686018427387904) : ∃ Z', Fr m30 Z Z' ∧ ZR (zA Z') (zB Z') (crS s i c) ∧ fX10_credits (oI i) (oL c) Z = some Z' := by
  have h1 := hZ.wA (i0 := i) (w0 := 0) (v := sA s i 0 - mn (sA s i 0) c) hi (by omega)
  have e0 : Z.2 30 0 0 (2 + 6 * i + 0) = oL (sA s i 0) := hZ.ac hi (by omega)
  have e5 : (wL Z 30 0 0 (2 + 6 * i + 0) (oL (sA s i 0 - mn (sA s i 0) c))).1 27 0 0 5 = oI m := (h1.g (k := 5) (by omega)).trans (congrArg oI hm)
  have e1 : (wL Z 30 0 0 (2 + 6 * i + 0) (oL (sA s i 0 - mn (sA s i 0) c))).2 30 0 0 (98 + 60 * i + m) = oL (sT s i m) := h1.lt hi hm2
  have h2 := h1.wT (i0 := i) (m0 := m) (v := sT s i m + (c - mn (sA s i 0) c)) hi hm2
  refine ⟨wL (wL Z 30 0 0 (2 + 6 * i + 0) (oL (sA s i 0 - mn (sA s i 0) c))) 30 0 0 (98 + 60 * i + m) (oL (sT s i m + (c - mn (sA s i 0) c))), ((Fr.refl _).wL rfl).wL rfl, ?_, ?_⟩
  · have : crS s i c = uT (uA s (up2 (sA s) i 0 (sA s i 0 - mn (sA s i 0) c))) (up2 (sT s) i m (sT s i m + (c - mn (sA s i 0) c))) := by
      rw [crS, hm, cl_nat]
    rw [this]; exact h2
  · have hb : ∀ v : Int64, v = oL (mn (sA s i 0) c) → (ltb (wL Z 30 0 0 (2 + 6 * i + 0) (oL (sA s i 0) - v)) fun Z_7 =>
          Option.bind (fX10_lotAt (oI i) (Z_7.1 27 0 0 (5 : Int32).toNatClampNeg) Z_7) fun r_9 =>
          gd (inb r_9 1058) (
            gd (inb r_9 1058) (
              ltb (wL Z_7 30 0 0 r_9.toNatClampNeg ((Z_7.2 30 0 0 r_9.toNatClampNeg) + (oL c - v))) fun Z_12 =>
              some Z_12))) = some (wL (wL Z 30 0 0 (2 + 6 * i + 0) (oL (sA s i 0 - mn (sA s i 0) c))) 30 0 0 (98 + 60 * i + m) (oL (sT s i m + (c - mn (sA s i 0) c)))) := by
      rintro _ rfl
      rw [oL_sub, oL_sub, ltb_eq, tn_5, e5, fX10_lotAt, bd_eq, kI_98, kI_60, oI_mul, oI_add, oI_add, oI_inb (by omega) (by omega) (by omega), gd_true, gd_true, oI_clamp (by omega) (by omega), show (98 + 60 * (i : Int) + (m : Int)).toNat = 98 + 60 * i + m by omega, e1, oL_add, ltb_eq]
    rw [fX10_credits, acc0, bd_eq, inbA (by omega) (by omega), gd_true, clpA (by omega), e0, ltb_eq]
    simp only [gd_true]
    by_cases q : sA s i 0 < c
    · rw [if_neg (by simp (disch := omega) only [oI_lt, oI_le, oI_eq, oL_lt, oL_le, oL_eq, oI_L, oI_clamp, oI_inb, oL_nz]; omega)]
      exact hb _ (by rw [mn, if_pos q])
    · rw [if_pos (by simp (disch := omega) only [oI_lt, oI_le, oI_eq, oL_lt, oL_le, oL_eq, oI_L, oI_clamp, oI_inb, oL_nz]; omega)]
      exact hb _ (by rw [mn, if_neg q])
theorem SR.wT0 {i0 m0 : Nat} (h : SR A 0 s N) (h9 : 60 ≤ m0) : SR (wL A 25 0 (16 * 0 + i0) m0 (oL 0)) 0 s N := by
  refine ⟨fun k hk => h.g hk, ⟨h.mon, h.day, h.cnt⟩, fun k hk => h.hr hk, fun p hp => h.rt hp, fun i hi => ⟨h.st hi, h.wa hi, h.mi hi, h.pr hi, h.sh hi, h.to hi, fun ht => h.pc hi ht⟩, fun i hi m hm => h.dy hi hm, fun c hc => ⟨h.gn hc, h.cr hc⟩, ⟨?_, ?_⟩, fun i hi w hw => ?_, fun i hi m hm => ?_⟩
  · rw [wL_2, if_neg (by omega)]; exact h.fu
  · rw [wL_2, if_neg (by omega)]; exact h.op
  · rw [wL_2, if_neg (by omega)]; exact h.ac hi hw
  · rw [wL_2]
    by_cases q : i = i0 ∧ m = m0
    · rw [if_pos (by omega), if_neg (by omega)]
    · rw [if_neg (by omega)]; exact h.lt hi hm
theorem loA_L {c : Int} (hN : N ≤ 16) (hi : i < N) (hc : 0 ≤ c ∧ c < 9223372036854775808) (hf : ∀ m, m < 60 → 0 ≤ sT s i m ∧ sT s i m < 4611686018427387904) (kk : Int64 → sM → Option sM) :
    ∀ (fuel j : Nat) (A : sM), j ≤ 72 → 72 - j < fuel → SR A 0 (uT s (tk s i true c (j - 12))) N →
    ∃ A', Fr m26 A A' ∧ SR A' 0 (uT s (tk s i true c 60)) N ∧ fX8_loseCredit_L11 (16 * 0 + i) kk fuel (oL (rmn (fun k => sT s i (sg true k)) c (j - 12))) (oI (71 - (j : Int))) A = kk (oL (rmn (fun k => sT s i (sg true k)) c 60)) A' := by
  intro fuel
  induction fuel with
  | zero => intro j A _ h; omega
  | succ fuel ih =>
    intro j A hj hfu hS
    have hb := rmn_bd hc.1 (f := fun k => sT s i (sg true k)) (n := j - 12) (fun m hm => (hf _ (sg_lt true (by omega))).1)
    by_cases e : j = 72
    · rw [e] at hS
      refine ⟨A, Fr.refl _, hS, ?_⟩
      rw [fX8_loseCredit_L11, if_pos (by simp (disch := omega) only [kI_0, kI_1, kI_2, kI_3, kI_4, kI_5, kI_6, kI_7, kI_8, kI_9, kI_10, kI_12, kI_16, kI_17, kI_19, kI_20, kI_23, kI_24, kI_30, kI_32, kI_36, kI_48, kI_57, kI_59, kI_60, kI_72, kI_80, kI_84, kI_97, kI_98, kI_100, kI_122, kI_148, kI_200, kI_300, kI_1058, kI_1108, kI_1348, kI_1588, kI_5290, kI_7940, kI_100000, kI_e7, kI_e9, kL_0, kL_1, kL_5, kL_9, kL_10, kL_12, kL_23, kL_30, kL_48, kL_57, kL_59, kL_97, kL_100, kL_122, kL_1000, kL_e7, kL_e9, kL_e10, oI_lt, oI_le, oI_eq, oL_lt, oL_le, oL_eq, oI_L, oI_clamp, oI_inb, oL_nz]; omega), e]
    · by_cases e2 : rmn (fun k => sT s i (sg true k)) c (j - 12) = 0
      · have hd := tk_done s i true (by omega) e2 (fun m hm => (hf m hm).1)
        rw [hd.1] at hS
        refine ⟨A, Fr.refl _, hS, ?_⟩
        rw [fX8_loseCredit_L11, if_neg (by simp (disch := omega) only [kI_0, kI_1, kI_2, kI_3, kI_4, kI_5, kI_6, kI_7, kI_8, kI_9, kI_10, kI_12, kI_16, kI_17, kI_19, kI_20, kI_23, kI_24, kI_30, kI_32, kI_36, kI_48, kI_57, kI_59, kI_60, kI_72, kI_80, kI_84, kI_97, kI_98, kI_100, kI_122, kI_148, kI_200, kI_300, kI_1058, kI_1108, kI_1348, kI_1588, kI_5290, kI_7940, kI_100000, kI_e7, kI_e9, kL_0, kL_1, kL_5, kL_9, kL_10, kL_12, kL_23, kL_30, kL_48, kL_57, kL_59, kL_97, kL_100, kL_122, kL_1000, kL_e7, kL_e9, kL_e10, oI_lt, oI_le, oI_eq, oL_lt, oL_le, oL_eq, oI_L, oI_clamp, oI_inb, oL_nz]; omega), if_pos (by simp (disch := omega) only [kI_0, kI_1, kI_2, kI_3, kI_4, kI_5, kI_6, kI_7, kI_8, kI_9, kI_10, kI_12, kI_16, kI_17, kI_19, kI_20, kI_23, kI_24, kI_30, kI_32, kI_36, kI_48, kI_57, kI_59, kI_60, kI_72, kI_80, kI_84, kI_97, kI_98, kI_100, kI_122, kI_148, kI_200, kI_300, kI_1058, kI_1108, kI_1348, kI_1588, kI_5290, kI_7940, kI_100000, kI_e7, kI_e9, kL_0, kL_1, kL_5, kL_9, kL_10, kL_12, kL_23, kL_30, kL_48, kL_57, kL_59, kL_97, kL_100, kL_122, kL_1000, kL_e7, kL_e9, kL_e10, oI_lt, oI_le, oI_eq, oL_lt, oL_le, oL_eq, oI_L, oI_clamp, oI_inb, oL_nz]; omega), e2, hd.2]
      · have hix : ((71 - (j : Int))).toNat = 71 - j := by omega
        by_cases e3 : j < 12
        · have ev : A.2 25 0 (16 * 0 + i) (71 - j) = oL 0 := (hS.lt hi (by omega)).trans (by rw [if_neg (by omega)])
          obtain ⟨A', u1, u2, u3⟩ := ih (j + 1) (wL A 25 0 (16 * 0 + i) (71 - j) (oL 0)) (by omega) (by omega) (by rw [show j + 1 - 12 = j - 12 by omega]; exact hS.wT0 (by omega))
          refine ⟨A', Fr.trans ((Fr.refl _).wL (m26_25 0 (by omega))) u1, u2, ?_⟩
          rw [show j + 1 - 12 = j - 12 by omega] at u3
          have em : (if oL 0 < oL (rmn (fun k => sT s i (sg true k)) c (j - 12)) then oL 0 else oL (rmn (fun k => sT s i (sg true k)) c (j - 12))) = oL 0 := by
            rw [if_pos (by simp (disch := omega) only [oI_lt, oI_le, oI_eq, oL_lt, oL_le, oL_eq, oI_L, oI_clamp, oI_inb, oL_nz]; omega)]
          rw [fX8_loseCredit_L11, if_neg (by simp (disch := omega) only [kI_0, kI_1, kI_2, kI_3, kI_4, kI_5, kI_6, kI_7, kI_8, kI_9, kI_10, kI_12, kI_16, kI_17, kI_19, kI_20, kI_23, kI_24, kI_30, kI_32, kI_36, kI_48, kI_57, kI_59, kI_60, kI_72, kI_80, kI_84, kI_97, kI_98, kI_100, kI_122, kI_148, kI_200, kI_300, kI_1058, kI_1108, kI_1348, kI_1588, kI_5290, kI_7940, kI_100000, kI_e7, kI_e9, kL_0, kL_1, kL_5, kL_9, kL_10, kL_12, kL_23, kL_30, kL_48, kL_57, kL_59, kL_97, kL_100, kL_122, kL_1000, kL_e7, kL_e9, kL_e10, oI_lt, oI_le, oI_eq, oL_lt, oL_le, oL_eq, oI_L, oI_clamp, oI_inb, oL_nz]; omega), if_neg (by simp (disch := omega) only [kI_0, kI_1, kI_2, kI_3, kI_4, kI_5, kI_6, kI_7, kI_8, kI_9, kI_10, kI_12, kI_16, kI_17, kI_19, kI_20, kI_23, kI_24, kI_30, kI_32, kI_36, kI_48, kI_57, kI_59, kI_60, kI_72, kI_80, kI_84, kI_97, kI_98, kI_100, kI_122, kI_148, kI_200, kI_300, kI_1058, kI_1108, kI_1348, kI_1588, kI_5290, kI_7940, kI_100000, kI_e7, kI_e9, kL_0, kL_1, kL_5, kL_9, kL_10, kL_12, kL_23, kL_30, kL_48, kL_57, kL_59, kL_97, kL_100, kL_122, kL_1000, kL_e7, kL_e9, kL_e10, oI_lt, oI_le, oI_eq, oL_lt, oL_le, oL_eq, oI_L, oI_clamp, oI_inb, oL_nz]; omega), oI_inb (by omega) (by omega) (by omega), gd_true, oI_clamp (by omega) (by omega), hix, ev, em, ltb_eq, gd_true, gd_true, oL_sub, ltb_eq, oL_sub, ltb_eq, km1, oI_add, ltb_eq, show (0 : Int) - 0 = 0 from rfl, Int.sub_zero, show 71 - (j : Int) + -1 = 71 - ((j + 1 : Nat) : Int) by omega]
          exact u3
        · have hk : j - 12 < 60 := by omega
          have hsg : sg true (j - 12) = 71 - j := by rw [sg, if_pos rfl]; omega
          have hfj := hf (71 - j) (by omega)
          have ev : A.2 25 0 (16 * 0 + i) (71 - j) = oL (sT s i (71 - j)) := (hS.lt hi (by omega)).trans (by
            rw [if_pos (by omega)]
            show oL (tk s i true c (j - 12) i (71 - j)) = _
            rw [tk, if_neg (by rw [← hsg, sg_sg true hk]; omega)])
          have hm9 := mn_le (sT s i (71 - j)) (rmn (fun k => sT s i (sg true k)) c (j - 12))
          have hp : payd (fun k => sT s i (sg true k)) c (j - 12) = sT s i (71 - j) - mn (sT s i (71 - j)) (rmn (fun k => sT s i (sg true k)) c (j - 12)) := by rw [payd, hsg]
          have hr : rmn (fun k => sT s i (sg true k)) c (j + 1 - 12) = rmn (fun k => sT s i (sg true k)) c (j - 12) - mn (sT s i (71 - j)) (rmn (fun k => sT s i (sg true k)) c (j - 12)) := by
            rw [show j + 1 - 12 = (j - 12) + 1 by omega, rmn, hsg]
          have h1 : SR (wL A 25 0 (16 * 0 + i) (71 - j) (oL (payd (fun k => sT s i (sg true k)) c (j - 12)))) 0 (uT s (tk s i true c (j + 1 - 12))) N := by
            rw [show j + 1 - 12 = (j - 12) + 1 by omega, tk_s s i true c hk, hsg]
            exact hS.wT hi (by omega)
          obtain ⟨A', u1, u2, u3⟩ := ih (j + 1) _ (by omega) (by omega) h1
          refine ⟨A', Fr.trans ((Fr.refl _).wL (m26_25 0 (by omega))) u1, u2, ?_⟩
          rw [hp, hr] at u3
          have em : (if oL (sT s i (71 - j)) < oL (rmn (fun k => sT s i (sg true k)) c (j - 12)) then oL (sT s i (71 - j)) else oL (rmn (fun k => sT s i (sg true k)) c (j - 12))) = oL (mn (sT s i (71 - j)) (rmn (fun k => sT s i (sg true k)) c (j - 12))) := by
            simp (disch := omega) only [oL_lt]; rw [mn]; split <;> rfl
          rw [fX8_loseCredit_L11, if_neg (by simp (disch := omega) only [kI_0, kI_1, kI_2, kI_3, kI_4, kI_5, kI_6, kI_7, kI_8, kI_9, kI_10, kI_12, kI_16, kI_17, kI_19, kI_20, kI_23, kI_24, kI_30, kI_32, kI_36, kI_48, kI_57, kI_59, kI_60, kI_72, kI_80, kI_84, kI_97, kI_98, kI_100, kI_122, kI_148, kI_200, kI_300, kI_1058, kI_1108, kI_1348, kI_1588, kI_5290, kI_7940, kI_100000, kI_e7, kI_e9, kL_0, kL_1, kL_5, kL_9, kL_10, kL_12, kL_23, kL_30, kL_48, kL_57, kL_59, kL_97, kL_100, kL_122, kL_1000, kL_e7, kL_e9, kL_e10, oI_lt, oI_le, oI_eq, oL_lt, oL_le, oL_eq, oI_L, oI_clamp, oI_inb, oL_nz]; omega), if_neg (by simp (disch := omega) only [kI_0, kI_1, kI_2, kI_3, kI_4, kI_5, kI_6, kI_7, kI_8, kI_9, kI_10, kI_12, kI_16, kI_17, kI_19, kI_20, kI_23, kI_24, kI_30, kI_32, kI_36, kI_48, kI_57, kI_59, kI_60, kI_72, kI_80, kI_84, kI_97, kI_98, kI_100, kI_122, kI_148, kI_200, kI_300, kI_1058, kI_1108, kI_1348, kI_1588, kI_5290, kI_7940, kI_100000, kI_e7, kI_e9, kL_0, kL_1, kL_5, kL_9, kL_10, kL_12, kL_23, kL_30, kL_48, kL_57, kL_59, kL_97, kL_100, kL_122, kL_1000, kL_e7, kL_e9, kL_e10, oI_lt, oI_le, oI_eq, oL_lt, oL_le, oL_eq, oI_L, oI_clamp, oI_inb, oL_nz]; omega), oI_inb (by omega) (by omega) (by omega), gd_true, oI_clamp (by omega) (by omega), hix, ev, em, ltb_eq, gd_true, gd_true, oL_sub, ltb_eq, oL_sub, ltb_eq, km1, oI_add, ltb_eq, show 71 - (j : Int) + -1 = 71 - ((j + 1 : Nat) : Int) by omega]
          exact u3
theorem loA {c : Int} (hS : SR A 0 s N) (hN : N ≤ 16) (hi : i < N) (hc : 0 ≤ c ∧ c < 9223372036854775808) (hf : ∀ m, m < 60 → 0 ≤ sT s i m ∧ sT s i m < 4611686018427387904) : ∃ A', Fr m26 A A' ∧ SR A' 0 (loS s i c) N ∧ fX8_loseCredit (16 * 0 + i) (oL c) A = some A' := by
  obtain ⟨A1, u1, u2, u3⟩ := loA_L (s := s) (i := i) hN hi hc hf (fun (x3_2 : Int64) (A_3 : sM) =>
    ltb (wL A_3 26 0 (16 * 0 + i) (0 : Int32).toNatClampNeg ((A_3.2 26 0 (16 * 0 + i) (0 : Int32).toNatClampNeg) + x3_2)) fun A_6 =>
    some A_6) 10000 0 A (by omega) (by omega) (by rw [show 0 - 12 = 0 from rfl, tk_0]; exact hS)
  have e1 : A1.2 26 0 (16 * 0 + i) 0 = oL (sA s i 0) := u2.ac hi (by omega)
  refine ⟨_, u1.wL (m26_26 0 (by omega)), u2.wA (i0 := i) (w0 := 0) (v := sA s i 0 + rmn (fun k => sT s i (sg true k)) c 60) hi (by omega), ?_⟩
  rw [fX8_loseCredit, ltb_eq, kI_72, kI_1, oI_sub]
  refine u3.trans ?_
  rw [tn_0, e1, oL_add, ltb_eq]
end
