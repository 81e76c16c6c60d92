/-! The reference's payments out of lots, from the oldest or from the newest on. -/
def m30 (c _ _ : Nat) : Bool := c == 30
theorem m30_mv {A A' : sM} (h : Fr m30 A A') : Fr mvZ A A' := h.mono fun c k o hq => by
  simp only [mvZ, Bool.or_eq_false_iff] at hq
  simp only [m30]
  exact hq.2
def sg (b : Bool) (k : Nat) : Nat := if b = true then 59 - k else k
theorem sg_lt (b : Bool) {k : Nat} (h : k < 60) : sg b k < 60 := by cases b <;> simp [sg] <;> omega
theorem sg_sg (b : Bool) {k : Nat} (h : k < 60) : sg b (sg b k) = k := by cases b <;> simp [sg] <;> omega
def tk (s : sS) (i : Nat) (b : Bool) (x : Int) (k : Nat) : Nat → Nat → Int := fun j m => if j = i ∧ m < 60 ∧ sg b m < k then payd (fun k => sT s i (sg b k)) x (sg b m) else sT s j m
theorem tk_s (s : sS) (i : Nat) (b : Bool) (x : Int) {k : Nat} (hk : k < 60) : tk s i b x (k + 1) = up2 (tk s i b x k) i (sg b k) (payd (fun k => sT s i (sg b k)) x k) := by
  funext j m
  have h1 := sg_lt b hk
  have h2 := sg_sg b hk
  by_cases e : j = i ∧ m = sg b k
  · rw [e.1, e.2, up2_s, tk, if_pos ⟨rfl, h1, by omega⟩, h2]
  · rw [up2_n _ _ e, tk, tk]
    by_cases e2 : j = i ∧ m < 60 ∧ sg b m < k
    · rw [if_pos e2, if_pos ⟨e2.1, e2.2.1, by omega⟩]
    · rw [if_neg e2, if_neg]
      rintro ⟨q1, q2, q3⟩
      have h3 := sg_sg b q2
      have h4 : sg b m = k := by omega
      rw [h4] at h3
      exact e ⟨q1, h3.symm⟩
theorem tk_0 (s : sS) (i : Nat) (b : Bool) (x : Int) : tk s i b x 0 = sT s := by
  funext j m
  rw [tk, if_neg (by omega)]
section
variable {A Z : sM} {s : sS} {N n i : Nat}
theorem tkZ_L {b : Bool} {x : Int} (hi : i < 16) (hx : 0 ≤ x ∧ x < 9223372036854775808) (hf : ∀ m, m < 60 → 0 ≤ sT s i m ∧ sT s i m < 4611686018427387904) (kk : Int64 → sM → Option (Int64 × sM)) :
    ∀ (fuel k : Nat) (Z : sM), k ≤ 60 → 60 - k < fuel → ZR (zA Z) (zB Z) (uT s (tk s i b x k)) →
    ∃ Z', Fr m30 Z Z' ∧ ZR (zA Z') (zB Z') (uT s (tk s i b x 60)) ∧ fX10_takesLots_L6 (oI i) (if b = true then (1 : Int32) else 0) kk fuel (oL (rmn (fun k => sT s i (sg b k)) x k)) (oI k) Z = kk (oL (rmn (fun k => sT s i (sg b k)) x 60)) Z' := by
  intro fuel
  induction fuel with
  | zero => intro k Z _ h; omega
  | succ fuel ih =>
    intro k Z hk hfu hZ
    have hf2 : ∀ m, m < 60 → 0 ≤ (fun k => sT s i (sg b k)) m ∧ (fun k => sT s i (sg b k)) m < 4611686018427387904 := fun m hm => hf _ (sg_lt b hm)
    have hb := rmn_bd hx.1 (f := fun k => sT s i (sg b k)) (n := k) (fun m hm => (hf2 m (by omega)).1)
    by_cases e : k = 60
    · rw [e] at hZ
      refine ⟨Z, Fr.refl _, hZ, ?_⟩
      rw [fX10_takesLots_L6, if_pos (by simp (disch := omega) only [kI_0, kI_1, kI_2, kI_3, kI_4, kI_5, kI_6, kI_7, kI_8, kI_9, kI_10, kI_12, kI_16, kI_17, kI_19, kI_20, kI_23, kI_24, kI_30, kI_32, kI_36, kI_48, kI_57, kI_59, kI_60, kI_72, kI_80, kI_84, kI_97, kI_98, kI_100, kI_122, kI_148, kI_200, kI_300, kI_1058, kI_1108, kI_1348, kI_1588, kI_5290, kI_7940, kI_100000, kI_e7, kI_e9, kL_0, kL_1, kL_5, kL_9, kL_10, kL_12, kL_23, kL_30, kL_48, kL_57, kL_59, kL_97, kL_100, kL_122, kL_1000, kL_e7, kL_e9, kL_e10, oI_lt, oI_le, oI_eq, oL_lt, oL_le, oL_eq, oI_L, oI_clamp, oI_inb, oL_nz]; omega), e]
    · have hk2 : k < 60 := by omega
      have hs := sg_lt b hk2
      have hfk : 0 ≤ sT s i (sg b k) ∧ sT s i (sg b k) < 4611686018427387904 := hf _ hs
      have hm9 := mn_le (sT s i (sg b k)) (rmn (fun k => sT s i (sg b k)) x k)
      have ev : Z.2 30 0 0 (98 + 60 * i + sg b k) = oL (sT s i (sg b k)) := (hZ.lt (m := sg b k) hi hs).trans (by
        show oL (tk s i b x k i (sg b k)) = _
        rw [tk, if_neg (by rw [sg_sg b hk2]; omega)])
      have hZ1 : ZR (zA (wL Z 30 0 0 (98 + 60 * i + sg b k) (oL (payd (fun k => sT s i (sg b k)) x k)))) (zB (wL Z 30 0 0 (98 + 60 * i + sg b k) (oL (payd (fun k => sT s i (sg b k)) x k)))) (uT s (tk s i b x (k + 1))) := by
        rw [tk_s s i b x hk2]
        exact hZ.wT hi hs
      obtain ⟨Z', u1, u2, u3⟩ := ih (k + 1) _ (by omega) (by omega) hZ1
      refine ⟨Z', Fr.trans ((Fr.refl _).wL rfl) u1, u2, ?_⟩
      have hbody : ∀ v : Int32, v = oI (sg b k) → (Option.bind (fX10_lotAt (oI i) v Z) fun r_3 =>
        gd (inb r_3 1058) (
          ltb (α := Int64 → Option (Int64 × sM)) (fun (v_5 : Int64) =>
            gd (inb r_3 1058) (
              gd (inb r_3 1058) (
                ltb (wL Z 30 0 0 r_3.toNatClampNeg ((Z.2 30 0 0 r_3.toNatClampNeg) - v_5)) fun Z_9 =>
                ltb (oL (rmn (fun k => sT s i (sg b k)) x k) - v_5) fun x5_10 =>
                ltb (oI k + (1 : Int32)) fun x7_11 =>
                fX10_takesLots_L6 (oI i) (if b = true then (1 : Int32) else 0) kk fuel x5_10 x7_11 Z_9))) fun kj_6 =>
          if oL (rmn (fun k => sT s i (sg b k)) x k) ≤ (Z.2 30 0 0 r_3.toNatClampNeg) then (
            kj_6 (oL (rmn (fun k => sT s i (sg b k)) x k)))
          else (
            gd (inb r_3 1058) (
              kj_6 (Z.2 30 0 0 r_3.toNatClampNeg))))) = kk (oL (rmn (fun k => sT s i (sg b k)) x 60)) Z' := by
        rintro _ rfl
        rw [fX10_lotAt, bd_eq, kI_98, kI_60, oI_mul, oI_add, oI_add, oI_inb (by omega) (by omega) (by omega), gd_true, oI_clamp (by omega) (by omega), show (98 + 60 * (i : Int) + (sg b k : Nat)).toNat = 98 + 60 * i + sg b k by omega, ev, ltb_eq]
        simp only [gd_true]
        have hmm : ∀ v : Int64, v = oL (mn (sT s i (sg b k)) (rmn (fun k => sT s i (sg b k)) x k)) → (ltb (wL Z 30 0 0 (98 + 60 * i + sg b k) (oL (sT s i (sg b k)) - v)) fun Z_9 =>
                ltb (oL (rmn (fun k => sT s i (sg b k)) x k) - v) fun x5_10 =>
                ltb (oI k + (1 : Int32)) fun x7_11 =>
                fX10_takesLots_L6 (oI i) (if b = true then (1 : Int32) else 0) kk fuel x5_10 x7_11 Z_9) = kk (oL (rmn (fun k => sT s i (sg b k)) x 60)) Z' := by
          rintro _ rfl
          rw [oL_sub, oL_sub, ltb_eq, ltb_eq, ltb_eq, kI_1, oI_add, nat1]
          exact u3
        by_cases q : sT s i (sg b k) < rmn (fun k => sT s i (sg b k)) x k
        · rw [if_neg (by simp (disch := omega) only [oI_lt, oI_le, oI_eq, oL_lt, oL_le, oL_eq, oI_L, oI_clamp, oI_inb, oL_nz]; omega)]
          exact hmm _ (by rw [mn, if_pos q])
        · rw [if_pos (by simp (disch := omega) only [oI_lt, oI_le, oI_eq, oL_lt, oL_le, oL_eq, oI_L, oI_clamp, oI_inb, oL_nz]; omega)]
          exact hmm _ (by rw [mn, if_neg q])
      rw [fX10_takesLots_L6, if_neg (by simp (disch := omega) only [kI_0, kI_1, kI_2, kI_3, kI_4, kI_5, kI_6, kI_7, kI_8, kI_9, kI_10, kI_12, kI_16, kI_17, kI_19, kI_20, kI_23, kI_24, kI_30, kI_32, kI_36, kI_48, kI_57, kI_59, kI_60, kI_72, kI_80, kI_84, kI_97, kI_98, kI_100, kI_122, kI_148, kI_200, kI_300, kI_1058, kI_1108, kI_1348, kI_1588, kI_5290, kI_7940, kI_100000, kI_e7, kI_e9, kL_0, kL_1, kL_5, kL_9, kL_10, kL_12, kL_23, kL_30, kL_48, kL_57, kL_59, kL_97, kL_100, kL_122, kL_1000, kL_e7, kL_e9, kL_e10, oI_lt, oI_le, oI_eq, oL_lt, oL_le, oL_eq, oI_L, oI_clamp, oI_inb, oL_nz]; omega), ltb_eq]
      cases b with
      | false =>
        rw [if_pos (show (if false = true then (1 : Int32) else 0) = 0 from rfl)]
        exact hbody _ rfl
      | true =>
        rw [if_neg (show ¬ (if true = true then (1 : Int32) else 0) = 0 by decide)]
        refine hbody _ ?_
        rw [kI_59, oI_sub, sg, if_pos rfl, show ((59 - k : Nat) : Int) = 59 - (k : Int) by omega]
theorem tkZ {b : Bool} {x : Int} (hZ : ZR (zA Z) (zB Z) s) (hi : i < 16) (hx : 0 ≤ x ∧ x < 9223372036854775808) (hf : ∀ m, m < 60 → 0 ≤ sT s i m ∧ sT s i m < 4611686018427387904) :
    ∃ Z', Fr m30 Z Z' ∧ ZR (zA Z') (zB Z') (uT s (tk s i b x 60)) ∧ fX10_takesLots (oI i) (oL x) (if b = true then (1 : Int32) else 0) Z = some (oL (rmn (fun k => sT s i (sg b k)) x 60), Z') := by
  obtain ⟨Z', u1, u2, u3⟩ := tkZ_L (s := s) (i := i) (b := b) (x := x) hi hx hf (fun x Z => some (x, Z)) 10000 0 Z (by omega) (by omega) (by rw [tk_0]; exact hZ)
  refine ⟨Z', u1, u2, ?_⟩
  rw [fX10_takesLots]
  exact u3
end
