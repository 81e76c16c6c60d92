section
variable {A Z : sM} {s : sS} {N n : Nat} {p : Nat → Int}
theorem inS_0 (s : sS) : inS s 0 = s := by
  rw [inS, Int.add_zero]
  have : up1 (sF s) 0 (sF s 0) = sF s := by
    funext j
    rw [up1]
    split
    · rename_i e; rw [e]
    · rfl
  rw [this]
theorem sfZ_L {m : Nat} (h1 : W1 s N) (h3 : W3 s N) (hm : sG s 5 = m) (hm2 : m < 60) (hp : ∀ j, j < N → 0 ≤ p j ∧ p j < 4611686018427387904) (h0 : ∀ j, j < N → ¬ sB s j 3 = 1 → p j = 0) (hA : ∀ j, j < N → 0 ≤ sA s j 0 ∧ sA s j 0 < 4611686018427387904) (x3 : Int64) :
    ∀ (fuel k : Nat) (Z : sM), k ≤ N → N - k < fuel → ZR (zA Z) (zB Z) (stR true p k s) → (∀ j, j < N → Z.2 34 0 0 j = oL (p j)) → ∃ Z', Fr m30 Z Z' ∧ ZR (zA Z') (zB Z') (stR true p N s) ∧ ∀ kk, fX10_shareFund_L112 x3 kk fuel (oI k) Z = kk Z' := by
  obtain ⟨_, _, _, _, _, _, _, g7, hN⟩ := id h1
  intro fuel
  induction fuel with
  | zero => intro k Z _ h; omega
  | succ fuel ih =>
    intro k Z hk hfu hZ h34
    have hsm := stR_same true p k s
    have e7 : Z.1 27 0 0 7 = oI N := (hZ.g (k := 7) (by omega)).trans (by rw [hsm.1, g7])
    by_cases e : k = N
    · rw [e] at hZ
      refine ⟨Z, Fr.refl _, hZ, fun kk => ?_⟩
      rw [fX10_shareFund_L112, tn_7, e7, if_pos (by simp (disch := omega) only [oI_lt, oI_le, oI_eq, oL_lt, oL_le, oL_eq, oI_L, oI_clamp, oI_inb, oL_nz]; omega)]
    · have hk2 : k < N := by omega
      have hb : sB (stR true p k s) k 3 = sB s k 3 := by rw [hsm.2.2.2.1]
      have hmk : sG (stR true p k s) 5 = m := by rw [hsm.1]; exact hm
      have hhi := stR_hi true p k s k (Nat.le_refl _)
      by_cases q : sB s k 3 = 1
      · obtain ⟨Z1, a1, a2, a3⟩ := crZ (i := k) (c := p k) hZ (by omega) hmk hm2 (hp k hk2) (by rw [hhi.1 0]; exact hA k hk2)
        have a4 : ZR (zA Z1) (zB Z1) (stR true p (k + 1) s) := by
          rw [stR, stS, if_pos (hb.trans q), if_pos rfl]; exact a2
        obtain ⟨Z', u1, u2, u3⟩ := ih (k + 1) Z1 (by omega) (by omega) a4 (fun j hj => by rw [a1.l rfl]; exact h34 j hj)
        refine ⟨Z', Fr.trans a1 u1, u2, fun kk => ?_⟩
        rw [fX10_shareFund_L112, tn_7, e7, if_neg (by simp (disch := omega) only [oI_lt, oI_le, oI_eq, oL_lt, oL_le, oL_eq, oI_L, oI_clamp, oI_inb, oL_nz]; omega), actZ hZ (hsm.w3 h3) hk2 hN, bd_eq, ltb_eq, if_pos (hb.trans q), if_neg one_ne, inbA (by omega) (by omega), gd_true, clpA (by omega), h34 k hk2, a3, bd_eq]
        dsimp only
        rw [ltb_eq, kI_1, oI_add, nat1]
        exact u3 kk
      · have a4 : ZR (zA Z) (zB Z) (stR true p (k + 1) s) := by
          rw [stR, stS, if_neg (fun e => q (hb.symm.trans e)), if_pos rfl, h0 k hk2 q, inS_0]; exact hZ
        obtain ⟨Z', u1, u2, u3⟩ := ih (k + 1) Z (by omega) (by omega) a4 h34
        refine ⟨Z', u1, u2, fun kk => ?_⟩
        rw [fX10_shareFund_L112, tn_7, e7, if_neg (by simp (disch := omega) only [oI_lt, oI_le, oI_eq, oL_lt, oL_le, oL_eq, oI_L, oI_clamp, oI_inb, oL_nz]; omega), actZ hZ (hsm.w3 h3) hk2 hN, bd_eq, ltb_eq, if_neg (fun e => q (hb.symm.trans e)), if_pos nul_eq]
        dsimp only
        rw [ltb_eq, kI_1, oI_add, nat1]
        exact u3 kk
theorem tpZ_L {m : Nat} {x : Int} (hx : 0 < x ∧ x < 9223372036854775808) (h1 : W1 s N) (h3 : W3 s N) (hm : sG s 5 = m) (hm2 : m < 60) (hp : ∀ j, j < N → 0 ≤ p j ∧ p j < 4611686018427387904) (hA : ∀ j, j < N → 0 ≤ sA s j 0 ∧ sA s j 0 < 4611686018427387904) :
    ∀ (fuel k : Nat) (Z : sM), k ≤ N → N - k < fuel → ZR (zA Z) (zB Z) (stR true p k s) → (∀ j, j < N → Z.2 34 0 0 j = oL (p j)) → ∃ Z', Fr m30 Z Z' ∧ ZR (zA Z') (zB Z') (stR true p N s) ∧ fX10_truesUp_L60 (oL x) (1 : Int64) (fun Z => some Z) fuel (oI k) Z = some Z' := by
  obtain ⟨_, _, _, _, _, _, _, g7, hN⟩ := id h1
  intro fuel
  induction fuel with
  | zero => intro k Z _ h; omega
  | succ fuel ih =>
    intro k Z hk hfu hZ h34
    have hsm := stR_same true p k s
    have e7 : Z.1 27 0 0 7 = oI N := (hZ.g (k := 7) (by omega)).trans (by rw [hsm.1, g7])
    have e0 : Z.2 30 0 0 0 = oL (sF (stR true p k s) 0) := hZ.fo (by omega)
    by_cases e : k = N
    · rw [e] at hZ
      refine ⟨Z, Fr.refl _, hZ, ?_⟩
      rw [fX10_truesUp_L60, tn_7, e7, if_pos (by simp (disch := omega) only [oI_lt, oI_le, oI_eq, oL_lt, oL_le, oL_eq, oI_L, oI_clamp, oI_inb, oL_nz]; omega)]
    · have hk2 : k < N := by omega
      have hb : sB (stR true p k s) k 3 = sB s k 3 := by rw [hsm.2.2.2.1]
      have hmk : sG (stR true p k s) 5 = m := by rw [hsm.1]; exact hm
      have hhi := stR_hi true p k s k (Nat.le_refl _)
      by_cases q : sB s k 3 = 1
      · obtain ⟨Z1, a1, a2, a3⟩ := crZ (i := k) (c := p k) hZ (by omega) hmk hm2 (hp k hk2) (by rw [hhi.1 0]; exact hA k hk2)
        have a4 : ZR (zA Z1) (zB Z1) (stR true p (k + 1) s) := by
          rw [stR, stS, if_pos (hb.trans q), if_pos rfl]; exact a2
        obtain ⟨Z', u1, u2, u3⟩ := ih (k + 1) Z1 (by omega) (by omega) a4 (fun j hj => by rw [a1.l rfl]; exact h34 j hj)
        refine ⟨Z', Fr.trans a1 u1, u2, ?_⟩
        rw [fX10_truesUp_L60, tn_7, e7, if_neg (by simp (disch := omega) only [oI_lt, oI_le, oI_eq, oL_lt, oL_le, oL_eq, oI_L, oI_clamp, oI_inb, oL_nz]; omega), actZ hZ (hsm.w3 h3) hk2 hN, bd_eq, ltb_eq, if_pos (hb.trans q), if_neg one_ne, if_neg (by simp (disch := omega) only [kI_0, kI_1, kI_2, kI_3, kI_4, kI_5, kI_6, kI_7, kI_8, kI_9, kI_10, kI_12, kI_16, kI_17, kI_19, kI_20, kI_23, kI_24, kI_30, kI_32, kI_36, kI_48, kI_57, kI_59, kI_60, kI_72, kI_80, kI_84, kI_97, kI_98, kI_100, kI_122, kI_148, kI_200, kI_300, kI_1058, kI_1108, kI_1348, kI_1588, kI_5290, kI_7940, kI_100000, kI_e7, kI_e9, kL_0, kL_1, kL_5, kL_9, kL_10, kL_12, kL_23, kL_30, kL_48, kL_57, kL_59, kL_97, kL_100, kL_122, kL_1000, kL_e7, kL_e9, kL_e10, oI_lt, oI_le, oI_eq, oL_lt, oL_le, oL_eq, oI_L, oI_clamp, oI_inb, oL_nz]; omega), inbA (by omega) (by omega), gd_true, clpA (by omega), h34 k hk2, a3, bd_eq]
        dsimp only
        rw [ltb_eq, kI_1, oI_add, nat1]
        exact u3
      · have a4 : ZR (zA (wL Z 30 0 0 0 (oL (sF (stR true p k s) 0 + p k)))) (zB (wL Z 30 0 0 0 (oL (sF (stR true p k s) 0 + p k)))) (stR true p (k + 1) s) := by
          rw [stR, stS, if_neg (fun e => q (hb.symm.trans e)), if_pos rfl]; exact inZ hZ
        obtain ⟨Z', u1, u2, u3⟩ := ih (k + 1) _ (by omega) (by omega) a4 (fun j hj => by rw [wL_2, if_neg (by omega)]; exact h34 j hj)
        refine ⟨Z', Fr.trans ((Fr.refl _).wL rfl) u1, u2, ?_⟩
        rw [fX10_truesUp_L60, tn_7, e7, if_neg (by simp (disch := omega) only [oI_lt, oI_le, oI_eq, oL_lt, oL_le, oL_eq, oI_L, oI_clamp, oI_inb, oL_nz]; omega), actZ hZ (hsm.w3 h3) hk2 hN, bd_eq, ltb_eq, if_neg (fun e => q (hb.symm.trans e)), if_pos nul_eq, inbA (by omega) (by omega), gd_true, clpA (by omega), tn_0, h34 k hk2, e0, kL_1, oL_mul, Int.one_mul, oL_add, ltb_eq]
        dsimp only
        rw [ltb_eq, kI_1, oI_add, nat1]
        exact u3
theorem tnZ_L {x : Int} (hx : x ≤ 0 ∧ -9223372036854775808 < x) (h1 : W1 s N) (h3 : W3 s N) (hp : ∀ j, j < N → 0 ≤ p j ∧ p j < 4611686018427387904) (hT : ∀ j, j < N → ∀ m, m < 60 → 0 ≤ sT s j m ∧ sT s j m < 4611686018427387904) :
    ∀ (fuel k : Nat) (Z : sM), k ≤ N → N - k < fuel → ZR (zA Z) (zB Z) (stR false p k s) → (∀ j, j < N → Z.2 34 0 0 j = oL (p j)) → ∃ Z', Fr m30 Z Z' ∧ ZR (zA Z') (zB Z') (stR false p N s) ∧ fX10_truesUp_L60 (oL x) (-1 : Int64) (fun Z => some Z) fuel (oI k) Z = some Z' := by
  obtain ⟨_, _, _, _, _, _, _, g7, hN⟩ := id h1
  intro fuel
  induction fuel with
  | zero => intro k Z _ h; omega
  | succ fuel ih =>
    intro k Z hk hfu hZ h34
    have hsm := stR_same false p k s
    have e7 : Z.1 27 0 0 7 = oI N := (hZ.g (k := 7) (by omega)).trans (by rw [hsm.1, g7])
    have e0 : Z.2 30 0 0 0 = oL (sF (stR false p k s) 0) := hZ.fo (by omega)
    by_cases e : k = N
    · rw [e] at hZ
      refine ⟨Z, Fr.refl _, hZ, ?_⟩
      rw [fX10_truesUp_L60, tn_7, e7, if_pos (by simp (disch := omega) only [oI_lt, oI_le, oI_eq, oL_lt, oL_le, oL_eq, oI_L, oI_clamp, oI_inb, oL_nz]; omega)]
    · have hk2 : k < N := by omega
      have hb : sB (stR false p k s) k 3 = sB s k 3 := by rw [hsm.2.2.2.1]
      have hhi := stR_hi false p k s k (Nat.le_refl _)
      have ea : Z.2 30 0 0 (2 + 6 * k + 0) = oL (sA (stR false p k s) k 0) := hZ.ac (by omega) (by omega)
      by_cases q : sB s k 3 = 1
      · obtain ⟨Z1, a1, a2, a3⟩ := tkZ (i := k) (b := true) (x := p k) hZ (by omega) ⟨(hp k hk2).1, by have := (hp k hk2).2; omega⟩ (fun m hm => by rw [hhi.2 m]; exact hT k hk2 m hm)
        have a5 := a2.wA (i0 := k) (w0 := 0) (v := sA (stR false p k s) k 0 + rmn (fun j => sT (stR false p k s) k (sg true j)) (p k) 60) (by omega) (by omega)
        have a4 : ZR (zA (wL Z1 30 0 0 (2 + 6 * k + 0) (oL (sA (stR false p k s) k 0 + rmn (fun j => sT (stR false p k s) k (sg true j)) (p k) 60)))) (zB (wL Z1 30 0 0 (2 + 6 * k + 0) (oL (sA (stR false p k s) k 0 + rmn (fun j => sT (stR false p k s) k (sg true j)) (p k) 60)))) (stR false p (k + 1) s) := by
          rw [stR, stS, if_pos (hb.trans q), if_neg (by decide)]; exact a5
        have a3' : fX10_takesLots (oI k) (oL (p k)) (1 : Int32) Z = some (oL (rmn (fun j => sT (stR false p k s) k (sg true j)) (p k) 60), Z1) := a3
        obtain ⟨Z', u1, u2, u3⟩ := ih (k + 1) _ (by omega) (by omega) a4 (fun j hj => by rw [wL_2, if_neg (by omega), a1.l rfl]; exact h34 j hj)
        refine ⟨Z', Fr.trans (a1.wL rfl) u1, u2, ?_⟩
        rw [fX10_truesUp_L60, tn_7, e7, if_neg (by simp (disch := omega) only [oI_lt, oI_le, oI_eq, oL_lt, oL_le, oL_eq, oI_L, oI_clamp, oI_inb, oL_nz]; omega), actZ hZ (hsm.w3 h3) hk2 hN, bd_eq, ltb_eq, if_pos (hb.trans q), if_neg one_ne, if_pos (by simp (disch := omega) only [kI_0, kI_1, kI_2, kI_3, kI_4, kI_5, kI_6, kI_7, kI_8, kI_9, kI_10, kI_12, kI_16, kI_17, kI_19, kI_20, kI_23, kI_24, kI_30, kI_32, kI_36, kI_48, kI_57, kI_59, kI_60, kI_72, kI_80, kI_84, kI_97, kI_98, kI_100, kI_122, kI_148, kI_200, kI_300, kI_1058, kI_1108, kI_1348, kI_1588, kI_5290, kI_7940, kI_100000, kI_e7, kI_e9, kL_0, kL_1, kL_5, kL_9, kL_10, kL_12, kL_23, kL_30, kL_48, kL_57, kL_59, kL_97, kL_100, kL_122, kL_1000, kL_e7, kL_e9, kL_e10, oI_lt, oI_le, oI_eq, oL_lt, oL_le, oL_eq, oI_L, oI_clamp, oI_inb, oL_nz]; omega), acc0, bd_eq, inbA (by omega) (by omega), gd_true, inbA (by omega) (by omega), gd_true, clpA (by omega), clpA (by omega), h34 k hk2, a3', bd2_eq, gd_true, ea, oL_add, ltb_eq]
        dsimp only
        rw [ltb_eq, kI_1, oI_add, nat1]
        exact u3
      · have a4 : ZR (zA (wL Z 30 0 0 0 (oL (sF (stR false p k s) 0 + -1 * p k)))) (zB (wL Z 30 0 0 0 (oL (sF (stR false p k s) 0 + -1 * p k)))) (stR false p (k + 1) s) := by
          rw [stR, stS, if_neg (fun e => q (hb.symm.trans e)), if_neg (by decide), show -1 * p k = - p k by omega]; exact inZ hZ
        obtain ⟨Z', u1, u2, u3⟩ := ih (k + 1) _ (by omega) (by omega) a4 (fun j hj => by rw [wL_2, if_neg (by omega)]; exact h34 j hj)
        refine ⟨Z', Fr.trans ((Fr.refl _).wL rfl) u1, u2, ?_⟩
        rw [fX10_truesUp_L60, tn_7, e7, if_neg (by simp (disch := omega) only [oI_lt, oI_le, oI_eq, oL_lt, oL_le, oL_eq, oI_L, oI_clamp, oI_inb, oL_nz]; omega), actZ hZ (hsm.w3 h3) hk2 hN, bd_eq, ltb_eq, if_neg (fun e => q (hb.symm.trans e)), if_pos nul_eq, inbA (by omega) (by omega), gd_true, clpA (by omega), tn_0, h34 k hk2, e0, show (-1 : Int64) = oL (-1) from Eq.trans rfl rfl, oL_mul, oL_add, ltb_eq]
        dsimp only
        rw [ltb_eq, kI_1, oI_add, nat1]
        exact u3
end
