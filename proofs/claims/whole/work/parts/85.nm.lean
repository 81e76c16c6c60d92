theorem dgZ_L {t : Nat → Int} {L : Nat} (hT : RT t L) : ∀ (d fuel p : Nat) (v : Int) (Z : sM), L - p = d → p ≤ L → d < fuel → RZ Z t L → 0 ≤ v → v < 100000000 → Z.1 10 11 0 0 = oI p → Z.2 10 16 0 0 = oL v → ∃ Z', Fr r10 Z Z' ∧ Z'.1 10 11 0 0 = oI (rn 48 57 t L p) ∧ Z'.2 10 16 0 0 = oL (nv t L p v) ∧ Z'.1 10 10 0 0 = Z.1 10 10 0 0 ∧ ∀ kk, fX10_next_L154 kk fuel Z = kk Z' := by
  intro d
  induction d with
  | zero =>
    intro fuel p v Z hd hp hf hR v0 v1 h3 hv
    obtain ⟨f, rfl⟩ : ∃ f, fuel = f + 1 := ⟨fuel - 1, by omega⟩
    refine ⟨Z, Fr.refl _, by rw [rn_n (by omega)]; exact h3, by rw [nv_n (by omega)]; exact hv, rfl, fun kk => ?_⟩
    rw [fX10_next_L154, h3, see hT hR hp, bd_eq, kL_48, kL_57, inZ2 hT (by omega), bd_eq, if_neg (c := p < L ∧ (48 ≤ t p ∧ t p ≤ 57)) (by omega), if_pos nul_eq]
  | succ d ih =>
    intro fuel p v Z hd hp hf hR v0 v1 h3 hv
    obtain ⟨f, rfl⟩ : ∃ f, fuel = f + 1 := ⟨fuel - 1, by omega⟩
    have hpL : p < L := by omega
    by_cases q : 48 ≤ t p ∧ t p ≤ 57
    · by_cases q2 : 10000000 ≤ v
      · obtain ⟨Z', u1, u2, u5, u3, u4⟩ := ih f (p + 1) v (wI Z 10 11 0 0 (oI (p + 1 : Nat))) (by omega) (by omega) (by omega) ⟨by rw [wI_1, if_neg (by omega)]; exact hR.1, fun k hk => by rw [wI_1, if_neg (by omega)]; exact hR.2 k hk⟩ v0 v1 (by rw [wI_1, if_pos ⟨rfl, rfl, rfl, rfl⟩]) hv
        refine ⟨Z', Fr.trans ((Fr.refl _).wI rfl) u1, by rw [rn_e ⟨hpL, q⟩]; exact u2, by rw [nv_e ⟨hpL, q⟩, if_pos q2]; exact u5, by rw [u3, wI_1, if_neg (by omega)], fun kk => ?_⟩
        rw [fX10_next_L154, h3, see hT hR hp, bd_eq, kL_48, kL_57, inZ2 hT (by omega), bd_eq, if_pos (c := p < L ∧ (48 ≤ t p ∧ t p ≤ 57)) ⟨hpL, q⟩, if_neg one_ne, ltb_eq, hv, if_pos (by simp (disch := omega) only [kI_0, kI_1, kI_2, kI_3, kI_4, kI_5, kI_6, kI_7, kI_8, kI_9, kI_10, kI_12, kI_16, kI_17, kI_19, kI_20, kI_23, kI_24, kI_30, kI_32, kI_36, kI_48, kI_57, kI_59, kI_60, kI_72, kI_80, kI_84, kI_97, kI_98, kI_100, kI_122, kI_148, kI_200, kI_300, kI_1058, kI_1108, kI_1348, kI_1588, kI_5290, kI_7940, kI_100000, kI_e7, kI_e9, kL_0, kL_1, kL_5, kL_9, kL_10, kL_12, kL_23, kL_30, kL_48, kL_57, kL_59, kL_97, kL_100, kL_122, kL_1000, kL_e7, kL_e9, kL_e10, oI_lt, oI_le, oI_eq, oL_lt, oL_le, oL_eq, oI_L, oI_clamp, oI_inb, oL_nz]; omega)]
        dsimp only
        rw [h3, kI_1, oI_add, nat1, ltb_eq]
        exact u4 kk
      · obtain ⟨Z', u1, u2, u5, u3, u4⟩ := ih f (p + 1) (10 * v + t p - 48) (wI (wL Z 10 16 0 0 (oL (10 * v + t p - 48))) 10 11 0 0 (oI (p + 1 : Nat))) (by omega) (by omega) (by omega) ⟨by rw [wI_1, if_neg (by omega), wL_1]; exact hR.1, fun k hk => by rw [wI_1, if_neg (by omega), wL_1]; exact hR.2 k hk⟩ (by omega) (by omega) (by rw [wI_1, if_pos ⟨rfl, rfl, rfl, rfl⟩]) (by rw [wI_2, wL_2, if_pos ⟨rfl, rfl, rfl, rfl⟩])
        refine ⟨Z', Fr.trans (((Fr.refl _).wL rfl).wI rfl) u1, by rw [rn_e ⟨hpL, q⟩]; exact u2, by rw [nv_e ⟨hpL, q⟩, if_neg q2]; exact u5, by rw [u3, wI_1, if_neg (by omega), wL_1], fun kk => ?_⟩
        rw [fX10_next_L154, h3, see hT hR hp, bd_eq, kL_48, kL_57, inZ2 hT (by omega), bd_eq, if_pos (c := p < L ∧ (48 ≤ t p ∧ t p ≤ 57)) ⟨hpL, q⟩, if_neg one_ne, ltb_eq, hv, if_neg (by simp (disch := omega) only [kI_0, kI_1, kI_2, kI_3, kI_4, kI_5, kI_6, kI_7, kI_8, kI_9, kI_10, kI_12, kI_16, kI_17, kI_19, kI_20, kI_23, kI_24, kI_30, kI_32, kI_36, kI_48, kI_57, kI_59, kI_60, kI_72, kI_80, kI_84, kI_97, kI_98, kI_100, kI_122, kI_148, kI_200, kI_300, kI_1058, kI_1108, kI_1348, kI_1588, kI_5290, kI_7940, kI_100000, kI_e7, kI_e9, kL_0, kL_1, kL_5, kL_9, kL_10, kL_12, kL_23, kL_30, kL_48, kL_57, kL_59, kL_97, kL_100, kL_122, kL_1000, kL_e7, kL_e9, kL_e10, oI_lt, oI_le, oI_eq, oL_lt, oL_le, oL_eq, oI_L, oI_clamp, oI_inb, oL_nz]; omega), bd_eq, if_pos hpL, oI_L (by omega) (by omega), kL_10, oL_mul, oL_add, oL_sub, ltb_eq]
        dsimp only
        rw [wL_1, h3, kI_1, oI_add, nat1, ltb_eq]
        exact u4 kk
    · refine ⟨Z, Fr.refl _, by rw [rn_n (fun h => q h.2)]; exact h3, by rw [nv_n (fun h => q h.2)]; exact hv, rfl, fun kk => ?_⟩
      rw [fX10_next_L154, h3, see hT hR hp, bd_eq, kL_48, kL_57, inZ2 hT (by omega), bd_eq, if_neg (c := p < L ∧ (48 ≤ t p ∧ t p ≤ 57)) (fun h => q h.2), if_pos nul_eq]
theorem isD {t : Nat → Int} {L p : Nat} {A : sM} (hT : RT t L) (hR : RA A t L) (hp : p < L) : fX5_isDigit (oI p) A = some (oI (if 48 ≤ t p ∧ t p ≤ 57 then 1 else 0)) := by
  have hL := hT.1
  have hb := hT.2 p hp
  have hr := sby_rg hb
  have hs : (48 ≤ t p ∧ t p ≤ 57) ↔ (48 ≤ sby (t p) ∧ sby (t p) ≤ 57) := by rw [sby]; split <;> omega
  rw [fX5_isDigit, inbA (by omega) (by omega), gd_true, gd_true, clpA (by omega), hR.2 p hp]
  by_cases q1 : sby (t p) < 48
  · rw [if_pos (by simp (disch := omega) only [kI_0, kI_1, kI_2, kI_3, kI_4, kI_5, kI_6, kI_7, kI_8, kI_9, kI_10, kI_12, kI_16, kI_17, kI_19, kI_20, kI_23, kI_24, kI_30, kI_32, kI_36, kI_48, kI_57, kI_59, kI_60, kI_72, kI_80, kI_84, kI_97, kI_98, kI_100, kI_122, kI_148, kI_200, kI_300, kI_1058, kI_1108, kI_1348, kI_1588, kI_5290, kI_7940, kI_100000, kI_e7, kI_e9, kL_0, kL_1, kL_5, kL_9, kL_10, kL_12, kL_23, kL_30, kL_48, kL_57, kL_59, kL_97, kL_100, kL_122, kL_1000, kL_e7, kL_e9, kL_e10, oI_lt, oI_le, oI_eq, oL_lt, oL_le, oL_eq, oI_L, oI_clamp, oI_inb, oL_nz]; omega), if_neg (fun h => by have := hs.1 h; omega)]; rfl
  · rw [if_neg (by simp (disch := omega) only [kI_0, kI_1, kI_2, kI_3, kI_4, kI_5, kI_6, kI_7, kI_8, kI_9, kI_10, kI_12, kI_16, kI_17, kI_19, kI_20, kI_23, kI_24, kI_30, kI_32, kI_36, kI_48, kI_57, kI_59, kI_60, kI_72, kI_80, kI_84, kI_97, kI_98, kI_100, kI_122, kI_148, kI_200, kI_300, kI_1058, kI_1108, kI_1348, kI_1588, kI_5290, kI_7940, kI_100000, kI_e7, kI_e9, kL_0, kL_1, kL_5, kL_9, kL_10, kL_12, kL_23, kL_30, kL_48, kL_57, kL_59, kL_97, kL_100, kL_122, kL_1000, kL_e7, kL_e9, kL_e10, oI_lt, oI_le, oI_eq, oL_lt, oL_le, oL_eq, oI_L, oI_clamp, oI_inb, oL_nz]; omega)]
    by_cases q2 : 57 < sby (t p)
    · rw [if_pos (by simp (disch := omega) only [kI_0, kI_1, kI_2, kI_3, kI_4, kI_5, kI_6, kI_7, kI_8, kI_9, kI_10, kI_12, kI_16, kI_17, kI_19, kI_20, kI_23, kI_24, kI_30, kI_32, kI_36, kI_48, kI_57, kI_59, kI_60, kI_72, kI_80, kI_84, kI_97, kI_98, kI_100, kI_122, kI_148, kI_200, kI_300, kI_1058, kI_1108, kI_1348, kI_1588, kI_5290, kI_7940, kI_100000, kI_e7, kI_e9, kL_0, kL_1, kL_5, kL_9, kL_10, kL_12, kL_23, kL_30, kL_48, kL_57, kL_59, kL_97, kL_100, kL_122, kL_1000, kL_e7, kL_e9, kL_e10, oI_lt, oI_le, oI_eq, oL_lt, oL_le, oL_eq, oI_L, oI_clamp, oI_inb, oL_nz]; omega), if_neg (fun h => by have := hs.1 h; omega)]; rfl
    · rw [if_neg (by simp (disch := omega) only [kI_0, kI_1, kI_2, kI_3, kI_4, kI_5, kI_6, kI_7, kI_8, kI_9, kI_10, kI_12, kI_16, kI_17, kI_19, kI_20, kI_23, kI_24, kI_30, kI_32, kI_36, kI_48, kI_57, kI_59, kI_60, kI_72, kI_80, kI_84, kI_97, kI_98, kI_100, kI_122, kI_148, kI_200, kI_300, kI_1058, kI_1108, kI_1348, kI_1588, kI_5290, kI_7940, kI_100000, kI_e7, kI_e9, kL_0, kL_1, kL_5, kL_9, kL_10, kL_12, kL_23, kL_30, kL_48, kL_57, kL_59, kL_97, kL_100, kL_122, kL_1000, kL_e7, kL_e9, kL_e10, oI_lt, oI_le, oI_eq, oL_lt, oL_le, oL_eq, oI_L, oI_clamp, oI_inb, oL_nz]; omega), if_pos (hs.2 (by omega))]; rfl
def cap (v : Int) : Int := if v < 10000000 then v else 10000000
theorem cap_i {y : Int} (h1 : -2147483648 ≤ y) (h2 : y < 2147483648) : (if oI y < oI 10000000 then oI y else oI 10000000) = oI (cap y) := by
  simp (disch := omega) only [oI_lt]; rw [cap]; split <;> rfl
theorem dgA_L {t : Nat → Int} {L : Nat} (hT : RT t L) (x1 x2 x3 : Int32) : ∀ (d fuel p : Nat) (v : Int) (A : sM), L - p = d → p ≤ L → d < fuel → RA A t L → 0 ≤ v → A.1 5 3 0 0 = oI p → ∃ A', Fr r53 A A' ∧ A'.1 5 3 0 0 = oI (rn 48 57 t L p) ∧ ∀ kk, fX5_expectNumber_L21 x1 x2 x3 kk fuel (oI (cap v)) A = kk (oI (cap (nv t L p v))) A' := by
  intro d
  induction d with
  | zero =>
    intro fuel p v A hd hp hf hR v0 h3
    have hL := hT.1
    obtain ⟨f, rfl⟩ : ∃ f, fuel = f + 1 := ⟨fuel - 1, by omega⟩
    refine ⟨A, Fr.refl _, by rw [rn_n (by omega)]; exact h3, fun kk => ?_⟩
    rw [fX5_expectNumber_L21, hR.1, h3, if_pos (by simp (disch := omega) only [oI_lt, oI_le, oI_eq, oL_lt, oL_le, oL_eq, oI_L, oI_clamp, oI_inb, oL_nz]; omega), nv_n (by omega)]
  | succ d ih =>
    intro fuel p v A hd hp hf hR v0 h3
    have hL := hT.1
    obtain ⟨f, rfl⟩ : ∃ f, fuel = f + 1 := ⟨fuel - 1, by omega⟩
    have hpL : p < L := by omega
    by_cases q : 48 ≤ t p ∧ t p ≤ 57
    · have hsb : sby (t p) = t p := by rw [sby, if_pos (by omega)]
      have hc : 0 ≤ cap v ∧ cap v ≤ 10000000 := by rw [cap]; split <;> omega
      have hcv : cap (cap v * 10 + t p - 48) = cap (if 10000000 ≤ v then v else 10 * v + t p - 48) := by
        by_cases q9 : 10000000 ≤ v
        · rw [if_pos q9, show cap v = 10000000 from if_neg (by omega), cap, if_neg (by omega)]
        · rw [if_neg q9, show cap v = v from if_pos (by omega), Int.mul_comm v 10]
      obtain ⟨A', u1, u2, u4⟩ := ih f (p + 1) (if 10000000 ≤ v then v else 10 * v + t p - 48) (wI A 5 3 0 0 (oI (p + 1 : Nat))) (by omega) (by omega) (by omega) ⟨by rw [wI_1, if_neg (by omega)]; exact hR.1, fun k hk => by rw [wI_1, if_neg (by omega)]; exact hR.2 k hk⟩ (by split <;> omega) (by rw [wI_1, if_pos ⟨rfl, rfl, rfl, rfl⟩])
      refine ⟨A', Fr.trans ((Fr.refl _).wI rfl) u1, by rw [rn_e ⟨hpL, q⟩]; exact u2, fun kk => ?_⟩
      have em : (if oI (cap v * 10 + t p - 48) < oI 10000000 then oI (cap v * 10 + t p - 48) else oI 10000000) = oI (cap (cap v * 10 + t p - 48)) := cap_i (by omega) (by omega)
      rw [fX5_expectNumber_L21, hR.1, h3, if_neg (by simp (disch := omega) only [oI_lt, oI_le, oI_eq, oL_lt, oL_le, oL_eq, oI_L, oI_clamp, oI_inb, oL_nz]; omega), isD hT hR hpL, bd_eq, if_pos q, if_neg one_ne, inbA (by omega) (by omega), gd_true, clpA (by omega), hR.2 p hpL, hsb, kI_10, kI_48, kI_e7, oI_mul, oI_add, oI_sub, em, hcv, ltb_eq, kI_1, oI_add, nat1, ltb_eq, nv_e ⟨hpL, q⟩]
      exact u4 kk
    · refine ⟨A, Fr.refl _, by rw [rn_n (fun h => q h.2)]; exact h3, fun kk => ?_⟩
      rw [fX5_expectNumber_L21, hR.1, h3, if_neg (by simp (disch := omega) only [oI_lt, oI_le, oI_eq, oL_lt, oL_le, oL_eq, oI_L, oI_clamp, oI_inb, oL_nz]; omega), isD hT hR hpL, bd_eq, if_neg q, if_pos nul_eq, nv_n (fun h => q h.2)]
