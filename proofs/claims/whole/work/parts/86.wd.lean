/-! Words. -/
theorem isL {t : Nat → Int} {L p : Nat} {A : sM} (hT : RT t L) (hR : RA A t L) (hp : p < L) : fX5_isLetter (oI p) A = some (oI (if 97 ≤ t p ∧ t p ≤ 122 then 1 else 0)) := by
  have hL := hT.1
  have hb := hT.2 p hp
  have hr := sby_rg hb
  have hs : (97 ≤ t p ∧ t p ≤ 122) ↔ (97 ≤ sby (t p) ∧ sby (t p) ≤ 122) := by rw [sby]; split <;> omega
  rw [fX5_isLetter, inbA (by omega) (by omega), gd_true, gd_true, clpA (by omega), hR.2 p hp]
  by_cases q1 : sby (t p) < 97
  · rw [if_pos (by simp (disch := omega) only [kI_0, kI_1, kI_2, kI_3, kI_4, kI_5, kI_6, kI_7, kI_8, kI_9, kI_10, kI_12, kI_16, kI_17, kI_19, kI_20, kI_23, kI_24, kI_30, kI_32, kI_36, kI_48, kI_57, kI_59, kI_60, kI_72, kI_80, kI_84, kI_97, kI_98, kI_100, kI_122, kI_148, kI_200, kI_300, kI_1058, kI_1108, kI_1348, kI_1588, kI_5290, kI_7940, kI_100000, kI_e7, kI_e9, kL_0, kL_1, kL_5, kL_9, kL_10, kL_12, kL_23, kL_30, kL_48, kL_57, kL_59, kL_97, kL_100, kL_122, kL_1000, kL_e7, kL_e9, kL_e10, oI_lt, oI_le, oI_eq, oL_lt, oL_le, oL_eq, oI_L, oI_clamp, oI_inb, oL_nz]; omega), if_neg (fun h => by have := hs.1 h; omega)]; rfl
  · rw [if_neg (by simp (disch := omega) only [kI_0, kI_1, kI_2, kI_3, kI_4, kI_5, kI_6, kI_7, kI_8, kI_9, kI_10, kI_12, kI_16, kI_17, kI_19, kI_20, kI_23, kI_24, kI_30, kI_32, kI_36, kI_48, kI_57, kI_59, kI_60, kI_72, kI_80, kI_84, kI_97, kI_98, kI_100, kI_122, kI_148, kI_200, kI_300, kI_1058, kI_1108, kI_1348, kI_1588, kI_5290, kI_7940, kI_100000, kI_e7, kI_e9, kL_0, kL_1, kL_5, kL_9, kL_10, kL_12, kL_23, kL_30, kL_48, kL_57, kL_59, kL_97, kL_100, kL_122, kL_1000, kL_e7, kL_e9, kL_e10, oI_lt, oI_le, oI_eq, oL_lt, oL_le, oL_eq, oI_L, oI_clamp, oI_inb, oL_nz]; omega)]
    by_cases q2 : 122 < sby (t p)
    · rw [if_pos (by simp (disch := omega) only [kI_0, kI_1, kI_2, kI_3, kI_4, kI_5, kI_6, kI_7, kI_8, kI_9, kI_10, kI_12, kI_16, kI_17, kI_19, kI_20, kI_23, kI_24, kI_30, kI_32, kI_36, kI_48, kI_57, kI_59, kI_60, kI_72, kI_80, kI_84, kI_97, kI_98, kI_100, kI_122, kI_148, kI_200, kI_300, kI_1058, kI_1108, kI_1348, kI_1588, kI_5290, kI_7940, kI_100000, kI_e7, kI_e9, kL_0, kL_1, kL_5, kL_9, kL_10, kL_12, kL_23, kL_30, kL_48, kL_57, kL_59, kL_97, kL_100, kL_122, kL_1000, kL_e7, kL_e9, kL_e10, oI_lt, oI_le, oI_eq, oL_lt, oL_le, oL_eq, oI_L, oI_clamp, oI_inb, oL_nz]; omega), if_neg (fun h => by have := hs.1 h; omega)]; rfl
    · rw [if_neg (by simp (disch := omega) only [kI_0, kI_1, kI_2, kI_3, kI_4, kI_5, kI_6, kI_7, kI_8, kI_9, kI_10, kI_12, kI_16, kI_17, kI_19, kI_20, kI_23, kI_24, kI_30, kI_32, kI_36, kI_48, kI_57, kI_59, kI_60, kI_72, kI_80, kI_84, kI_97, kI_98, kI_100, kI_122, kI_148, kI_200, kI_300, kI_1058, kI_1108, kI_1348, kI_1588, kI_5290, kI_7940, kI_100000, kI_e7, kI_e9, kL_0, kL_1, kL_5, kL_9, kL_10, kL_12, kL_23, kL_30, kL_48, kL_57, kL_59, kL_97, kL_100, kL_122, kL_1000, kL_e7, kL_e9, kL_e10, oI_lt, oI_le, oI_eq, oL_lt, oL_le, oL_eq, oI_L, oI_clamp, oI_inb, oL_nz]; omega), if_pos (hs.2 (by omega))]; rfl
theorem shA_L {t w : Nat → Int} {L p n s1 : Nat} {A : sM} (hT : RT t L) (hR : RA A t L) (h3 : A.1 5 3 0 0 = oI p) (hL1 : strL s1 = oI n) (hl : sLen.getD s1 0 = n) (hw : ∀ j, j < n → strC s1 j = oI (w j) ∧ 0 ≤ w j ∧ w j < 128) (hp : p + n ≤ L) (x2 : Int32) (a b : Option Int32) : ∀ (d fuel j : Nat), j + d = n → d < fuel → ((∀ i, j ≤ i → i < n → t (p + i) = w i) → fX5_standsHere_L22 s1 x2 A a b fuel (oI j) = b) ∧ (¬ (∀ i, j ≤ i → i < n → t (p + i) = w i) → fX5_standsHere_L22 s1 x2 A a b fuel (oI j) = a) := by
  have hL := hT.1
  intro d
  induction d with
  | zero =>
    intro fuel j hj hf
    obtain ⟨f, rfl⟩ : ∃ f, fuel = f + 1 := ⟨fuel - 1, by omega⟩
    refine ⟨fun _ => ?_, fun q => absurd (fun i h1 h2 => by omega) q⟩
    rw [fX5_standsHere_L22, hL1, if_pos (by simp (disch := omega) only [oI_lt, oI_le, oI_eq, oL_lt, oL_le, oL_eq, oI_L, oI_clamp, oI_inb, oL_nz]; omega)]
  | succ d ih =>
    intro fuel j hj hf
    obtain ⟨f, rfl⟩ : ∃ f, fuel = f + 1 := ⟨fuel - 1, by omega⟩
    obtain ⟨w1, w2, w3⟩ := hw j (by omega)
    have hb := hT.2 (p + j) (by omega)
    have hr := sby_rg hb
    obtain ⟨i1, i2⟩ := ih f (j + 1) (by omega) (by omega)
    have e1 : ∀ x, fX5_standsHere_L22 s1 x2 A a b (f + 1) (oI j) = x ↔ (if oI (sby (t (p + j))) = oI (w j) then fX5_standsHere_L22 s1 x2 A a b f (oI (j + 1 : Nat)) else a) = x := fun x => by
      rw [fX5_standsHere_L22, hL1, hl, if_neg (by simp (disch := omega) only [oI_lt, oI_le, oI_eq, oL_lt, oL_le, oL_eq, oI_L, oI_clamp, oI_inb, oL_nz]; omega), h3, oI_add, show ((p : Int) + (j : Int)) = ((p + j : Nat) : Int) from rfl, inbA (by omega) (by omega), gd_true, inbA (by omega) (by omega), gd_true, clpA (by omega), clpA (by omega), hR.2 (p + j) (by omega), w1, kI_1, oI_add, nat1, ltb_eq]
    by_cases q : t (p + j) = w j
    · have e2 : oI (sby (t (p + j))) = oI (w j) := by rw [(sby_eq hb ⟨w2, w3⟩).2 q]
      refine ⟨fun h => (e1 _).2 ?_, fun h => (e1 _).2 ?_⟩
      · rw [if_pos e2]; exact i1 (fun i h1 h2 => h i (by omega) h2)
      · rw [if_pos e2]
        refine i2 (fun h9 => h (fun i h1 h2 => ?_))
        by_cases e : i = j
        · rw [e]; exact q
        · exact h9 i (by omega) h2
    · have e2 : ¬ oI (sby (t (p + j))) = oI (w j) := by
        simp (disch := omega) only [oI_lt, oI_le, oI_eq, oL_lt, oL_le, oL_eq, oI_L, oI_clamp, oI_inb, oL_nz]
        exact fun e => q ((sby_eq hb ⟨w2, w3⟩).1 e)
      refine ⟨fun h => absurd (h j (Nat.le_refl _) (by omega)) q, fun h => (e1 _).2 ?_⟩
      rw [if_neg e2]
def stands (t w : Nat → Int) (L p n : Nat) : Prop := p + n ≤ L ∧ (∀ i, i < n → t (p + i) = w i) ∧ ¬ (p + n < L ∧ (97 ≤ t (p + n) ∧ t (p + n) ≤ 122))
theorem shA {t w : Nat → Int} {L p n s1 : Nat} {A : sM} (hT : RT t L) (hR : RA A t L) (h3 : A.1 5 3 0 0 = oI p) (hp0 : p ≤ L) (hn : n < 100) (hL1 : strL s1 = oI n) (hl : sLen.getD s1 0 = n) (hw : ∀ j, j < n → strC s1 j = oI (w j) ∧ 0 ≤ w j ∧ w j < 128) : (stands t w L p n → fX5_standsHere s1 A = some (oI 1)) ∧ (¬ stands t w L p n → fX5_standsHere s1 A = some (oI 0)) := by
  have hL := hT.1
  by_cases hp : p + n ≤ L
  · have e0 : ∀ x, fX5_standsHere s1 A = x ↔ fX5_standsHere_L22 s1 (oI ((p + n : Nat) : Int)) A (some (0 : Int32)) (if oI ((p + n : Nat) : Int) = oI (L : Int) then some (1 : Int32) else Option.bind (fX5_isLetter (oI ((p + n : Nat) : Int)) A) fun r_2 => if r_2 = 0 then some (1 : Int32) else some (0 : Int32)) 10000 (oI ((0 : Nat) : Int)) = x := fun x => by
      rw [fX5_standsHere, h3, hL1, hR.1, oI_add, show ((p : Int) + (n : Int)) = ((p + n : Nat) : Int) from rfl, ltb_eq, if_pos (by simp (disch := omega) only [oI_lt, oI_le, oI_eq, oL_lt, oL_le, oL_eq, oI_L, oI_clamp, oI_inb, oL_nz]; omega)]
      exact Iff.rfl
    obtain ⟨i1, i2⟩ := shA_L hT hR h3 hL1 hl hw hp (oI ((p + n : Nat) : Int)) (some (0 : Int32)) (if oI ((p + n : Nat) : Int) = oI (L : Int) then some (1 : Int32) else Option.bind (fX5_isLetter (oI ((p + n : Nat) : Int)) A) fun r_2 => if r_2 = 0 then some (1 : Int32) else some (0 : Int32)) n 10000 0 (by omega) (by omega)
    by_cases q : ∀ i, 0 ≤ i → i < n → t (p + i) = w i
    · have e1 := i1 q
      by_cases q2 : p + n = L
      · have e2 : fX5_standsHere s1 A = some (oI 1) := (e0 _).2 (e1.trans (by rw [if_pos (by rw [q2])]; rfl))
        exact ⟨fun _ => e2, fun h => absurd ⟨hp, fun i hi => q i (by omega) hi, by omega⟩ h⟩
      · have hlt : p + n < L := by omega
        by_cases q3 : 97 ≤ t (p + n) ∧ t (p + n) ≤ 122
        · have e2 : fX5_standsHere s1 A = some (oI 0) := (e0 _).2 (e1.trans (by rw [if_neg (by simp (disch := omega) only [oI_lt, oI_le, oI_eq, oL_lt, oL_le, oL_eq, oI_L, oI_clamp, oI_inb, oL_nz]; omega), isL hT hR hlt, bd_eq, if_pos q3, if_neg one_ne]; rfl))
          exact ⟨fun h => absurd ⟨hlt, q3⟩ h.2.2, fun _ => e2⟩
        · have e2 : fX5_standsHere s1 A = some (oI 1) := (e0 _).2 (e1.trans (by rw [if_neg (by simp (disch := omega) only [oI_lt, oI_le, oI_eq, oL_lt, oL_le, oL_eq, oI_L, oI_clamp, oI_inb, oL_nz]; omega), isL hT hR hlt, bd_eq, if_neg q3, if_pos nul_eq]; rfl))
          exact ⟨fun _ => e2, fun h => absurd ⟨hp, fun i hi => q i (by omega) hi, fun h9 => q3 h9.2⟩ h⟩
    · have e2 : fX5_standsHere s1 A = some (oI 0) := (e0 _).2 (i2 q)
      exact ⟨fun h => absurd (fun i _ hi => h.2.1 i hi) q, fun _ => e2⟩
  · have e2 : fX5_standsHere s1 A = some (oI 0) := by
      rw [fX5_standsHere, h3, hL1, hR.1, oI_add, ltb_eq, if_neg (by simp (disch := omega) only [oI_lt, oI_le, oI_eq, oL_lt, oL_le, oL_eq, oI_L, oI_clamp, oI_inb, oL_nz]; omega)]; rfl
    exact ⟨fun h => absurd h.1 hp, fun _ => e2⟩
