/-! A new state out of the plan. -/
def gPl (g : Nat → Int) (np k : Nat) : Int := if k < 4 then g k else if k = 4 then np else 0
def stN (g hh r : Nat → Int) (np : Nat) : sS := (gPl g np, hh, r, fun _ _ => 0, fun _ _ => 0, fun _ => 0, fun _ => -1, fun _ => 0, fun _ _ => 0, fun _ _ => 0)
section
variable {g hh r : Nat → Int} {np : Nat}
theorem WF_new (n : Nat) (hB : BD g hh r np) (h1 : 1 ≤ np) : WF n (stN g hh r np) 0 := by
  obtain ⟨⟨g0, g1, g2, g3⟩, n4, hr, hH⟩ := hB
  have e4 : gPl g np 4 = np := rfl
  refine ⟨⟨g0, g1, g2, g3, by show 1 ≤ (np : Int) ∧ (np : Int) ≤ 4; omega, by show (0 : Int) ≤ 0 ∧ (0 : Int) < 60; omega, by show (0 : Int) ≤ 0 ∧ (0 : Int) ≤ 30; omega, rfl, by omega⟩, ⟨fun h hh' => ?_, fun p hp => hr p hp⟩, ⟨fun i hi => absurd hi (Nat.not_lt_zero i), fun i hi => Int.le_refl _, fun i hi => absurd hi (Nat.not_lt_zero i), fun i hi => absurd hi (Nat.not_lt_zero i), fun i _ _ => rfl, ?_⟩, ⟨fun i hi => absurd hi (Nat.not_lt_zero i), ⟨fun _ => 0, fun i t hi => absurd hi (Nat.not_lt_zero i)⟩⟩, ⟨fun m i hm hi => Int.le_refl _, fun m i hm h1 h2 => rfl, fun m i hm hi q => rfl, fun m q => ?_, fun m q => ?_⟩, ⟨fun c hc => ?_, fun m p hm hp => ⟨fun _ => rfl, fun _ => rfl, fun _ => ⟨rfl, rfl⟩⟩⟩, ⟨fun i hi => ?_, fun i h1 h2 => ⟨fun w hw => rfl, fun m hm => rfl⟩, fun i hi => absurd hi (Nat.not_lt_zero i), fun i m hi hm q => rfl⟩, W8_m.2 ⟨?_, ?_⟩⟩
  · have := hH h hh'
    show 0 ≤ hh h ∧ hh h < (np : Int)
    omega
  · show (0 : Int) ≤ g 0
    omega
  · show (0 : Int) ≤ 30 * g 0
    omega
  · show (0 : Int) ≤ 0 * g 0
    omega
  · show (0 : Int) ≤ 0 ∧ (0 : Int) ≤ 1000000000 ∧ (-1 : Int) ≤ -1 ∧ (-1 : Int) ≤ 1000000000
    omega
  · show (0 : Int) ≤ 0 ∧ (0 : Int) ≤ 0 ∧ (0 : Int) ≤ 10000000000 ∧ ∀ m, m < 60 → (0 : Int) ≤ 0
    exact ⟨by omega, by omega, by omega, fun _ _ => by omega⟩
  · have h1 : sumN (bal (stN g hh r np)) 16 = 0 := sumN_zero fun i _ => sumN_zero fun m _ => rfl
    have h2 : sumN (pot (stN g hh r np)) 240 ≤ sumN (fun _ => 200000000000) 240 := sumN_le fun c _ => by
      have := hr (c % 4) (by omega)
      show r (c % 4) * (if (0 : Int) ≤ (c / 4 : Nat) then 1000000000 + 0 else _) ≤ 200000000000
      rw [if_pos (by omega)]
      omega
    rw [sumN_const] at h2
    simp only [mM]
    rw [h1]
    show 2 * ((if (0 : Int) ≤ 0 then (0 : Int) else 0) + 0) + sumN (pot (stN g hh r np)) 240 ≤ _
    rw [if_pos (by omega)]
    omega
  · have h1 : sumN (fun i => sA (stN g hh r np) i 0) 16 = 0 := sumN_zero fun i _ => rfl
    simp only [mE]
    rw [h1]
    show _ ≤ (0 : Int) - 0
    omega
theorem row_ZR {Z Z' : sM} (hZ : ∀ k, k < 1588 → Z.1 28 0 0 k = oI (row g hh r np k)) (h27 : ∀ k, k < 1588 → Z'.1 27 0 0 k = Z.1 28 0 0 k) (h30 : ∀ k, k < 1058 → Z'.2 30 0 0 k = 0) : ZR (zA Z') (zB Z') (stN g hh r np) := by
  have e : ∀ k, k < 1588 → Z'.1 27 0 0 k = oI (row g hh r np k) := fun k hk => by rw [h27 k hk]; exact hZ k hk
  refine ⟨fun k hk => ?_, fun h hh' => ?_, fun p hp => ?_, fun i w hi hw => ?_, fun m i hm hi => ?_, fun c hc => ?_, fun c hc => ?_, fun k hk => h30 k (by omega), fun i w hi hw => h30 _ (by omega), fun i m hi hm => h30 _ (by omega)⟩
  · refine (e k (by omega)).trans ?_
    show oI (row g hh r np k) = oI (gPl g np k)
    rw [row, gPl]
    by_cases q : k < 4
    · rw [if_pos q, if_pos q]
    · rw [if_neg q, if_neg q]
      by_cases q4 : k = 4
      · rw [if_pos q4, if_pos q4]
      · rw [if_neg q4, if_neg q4, if_pos (by omega)]
  · refine (e (8 + h) (by omega)).trans ?_
    rw [row, if_neg (by omega), if_neg (by omega), if_neg (by omega), if_pos (by omega), show 8 + h - 8 = h by omega]; rfl
  · refine (e (32 + p) (by omega)).trans ?_
    rw [row, if_neg (by omega), if_neg (by omega), if_neg (by omega), if_neg (by omega), if_pos (by omega), show 32 + p - 32 = p by omega]; rfl
  · refine (e (36 + 7 * i + w) (by omega)).trans ?_
    rw [row, if_neg (by omega), if_neg (by omega), if_neg (by omega), if_neg (by omega), if_neg (by omega), if_pos (by omega)]; rfl
  · refine (e (148 + 16 * m + i) (by omega)).trans ?_
    rw [row, if_neg (by omega), if_neg (by omega), if_neg (by omega), if_neg (by omega), if_neg (by omega), if_pos (by omega)]; rfl
  · refine (e (1108 + c) (by omega)).trans ?_
    rw [row, if_neg (by omega), if_neg (by omega), if_neg (by omega), if_neg (by omega), if_neg (by omega), if_pos (by omega)]; rfl
  · refine (e (1348 + c) (by omega)).trans ?_
    rw [row, if_neg (by omega), if_neg (by omega), if_neg (by omega), if_neg (by omega), if_neg (by omega), if_neg (by omega)]; rfl
end
theorem ld97 {Z0 : sM} : ∀ (d fuel i : Nat) (Z : sM), i + d = 1588 → d < fuel → Fr p2730 Z0 Z → (∀ k, k < i → Z.1 27 0 0 k = Z0.1 28 0 0 k) → ∃ Z', Fr p2730 Z0 Z' ∧ (∀ k, k < 1588 → Z'.1 27 0 0 k = Z0.1 28 0 0 k) ∧ ∀ kk, fX10_load_L97 kk fuel (oI i) Z = kk Z' := by
  intro d
  induction d with
  | zero =>
    intro fuel i Z hd hf hF hk
    obtain ⟨f, rfl⟩ : ∃ f, fuel = f + 1 := ⟨fuel - 1, by omega⟩
    refine ⟨Z, hF, fun k hk' => hk k (by omega), fun kk => ?_⟩
    rw [fX10_load_L97, if_pos (by simp (disch := omega) only [kI_0, kI_1, kI_2, kI_3, kI_4, kI_5, kI_6, kI_7, kI_8, kI_9, kI_10, kI_12, kI_16, kI_17, kI_19, kI_20, kI_23, kI_24, kI_30, kI_32, kI_36, kI_48, kI_57, kI_59, kI_60, kI_72, kI_80, kI_84, kI_97, kI_98, kI_100, kI_122, kI_148, kI_200, kI_300, kI_1058, kI_1108, kI_1348, kI_1588, kI_5290, kI_7940, kI_100000, kI_e7, kI_e9, kL_0, kL_1, kL_5, kL_9, kL_10, kL_12, kL_23, kL_30, kL_48, kL_57, kL_59, kL_97, kL_100, kL_122, kL_1000, kL_e7, kL_e9, kL_e10, oI_lt, oI_le, oI_eq, oL_lt, oL_le, oL_eq, oI_L, oI_clamp, oI_inb, oL_nz]; omega)]
  | succ d ih =>
    intro fuel i Z hd hf hF hk
    obtain ⟨f, rfl⟩ : ∃ f, fuel = f + 1 := ⟨fuel - 1, by omega⟩
    obtain ⟨Z', u1, u2, u3⟩ := ih f (i + 1) (wI Z 27 0 0 i (Z.1 28 0 0 i)) (by omega) (by omega) (hF.wI rfl) (fun k hk' => by
      rw [wI_1]
      by_cases e : k = i
      · rw [if_pos ⟨rfl, rfl, rfl, e⟩, e]; exact hF.i rfl
      · rw [if_neg (by omega)]; exact hk k (by omega))
    refine ⟨Z', u1, u2, fun kk => ?_⟩
    rw [fX10_load_L97, if_neg (by simp (disch := omega) only [kI_0, kI_1, kI_2, kI_3, kI_4, kI_5, kI_6, kI_7, kI_8, kI_9, kI_10, kI_12, kI_16, kI_17, kI_19, kI_20, kI_23, kI_24, kI_30, kI_32, kI_36, kI_48, kI_57, kI_59, kI_60, kI_72, kI_80, kI_84, kI_97, kI_98, kI_100, kI_122, kI_148, kI_200, kI_300, kI_1058, kI_1108, kI_1348, kI_1588, kI_5290, kI_7940, kI_100000, kI_e7, kI_e9, kL_0, kL_1, kL_5, kL_9, kL_10, kL_12, kL_23, kL_30, kL_48, kL_57, kL_59, kL_97, kL_100, kL_122, kL_1000, kL_e7, kL_e9, kL_e10, oI_lt, oI_le, oI_eq, oL_lt, oL_le, oL_eq, oI_L, oI_clamp, oI_inb, oL_nz]; omega), inbA (by omega) (by omega), gd_true, gd_true, clpA (by omega), ltb_eq, kI_1, oI_add, nat1, ltb_eq]
    exact u3 kk
theorem ld124 {Z0 : sM} : ∀ (d fuel i : Nat) (Z : sM), i + d = 1058 → d < fuel → Fr p2730 Z0 Z → (∀ c k j, Z.1 c k 0 j = Z0.1 c k 0 j) → (∀ k, k < i → Z.2 30 0 0 k = 0) → ∃ Z', Fr p2730 Z0 Z' ∧ (∀ c k j, Z'.1 c k 0 j = Z0.1 c k 0 j) ∧ (∀ k, k < 1058 → Z'.2 30 0 0 k = 0) ∧ ∀ kk, fX10_load_L124 kk fuel (oI i) Z = kk Z' := by
  intro d
  induction d with
  | zero =>
    intro fuel i Z hd hf hF h1 hk
    obtain ⟨f, rfl⟩ : ∃ f, fuel = f + 1 := ⟨fuel - 1, by omega⟩
    refine ⟨Z, hF, h1, fun k hk' => hk k (by omega), fun kk => ?_⟩
    rw [fX10_load_L124, if_pos (by simp (disch := omega) only [kI_0, kI_1, kI_2, kI_3, kI_4, kI_5, kI_6, kI_7, kI_8, kI_9, kI_10, kI_12, kI_16, kI_17, kI_19, kI_20, kI_23, kI_24, kI_30, kI_32, kI_36, kI_48, kI_57, kI_59, kI_60, kI_72, kI_80, kI_84, kI_97, kI_98, kI_100, kI_122, kI_148, kI_200, kI_300, kI_1058, kI_1108, kI_1348, kI_1588, kI_5290, kI_7940, kI_100000, kI_e7, kI_e9, kL_0, kL_1, kL_5, kL_9, kL_10, kL_12, kL_23, kL_30, kL_48, kL_57, kL_59, kL_97, kL_100, kL_122, kL_1000, kL_e7, kL_e9, kL_e10, oI_lt, oI_le, oI_eq, oL_lt, oL_le, oL_eq, oI_L, oI_clamp, oI_inb, oL_nz]; omega)]
  | succ d ih =>
    intro fuel i Z hd hf hF h1 hk
    obtain ⟨f, rfl⟩ : ∃ f, fuel = f + 1 := ⟨fuel - 1, by omega⟩
    obtain ⟨Z', u1, u5, u2, u3⟩ := ih f (i + 1) (wL Z 30 0 0 i 0) (by omega) (by omega) (hF.wL rfl) (fun c k j => h1 c k j) (fun k hk' => by
      rw [wL_2]
      by_cases e : k = i
      · rw [if_pos ⟨rfl, rfl, rfl, e⟩]
      · rw [if_neg (by omega)]; exact hk k (by omega))
    refine ⟨Z', u1, u5, u2, fun kk => ?_⟩
    rw [fX10_load_L124, if_neg (by simp (disch := omega) only [kI_0, kI_1, kI_2, kI_3, kI_4, kI_5, kI_6, kI_7, kI_8, kI_9, kI_10, kI_12, kI_16, kI_17, kI_19, kI_20, kI_23, kI_24, kI_30, kI_32, kI_36, kI_48, kI_57, kI_59, kI_60, kI_72, kI_80, kI_84, kI_97, kI_98, kI_100, kI_122, kI_148, kI_200, kI_300, kI_1058, kI_1108, kI_1348, kI_1588, kI_5290, kI_7940, kI_100000, kI_e7, kI_e9, kL_0, kL_1, kL_5, kL_9, kL_10, kL_12, kL_23, kL_30, kL_48, kL_57, kL_59, kL_97, kL_100, kL_122, kL_1000, kL_e7, kL_e9, kL_e10, oI_lt, oI_le, oI_eq, oL_lt, oL_le, oL_eq, oI_L, oI_clamp, oI_inb, oL_nz]; omega), inbA (by omega) (by omega), gd_true, clpA (by omega), ltb_eq, kI_1, oI_add, nat1, ltb_eq]
    exact u3 kk
theorem bwA {A : sM} {g hh r : Nat → Int} {np : Nat} (n4 : np ≤ 4) (h4 : ∀ k, k < 4 → A.1 4 k 7 0 = oI (g k)) (hn : A.1 4 4 7 0 = oI np) (hr : ∀ p, p < np → A.1 18 0 7 p = oI (r p)) (hH : ∀ h, h < 24 → A.1 19 0 7 h = oI (hh h)) : ∃ A', Fr mvA A A' ∧ SR A' 0 (stN g hh r np) 0 ∧ A'.1 4 4 0 0 = oI np ∧ fX0_beginWith 0 7 A = some A' := by
  obtain ⟨B, hB⟩ : ∃ B, B = wL (wL (wI (wI (wI (fI (fI (cI (cI (wI (wI (wI (wI (wI A 4 0 0 0 (A.1 4 0 7 0)) 4 1 0 0 (A.1 4 1 7 0)) 4 2 0 0 (A.1 4 2 7 0)) 4 3 0 0 (A.1 4 3 7 0)) 4 4 0 0 (A.1 4 4 7 0)) 18 7 0 4) 19 7 0 24) 22 0 240 0) 23 0 240 0) 0 3 0 0 0) 0 4 0 0 0) 0 5 0 0 0) 0 6 0 0 0) 0 7 0 0 0 := ⟨_, rfl⟩
  have e0 : fX0_beginWith 0 7 A = some B := by
    rw [fX0_beginWith, fX4_copyFrom]
    simp only [ltb_eq, show nq 7 0 = true from rfl, gd_true, bd_eq, fX7_clear]
    rw [hB]
    simp [wI_1]
  have hF : Fr mvA A B := by
    rw [hB]
    exact ((((((((((((((Fr.refl _).wI rfl).wI rfl).wI rfl).wI rfl).wI rfl).cI rfl).cI rfl).fI rfl).fI rfl).wI rfl).wI rfl).wI rfl).wL rfl).wL rfl
  have g4 : ∀ k, k < 5 → B.1 4 k 0 0 = A.1 4 k 7 0 := fun k hk => by
    rw [hB]
    rcases (by omega : k = 0 ∨ k = 1 ∨ k = 2 ∨ k = 3 ∨ k = 4) with rfl | rfl | rfl | rfl | rfl <;> simp [wI_1, wI_2, wL_1, wL_2, cI_1, cI_2, fI_1, fI_2]
  refine ⟨B, hF, ⟨fun k hk => ?_, ⟨?_, ?_, ?_⟩, fun k hk => ?_, fun p hp => ?_, fun i hi => absurd hi (Nat.not_lt_zero i), fun i hi => absurd hi (Nat.not_lt_zero i), fun c hc => ?_, ⟨?_, ?_⟩, fun i hi => absurd hi (Nat.not_lt_zero i), fun i hi => absurd hi (Nat.not_lt_zero i)⟩, by rw [g4 4 (by omega)]; exact hn, e0⟩
  · rw [g4 k hk]
    show A.1 4 k 7 0 = oI (gPl g np k)
    rw [gPl]
    by_cases q : k < 4
    · rw [if_pos q]; exact h4 k q
    · rw [if_neg q, if_pos (by omega), show k = 4 by omega]; exact hn
  · rw [hB]; simp [wI_1, wI_2, wL_1, wL_2, cI_1, cI_2, fI_1, fI_2]; rfl
  · rw [hB]; simp [wI_1, wI_2, wL_1, wL_2, cI_1, cI_2, fI_1, fI_2]; rfl
  · rw [hB]; simp [wI_1, wI_2, wL_1, wL_2, cI_1, cI_2, fI_1, fI_2]; rfl
  · rw [hB]; simp [wI_1, wI_2, wL_1, wL_2, cI_1, cI_2, fI_1, fI_2, hk]; exact hH k hk
  · have hp' : (p : Int) < np := hp
    have hp4 : p < 4 := by omega
    rw [hB]; simp [wI_1, wI_2, wL_1, wL_2, cI_1, cI_2, fI_1, fI_2, hp4]; exact hr p (by omega)
  · rw [hB]; simp [wI_1, wI_2, wL_1, wL_2, cI_1, cI_2, fI_1, fI_2, hc]; exact ⟨rfl, rfl⟩
  · rw [hB]; simp [wI_1, wI_2, wL_1, wL_2, cI_1, cI_2, fI_1, fI_2]; rfl
  · rw [hB]; simp [wI_1, wI_2, wL_1, wL_2, cI_1, cI_2, fI_1, fI_2]; rfl
