/-! The first state. -/
def g00 (k : Nat) : Int := if k = 0 then 1000 else if k = 1 then 12 else if k = 2 then 50 else if k = 3 then 100 else if k = 4 then 1 else 0
def rt0 (p : Nat) : Int := if p = 0 then 10 else 0
def st0 : sS := (g00, fun _ => 0, rt0, fun _ _ => 0, fun _ _ => 0, fun _ => 0, fun _ => -1, fun _ => 0, fun _ _ => 0, fun _ _ => 0)
def zr0 (k : Nat) : Int32 := if k = 0 then 1000 else if k = 1 then 12 else if k = 2 then 50 else if k = 3 then 100 else if k = 4 then 1 else if k = 32 then 10 else if k < 1348 then 0 else -1
theorem WF_st0 : WF 0 st0 0 := by
  have hr : ∀ p, 0 ≤ rt0 p ∧ rt0 p ≤ 10 := fun p => by rw [rt0]; split <;> omega
  refine ⟨⟨by decide, by decide, by decide, by decide, by decide, by decide, by decide, by decide, by decide⟩, ⟨fun h hh => ⟨Int.le_refl _, (by decide : (0 : Int) < 1)⟩, fun p hp => ?_⟩, ⟨fun i hi => absurd hi (Nat.not_lt_zero i), fun i hi => Int.le_refl _, fun i hi => absurd hi (Nat.not_lt_zero i), fun i hi => absurd hi (Nat.not_lt_zero i), fun i _ _ => rfl, by decide⟩, ⟨fun i hi => absurd hi (Nat.not_lt_zero i), ⟨fun _ => 0, fun i t hi => absurd hi (Nat.not_lt_zero i)⟩⟩, ⟨fun m i hm hi => Int.le_refl _, fun m i hm h1 h2 => rfl, fun m i hm hi q => rfl, fun m q => by show (0 : Int) ≤ 30 * 1000; omega, fun m q => by show (0 : Int) ≤ 0 * 1000; omega⟩, ⟨fun c hc => ?_, fun m p hm hp => ⟨fun _ => rfl, fun _ => rfl, fun _ => ⟨rfl, rfl⟩⟩⟩, ⟨fun i hi => ?_, fun i h1 h2 => ⟨fun w hw => rfl, fun m hm => rfl⟩, fun i hi => absurd hi (Nat.not_lt_zero i), fun i m hi hm q => rfl⟩, W8_m.2 ⟨?_, ?_⟩⟩
  · have := hr p
    show 0 ≤ rt0 p ∧ rt0 p ≤ 200
    omega
  · show (0 : Int) ≤ 0 ∧ (0 : Int) ≤ 1000000000 ∧ (-1 : Int) ≤ -1 ∧ (-1 : Int) ≤ 1000000000
    omega
  · show (0 : Int) ≤ 0 ∧ (0 : Int) ≤ 0 ∧ (0 : Int) ≤ 10000000000 ∧ ∀ m, m < 60 → (0 : Int) ≤ 0
    exact ⟨by omega, by omega, by omega, fun _ _ => by omega⟩
  · have h1 : sumN (bal st0) 16 = 0 := sumN_zero fun i _ => sumN_zero fun m _ => rfl
    have h2 : sumN (pot st0) 240 ≤ sumN (fun _ => 10000000000) 240 := sumN_le fun c _ => by
      have := hr (c % 4)
      show rt0 (c % 4) * (if (0 : Int) ≤ (c / 4 : Nat) then 1000000000 + 0 else _) ≤ 10000000000
      rw [if_pos (by omega)]
      omega
    rw [sumN_const] at h2
    simp only [mM]
    rw [h1]
    show 2 * ((if (0 : Int) ≤ 0 then (0 : Int) else 0) + 0) + sumN (pot st0) 240 ≤ _
    rw [if_pos (by omega)]
    omega
  · have h1 : sumN (fun i => sA st0 i 0) 16 = 0 := sumN_zero fun i _ => rfl
    simp only [mE]
    rw [h1]
    show _ ≤ (0 : Int) - 0
    omega
theorem inv0 {A Z : sM} (a4 : ∀ k, k < 5 → A.1 4 k 0 0 = oI (g00 k)) (a0 : A.1 0 4 0 0 = 0 ∧ A.1 0 5 0 0 = 0 ∧ A.1 0 3 0 0 = 0) (a19 : ∀ h, h < 24 → A.1 19 0 0 h = 0) (a18 : A.1 18 0 0 0 = 10) (a22 : ∀ c, c < 240 → A.1 22 0 0 c = 0 ∧ A.1 23 0 0 c = 0) (aF : A.2 0 6 0 0 = 0 ∧ A.2 0 7 0 0 = 0) (z27 : ∀ k, k < 1588 → Z.1 27 0 0 k = zr0 k) (z30 : ∀ k, k < 1058 → Z.2 30 0 0 k = 0) (a6 : A.1 6 1 0 0 = 0 ∧ A.1 6 2 0 0 = 0 ∧ Z.1 10 5 0 0 = 0) (aT : A.1 5 1 0 0 = 0 ∧ Z.1 10 8 0 0 = 0 ∧ A.1 9 7 0 0 = Z.1 10 15 0 0) (aD : A.1 2 1 0 0 = 0 ∧ Z.1 10 25 0 0 = 0) : Inv 0 A Z := by
  refine ⟨⟨st0, 0, ⟨a4, ⟨a0.1, a0.2.1, a0.2.2⟩, fun h hh => a19 h hh, fun p hp => ?_, fun i hi => absurd hi (Nat.not_lt_zero i), fun i hi => absurd hi (Nat.not_lt_zero i), fun c hc => a22 c hc, aF, fun i hi => absurd hi (Nat.not_lt_zero i), fun i hi => absurd hi (Nat.not_lt_zero i)⟩, ⟨fun k hk => ?_, fun h hh => ?_, fun p hp => ?_, fun i w hi hw => ?_, fun m i hm hi => ?_, fun c hc => ?_, fun c hc => ?_, fun k hk => z30 k (by omega), fun i w hi hw => z30 _ (by omega), fun i m hi hm => z30 _ (by omega)⟩, WF_st0⟩, ⟨0, 0, fun _ => st0, fun _ => 0, ⟨by omega, by omega, a6.1, a6.2.1, a6.2.2⟩, fun j hj => absurd hj (Nat.not_lt_zero j)⟩, ⟨0, by omega, aT.1, aT.2.1, aT.2.2, fun k hk => absurd hk (Nat.not_lt_zero k)⟩, 0, by omega, aD.1, aD.2, fun k hk => absurd hk (Nat.not_lt_zero k)⟩
  · have hp' : (p : Int) < 1 := hp
    have e : p = 0 := by omega
    rw [e]; exact a18
  · refine (z27 k (by omega)).trans ?_
    show zr0 k = oI (g00 k)
    rw [zr0, g00]
    by_cases q0 : k = 0
    · rw [if_pos q0, if_pos q0]; rfl
    · rw [if_neg q0, if_neg q0]
      by_cases q1 : k = 1
      · rw [if_pos q1, if_pos q1]; rfl
      · rw [if_neg q1, if_neg q1]
        by_cases q2 : k = 2
        · rw [if_pos q2, if_pos q2]; rfl
        · rw [if_neg q2, if_neg q2]
          by_cases q3 : k = 3
          · rw [if_pos q3, if_pos q3]; rfl
          · rw [if_neg q3, if_neg q3]
            by_cases q4 : k = 4
            · rw [if_pos q4, if_pos q4]; rfl
            · rw [if_neg q4, if_neg q4, if_neg (by omega), if_pos (by omega)]; rfl
  · refine (z27 (8 + h) (by omega)).trans ?_
    rw [zr0, if_neg (by omega), if_neg (by omega), if_neg (by omega), if_neg (by omega), if_neg (by omega), if_neg (by omega), if_pos (by omega)]; rfl
  · refine (z27 (32 + p) (by omega)).trans ?_
    show zr0 (32 + p) = oI (rt0 p)
    rw [zr0, if_neg (by omega), if_neg (by omega), if_neg (by omega), if_neg (by omega), if_neg (by omega), rt0]
    by_cases q : p = 0
    · rw [if_pos (by omega), if_pos q]; rfl
    · rw [if_neg (by omega), if_pos (by omega), if_neg q]; rfl
  · refine (z27 (36 + 7 * i + w) (by omega)).trans ?_
    rw [zr0, if_neg (by omega), if_neg (by omega), if_neg (by omega), if_neg (by omega), if_neg (by omega), if_neg (by omega), if_pos (by omega)]; rfl
  · refine (z27 (148 + 16 * m + i) (by omega)).trans ?_
    rw [zr0, if_neg (by omega), if_neg (by omega), if_neg (by omega), if_neg (by omega), if_neg (by omega), if_neg (by omega), if_pos (by omega)]; rfl
  · refine (z27 (1108 + c) (by omega)).trans ?_
    rw [zr0, if_neg (by omega), if_neg (by omega), if_neg (by omega), if_neg (by omega), if_neg (by omega), if_neg (by omega), if_pos (by omega)]; rfl
  · refine (z27 (1348 + c) (by omega)).trans ?_
    rw [zr0, if_neg (by omega), if_neg (by omega), if_neg (by omega), if_neg (by omega), if_neg (by omega), if_neg (by omega), if_neg (by omega)]; rfl
