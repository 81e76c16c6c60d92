section
variable {A Z : sM} {s : sS} {N n : Nat}
theorem pot_co (h2 : W2 s) {m c : Nat} (hc : c < 240) (hm : (m : Int) < sG s 5) : pot (coS s m) c ≤ pot s c ∧ pot (coS s m) c + 2 * (if c / 4 = m then cor s c * sRt s (c % 4) else 0) ≤ pot s c := by
  have hr := h2.2 (c % 4) (by omega)
  by_cases e : c / 4 = m
  · have e1 : coC s m 4 c = -1 := by rw [coC, if_pos (by omega)]
    have e2 : pot (coS s m) c = sRt s (c % 4) * (1000000000 - coE s m 4 c) := by
      show sRt s (c % 4) * (if sG s 5 ≤ (c / 4 : Nat) then 1000000000 + coE s m 4 c else if coC s m 4 c = -1 then 1000000000 - coE s m 4 c else _) = _
      rw [if_neg (by rw [e]; omega), if_pos e1]
    have e3 : pot s c = sRt s (c % 4) * (if sC s c = -1 then 1000000000 - sE s c else if sC s c ≤ sE s c then 1000000000 - sC s c else 1000000000 + sC s c - 2 * sE s c) := by
      rw [pot, if_neg (by rw [e]; omega)]
    rw [e2, e3, if_pos e, cor, coE]
    by_cases q : sC s c = -1
    · rw [if_neg (fun h => h.2 q), if_pos q, if_pos q]; omega
    · rw [if_pos ⟨by omega, q⟩, if_neg q, if_neg q]
      by_cases q2 : sC s c ≤ sE s c
      · rw [if_pos q2]
        have := Int.mul_nonneg (show 0 ≤ sE s c - sC s c by omega) hr.1
        have e9 : (sC s c - sE s c) * sRt s (c % 4) = -((sE s c - sC s c) * sRt s (c % 4)) := by grind
        omega
      · rw [if_neg q2]
        have := Int.mul_nonneg (show 0 ≤ sC s c - sE s c by omega) hr.1
        have e9 : sRt s (c % 4) * (1000000000 + sC s c - 2 * sE s c) = sRt s (c % 4) * (1000000000 - sC s c) + 2 * ((sC s c - sE s c) * sRt s (c % 4)) := by grind
        omega
  · have e2 : pot (coS s m) c = pot s c := by
      show sRt s (c % 4) * (if sG s 5 ≤ (c / 4 : Nat) then 1000000000 + coE s m 4 c else if coC s m 4 c = -1 then 1000000000 - coE s m 4 c else if coC s m 4 c ≤ coE s m 4 c then 1000000000 - coC s m 4 c else 1000000000 + coC s m 4 c - 2 * coE s m 4 c) = _
      rw [show coE s m 4 c = sE s c by rw [coE, if_neg (by omega)], show coC s m 4 c = sC s c by rw [coC, if_neg (by omega)]]
      rfl
    rw [e2, if_neg e]; omega
theorem tu_pot (h1 : W1 s N) (h2 : W2 s) (h6 : W6 s) {m : Nat} (hm : (m : Int) < sG s 5) : sumN (pot (coS s m)) 240 ≤ sumN (pot s) 240 ∧ sumN (pot (coS s m)) 240 + 2 * tuV s m ≤ sumN (pot s) 240 := by
  obtain ⟨_, _, _, _, g4, g5, _⟩ := h1
  refine ⟨sumN_le fun c hc => (pot_co h2 hc hm).1, ?_⟩
  have e1 : sumN (fun c => if c / 4 = m then cor s c * sRt s (c % 4) else 0) 240 = tuV s m := by
    rw [tuV]
    refine sumN_emb (φ := fun k => 4 * m + k) (fun k hk => by omega) (fun j k h _ => by omega) (fun k hk => ?_) (fun j hj hn => ?_)
    · show (if (4 * m + k) / 4 = m then cor s (4 * m + k) * sRt s ((4 * m + k) % 4) else 0) = _
      rw [if_pos (by omega), show (4 * m + k) % 4 = k by omega]
    · show (if j / 4 = m then cor s j * sRt s (j % 4) else 0) = 0
      by_cases q : j / 4 = m
      · have hp : ¬ j % 4 < (sG s 4).toNat := fun q2 => hn _ q2 (by show 4 * m + j % 4 = j; omega)
        have h9 := ((h6.2 m (j % 4) (by omega) (by omega)).2.2 (by omega)).2
        rw [show 4 * m + j % 4 = j by omega] at h9
        rw [if_pos q, cor, if_pos h9, Int.zero_mul]
      · rw [if_neg q]
  have e2 := sumN_le (f := fun c => pot (coS s m) c + 2 * (if c / 4 = m then cor s c * sRt s (c % 4) else 0)) (g := pot s) (n := 240) fun c hc => (pot_co h2 hc hm).2
  rw [sumN_add, sumN_mul, e1] at e2
  exact e2
def TI (n m : Nat) (s : sS) (N : Nat) : Prop := WF (n + 1) s N ∧ 2 * mM s + sumN (pot s) 240 ≤ 48000000000000 + n * 200000000000 ∧ -(n * 200000000000000 : Int) - m * 800000000000 ≤ mE s
theorem TI_s {m : Nat} (hn : n < 512) (h : TI n m s N) (hm : (m : Int) < sG s 5) : TI n (m + 1) (tuS s N m) N ∧ sG (tuS s N m) = sG s := by
  obtain ⟨hW, hM, hE⟩ := h
  obtain ⟨w1, w2, w3, w4, w5, w6, w7, w8⟩ := id hW
  obtain ⟨g0, g1, g2, g3, g4, g5, g6, g7, hN⟩ := id w1
  have hb := tu_bd w1 w2 w6 (m := m) (by omega)
  obtain ⟨hD, hp, hps⟩ := tu_pt hW hm
  obtain ⟨p1, p2⟩ := tu_pot w1 w2 w6 hm
  by_cases e0 : tuV s m = 0
  · rw [tuS, if_pos e0]
    refine ⟨⟨⟨w1, w2, w3, w4, w5, co_w6 w6 hm, w7, W8_m.2 ⟨?_, ?_⟩⟩, ?_, ?_⟩, rfl⟩
    · show 2 * mM s + _ ≤ _
      omega
    · show _ ≤ mE s
      omega
    · show 2 * mM s + _ ≤ _
      omega
    · show _ ≤ mE s
      omega
  · have hW1 : ∀ v, WF (n + 1) (uF (coS s m) (up1 (sF s) 1 v)) N ∧ mM (uF (coS s m) (up1 (sF s) 1 v)) = mM s ∧ mE (uF (coS s m) (up1 (sF s) 1 v)) = mE s := fun v => by
      have a1 : mM (uF (coS s m) (up1 (sF s) 1 v)) = mM s := by
        show (if 0 ≤ up1 (sF s) 1 v 0 then up1 (sF s) 1 v 0 else 0) + sumN (bal s) 16 = _
        rw [up1_n _ _ (by omega)]; rfl
      have a2 : mE (uF (coS s m) (up1 (sF s) 1 v)) = mE s := by
        show up1 (sF s) 1 v 0 - sumN (fun i => sA s i 0) 16 = _
        rw [up1_n _ _ (by omega)]; rfl
      refine ⟨⟨w1, w2, w3, w4, w5, co_w6 w6 hm, w7, W8_m.2 ⟨?_, ?_⟩⟩, a1, a2⟩
      · rw [a1]
        show 2 * mM s + sumN (pot (coS s m)) 240 ≤ _
        omega
      · rw [a2]; omega
    rw [tuS, if_neg e0]
    obtain ⟨q1, q2, q3⟩ := hW1 (sF s 1 + (if 0 < tuV s m then tuP s N m N else -tuP s N m N))
    have hsm := stR_same (decide (0 < tuV s m)) (tuP s N m) N (uF (coS s m) (up1 (sF s) 1 (sF s 1 + (if 0 < tuV s m then tuP s N m N else -tuP s N m N))))
    have hrm := stR_m (decide (0 < tuV s m)) (p := tuP s N m) q1.2.2.2.2.2.2.1 q1.1 (fun j hj => (hp j (by omega)).1) N (Nat.le_refl _)
    have hpe : sumN (pot (stR (decide (0 < tuV s m)) (tuP s N m) N (uF (coS s m) (up1 (sF s) 1 (sF s 1 + (if 0 < tuV s m then tuP s N m N else -tuP s N m N)))))) 240 = sumN (pot (coS s m)) 240 := by rw [same_pot hsm]; rfl
    have hpn : 0 ≤ sumN (tuP s N m) N := sumN_nonneg fun j hj => (hp j (by omega)).1
    rw [q2, q3] at hrm
    by_cases e1 : 0 < tuV s m
    · rw [if_pos (decide_eq_true e1), if_pos (decide_eq_true e1)] at hrm
      rw [if_pos e1] at hps
      refine ⟨⟨stR_W _ q1 (fun j hj => (hp j (by omega)).1) ?_ ?_, ?_, ?_⟩, hsm.1⟩
      · rw [q2, if_pos (decide_eq_true e1)]
        show 2 * (mM s + sumN (tuP s N m) N) + sumN (pot (coS s m)) 240 ≤ _
        omega
      · rw [q3, if_pos (decide_eq_true e1)]; omega
      · rw [hpe]; omega
      · omega
    · rw [if_neg (show ¬ (decide (0 < tuV s m) = true) by simp [e1]), if_neg (show ¬ (decide (0 < tuV s m) = true) by simp [e1])] at hrm
      rw [if_neg e1] at hps
      refine ⟨⟨stR_W _ q1 (fun j hj => (hp j (by omega)).1) ?_ ?_, ?_, ?_⟩, hsm.1⟩
      · rw [q2, if_neg (show ¬ (decide (0 < tuV s m) = true) by simp [e1])]
        show 2 * (mM s + 0) + sumN (pot (coS s m)) 240 ≤ _
        omega
      · rw [q3, if_neg (show ¬ (decide (0 < tuV s m) = true) by simp [e1])]; omega
      · rw [hpe]; omega
      · omega
theorem tru_L (hn : n < 512) : ∀ (d m : Nat) (x : Int) (A Z : sM) (s : sS), sG s 5 = m + d → SR A 0 s N → ZR (zA Z) (zB Z) s → TI n m s N → ∃ A' Z' s' x', Fr mvA A A' ∧ Fr mvZ Z Z' ∧ SR A' 0 s' N ∧ ZR (zA Z') (zB Z') s' ∧ WF (n + 1) s' N ∧ Z'.1 10 6 0 0 = Z.1 10 6 0 0 ∧ (∀ kk fuel, d < fuel → fX9_trueUp_L15 kk fuel (oL x) (oI m) A = kk (oL x') A') ∧ (∀ kk fuel, d < fuel → fX10_trueUp_L13 kk fuel (oL x) (oI m) Z = kk (oL x') Z') := by
  intro d
  induction d with
  | zero =>
    intro m x A Z s h5 hS hZ hT
    have g5 := hT.1.1.2.2.2.2.2.1
    have e5 : Z.1 27 0 0 5 = oI (sG s 5) := hZ.g (by omega)
    refine ⟨A, Z, s, x, Fr.refl _, Fr.refl _, hS, hZ, hT.1, rfl, fun kk fuel hf => ?_, fun kk fuel hf => ?_⟩
    · obtain ⟨f, rfl⟩ : ∃ f, fuel = f + 1 := ⟨fuel - 1, by omega⟩
      rw [fX9_trueUp_L15, hS.mon, if_pos (by simp (disch := omega) only [oI_lt, oI_le, oI_eq, oL_lt, oL_le, oL_eq, oI_L, oI_clamp, oI_inb, oL_nz]; omega)]
    · obtain ⟨f, rfl⟩ : ∃ f, fuel = f + 1 := ⟨fuel - 1, by omega⟩
      rw [fX10_trueUp_L13, tn_5, e5, if_pos (by simp (disch := omega) only [oI_lt, oI_le, oI_eq, oL_lt, oL_le, oL_eq, oI_L, oI_clamp, oI_inb, oL_nz]; omega)]
  | succ d ih =>
    intro m x A Z s h5 hS hZ hT
    obtain ⟨A1, a1, a2, a3⟩ := tuA (by omega) hS hT.1 (m := m) (by omega) x
    obtain ⟨Z1, b1, b2, b3, b4⟩ := tuZ (by omega) hZ hT.1 (m := m) (by omega) x
    obtain ⟨c1, c2⟩ := TI_s hn hT (by omega)
    obtain ⟨A', Z', s', x', q1, q2, q3, q4, q5, q6, q7, q8⟩ := ih (m + 1) (x + tuV s m) A1 Z1 (tuS s N m) (by rw [c2, h5]; omega) a2 b2 c1
    refine ⟨A', Z', s', x', a1.trans q1, b1.trans q2, q3, q4, q5, q6.trans b3, fun kk fuel hf => ?_, fun kk fuel hf => ?_⟩
    · obtain ⟨f, rfl⟩ : ∃ f, fuel = f + 1 := ⟨fuel - 1, by omega⟩
      rw [a3]; exact q7 kk f (by omega)
    · obtain ⟨f, rfl⟩ : ∃ f, fuel = f + 1 := ⟨fuel - 1, by omega⟩
      rw [b4]; exact q8 kk f (by omega)
end
theorem tru {n : Nat} {A Z : sM} (hn : n < 512) (hI : Inv n A Z) : ∃ A' Z' x', fX9_trueUp A = some (.inr (oL x'), A') ∧ fX10_trueUp Z = some (oL x', Z') ∧ Inv (n + 1) A' Z' := by
  obtain ⟨⟨s, N, hS, hZ, hW⟩, hR⟩ := id hI
  obtain ⟨w1, w2, w3, w4, w5, w6, w7, w8⟩ := id hW
  obtain ⟨g0, g1, g2, g3, g4, g5, g6, g7, hN⟩ := id w1
  obtain ⟨A1, Z1, k1, k2, k3, k4, k5, k6, k7⟩ := keep0 ⟨hS, hZ, hW⟩ hR
  have k2' : fX10_keeps (wI Z 10 6 0 0 (0 : Int32)) = some Z1 := k2
  have h8 := W8_m.1 w8
  obtain ⟨A', Z', s', x', q1, q2, q3, q4, q5, q6, q7, q8⟩ := tru_L hn (sG s 5).toNat 0 0 A1 Z1 s (by omega) k3 k4 ⟨hW.mono (by omega), h8.1, by omega⟩
  refine ⟨A', Z', x', ?_, ?_, Inv.mv k5 q1 q2 q3 q4 q5⟩
  · rw [fX9_trueUp, k1, bd_eq]
    exact q7 _ 10000 (by omega)
  · rw [fX10_trueUp, ltb_eq, k2', bd_eq]
    exact q8 _ 10000 (by omega)
theorem case38 : CaseOK fL_case38 := by
  intro n L A Z xs x4 hn hI hin
  obtain ⟨A', Z', x', h1, h2, h3⟩ := tru hn hI
  refine ⟨A', Z', ?_, h3⟩
  rw [fL_case38, h1, xc_val, h2, bd2_eq, if_pos rfl]
