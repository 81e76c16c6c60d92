section
variable {s t : sS} {N n i : Nat} {p c : Nat → Int}
theorem em_row {c : Int} (hs : same t s) (hA : ∀ w, sA t i w = sA s i w) (hT : ∀ m, sT t i m = sT s i m) : (∀ w, emA t i c i w = emA s i c i w) ∧ ∀ m, emT t i c i m = emT s i c i m := by
  have eA : sA t i = sA s i := funext hA
  have eT : sT t i = sT s i := funext hT
  have e1 : eT1 t i c = eT1 s i c := by rw [eT1, eT1, eA, eT, hs.1]
  have e2 : eL t i c = eL s i c := by rw [eL, eL, e1, eA]
  have e3 : eX t i c = eX s i c := by rw [eX, eX, e1, eA, hs.1]
  refine ⟨fun w => ?_, fun m => ?_⟩
  · rw [emA, emA, if_pos rfl, if_pos rfl, e2, e3, eA]
  · rw [emT, emT, hs.1, e1, eA, hT m]
theorem emQ_row (c : Nat → Int) : ∀ (k : Nat) (s : sS) (j : Nat), j < k → sB s j 3 = 1 → (∀ w, sA (emQ c k s) j w = emA s j (c j) j w) ∧ ∀ m, sT (emQ c k s) j m = emT s j (c j) j m
  | k + 1, s, j, hj, ha => by
    by_cases e : j = k
    · subst e
      have h1 := emQ_hi c j s j (Nat.le_refl _)
      rw [emQ, if_pos ha]
      exact em_row (emQ_same c j s) h1.1 h1.2
    · have h1 := emQ_row c k s j (by omega) ha
      rw [emQ]
      split
      · refine ⟨fun w => ?_, fun m => ?_⟩
        · show emA (emQ c k s) k (c k) j w = _
          rw [emA, if_neg e]; exact h1.1 w
        · show emT (emQ c k s) k (c k) j m = _
          rw [emT, if_neg (fun q => e q.1)]; exact h1.2 m
      · exact h1
theorem emQ_no (c : Nat → Int) : ∀ (k : Nat) (s : sS) (j : Nat), ¬ sB s j 3 = 1 → (∀ w, sA (emQ c k s) j w = sA s j w) ∧ ∀ m, sT (emQ c k s) j m = sT s j m
  | 0, s, j, _ => ⟨fun _ => rfl, fun _ => rfl⟩
  | k + 1, s, j, ha => by
    have h1 := emQ_no c k s j ha
    rw [emQ]
    split
    · rename_i q
      have e : ¬ j = k := fun e => ha (e ▸ q)
      refine ⟨fun w => ?_, fun m => ?_⟩
      · show emA (emQ c k s) k (c k) j w = _
        rw [emA, if_neg e]; exact h1.1 w
      · show emT (emQ c k s) k (c k) j m = _
        rw [emT, if_neg (fun q => e q.1)]; exact h1.2 m
    · exact h1
theorem eT1_nn {c : Int} (hc : 0 ≤ c) (hT : ∀ k, k < 60 → 0 ≤ sT t i k) (h5 : 0 ≤ sG t 5 ∧ sG t 5 < 60) : ∀ k, k < 60 → 0 ≤ eT1 t i c k := fun k hk => by
  have h1 := hT k hk
  have h2 := hT (sG t 5).toNat (by omega)
  have h3 := mn_le (sA t i 0) c
  rw [eT1, mT1, up1]
  split <;> omega
theorem emS_m {c : Int} (hi : i < 16) (hc : 0 ≤ c) (hA0 : 0 ≤ sA t i 0) (hA1 : 0 ≤ sA t i 1) (hT : ∀ k, k < 60 → 0 ≤ sT t i k) (h5 : 0 ≤ sG t 5 ∧ sG t 5 < 60) : mM (emS t i c) ≤ mM t + c ∧ mE t ≤ mE (emS t i c) := by
  have hU := mn_nn hA0 hc
  have hn := eT1_nn (t := t) (i := i) hc hT h5
  have hL := rmn_bd hA1 hn
  have hp : ∀ k, k < 60 → 0 ≤ payd (eT1 t i c) (sA t i 1) k := fun k hk => (payd_bd hA1 (fun j hj => hn j (by omega))).1
  have hX : 0 ≤ eX t i c := by
    rw [eX]
    split
    · exact hp _ (by omega)
    · omega
  have s1 : sumN (eT1 t i c) 60 = bal t i + (c - mn (sA t i 0) c) := by
    rw [sumN_up (f := fun m => sT t i m) (g := eT1 t i c) (show (sG t 5).toNat < 60 by omega) (fun k hk hn => up1_n _ _ hn), show eT1 t i c (sG t 5).toNat = _ from up1_s _ _ _]
    show bal t i + _ = _
    omega
  have s2 := payd_sum (eT1 t i c) (sA t i 1) 60
  have s3 : bal (emS t i c) i = sumN (payd (eT1 t i c) (sA t i 1)) 60 - eX t i c := by
    show sumN (fun k => emT t i c i k) 60 = _
    by_cases q : sG t 1 ≤ sG t 5
    · rw [sumN_up (f := payd (eT1 t i c) (sA t i 1)) (g := fun k => emT t i c i k) (show (sG t 5).toNat - (sG t 1).toNat < 60 by omega) (fun k hk hn => by rw [emT, if_pos ⟨rfl, hk⟩, if_neg (fun h => hn h.2)]), show emT t i c i ((sG t 5).toNat - (sG t 1).toNat) = 0 by rw [emT, if_pos ⟨rfl, by omega⟩, if_pos ⟨q, rfl⟩], eX, if_pos q]
      omega
    · rw [eX, if_neg q, sumN_congr (g := payd (eT1 t i c) (sA t i 1)) (fun k hk => by rw [emT, if_pos ⟨rfl, hk⟩, if_neg (fun h => q h.1)])]
      omega
  constructor
  · simp only [mM]
    rw [sumN_up (f := bal t) (g := bal (emS t i c)) hi (fun j hj hn => sumN_congr fun m hm => by
      show emT t i c j m = _
      rw [emT, if_neg (fun q => hn q.1)]), s3, s2, s1]
    show (if 0 ≤ up1 (sF t) 0 (sF t 0 + eX t i c) 0 then up1 (sF t) 0 (sF t 0 + eX t i c) 0 else 0) + _ ≤ _
    rw [up1_s]
    split <;> split <;> omega
  · simp only [mE]
    rw [sumN_up (f := fun j => sA t j 0) (g := fun j => sA (emS t i c) j 0) hi (fun j hj hn => by
      show emA t i c j 0 = _
      rw [emA, if_neg hn])]
    show _ ≤ up1 (sF t) 0 (sF t 0 + eX t i c) 0 - (_ + (emA t i c i 0 - sA t i 0))
    rw [up1_s, show emA t i c i 0 = sA t i 0 - mn (sA t i 0) c by rw [emA, if_pos rfl, mA, if_pos rfl]]
    omega
theorem emR_m (hN : N ≤ 16) (h5 : 0 ≤ sG s 5 ∧ sG s 5 < 60) (hB : emB s N c) (hp : ∀ j, j < N → 0 ≤ p j) : ∀ k : Nat, k ≤ N → mM (emR p c k s) ≤ mM s + sumN (fun j => if sB s j 3 = 1 then c j else p j) k ∧ mE s ≤ mE (emR p c k s)
  | 0, _ => ⟨by rw [emR, sumN]; omega, Int.le_refl _⟩
  | k + 1, hk => by
    obtain ⟨i1, i2⟩ := emR_m hN h5 hB hp k (by omega)
    have hhi := emR_hi p c k s k (Nat.le_refl _)
    obtain ⟨b1, b2, b3⟩ := hB k (by omega)
    rw [emR, sumN]
    by_cases q : sB s k 3 = 1
    · rw [if_pos q, if_pos q]
      obtain ⟨j1, j2⟩ := emS_m (t := emR p c k s) (i := k) (c := c k) (by omega) b1.1 (by rw [hhi.1 0]; exact b3.1) (by rw [hhi.1 1]; exact b3.2.2.1) (fun m hm => by rw [hhi.2 m]; exact (b2 m hm).1) (by rw [(emR_same p c k s).1]; exact h5)
      exact ⟨by omega, by omega⟩
    · rw [if_neg q, if_neg q]
      have hpk := hp k (by omega)
      constructor
      · refine Int.le_trans (b := mM (emR p c k s) + p k) ?_ (by omega)
        simp only [mM]
        show (if 0 ≤ up1 (sF (emR p c k s)) 0 (sF (emR p c k s) 0 + p k) 0 then up1 (sF (emR p c k s)) 0 (sF (emR p c k s) 0 + p k) 0 else 0) + sumN (bal (emR p c k s)) 16 ≤ _
        rw [up1_s]
        split <;> split <;> omega
      · refine Int.le_trans i2 ?_
        simp only [mE]
        show _ ≤ up1 (sF (emR p c k s)) 0 (sF (emR p c k s) 0 + p k) 0 - sumN (fun i => sA (emR p c k s) i 0) 16
        rw [up1_s]
        omega
/-- the new month -/
def nxM (s : sS) : sS := uG s (up1 (up1 (sG s) 5 (sG s 5 + 1)) 6 0)
theorem nx_pot (h1 : W1 s N) (h2 : W2 s) (h6 : W6 s) : sumN (pot (nxM s)) 240 + 2 * worth s (sG s 5).toNat ≤ sumN (pot s) 240 := by
  obtain ⟨_, _, _, _, g4, g5, _⟩ := h1
  have e5 : sG (nxM s) 5 = sG s 5 + 1 := by
    show up1 (up1 (sG s) 5 (sG s 5 + 1)) 6 0 5 = _
    rw [up1_n _ _ (by omega), up1_s]
  have e1 : sumN (fun c => if c / 4 = (sG s 5).toNat then sE s c * sRt s (c % 4) else 0) 240 = worth s (sG s 5).toNat := by
    rw [worth]
    refine sumN_emb (φ := fun k => 4 * (sG s 5).toNat + k) (fun k hk => by omega) (fun j k h _ => by omega) (fun k hk => ?_) (fun j hj hn => ?_)
    · show (if (4 * (sG s 5).toNat + k) / 4 = (sG s 5).toNat then sE s (4 * (sG s 5).toNat + k) * sRt s ((4 * (sG s 5).toNat + k) % 4) else 0) = _
      rw [if_pos (by omega), show (4 * (sG s 5).toNat + k) % 4 = k by omega]
    · show (if j / 4 = (sG s 5).toNat then sE s j * sRt s (j % 4) else 0) = 0
      by_cases q : j / 4 = (sG s 5).toNat
      · have hp : ¬ j % 4 < (sG s 4).toNat := fun q2 => hn _ q2 (by show 4 * (sG s 5).toNat + j % 4 = j; omega)
        have h9 := ((h6.2 (sG s 5).toNat (j % 4) (by omega) (by omega)).2.2 (by omega)).1
        rw [show 4 * (sG s 5).toNat + j % 4 = j by omega] at h9
        rw [if_pos q, h9, Int.zero_mul]
      · rw [if_neg q]
  have e2 := sumN_le (f := fun c => pot (nxM s) c + 2 * (if c / 4 = (sG s 5).toNat then sE s c * sRt s (c % 4) else 0)) (g := pot s) (n := 240) fun c hc => by
    have hr := h2.2 (c % 4) (by omega)
    have e3 : pot (nxM s) c = sRt s (c % 4) * (if sG s 5 + 1 ≤ (c / 4 : Nat) then 1000000000 + sE s c else if sC s c = -1 then 1000000000 - sE s c else if sC s c ≤ sE s c then 1000000000 - sC s c else 1000000000 + sC s c - 2 * sE s c) := by
      rw [← e5]; rfl
    rw [e3, pot]
    by_cases q : c / 4 = (sG s 5).toNat
    · have h9 := (h6.2 (sG s 5).toNat (c % 4) (by omega) (by omega)).2.1 (by omega)
      rw [show 4 * (sG s 5).toNat + c % 4 = c by omega] at h9
      rw [if_neg (by omega), if_pos h9, if_pos q, if_pos (by omega)]
      have e9 : sRt s (c % 4) * (1000000000 + sE s c) = sRt s (c % 4) * (1000000000 - sE s c) + 2 * (sE s c * sRt s (c % 4)) := by grind
      omega
    · rw [if_neg (c := c / 4 = (sG s 5).toNat) q]
      by_cases q2 : sG s 5 + 1 ≤ (c / 4 : Nat)
      · rw [if_pos q2, if_pos (by omega)]; omega
      · rw [if_neg q2, if_neg (c := sG s 5 ≤ ((c / 4 : Nat) : Int)) (by omega)]; omega
  rw [sumN_add, sumN_mul, e1] at e2
  exact e2
end
