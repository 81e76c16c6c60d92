/-! Assignments. -/
theorem inj_le : ∀ (n m : Nat) (f : Nat → Nat), (∀ a b, a < m → b < m → f a = f b → a = b) → (∀ a, a < m → f a < n) → m ≤ n
  | 0, m, f, _, h => by
    cases m with
    | zero => omega
    | succ m => have := h 0 (by omega); omega
  | n + 1, m, f, hi, h => by
    by_cases e : ∃ a0, a0 < m ∧ f a0 = n
    · obtain ⟨a0, h0, e0⟩ := e
      have := inj_le n (m - 1) (fun a => if a < a0 then f a else f (a + 1)) (fun a b ha hb q => by
        by_cases q1 : a < a0 <;> by_cases q2 : b < a0
        · rw [if_pos q1, if_pos q2] at q; exact hi a b (by omega) (by omega) q
        · rw [if_pos q1, if_neg q2] at q; have := hi a (b + 1) (by omega) (by omega) q; omega
        · rw [if_neg q1, if_pos q2] at q; have := hi (a + 1) b (by omega) (by omega) q; omega
        · rw [if_neg q1, if_neg q2] at q; have := hi (a + 1) (b + 1) (by omega) (by omega) q; omega) (fun a ha => by
        by_cases q1 : a < a0
        · rw [if_pos q1]
          have q2 := h a (by omega)
          have q3 : ¬ f a = n := fun q => by have := hi a a0 (by omega) h0 (by omega); omega
          omega
        · rw [if_neg q1]
          have q2 := h (a + 1) (by omega)
          have q3 : ¬ f (a + 1) = n := fun q => by have := hi (a + 1) a0 (by omega) h0 (by omega); omega
          omega)
      omega
    · have := inj_le n m f hi (fun a ha => by
        have q2 := h a ha
        have q3 : ¬ f a = n := fun q => e ⟨a, ha, q⟩
        omega)
      omega
/-- where credits come to, step by step -/
def pth (s : sS) (k : Int) : Nat → Int
  | 0 => k
  | j + 1 => if pth s k j < 0 then -1 else sB s (pth s k j).toNat 5
section
variable {A Z : sM} {s : sS} {N n : Nat} {d : Nat → Nat}
theorem pth_rg (hA : AS (toS s) (pcS s) N d) {k : Nat} (hk : k < N) : ∀ j : Nat, pth s k j = -1 ∨ ∃ q : Nat, q < N ∧ pth s k j = q
  | 0 => Or.inr ⟨k, hk, rfl⟩
  | j + 1 => by
    rcases pth_rg hA hk j with h | ⟨q, hq, h⟩
    · left; rw [pth, h]; rfl
    · rw [pth, h, if_neg (by omega), cl_nat]
      rcases hA q hq with e | ⟨t, ht, e, -⟩
      · exact Or.inl e
      · exact Or.inr ⟨t, ht, e⟩
theorem pth_dn (hA : AS (toS s) (pcS s) N d) {k : Nat} (hk : k < N) {j : Nat} (h : 0 ≤ pth s k (j + 1)) : 0 ≤ pth s k j ∧ d (pth s k (j + 1)).toNat < d (pth s k j).toNat := by
  rcases pth_rg hA hk j with e | ⟨q, hq, e⟩
  · rw [pth, e] at h; simp at h
  · rw [pth, e, if_neg (by omega), cl_nat] at h
    refine ⟨by omega, ?_⟩
    rcases hA q hq with e2 | ⟨t, ht, e2, e3, -⟩
    · have : sB s q 5 = -1 := e2
      omega
    · have e4 : sB s q 5 = (t : Int) := e2
      rw [pth, e, if_neg (by omega), cl_nat, e4, cl_nat]
      exact e3
theorem pth_mono (hA : AS (toS s) (pcS s) N d) {k : Nat} (hk : k < N) : ∀ {j i : Nat}, 0 ≤ pth s k j → i < j → 0 ≤ pth s k i ∧ d (pth s k j).toNat < d (pth s k i).toNat
  | j + 1, i, h, hi => by
    have h1 := pth_dn hA hk h
    by_cases e : i = j
    · rw [e]; exact h1
    · have h2 := pth_mono hA hk (j := j) (i := i) h1.1 (by omega)
      exact ⟨h2.1, by omega⟩
/-- a way is no longer than there are members -/
theorem pth_lt (hA : AS (toS s) (pcS s) N d) {k : Nat} (hk : k < N) {j : Nat} (h : 0 ≤ pth s k j) : j < N := by
  have := inj_le N (j + 1) (fun i => (pth s k i).toNat) (fun a b ha hb q => by
    by_cases e1 : a < b
    · have hb0 : 0 ≤ pth s k b := by
        by_cases e : b = j
        · rw [e]; exact h
        · exact (pth_mono hA hk h (by omega)).1
      have := (pth_mono hA hk hb0 e1).2
      rw [q] at this; omega
    · by_cases e2 : b < a
      · have ha0 : 0 ≤ pth s k a := by
          by_cases e : a = j
          · rw [e]; exact h
          · exact (pth_mono hA hk h (by omega)).1
        have := (pth_mono hA hk ha0 e2).2
        rw [q] at this; omega
      · omega) (fun a ha => by
    have h0 : 0 ≤ pth s k a := by
      by_cases e : a = j
      · rw [e]; exact h
      · exact (pth_mono hA hk h (by omega)).1
    rcases pth_rg hA hk a with e | ⟨q, hq, e⟩
    · omega
    · rw [e, cl_nat]; exact hq)
  omega
theorem pon_L (hS : SR A 0 s N) (hN : N ≤ 16) (hA : AS (toS s) (pcS s) N d) {k i : Nat} (hk : k < N) (hi : i < N) (x y : Option Int32) : ∀ (fuel j : Nat), j ≤ 16 → 16 - j < fuel → (∀ j', j' < j → ¬ pth s k j' = i) → ((∃ j', j' < 16 ∧ pth s k j' = i) → fX0_passesOnTo_L5 0 (oI i) A x y fuel (oI (pth s k j)) (oI j) = x) ∧ (¬ (∃ j', j' < 16 ∧ pth s k j' = i) → fX0_passesOnTo_L5 0 (oI i) A x y fuel (oI (pth s k j)) (oI j) = y) := by
  intro fuel
  induction fuel with
  | zero => intro j _ h; omega
  | succ fuel ih =>
    intro j hj hf hn
    rw [fX0_passesOnTo_L5, hS.cnt]
    by_cases e : j = 16
    · refine ⟨fun ⟨j', h1, h2⟩ => absurd h2 (hn j' (by omega)), fun _ => ?_⟩
      rw [if_pos (by simp (disch := omega) only [kI_0, kI_1, kI_2, kI_3, kI_4, kI_5, kI_6, kI_7, kI_8, kI_9, kI_10, kI_12, kI_16, kI_17, kI_19, kI_20, kI_23, kI_24, kI_30, kI_32, kI_36, kI_48, kI_57, kI_59, kI_60, kI_72, kI_80, kI_84, kI_97, kI_98, kI_100, kI_122, kI_148, kI_200, kI_300, kI_1058, kI_1108, kI_1348, kI_1588, kI_5290, kI_7940, kI_100000, kI_e7, kI_e9, kL_0, kL_1, kL_5, kL_9, kL_10, kL_12, kL_23, kL_30, kL_48, kL_57, kL_59, kL_97, kL_100, kL_122, kL_1000, kL_e7, kL_e9, kL_e10, oI_lt, oI_le, oI_eq, oL_lt, oL_le, oL_eq, oI_L, oI_clamp, oI_inb, oL_nz]; omega)]
    · rw [if_neg (by simp (disch := omega) only [kI_0, kI_1, kI_2, kI_3, kI_4, kI_5, kI_6, kI_7, kI_8, kI_9, kI_10, kI_12, kI_16, kI_17, kI_19, kI_20, kI_23, kI_24, kI_30, kI_32, kI_36, kI_48, kI_57, kI_59, kI_60, kI_72, kI_80, kI_84, kI_97, kI_98, kI_100, kI_122, kI_148, kI_200, kI_300, kI_1058, kI_1108, kI_1348, kI_1588, kI_5290, kI_7940, kI_100000, kI_e7, kI_e9, kL_0, kL_1, kL_5, kL_9, kL_10, kL_12, kL_23, kL_30, kL_48, kL_57, kL_59, kL_97, kL_100, kL_122, kL_1000, kL_e7, kL_e9, kL_e10, oI_lt, oI_le, oI_eq, oL_lt, oL_le, oL_eq, oI_L, oI_clamp, oI_inb, oL_nz]; omega)]
      rcases pth_rg hA hk j with e2 | ⟨q, hq, e2⟩
      · have hno : ¬ ∃ j', j' < 16 ∧ pth s k j' = i := by
          rintro ⟨j', h1, h2⟩
          by_cases e3 : j' < j
          · exact hn j' e3 h2
          · by_cases e4 : j' = j
            · rw [e4, e2] at h2; omega
            · have := (pth_mono hA hk (j := j') (i := j) (by omega) (by omega)).1
              omega
        refine ⟨fun h => absurd h hno, fun _ => ?_⟩
        rw [e2, if_pos (by decide)]
      · rw [e2, if_neg (by simp (disch := omega) only [kI_0, kI_1, kI_2, kI_3, kI_4, kI_5, kI_6, kI_7, kI_8, kI_9, kI_10, kI_12, kI_16, kI_17, kI_19, kI_20, kI_23, kI_24, kI_30, kI_32, kI_36, kI_48, kI_57, kI_59, kI_60, kI_72, kI_80, kI_84, kI_97, kI_98, kI_100, kI_122, kI_148, kI_200, kI_300, kI_1058, kI_1108, kI_1348, kI_1588, kI_5290, kI_7940, kI_100000, kI_e7, kI_e9, kL_0, kL_1, kL_5, kL_9, kL_10, kL_12, kL_23, kL_30, kL_48, kL_57, kL_59, kL_97, kL_100, kL_122, kL_1000, kL_e7, kL_e9, kL_e10, oI_lt, oI_le, oI_eq, oL_lt, oL_le, oL_eq, oI_L, oI_clamp, oI_inb, oL_nz]; omega), if_neg (by simp (disch := omega) only [oI_lt, oI_le, oI_eq, oL_lt, oL_le, oL_eq, oI_L, oI_clamp, oI_inb, oL_nz]; omega)]
        by_cases e3 : q = i
        · refine ⟨fun _ => ?_, fun h => absurd ⟨j, by omega, by rw [e2, e3]⟩ h⟩
          rw [if_pos (by rw [e3])]
        · have hp1 : pth s k (j + 1) = sB s q 5 := by rw [pth, e2, if_neg (by omega), cl_nat]
          have := ih (j + 1) (by omega) (by omega) (fun j' hj' => by
            by_cases e4 : j' = j
            · rw [e4, e2]; omega
            · exact hn j' (by omega))
          rw [if_neg (by simp (disch := omega) only [oI_lt, oI_le, oI_eq, oL_lt, oL_le, oL_eq, oI_L, oI_clamp, oI_inb, oL_nz]; omega), oI_inb (by omega) (by omega) (by omega), gd_true, oI_clamp (by omega) (by omega), cl_nat, hS.to hq, ltb_eq, ltb_eq, kI_1, oI_add, nat1, ← hp1]
          exact this
theorem cto_L (hZ : ZR (zA Z) (zB Z) s) (hN : N ≤ 16) (hA : AS (toS s) (pcS s) N d) {k i : Nat} (hk : k < N) (hi : i < N) (kk : Int32 → Option Int32) : ∀ (fuel j : Nat), j ≤ 16 → 16 - j < fuel → (∀ j', j' < j → ¬ pth s k j' = i) → ((∃ j', j' < 16 ∧ pth s k j' = i) → fX10_comesTo_L5 (oI i) Z kk fuel (oI (pth s k j)) (oI j) = kk (oI i)) ∧ (¬ (∃ j', j' < 16 ∧ pth s k j' = i) → fX10_comesTo_L5 (oI i) Z kk fuel (oI (pth s k j)) (oI j) = kk (oI (-1))) := by
  intro fuel
  induction fuel with
  | zero => intro j _ h; omega
  | succ fuel ih =>
    intro j hj hf hn
    rw [fX10_comesTo_L5]
    by_cases e : j = 16
    · have hm1 : pth s k j = -1 := by
        rcases pth_rg hA hk j with e2 | ⟨q, hq, e2⟩
        · exact e2
        · have := pth_lt hA hk (j := j) (by omega); omega
      refine ⟨fun ⟨j', h1, h2⟩ => absurd h2 (hn j' (by omega)), fun _ => ?_⟩
      rw [if_pos (by simp (disch := omega) only [kI_0, kI_1, kI_2, kI_3, kI_4, kI_5, kI_6, kI_7, kI_8, kI_9, kI_10, kI_12, kI_16, kI_17, kI_19, kI_20, kI_23, kI_24, kI_30, kI_32, kI_36, kI_48, kI_57, kI_59, kI_60, kI_72, kI_80, kI_84, kI_97, kI_98, kI_100, kI_122, kI_148, kI_200, kI_300, kI_1058, kI_1108, kI_1348, kI_1588, kI_5290, kI_7940, kI_100000, kI_e7, kI_e9, kL_0, kL_1, kL_5, kL_9, kL_10, kL_12, kL_23, kL_30, kL_48, kL_57, kL_59, kL_97, kL_100, kL_122, kL_1000, kL_e7, kL_e9, kL_e10, oI_lt, oI_le, oI_eq, oL_lt, oL_le, oL_eq, oI_L, oI_clamp, oI_inb, oL_nz]; omega), hm1]
    · rw [if_neg (by simp (disch := omega) only [kI_0, kI_1, kI_2, kI_3, kI_4, kI_5, kI_6, kI_7, kI_8, kI_9, kI_10, kI_12, kI_16, kI_17, kI_19, kI_20, kI_23, kI_24, kI_30, kI_32, kI_36, kI_48, kI_57, kI_59, kI_60, kI_72, kI_80, kI_84, kI_97, kI_98, kI_100, kI_122, kI_148, kI_200, kI_300, kI_1058, kI_1108, kI_1348, kI_1588, kI_5290, kI_7940, kI_100000, kI_e7, kI_e9, kL_0, kL_1, kL_5, kL_9, kL_10, kL_12, kL_23, kL_30, kL_48, kL_57, kL_59, kL_97, kL_100, kL_122, kL_1000, kL_e7, kL_e9, kL_e10, oI_lt, oI_le, oI_eq, oL_lt, oL_le, oL_eq, oI_L, oI_clamp, oI_inb, oL_nz]; omega)]
      rcases pth_rg hA hk j with e2 | ⟨q, hq, e2⟩
      · have hno : ¬ ∃ j', j' < 16 ∧ pth s k j' = i := by
          rintro ⟨j', h1, h2⟩
          by_cases e3 : j' < j
          · exact hn j' e3 h2
          · by_cases e4 : j' = j
            · rw [e4, e2] at h2; omega
            · have := (pth_mono hA hk (j := j') (i := j) (by omega) (by omega)).1
              omega
        refine ⟨fun h => absurd h hno, fun _ => ?_⟩
        rw [e2, if_neg (by simp (disch := omega) only [oI_lt, oI_le, oI_eq, oL_lt, oL_le, oL_eq, oI_L, oI_clamp, oI_inb, oL_nz]; omega), if_pos (show oI (-1) = (-1 : Int32) from rfl)]
      · rw [e2]
        by_cases e3 : q = i
        · refine ⟨fun _ => ?_, fun h => absurd ⟨j, by omega, by rw [e2, e3]⟩ h⟩
          rw [if_pos (by rw [e3]), e3]
        · have hp1 : pth s k (j + 1) = sB s q 5 := by rw [pth, e2, if_neg (by omega), cl_nat]
          have := ih (j + 1) (by omega) (by omega) (fun j' hj' => by
            by_cases e4 : j' = j
            · rw [e4, e2]; omega
            · exact hn j' (by omega))
          rw [if_neg (by simp (disch := omega) only [oI_lt, oI_le, oI_eq, oL_lt, oL_le, oL_eq, oI_L, oI_clamp, oI_inb, oL_nz]; omega), if_neg (by simp (disch := omega) only [kI_0, kI_1, kI_2, kI_3, kI_4, kI_5, kI_6, kI_7, kI_8, kI_9, kI_10, kI_12, kI_16, kI_17, kI_19, kI_20, kI_23, kI_24, kI_30, kI_32, kI_36, kI_48, kI_57, kI_59, kI_60, kI_72, kI_80, kI_84, kI_97, kI_98, kI_100, kI_122, kI_148, kI_200, kI_300, kI_1058, kI_1108, kI_1348, kI_1588, kI_5290, kI_7940, kI_100000, kI_e7, kI_e9, kL_0, kL_1, kL_5, kL_9, kL_10, kL_12, kL_23, kL_30, kL_48, kL_57, kL_59, kL_97, kL_100, kL_122, kL_1000, kL_e7, kL_e9, kL_e10, oI_add, oI_sub, oI_mul, oI_neg, oL_add, oL_sub, oL_mul, oL_neg, oL_I, oI_lt, oI_le, oI_eq, oL_lt, oL_le, oL_eq, oI_L, oI_clamp, oI_inb, oL_nz]; omega), kI_5, ofM5 hZ (by omega), bd_eq, ltb_eq, kI_1, oI_add, nat1, ← hp1]
          exact this
theorem pon (hS : SR A 0 s N) (hN : N ≤ 16) (hA : AS (toS s) (pcS s) N d) {k i : Nat} (hk : k < N) (hi : i < N) : ((∃ j', j' < 16 ∧ pth s k j' = i) → fX0_passesOnTo 0 (oI k) (oI i) A = some (oI 1)) ∧ (¬ (∃ j', j' < 16 ∧ pth s k j' = i) → fX0_passesOnTo 0 (oI k) (oI i) A = some (oI 0)) := by
  have := pon_L hS hN hA hk hi (some (1 : Int32)) (some (0 : Int32)) 10000 0 (by omega) (by omega) (fun j' h => by omega)
  exact this
theorem cto (hZ : ZR (zA Z) (zB Z) s) (hN : N ≤ 16) (hA : AS (toS s) (pcS s) N d) {k i : Nat} (hk : k < N) (hi : i < N) : ((∃ j', j' < 16 ∧ pth s k j' = i) → fX10_comesTo (oI k) (oI i) Z = some (oI 1)) ∧ (¬ (∃ j', j' < 16 ∧ pth s k j' = i) → fX10_comesTo (oI k) (oI i) Z = some (oI 0)) := by
  have := cto_L hZ hN hA hk hi (fun x3_1 => if x3_1 = oI i then some (1 : Int32) else some (0 : Int32)) 10000 0 (by omega) (by omega) (fun j' h => by omega)
  refine ⟨fun h => ?_, fun h => ?_⟩
  · have h9 := this.1 h
    rw [if_pos rfl] at h9
    exact h9
  · have h9 := this.2 h
    rw [if_neg (by simp (disch := omega) only [oI_lt, oI_le, oI_eq, oL_lt, oL_le, oL_eq, oI_L, oI_clamp, oI_inb, oL_nz]; omega)] at h9
    exact h9
theorem SR.asg {i0 : Nat} {v p0 : Int} (h : SR A 0 s N) (h0 : i0 < N) : SR (wI (wI A 8 5 (16 * 0 + i0) 0 (oI v)) 8 6 (16 * 0 + i0) 0 (oI p0)) 0 (uB s (up2 (up2 (sB s) i0 5 v) i0 6 p0)) N := by
  have f9 : ∀ j w, ¬ (j = i0 ∧ (w = 5 ∨ w = 6)) → up2 (up2 (sB s) i0 5 v) i0 6 p0 j w = sB s j w := fun j w h => by
    rw [up2_n _ _ (by omega), up2_n _ _ (by omega)]
  have f5 : up2 (up2 (sB s) i0 5 v) i0 6 p0 i0 5 = v := by rw [up2_n _ _ (by omega), up2_s]
  have f6 : up2 (up2 (sB s) i0 5 v) i0 6 p0 i0 6 = p0 := up2_s _ _ _ _
  refine ⟨fun k hk => ?_, ⟨?_, ?_, ?_⟩, fun k hk => ?_, fun p hp => ?_, fun i hi => ⟨?_, ?_, ?_, ?_, ?_, ?_, fun ht => ?_⟩, fun i hi m hm => ?_, fun c hc => ⟨?_, ?_⟩, ⟨?_, ?_⟩, fun i hi w hw => ?_, fun i hi m hm => ?_⟩
  · rw [wI_1, if_neg (by omega), wI_1, if_neg (by omega)]; exact h.g hk
  · rw [wI_1, if_neg (by omega), wI_1, if_neg (by omega)]; exact h.mon
  · rw [wI_1, if_neg (by omega), wI_1, if_neg (by omega)]; exact h.day
  · rw [wI_1, if_neg (by omega), wI_1, if_neg (by omega)]; exact h.cnt
  · rw [wI_1, if_neg (by omega), wI_1, if_neg (by omega)]; exact h.hr hk
  · rw [wI_1, if_neg (by omega), wI_1, if_neg (by omega)]; exact h.rt hp
  · show _ = oI (up2 (up2 (sB s) i0 5 v) i0 6 p0 i 3); rw [f9 i 3 (by omega), wI_1, if_neg (by omega), wI_1, if_neg (by omega)]; exact h.st hi
  · show _ = oI (up2 (up2 (sB s) i0 5 v) i0 6 p0 i 0); rw [f9 i 0 (by omega), wI_1, if_neg (by omega), wI_1, if_neg (by omega)]; exact h.wa hi
  · show _ = oI (up2 (up2 (sB s) i0 5 v) i0 6 p0 i 1); rw [f9 i 1 (by omega), wI_1, if_neg (by omega), wI_1, if_neg (by omega)]; exact h.mi hi
  · show _ = oI (up2 (up2 (sB s) i0 5 v) i0 6 p0 i 2); rw [f9 i 2 (by omega), wI_1, if_neg (by omega), wI_1, if_neg (by omega)]; exact h.pr hi
  · show _ = oI (up2 (up2 (sB s) i0 5 v) i0 6 p0 i 4); rw [f9 i 4 (by omega), wI_1, if_neg (by omega), wI_1, if_neg (by omega)]; exact h.sh hi
  · show _ = oI (up2 (up2 (sB s) i0 5 v) i0 6 p0 i 5); rw [wI_1, if_neg (by omega), wI_1]
    by_cases q : i = i0
    · rw [if_pos (by omega), q, f5]
    · rw [if_neg (by omega), f9 i 5 (by omega)]; exact h.to hi
  · show _ = oI (up2 (up2 (sB s) i0 5 v) i0 6 p0 i 6); rw [wI_1]
    by_cases q : i = i0
    · rw [if_pos (by omega), q, f6]
    · have ht2 : ¬ up2 (up2 (sB s) i0 5 v) i0 6 p0 i 5 = -1 := ht
      rw [f9 i 5 (by omega)] at ht2
      rw [if_neg (by omega), wI_1, if_neg (by omega), f9 i 6 (by omega)]; exact h.pc hi ht2
  · rw [wI_1, if_neg (by omega), wI_1, if_neg (by omega)]; exact h.dy hi hm
  · rw [wI_1, if_neg (by omega), wI_1, if_neg (by omega)]; exact h.gn hc
  · rw [wI_1, if_neg (by omega), wI_1, if_neg (by omega)]; exact h.cr hc
  · exact h.fu
  · exact h.op
  · exact h.ac hi hw
  · exact h.lt hi hm
/-- a change of assignments alone -/
theorem W_asg (hW : WF n s N) {f : Nat → Nat → Int} (hf : ∀ i w, i < 16 → w < 5 → f i w = sB s i w) (h4 : ∀ i, i < N → f i 5 = -1 ∨ (sB s i 3 = 1 ∧ ∃ t : Nat, t < N ∧ f i 5 = t ∧ sB s t 3 = 1 ∧ 1 ≤ f i 6 ∧ f i 6 ≤ 100)) (hd : ∃ d : Nat → Nat, ∀ i t : Nat, i < N → t < N → f i 5 = t → d t < d i) : WF n (uB s f) N := by
  obtain ⟨w1, w2, w3, w4, w5, w6, w7, w8⟩ := hW
  have hN := w1.2.2.2.2.2.2.2.2
  refine ⟨w1, w2, ⟨fun i hi => ?_, fun i hi => ?_, fun i hi q => ?_, fun i hi q => ?_, fun i h1 h2 => ?_, ?_⟩, ⟨fun i hi => ?_, hd⟩, w5, w6, ⟨w7.1, w7.2.1, fun i hi q => ?_, w7.2.2.2⟩, w8⟩
  · show (1 ≤ f i 0 ∧ f i 0 ≤ sG s 0) ∧ (1 ≤ f i 1 ∧ f i 1 ≤ f i 0) ∧ (0 ≤ f i 2 ∧ f i 2 ≤ 9) ∧ (0 ≤ f i 3 ∧ f i 3 ≤ 2)
    rw [hf i 0 (by omega) (by omega), hf i 1 (by omega) (by omega), hf i 2 (by omega) (by omega), hf i 3 (by omega) (by omega)]
    exact w3.1 i hi
  · show 0 ≤ f i 4; rw [hf i 4 hi (by omega)]; exact w3.2.1 i hi
  · have q' : f i 3 = 1 := q
    rw [hf i 3 (by omega) (by omega)] at q'
    show 1 ≤ f i 4; rw [hf i 4 (by omega) (by omega)]; exact w3.2.2.1 i hi q'
  · have q' : ¬ f i 3 = 1 := q
    rw [hf i 3 (by omega) (by omega)] at q'
    show f i 4 = 0; rw [hf i 4 (by omega) (by omega)]; exact w3.2.2.2.1 i hi q'
  · show f i 4 = 0; rw [hf i 4 (by omega) (by omega)]; exact w3.2.2.2.2.1 i h1 h2
  · show sumN (fun i => f i 4) N ≤ sG s 0
    rw [sumN_congr (g := fun i => sB s i 4) (fun i hi => hf i 4 (by omega) (by omega))]; exact w3.2.2.2.2.2
  · show f i 5 = -1 ∨ (f i 3 = 1 ∧ ∃ t : Nat, t < N ∧ f i 5 = t ∧ f t 3 = 1 ∧ 1 ≤ f i 6 ∧ f i 6 ≤ 100)
    rcases h4 i hi with q | ⟨q1, t, ht, q2, q3, q4⟩
    · exact Or.inl q
    · exact Or.inr ⟨by rw [hf i 3 (by omega) (by omega)]; exact q1, t, ht, q2, by rw [hf t 3 (by omega) (by omega)]; exact q3, q4⟩
  · have q' : ¬ f i 3 = 1 := q
    rw [hf i 3 (by omega) (by omega)] at q'
    have h9 := w7.2.2.1 i hi q'
    exact ⟨h9.1, h9.2.1, h9.2.2.1, fun e => h9.2.2.2 ((hf i 3 (by omega) (by omega)).symm.trans e)⟩
theorem pth_edge {k t : Nat} (h : sB s k 5 = (t : Int)) : ∀ j : Nat, pth s k (j + 1) = pth s t j
  | 0 => by rw [pth, pth, pth, if_neg (by omega), cl_nat, h]
  | j + 1 => by rw [pth, pth_edge h j, pth.eq_2 s (t : Int) j]
/-- a rank for the new assignment -/
theorem rk_new (h4 : W4 s N) (hN : N ≤ 16) {i t : Nat} (hi : i < N) (ht : t < N) {p0 : Int} (hno : ¬ ∃ j', j' < 16 ∧ pth s t j' = i) : ∃ d : Nat → Nat, ∀ a b : Nat, a < N → b < N → up2 (up2 (sB s) i 5 t) i 6 p0 a 5 = b → d b < d a := by
  obtain ⟨d0, hA⟩ := AS_of h4
  have hno2 : ¬ ∃ j', pth s t j' = i := by
    rintro ⟨j', h1⟩
    have := pth_lt hA ht (j := j') (by omega)
    exact hno ⟨j', by omega, h1⟩
  refine ⟨fun k => @ite Nat (∃ j', pth s k j' = i) (Classical.propDecidable _) (d0 k + d0 t + 1) (d0 k), fun a b ha hb q => ?_⟩
  dsimp only
  by_cases e : a = i
  · have q2 : t = b := by rw [e, up2_n _ _ (by omega), up2_s] at q; omega
    have e1 : ∃ j', pth s a j' = i := ⟨0, by rw [e]; rfl⟩
    rw [if_pos e1, ← q2, if_neg hno2]
    omega
  · have q2 : sB s a 5 = (b : Int) := by rw [up2_n _ _ (by omega), up2_n _ _ (by omega)] at q; exact q
    have hd : d0 b < d0 a := by
      rcases hA a ha with q3 | ⟨k', hk', q3, q4, -⟩
      · have : sB s a 5 = -1 := q3
        omega
      · have : sB s a 5 = (k' : Int) := q3
        have : k' = b := by omega
        subst this; exact q4
    by_cases e2 : ∃ j', pth s b j' = i
    · obtain ⟨j', h1⟩ := e2
      have e3 : ∃ j', pth s a j' = i := ⟨j' + 1, by rw [pth_edge q2]; exact h1⟩
      rw [if_pos ⟨j', h1⟩, if_pos e3]
      omega
    · have e3 : ¬ ∃ j', pth s a j' = i := by
        rintro ⟨j', h1⟩
        cases j' with
        | zero => rw [pth] at h1; omega
        | succ j' => rw [pth_edge q2] at h1; exact e2 ⟨j', h1⟩
      rw [if_neg e2, if_neg e3]
      exact hd
end
def OKV (n : Nat) (fA : Option (Int32 × sM)) (fZ : Option sM) : Prop := ∃ A' Z' r, fA = some (r, A') ∧ fZ = some Z' ∧ Z'.1 10 6 0 0 = r ∧ Inv (n + 1) A' Z'
theorem OKV.t {n : Nat} {A Z Z' : sM} {fA : Option (Int32 × sM)} {fZ : Option sM} {r : Int32} (hI : Inv n A Z) (hA : fA = some (r, A)) (hZ : fZ = some Z') (ht : Z'.1 10 6 0 0 = r) (z : Fr wkZ Z Z') : OKV n fA fZ := ⟨A, Z', r, hA, hZ, ht, hI.wk (Fr.refl _) z⟩
theorem asg {n : Nat} {A Z : sM} (hI : Inv n A Z) (x y z : Int32) : OKV n (fL_assign x y z A) (fX10_assign x y z Z) := by
  obtain ⟨⟨s, N, hS, hZ, hW⟩, hR⟩ := id hI
  obtain ⟨w1, w2, w3, w4, w5, w6, w7, w8⟩ := id hW
  obtain ⟨g0, g1, g2, g3, g4, g5, g6, g7, hN⟩ := id w1
  obtain ⟨a, a1, a2, rfl⟩ := I_ex x
  obtain ⟨b, b1, b2, rfl⟩ := I_ex y
  obtain ⟨w, c1, c2, rfl⟩ := I_ex z
  obtain ⟨d, hA⟩ := AS_of w4
  by_cases ha : 0 ≤ a ∧ a < N
  · obtain ⟨i, hi, rfl⟩ := int_ix ha
    by_cases hb : 0 ≤ b ∧ b < N
    · obtain ⟨t, ht, rfl⟩ := int_ix hb
      -- what both sides test
      have eA : fX9_assign (oI i) (oI t) (oI w) A = if (i : Int) = t then some (.inl 1, A) else if ¬ (0 ≤ w ∧ w ≤ 100) then some (.inl 1, A) else if 0 < w ∧ (∃ j', j' < 16 ∧ pth s t j' = i) then some (.inl 1, A) else if ¬ (sB s i 3 = 1 ∧ sB s t 3 = 1) then some (.inl 2, A) else (Option.bind (fX6_keep A) fun A_2 => Option.bind (fX8_setAssignment (16 * 0 + i) (oI t) (oI w) A_2) fun A_5 => some (.inr (), A_5)) := by
        rw [fX9_assign, rqS_t hS hN hi, rq_none, rqS_t hS hN ht, rq_none, rqD A (by omega) (by omega) (by omega) (by omega)]
        by_cases e1 : (i : Int) = t
        · rw [if_pos e1, rq_thr, if_pos e1]
        · rw [if_neg e1, rq_none, if_neg e1]
          by_cases e2 : 0 ≤ w ∧ w ≤ 100
          · rw [if_neg (by simp (disch := omega) only [kI_0, kI_1, kI_2, kI_3, kI_4, kI_5, kI_6, kI_7, kI_8, kI_9, kI_10, kI_12, kI_16, kI_17, kI_19, kI_20, kI_23, kI_24, kI_30, kI_32, kI_36, kI_48, kI_57, kI_59, kI_60, kI_72, kI_80, kI_84, kI_97, kI_98, kI_100, kI_122, kI_148, kI_200, kI_300, kI_1058, kI_1108, kI_1348, kI_1588, kI_5290, kI_7940, kI_100000, kI_e7, kI_e9, kL_0, kL_1, kL_5, kL_9, kL_10, kL_12, kL_23, kL_30, kL_48, kL_57, kL_59, kL_97, kL_100, kL_122, kL_1000, kL_e7, kL_e9, kL_e10, oI_lt, oI_le, oI_eq, oL_lt, oL_le, oL_eq, oI_L, oI_clamp, oI_inb, oL_nz]; omega), if_pos (by simp (disch := omega) only [kI_0, kI_1, kI_2, kI_3, kI_4, kI_5, kI_6, kI_7, kI_8, kI_9, kI_10, kI_12, kI_16, kI_17, kI_19, kI_20, kI_23, kI_24, kI_30, kI_32, kI_36, kI_48, kI_57, kI_59, kI_60, kI_72, kI_80, kI_84, kI_97, kI_98, kI_100, kI_122, kI_148, kI_200, kI_300, kI_1058, kI_1108, kI_1348, kI_1588, kI_5290, kI_7940, kI_100000, kI_e7, kI_e9, kL_0, kL_1, kL_5, kL_9, kL_10, kL_12, kL_23, kL_30, kL_48, kL_57, kL_59, kL_97, kL_100, kL_122, kL_1000, kL_e7, kL_e9, kL_e10, oI_lt, oI_le, oI_eq, oL_lt, oL_le, oL_eq, oI_L, oI_clamp, oI_inb, oL_nz]; omega), if_neg (not_not_intro e2), ltb_eq]
            have rest : (rq (fX9_requireActive (oI i) A) (fun e => some (.inl e, A)) (
                rq (fX9_requireActive (oI t) A) (fun e => some (.inl e, A)) (
                  Option.bind (fX6_keep A) fun A_2 =>
                  gd (inb (oI i) 16) (
                    Option.bind (fX8_setAssignment (16 * 0 + (oI (i : Int)).toNatClampNeg) (oI t) (oI w) A_2) fun A_5 =>
                    some (.inr (), A_5))))) = if ¬ (sB s i 3 = 1 ∧ sB s t 3 = 1) then some ((.inl 2 : Nat ⊕ Unit), A) else (Option.bind (fX6_keep A) fun A_2 => Option.bind (fX8_setAssignment (16 * 0 + i) (oI t) (oI w) A_2) fun A_5 => some (.inr (), A_5)) := by
              rw [rqA hS hN w3 hi, rqA hS hN w3 ht, oI_inb (by omega) (by omega) (by omega), oI_clamp (by omega) (by omega), cl_nat]
              by_cases q1 : sB s i 3 = 1
              · by_cases q2 : sB s t 3 = 1
                · rw [if_pos q1, if_pos q2, rq_none, rq_none, if_neg (not_not_intro ⟨q1, q2⟩)]; rfl
                · rw [if_pos q1, if_neg q2, rq_none, rq_thr, if_pos (fun q => q2 q.2)]
              · rw [if_neg q1, rq_thr, if_pos (fun q => q1 q.1)]
            by_cases e3 : 0 < w
            · rw [if_neg (by simp (disch := omega) only [kI_0, kI_1, kI_2, kI_3, kI_4, kI_5, kI_6, kI_7, kI_8, kI_9, kI_10, kI_12, kI_16, kI_17, kI_19, kI_20, kI_23, kI_24, kI_30, kI_32, kI_36, kI_48, kI_57, kI_59, kI_60, kI_72, kI_80, kI_84, kI_97, kI_98, kI_100, kI_122, kI_148, kI_200, kI_300, kI_1058, kI_1108, kI_1348, kI_1588, kI_5290, kI_7940, kI_100000, kI_e7, kI_e9, kL_0, kL_1, kL_5, kL_9, kL_10, kL_12, kL_23, kL_30, kL_48, kL_57, kL_59, kL_97, kL_100, kL_122, kL_1000, kL_e7, kL_e9, kL_e10, oI_lt, oI_le, oI_eq, oL_lt, oL_le, oL_eq, oI_L, oI_clamp, oI_inb, oL_nz]; omega)]
              by_cases e4 : ∃ j', j' < 16 ∧ pth s t j' = i
              · rw [(pon hS hN hA ht hi).1 e4, bd_eq, if_neg one_ne, if_pos ⟨e3, e4⟩]
              · rw [(pon hS hN hA ht hi).2 e4, bd_eq, if_pos nul_eq, if_neg (show ¬ (0 < w ∧ ∃ j', j' < 16 ∧ pth s t j' = i) from fun q => e4 q.2)]
                exact rest
            · rw [if_pos (by simp (disch := omega) only [kI_0, kI_1, kI_2, kI_3, kI_4, kI_5, kI_6, kI_7, kI_8, kI_9, kI_10, kI_12, kI_16, kI_17, kI_19, kI_20, kI_23, kI_24, kI_30, kI_32, kI_36, kI_48, kI_57, kI_59, kI_60, kI_72, kI_80, kI_84, kI_97, kI_98, kI_100, kI_122, kI_148, kI_200, kI_300, kI_1058, kI_1108, kI_1348, kI_1588, kI_5290, kI_7940, kI_100000, kI_e7, kI_e9, kL_0, kL_1, kL_5, kL_9, kL_10, kL_12, kL_23, kL_30, kL_48, kL_57, kL_59, kL_97, kL_100, kL_122, kL_1000, kL_e7, kL_e9, kL_e10, oI_lt, oI_le, oI_eq, oL_lt, oL_le, oL_eq, oI_L, oI_clamp, oI_inb, oL_nz]; omega), if_neg (show ¬ (0 < w ∧ ∃ j', j' < 16 ∧ pth s t j' = i) from fun q => e3 q.1)]
              exact rest
          · rw [if_pos e2]
            by_cases e3 : w < 0
            · rw [if_pos (by simp (disch := omega) only [kI_0, kI_1, kI_2, kI_3, kI_4, kI_5, kI_6, kI_7, kI_8, kI_9, kI_10, kI_12, kI_16, kI_17, kI_19, kI_20, kI_23, kI_24, kI_30, kI_32, kI_36, kI_48, kI_57, kI_59, kI_60, kI_72, kI_80, kI_84, kI_97, kI_98, kI_100, kI_122, kI_148, kI_200, kI_300, kI_1058, kI_1108, kI_1348, kI_1588, kI_5290, kI_7940, kI_100000, kI_e7, kI_e9, kL_0, kL_1, kL_5, kL_9, kL_10, kL_12, kL_23, kL_30, kL_48, kL_57, kL_59, kL_97, kL_100, kL_122, kL_1000, kL_e7, kL_e9, kL_e10, oI_lt, oI_le, oI_eq, oL_lt, oL_le, oL_eq, oI_L, oI_clamp, oI_inb, oL_nz]; omega)]
            · rw [if_neg (by simp (disch := omega) only [kI_0, kI_1, kI_2, kI_3, kI_4, kI_5, kI_6, kI_7, kI_8, kI_9, kI_10, kI_12, kI_16, kI_17, kI_19, kI_20, kI_23, kI_24, kI_30, kI_32, kI_36, kI_48, kI_57, kI_59, kI_60, kI_72, kI_80, kI_84, kI_97, kI_98, kI_100, kI_122, kI_148, kI_200, kI_300, kI_1058, kI_1108, kI_1348, kI_1588, kI_5290, kI_7940, kI_100000, kI_e7, kI_e9, kL_0, kL_1, kL_5, kL_9, kL_10, kL_12, kL_23, kL_30, kL_48, kL_57, kL_59, kL_97, kL_100, kL_122, kL_1000, kL_e7, kL_e9, kL_e10, oI_lt, oI_le, oI_eq, oL_lt, oL_le, oL_eq, oI_L, oI_clamp, oI_inb, oL_nz]; omega), if_neg (by simp (disch := omega) only [kI_0, kI_1, kI_2, kI_3, kI_4, kI_5, kI_6, kI_7, kI_8, kI_9, kI_10, kI_12, kI_16, kI_17, kI_19, kI_20, kI_23, kI_24, kI_30, kI_32, kI_36, kI_48, kI_57, kI_59, kI_60, kI_72, kI_80, kI_84, kI_97, kI_98, kI_100, kI_122, kI_148, kI_200, kI_300, kI_1058, kI_1108, kI_1348, kI_1588, kI_5290, kI_7940, kI_100000, kI_e7, kI_e9, kL_0, kL_1, kL_5, kL_9, kL_10, kL_12, kL_23, kL_30, kL_48, kL_57, kL_59, kL_97, kL_100, kL_122, kL_1000, kL_e7, kL_e9, kL_e10, oI_lt, oI_le, oI_eq, oL_lt, oL_le, oL_eq, oI_L, oI_clamp, oI_inb, oL_nz]; omega)]
      have eZ : fX10_assign (oI i) (oI t) (oI w) Z = if (i : Int) = t then some (wI Z 10 6 0 0 (oI 2)) else if ¬ (0 ≤ w ∧ w ≤ 100) then some (wI Z 10 6 0 0 (oI 2)) else if 0 < w ∧ (∃ j', j' < 16 ∧ pth s t j' = i) then some (wI Z 10 6 0 0 (oI 2)) else if ¬ (sB s i 3 = 1 ∧ sB s t 3 = 1) then some (wI Z 10 6 0 0 (oI 3)) else (Option.bind (fX10_keeps (wI Z 10 6 0 0 (oI 0))) fun Z_7 => some (wI (wI Z_7 27 0 0 (36 + 7 * i + 5) (oI (if w ≤ 0 then -1 else (t : Int)))) 27 0 0 (36 + 7 * i + 6) (oI w))) := by
        rw [fX10_assign, mem_t hZ w1 hi, bd_eq, ltb_eq, ltb_eq, if_neg one_ne, mem_t hZ w1 ht, bd_eq, if_neg one_ne]
        dsimp only
        rw [ltb_eq, thr_yes, ltb_eq, ltb_eq]
        by_cases e1 : (i : Int) = t
        · rw [if_pos (by rw [e1]), if_pos e1, ltb_eq]
          dsimp only
          rw [thr_no (by decide), wI_wI]
          rfl
        · rw [if_neg (by simp (disch := omega) only [oI_lt, oI_le, oI_eq, oL_lt, oL_le, oL_eq, oI_L, oI_clamp, oI_inb, oL_nz]; omega), if_neg e1, oI_L (by omega) (by omega), kL_0, kL_100]
          by_cases e2 : 0 ≤ w ∧ w ≤ 100
          · rw [isIn_t _ (by omega) (by omega) (by omega), bd_eq, if_neg one_ne, if_neg (not_not_intro e2), ltb_eq, actZ (ZRt hZ) w3 hi hN, actZ (ZRt hZ) w3 ht hN, bd_eq, ltb_eq, bd_eq]
            have rest : ∀ (F : sM → Option sM), F = (fun (Z_5 : sM) =>
        if (Z_5.1 10 6 0 0) ≤ 0 then (
          Option.bind (fX10_keeps Z_5) fun Z_7 =>
          if oI w ≤ 0 then (
            Option.bind (fX10_setMember (oI i) (5 : Int32) (-1 : Int32) Z_7) fun Z_8 =>
            Option.bind (fX10_setMember (oI i) (6 : Int32) (oI w) Z_8) fun Z_9 =>
            some Z_9)
          else (
            Option.bind (fX10_setMember (oI i) (5 : Int32) (oI t) Z_7) fun Z_12 =>
            Option.bind (fX10_setMember (oI i) (6 : Int32) (oI w) Z_12) fun Z_13 =>
            some Z_13))
        else (
          some Z_5)) → (if oI (if sB s i 3 = 1 then 1 else 0) = (0 : Int32) then (ltb (wI (wI Z 10 6 0 0 0) 10 6 0 0 3) fun Z_23 => F Z_23) else if oI (if sB s t 3 = 1 then 1 else 0) = (0 : Int32) then (ltb (wI (wI Z 10 6 0 0 0) 10 6 0 0 3) fun Z_23 => F Z_23) else F (wI Z 10 6 0 0 0)) = if ¬ (sB s i 3 = 1 ∧ sB s t 3 = 1) then some (wI Z 10 6 0 0 (oI 3)) else (Option.bind (fX10_keeps (wI Z 10 6 0 0 (oI 0))) fun Z_7 => some (wI (wI Z_7 27 0 0 (36 + 7 * i + 5) (oI (if w ≤ 0 then -1 else (t : Int)))) 27 0 0 (36 + 7 * i + 6) (oI w))) := by
              intro F hF
              by_cases q1 : sB s i 3 = 1
              · by_cases q2 : sB s t 3 = 1
                · rw [if_pos q1, if_pos q2, if_neg one_ne, if_neg one_ne, if_neg (not_not_intro ⟨q1, q2⟩), hF]
                  dsimp only
                  rw [thr_yes, kI_0]
                  congr 1
                  funext Z_7
                  by_cases q3 : w ≤ 0
                  · rw [if_pos (by simp (disch := omega) only [oI_lt, oI_le, oI_eq, oL_lt, oL_le, oL_eq, oI_L, oI_clamp, oI_inb, oL_nz]; omega), if_pos q3, kI_1, oI_neg, show (5 : Int32) = oI (5 : Nat) from rfl, setM (by omega) (by omega), bd_eq, show (6 : Int32) = oI (6 : Nat) from rfl, setM (by omega) (by omega)]
                    rfl
                  · rw [if_neg (by simp (disch := omega) only [oI_lt, oI_le, oI_eq, oL_lt, oL_le, oL_eq, oI_L, oI_clamp, oI_inb, oL_nz]; omega), if_neg q3, show (5 : Int32) = oI (5 : Nat) from rfl, setM (by omega) (by omega), bd_eq, show (6 : Int32) = oI (6 : Nat) from rfl, setM (by omega) (by omega)]
                    rfl
                · rw [if_pos q1, if_neg q2, if_neg one_ne, if_pos nul_eq, if_pos (fun q => q2 q.2), hF, ltb_eq, wI_wI]
                  dsimp only
                  rw [thr_no (by decide)]
                  rfl
              · rw [if_neg q1, if_pos nul_eq, if_pos (fun q => q1 q.1), hF, ltb_eq, wI_wI]
                dsimp only
                rw [thr_no (by decide)]
                rfl
            by_cases e3 : 0 < w
            · rw [if_neg (by simp (disch := omega) only [kI_0, kI_1, kI_2, kI_3, kI_4, kI_5, kI_6, kI_7, kI_8, kI_9, kI_10, kI_12, kI_16, kI_17, kI_19, kI_20, kI_23, kI_24, kI_30, kI_32, kI_36, kI_48, kI_57, kI_59, kI_60, kI_72, kI_80, kI_84, kI_97, kI_98, kI_100, kI_122, kI_148, kI_200, kI_300, kI_1058, kI_1108, kI_1348, kI_1588, kI_5290, kI_7940, kI_100000, kI_e7, kI_e9, kL_0, kL_1, kL_5, kL_9, kL_10, kL_12, kL_23, kL_30, kL_48, kL_57, kL_59, kL_97, kL_100, kL_122, kL_1000, kL_e7, kL_e9, kL_e10, oI_lt, oI_le, oI_eq, oL_lt, oL_le, oL_eq, oI_L, oI_clamp, oI_inb, oL_nz]; omega)]
              by_cases e4 : ∃ j', j' < 16 ∧ pth s t j' = i
              · rw [(cto (ZRt hZ) hN hA ht hi).1 e4, bd_eq, if_neg one_ne, if_pos (show (0 < w ∧ ∃ j', j' < 16 ∧ pth s t j' = i) from ⟨e3, e4⟩), ltb_eq]
                dsimp only
                rw [thr_no (by decide), wI_wI]
                rfl
              · rw [(cto (ZRt hZ) hN hA ht hi).2 e4, bd_eq, if_pos nul_eq, if_neg (show ¬ (0 < w ∧ ∃ j', j' < 16 ∧ pth s t j' = i) from fun q => e4 q.2)]
                exact rest _ rfl
            · rw [if_pos (by simp (disch := omega) only [kI_0, kI_1, kI_2, kI_3, kI_4, kI_5, kI_6, kI_7, kI_8, kI_9, kI_10, kI_12, kI_16, kI_17, kI_19, kI_20, kI_23, kI_24, kI_30, kI_32, kI_36, kI_48, kI_57, kI_59, kI_60, kI_72, kI_80, kI_84, kI_97, kI_98, kI_100, kI_122, kI_148, kI_200, kI_300, kI_1058, kI_1108, kI_1348, kI_1588, kI_5290, kI_7940, kI_100000, kI_e7, kI_e9, kL_0, kL_1, kL_5, kL_9, kL_10, kL_12, kL_23, kL_30, kL_48, kL_57, kL_59, kL_97, kL_100, kL_122, kL_1000, kL_e7, kL_e9, kL_e10, oI_lt, oI_le, oI_eq, oL_lt, oL_le, oL_eq, oI_L, oI_clamp, oI_inb, oL_nz]; omega), if_neg (show ¬ (0 < w ∧ ∃ j', j' < 16 ∧ pth s t j' = i) from fun q => e3 q.1)]
              exact rest _ rfl
          · rw [isIn_f _ (by omega) (by omega) (by omega) (by omega) (by omega) (by omega) (by omega), bd_eq, if_pos nul_eq, if_pos e2, ltb_eq]
            dsimp only
            rw [thr_no (by decide), wI_wI]
            rfl
      by_cases e1 : (i : Int) = t
      · exact OKV.t (r := 2) hI (by rw [fL_assign, eA, if_pos e1]; rfl) (by rw [eZ, if_pos e1]; rfl) (thr_g _ _) (frT Z _)
      · rw [if_neg e1] at eA eZ
        by_cases e2 : 0 ≤ w ∧ w ≤ 100
        · rw [if_neg (not_not_intro e2)] at eA eZ
          by_cases e3 : 0 < w ∧ (∃ j', j' < 16 ∧ pth s t j' = i)
          · exact OKV.t (r := 2) hI (by rw [fL_assign, eA, if_pos e3]; rfl) (by rw [eZ, if_pos e3]; rfl) (thr_g _ _) (frT Z _)
          · rw [if_neg e3] at eA eZ
            by_cases e4 : sB s i 3 = 1 ∧ sB s t 3 = 1
            · obtain ⟨A1, Z1, k1, k2, k3, k4, k5, k6, k7⟩ := keep0 ⟨hS, hZ, hW⟩ hR
              rw [if_neg (not_not_intro e4), k1, bd_eq] at eA
              rw [if_neg (not_not_intro e4), k2, bd_eq] at eZ
              have hv : fX8_setAssignment (16 * 0 + i) (oI t) (oI w) A1 = some (wI (wI A1 8 5 (16 * 0 + i) 0 (oI (if w ≤ 0 then -1 else (t : Int)))) 8 6 (16 * 0 + i) 0 (oI w)) := by
                rw [fX8_setAssignment]
                by_cases q3 : w ≤ 0
                · rw [if_pos (by simp (disch := omega) only [kI_0, kI_1, kI_2, kI_3, kI_4, kI_5, kI_6, kI_7, kI_8, kI_9, kI_10, kI_12, kI_16, kI_17, kI_19, kI_20, kI_23, kI_24, kI_30, kI_32, kI_36, kI_48, kI_57, kI_59, kI_60, kI_72, kI_80, kI_84, kI_97, kI_98, kI_100, kI_122, kI_148, kI_200, kI_300, kI_1058, kI_1108, kI_1348, kI_1588, kI_5290, kI_7940, kI_100000, kI_e7, kI_e9, kL_0, kL_1, kL_5, kL_9, kL_10, kL_12, kL_23, kL_30, kL_48, kL_57, kL_59, kL_97, kL_100, kL_122, kL_1000, kL_e7, kL_e9, kL_e10, oI_lt, oI_le, oI_eq, oL_lt, oL_le, oL_eq, oI_L, oI_clamp, oI_inb, oL_nz]; omega), if_pos q3]; rfl
                · rw [if_neg (by simp (disch := omega) only [kI_0, kI_1, kI_2, kI_3, kI_4, kI_5, kI_6, kI_7, kI_8, kI_9, kI_10, kI_12, kI_16, kI_17, kI_19, kI_20, kI_23, kI_24, kI_30, kI_32, kI_36, kI_48, kI_57, kI_59, kI_60, kI_72, kI_80, kI_84, kI_97, kI_98, kI_100, kI_122, kI_148, kI_200, kI_300, kI_1058, kI_1108, kI_1348, kI_1588, kI_5290, kI_7940, kI_100000, kI_e7, kI_e9, kL_0, kL_1, kL_5, kL_9, kL_10, kL_12, kL_23, kL_30, kL_48, kL_57, kL_59, kL_97, kL_100, kL_122, kL_1000, kL_e7, kL_e9, kL_e10, oI_lt, oI_le, oI_eq, oL_lt, oL_le, oL_eq, oI_L, oI_clamp, oI_inb, oL_nz]; omega), if_neg q3]; rfl
              rw [hv, bd_eq] at eA
              have hmv : ∀ k, mvA 8 k (16 * 0 + i) = true := fun k => by simp [mvA]; omega
              have f5 : ∀ j, ¬ j = i → up2 (up2 (sB s) i 5 (if w ≤ 0 then -1 else (t : Int))) i 6 w j 5 = sB s j 5 ∧ up2 (up2 (sB s) i 5 (if w ≤ 0 then -1 else (t : Int))) i 6 w j 6 = sB s j 6 := fun j hj => by
                rw [up2_n _ _ (by omega), up2_n _ _ (by omega), up2_n _ _ (by omega), up2_n _ _ (by omega)]; exact ⟨rfl, rfl⟩
              have fi : up2 (up2 (sB s) i 5 (if w ≤ 0 then -1 else (t : Int))) i 6 w i 5 = (if w ≤ 0 then -1 else (t : Int)) ∧ up2 (up2 (sB s) i 5 (if w ≤ 0 then -1 else (t : Int))) i 6 w i 6 = w := by
                rw [up2_n _ _ (by omega), up2_s, up2_s]; exact ⟨rfl, rfl⟩
              have hW2 : WF (n + 1) (uB s (up2 (up2 (sB s) i 5 (if w ≤ 0 then -1 else (t : Int))) i 6 w)) N := by
                refine W_asg (hW.mono (by omega)) (fun j v _ hv9 => by rw [up2_n _ _ (by omega), up2_n _ _ (by omega)]) (fun j hj => ?_) ?_
                · by_cases ej : j = i
                  · rw [ej, fi.1, fi.2]
                    by_cases q3 : w ≤ 0
                    · rw [if_pos q3]; exact Or.inl rfl
                    · rw [if_neg q3]; exact Or.inr ⟨e4.1, t, ht, rfl, e4.2, by omega, by omega⟩
                  · rw [(f5 j ej).1, (f5 j ej).2]; exact w4.1 j hj
                · by_cases q3 : w ≤ 0
                  · obtain ⟨d9, hd9⟩ := w4.2
                    refine ⟨d9, fun p q hp hq hpq => ?_⟩
                    by_cases ej : p = i
                    · rw [ej, fi.1, if_pos q3] at hpq; omega
                    · rw [(f5 p ej).1] at hpq; exact hd9 p q hp hq hpq
                  · rw [if_neg q3]
                    exact rk_new w4 hN hi ht (fun q => e3 ⟨by omega, q⟩)
              refine ⟨_, _, 0, by rw [fL_assign, eA]; rfl, eZ, by rw [wI_1, if_neg (by omega), wI_1, if_neg (by omega)]; exact k6, Inv.mv k5 (((Fr.refl _).wI (hmv 5)).wI (hmv 6)) (((Fr.refl _).wI rfl).wI rfl) (k3.asg hi) ?_ hW2⟩
              exact (k4.wB (i0 := i) (w0 := 5) (by omega) (by omega)).wB (i0 := i) (w0 := 6) (by omega) (by omega)
            · exact OKV.t (r := 3) hI (by rw [fL_assign, eA, if_pos e4]; rfl) (by rw [eZ, if_pos e4]; rfl) (thr_g _ _) (frT Z _)
        · exact OKV.t (r := 2) hI (by rw [fL_assign, eA, if_pos e2]; rfl) (by rw [eZ, if_pos e2]; rfl) (thr_g _ _) (frT Z _)
    · refine OKV.t (r := 1) hI ?_ ?_ (thr_g Z _) (frT Z _)
      · rw [fL_assign, fX9_assign, rqS_t hS hN hi, rq_none, rqS_f hS hN b1 b2 hb]
        rfl
      · rw [fX10_assign, mem_t hZ w1 hi, bd_eq, ltb_eq, ltb_eq, if_neg one_ne, mem_f hZ w1 b1 b2 hb, bd_eq, if_pos nul_eq]
        dsimp only
        rw [ltb_eq, thr_no (by decide)]
        all_goals rfl
  · refine OKV.t (r := 1) hI ?_ ?_ (thr_g Z _) (frT Z _)
    · rw [fL_assign, fX9_assign, rqS_f hS hN a1 a2 ha]
      rfl
    · rw [fX10_assign, mem_f hZ w1 a1 a2 ha, bd_eq, ltb_eq, ltb_eq, if_pos nul_eq]
      dsimp only
      rw [ltb_eq, thr_no (by decide)]
      all_goals rfl
theorem case9 : CaseOK fL_case9 := by
  intro n L A Z xs x4 hn hI hin
  obtain ⟨_, i1, i2, i3, i4, i5⟩ := hin
  rw [fL_case9]
  simp only [i1, i2, i3, i4, i5, gd_true]
  obtain ⟨A', Z', r, h1, h2, h3, h4⟩ := asg hI (xs (x4 + 1).toNatClampNeg) (xs (x4 + 2).toNatClampNeg) (xs (x4 + 3).toNatClampNeg)
  refine ⟨A', Z', ?_, h4⟩
  rw [h1, bd2_eq, h2, bd_eq, fX10_thrown, bd_eq, if_pos h3]
