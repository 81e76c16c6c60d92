/-! The reference's words. -/
theorem rn_run {a b : Int} {t : Nat → Int} {L : Nat} : ∀ (n p : Nat), (∀ i, i < n → p + i < L ∧ (a ≤ t (p + i) ∧ t (p + i) ≤ b)) → rn a b t L p = rn a b t L (p + n)
  | 0, p, _ => rfl
  | n + 1, p, h => by
    rw [rn_e (p := p) (h 0 (by omega)), rn_run n (p + 1) (fun i hi => by rw [show p + 1 + i = p + (i + 1) by omega]; exact h (i + 1) (by omega)), show p + 1 + n = p + (n + 1) by omega]
theorem rn_end {a b : Int} {t : Nat → Int} {L : Nat} : ∀ (d p : Nat), L - p = d → ¬ (rn a b t L p < L ∧ (a ≤ t (rn a b t L p) ∧ t (rn a b t L p) ≤ b)) := by
  intro d
  induction d with
  | zero =>
    intro p hd
    rw [rn_n (by omega)]; omega
  | succ d ih =>
    intro p hd
    by_cases q : p < L ∧ (a ≤ t p ∧ t p ≤ b)
    · rw [rn_e q]; exact ih (p + 1) (by omega)
    · rw [rn_n q]; exact q
def isw (t w : Nat → Int) (q e n : Nat) : Prop := q + n = e ∧ ∀ j, j < n → t (q + j) = w j
theorem isw_st {t w : Nat → Int} {L q n : Nat} (hq : q ≤ L) (hw : ∀ j, j < n → 97 ≤ w j ∧ w j ≤ 122) : isw t w q (rn 97 122 t L q) n ↔ stands t w L q n := by
  refine ⟨fun h => ?_, fun h => ?_⟩
  · have h1 := (rn_le 97 122 t L q).2 hq
    have h2 := rn_end (a := 97) (b := 122) (t := t) (L := L) _ q rfl
    rw [← h.1] at h1 h2
    exact ⟨h1, h.2, h2⟩
  · have h1 : rn 97 122 t L q = rn 97 122 t L (q + n) := rn_run n q fun i hi => ⟨by have := h.1; omega, by rw [h.2.1 i hi]; exact hw i hi⟩
    rw [rn_n h.2.2] at h1
    exact ⟨h1.symm, h.2.1⟩
theorem sl50 : sLen.getD 50 0 = 21 := rfl
theorem sl50' : strL 50 = oI 21 := by decide
section
variable {t w : Nat → Int} {L q e off n : Nat} {Z : sM}
theorem w15 (hT : RT t L) (hR : RZ Z t L) (h0 : Z.1 10 10 0 0 = oI q) (h1 : Z.1 10 11 0 0 = oI e) (he : e ≤ L) (hq : q ≤ e) (hn : off + n < 21) (hw : ∀ j, j < n → strC 50 (off + j) = oI (w j) ∧ 33 ≤ w j ∧ w j < 128) (hs : strC 50 (off + n) = 32) (x1 : Int32) : ∀ (d fuel j : Nat), j + d = n → d < fuel → ∃ m, j ≤ m ∧ m ≤ n ∧ (∀ i, j ≤ i → i < m → q + i < e ∧ t (q + i) = w i) ∧ (m < n → ¬ (q + m < e ∧ t (q + m) = w m)) ∧ ∀ kk, fX10_wordAt_L15 x1 (oI off) Z kk fuel (oI j) = kk (oI m) := by
  have hL := hT.1
  intro d
  induction d with
  | zero =>
    intro fuel j hj hf
    obtain ⟨f, rfl⟩ : ∃ f, fuel = f + 1 := ⟨fuel - 1, by omega⟩
    have ej : j = n := by omega
    subst ej
    refine ⟨j, Nat.le_refl _, Nat.le_refl _, fun i h2 h3 => by omega, fun h => by omega, fun kk => ?_⟩
    rw [fX10_wordAt_L15, oI_add, show ((off : Int) + (j : Int)) = ((off + j : Nat) : Int) from rfl, sl50, inbA (by omega) (by omega), gd_true, clpA (by omega), hs, if_pos rfl]
  | succ d ih =>
    intro fuel j hj hf
    obtain ⟨f, rfl⟩ : ∃ f, fuel = f + 1 := ⟨fuel - 1, by omega⟩
    obtain ⟨w1, w2, w3⟩ := hw j (by omega)
    by_cases q1 : q + j < e
    · have hb := hT.2 (q + j) (by omega)
      by_cases q2 : t (q + j) = w j
      · obtain ⟨m, u1, u2, u3, u4, u5⟩ := ih f (j + 1) (by omega) (by omega)
        refine ⟨m, by omega, u2, fun i h2 h3 => ?_, u4, fun kk => ?_⟩
        · by_cases ei : i = j
          · rw [ei]; exact ⟨q1, q2⟩
          · exact u3 i (by omega) h3
        · rw [fX10_wordAt_L15, oI_add, show ((off : Int) + (j : Int)) = ((off + j : Nat) : Int) from rfl, sl50, inbA (by omega) (by omega), gd_true, clpA (by omega), w1, if_neg (by rw [kI_32]; simp (disch := omega) only [oI_lt, oI_le, oI_eq, oL_lt, oL_le, oL_eq, oI_L, oI_clamp, oI_inb, oL_nz]; omega), h0, h1, oI_add, show ((q : Int) + (j : Int)) = ((q + j : Nat) : Int) from rfl, if_neg (by simp (disch := omega) only [oI_lt, oI_le, oI_eq, oL_lt, oL_le, oL_eq, oI_L, oI_clamp, oI_inb, oL_nz]; omega), inbA (by omega) (by omega), gd_true, gd_true, clpA (by omega), hR.2 (q + j) (by omega), q2, if_pos rfl, kI_1, oI_add, nat1, ltb_eq]
          exact u5 kk
      · refine ⟨j, Nat.le_refl _, by omega, fun i h2 h3 => by omega, fun _ h => q2 h.2, fun kk => ?_⟩
        rw [fX10_wordAt_L15, oI_add, show ((off : Int) + (j : Int)) = ((off + j : Nat) : Int) from rfl, sl50, inbA (by omega) (by omega), gd_true, clpA (by omega), w1, if_neg (by rw [kI_32]; simp (disch := omega) only [oI_lt, oI_le, oI_eq, oL_lt, oL_le, oL_eq, oI_L, oI_clamp, oI_inb, oL_nz]; omega), h0, h1, oI_add, show ((q : Int) + (j : Int)) = ((q + j : Nat) : Int) from rfl, if_neg (by simp (disch := omega) only [oI_lt, oI_le, oI_eq, oL_lt, oL_le, oL_eq, oI_L, oI_clamp, oI_inb, oL_nz]; omega), inbA (by omega) (by omega), gd_true, gd_true, clpA (by omega), hR.2 (q + j) (by omega), if_neg (by simp (disch := omega) only [oI_lt, oI_le, oI_eq, oL_lt, oL_le, oL_eq, oI_L, oI_clamp, oI_inb, oL_nz]; omega)]
    · refine ⟨j, Nat.le_refl _, by omega, fun i h2 h3 => by omega, fun _ h => q1 h.1, fun kk => ?_⟩
      rw [fX10_wordAt_L15, oI_add, show ((off : Int) + (j : Int)) = ((off + j : Nat) : Int) from rfl, sl50, inbA (by omega) (by omega), gd_true, clpA (by omega), w1, if_neg (by rw [kI_32]; simp (disch := omega) only [oI_lt, oI_le, oI_eq, oL_lt, oL_le, oL_eq, oI_L, oI_clamp, oI_inb, oL_nz]; omega), h0, h1, oI_add, show ((q : Int) + (j : Int)) = ((q + j : Nat) : Int) from rfl, if_pos (by simp (disch := omega) only [oI_lt, oI_le, oI_eq, oL_lt, oL_le, oL_eq, oI_L, oI_clamp, oI_inb, oL_nz]; omega)]
theorem w97 (hn : off + n < 21) (hw : ∀ j, j < n → strC 50 (off + j) = oI (w j) ∧ 33 ≤ w j ∧ w j < 128) (hs : strC 50 (off + n) = 32) (x1 : Int32) (kk : Int32 → Option Int32) : ∀ (d fuel j : Nat), j + d = n → d < fuel → fX10_wordAt_L97 x1 Z kk fuel (oI (off + j : Nat)) = kk (oI (off + n : Nat)) := by
  intro d
  induction d with
  | zero =>
    intro fuel j hj hf
    obtain ⟨f, rfl⟩ : ∃ f, fuel = f + 1 := ⟨fuel - 1, by omega⟩
    have ej : j = n := by omega
    subst ej
    rw [fX10_wordAt_L97, sl50, inbA (by omega) (by omega), gd_true, clpA (by omega), hs, if_pos rfl]
  | succ d ih =>
    intro fuel j hj hf
    obtain ⟨f, rfl⟩ : ∃ f, fuel = f + 1 := ⟨fuel - 1, by omega⟩
    obtain ⟨w1, w2, w3⟩ := hw j (by omega)
    rw [fX10_wordAt_L97, sl50, inbA (by omega) (by omega), gd_true, clpA (by omega), w1, if_neg (by rw [kI_32]; simp (disch := omega) only [oI_lt, oI_le, oI_eq, oL_lt, oL_le, oL_eq, oI_L, oI_clamp, oI_inb, oL_nz]; omega), kI_1, oI_add, nat1, ltb_eq]
    exact ih f (j + 1) (by omega) (by omega)
theorem w4 (hT : RT t L) (hR : RZ Z t L) (h0 : Z.1 10 10 0 0 = oI q) (h1 : Z.1 10 11 0 0 = oI e) (he : e ≤ L) (hq : q ≤ e) (hn : off + n < 21) (hw : ∀ j, j < n → strC 50 (off + j) = oI (w j) ∧ 33 ≤ w j ∧ w j < 128) (hs : strC 50 (off + n) = 32) (x : Nat) (k1 : Int32 → Option Int32) (k2 : Option Int32) (f : Nat) : (isw t w q e n → fX10_wordAt_L4 Z k1 k2 (f + 1) (oI x) (oI off) = k1 (oI x)) ∧ (¬ isw t w q e n → fX10_wordAt_L4 Z k1 k2 (f + 1) (oI x) (oI off) = fX10_wordAt_L4 Z k1 k2 f (oI (x + 1 : Nat)) (oI (off + n + 1 : Nat))) := by
  have hL := hT.1
  obtain ⟨m, u1, u2, u3, u4, u5⟩ := w15 hT hR h0 h1 he hq hn hw hs (oI x) n 10000 0 (by omega) (by omega)
  have e97 := w97 (Z := Z) hn hw hs (oI x) (fun (x2_4 : Int32) =>
              ltb (x2_4 + (1 : Int32)) fun x2_5 =>
              ltb ((oI x) + (1 : Int32)) fun x1_6 =>
              fX10_wordAt_L4 Z k1 k2 f x1_6 x2_5) n 10000 0 (by omega) (by omega)
  refine ⟨fun h => ?_, fun h => ?_⟩
  · have em : m = n := by
      by_cases q1 : m < n
      · exact absurd ⟨by have := h.1; omega, h.2 m q1⟩ (u4 q1)
      · omega
    subst em
    rw [fX10_wordAt_L4, sl50', if_neg (by simp (disch := omega) only [oI_lt, oI_le, oI_eq, oL_lt, oL_le, oL_eq, oI_L, oI_clamp, oI_inb, oL_nz]; omega)]
    refine (u5 _).trans ?_
    rw [oI_add, show ((off : Int) + (m : Int)) = ((off + m : Nat) : Int) from rfl, sl50, inbA (by omega) (by omega), gd_true, ltb_eq, clpA (by omega), hs, if_pos rfl, h0, h1, oI_add, if_pos (by rw [← h.1]; rfl)]
  · have e2 : ltb (oI (off + n : Nat) + (1 : Int32)) (fun x2_5 => ltb (oI x + (1 : Int32)) fun x1_6 => fX10_wordAt_L4 Z k1 k2 f x1_6 x2_5) = fX10_wordAt_L4 Z k1 k2 f (oI (x + 1 : Nat)) (oI (off + n + 1 : Nat)) := by
      rw [kI_1, oI_add, oI_add, nat1, nat1, ltb_eq, ltb_eq]
    rw [fX10_wordAt_L4, sl50', if_neg (by simp (disch := omega) only [oI_lt, oI_le, oI_eq, oL_lt, oL_le, oL_eq, oI_L, oI_clamp, oI_inb, oL_nz]; omega)]
    refine (u5 _).trans ?_
    rw [oI_add, show ((off : Int) + (m : Int)) = ((off + m : Nat) : Int) from rfl, sl50, inbA (by omega) (by omega), gd_true, ltb_eq, clpA (by omega)]
    by_cases em : m = n
    · subst em
      rw [hs, if_pos rfl, h0, h1, oI_add, if_neg (by
        simp (disch := omega) only [oI_lt, oI_le, oI_eq, oL_lt, oL_le, oL_eq, oI_L, oI_clamp, oI_inb, oL_nz]
        intro e9
        exact h ⟨by omega, fun j hj => (u3 j (by omega) hj).2⟩)]
      exact e97.trans e2
    · obtain ⟨w1, w2, w3⟩ := hw m (by omega)
      rw [w1, if_neg (by rw [kI_32]; simp (disch := omega) only [oI_lt, oI_le, oI_eq, oL_lt, oL_le, oL_eq, oI_L, oI_clamp, oI_inb, oL_nz]; omega)]
      exact e97.trans e2
end
def wg (j : Nat) : Int := [103, 97, 114, 100, 101, 110].getD j 0
def wp (j : Nat) : Int := [112, 101, 114, 105, 111, 100].getD j 0
def wh (j : Nat) : Int := [104, 111, 117, 114, 115].getD j 0
theorem wg_s : ∀ j, j < 6 → (strC 50 (1 + j) = oI (wg j) ∧ strC 2 j = oI (wg j)) ∧ 97 ≤ wg j ∧ wg j ≤ 122 := by decide
theorem wp_s : ∀ j, j < 6 → (strC 50 (8 + j) = oI (wp j) ∧ strC 3 j = oI (wp j)) ∧ 97 ≤ wp j ∧ wp j ≤ 122 := by decide
theorem wh_s : ∀ j, j < 5 → (strC 50 (15 + j) = oI (wh j) ∧ strC 4 j = oI (wh j)) ∧ 97 ≤ wh j ∧ wh j ≤ 122 := by decide
theorem wat {t : Nat → Int} {L q : Nat} {Z : sM} (hT : RT t L) (hR : RZ Z t L) (h0 : Z.1 10 10 0 0 = oI q) (h1 : Z.1 10 11 0 0 = oI (rn 97 122 t L q)) (hq : q ≤ L) : ∃ k : Nat, k < 4 ∧ (k = 0 ↔ stands t wg L q 6) ∧ (k = 1 ↔ stands t wp L q 6) ∧ (k = 2 ↔ stands t wh L q 5) ∧ fX10_wordAt Z = some (oI k) := by
  have he := (rn_le 97 122 t L q).2 hq
  have hq2 := (rn_le 97 122 t L q).1
  have s0 := isw_st (t := t) (w := wg) (n := 6) hq (fun j hj => (wg_s j hj).2)
  have s1 := isw_st (t := t) (w := wp) (n := 6) hq (fun j hj => (wp_s j hj).2)
  have s2 := isw_st (t := t) (w := wh) (n := 5) hq (fun j hj => (wh_s j hj).2)
  have a0 := w4 (off := 1) hT hR h0 h1 he hq2 (by omega) (fun j hj => ⟨(wg_s j hj).1.1, by have := (wg_s j hj).2; omega⟩) (by decide) 0 (fun x => some x) (some (3 : Int32)) 9999
  have a1 := w4 (off := 8) hT hR h0 h1 he hq2 (by omega) (fun j hj => ⟨(wp_s j hj).1.1, by have := (wp_s j hj).2; omega⟩) (by decide) 1 (fun x => some x) (some (3 : Int32)) 9998
  have a2 := w4 (off := 15) hT hR h0 h1 he hq2 (by omega) (fun j hj => ⟨(wh_s j hj).1.1, by have := (wh_s j hj).2; omega⟩) (by decide) 2 (fun x => some x) (some (3 : Int32)) 9997
  have x01 : stands t wg L q 6 → ¬ stands t wp L q 6 := fun p1 p2 => by
    have r1 := p1.2.1 0 (by omega)
    have r2 := p2.2.1 0 (by omega)
    rw [r1] at r2
    exact absurd r2 (by decide)
  have x02 : stands t wg L q 6 → ¬ stands t wh L q 5 := fun p1 p2 => by
    have r1 := p1.2.1 0 (by omega)
    have r2 := p2.2.1 0 (by omega)
    rw [r1] at r2
    exact absurd r2 (by decide)
  have x12 : stands t wp L q 6 → ¬ stands t wh L q 5 := fun p1 p2 => by
    have r1 := p1.2.1 0 (by omega)
    have r2 := p2.2.1 0 (by omega)
    rw [r1] at r2
    exact absurd r2 (by decide)
  have e0 : fX10_wordAt Z = fX10_wordAt_L4 Z (fun x => some x) (some (3 : Int32)) (9999 + 1) (oI (0 : Nat)) (oI (1 : Nat)) := Eq.trans rfl rfl
  by_cases b0 : stands t wg L q 6
  · exact ⟨0, by omega, ⟨fun _ => b0, fun _ => rfl⟩, ⟨fun h => by omega, fun h => absurd h (x01 b0)⟩, ⟨fun h => by omega, fun h => absurd h (x02 b0)⟩, e0.trans (a0.1 (s0.2 b0))⟩
  · have e1 := e0.trans (a0.2 (fun h => b0 (s0.1 h)))
    by_cases b1 : stands t wp L q 6
    · exact ⟨1, by omega, ⟨fun h => by omega, fun h => absurd h b0⟩, ⟨fun _ => b1, fun _ => rfl⟩, ⟨fun h => by omega, fun h => absurd h (x12 b1)⟩, e1.trans (a1.1 (s1.2 b1))⟩
    · have e2 := e1.trans (a1.2 (fun h => b1 (s1.1 h)))
      by_cases b2 : stands t wh L q 5
      · exact ⟨2, by omega, ⟨fun h => by omega, fun h => absurd h b0⟩, ⟨fun h => by omega, fun h => absurd h b1⟩, ⟨fun _ => b2, fun _ => rfl⟩, e2.trans (a2.1 (s2.2 b2))⟩
      · refine ⟨3, by omega, ⟨fun h => by omega, fun h => absurd h b0⟩, ⟨fun h => by omega, fun h => absurd h b1⟩, ⟨fun h => by omega, fun h => absurd h b2⟩, (e2.trans (a2.2 (fun h => b2 (s2.1 h)))).trans ?_⟩
        rw [fX10_wordAt_L4, sl50', if_pos (by decide)]; rfl
