/-! The plan that is read. -/
def p7 (c _ o : Nat) : Bool := (c == 4 || c == 18 || c == 19) && o == 7
def p28 (c _ _ : Nat) : Bool := c == 28
def plA (c k o : Nat) : Bool := r5 c k o || p7 c k o
def plZ (c k o : Nat) : Bool := r1f c k o || p28 c k o
theorem r5_pl {A A' : sM} (h : Fr r5 A A') : Fr plA A A' := h.mono fun c k o hq => by
  simp only [plA, Bool.or_eq_false_iff] at hq; exact hq.1
theorem p7_pl {A A' : sM} (h : Fr p7 A A') : Fr plA A A' := h.mono fun c k o hq => by
  simp only [plA, Bool.or_eq_false_iff] at hq; exact hq.2
theorem r1f_pl {A A' : sM} (h : Fr r1f A A') : Fr plZ A A' := h.mono fun c k o hq => by
  simp only [plZ, Bool.or_eq_false_iff] at hq; exact hq.1
theorem p28_pl {A A' : sM} (h : Fr p28 A A') : Fr plZ A A' := h.mono fun c k o hq => by
  simp only [plZ, Bool.or_eq_false_iff] at hq; exact hq.2
def row (g hh r : Nat → Int) (np k : Nat) : Int := if k < 4 then g k else if k = 4 then np else if k < 8 then 0 else if k < 32 then hh (k - 8) else if k < 36 then r (k - 32) else if k < 1348 then 0 else -1
def BD (g hh r : Nat → Int) (np : Nat) : Prop := ((1 ≤ g 0 ∧ g 0 ≤ 100000) ∧ (1 ≤ g 1 ∧ g 1 ≤ 24) ∧ (0 ≤ g 2 ∧ g 2 ≤ 100) ∧ (1 ≤ g 3 ∧ g 3 ≤ 100)) ∧ np ≤ 4 ∧ (∀ p, p < 4 → 0 ≤ r p ∧ r p ≤ 200) ∧ (∀ h, h < 24 → 0 ≤ hh h ∧ (hh h = 0 ∨ hh h < np))
def PL (A Z : sM) (np : Nat) (g hh r : Nat → Int) : Prop := ((∀ k, k < 4 → A.1 4 k 7 0 = oI (g k)) ∧ (∀ p, p < np → A.1 18 0 7 p = oI (r p)) ∧ (∀ h, h < 24 → A.1 19 0 7 h = oI (hh h))) ∧ (∀ k, k < 1588 → Z.1 28 0 0 k = oI (row g hh r np k)) ∧ BD g hh r np
def PLe (A Z : sM) (np : Nat) : Prop := ∃ g hh r, PL A Z np g hh r
section
variable {t : Nat → Int} {L p np : Nat} {A A' Z Z' : sM}
theorem PLe.fr (h : PLe A Z np) (hA : Fr r5 A A') (hZ : Fr r1f Z Z') : PLe A' Z' np := by
  obtain ⟨g, hh, r, ⟨h1, h2, h3⟩, h4, h5⟩ := h
  exact ⟨g, hh, r, ⟨fun k hk => by rw [hA.i rfl]; exact h1 k hk, fun p hp => by rw [hA.i rfl]; exact h2 p hp, fun x hx => by rw [hA.i rfl]; exact h3 x hx⟩, fun k hk => by rw [hZ.i rfl]; exact h4 k hk, h5⟩
theorem TK.pl {q : Nat} (h : TK Z t L q) (hZ : Fr p28 Z Z') : TK Z' t L q := by
  obtain ⟨k, e, ⟨h1, h2, h3⟩, h4, h5, h6, h7, ⟨h8, h9⟩, h10⟩ := h
  exact ⟨k, e, ⟨by rw [hZ.i rfl]; exact h1, by rw [hZ.i rfl]; exact h2, by rw [hZ.i rfl]; exact h3⟩, h4, h5, h6, h7, ⟨h8, fun q => ⟨(h9 q).1, by rw [hZ.l rfl]; exact (h9 q).2⟩⟩, h10⟩
theorem QQ.pl (h : QQ A Z t L p) (hA : Fr p7 A A') (hZ : Fr p28 Z Z') : QQ A' Z' t L p := by
  rcases h with ⟨p', hp, ⟨a1, a2⟩, ⟨b1, b2⟩, ⟨h4, h13⟩, ⟨hpL, h3⟩, hTK⟩ | ⟨h1, h2, h3⟩
  · exact .inl ⟨p', hp, ⟨by rw [hA.i rfl]; exact a1, fun k hk => by rw [hA.i rfl]; exact a2 k hk⟩, ⟨by rw [hZ.i rfl]; exact b1, fun k hk => by rw [hZ.i rfl]; exact b2 k hk⟩, ⟨by rw [hA.i rfl]; exact h4, by rw [hZ.i rfl]; exact h13⟩, ⟨hpL, by rw [hA.i rfl]; exact h3⟩, hTK.pl hZ⟩
  · exact .inr ⟨by rw [hA.i rfl]; exact h1, by rw [hZ.i rfl, hA.i rfl]; exact h2, by rw [hZ.i rfl, hA.i rfl]; exact h3⟩
def ro0 (k : Nat) : Int := if k < 1348 then 0 else -1
theorem bg_L (x1 x2 x3 x4 : Int32) : ∀ (d fuel i : Nat) (Z : sM), i + d = 1588 → d < fuel → (∀ k, k < i → Z.1 28 0 0 k = oI (ro0 k)) → ∃ Z', Fr p28 Z Z' ∧ (∀ k, k < 1588 → Z'.1 28 0 0 k = oI (ro0 k)) ∧ ∀ kk, fX10_begins_28_L3 x1 x2 x3 x4 kk fuel (oI i) Z = kk Z' := by
  intro d
  induction d with
  | zero =>
    intro fuel i Z hd hf hk
    obtain ⟨f, rfl⟩ : ∃ f, fuel = f + 1 := ⟨fuel - 1, by omega⟩
    refine ⟨Z, Fr.refl _, fun k hk' => hk k (by omega), fun kk => ?_⟩
    rw [fX10_begins_28_L3, if_pos (by simp (disch := omega) only [kI_0, kI_1, kI_2, kI_3, kI_4, kI_5, kI_6, kI_7, kI_8, kI_9, kI_10, kI_12, kI_16, kI_17, kI_19, kI_20, kI_23, kI_24, kI_30, kI_32, kI_36, kI_48, kI_57, kI_59, kI_60, kI_72, kI_80, kI_84, kI_97, kI_98, kI_100, kI_122, kI_148, kI_200, kI_300, kI_1058, kI_1108, kI_1348, kI_1588, kI_5290, kI_7940, kI_100000, kI_e7, kI_e9, kL_0, kL_1, kL_5, kL_9, kL_10, kL_12, kL_23, kL_30, kL_48, kL_57, kL_59, kL_97, kL_100, kL_122, kL_1000, kL_e7, kL_e9, kL_e10, oI_lt, oI_le, oI_eq, oL_lt, oL_le, oL_eq, oI_L, oI_clamp, oI_inb, oL_nz]; omega)]
  | succ d ih =>
    intro fuel i Z hd hf hk
    obtain ⟨f, rfl⟩ : ∃ f, fuel = f + 1 := ⟨fuel - 1, by omega⟩
    obtain ⟨Z', u1, u2, u3⟩ := ih f (i + 1) (wI Z 28 0 0 i (oI (ro0 i))) (by omega) (by omega) (fun k hk' => by
      rw [wI_1]
      by_cases e : k = i
      · rw [if_pos ⟨rfl, rfl, rfl, e⟩, e]
      · rw [if_neg (by omega)]; exact hk k (by omega))
    refine ⟨Z', Fr.trans ((Fr.refl _).wI rfl) u1, u2, fun kk => ?_⟩
    rw [fX10_begins_28_L3, if_neg (by simp (disch := omega) only [kI_0, kI_1, kI_2, kI_3, kI_4, kI_5, kI_6, kI_7, kI_8, kI_9, kI_10, kI_12, kI_16, kI_17, kI_19, kI_20, kI_23, kI_24, kI_30, kI_32, kI_36, kI_48, kI_57, kI_59, kI_60, kI_72, kI_80, kI_84, kI_97, kI_98, kI_100, kI_122, kI_148, kI_200, kI_300, kI_1058, kI_1108, kI_1348, kI_1588, kI_5290, kI_7940, kI_100000, kI_e7, kI_e9, kL_0, kL_1, kL_5, kL_9, kL_10, kL_12, kL_23, kL_30, kL_48, kL_57, kL_59, kL_97, kL_100, kL_122, kL_1000, kL_e7, kL_e9, kL_e10, oI_lt, oI_le, oI_eq, oL_lt, oL_le, oL_eq, oI_L, oI_clamp, oI_inb, oL_nz]; omega), ltb_eq]
    by_cases q : i < 1348
    · rw [if_pos (by simp (disch := omega) only [kI_0, kI_1, kI_2, kI_3, kI_4, kI_5, kI_6, kI_7, kI_8, kI_9, kI_10, kI_12, kI_16, kI_17, kI_19, kI_20, kI_23, kI_24, kI_30, kI_32, kI_36, kI_48, kI_57, kI_59, kI_60, kI_72, kI_80, kI_84, kI_97, kI_98, kI_100, kI_122, kI_148, kI_200, kI_300, kI_1058, kI_1108, kI_1348, kI_1588, kI_5290, kI_7940, kI_100000, kI_e7, kI_e9, kL_0, kL_1, kL_5, kL_9, kL_10, kL_12, kL_23, kL_30, kL_48, kL_57, kL_59, kL_97, kL_100, kL_122, kL_1000, kL_e7, kL_e9, kL_e10, oI_lt, oI_le, oI_eq, oL_lt, oL_le, oL_eq, oI_L, oI_clamp, oI_inb, oL_nz]; omega)]
      dsimp only
      rw [inbA (by omega) (by omega), gd_true, clpA (by omega), ltb_eq, kI_1, oI_add, nat1, ltb_eq, show (0 : Int32) = oI (ro0 i) from by rw [ro0, if_pos q]; rfl]
      exact u3 kk
    · rw [if_neg (by simp (disch := omega) only [kI_0, kI_1, kI_2, kI_3, kI_4, kI_5, kI_6, kI_7, kI_8, kI_9, kI_10, kI_12, kI_16, kI_17, kI_19, kI_20, kI_23, kI_24, kI_30, kI_32, kI_36, kI_48, kI_57, kI_59, kI_60, kI_72, kI_80, kI_84, kI_97, kI_98, kI_100, kI_122, kI_148, kI_200, kI_300, kI_1058, kI_1108, kI_1348, kI_1588, kI_5290, kI_7940, kI_100000, kI_e7, kI_e9, kL_0, kL_1, kL_5, kL_9, kL_10, kL_12, kL_23, kL_30, kL_48, kL_57, kL_59, kL_97, kL_100, kL_122, kL_1000, kL_e7, kL_e9, kL_e10, oI_lt, oI_le, oI_eq, oL_lt, oL_le, oL_eq, oI_L, oI_clamp, oI_inb, oL_nz]; omega)]
      dsimp only
      rw [show (-1 : Int32) = oI (ro0 i) from by rw [ro0, if_neg q]; rfl, inbA (by omega) (by omega), gd_true, clpA (by omega), ltb_eq, kI_1, oI_add, nat1, ltb_eq]
      exact u3 kk
theorem bgs (x1 x2 x3 x4 : Int32) (Z : sM) : ∃ Z', Fr p28 Z Z' ∧ (Z'.1 28 0 0 0 = x1 ∧ Z'.1 28 0 0 1 = x2 ∧ Z'.1 28 0 0 2 = x3 ∧ Z'.1 28 0 0 3 = x4) ∧ (∀ k, 4 ≤ k → k < 1588 → Z'.1 28 0 0 k = oI (ro0 k)) ∧ fX10_begins_28 x1 x2 x3 x4 Z = some Z' := by
  obtain ⟨Z', u1, u2, u3⟩ := bg_L x1 x2 x3 x4 1588 10000 0 Z (by omega) (by omega) (fun k hk => by omega)
  refine ⟨wI (wI (wI (wI Z' 28 0 0 0 x1) 28 0 0 1 x2) 28 0 0 2 x3) 28 0 0 3 x4, (((u1.wI rfl).wI rfl).wI rfl).wI rfl, ⟨?_, ?_, ?_, ?_⟩, fun k h1 h2 => ?_, ?_⟩
  · rw [wI_1, if_neg (by omega), wI_1, if_neg (by omega), wI_1, if_neg (by omega), wI_1, if_pos ⟨rfl, rfl, rfl, rfl⟩]
  · rw [wI_1, if_neg (by omega), wI_1, if_neg (by omega), wI_1, if_pos ⟨rfl, rfl, rfl, rfl⟩]
  · rw [wI_1, if_neg (by omega), wI_1, if_pos ⟨rfl, rfl, rfl, rfl⟩]
  · rw [wI_1, if_pos ⟨rfl, rfl, rfl, rfl⟩]
  · rw [wI_1, if_neg (by omega), wI_1, if_neg (by omega), wI_1, if_neg (by omega), wI_1, if_neg (by omega)]
    exact u2 k h2
  · rw [fX10_begins_28, show (0 : Int32) = oI (0 : Nat) from rfl]
    refine (u3 _).trans ?_
    simp only [ltb_eq]
    rfl
/-- hours set by the system -/
theorem shr_L {v2 : Nat} {v3 : Int32} (h2 : v2 ≤ 24) : ∀ (d fuel j : Nat) (A : sM), v2 - j = d → j ≤ v2 → d < fuel → ∃ A', Fr p7 A A' ∧ (∀ c k o i, ¬ c = 19 → A'.1 c k o i = A.1 c k o i) ∧ (∀ h, A'.1 19 0 7 h = if j ≤ h ∧ h < v2 then v3 else A.1 19 0 7 h) ∧ ∀ kk, fX4_setHours_L7 7 (oI v2) v3 kk fuel (oI j) A = kk A' := by
  intro d
  induction d with
  | zero =>
    intro fuel j A hd hj hf
    obtain ⟨f, rfl⟩ : ∃ f, fuel = f + 1 := ⟨fuel - 1, by omega⟩
    refine ⟨A, Fr.refl _, fun _ _ _ _ _ => rfl, fun h => by rw [if_neg (by omega)], fun kk => ?_⟩
    rw [fX4_setHours_L7, if_pos (by simp (disch := omega) only [oI_lt, oI_le, oI_eq, oL_lt, oL_le, oL_eq, oI_L, oI_clamp, oI_inb, oL_nz]; omega)]
  | succ d ih =>
    intro fuel j A hd hj hf
    obtain ⟨f, rfl⟩ : ∃ f, fuel = f + 1 := ⟨fuel - 1, by omega⟩
    obtain ⟨A', u1, u2, u3, u4⟩ := ih f (j + 1) (wI A 19 0 7 j v3) (by omega) (by omega) (by omega)
    refine ⟨A', Fr.trans ((Fr.refl _).wI rfl) u1, fun c k o i hc => by rw [u2 c k o i hc, wI_1, if_neg (by omega)], fun h => ?_, fun kk => ?_⟩
    · rw [u3 h, wI_1]
      by_cases e : h = j
      · rw [if_neg (by omega), if_pos ⟨rfl, rfl, rfl, e⟩, if_pos (by omega)]
      · by_cases e2 : j + 1 ≤ h ∧ h < v2
        · rw [if_pos e2, if_pos (by omega)]
        · rw [if_neg e2, if_neg (by omega), if_neg (by omega)]
    · rw [fX4_setHours_L7, if_neg (by simp (disch := omega) only [oI_lt, oI_le, oI_eq, oL_lt, oL_le, oL_eq, oI_L, oI_clamp, oI_inb, oL_nz]; omega), if_neg (by simp (disch := omega) only [kI_0, kI_1, kI_2, kI_3, kI_4, kI_5, kI_6, kI_7, kI_8, kI_9, kI_10, kI_12, kI_16, kI_17, kI_19, kI_20, kI_23, kI_24, kI_30, kI_32, kI_36, kI_48, kI_57, kI_59, kI_60, kI_72, kI_80, kI_84, kI_97, kI_98, kI_100, kI_122, kI_148, kI_200, kI_300, kI_1058, kI_1108, kI_1348, kI_1588, kI_5290, kI_7940, kI_100000, kI_e7, kI_e9, kL_0, kL_1, kL_5, kL_9, kL_10, kL_12, kL_23, kL_30, kL_48, kL_57, kL_59, kL_97, kL_100, kL_122, kL_1000, kL_e7, kL_e9, kL_e10, oI_lt, oI_le, oI_eq, oL_lt, oL_le, oL_eq, oI_L, oI_clamp, oI_inb, oL_nz]; omega), inbA (by omega) (by omega), gd_true, clpA (by omega), ltb_eq, kI_1, oI_add, nat1, ltb_eq]
      exact u4 kk
/-- .. and by the reference -/
theorem shz_L {v2 : Nat} {v3 : Int32} (h2 : v2 ≤ 24) : ∀ (d fuel j : Nat) (Z : sM), v2 - j = d → j ≤ v2 → d < fuel → Z.1 10 13 0 0 = 0 → ∃ Z', Fr p28 Z Z' ∧ (∀ k, Z'.1 28 0 0 k = if 8 + j ≤ k ∧ k < 8 + v2 then v3 else Z.1 28 0 0 k) ∧ ∀ kk, fX10_readsHours_L45 (oI v2) v3 kk fuel (oI j) Z = kk Z' := by
  intro d
  induction d with
  | zero =>
    intro fuel j Z hd hj hf h13
    obtain ⟨f, rfl⟩ : ∃ f, fuel = f + 1 := ⟨fuel - 1, by omega⟩
    refine ⟨Z, Fr.refl _, fun h => by rw [if_neg (by omega)], fun kk => ?_⟩
    rw [fX10_readsHours_L45, if_pos (by simp (disch := omega) only [oI_lt, oI_le, oI_eq, oL_lt, oL_le, oL_eq, oI_L, oI_clamp, oI_inb, oL_nz]; omega)]
  | succ d ih =>
    intro fuel j Z hd hj hf h13
    obtain ⟨f, rfl⟩ : ∃ f, fuel = f + 1 := ⟨fuel - 1, by omega⟩
    obtain ⟨Z', u1, u3, u4⟩ := ih f (j + 1) (wI Z 28 0 0 (8 + j) v3) (by omega) (by omega) (by omega) (by rw [wI_1, if_neg (by omega)]; exact h13)
    refine ⟨Z', Fr.trans ((Fr.refl _).wI rfl) u1, fun h => ?_, fun kk => ?_⟩
    · rw [u3 h, wI_1]
      by_cases e : h = 8 + j
      · rw [if_neg (by omega), if_pos ⟨rfl, rfl, rfl, e⟩, if_pos (by omega)]
      · by_cases e2 : 8 + (j + 1) ≤ h ∧ h < 8 + v2
        · rw [if_pos e2, if_pos (by omega)]
        · rw [if_neg e2, if_neg (by omega), if_neg (by omega)]
    · rw [fX10_readsHours_L45, if_neg (by simp (disch := omega) only [oI_lt, oI_le, oI_eq, oL_lt, oL_le, oL_eq, oI_L, oI_clamp, oI_inb, oL_nz]; omega), if_pos h13, kI_8, oI_add, show ((8 : Int) + (j : Int)) = ((8 + j : Nat) : Int) from rfl, inbA (by omega) (by omega), gd_true, clpA (by omega), ltb_eq, kI_1, oI_add, nat1, ltb_eq]
      exact u4 kk
end
