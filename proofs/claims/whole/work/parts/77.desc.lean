/-! Descriptions: bytes put one after another. -/
def DX (A Z : sM) (dl : Nat) : Prop := A.1 2 1 0 0 = oI dl ∧ Z.1 10 25 0 0 = oI dl ∧ ∀ k, k < dl → A.1 14 0 0 k = Z.1 40 0 0 k
def dA (c k _ : Nat) : Bool := (c == 2 && k == 1) || c == 14
def dZ (c k _ : Nat) : Bool := (c == 10 && k == 25) || c == 40
def putL : List Int32 → sM → Option sM
  | [], A => some A
  | x :: xs, A => Option.bind (fX2_putByte x A) (putL xs)
def telL : List Int32 → sM → Option sM
  | [], Z => some Z
  | x :: xs, Z => Option.bind (fX10_tells x Z) (telL xs)
theorem bd_bd {α β γ : Type} (a : Option α) (f : α → Option β) (g : β → Option γ) : Option.bind (Option.bind a f) g = Option.bind a fun x => Option.bind (f x) g := by cases a <;> rfl
theorem putL_a (xs ys : List Int32) : ∀ A : sM, putL (xs ++ ys) A = Option.bind (putL xs A) (putL ys) := by
  induction xs with
  | nil => intro A; rfl
  | cons x xs ih =>
    intro A
    show Option.bind (fX2_putByte x A) (putL (xs ++ ys)) = Option.bind (Option.bind (fX2_putByte x A) (putL xs)) (putL ys)
    rw [bd_bd]
    exact congrArg _ (funext ih)
theorem telL_a (xs ys : List Int32) : ∀ Z : sM, telL (xs ++ ys) Z = Option.bind (telL xs Z) (telL ys) := by
  induction xs with
  | nil => intro Z; rfl
  | cons x xs ih =>
    intro Z
    show Option.bind (fX10_tells x Z) (telL (xs ++ ys)) = Option.bind (Option.bind (fX10_tells x Z) (telL xs)) (telL ys)
    rw [bd_bd]
    exact congrArg _ (funext ih)
theorem emit : ∀ (xs : List Int32) (A Z : sM) (dl : Nat), DX A Z dl → dl + xs.length ≤ 80 → ∃ A' Z', putL xs A = some A' ∧ telL xs Z = some Z' ∧ Fr dA A A' ∧ Fr dZ Z Z' ∧ DX A' Z' (dl + xs.length) := by
  intro xs
  induction xs with
  | nil => intro A Z dl h _; exact ⟨A, Z, rfl, rfl, Fr.refl _, Fr.refl _, h⟩
  | cons x xs ih =>
    intro A Z dl h hl
    rw [List.length_cons] at hl
    obtain ⟨h1, h2, h3⟩ := h
    have e1 : fX2_putByte x A = some (wI (wI A 14 0 0 dl (x.toInt8.toInt32)) 2 1 0 0 (oI (dl + 1 : Nat))) := by
      rw [fX2_putByte, h1, if_neg (by simp (disch := omega) only [kI_0, kI_1, kI_2, kI_3, kI_4, kI_5, kI_6, kI_7, kI_8, kI_9, kI_10, kI_12, kI_16, kI_17, kI_19, kI_20, kI_23, kI_24, kI_30, kI_32, kI_36, kI_48, kI_57, kI_59, kI_60, kI_72, kI_80, kI_84, kI_97, kI_98, kI_100, kI_122, kI_148, kI_200, kI_300, kI_1058, kI_1108, kI_1348, kI_1588, kI_5290, kI_7940, kI_100000, kI_e7, kI_e9, kL_0, kL_1, kL_5, kL_9, kL_10, kL_12, kL_23, kL_30, kL_48, kL_57, kL_59, kL_97, kL_100, kL_122, kL_1000, kL_e7, kL_e9, kL_e10, oI_lt, oI_le, oI_eq, oL_lt, oL_le, oL_eq, oI_L, oI_clamp, oI_inb, oL_nz]; omega), inbA (by omega) (by omega), gd_true, clpA (by omega), ltb_eq, wI_1, if_neg (by omega), h1, kI_1, oI_add, nat1, ltb_eq]
    have e2 : fX10_tells x Z = some (wI (wI Z 40 0 0 dl (x.toInt8.toInt32)) 10 25 0 0 (oI (dl + 1 : Nat))) := by
      rw [fX10_tells, h2, inbA (by omega) (by omega), gd_true, clpA (by omega), ltb_eq, wI_1, if_neg (by omega), h2, kI_1, oI_add, nat1, ltb_eq]
    obtain ⟨A', Z', u1, u2, u3, u4, u5⟩ := ih (wI (wI A 14 0 0 dl (x.toInt8.toInt32)) 2 1 0 0 (oI (dl + 1 : Nat))) (wI (wI Z 40 0 0 dl (x.toInt8.toInt32)) 10 25 0 0 (oI (dl + 1 : Nat))) (dl + 1) ⟨by rw [wI_1, if_pos ⟨rfl, rfl, rfl, rfl⟩], by rw [wI_1, if_pos ⟨rfl, rfl, rfl, rfl⟩], fun k hk => by
      rw [wI_1 _ 2 1, if_neg (by omega), wI_1 _ 10 25, if_neg (by omega), wI_1, wI_1]
      by_cases q : k = dl
      · rw [if_pos ⟨rfl, rfl, rfl, q⟩, if_pos ⟨rfl, rfl, rfl, q⟩]
      · rw [if_neg (by omega), if_neg (by omega)]; exact h3 k (by omega)⟩ (by omega)
    refine ⟨A', Z', ?_, ?_, Fr.trans (((Fr.refl _).wI rfl).wI rfl) u3, Fr.trans (((Fr.refl _).wI rfl).wI rfl) u4, ?_⟩
    · show Option.bind (fX2_putByte x A) (putL xs) = _
      rw [e1, bd_eq]; exact u1
    · show Option.bind (fX10_tells x Z) (telL xs) = _
      rw [e2, bd_eq]; exact u2
    · rw [List.length_cons, show dl + (xs.length + 1) = dl + 1 + xs.length by omega]; exact u5
/-- the last digits of a number -/
def dgs : Nat → Int → List Int32
  | 0, v => [oI (48 + v % 10)]
  | k + 1, v => dgs k (v / 10) ++ [oI (48 + v % 10)]
theorem dgs_len : ∀ (k : Nat) (v : Int), (dgs k v).length = k + 1
  | 0, _ => rfl
  | k + 1, v => by rw [dgs, List.length_append, dgs_len k (v / 10)]; rfl
theorem p10 : ∀ k : Nat, (0 : Int) < 10 ^ k
  | 0 => by decide
  | k + 1 => by rw [Int.pow_succ]; have := p10 k; omega
theorem dgs_c : ∀ (k : Nat) (v : Int), dgs (k + 1) v = oI (48 + v / 10 ^ (k + 1) % 10) :: dgs k v
  | 0, v => by
    show [oI (48 + v / 10 % 10)] ++ [oI (48 + v % 10)] = _
    rw [show (10 : Int) ^ (0 + 1) = 10 from by decide]
    rfl
  | k + 1, v => by
    rw [dgs, dgs_c k (v / 10), dgs, Int.ediv_ediv_of_nonneg (by decide), show (10 : Int) * 10 ^ (k + 1) = 10 ^ (k + 1 + 1) from by rw [Int.pow_succ 10 (k + 1), Int.mul_comm]]
    rfl
theorem div1 (y : Int64) : y / oL 1 = y := by
  rw [← Int64.toInt_inj, Int64.toInt_div_of_ne_right _ _ (by decide), oL_toInt (by omega) (by omega), Int.tdiv_one]
theorem p10_le {j k : Nat} (h : j ≤ k) : (10 : Int) ^ j ≤ 10 ^ k := by
  induction h with
  | refl => exact Int.le_refl _
  | step _ ih => rw [Int.pow_succ]; have := p10 j; omega
theorem p10_18 {k : Nat} (h : k ≤ 18) : (10 : Int) ^ k ≤ 1000000000000000000 := by
  have := p10_le h
  rw [show (10 : Int) ^ 18 = 1000000000000000000 from by decide] at this
  exact this
theorem dg_b {v : Int} (h : 0 ≤ v ∧ v < 9223372036854775808) : (48 : Int32) + ((oL v - oL v / (10 : Int64) * (10 : Int64)).toInt32) = oI (48 + v % 10) := by
  rw [kL_10, oL_div h.1 h.2 (by omega) (by omega), oL_mul, oL_sub, oL_I, kI_48, oI_add, rem_eq]
theorem telN : ∀ (k fuel : Nat) (v : Int) (Z : sM), k < fuel → 0 ≤ v → v < 9223372036854775808 → v < 10 ^ (k + 1) → (k = 0 ∨ 10 ^ k ≤ v) → fX10_tellsNumber fuel (oL v) Z = telL (dgs k v) Z := by
  intro k
  induction k with
  | zero =>
    intro fuel v Z hf h0 h63 h1 _
    obtain ⟨f, rfl⟩ : ∃ f, fuel = f + 1 := ⟨fuel - 1, by omega⟩
    rw [show (10 : Int) ^ (0 + 1) = 10 from by decide] at h1
    rw [fX10_tellsNumber, if_pos (by simp (disch := omega) only [kI_0, kI_1, kI_2, kI_3, kI_4, kI_5, kI_6, kI_7, kI_8, kI_9, kI_10, kI_12, kI_16, kI_17, kI_19, kI_20, kI_23, kI_24, kI_30, kI_32, kI_36, kI_48, kI_57, kI_59, kI_60, kI_72, kI_80, kI_84, kI_97, kI_98, kI_100, kI_122, kI_148, kI_200, kI_300, kI_1058, kI_1108, kI_1348, kI_1588, kI_5290, kI_7940, kI_100000, kI_e7, kI_e9, kL_0, kL_1, kL_5, kL_9, kL_10, kL_12, kL_23, kL_30, kL_48, kL_57, kL_59, kL_97, kL_100, kL_122, kL_1000, kL_e7, kL_e9, kL_e10, oI_lt, oI_le, oI_eq, oL_lt, oL_le, oL_eq, oI_L, oI_clamp, oI_inb, oL_nz]; omega), dg_b ⟨h0, h63⟩]
    rfl
  | succ k ih =>
    intro fuel v Z hf h0 h63 h1 h2
    obtain ⟨f, rfl⟩ : ∃ f, fuel = f + 1 := ⟨fuel - 1, by omega⟩
    have h3 : (10 : Int) ^ (k + 1) ≤ v := h2.resolve_left (by omega)
    have e1 : (10 : Int) ^ (k + 1) = 10 ^ k * 10 := Int.pow_succ _ _
    have e2 : (10 : Int) ^ (k + 1 + 1) = 10 ^ (k + 1) * 10 := Int.pow_succ _ _
    have hp := p10 k
    rw [fX10_tellsNumber, if_neg (by simp (disch := omega) only [kI_0, kI_1, kI_2, kI_3, kI_4, kI_5, kI_6, kI_7, kI_8, kI_9, kI_10, kI_12, kI_16, kI_17, kI_19, kI_20, kI_23, kI_24, kI_30, kI_32, kI_36, kI_48, kI_57, kI_59, kI_60, kI_72, kI_80, kI_84, kI_97, kI_98, kI_100, kI_122, kI_148, kI_200, kI_300, kI_1058, kI_1108, kI_1348, kI_1588, kI_5290, kI_7940, kI_100000, kI_e7, kI_e9, kL_0, kL_1, kL_5, kL_9, kL_10, kL_12, kL_23, kL_30, kL_48, kL_57, kL_59, kL_97, kL_100, kL_122, kL_1000, kL_e7, kL_e9, kL_e10, oI_lt, oI_le, oI_eq, oL_lt, oL_le, oL_eq, oI_L, oI_clamp, oI_inb, oL_nz]; omega), dg_b ⟨h0, h63⟩, kL_10, oL_div h0 h63 (by omega) (by omega), ih f (v / 10) Z (by omega) (by omega) (by omega) (by omega) (by omega), dgs, telL_a]
    rfl
theorem pt5 {v : Int} (h0 : 0 ≤ v) (h63 : v < 9223372036854775808) {k : Nat} (hk : k ≤ 18) (h1 : v < 10 ^ (k + 1)) (h2 : k = 0 ∨ 10 ^ k ≤ v) (A : sM) (kk : Int64 → Option sM) : ∀ (d fuel j : Nat), j + d = k → d < fuel → fX2_putNumber_L5 (oL v) A kk fuel (oL (10 ^ j)) (oI ((j + 1 : Nat) : Int)) = kk (oL (10 ^ k)) := by
  intro d
  induction d with
  | zero =>
    intro fuel j hj hf
    obtain ⟨f, rfl⟩ : ∃ f, fuel = f + 1 := ⟨fuel - 1, by omega⟩
    have ej : j = k := by omega
    have hp := p10 j
    have hp2 := p10_18 (k := j) (by omega)
    rw [fX2_putNumber_L5]
    by_cases q : j = 18
    · rw [if_pos (by simp (disch := omega) only [kI_0, kI_1, kI_2, kI_3, kI_4, kI_5, kI_6, kI_7, kI_8, kI_9, kI_10, kI_12, kI_16, kI_17, kI_19, kI_20, kI_23, kI_24, kI_30, kI_32, kI_36, kI_48, kI_57, kI_59, kI_60, kI_72, kI_80, kI_84, kI_97, kI_98, kI_100, kI_122, kI_148, kI_200, kI_300, kI_1058, kI_1108, kI_1348, kI_1588, kI_5290, kI_7940, kI_100000, kI_e7, kI_e9, kL_0, kL_1, kL_5, kL_9, kL_10, kL_12, kL_23, kL_30, kL_48, kL_57, kL_59, kL_97, kL_100, kL_122, kL_1000, kL_e7, kL_e9, kL_e10, oI_lt, oI_le, oI_eq, oL_lt, oL_le, oL_eq, oI_L, oI_clamp, oI_inb, oL_nz]; omega), ej]
    · have e2 : (10 : Int) ^ (j + 1) = 10 ^ j * 10 := Int.pow_succ _ _
      have h3 : v / 10 ^ j < 10 := Int.ediv_lt_of_lt_mul hp (by rw [ej] at e2 ⊢; rw [Int.mul_comm]; omega)
      have h4 : 0 ≤ v / 10 ^ j := Int.ediv_nonneg h0 (by omega)
      rw [if_neg (by simp (disch := omega) only [kI_0, kI_1, kI_2, kI_3, kI_4, kI_5, kI_6, kI_7, kI_8, kI_9, kI_10, kI_12, kI_16, kI_17, kI_19, kI_20, kI_23, kI_24, kI_30, kI_32, kI_36, kI_48, kI_57, kI_59, kI_60, kI_72, kI_80, kI_84, kI_97, kI_98, kI_100, kI_122, kI_148, kI_200, kI_300, kI_1058, kI_1108, kI_1348, kI_1588, kI_5290, kI_7940, kI_100000, kI_e7, kI_e9, kL_0, kL_1, kL_5, kL_9, kL_10, kL_12, kL_23, kL_30, kL_48, kL_57, kL_59, kL_97, kL_100, kL_122, kL_1000, kL_e7, kL_e9, kL_e10, oI_lt, oI_le, oI_eq, oL_lt, oL_le, oL_eq, oI_L, oI_clamp, oI_inb, oL_nz]; omega), oL_nz (by omega) (by omega) (by omega), gd_true, oL_div h0 h63 hp (by omega), if_pos (by simp (disch := omega) only [kI_0, kI_1, kI_2, kI_3, kI_4, kI_5, kI_6, kI_7, kI_8, kI_9, kI_10, kI_12, kI_16, kI_17, kI_19, kI_20, kI_23, kI_24, kI_30, kI_32, kI_36, kI_48, kI_57, kI_59, kI_60, kI_72, kI_80, kI_84, kI_97, kI_98, kI_100, kI_122, kI_148, kI_200, kI_300, kI_1058, kI_1108, kI_1348, kI_1588, kI_5290, kI_7940, kI_100000, kI_e7, kI_e9, kL_0, kL_1, kL_5, kL_9, kL_10, kL_12, kL_23, kL_30, kL_48, kL_57, kL_59, kL_97, kL_100, kL_122, kL_1000, kL_e7, kL_e9, kL_e10, oI_lt, oI_le, oI_eq, oL_lt, oL_le, oL_eq, oI_L, oI_clamp, oI_inb, oL_nz]; omega), ej]
  | succ d ih =>
    intro fuel j hj hf
    obtain ⟨f, rfl⟩ : ∃ f, fuel = f + 1 := ⟨fuel - 1, by omega⟩
    have hp := p10 j
    have hp2 := p10_18 (k := j) (by omega)
    have e2 : (10 : Int) ^ (j + 1) = 10 ^ j * 10 := Int.pow_succ _ _
    have h3 : (10 : Int) ^ (j + 1) ≤ v := Int.le_trans (p10_le (show j + 1 ≤ k by omega)) (h2.resolve_left (by omega))
    have h4 : 10 ≤ v / 10 ^ j := (Int.le_ediv_iff_mul_le hp).2 (by omega)
    have h5 : v / 10 ^ j ≤ v := Int.ediv_le_self _ h0
    rw [fX2_putNumber_L5, if_neg (by simp (disch := omega) only [kI_0, kI_1, kI_2, kI_3, kI_4, kI_5, kI_6, kI_7, kI_8, kI_9, kI_10, kI_12, kI_16, kI_17, kI_19, kI_20, kI_23, kI_24, kI_30, kI_32, kI_36, kI_48, kI_57, kI_59, kI_60, kI_72, kI_80, kI_84, kI_97, kI_98, kI_100, kI_122, kI_148, kI_200, kI_300, kI_1058, kI_1108, kI_1348, kI_1588, kI_5290, kI_7940, kI_100000, kI_e7, kI_e9, kL_0, kL_1, kL_5, kL_9, kL_10, kL_12, kL_23, kL_30, kL_48, kL_57, kL_59, kL_97, kL_100, kL_122, kL_1000, kL_e7, kL_e9, kL_e10, oI_lt, oI_le, oI_eq, oL_lt, oL_le, oL_eq, oI_L, oI_clamp, oI_inb, oL_nz]; omega), oL_nz (by omega) (by omega) (by omega), gd_true, oL_div h0 h63 hp (by omega), if_neg (by simp (disch := omega) only [kI_0, kI_1, kI_2, kI_3, kI_4, kI_5, kI_6, kI_7, kI_8, kI_9, kI_10, kI_12, kI_16, kI_17, kI_19, kI_20, kI_23, kI_24, kI_30, kI_32, kI_36, kI_48, kI_57, kI_59, kI_60, kI_72, kI_80, kI_84, kI_97, kI_98, kI_100, kI_122, kI_148, kI_200, kI_300, kI_1058, kI_1108, kI_1348, kI_1588, kI_5290, kI_7940, kI_100000, kI_e7, kI_e9, kL_0, kL_1, kL_5, kL_9, kL_10, kL_12, kL_23, kL_30, kL_48, kL_57, kL_59, kL_97, kL_100, kL_122, kL_1000, kL_e7, kL_e9, kL_e10, oI_lt, oI_le, oI_eq, oL_lt, oL_le, oL_eq, oI_L, oI_clamp, oI_inb, oL_nz]; omega), kL_10, oL_mul, ltb_eq, ltb_eq, kI_1, oI_add, nat1, ← e2]
    exact ih f (j + 1) (by omega) (by omega)
theorem pt34 {v : Int} (h0 : 0 ≤ v) (h63 : v < 9223372036854775808) (kk : sM → Option sM) : ∀ (k fuel : Nat) (A : sM), k ≤ 18 → k + 1 < fuel → fX2_putNumber_L34 (oL v) kk fuel (oL (10 ^ k)) A = Option.bind (putL (dgs k v) A) kk := by
  intro k
  induction k with
  | zero =>
    intro fuel A _ hf
    obtain ⟨f, rfl⟩ : ∃ f, fuel = f + 1 + 1 := ⟨fuel - 2, by omega⟩
    rw [show (10 : Int) ^ 0 = 1 from by decide, fX2_putNumber_L34, if_neg (by decide), show nzL (oL 1) = true from rfl, gd_true, div1, dg_b ⟨h0, h63⟩]
    show _ = Option.bind (Option.bind (fX2_putByte (oI (48 + v % 10)) A) (putL [])) kk
    rw [bd_bd]
    refine congrArg _ (funext fun A2 => ?_)
    rw [kL_10, oL_div (by omega) (by omega) (by omega) (by omega), ltb_eq, fX2_putNumber_L34, if_pos (by decide)]
    rfl
  | succ k ih =>
    intro fuel A hk hf
    obtain ⟨f, rfl⟩ : ∃ f, fuel = f + 1 := ⟨fuel - 1, by omega⟩
    have hp := p10 (k + 1)
    have hp2 := p10_18 hk
    have e2 : (10 : Int) ^ (k + 1) = 10 ^ k * 10 := Int.pow_succ _ _
    have h4 : 0 ≤ v / 10 ^ (k + 1) := Int.ediv_nonneg h0 (by omega)
    have h5 : v / 10 ^ (k + 1) ≤ v := Int.ediv_le_self _ h0
    rw [fX2_putNumber_L34, if_neg (by simp (disch := omega) only [kI_0, kI_1, kI_2, kI_3, kI_4, kI_5, kI_6, kI_7, kI_8, kI_9, kI_10, kI_12, kI_16, kI_17, kI_19, kI_20, kI_23, kI_24, kI_30, kI_32, kI_36, kI_48, kI_57, kI_59, kI_60, kI_72, kI_80, kI_84, kI_97, kI_98, kI_100, kI_122, kI_148, kI_200, kI_300, kI_1058, kI_1108, kI_1348, kI_1588, kI_5290, kI_7940, kI_100000, kI_e7, kI_e9, kL_0, kL_1, kL_5, kL_9, kL_10, kL_12, kL_23, kL_30, kL_48, kL_57, kL_59, kL_97, kL_100, kL_122, kL_1000, kL_e7, kL_e9, kL_e10, oI_lt, oI_le, oI_eq, oL_lt, oL_le, oL_eq, oI_L, oI_clamp, oI_inb, oL_nz]; omega), oL_nz (by omega) (by omega) (by omega), gd_true, oL_div h0 h63 hp (by omega), dg_b ⟨h4, by omega⟩, dgs_c]
    show _ = Option.bind (Option.bind (fX2_putByte (oI (48 + v / 10 ^ (k + 1) % 10)) A) (putL (dgs k v))) kk
    rw [bd_bd]
    refine congrArg _ (funext fun A2 => ?_)
    rw [kL_10, oL_div (by omega) (by omega) (by omega) (by omega), show (10 : Int) ^ (k + 1) / 10 = 10 ^ k by rw [e2]; exact Int.mul_ediv_cancel _ (by decide), ltb_eq]
    exact ih f A2 (by omega) (by omega)
