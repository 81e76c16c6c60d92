theorem k_ex {v : Int} : ∀ m : Nat, v < 10 ^ (m + 1) → ∃ k, k ≤ m ∧ v < 10 ^ (k + 1) ∧ (k = 0 ∨ (10 : Int) ^ k ≤ v)
  | 0, h => ⟨0, Nat.le_refl _, h, Or.inl rfl⟩
  | m + 1, h => by
    by_cases q : v < 10 ^ (m + 1)
    · obtain ⟨k, k1, k2⟩ := k_ex m q
      exact ⟨k, by omega, k2⟩
    · exact ⟨m + 1, Nat.le_refl _, h, Or.inr (by omega)⟩
theorem bd_sme {α : Type} (x : Option α) : (Option.bind x fun a => some a) = x := by cases x <;> rfl
theorem nums {v : Int} {m : Nat} (h1 : -9223372036854775808 ≤ v) (h2 : v < 9223372036854775808) (hm : m ≤ 18) (h3 : v < 10 ^ (m + 1)) : ∃ xs : List Int32, xs.length ≤ m + 1 ∧ (∀ A, fX2_putNumber (oL v) A = putL xs A) ∧ ∀ Z, fX10_tellsNumber 30 (oL v) Z = telL xs Z := by
  by_cases h0 : 0 ≤ v
  · obtain ⟨k, k1, k2, k3⟩ := k_ex m h3
    refine ⟨dgs k v, by rw [dgs_len]; omega, fun A => ?_, fun Z => telN k 30 v Z (by omega) h0 h2 k2 k3⟩
    rw [fX2_putNumber]
    refine (pt5 h0 h2 (by omega) k2 k3 A _ k 10000 0 (by omega) (by omega)).trans ?_
    rw [pt34 h0 h2 _ k 10000 A (by omega) (by omega)]
    exact bd_sme _
  · refine ⟨[(48 : Int32) + ((oL v - oL v / (10 : Int64) * (10 : Int64)).toInt32)], by rw [List.length_singleton]; omega, fun A => ?_, fun Z => ?_⟩
    · rw [fX2_putNumber, fX2_putNumber_L5, if_neg (by decide), show nzL (1 : Int64) = true from rfl, gd_true, show oL v / (1 : Int64) = oL v from div1 _, if_pos (by simp (disch := omega) only [kI_0, kI_1, kI_2, kI_3, kI_4, kI_5, kI_6, kI_7, kI_8, kI_9, kI_10, kI_12, kI_16, kI_17, kI_19, kI_20, kI_23, kI_24, kI_30, kI_32, kI_36, kI_48, kI_57, kI_59, kI_60, kI_72, kI_80, kI_84, kI_97, kI_98, kI_100, kI_122, kI_148, kI_200, kI_300, kI_1058, kI_1108, kI_1348, kI_1588, kI_5290, kI_7940, kI_100000, kI_e7, kI_e9, kL_0, kL_1, kL_5, kL_9, kL_10, kL_12, kL_23, kL_30, kL_48, kL_57, kL_59, kL_97, kL_100, kL_122, kL_1000, kL_e7, kL_e9, kL_e10, oI_lt, oI_le, oI_eq, oL_lt, oL_le, oL_eq, oI_L, oI_clamp, oI_inb, oL_nz]; omega), fX2_putNumber_L34, if_neg (by decide), show nzL (1 : Int64) = true from rfl, gd_true, show oL v / (1 : Int64) = oL v from div1 _]
      show _ = Option.bind (fX2_putByte _ A) (putL [])
      refine congrArg _ (funext fun A2 => ?_)
      rw [show (1 : Int64) / 10 = 0 from rfl, ltb_eq, fX2_putNumber_L34, if_pos (by decide)]
      rfl
    · rw [fX10_tellsNumber, if_pos (by simp (disch := omega) only [kI_0, kI_1, kI_2, kI_3, kI_4, kI_5, kI_6, kI_7, kI_8, kI_9, kI_10, kI_12, kI_16, kI_17, kI_19, kI_20, kI_23, kI_24, kI_30, kI_32, kI_36, kI_48, kI_57, kI_59, kI_60, kI_72, kI_80, kI_84, kI_97, kI_98, kI_100, kI_122, kI_148, kI_200, kI_300, kI_1058, kI_1108, kI_1348, kI_1588, kI_5290, kI_7940, kI_100000, kI_e7, kI_e9, kL_0, kL_1, kL_5, kL_9, kL_10, kL_12, kL_23, kL_30, kL_48, kL_57, kL_59, kL_97, kL_100, kL_122, kL_1000, kL_e7, kL_e9, kL_e10, oI_lt, oI_le, oI_eq, oL_lt, oL_le, oL_eq, oI_L, oI_clamp, oI_inb, oL_nz]; omega)]
      rfl
theorem ptx_L {s1 L : Nat} (hL : strL s1 = oI L) (hl : sLen.getD s1 0 = L) (hb : L < 1000) (kk : sM → Option sM) : ∀ (d fuel k : Nat) (A : sM), k + d = L → d < fuel → fX2_putText_L2 s1 kk fuel (oI k) A = Option.bind (putL ((List.range' k d).map (strC s1)) A) kk := by
  intro d
  induction d with
  | zero =>
    intro fuel k A hk hf
    obtain ⟨f, rfl⟩ : ∃ f, fuel = f + 1 := ⟨fuel - 1, by omega⟩
    rw [fX2_putText_L2, hL, if_pos (by simp (disch := omega) only [oI_lt, oI_le, oI_eq, oL_lt, oL_le, oL_eq, oI_L, oI_clamp, oI_inb, oL_nz]; omega)]
    rfl
  | succ d ih =>
    intro fuel k A hk hf
    obtain ⟨f, rfl⟩ : ∃ f, fuel = f + 1 := ⟨fuel - 1, by omega⟩
    rw [fX2_putText_L2, hL, hl, if_neg (by simp (disch := omega) only [oI_lt, oI_le, oI_eq, oL_lt, oL_le, oL_eq, oI_L, oI_clamp, oI_inb, oL_nz]; omega), inbA (by omega) (by omega), gd_true, clpA (by omega)]
    show _ = Option.bind (Option.bind (fX2_putByte (strC s1 k) A) (putL ((List.range' (k + 1) d).map (strC s1)))) kk
    rw [bd_bd]
    refine congrArg _ (funext fun A2 => ?_)
    rw [ltb_eq, kI_1, oI_add, nat1]
    exact ih f (k + 1) A2 (by omega) (by omega)
theorem ptx {s1 L : Nat} (hL : strL s1 = oI L) (hl : sLen.getD s1 0 = L) (hb : L < 1000) (A : sM) : fX2_putText s1 A = putL ((List.range' 0 L).map (strC s1)) A := by
  rw [fX2_putText]
  exact (ptx_L hL hl hb _ L 10000 0 A (by omega) (by omega)).trans (bd_sme _)
theorem twd_L {b : Nat} (hb : b ≤ 17) (kk : sM → Option sM) : ∀ (d fuel k : Nat) (Z : sM), k + d = b → d < fuel → fX10_tellsWord_L2 (oI b) kk fuel (oI k) Z = Option.bind (telL ((List.range' k d).map (strC 51)) Z) kk := by
  intro d
  induction d with
  | zero =>
    intro fuel k Z hk hf
    obtain ⟨f, rfl⟩ : ∃ f, fuel = f + 1 := ⟨fuel - 1, by omega⟩
    rw [fX10_tellsWord_L2, if_pos (by simp (disch := omega) only [oI_lt, oI_le, oI_eq, oL_lt, oL_le, oL_eq, oI_L, oI_clamp, oI_inb, oL_nz]; omega)]
    rfl
  | succ d ih =>
    intro fuel k Z hk hf
    obtain ⟨f, rfl⟩ : ∃ f, fuel = f + 1 := ⟨fuel - 1, by omega⟩
    rw [fX10_tellsWord_L2, if_neg (by simp (disch := omega) only [oI_lt, oI_le, oI_eq, oL_lt, oL_le, oL_eq, oI_L, oI_clamp, oI_inb, oL_nz]; omega), show sLen.getD 51 0 = 17 from rfl, inbA (by omega) (by omega), gd_true, clpA (by omega)]
    show _ = Option.bind (Option.bind (fX10_tells (strC 51 k) Z) (telL ((List.range' (k + 1) d).map (strC 51)))) kk
    rw [bd_bd]
    refine congrArg _ (funext fun Z2 => ?_)
    rw [ltb_eq, kI_1, oI_add, nat1]
    exact ih f (k + 1) Z2 (by omega) (by omega)
theorem twd {a d : Nat} (hb : a + d ≤ 17) (Z : sM) : fX10_tellsWord (oI a) (oI ((a + d : Nat) : Int)) Z = telL ((List.range' a d).map (strC 51) ++ [32]) Z := by
  rw [fX10_tellsWord, telL_a]
  exact twd_L hb _ d 10000 a Z rfl (by omega)
def w41 : List Int32 := (List.range' 0 8).map (strC 41)
def w43 : List Int32 := (List.range' 0 7).map (strC 43)
def w47 : List Int32 := (List.range' 0 5).map (strC 47)
theorem x40 (A : sM) : fX2_putText 40 A = putL [58] A := ptx (L := 1) rfl rfl (by omega) A
theorem x42 (A : sM) : fX2_putText 42 A = putL [32] A := ptx (L := 1) rfl rfl (by omega) A
theorem x44 (A : sM) : fX2_putText 44 A = putL [46] A := ptx (L := 1) rfl rfl (by omega) A
theorem x45 (A : sM) : fX2_putText 45 A = putL [32, 45, 62] A := ptx (L := 3) rfl rfl (by omega) A
theorem x46 (A : sM) : fX2_putText 46 A = putL [37] A := ptx (L := 1) rfl rfl (by omega) A
theorem x41 (A : sM) : fX2_putText 41 A = putL w41 A := ptx (L := 8) rfl rfl (by omega) A
theorem x43 (A : sM) : fX2_putText 43 A = putL w43 A := ptx (L := 7) rfl rfl (by omega) A
theorem x47 (A : sM) : fX2_putText 47 A = putL w47 A := ptx (L := 5) rfl rfl (by omega) A
theorem z41 (Z : sM) : fX10_tellsWord (0 : Int32) (7 : Int32) Z = telL w41 Z := (twd (a := 0) (d := 7) (by omega) Z).trans (congrArg (fun x => telL x Z) (by decide))
theorem z43 (Z : sM) : fX10_tellsWord (7 : Int32) (13 : Int32) Z = telL w43 Z := (twd (a := 7) (d := 6) (by omega) Z).trans (congrArg (fun x => telL x Z) (by decide))
theorem z47 (Z : sM) : fX10_tellsWord (13 : Int32) (17 : Int32) Z = telL w47 Z := (twd (a := 13) (d := 4) (by omega) Z).trans (congrArg (fun x => telL x Z) (by decide))
theorem z1 (x : Int32) (Z : sM) : fX10_tells x Z = telL [x] Z := (bd_sme _).symm
