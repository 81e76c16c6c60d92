/-! Numbers: ints and longs as what they stand for. -/
def oI (a : Int) : Int32 := Int32.ofInt a
def oL (a : Int) : Int64 := Int64.ofInt a
theorem oI_add (a b : Int) : oI a + oI b = oI (a + b) := (Int32.ofInt_add a b).symm
theorem oI_sub (a b : Int) : oI a - oI b = oI (a - b) := (Int32.ofInt_sub a b).symm
theorem oI_mul (a b : Int) : oI a * oI b = oI (a * b) := (Int32.ofInt_mul a b).symm
theorem oI_neg (a : Int) : -oI a = oI (-a) := (Int32.ofInt_neg a).symm
theorem oL_add (a b : Int) : oL a + oL b = oL (a + b) := (Int64.ofInt_add a b).symm
theorem oL_sub (a b : Int) : oL a - oL b = oL (a - b) := (Int64.ofInt_sub a b).symm
theorem oL_mul (a b : Int) : oL a * oL b = oL (a * b) := (Int64.ofInt_mul a b).symm
theorem oL_neg (a : Int) : -oL a = oL (-a) := (Int64.ofInt_neg a).symm
theorem toI (x : Int32) : oI x.toInt = x := Int32.ofInt_toInt x
theorem toL (x : Int64) : oL x.toInt = x := Int64.ofInt_toInt x
theorem I_lo (x : Int32) : -2147483648 ≤ x.toInt := by have := x.le_toInt; omega
theorem I_hi (x : Int32) : x.toInt < 2147483648 := by have := x.toInt_lt; omega
theorem L_lo (x : Int64) : -9223372036854775808 ≤ x.toInt := by have := x.le_toInt; omega
theorem L_hi (x : Int64) : x.toInt < 9223372036854775808 := by have := x.toInt_lt; omega
theorem oI_toInt {a : Int} (h1 : -2147483648 ≤ a) (h2 : a < 2147483648) : (oI a).toInt = a := Int32.toInt_ofInt_of_le (by omega) (by omega)
theorem oL_toInt {a : Int} (h1 : -9223372036854775808 ≤ a) (h2 : a < 9223372036854775808) : (oL a).toInt = a := Int64.toInt_ofInt_of_le (by omega) (by omega)
theorem oI_lt {a b : Int} (h1 : -2147483648 ≤ a) (h2 : a < 2147483648) (h3 : -2147483648 ≤ b) (h4 : b < 2147483648) : (oI a < oI b) = (a < b) := by
  rw [Int32.lt_iff_toInt_lt, oI_toInt h1 h2, oI_toInt h3 h4]
theorem oI_le {a b : Int} (h1 : -2147483648 ≤ a) (h2 : a < 2147483648) (h3 : -2147483648 ≤ b) (h4 : b < 2147483648) : (oI a ≤ oI b) = (a ≤ b) := by
  rw [Int32.le_iff_toInt_le, oI_toInt h1 h2, oI_toInt h3 h4]
theorem oI_eq {a b : Int} (h1 : -2147483648 ≤ a) (h2 : a < 2147483648) (h3 : -2147483648 ≤ b) (h4 : b < 2147483648) : (oI a = oI b) = (a = b) := by
  rw [← Int32.toInt_inj, oI_toInt h1 h2, oI_toInt h3 h4]
theorem oL_lt {a b : Int} (h1 : -9223372036854775808 ≤ a) (h2 : a < 9223372036854775808) (h3 : -9223372036854775808 ≤ b) (h4 : b < 9223372036854775808) : (oL a < oL b) = (a < b) := by
  rw [Int64.lt_iff_toInt_lt, oL_toInt h1 h2, oL_toInt h3 h4]
theorem oL_le {a b : Int} (h1 : -9223372036854775808 ≤ a) (h2 : a < 9223372036854775808) (h3 : -9223372036854775808 ≤ b) (h4 : b < 9223372036854775808) : (oL a ≤ oL b) = (a ≤ b) := by
  rw [Int64.le_iff_toInt_le, oL_toInt h1 h2, oL_toInt h3 h4]
theorem oL_eq {a b : Int} (h1 : -9223372036854775808 ≤ a) (h2 : a < 9223372036854775808) (h3 : -9223372036854775808 ≤ b) (h4 : b < 9223372036854775808) : (oL a = oL b) = (a = b) := by
  rw [← Int64.toInt_inj, oL_toInt h1 h2, oL_toInt h3 h4]
theorem oI_clamp {a : Int} (h1 : -2147483648 ≤ a) (h2 : a < 2147483648) : (oI a).toNatClampNeg = a.toNat := by
  rw [← Int32.toNat_toInt, oI_toInt h1 h2]
theorem oI_inb {a : Int} {n : Nat} (h1 : 0 ≤ a) (h2 : a < n) (h3 : n < 2147483648) : inb (oI a) n = true := by
  refine decide_eq_true ?_
  rw [show (0 : Int32) = oI 0 from rfl, oI_lt (by omega) (by omega) (by omega) (by omega), oI_clamp (by omega) (by omega)]
  omega
theorem oI_L {a : Int} (h1 : -2147483648 ≤ a) (h2 : a < 2147483648) : (oI a).toInt64 = oL a := by
  rw [← Int64.toInt_inj, Int32.toInt_toInt64, oI_toInt h1 h2, oL_toInt (by omega) (by omega)]
theorem oL_I (a : Int) : (oL a).toInt32 = oI a := Int64.toInt32_ofInt
theorem oI_div {a b : Int} (h1 : 0 ≤ a) (h2 : a < 2147483648) (h3 : 0 < b) (h4 : b < 2147483648) : oI a / oI b = oI (a / b) := by
  have hle : a / b ≤ a := Int.ediv_le_self b h1
  have h0 : 0 ≤ a / b := Int.ediv_nonneg h1 (by omega)
  rw [← Int32.toInt_inj, Int32.toInt_div_of_ne_right _ _ (by
    rw [show (-1 : Int32) = oI (-1) from rfl, Ne, oI_eq (by omega) (by omega) (by omega) (by omega)]; omega), oI_toInt (by omega) h2, oI_toInt (by omega) h4, oI_toInt (by omega) (by omega), Int.tdiv_eq_ediv_of_nonneg h1]
theorem oL_div {a b : Int} (h1 : 0 ≤ a) (h2 : a < 9223372036854775808) (h3 : 0 < b) (h4 : b < 9223372036854775808) : oL a / oL b = oL (a / b) := by
  have hle : a / b ≤ a := Int.ediv_le_self b h1
  have h0 : 0 ≤ a / b := Int.ediv_nonneg h1 (by omega)
  rw [← Int64.toInt_inj, Int64.toInt_div_of_ne_right _ _ (by
    rw [show (-1 : Int64) = oL (-1) from rfl, Ne, oL_eq (by omega) (by omega) (by omega) (by omega)]; omega), oL_toInt (by omega) h2, oL_toInt (by omega) h4, oL_toInt (by omega) (by omega), Int.tdiv_eq_ediv_of_nonneg h1]
theorem oL_nz {a : Int} (h1 : -9223372036854775808 ≤ a) (h2 : a < 9223372036854775808) (h : a ≠ 0) : nzL (oL a) = true := by
  refine decide_eq_true ?_
  rw [show (0 : Int64) = oL 0 from rfl, oL_eq h1 h2 (by omega) (by omega)]
  exact h
/-! The numbers that stand in the code. -/
theorem kI_0 : (0 : Int32) = oI 0 := Eq.trans rfl rfl
theorem kI_1 : (1 : Int32) = oI 1 := Eq.trans rfl rfl
theorem kI_2 : (2 : Int32) = oI 2 := Eq.trans rfl rfl
theorem kI_3 : (3 : Int32) = oI 3 := Eq.trans rfl rfl
theorem kI_4 : (4 : Int32) = oI 4 := Eq.trans rfl rfl
theorem kI_5 : (5 : Int32) = oI 5 := Eq.trans rfl rfl
theorem kI_6 : (6 : Int32) = oI 6 := Eq.trans rfl rfl
theorem kI_7 : (7 : Int32) = oI 7 := Eq.trans rfl rfl
theorem kI_8 : (8 : Int32) = oI 8 := Eq.trans rfl rfl
theorem kI_9 : (9 : Int32) = oI 9 := Eq.trans rfl rfl
theorem kI_10 : (10 : Int32) = oI 10 := Eq.trans rfl rfl
theorem kI_12 : (12 : Int32) = oI 12 := Eq.trans rfl rfl
theorem kI_16 : (16 : Int32) = oI 16 := Eq.trans rfl rfl
theorem kI_17 : (17 : Int32) = oI 17 := Eq.trans rfl rfl
theorem kI_19 : (19 : Int32) = oI 19 := Eq.trans rfl rfl
theorem kI_20 : (20 : Int32) = oI 20 := Eq.trans rfl rfl
theorem kI_23 : (23 : Int32) = oI 23 := Eq.trans rfl rfl
theorem kI_24 : (24 : Int32) = oI 24 := Eq.trans rfl rfl
theorem kI_30 : (30 : Int32) = oI 30 := Eq.trans rfl rfl
theorem kI_32 : (32 : Int32) = oI 32 := Eq.trans rfl rfl
theorem kI_36 : (36 : Int32) = oI 36 := Eq.trans rfl rfl
theorem kI_48 : (48 : Int32) = oI 48 := Eq.trans rfl rfl
theorem kI_57 : (57 : Int32) = oI 57 := Eq.trans rfl rfl
theorem kI_59 : (59 : Int32) = oI 59 := Eq.trans rfl rfl
theorem kI_60 : (60 : Int32) = oI 60 := Eq.trans rfl rfl
theorem kI_72 : (72 : Int32) = oI 72 := Eq.trans rfl rfl
theorem kI_80 : (80 : Int32) = oI 80 := Eq.trans rfl rfl
theorem kI_84 : (84 : Int32) = oI 84 := Eq.trans rfl rfl
theorem kI_97 : (97 : Int32) = oI 97 := Eq.trans rfl rfl
theorem kI_98 : (98 : Int32) = oI 98 := Eq.trans rfl rfl
theorem kI_100 : (100 : Int32) = oI 100 := Eq.trans rfl rfl
theorem kI_122 : (122 : Int32) = oI 122 := Eq.trans rfl rfl
theorem kI_148 : (148 : Int32) = oI 148 := Eq.trans rfl rfl
theorem kI_200 : (200 : Int32) = oI 200 := Eq.trans rfl rfl
theorem kI_300 : (300 : Int32) = oI 300 := Eq.trans rfl rfl
theorem kI_1058 : (1058 : Int32) = oI 1058 := Eq.trans rfl rfl
theorem kI_1108 : (1108 : Int32) = oI 1108 := Eq.trans rfl rfl
theorem kI_1348 : (1348 : Int32) = oI 1348 := Eq.trans rfl rfl
theorem kI_1588 : (1588 : Int32) = oI 1588 := Eq.trans rfl rfl
theorem kI_5290 : (5290 : Int32) = oI 5290 := Eq.trans rfl rfl
theorem kI_7940 : (7940 : Int32) = oI 7940 := Eq.trans rfl rfl
theorem kI_100000 : (100000 : Int32) = oI 100000 := Eq.trans rfl rfl
theorem kI_e7 : (10000000 : Int32) = oI 10000000 := Eq.trans rfl rfl
theorem kI_e9 : (1000000000 : Int32) = oI 1000000000 := Eq.trans rfl rfl
theorem kL_0 : (0 : Int64) = oL 0 := Eq.trans rfl rfl
theorem kL_1 : (1 : Int64) = oL 1 := Eq.trans rfl rfl
theorem kL_5 : (5 : Int64) = oL 5 := Eq.trans rfl rfl
theorem kL_9 : (9 : Int64) = oL 9 := Eq.trans rfl rfl
theorem kL_10 : (10 : Int64) = oL 10 := Eq.trans rfl rfl
theorem kL_12 : (12 : Int64) = oL 12 := Eq.trans rfl rfl
theorem kL_23 : (23 : Int64) = oL 23 := Eq.trans rfl rfl
theorem kL_30 : (30 : Int64) = oL 30 := Eq.trans rfl rfl
theorem kL_48 : (48 : Int64) = oL 48 := Eq.trans rfl rfl
theorem kL_57 : (57 : Int64) = oL 57 := Eq.trans rfl rfl
theorem kL_59 : (59 : Int64) = oL 59 := Eq.trans rfl rfl
theorem kL_97 : (97 : Int64) = oL 97 := Eq.trans rfl rfl
theorem kL_100 : (100 : Int64) = oL 100 := Eq.trans rfl rfl
theorem kL_122 : (122 : Int64) = oL 122 := Eq.trans rfl rfl
theorem kL_1000 : (1000 : Int64) = oL 1000 := Eq.trans rfl rfl
theorem kL_e7 : (10000000 : Int64) = oL 10000000 := Eq.trans rfl rfl
theorem kL_e9 : (1000000000 : Int64) = oL 1000000000 := Eq.trans rfl rfl
theorem kL_e10 : (10000000000 : Int64) = oL 10000000000 := Eq.trans rfl rfl
/-! The text of functions taken apart. -/
theorem gd_true {α : Type} (k : Option α) : gd true k = k := Eq.trans rfl rfl
theorem ltb_eq {α β : Type} (v : α) (k : α → β) : ltb v k = k v := Eq.trans rfl rfl
theorem bd_eq {α β : Type} (a : α) (k : α → Option β) : Option.bind (some a) k = k a := Eq.trans rfl rfl
theorem bd2_eq {α β γ : Type} (a : α) (b : β) (k : α → β → Option γ) : bd2 (some (a, b)) k = k a b := Eq.trans rfl rfl
theorem rq_none {α : Type} (t : Nat → Option α) (k : Option α) : rq (some none) t k = k := Eq.trans rfl rfl
theorem rq_thr {α : Type} (e : Nat) (t : Nat → Option α) (k : Option α) : rq (some (some e)) t k = t e := Eq.trans rfl rfl
theorem xc_val {α β : Type} (v : β) (A : sM) (t : Nat → sM → Option α) (k : β → sM → Option α) : xc (some (.inr v, A)) t k = k v A := Eq.trans rfl rfl
theorem xc_thr {α β : Type} (e : Nat) (A : sM) (t : Nat → sM → Option α) (k : β → sM → Option α) : xc (some ((.inl e : Nat ⊕ β), A)) t k = t e A := Eq.trans rfl rfl
/-! Memories: reading what was written. -/
theorem wI_1 (M : sM) (c k o j : Nat) (v : Int32) (c' k' o' j' : Nat) : (wI M c k o j v).1 c' k' o' j' = if c' = c ∧ k' = k ∧ o' = o ∧ j' = j then v else M.1 c' k' o' j' := Eq.trans rfl rfl
theorem wI_2 (M : sM) (c k o j : Nat) (v : Int32) : (wI M c k o j v).2 = M.2 := Eq.trans rfl rfl
theorem wL_2 (M : sM) (c k o j : Nat) (v : Int64) (c' k' o' j' : Nat) : (wL M c k o j v).2 c' k' o' j' = if c' = c ∧ k' = k ∧ o' = o ∧ j' = j then v else M.2 c' k' o' j' := Eq.trans rfl rfl
theorem wL_1 (M : sM) (c k o j : Nat) (v : Int64) : (wL M c k o j v).1 = M.1 := Eq.trans rfl rfl
theorem fI_1 (M : sM) (c o n : Nat) (v : Int32) (c' k' o' j' : Nat) : (fI M c o n v).1 c' k' o' j' = if c' = c ∧ k' = 0 ∧ o' = o ∧ j' < n then v else M.1 c' k' o' j' := Eq.trans rfl rfl
theorem fI_2 (M : sM) (c o n : Nat) (v : Int32) : (fI M c o n v).2 = M.2 := Eq.trans rfl rfl
theorem fL_2 (M : sM) (c o n : Nat) (v : Int64) (c' k' o' j' : Nat) : (fL M c o n v).2 c' k' o' j' = if c' = c ∧ k' = 0 ∧ o' = o ∧ j' < n then v else M.2 c' k' o' j' := Eq.trans rfl rfl
theorem fL_1 (M : sM) (c o n : Nat) (v : Int64) : (fL M c o n v).1 = M.1 := Eq.trans rfl rfl
theorem cI_1 (M : sM) (c o2 o n : Nat) (c' k' o' j' : Nat) : (cI M c o2 o n).1 c' k' o' j' = if c' = c ∧ k' = 0 ∧ o' = o ∧ j' < n then M.1 c 0 o2 j' else M.1 c' k' o' j' := Eq.trans rfl rfl
theorem cI_2 (M : sM) (c o2 o n : Nat) : (cI M c o2 o n).2 = M.2 := Eq.trans rfl rfl
theorem cL_2 (M : sM) (c o2 o n : Nat) (c' k' o' j' : Nat) : (cL M c o2 o n).2 c' k' o' j' = if c' = c ∧ k' = 0 ∧ o' = o ∧ j' < n then M.2 c 0 o2 j' else M.2 c' k' o' j' := Eq.trans rfl rfl
theorem cL_1 (M : sM) (c o2 o n : Nat) : (cL M c o2 o n).1 = M.1 := Eq.trans rfl rfl
/-! What a memory leaves as it was: all but the fields of objects that P names. -/
def Fr (P : Nat → Nat → Nat → Bool) (M M' : sM) : Prop := ∀ c k o, P c k o = false → ∀ j, M'.1 c k o j = M.1 c k o j ∧ M'.2 c k o j = M.2 c k o j
theorem Fr.i {P : Nat → Nat → Nat → Bool} {M M' : sM} (h : Fr P M M') {c k o j : Nat} (hp : P c k o = false) : M'.1 c k o j = M.1 c k o j := (h c k o hp j).1
theorem Fr.l {P : Nat → Nat → Nat → Bool} {M M' : sM} (h : Fr P M M') {c k o j : Nat} (hp : P c k o = false) : M'.2 c k o j = M.2 c k o j := (h c k o hp j).2
theorem Fr.refl {P : Nat → Nat → Nat → Bool} (M : sM) : Fr P M M := fun _ _ _ _ _ => ⟨rfl, rfl⟩
theorem Fr.trans {P : Nat → Nat → Nat → Bool} {M M' M'' : sM} (h : Fr P M M') (h' : Fr P M' M'') : Fr P M M'' := fun c k o hp j => ⟨(h' c k o hp j).1.trans (h c k o hp j).1, (h' c k o hp j).2.trans (h c k o hp j).2⟩
theorem Fr.mono {P Q : Nat → Nat → Nat → Bool} {M M' : sM} (h : Fr P M M') (hPQ : ∀ c k o, Q c k o = false → P c k o = false) : Fr Q M M' := fun c k o hq j => h c k o (hPQ c k o hq) j
theorem Fr.wI {P : Nat → Nat → Nat → Bool} {M M' : sM} (h : Fr P M M') {c k o j : Nat} {v : Int32} (hp : P c k o = true) : Fr P M (wI M' c k o j v) := fun c' k' o' hp' j' => by
  have q9 := h c' k' o' hp' j'
  refine ⟨?_, q9.2⟩
  rw [wI_1, if_neg (fun q => by rw [q.1, q.2.1, q.2.2.1, hp] at hp'; cases hp')]
  exact q9.1
theorem Fr.wL {P : Nat → Nat → Nat → Bool} {M M' : sM} (h : Fr P M M') {c k o j : Nat} {v : Int64} (hp : P c k o = true) : Fr P M (wL M' c k o j v) := fun c' k' o' hp' j' => by
  have q9 := h c' k' o' hp' j'
  refine ⟨q9.1, ?_⟩
  rw [wL_2, if_neg (fun q => by rw [q.1, q.2.1, q.2.2.1, hp] at hp'; cases hp')]
  exact q9.2
theorem Fr.fI {P : Nat → Nat → Nat → Bool} {M M' : sM} (h : Fr P M M') {c o n : Nat} {v : Int32} (hp : P c 0 o = true) : Fr P M (fI M' c o n v) := fun c' k' o' hp' j' => by
  have q9 := h c' k' o' hp' j'
  refine ⟨?_, q9.2⟩
  rw [fI_1, if_neg (fun q => by rw [q.1, q.2.1, q.2.2.1, hp] at hp'; cases hp')]
  exact q9.1
theorem Fr.fL {P : Nat → Nat → Nat → Bool} {M M' : sM} (h : Fr P M M') {c o n : Nat} {v : Int64} (hp : P c 0 o = true) : Fr P M (fL M' c o n v) := fun c' k' o' hp' j' => by
  have q9 := h c' k' o' hp' j'
  refine ⟨q9.1, ?_⟩
  rw [fL_2, if_neg (fun q => by rw [q.1, q.2.1, q.2.2.1, hp] at hp'; cases hp')]
  exact q9.2
theorem Fr.cI {P : Nat → Nat → Nat → Bool} {M M' : sM} (h : Fr P M M') {c o2 o n : Nat} (hp : P c 0 o = true) : Fr P M (cI M' c o2 o n) := fun c' k' o' hp' j' => by
  have q9 := h c' k' o' hp' j'
  refine ⟨?_, q9.2⟩
  rw [cI_1, if_neg (fun q => by rw [q.1, q.2.1, q.2.2.1, hp] at hp'; cases hp')]
  exact q9.1
theorem Fr.cL {P : Nat → Nat → Nat → Bool} {M M' : sM} (h : Fr P M M') {c o2 o n : Nat} (hp : P c 0 o = true) : Fr P M (cL M' c o2 o n) := fun c' k' o' hp' j' => by
  have q9 := h c' k' o' hp' j'
  refine ⟨q9.1, ?_⟩
  rw [cL_2, if_neg (fun q => by rw [q.1, q.2.1, q.2.2.1, hp] at hp'; cases hp')]
  exact q9.2
theorem I_ex (x : Int32) : ∃ a : Int, -2147483648 ≤ a ∧ a < 2147483648 ∧ x = oI a := ⟨x.toInt, I_lo x, I_hi x, (toI x).symm⟩
theorem L_ex (x : Int64) : ∃ a : Int, -9223372036854775808 ≤ a ∧ a < 9223372036854775808 ∧ x = oL a := ⟨x.toInt, L_lo x, L_hi x, (toL x).symm⟩
/-- an index that is a number below a bound -/
theorem inb_ex {x : Int32} {n : Nat} (hn : n ≤ 2147483648) (h : inb x n = true) : ∃ i : Nat, i < n ∧ x = oI i := by
  obtain ⟨a, h1, h2, rfl⟩ := I_ex x
  have h3 : ¬ (oI a < 0 ∨ n ≤ (oI a).toNatClampNeg) := of_decide_eq_true h
  rw [kI_0, oI_lt h1 h2 (by omega) (by omega), oI_clamp h1 h2] at h3
  exact ⟨a.toNat, by omega, by congr 1; omega⟩
theorem rem_eq (a b : Int) : a - a / b * b = a % b := by
  have := Int.emod_add_mul_ediv a b
  rw [Int.mul_comm] at this
  omega
