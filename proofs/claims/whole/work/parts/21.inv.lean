/-! The state: 0 scalars (capacity, expiry, buyout, limit, periods, month, day, members), 1 hours, 2 rates, 3 members, 4 share-days (month, member), 5 generation, 6 corrections, 7 fund and operator, 8 accounts, 9 lots. -/
abbrev sS : Type := (Nat → Int) × (Nat → Int) × (Nat → Int) × (Nat → Nat → Int) × (Nat → Nat → Int) × (Nat → Int) × (Nat → Int) × (Nat → Int) × (Nat → Nat → Int) × (Nat → Nat → Int)
abbrev sG (s : sS) : Nat → Int := s.1
abbrev sH (s : sS) : Nat → Int := s.2.1
abbrev sRt (s : sS) : Nat → Int := s.2.2.1
abbrev sB (s : sS) : Nat → Nat → Int := s.2.2.2.1
abbrev sD (s : sS) : Nat → Nat → Int := s.2.2.2.2.1
abbrev sE (s : sS) : Nat → Int := s.2.2.2.2.2.1
abbrev sC (s : sS) : Nat → Int := s.2.2.2.2.2.2.1
abbrev sF (s : sS) : Nat → Int := s.2.2.2.2.2.2.2.1
abbrev sA (s : sS) : Nat → Nat → Int := s.2.2.2.2.2.2.2.2.1
abbrev sT (s : sS) : Nat → Nat → Int := s.2.2.2.2.2.2.2.2.2
abbrev uG (s : sS) (f : Nat → Int) : sS := (f, sH s, sRt s, sB s, sD s, sE s, sC s, sF s, sA s, sT s)
abbrev uB (s : sS) (f : Nat → Nat → Int) : sS := (sG s, sH s, sRt s, f, sD s, sE s, sC s, sF s, sA s, sT s)
abbrev uD (s : sS) (f : Nat → Nat → Int) : sS := (sG s, sH s, sRt s, sB s, f, sE s, sC s, sF s, sA s, sT s)
abbrev uE (s : sS) (f : Nat → Int) : sS := (sG s, sH s, sRt s, sB s, sD s, f, sC s, sF s, sA s, sT s)
abbrev uC (s : sS) (f : Nat → Int) : sS := (sG s, sH s, sRt s, sB s, sD s, sE s, f, sF s, sA s, sT s)
abbrev uF (s : sS) (f : Nat → Int) : sS := (sG s, sH s, sRt s, sB s, sD s, sE s, sC s, f, sA s, sT s)
abbrev uA (s : sS) (f : Nat → Nat → Int) : sS := (sG s, sH s, sRt s, sB s, sD s, sE s, sC s, sF s, f, sT s)
abbrev uT (s : sS) (f : Nat → Nat → Int) : sS := (sG s, sH s, sRt s, sB s, sD s, sE s, sC s, sF s, sA s, f)
def up1 (f : Nat → Int) (i : Nat) (v : Int) : Nat → Int := fun j => if j = i then v else f j
def up2 (f : Nat → Nat → Int) (i k : Nat) (v : Int) : Nat → Nat → Int := fun j l => if j = i ∧ l = k then v else f j l
theorem up1_s (f : Nat → Int) (i : Nat) (v : Int) : up1 f i v i = v := if_pos rfl
theorem up1_n (f : Nat → Int) {i j : Nat} (v : Int) (h : ¬ j = i) : up1 f i v j = f j := if_neg h
theorem up2_s (f : Nat → Nat → Int) (i k : Nat) (v : Int) : up2 f i k v i k = v := if_pos ⟨rfl, rfl⟩
theorem up2_n (f : Nat → Nat → Int) {i k j l : Nat} (v : Int) (h : ¬ (j = i ∧ l = k)) : up2 f i k v j l = f j l := if_neg h
def sumN (f : Nat → Int) : Nat → Int
  | 0 => 0
  | n + 1 => sumN f n + f n
theorem sumN_congr {f g : Nat → Int} : ∀ {n : Nat}, (∀ i, i < n → f i = g i) → sumN f n = sumN g n
  | 0, _ => rfl
  | n + 1, h => by rw [sumN, sumN, sumN_congr (fun i hi => h i (by omega)), h n (by omega)]
theorem sumN_nonneg {f : Nat → Int} : ∀ {n : Nat}, (∀ i, i < n → 0 ≤ f i) → 0 ≤ sumN f n
  | 0, _ => Int.le_refl 0
  | n + 1, h => by
    have h1 := sumN_nonneg (n := n) (fun i hi => h i (by omega))
    have h2 := h n (by omega)
    rw [sumN]; omega
theorem sumN_le {f g : Nat → Int} : ∀ {n : Nat}, (∀ i, i < n → f i ≤ g i) → sumN f n ≤ sumN g n
  | 0, _ => Int.le_refl 0
  | n + 1, h => by
    have h1 := sumN_le (n := n) (fun i hi => h i (by omega))
    have h2 := h n (by omega)
    rw [sumN, sumN]; omega
theorem sumN_mem {f : Nat → Int} : ∀ {n i : Nat}, i < n → (∀ j, j < n → 0 ≤ f j) → f i ≤ sumN f n
  | n + 1, i, hi, h => by
    rw [sumN]
    by_cases e : i = n
    · subst e
      have := sumN_nonneg (n := i) (fun j hj => h j (by omega))
      omega
    · have h1 := sumN_mem (n := n) (i := i) (by omega) (fun j hj => h j (by omega))
      have h2 := h n (by omega)
      omega
theorem sumN_const (c : Int) : ∀ n : Nat, sumN (fun _ => c) n = n * c
  | 0 => by simp [sumN]
  | n + 1 => by rw [sumN, sumN_const c n]; grind
theorem sumN_add (f g : Nat → Int) : ∀ n : Nat, sumN (fun i => f i + g i) n = sumN f n + sumN g n
  | 0 => rfl
  | n + 1 => by rw [sumN, sumN, sumN, sumN_add f g n]; omega
theorem sumN_sub (f g : Nat → Int) : ∀ n : Nat, sumN (fun i => f i - g i) n = sumN f n - sumN g n
  | 0 => rfl
  | n + 1 => by rw [sumN, sumN, sumN, sumN_sub f g n]; omega
theorem sumN_mul (f : Nat → Int) (c : Int) : ∀ n : Nat, sumN (fun i => c * f i) n = c * sumN f n
  | 0 => by simp [sumN]
  | n + 1 => by rw [sumN, sumN, sumN_mul f c n]; grind
/-- one term changed -/
theorem sumN_up {f g : Nat → Int} : ∀ {n i : Nat}, i < n → (∀ j, j < n → ¬ j = i → g j = f j) → sumN g n = sumN f n + (g i - f i)
  | n + 1, i, hi, h => by
    rw [sumN, sumN]
    by_cases e : i = n
    · subst e
      rw [sumN_congr (f := g) (g := f) (fun j hj => h j (by omega) (by omega))]; omega
    · rw [sumN_up (n := n) (i := i) (by omega) (fun j hj hn => h j (by omega) hn), h n (by omega) (by omega)]; omega
theorem sumN_zero {f : Nat → Int} {n : Nat} (h : ∀ i, i < n → f i = 0) : sumN f n = 0 := by
  rw [sumN_congr (g := fun _ => 0) h, sumN_const]; omega
/-! The system's books b hold the state s, of N members. -/
def SR (A : sM) (b : Nat) (s : sS) (N : Nat) : Prop :=
  (∀ k, k < 5 → A.1 4 k b 0 = oI (sG s k)) ∧ (A.1 0 4 b 0 = oI (sG s 5) ∧ A.1 0 5 b 0 = oI (sG s 6) ∧ A.1 0 3 b 0 = oI N) ∧
  (∀ h, h < 24 → A.1 19 0 b h = oI (sH s h)) ∧ (∀ p : Nat, (p : Int) < sG s 4 → A.1 18 0 b p = oI (sRt s p)) ∧
  (∀ i, i < N → A.1 8 0 (16 * b + i) 0 = oI (sB s i 3) ∧ A.1 8 1 (16 * b + i) 0 = oI (sB s i 0) ∧ A.1 8 2 (16 * b + i) 0 = oI (sB s i 1) ∧ A.1 8 3 (16 * b + i) 0 = oI (sB s i 2) ∧ A.1 8 4 (16 * b + i) 0 = oI (sB s i 4) ∧ A.1 8 5 (16 * b + i) 0 = oI (sB s i 5) ∧ (¬ sB s i 5 = -1 → A.1 8 6 (16 * b + i) 0 = oI (sB s i 6))) ∧
  (∀ i, i < N → ∀ m, m < 60 → A.1 24 0 (16 * b + i) m = oI (sD s m i)) ∧
  (∀ c, c < 240 → A.1 22 0 b c = oI (sE s c) ∧ A.1 23 0 b c = oI (if sC s c = -1 then 0 else sC s c - sE s c)) ∧
  (A.2 0 6 b 0 = oL (sF s 0) ∧ A.2 0 7 b 0 = oL (sF s 1)) ∧
  (∀ i, i < N → ∀ w, w < 6 → A.2 26 0 (16 * b + i) w = oL (sA s i w)) ∧
  (∀ i, i < N → ∀ m, m < 72 → A.2 25 0 (16 * b + i) m = oL (if m < 60 then sT s i m else 0))
section
variable {A : sM} {b N : Nat} {s : sS} (h : SR A b s N)
theorem SR.g (h : SR A b s N) {k : Nat} (hk : k < 5) : A.1 4 k b 0 = oI (sG s k) := h.1 k hk
theorem SR.mon (h : SR A b s N) : A.1 0 4 b 0 = oI (sG s 5) := h.2.1.1
theorem SR.day (h : SR A b s N) : A.1 0 5 b 0 = oI (sG s 6) := h.2.1.2.1
theorem SR.cnt (h : SR A b s N) : A.1 0 3 b 0 = oI N := h.2.1.2.2
theorem SR.hr (h : SR A b s N) {k : Nat} (hk : k < 24) : A.1 19 0 b k = oI (sH s k) := h.2.2.1 k hk
theorem SR.rt (h : SR A b s N) {p : Nat} (hk : (p : Int) < sG s 4) : A.1 18 0 b p = oI (sRt s p) := h.2.2.2.1 p hk
theorem SR.st (h : SR A b s N) {i : Nat} (hi : i < N) : A.1 8 0 (16 * b + i) 0 = oI (sB s i 3) := (h.2.2.2.2.1 i hi).1
theorem SR.wa (h : SR A b s N) {i : Nat} (hi : i < N) : A.1 8 1 (16 * b + i) 0 = oI (sB s i 0) := (h.2.2.2.2.1 i hi).2.1
theorem SR.mi (h : SR A b s N) {i : Nat} (hi : i < N) : A.1 8 2 (16 * b + i) 0 = oI (sB s i 1) := (h.2.2.2.2.1 i hi).2.2.1
theorem SR.pr (h : SR A b s N) {i : Nat} (hi : i < N) : A.1 8 3 (16 * b + i) 0 = oI (sB s i 2) := (h.2.2.2.2.1 i hi).2.2.2.1
theorem SR.sh (h : SR A b s N) {i : Nat} (hi : i < N) : A.1 8 4 (16 * b + i) 0 = oI (sB s i 4) := (h.2.2.2.2.1 i hi).2.2.2.2.1
theorem SR.to (h : SR A b s N) {i : Nat} (hi : i < N) : A.1 8 5 (16 * b + i) 0 = oI (sB s i 5) := (h.2.2.2.2.1 i hi).2.2.2.2.2.1
theorem SR.pc (h : SR A b s N) {i : Nat} (hi : i < N) (ht : ¬ sB s i 5 = -1) : A.1 8 6 (16 * b + i) 0 = oI (sB s i 6) := (h.2.2.2.2.1 i hi).2.2.2.2.2.2 ht
theorem SR.dy (h : SR A b s N) {i m : Nat} (hi : i < N) (hm : m < 60) : A.1 24 0 (16 * b + i) m = oI (sD s m i) := h.2.2.2.2.2.1 i hi m hm
theorem SR.gn (h : SR A b s N) {c : Nat} (hc : c < 240) : A.1 22 0 b c = oI (sE s c) := (h.2.2.2.2.2.2.1 c hc).1
theorem SR.cr (h : SR A b s N) {c : Nat} (hc : c < 240) : A.1 23 0 b c = oI (if sC s c = -1 then 0 else sC s c - sE s c) := (h.2.2.2.2.2.2.1 c hc).2
theorem SR.fu (h : SR A b s N) : A.2 0 6 b 0 = oL (sF s 0) := h.2.2.2.2.2.2.2.1.1
theorem SR.op (h : SR A b s N) : A.2 0 7 b 0 = oL (sF s 1) := h.2.2.2.2.2.2.2.1.2
theorem SR.ac (h : SR A b s N) {i w : Nat} (hi : i < N) (hw : w < 6) : A.2 26 0 (16 * b + i) w = oL (sA s i w) := h.2.2.2.2.2.2.2.2.1 i hi w hw
theorem SR.lt (h : SR A b s N) {i m : Nat} (hi : i < N) (hm : m < 72) : A.2 25 0 (16 * b + i) m = oL (if m < 60 then sT s i m else 0) := h.2.2.2.2.2.2.2.2.2 i hi m hm
end
/-- the reference's rows hold the state: from row r of ints, row q of longs on -/
def ZR (I : Nat → Int32) (L : Nat → Int64) (s : sS) : Prop :=
  (∀ k, k < 8 → I k = oI (sG s k)) ∧ (∀ h, h < 24 → I (8 + h) = oI (sH s h)) ∧ (∀ p, p < 4 → I (32 + p) = oI (sRt s p)) ∧
  (∀ i w, i < 16 → w < 7 → I (36 + 7 * i + w) = oI (sB s i w)) ∧ (∀ m i, m < 60 → i < 16 → I (148 + 16 * m + i) = oI (sD s m i)) ∧
  (∀ c, c < 240 → I (1108 + c) = oI (sE s c)) ∧ (∀ c, c < 240 → I (1348 + c) = oI (sC s c)) ∧
  (∀ k, k < 2 → L k = oL (sF s k)) ∧ (∀ i w, i < 16 → w < 6 → L (2 + 6 * i + w) = oL (sA s i w)) ∧ (∀ i m, i < 16 → m < 60 → L (98 + 60 * i + m) = oL (sT s i m))
section
variable {I : Nat → Int32} {L : Nat → Int64} {s : sS}
theorem ZR.g (h : ZR I L s) {k : Nat} (hk : k < 8) : I k = oI (sG s k) := h.1 k hk
theorem ZR.hr (h : ZR I L s) {k : Nat} (hk : k < 24) : I (8 + k) = oI (sH s k) := h.2.1 k hk
theorem ZR.rt (h : ZR I L s) {k : Nat} (hk : k < 4) : I (32 + k) = oI (sRt s k) := h.2.2.1 k hk
theorem ZR.mb (h : ZR I L s) {i w : Nat} (hi : i < 16) (hw : w < 7) : I (36 + 7 * i + w) = oI (sB s i w) := h.2.2.2.1 i w hi hw
theorem ZR.dy (h : ZR I L s) {m i : Nat} (hm : m < 60) (hi : i < 16) : I (148 + 16 * m + i) = oI (sD s m i) := h.2.2.2.2.1 m i hm hi
theorem ZR.gn (h : ZR I L s) {c : Nat} (hc : c < 240) : I (1108 + c) = oI (sE s c) := h.2.2.2.2.2.1 c hc
theorem ZR.cr (h : ZR I L s) {c : Nat} (hc : c < 240) : I (1348 + c) = oI (sC s c) := h.2.2.2.2.2.2.1 c hc
theorem ZR.fo (h : ZR I L s) {k : Nat} (hk : k < 2) : L k = oL (sF s k) := h.2.2.2.2.2.2.2.1 k hk
theorem ZR.ac (h : ZR I L s) {i w : Nat} (hi : i < 16) (hw : w < 6) : L (2 + 6 * i + w) = oL (sA s i w) := h.2.2.2.2.2.2.2.2.1 i w hi hw
theorem ZR.lt (h : ZR I L s) {i m : Nat} (hi : i < 16) (hm : m < 60) : L (98 + 60 * i + m) = oL (sT s i m) := h.2.2.2.2.2.2.2.2.2 i m hi hm
end
/-! What holds of a state after n calls. -/
/-- scalars -/
def W1 (s : sS) (N : Nat) : Prop := (1 ≤ sG s 0 ∧ sG s 0 ≤ 100000) ∧ (1 ≤ sG s 1 ∧ sG s 1 ≤ 24) ∧ (0 ≤ sG s 2 ∧ sG s 2 ≤ 100) ∧ (1 ≤ sG s 3 ∧ sG s 3 ≤ 100) ∧ (1 ≤ sG s 4 ∧ sG s 4 ≤ 4) ∧ (0 ≤ sG s 5 ∧ sG s 5 < 60) ∧ (0 ≤ sG s 6 ∧ sG s 6 ≤ 30) ∧ (sG s 7 = N ∧ N ≤ 16)
/-- tariff -/
def W2 (s : sS) : Prop := (∀ h, h < 24 → 0 ≤ sH s h ∧ sH s h < sG s 4) ∧ (∀ p, p < 4 → 0 ≤ sRt s p ∧ sRt s p ≤ 200)
/-- members -/
def W3 (s : sS) (N : Nat) : Prop :=
  (∀ i, i < N → (1 ≤ sB s i 0 ∧ sB s i 0 ≤ sG s 0) ∧ (1 ≤ sB s i 1 ∧ sB s i 1 ≤ sB s i 0) ∧ (0 ≤ sB s i 2 ∧ sB s i 2 ≤ 9) ∧ (0 ≤ sB s i 3 ∧ sB s i 3 ≤ 2)) ∧
  (∀ i, i < 16 → 0 ≤ sB s i 4) ∧ (∀ i, i < N → sB s i 3 = 1 → 1 ≤ sB s i 4) ∧ (∀ i, i < N → ¬ sB s i 3 = 1 → sB s i 4 = 0) ∧ (∀ i, N ≤ i → i < 16 → sB s i 4 = 0) ∧
  sumN (fun i => sB s i 4) N ≤ sG s 0
/-- assignments -/
def W4 (s : sS) (N : Nat) : Prop :=
  (∀ i, i < N → sB s i 5 = -1 ∨ (sB s i 3 = 1 ∧ ∃ t : Nat, t < N ∧ sB s i 5 = t ∧ sB s t 3 = 1 ∧ 1 ≤ sB s i 6 ∧ sB s i 6 ≤ 100)) ∧
  ∃ d : Nat → Nat, ∀ i t : Nat, i < N → t < N → sB s i 5 = t → d t < d i
/-- share-days -/
def W5 (s : sS) (N : Nat) : Prop :=
  (∀ m i, m < 60 → i < 16 → 0 ≤ sD s m i) ∧ (∀ m i, m < 60 → N ≤ i → i < 16 → sD s m i = 0) ∧ (∀ m i : Nat, m < 60 → i < 16 → sG s 5 < m → sD s m i = 0) ∧
  (∀ m : Nat, (m : Int) < sG s 5 → sumN (fun i => sD s m i) N ≤ 30 * sG s 0) ∧ (∀ m : Nat, (m : Int) = sG s 5 → sumN (fun i => sD s m i) N ≤ sG s 6 * sG s 0)
/-- generation and corrections -/
def W6 (s : sS) : Prop :=
  (∀ c, c < 240 → 0 ≤ sE s c ∧ sE s c ≤ 1000000000 ∧ -1 ≤ sC s c ∧ sC s c ≤ 1000000000) ∧
  (∀ m p : Nat, m < 60 → p < 4 → (sG s 5 < m → sE s (4 * m + p) = 0) ∧ (sG s 5 ≤ m → sC s (4 * m + p) = -1) ∧ (sG s 4 ≤ p → sE s (4 * m + p) = 0 ∧ sC s (4 * m + p) = -1))
/-- accounts and lots -/
def W7 (s : sS) (N : Nat) : Prop :=
  (∀ i, i < 16 → 0 ≤ sA s i 0 ∧ 0 ≤ sA s i 1 ∧ sA s i 1 ≤ 10000000000 ∧ ∀ m, m < 60 → 0 ≤ sT s i m) ∧
  (∀ i, N ≤ i → i < 16 → (∀ w, w < 6 → sA s i w = 0) ∧ ∀ m, m < 60 → sT s i m = 0) ∧
  (∀ i, i < N → ¬ sB s i 3 = 1 → sA s i 0 = 0 ∧ sA s i 1 = 0 ∧ (∀ m, m < 60 → sT s i m = 0) ∧ (sB s i 3 = 0 → sA s i 3 = 0)) ∧
  (∀ i m : Nat, i < 16 → m < 60 → (sG s 5 < m ∨ m + sG s 1 < sG s 5) → sT s i m = 0)
/-- what a cell of the meter may still bring, twice -/
def pot (s : sS) (c : Nat) : Int := sRt s (c % 4) * (if sG s 5 ≤ (c / 4 : Nat) then 1000000000 + sE s c else if sC s c = -1 then 1000000000 - sE s c else if sC s c ≤ sE s c then 1000000000 - sC s c else 1000000000 + sC s c - 2 * sE s c)
def bal (s : sS) (i : Nat) : Int := sumN (fun m => sT s i m) 60
/-- money -/
def W8 (n : Nat) (s : sS) : Prop :=
  2 * (if 0 ≤ sF s 0 then sF s 0 else 0) + 2 * sumN (bal s) 16 + sumN (pot s) 240 ≤ 48000000000000 + n * 200000000000 ∧
  -(n * 200000000000000 : Int) ≤ sF s 0 - sumN (fun i => sA s i 0) 16
def WF (n : Nat) (s : sS) (N : Nat) : Prop := W1 s N ∧ W2 s ∧ W3 s N ∧ W4 s N ∧ W5 s N ∧ W6 s ∧ W7 s N ∧ W8 n s
theorem WF.mono {n n' : Nat} {s : sS} {N : Nat} (h : WF n s N) (hn : n ≤ n') : WF n' s N := by
  obtain ⟨h1, h2, h3, h4, h5, h6, h7, h8⟩ := h
  exact ⟨h1, h2, h3, h4, h5, h6, h7, by have := h8.1; omega, by have := h8.2; omega⟩
/-! Beside the present state: the kept ones, the text, the description. -/
def slot (p K j : Nat) : Nat := (p + 6 - K + j) % 6
def HR (n : Nat) (A Z : sM) (K p : Nat) (t : Nat → sS) (Nt : Nat → Nat) : Prop :=
  (K ≤ 6 ∧ p < 6 ∧ A.1 6 1 0 0 = oI p ∧ A.1 6 2 0 0 = oI K ∧ Z.1 10 5 0 0 = oI K) ∧
  ∀ j, j < K → ¬ A.1 21 0 0 (slot p K j) = 0 ∧ SR A (slot p K j + 1) (t j) (Nt j) ∧ ZR (fun k => Z.1 29 0 0 (1588 * j + k)) (fun k => Z.2 31 0 0 (1058 * j + k)) (t j) ∧ WF n (t j) (Nt j)
/-- a byte as the system holds it -/
def sby (v : Int) : Int := if v < 128 then v else v - 256
def TR (A Z : sM) (len : Nat) : Prop := len ≤ 300 ∧ A.1 5 1 0 0 = oI len ∧ Z.1 10 8 0 0 = oI len ∧ A.1 9 7 0 0 = Z.1 10 15 0 0 ∧ ∀ k, k < len → ∃ v : Int, 0 ≤ v ∧ v < 256 ∧ Z.1 32 0 0 k = oI v ∧ A.1 20 0 0 k = oI (sby v)
def DR (A Z : sM) (dl : Nat) : Prop := dl ≤ 80 ∧ A.1 2 1 0 0 = oI dl ∧ Z.1 10 25 0 0 = oI dl ∧ ∀ k, k < dl → A.1 14 0 0 k = Z.1 40 0 0 k
abbrev zA (Z : sM) : Nat → Int32 := fun k => Z.1 27 0 0 k
abbrev zB (Z : sM) : Nat → Int64 := fun k => Z.2 30 0 0 k
def St (n : Nat) (A Z : sM) (s : sS) (N : Nat) : Prop := SR A 0 s N ∧ ZR (zA Z) (zB Z) s ∧ WF n s N
def Rest (n : Nat) (A Z : sM) : Prop := (∃ K p t Nt, HR n A Z K p t Nt) ∧ (∃ len, TR A Z len) ∧ ∃ dl, DR A Z dl
def Inv (n : Nat) (A Z : sM) : Prop := (∃ s N, St n A Z s N) ∧ Rest n A Z
/-! What calls change beside the state: work rows. -/
def wkA (c _ o : Nat) : Bool := c == 41 || c == 3 || c == 15 || c == 16 || c == 17 || c == 1 || c == 12 || c == 13 || ((c == 8 || c == 24 || c == 25 || c == 26) && o == 112)
def wkZ (c k _ : Nat) : Bool := (c == 10 && (k == 6 || (9 ≤ k && k ≤ 14) || k == 16)) || c == 28 || (33 ≤ c && c ≤ 39)
/-- .. and the state itself -/
def mvA (c k o : Nat) : Bool := wkA c k o || ((c == 0 || c == 4 || c == 18 || c == 19 || c == 22 || c == 23) && o == 0) || ((c == 8 || c == 24 || c == 25 || c == 26) && o < 16)
def mvZ (c k o : Nat) : Bool := wkZ c k o || c == 27 || c == 30
theorem SR.keep {P : Nat → Nat → Nat → Bool} {A A' : sM} {b N : Nat} {s : sS} (h : SR A b s N) (hF : Fr P A A') (hN : N ≤ 16) (h4 : ∀ c k, c = 0 ∨ c = 4 ∨ c = 18 ∨ c = 19 ∨ c = 22 ∨ c = 23 → P c k b = false) (h8 : ∀ c k i, c = 8 ∨ c = 24 ∨ c = 25 ∨ c = 26 → i < 16 → P c k (16 * b + i) = false) : SR A' b s N := by
  refine ⟨fun k hk => ?_, ⟨?_, ?_, ?_⟩, fun k hk => ?_, fun p hp => ?_, fun i hi => ⟨?_, ?_, ?_, ?_, ?_, ?_, fun ht => ?_⟩, fun i hi m hm => ?_, fun c hc => ⟨?_, ?_⟩, ⟨?_, ?_⟩, fun i hi w hw => ?_, fun i hi m hm => ?_⟩
  · rw [hF.i (h4 4 k (by omega))]; exact h.g hk
  · rw [hF.i (h4 0 4 (by omega))]; exact h.mon
  · rw [hF.i (h4 0 5 (by omega))]; exact h.day
  · rw [hF.i (h4 0 3 (by omega))]; exact h.cnt
  · rw [hF.i (h4 19 0 (by omega))]; exact h.hr hk
  · rw [hF.i (h4 18 0 (by omega))]; exact h.rt hp
  · rw [hF.i (h8 8 0 i (by omega) (by omega))]; exact h.st hi
  · rw [hF.i (h8 8 1 i (by omega) (by omega))]; exact h.wa hi
  · rw [hF.i (h8 8 2 i (by omega) (by omega))]; exact h.mi hi
  · rw [hF.i (h8 8 3 i (by omega) (by omega))]; exact h.pr hi
  · rw [hF.i (h8 8 4 i (by omega) (by omega))]; exact h.sh hi
  · rw [hF.i (h8 8 5 i (by omega) (by omega))]; exact h.to hi
  · rw [hF.i (h8 8 6 i (by omega) (by omega))]; exact h.pc hi ht
  · rw [hF.i (h8 24 0 i (by omega) (by omega))]; exact h.dy hi hm
  · rw [hF.i (h4 22 0 (by omega))]; exact h.gn hc
  · rw [hF.i (h4 23 0 (by omega))]; exact h.cr hc
  · rw [hF.l (h4 0 6 (by omega))]; exact h.fu
  · rw [hF.l (h4 0 7 (by omega))]; exact h.op
  · rw [hF.l (h8 26 0 i (by omega) (by omega))]; exact h.ac hi hw
  · rw [hF.l (h8 25 0 i (by omega) (by omega))]; exact h.lt hi hm
theorem SR.wk {A A' : sM} {b N : Nat} {s : sS} (h : SR A b s N) (hF : Fr wkA A A') (hN : N ≤ 16) (hb : b ≤ 6) : SR A' b s N := by
  refine h.keep hF hN (fun c k hc => ?_) (fun c k i hc hi => ?_)
  · rcases hc with rfl | rfl | rfl | rfl | rfl | rfl <;> rfl
  · rcases hc with rfl | rfl | rfl | rfl <;> simp [wkA] <;> omega
theorem SR.mv {A A' : sM} {b N : Nat} {s : sS} (h : SR A b s N) (hF : Fr mvA A A') (hN : N ≤ 16) (h1 : 1 ≤ b) (hb : b ≤ 6) : SR A' b s N := by
  refine h.keep hF hN (fun c k hc => ?_) (fun c k i hc hi => ?_)
  · rcases hc with rfl | rfl | rfl | rfl | rfl | rfl <;> simp [mvA, wkA] <;> omega
  · rcases hc with rfl | rfl | rfl | rfl <;> simp [mvA, wkA] <;> omega
theorem ZR.keep {I I' : Nat → Int32} {L L' : Nat → Int64} {s : sS} (h : ZR I L s) (hI : ∀ k, I' k = I k) (hL : ∀ k, L' k = L k) : ZR I' L' s := by
  rw [show I' = I from funext hI, show L' = L from funext hL]; exact h
theorem Rest.mv {n : Nat} {A A' Z Z' : sM} (h : Rest n A Z) (hA : Fr mvA A A') (hZ : Fr mvZ Z Z') : Rest (n + 1) A' Z' := by
  obtain ⟨⟨K, p, t, Nt, ⟨h1, h2, h3, h4, h5⟩, h6⟩, ⟨len, t1, t2, t3, t4, t5⟩, dl, d1, d2, d3, d4⟩ := h
  refine ⟨⟨K, p, t, Nt, ⟨h1, h2, ?_, ?_, ?_⟩, fun j hj => ?_⟩, ⟨len, t1, ?_, ?_, ?_, fun k hk => ?_⟩, dl, d1, ?_, ?_, fun k hk => ?_⟩
  · rw [hA.i rfl]; exact h3
  · rw [hA.i rfl]; exact h4
  · rw [hZ.i rfl]; exact h5
  · obtain ⟨a, b, c, d⟩ := h6 j hj
    have hs : slot p K j < 6 := Nat.mod_lt _ (by omega)
    refine ⟨by rw [hA.i rfl]; exact a, b.mv hA d.1.2.2.2.2.2.2.2.2 (by omega) (by omega), c.keep (fun k => hZ.i rfl) (fun k => hZ.l rfl), d.mono (by omega)⟩
  · rw [hA.i rfl]; exact t2
  · rw [hZ.i rfl]; exact t3
  · rw [hA.i rfl, hZ.i rfl]; exact t4
  · rw [hA.i rfl, hZ.i rfl]; exact t5 k hk
  · rw [hA.i rfl]; exact d2
  · rw [hZ.i rfl]; exact d3
  · rw [hA.i rfl, hZ.i rfl]; exact d4 k hk
theorem wk_mvA {A A' : sM} (h : Fr wkA A A') : Fr mvA A A' := h.mono fun c k o hq => by
  simp only [mvA, Bool.or_eq_false_iff] at hq; exact hq.1.1
theorem wk_mvZ {Z Z' : sM} (h : Fr wkZ Z Z') : Fr mvZ Z Z' := h.mono fun c k o hq => by
  simp only [mvZ, Bool.or_eq_false_iff] at hq; exact hq.1.1
/-- calls that only ask -/
theorem Inv.wk {n : Nat} {A A' Z Z' : sM} (h : Inv n A Z) (hA : Fr wkA A A') (hZ : Fr wkZ Z Z') : Inv (n + 1) A' Z' := by
  obtain ⟨⟨s, N, h1, h2, h3⟩, h4⟩ := h
  exact ⟨⟨s, N, h1.wk hA h3.1.2.2.2.2.2.2.2.2 (by omega), h2.keep (fun k => hZ.i rfl) (fun k => hZ.l rfl), h3.mono (by omega)⟩, h4.mv (wk_mvA hA) (wk_mvZ hZ)⟩
/-- calls that change the state -/
theorem Inv.mv {n : Nat} {A A' Z Z' : sM} {s' : sS} {N' : Nat} (h : Rest n A Z) (hA : Fr mvA A A') (hZ : Fr mvZ Z Z') (h1 : SR A' 0 s' N') (h2 : ZR (zA Z') (zB Z') s') (h3 : WF (n + 1) s' N') : Inv (n + 1) A' Z' := ⟨⟨s', N', h1, h2, h3⟩, h.mv hA hZ⟩
