/-! Passing on: each one's total, whatever the order. -/
def ppc (p : Nat → Int) (x : Int) (j : Nat) : Int := x * p j / 100
/-- assignments that don't come back -/
def AS (t p : Nat → Int) (N : Nat) (d : Nat → Nat) : Prop := ∀ i, i < N → t i = -1 ∨ ∃ k : Nat, k < N ∧ t i = k ∧ d k < d i ∧ 1 ≤ p i ∧ p i ≤ 100
def TT (c t p tot : Nat → Int) (N : Nat) : Prop := ∀ k, k < N → tot k = c k + sumN (fun j => if t j = (k : Int) then ppc p (tot j) j else 0) N
def tF (c t p : Nat → Int) (N : Nat) : Nat → Nat → Int
  | 0 => c
  | n + 1 => fun k => c k + sumN (fun j => if t j = (k : Int) then ppc p (tF c t p N n j) j else 0) N
theorem d_max (d : Nat → Nat) : ∀ N : Nat, ∃ D, ∀ i, i < N → d i ≤ D
  | 0 => ⟨0, fun i hi => by omega⟩
  | N + 1 => by
    obtain ⟨D, hD⟩ := d_max d N
    refine ⟨D + d N, fun i hi => ?_⟩
    by_cases e : i = N
    · subst e; omega
    · have := hD i (by omega); omega
theorem tF_st {c t p : Nat → Int} {N : Nat} {d : Nat → Nat} (h : AS t p N d) {D : Nat} (hD : ∀ i, i < N → d i ≤ D) : ∀ (n k : Nat), k < N → D - d k < n → tF c t p N n k = tF c t p N (n + 1) k
  | 0, k, _, hn => by omega
  | n + 1, k, hk, hn => by
    rw [tF, tF]
    refine congrArg (fun x => c k + x) (sumN_congr fun j hj => ?_)
    by_cases e : t j = (k : Int)
    · rw [if_pos e, if_pos e]
      rcases h j hj with q | ⟨k', hk', q, q2, -⟩
      · omega
      · have : k' = k := by omega
        subst this
        rw [tF_st h hD n j hj (by have := hD j hj; omega)]
    · rw [if_neg e, if_neg e]
theorem TT_ex {c t p : Nat → Int} {N : Nat} {d : Nat → Nat} (h : AS t p N d) : ∃ tot, TT c t p tot N := by
  obtain ⟨D, hD⟩ := d_max d N
  refine ⟨tF c t p N (D + 1), fun k hk => ?_⟩
  exact tF_st h hD (D + 1) k hk (by omega)
/-- what each one has when those of P have passed on -/
def rc (c t p tot : Nat → Int) (N : Nat) (P : Nat → Bool) (k : Nat) : Int := c k + sumN (fun j => if P j = true ∧ t j = (k : Int) then ppc p (tot j) j else 0) N - (if P k = true ∧ ¬ t k = -1 then ppc p (tot k) k else 0)
def upB (P : Nat → Bool) (k j : Nat) : Bool := if j = k then true else P j
/-- whose turn it may be -/
def nxt (t : Nat → Int) (N : Nat) (P : Nat → Bool) (k : Nat) : Prop := P k = false ∧ ∀ j, j < N → t j = (k : Int) → P j = true
def PI (c t p tot : Nat → Int) (N : Nat) (P : Nat → Bool) : Prop := (∀ k, k < N → 0 ≤ rc c t p tot N P k) ∧ sumN (rc c t p tot N P) N = sumN c N ∧ ∀ k, k < N → P k = true → ∀ j, j < N → t j = (k : Int) → P j = true
theorem ppc_bd {p : Nat → Int} {x : Int} {j : Nat} (hx : 0 ≤ x) (hp : 1 ≤ p j ∧ p j ≤ 100) : 0 ≤ ppc p x j ∧ ppc p x j ≤ x := by
  have h1 : 0 ≤ x * p j := Int.mul_nonneg hx (by omega)
  have h2 : x * p j ≤ x * 100 := Int.mul_le_mul_of_nonneg_left hp.2 hx
  rw [ppc]
  omega
section
variable {c t p tot : Nat → Int} {N : Nat} {d : Nat → Nat}
theorem PI_0 (hc : ∀ k, k < N → 0 ≤ c k) : PI c t p tot N (fun _ => false) := by
  have h0 : ∀ k, rc c t p tot N (fun _ => false) k = c k := fun k => by
    rw [rc, sumN_zero (fun j hj => if_neg (by simp)), if_neg (by simp)]; omega
  refine ⟨fun k hk => by rw [h0]; exact hc k hk, sumN_congr fun k _ => h0 k, fun k hk h => by simp at h⟩
theorem rc_tot (hT : TT c t p tot N) {P : Nat → Bool} {k : Nat} (hk : k < N) (hn : nxt t N P k) : rc c t p tot N P k = tot k := by
  rw [rc, hT k hk, if_neg (by rw [hn.1]; simp), sumN_congr (g := fun j => if t j = (k : Int) then ppc p (tot j) j else 0) (fun j hj => ?_)]
  · omega
  · by_cases e : t j = (k : Int)
    · rw [if_pos ⟨hn.2 j hj e, e⟩, if_pos e]
    · rw [if_neg (fun q => e q.2), if_neg e]
theorem rc_sum {P : Nat → Bool} {k i : Nat} (hk : k < N) (hP : P k = false) : sumN (fun j => if upB P k j = true ∧ t j = (i : Int) then ppc p (tot j) j else 0) N = sumN (fun j => if P j = true ∧ t j = (i : Int) then ppc p (tot j) j else 0) N + (if t k = (i : Int) then ppc p (tot k) k else 0) := by
  rw [sumN_up (f := fun j => if P j = true ∧ t j = (i : Int) then ppc p (tot j) j else 0) (g := fun j => if upB P k j = true ∧ t j = (i : Int) then ppc p (tot j) j else 0) hk (fun j hj hn => by simp only [upB, if_neg hn])]
  have e1 : upB P k k = true := if_pos rfl
  simp only [e1, hP, true_and, Bool.false_eq_true, false_and, if_false]
  omega
theorem rc_up (hA : AS t p N d) {P : Nat → Bool} {k : Nat} (hk : k < N) (hP : P k = false) : (∀ i, i < N → rc c t p tot N (upB P k) i = if i = k then rc c t p tot N P k - (if t k = -1 then 0 else ppc p (tot k) k) else rc c t p tot N P i + (if t k = (i : Int) then ppc p (tot k) k else 0)) := by
  intro i hi
  rw [rc, rc_sum hk hP]
  by_cases e : i = k
  · subst e
    have hni : ¬ t i = (i : Int) := by
      rcases hA i hk with q | ⟨k', hk', q, q2, -⟩
      · omega
      · intro q3
        have : k' = i := by omega
        subst this; omega
    have e1 : upB P i i = true := if_pos rfl
    rw [if_pos rfl, if_neg hni, e1, rc, hP]
    by_cases e2 : t i = -1
    · simp [e2]
    · simp [e2]
  · have e1 : upB P k i = P i := if_neg e
    rw [if_neg e, e1, rc]
    omega
theorem PI_up (hA : AS t p N d) (hT : TT c t p tot N) {P : Nat → Bool} (hI : PI c t p tot N P) {k : Nat} (hk : k < N) (hn : nxt t N P k) : PI c t p tot N (upB P k) := by
  obtain ⟨h1, h2, h3⟩ := hI
  have hrk := rc_tot hT hk hn
  have hu := rc_up (c := c) (tot := tot) hA hk hn.1
  have h0 := h1 k hk
  refine ⟨fun i hi => ?_, ?_, fun i hi hp j hj e => ?_⟩
  · rw [hu i hi]
    rcases hA k hk with q | ⟨k', hk', q, q2, q3⟩
    · have := h1 i hi
      rw [if_pos q, if_neg (c := t k = (i : Int)) (by omega)]
      split <;> omega
    · have hb := ppc_bd (p := p) (x := tot k) (j := k) (by omega) q3
      have := h1 i hi
      rw [if_neg (c := t k = -1) (by omega)]
      split
      · omega
      · split <;> omega
  · rw [← h2]
    rcases hA k hk with q | ⟨k', hk', q, q2, q3⟩
    · refine sumN_congr fun i hi => ?_
      rw [hu i hi, if_pos q, if_neg (c := t k = (i : Int)) (by omega)]
      split
      · rename_i e; rw [e]; omega
      · omega
    · have hne : ¬ k' = k := fun e => by subst e; omega
      rw [sumN_up (f := up1 (rc c t p tot N P) k (rc c t p tot N P k - ppc p (tot k) k)) (g := rc c t p tot N (upB P k)) hk' (fun j hj hn => by
        rw [hu j hj, up1, if_neg (c := t k = -1) (by omega)]
        split
        · rfl
        · rw [if_neg (by omega)]; omega), sumN_up (f := rc c t p tot N P) hk (fun j hj hn => up1_n _ _ hn), up1_s, up1_n _ _ hne, hu k' hk', if_neg hne, if_pos q]
      omega
  · by_cases e1 : i = k
    · subst e1
      have := hn.2 j hj e
      rw [upB]; split
      · rfl
      · exact this
    · have hp2 : P i = true := by rw [upB, if_neg e1] at hp; exact hp
      have := h3 i hi hp2 j hj e
      rw [upB]; split
      · rfl
      · exact this
/-- while somebody hasn't passed on, somebody may -/
theorem nxt_ex (hA : AS t p N d) {P : Nat → Bool} {k : Nat} (hk : k < N) (hP : P k = false) : ∃ k', k' < N ∧ nxt t N P k' := by
  obtain ⟨D, hD⟩ := d_max d N
  have : ∀ (n k : Nat), D - d k ≤ n → k < N → P k = false → ∃ k', k' < N ∧ nxt t N P k' := by
    intro n
    induction n with
    | zero =>
      intro k hn hk hP
      refine ⟨k, hk, hP, fun j hj e => ?_⟩
      rcases hA j hj with q | ⟨k', hk', q, q2, -⟩
      · omega
      · have : k' = k := by omega
        subst this
        have := hD j hj; omega
    | succ n ih =>
      intro k hn hk hP
      by_cases e : ∀ j, j < N → t j = (k : Int) → P j = true
      · exact ⟨k, hk, hP, e⟩
      · have e2 : ∃ j, j < N ∧ t j = (k : Int) ∧ P j = false := Classical.byContradiction fun q => e fun j hj ht => by
          cases hpj : P j with
          | true => rfl
          | false => exact absurd ⟨j, hj, ht, hpj⟩ q
        obtain ⟨j, hj, ht, hpj⟩ := e2
        rcases hA j hj with q | ⟨k', hk', q, q2, -⟩
        · omega
        · have : k' = k := by omega
          subst this
          have := hD j hj
          exact ih j (by omega) hj hpj
  exact this D k (by omega) hk hP
/-- how many have passed on -/
def cnt (P : Nat → Bool) (N : Nat) : Int := sumN (fun k => if P k = true then 1 else 0) N
theorem cnt_up {P : Nat → Bool} {k : Nat} (hk : k < N) (hP : P k = false) : cnt (upB P k) N = cnt P N + 1 := by
  rw [cnt, cnt, sumN_up (f := fun k => if P k = true then 1 else 0) (g := fun j => if upB P k j = true then 1 else 0) hk (fun j hj hn => by simp only [upB, if_neg hn])]
  have e1 : upB P k k = true := if_pos rfl
  simp only [e1, hP, Bool.false_eq_true, if_true, if_false]
  omega
theorem cnt_mono {P Q : Nat → Bool} (h : ∀ k, k < N → P k = true → Q k = true) : cnt P N ≤ cnt Q N := sumN_le fun k hk => by
  by_cases e : P k = true
  · rw [if_pos e, if_pos (h k hk e)]; omega
  · rw [if_neg e]; split <;> omega
theorem cnt_all {P : Nat → Bool} (h : (N : Int) ≤ cnt P N) : ∀ k, k < N → P k = true := by
  intro k hk
  cases hP : P k with
  | true => rfl
  | false =>
    have h1 := cnt_up hk hP
    have h2 : cnt (upB P k) N ≤ sumN (fun _ => 1) N := sumN_le fun j _ => by split <;> omega
    rw [sumN_const] at h2
    omega
theorem cnt_ex {P : Nat → Bool} (h : cnt P N < N) : ∃ k, k < N ∧ P k = false := Classical.byContradiction fun q => by
  have h1 : cnt P N = sumN (fun _ => 1) N := sumN_congr fun k hk => by
    cases hP : P k with
    | true => rw [if_pos rfl]
    | false => exact absurd ⟨k, hk, hP⟩ q
  rw [sumN_const] at h1
  omega
theorem rc_congr {P Q : Nat → Bool} (h : ∀ k, k < N → P k = Q k) {k : Nat} (hk : k < N) : rc c t p tot N P k = rc c t p tot N Q k := by
  rw [rc, rc, sumN_congr (fun j hj => by rw [h j hj]), h k hk]
end
/-- the credit that one keeps -/
def kp (c t p tot : Nat → Int) (N k : Nat) : Int := rc c t p tot N (fun _ => true) k
