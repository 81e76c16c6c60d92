/-! Division by weights: the greatest remainder first. -/
def am (f : Nat → Int) : Nat → Nat
  | 0 => 0
  | n + 1 => if f (am f n) < f n then n else am f n
theorem am_lt (f : Nat → Int) : ∀ {n : Nat}, 0 < n → am f n < n
  | n + 1, _ => by
    rw [am]
    split
    · omega
    · by_cases h : n = 0
      · subst h; exact Nat.zero_lt_one
      · have := am_lt f (n := n) (by omega); omega
theorem am_max (f : Nat → Int) : ∀ {n k : Nat}, k < n → f k ≤ f (am f n)
  | n + 1, k, hk => by
    rw [am]
    by_cases e : k = n
    · subst e; split <;> omega
    · have := am_max f (n := n) (k := k) (by omega)
      split <;> omega
theorem am_first (f : Nat → Int) : ∀ {n k : Nat}, k < am f n → f k < f (am f n)
  | n + 1, k, hk => by
    rw [am] at hk ⊢
    by_cases e : f (am f n) < f n
    · rw [if_pos e] at hk ⊢
      have := am_max f hk
      omega
    · rw [if_neg e] at hk ⊢
      exact am_first f hk
theorem am_uniq {f : Nat → Int} {n i : Nat} (hi : i < n) (h1 : ∀ k, k < n → f k ≤ f i) (h2 : ∀ k, k < i → f k < f i) : am f n = i := by
  have a1 := am_lt f (n := n) (by omega)
  have a2 := am_max f hi
  have a3 := h1 _ a1
  by_cases e : am f n < i
  · have := h2 _ e; omega
  · by_cases e2 : i < am f n
    · have := am_first f e2; omega
    · omega
theorem am_congr {f g : Nat → Int} : ∀ {n : Nat}, (∀ k, k < n → f k = g k) → am f n = am g n
  | 0, _ => rfl
  | n + 1, h => by
    have hm := am_congr (f := f) (g := g) (n := n) (fun k hk => h k (by omega))
    rw [am, am, hm]
    by_cases e : n = 0
    · subst e; simp [am, h 0 (by omega)]
    · have := am_lt g (n := n) (by omega)
      rw [h _ (show am g n < n + 1 by omega), h n (by omega)]
def giv (f : Nat → Int) (P : Nat) : Nat → Nat → Int
  | 0 => f
  | g + 1 => up1 (giv f P g) (am (giv f P g) P) (-1)
def prt (b f : Nat → Int) (P : Nat) : Nat → Nat → Int
  | 0 => b
  | g + 1 => up1 (prt b f P g) (am (giv f P g) P) (prt b f P g (am (giv f P g) P) + 1)
def qt (V T : Int) (w : Nat → Int) (k : Nat) : Int := V * w k / T
def rm (V T : Int) (w : Nat → Int) (k : Nat) : Int := V * w k % T
/-- how many millicents are left -/
def lft (V T : Int) (w : Nat → Int) (P : Nat) : Int := V - sumN (qt V T w) P
/-- a part -/
def dvd (V T : Int) (w : Nat → Int) (P k : Nat) : Int := prt (qt V T w) (rm V T w) P (lft V T w P).toNat k
/-- what a division rests on -/
def DV (V T : Int) (w : Nat → Int) (P : Nat) : Prop := 0 ≤ V ∧ 0 < T ∧ (V * T < 9223372036854775808 ∧ T < 9223372036854775808) ∧ (∀ k, k < P → 0 ≤ w k) ∧ sumN w P = T
section
variable {V T : Int} {w : Nat → Int} {P : Nat}
theorem DV.pos (h : DV V T w P) : 0 < P := by
  cases P with
  | zero => have := h.2.2.2.2; rw [sumN] at this; have := h.2.1; omega
  | succ n => omega
theorem DV.wle (h : DV V T w P) {k : Nat} (hk : k < P) : w k ≤ T := by
  have := sumN_mem hk h.2.2.2.1
  rw [h.2.2.2.2] at this
  exact this
theorem DV.prod (h : DV V T w P) {k : Nat} (hk : k < P) : 0 ≤ V * w k ∧ V * w k ≤ V * T := ⟨Int.mul_nonneg h.1 (h.2.2.2.1 k hk), Int.mul_le_mul_of_nonneg_left (h.wle hk) h.1⟩
theorem DV.q0 (h : DV V T w P) {k : Nat} (hk : k < P) : 0 ≤ qt V T w k ∧ qt V T w k ≤ V := by
  have hp := h.prod hk
  have hT := h.2.1
  refine ⟨Int.ediv_nonneg hp.1 (by omega), ?_⟩
  have : V * w k / T ≤ V * T / T := Int.ediv_le_ediv hT hp.2
  rw [Int.mul_ediv_cancel _ (by omega)] at this
  exact this
theorem DV.r0 (h : DV V T w P) (k : Nat) : 0 ≤ rm V T w k ∧ rm V T w k < T := by
  have hT := h.2.1
  exact ⟨Int.emod_nonneg _ (by omega), Int.emod_lt_of_pos _ hT⟩
theorem qr (V T : Int) (w : Nat → Int) (k : Nat) : rm V T w k + T * qt V T w k = V * w k := Int.emod_add_mul_ediv _ _
theorem DV.sum (h : DV V T w P) : sumN (rm V T w) P = T * lft V T w P := by
  have e1 : sumN (fun k => rm V T w k + T * qt V T w k) P = sumN (fun k => V * w k) P := sumN_congr fun k _ => qr V T w k
  rw [sumN_add, sumN_mul, sumN_mul, h.2.2.2.2] at e1
  rw [lft, Int.mul_sub, Int.mul_comm T V]
  have : sumN (fun i => rm V T w i) P = sumN (rm V T w) P := rfl
  have : sumN (fun i => qt V T w i) P = sumN (qt V T w) P := rfl
  omega
theorem DV.l0 (h : DV V T w P) : 0 ≤ lft V T w P ∧ lft V T w P < P := by
  have hs := h.sum
  have hT := h.2.1
  have h1 : 0 ≤ sumN (rm V T w) P := sumN_nonneg fun k _ => (h.r0 k).1
  have h2 : sumN (rm V T w) P ≤ sumN (fun _ => T - 1) P := sumN_le fun k _ => by have := (h.r0 k).2; omega
  rw [sumN_const] at h2
  have hP := h.pos
  constructor
  · by_cases e : 0 ≤ lft V T w P
    · exact e
    · have : T * lft V T w P ≤ T * (-1) := Int.mul_le_mul_of_nonneg_left (by omega) (by omega)
      omega
  · by_cases e : lft V T w P < P
    · exact e
    · have h3 : T * (P : Int) ≤ T * lft V T w P := Int.mul_le_mul_of_nonneg_left (by omega) (by omega)
      have h4 : (P : Int) * (T - 1) = T * P - P := by rw [Int.mul_sub, Int.mul_comm]; omega
      omega
theorem giv_or (f : Nat → Int) (P : Nat) : ∀ (g k : Nat), giv f P g k = -1 ∨ giv f P g k = f k
  | 0, _ => Or.inr rfl
  | g + 1, k => by
    rw [giv, up1]
    split
    · exact Or.inl rfl
    · exact giv_or f P g k
theorem giv_sum (h : DV V T w P) : ∀ g : Nat, T * (lft V T w P - g) ≤ sumN (giv (rm V T w) P g) P
  | 0 => by rw [giv, h.sum]; simp
  | g + 1 => by
    have ih := giv_sum h g
    have ha := am_lt (giv (rm V T w) P g) h.pos
    rw [giv, sumN_up (f := giv (rm V T w) P g) ha (fun j _ hj => up1_n _ _ hj), up1_s]
    have h1 := giv_or (rm V T w) P g (am (giv (rm V T w) P g) P)
    have h2 := (h.r0 (am (giv (rm V T w) P g) P)).2
    have hT := h.2.1
    have h3 : T * (lft V T w P - ((g + 1 : Nat) : Int)) = T * (lft V T w P - g) - T := by
      rw [show (lft V T w P - ((g + 1 : Nat) : Int)) = (lft V T w P - g) - 1 by omega, Int.mul_sub]; omega
    omega
/-- while something is left, somebody has a remainder -/
theorem giv_pos (h : DV V T w P) {g : Nat} (hg : (g : Int) < lft V T w P) : 0 < giv (rm V T w) P g (am (giv (rm V T w) P g) P) := by
  have h1 := giv_sum h g
  have hT := h.2.1
  by_cases e : 0 < giv (rm V T w) P g (am (giv (rm V T w) P g) P)
  · exact e
  · exfalso
    have h2 : sumN (giv (rm V T w) P g) P ≤ sumN (fun _ => 0) P := sumN_le fun k hk => by
      have := am_max (giv (rm V T w) P g) hk; omega
    rw [sumN_const] at h2
    have h3 : T * 1 ≤ T * (lft V T w P - g) := Int.mul_le_mul_of_nonneg_left (by omega) (by omega)
    omega
theorem dvd_bd (h : DV V T w P) (k : Nat) : ∀ g : Nat, qt V T w k ≤ prt (qt V T w) (rm V T w) P g k ∧ prt (qt V T w) (rm V T w) P g k ≤ qt V T w k + g
  | 0 => ⟨Int.le_refl _, by rw [prt]; omega⟩
  | g + 1 => by
    have ih := dvd_bd h k g
    rw [prt, up1]
    split
    · rename_i e; rw [← e]; omega
    · omega
/-- the parts make up the whole -/
theorem prt_sum (h : DV V T w P) : ∀ g : Nat, sumN (prt (qt V T w) (rm V T w) P g) P = sumN (qt V T w) P + g
  | 0 => by rw [prt]; omega
  | g + 1 => by
    have ih := prt_sum h g
    rw [prt, sumN_up (f := prt (qt V T w) (rm V T w) P g) (am_lt _ h.pos) (fun j _ hj => up1_n _ _ hj), up1_s, ih]
    omega
theorem dvd_sum (h : DV V T w P) : sumN (dvd V T w P) P = V := by
  have h0 := h.l0
  rw [show sumN (dvd V T w P) P = sumN (prt (qt V T w) (rm V T w) P (lft V T w P).toNat) P from rfl, prt_sum h, lft] at *
  omega
theorem dvd_nn (h : DV V T w P) {k : Nat} (hk : k < P) : 0 ≤ dvd V T w P k := by
  have h1 := (dvd_bd h k (lft V T w P).toNat).1
  have h2 := (h.q0 hk).1
  rw [dvd]; omega
theorem dvd_le (h : DV V T w P) {k : Nat} (hk : k < P) : dvd V T w P k ≤ V := by
  have := sumN_mem hk (fun j hj => dvd_nn h hj)
  rw [dvd_sum h] at this
  exact this
end
/-! More participants without weight change nothing. -/
section
variable {V T : Int} {w W : Nat → Int} {P Q : Nat} {φ : Nat → Nat}
theorem emb (hD : DV V T w P) (hφ : ∀ k, k < P → φ k < Q) (hm : ∀ j k, j < k → k < P → φ j < φ k) (hW : ∀ k, k < P → W (φ k) = w k) (h0 : ∀ j, j < Q → (∀ k, k < P → ¬ φ k = j) → W j = 0) :
    ∀ g : Nat, (g : Int) ≤ lft V T w P → (∀ k, k < P → giv (rm V T W) Q g (φ k) = giv (rm V T w) P g k ∧ prt (qt V T W) (rm V T W) Q g (φ k) = prt (qt V T w) (rm V T w) P g k) ∧ (∀ j, j < Q → (∀ k, k < P → ¬ φ k = j) → giv (rm V T W) Q g j = 0 ∧ prt (qt V T W) (rm V T W) Q g j = 0) := by
  intro g
  induction g with
  | zero =>
    intro _
    refine ⟨fun k hk => ⟨?_, ?_⟩, fun j hj hn => ⟨?_, ?_⟩⟩
    · rw [giv, giv, rm, rm, hW k hk]
    · rw [prt, prt, qt, qt, hW k hk]
    · rw [giv, rm, h0 j hj hn]; simp
    · rw [prt, qt, h0 j hj hn]; simp
  | succ g ih =>
    intro hg
    obtain ⟨i1, i2⟩ := ih (by omega)
    have hp := giv_pos hD (g := g) (by omega)
    have ha := am_lt (giv (rm V T w) P g) hD.pos
    have key : am (giv (rm V T W) Q g) Q = φ (am (giv (rm V T w) P g) P) := by
      refine am_uniq (hφ _ ha) (fun j hj => ?_) (fun j hj => ?_)
      · rw [(i1 _ ha).1]
        by_cases hn : ∀ k, k < P → ¬ φ k = j
        · rw [(i2 j hj hn).1]; omega
        · have hn2 : ∃ k, k < P ∧ φ k = j := Classical.byContradiction fun q => hn fun k hk e => q ⟨k, hk, e⟩
          obtain ⟨k, hk, rfl⟩ := hn2
          rw [(i1 k hk).1]
          exact am_max _ hk
      · have hjQ : j < Q := Nat.lt_trans hj (hφ _ ha)
        rw [(i1 _ ha).1]
        by_cases hn : ∀ k, k < P → ¬ φ k = j
        · rw [(i2 j hjQ hn).1]; omega
        · have hn2 : ∃ k, k < P ∧ φ k = j := Classical.byContradiction fun q => hn fun k hk e => q ⟨k, hk, e⟩
          obtain ⟨k, hk, rfl⟩ := hn2
          rw [(i1 k hk).1]
          refine am_first _ ?_
          by_cases e : k < am (giv (rm V T w) P g) P
          · exact e
          · by_cases e2 : k = am (giv (rm V T w) P g) P
            · rw [e2] at hj; omega
            · have := hm _ _ (show am (giv (rm V T w) P g) P < k by omega) hk; omega
    have inj : ∀ j k, j < P → k < P → φ j = φ k → j = k := by
      intro j k hj hk e
      by_cases e1 : j < k
      · have := hm j k e1 hk; omega
      · by_cases e2 : k < j
        · have := hm k j e2 hj; omega
        · omega
    refine ⟨fun k hk => ?_, fun j hj hn => ?_⟩
    · rw [giv, giv, prt, prt, key]
      by_cases e : k = am (giv (rm V T w) P g) P
      · rw [← e, up1_s, up1_s, up1_s, up1_s, (i1 k hk).2]
        exact ⟨rfl, rfl⟩
      · have e' : ¬ φ k = φ (am (giv (rm V T w) P g) P) := fun q => e (inj _ _ hk ha q)
        rw [up1_n _ _ e', up1_n _ _ e, up1_n _ _ e', up1_n _ _ e]
        exact i1 k hk
    · rw [giv, prt, key]
      have e' : ¬ j = φ (am (giv (rm V T w) P g) P) := fun q => hn _ ha q.symm
      rw [up1_n _ _ e', up1_n _ _ e']
      exact i2 j hj hn
theorem sumN_emb (hφ : ∀ k, k < P → φ k < Q) (hm : ∀ j k, j < k → k < P → φ j < φ k) {f F : Nat → Int} (hW : ∀ k, k < P → F (φ k) = f k) (h0 : ∀ j, j < Q → (∀ k, k < P → ¬ φ k = j) → F j = 0) : sumN F Q = sumN f P := by
  -- by the last of the P places
  induction P generalizing Q with
  | zero => exact sumN_zero fun j hj => h0 j hj (fun k hk => by omega)
  | succ P ih =>
    have hl := hφ P (by omega)
    rw [sumN]
    have hq : ∀ d : Nat, φ P + 1 + d ≤ Q → sumN F (φ P + 1 + d) = sumN F (φ P + 1) := by
      intro d
      induction d with
      | zero => intro _; rfl
      | succ d ihd =>
        intro hd
        rw [show φ P + 1 + (d + 1) = (φ P + 1 + d) + 1 by omega, sumN, ihd (by omega), h0 (φ P + 1 + d) (by omega) (fun k hk e => by
          by_cases e2 : k = P
          · subst e2; omega
          · have := hm k P (by omega) (by omega); omega)]
        omega
    have := hq (Q - (φ P + 1)) (by omega)
    rw [show φ P + 1 + (Q - (φ P + 1)) = Q by omega] at this
    rw [this, sumN, hW P (by omega), ih (Q := φ P) (fun k hk => hm k P hk (by omega)) (fun j k hjk hk => hm j k hjk (by omega)) (fun k hk => hW k (by omega)) (fun j hj hn => h0 j (by omega) (fun k hk => by
      by_cases e : k = P
      · subst e; omega
      · exact hn k (by omega)))]
theorem dvd_emb (hD : DV V T w P) (hφ : ∀ k, k < P → φ k < Q) (hm : ∀ j k, j < k → k < P → φ j < φ k) (hW : ∀ k, k < P → W (φ k) = w k) (h0 : ∀ j, j < Q → (∀ k, k < P → ¬ φ k = j) → W j = 0) :
    DV V T W Q ∧ (∀ k, k < P → dvd V T W Q (φ k) = dvd V T w P k) ∧ (∀ j, j < Q → (∀ k, k < P → ¬ φ k = j) → dvd V T W Q j = 0) := by
  have hl : lft V T W Q = lft V T w P := by
    rw [lft, lft, sumN_emb hφ hm (f := qt V T w) (F := qt V T W) (fun k hk => by rw [qt, qt, hW k hk]) (fun j hj hn => by rw [qt, h0 j hj hn]; simp)]
  have h9 := hD.l0
  have he := emb hD hφ hm hW h0 (lft V T w P).toNat (by omega)
  refine ⟨⟨hD.1, hD.2.1, hD.2.2.1, fun j hj => ?_, ?_⟩, fun k hk => ?_, fun j hj hn => ?_⟩
  · by_cases hn : ∀ k, k < P → ¬ φ k = j
    · rw [h0 j hj hn]; omega
    · have hn2 : ∃ k, k < P ∧ φ k = j := Classical.byContradiction fun q => hn fun k hk e => q ⟨k, hk, e⟩
      obtain ⟨k, hk, rfl⟩ := hn2
      rw [hW k hk]; exact hD.2.2.2.1 k hk
  · rw [sumN_emb hφ hm hW h0]; exact hD.2.2.2.2
  · rw [dvd, dvd, hl]; exact (he.1 k hk).2
  · rw [dvd, hl]; exact (he.2 j hj hn).2
end
/-- thirty times the weights divide alike -/
theorem giv_scale {c : Int} (hc : 0 < c) {f g : Nat → Int} {P : Nat} : ∀ (n : Nat), (∀ k, k < P → 0 ≤ f k ∧ g k = c * f k) → 0 < P → (∀ k, k < P → (giv f P n k = -1 ∧ giv g P n k = -1) ∨ (0 ≤ giv f P n k ∧ giv g P n k = c * giv f P n k)) ∧ am (giv g P n) P = am (giv f P n) P
  | n, h, hP => by
    have base : (∀ k, k < P → (giv f P n k = -1 ∧ giv g P n k = -1) ∨ (0 ≤ giv f P n k ∧ giv g P n k = c * giv f P n k)) := by
      cases n with
      | zero => intro k hk; exact Or.inr (h k hk)
      | succ n =>
        obtain ⟨h1, h2⟩ := giv_scale hc n h hP
        intro k hk
        rw [giv, giv, h2]
        by_cases e : k = am (giv f P n) P
        · rw [← e, up1_s, up1_s]; exact Or.inl ⟨rfl, rfl⟩
        · rw [up1_n _ _ e, up1_n _ _ e]; exact h1 k hk
    refine ⟨base, ?_⟩
    have ha := am_lt (giv f P n) hP
    have hmon : ∀ x y, x < P → y < P → (giv f P n x ≤ giv f P n y → giv g P n x ≤ giv g P n y) ∧ (giv f P n x < giv f P n y → giv g P n x < giv g P n y) := by
      intro x y hx hy
      rcases base x hx with ⟨a1, a2⟩ | ⟨a1, a2⟩ <;> rcases base y hy with ⟨b1, b2⟩ | ⟨b1, b2⟩ <;> rw [a2, b2]
      · exact ⟨fun _ => Int.le_refl _, fun q => by omega⟩
      · have := Int.mul_nonneg (Int.le_of_lt hc) b1
        exact ⟨fun _ => by omega, fun _ => by omega⟩
      · exact ⟨fun q => by omega, fun q => by omega⟩
      · exact ⟨fun q => Int.mul_le_mul_of_nonneg_left q (by omega), fun q => Int.mul_lt_mul_of_pos_left q hc⟩
    exact am_uniq ha (fun k hk => (hmon k _ hk ha).1 (am_max _ hk)) (fun k hk => (hmon k _ (by omega) ha).2 (am_first _ hk))
theorem dvd_scale {c V T : Int} (hc : 0 < c) {w : Nat → Int} {P : Nat} (hD : DV V T w P) (hb : V * (c * T) < 9223372036854775808 ∧ c * T < 9223372036854775808) : DV V (c * T) (fun k => c * w k) P ∧ ∀ k, k < P → dvd V (c * T) (fun k => c * w k) P k = dvd V T w P k := by
  have hq : ∀ k, qt V (c * T) (fun k => c * w k) k = qt V T w k := by
    intro k
    rw [qt, qt, show V * (c * w k) = c * (V * w k) by grind, Int.mul_ediv_mul_of_pos _ _ hc]
  have hr : ∀ k, rm V (c * T) (fun k => c * w k) k = c * rm V T w k := by
    intro k
    rw [rm, rm, show V * (c * w k) = c * (V * w k) by grind, Int.mul_emod_mul_of_pos _ _ hc]
  have hl : lft V (c * T) (fun k => c * w k) P = lft V T w P := by
    rw [lft, lft, sumN_congr (fun k _ => hq k)]
  refine ⟨⟨hD.1, Int.mul_pos hc hD.2.1, hb, fun k hk => Int.mul_nonneg (by omega) (hD.2.2.2.1 k hk), by rw [sumN_mul, hD.2.2.2.2]⟩, ?_⟩
  have key : ∀ n k : Nat, k < P → prt (qt V (c * T) (fun k => c * w k)) (rm V (c * T) (fun k => c * w k)) P n k = prt (qt V T w) (rm V T w) P n k := by
    intro n
    induction n with
    | zero => intro k _; rw [prt, prt, hq]
    | succ n ih =>
      intro k hk
      have hs := (giv_scale hc (f := rm V T w) (g := rm V (c * T) (fun k => c * w k)) n (fun k _ => ⟨(hD.r0 k).1, hr k⟩) hD.pos).2
      rw [prt, prt, hs]
      by_cases e : k = am (giv (rm V T w) P n) P
      · rw [← e, up1_s, up1_s, ih k hk]
      · rw [up1_n _ _ e, up1_n _ _ e, ih k hk]
  intro k hk
  rw [dvd, dvd, hl, key _ k hk]
