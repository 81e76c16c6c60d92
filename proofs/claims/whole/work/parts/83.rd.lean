/-! Reading a text: what both readers see. -/
def RA (A : sM) (t : Nat → Int) (L : Nat) : Prop := A.1 5 2 0 0 = oI L ∧ ∀ k, k < L → A.1 20 0 0 k = oI (sby (t k))
def RZ (Z : sM) (t : Nat → Int) (L : Nat) : Prop := Z.1 10 9 0 0 = oI L ∧ ∀ k, k < L → Z.1 32 0 0 k = oI (t k)
def RT (t : Nat → Int) (L : Nat) : Prop := L ≤ 300 ∧ ∀ k, k < L → 0 ≤ t k ∧ t k < 256
def skF (t : Nat → Int) (L : Nat) : Nat → Nat → Nat
  | 0, p => p
  | f + 1, p => if p < L ∧ t p = 32 then skF t L f (p + 1) else p
/-- the first place from p on that holds no space -/
def skp (t : Nat → Int) (L p : Nat) : Nat := skF t L (L - p) p
theorem skp_e {t : Nat → Int} {L p : Nat} (h : p < L ∧ t p = 32) : skp t L p = skp t L (p + 1) := by
  rw [skp, skp, show L - p = (L - (p + 1)) + 1 by omega, skF, if_pos h]
theorem skp_n {t : Nat → Int} {L p : Nat} (h : ¬ (p < L ∧ t p = 32)) : skp t L p = p := by
  rw [skp]
  cases hq : L - p with
  | zero => rfl
  | succ f => rw [skF, if_neg h]
theorem skF_le (t : Nat → Int) (L : Nat) : ∀ (f p : Nat), p ≤ skF t L f p ∧ (p ≤ L → skF t L f p ≤ L)
  | 0, p => ⟨Nat.le_refl _, fun h => h⟩
  | f + 1, p => by
    rw [skF]
    by_cases q : p < L ∧ t p = 32
    · rw [if_pos q]
      have := skF_le t L f (p + 1)
      exact ⟨by omega, fun _ => this.2 (by omega)⟩
    · rw [if_neg q]; exact ⟨Nat.le_refl _, fun h => h⟩
theorem skp_le (t : Nat → Int) (L p : Nat) : p ≤ skp t L p ∧ (p ≤ L → skp t L p ≤ L) := skF_le t L _ p
theorem sby_eq {v : Int} (h : 0 ≤ v ∧ v < 256) {c : Int} (hc : 0 ≤ c ∧ c < 128) : sby v = c ↔ v = c := by
  rw [sby]; split <;> omega
theorem sby_rg {v : Int} (h : 0 ≤ v ∧ v < 256) : -128 ≤ sby v ∧ sby v < 128 := by
  rw [sby]; split <;> omega
def r53 (c k _ : Nat) : Bool := c == 5 && k == 3
theorem skA_L {t : Nat → Int} {L : Nat} (hT : RT t L) (kk : sM → Option sM) : ∀ (d fuel p : Nat) (A : sM), L - p = d → p ≤ L → d < fuel → RA A t L → A.1 5 4 0 0 = 0 → A.1 5 3 0 0 = oI p → ∃ A', Fr r53 A A' ∧ A'.1 5 3 0 0 = oI (skp t L p) ∧ fX5_skipSpaces_L0 kk fuel A = kk A' := by
  intro d
  induction d with
  | zero =>
    intro fuel p A hd hp hf hR h4 h3
    obtain ⟨f, rfl⟩ : ∃ f, fuel = f + 1 := ⟨fuel - 1, by omega⟩
    have hL := hT.1
    refine ⟨A, Fr.refl _, by rw [skp_n (by omega)]; exact h3, ?_⟩
    rw [fX5_skipSpaces_L0, h4, if_pos rfl, hR.1, h3, if_pos (by simp (disch := omega) only [oI_lt, oI_le, oI_eq, oL_lt, oL_le, oL_eq, oI_L, oI_clamp, oI_inb, oL_nz]; omega)]
  | succ d ih =>
    intro fuel p A hd hp hf hR h4 h3
    obtain ⟨f, rfl⟩ : ∃ f, fuel = f + 1 := ⟨fuel - 1, by omega⟩
    have hL := hT.1
    have hpL : p < L := by omega
    have hb := hT.2 p hpL
    have hr := sby_rg hb
    by_cases q : t p = 32
    · obtain ⟨A', u1, u2, u3⟩ := ih f (p + 1) (wI A 5 3 0 0 (oI (p + 1 : Nat))) (by omega) (by omega) (by omega) ⟨by rw [wI_1, if_neg (by omega)]; exact hR.1, fun k hk => by rw [wI_1, if_neg (by omega)]; exact hR.2 k hk⟩ (by rw [wI_1, if_neg (by omega)]; exact h4) (by rw [wI_1, if_pos ⟨rfl, rfl, rfl, rfl⟩])
      refine ⟨A', Fr.trans ((Fr.refl _).wI rfl) u1, by rw [skp_e ⟨hpL, q⟩]; exact u2, ?_⟩
      rw [fX5_skipSpaces_L0, h4, if_pos rfl, hR.1, h3, if_neg (by simp (disch := omega) only [oI_lt, oI_le, oI_eq, oL_lt, oL_le, oL_eq, oI_L, oI_clamp, oI_inb, oL_nz]; omega), inbA (by omega) (by omega), gd_true, clpA (by omega), hR.2 p hpL, if_pos (by rw [kI_32, (sby_eq hb (by omega)).2 q]), kI_1, oI_add, nat1, ltb_eq]
      exact u3
    · refine ⟨A, Fr.refl _, by rw [skp_n (fun h => q h.2)]; exact h3, ?_⟩
      rw [fX5_skipSpaces_L0, h4, if_pos rfl, hR.1, h3, if_neg (by simp (disch := omega) only [oI_lt, oI_le, oI_eq, oL_lt, oL_le, oL_eq, oI_L, oI_clamp, oI_inb, oL_nz]; omega), inbA (by omega) (by omega), gd_true, clpA (by omega), hR.2 p hpL, if_neg (by rw [kI_32]; simp (disch := omega) only [oI_lt, oI_le, oI_eq, oL_lt, oL_le, oL_eq, oI_L, oI_clamp, oI_inb, oL_nz]; exact fun e => q ((sby_eq hb (by omega)).1 e))]
theorem skA {t : Nat → Int} {L p : Nat} {A : sM} (hT : RT t L) (hp : p ≤ L) (hR : RA A t L) (h4 : A.1 5 4 0 0 = 0) (h3 : A.1 5 3 0 0 = oI p) : ∃ A', Fr r53 A A' ∧ A'.1 5 3 0 0 = oI (skp t L p) ∧ fX5_skipSpaces A = some A' := by
  have hL := hT.1
  exact skA_L hT (fun A => some A) (L - p) 10000 p A rfl hp (by omega) hR h4 h3
theorem see {t : Nat → Int} {L p : Nat} {Z : sM} (hT : RT t L) (hR : RZ Z t L) (hp : p ≤ L) : fX10_see (oI p) Z = some (oI (if p < L then t p else -1)) := by
  have hL := hT.1
  rw [fX10_see, hR.1]
  by_cases q : p < L
  · rw [if_neg (by simp (disch := omega) only [oI_lt, oI_le, oI_eq, oL_lt, oL_le, oL_eq, oI_L, oI_clamp, oI_inb, oL_nz]; omega), inbA (by omega) (by omega), gd_true, clpA (by omega), hR.2 p q, if_pos q]
  · rw [if_pos (by simp (disch := omega) only [oI_lt, oI_le, oI_eq, oL_lt, oL_le, oL_eq, oI_L, oI_clamp, oI_inb, oL_nz]; omega), if_neg q]; rfl
def r10 (c k _ : Nat) : Bool := c == 10 && (k == 10 || k == 11 || k == 12 || k == 16)
theorem skZ_L {t : Nat → Int} {L : Nat} (hT : RT t L) : ∀ (d fuel p : Nat) (Z : sM), L - p = d → p ≤ L → d < fuel → RZ Z t L → Z.1 10 10 0 0 = oI p → ∃ Z', Fr r10 Z Z' ∧ Z'.1 10 10 0 0 = oI (skp t L p) ∧ ∀ kk, fX10_next_L8 kk fuel Z = kk Z' := by
  intro d
  induction d with
  | zero =>
    intro fuel p Z hd hp hf hR h3
    obtain ⟨f, rfl⟩ : ∃ f, fuel = f + 1 := ⟨fuel - 1, by omega⟩
    refine ⟨Z, Fr.refl _, by rw [skp_n (by omega)]; exact h3, fun kk => ?_⟩
    rw [fX10_next_L8, h3, see hT hR hp, bd_eq, if_neg (c := p < L) (by omega), if_neg (by decide)]
  | succ d ih =>
    intro fuel p Z hd hp hf hR h3
    obtain ⟨f, rfl⟩ : ∃ f, fuel = f + 1 := ⟨fuel - 1, by omega⟩
    have hpL : p < L := by omega
    have hb := hT.2 p hpL
    by_cases q : t p = 32
    · obtain ⟨Z', u1, u2, u3⟩ := ih f (p + 1) (wI Z 10 10 0 0 (oI (p + 1 : Nat))) (by omega) (by omega) (by omega) ⟨by rw [wI_1, if_neg (by omega)]; exact hR.1, fun k hk => by rw [wI_1, if_neg (by omega)]; exact hR.2 k hk⟩ (by rw [wI_1, if_pos ⟨rfl, rfl, rfl, rfl⟩])
      refine ⟨Z', Fr.trans ((Fr.refl _).wI rfl) u1, by rw [skp_e ⟨hpL, q⟩]; exact u2, fun kk => ?_⟩
      rw [fX10_next_L8, h3, see hT hR hp, bd_eq, if_pos hpL, if_pos (by rw [q]; rfl), kI_1, oI_add, nat1, ltb_eq]
      exact u3 kk
    · refine ⟨Z, Fr.refl _, by rw [skp_n (fun h => q h.2)]; exact h3, fun kk => ?_⟩
      rw [fX10_next_L8, h3, see hT hR hp, bd_eq, if_pos hpL, if_neg (by rw [kI_32]; simp (disch := omega) only [oI_lt, oI_le, oI_eq, oL_lt, oL_le, oL_eq, oI_L, oI_clamp, oI_inb, oL_nz]; exact q)]
