/-! Runs of letters and digits. -/
def rnF (a b : Int) (t : Nat → Int) (L : Nat) : Nat → Nat → Nat
  | 0, p => p
  | f + 1, p => if p < L ∧ (a ≤ t p ∧ t p ≤ b) then rnF a b t L f (p + 1) else p
/-- the end of the run of bytes from a to b that starts at p -/
def rn (a b : Int) (t : Nat → Int) (L p : Nat) : Nat := rnF a b t L (L - p) p
theorem rn_e {a b : Int} {t : Nat → Int} {L p : Nat} (h : p < L ∧ (a ≤ t p ∧ t p ≤ b)) : rn a b t L p = rn a b t L (p + 1) := by
  rw [rn, rn, show L - p = (L - (p + 1)) + 1 by omega, rnF, if_pos h]
theorem rn_n {a b : Int} {t : Nat → Int} {L p : Nat} (h : ¬ (p < L ∧ (a ≤ t p ∧ t p ≤ b))) : rn a b t L p = p := by
  rw [rn]
  cases hq : L - p with
  | zero => rfl
  | succ f => rw [rnF, if_neg h]
theorem rnF_le (a b : Int) (t : Nat → Int) (L : Nat) : ∀ (f p : Nat), p ≤ rnF a b t L f p ∧ (p ≤ L → rnF a b t L f p ≤ L)
  | 0, p => ⟨Nat.le_refl _, fun h => h⟩
  | f + 1, p => by
    rw [rnF]
    by_cases q : p < L ∧ (a ≤ t p ∧ t p ≤ b)
    · rw [if_pos q]
      have := rnF_le a b t L f (p + 1)
      exact ⟨by omega, fun _ => this.2 (by omega)⟩
    · rw [if_neg q]; exact ⟨Nat.le_refl _, fun h => h⟩
theorem rn_le (a b : Int) (t : Nat → Int) (L p : Nat) : p ≤ rn a b t L p ∧ (p ≤ L → rn a b t L p ≤ L) := rnF_le a b t L _ p
/-- the reference's number: it grows no more once it has reached ten millions -/
def nvF (t : Nat → Int) (L : Nat) : Nat → Nat → Int → Int
  | 0, _, v => v
  | f + 1, p, v => if p < L ∧ (48 ≤ t p ∧ t p ≤ 57) then nvF t L f (p + 1) (if 10000000 ≤ v then v else 10 * v + t p - 48) else v
def nv (t : Nat → Int) (L p : Nat) (v : Int) : Int := nvF t L (L - p) p v
theorem nv_e {t : Nat → Int} {L p : Nat} {v : Int} (h : p < L ∧ (48 ≤ t p ∧ t p ≤ 57)) : nv t L p v = nv t L (p + 1) (if 10000000 ≤ v then v else 10 * v + t p - 48) := by
  rw [nv, nv, show L - p = (L - (p + 1)) + 1 by omega, nvF, if_pos h]
theorem nv_n {t : Nat → Int} {L p : Nat} {v : Int} (h : ¬ (p < L ∧ (48 ≤ t p ∧ t p ≤ 57))) : nv t L p v = v := by
  rw [nv]
  cases hq : L - p with
  | zero => rfl
  | succ f => rw [nvF, if_neg h]
theorem inZ2 {t : Nat → Int} {L p : Nat} {Z : sM} (hT : RT t L) {a b : Int} (ha : 0 ≤ a ∧ a ≤ b ∧ b < 1000) : fX10_isIn ((oI (if p < L then t p else -1)).toInt64) (oL a) (oL b) Z = some (oI (if p < L ∧ (a ≤ t p ∧ t p ≤ b) then 1 else 0)) := by
  by_cases q : p < L
  · have hb := hT.2 p q
    rw [if_pos q, oI_L (by omega) (by omega)]
    by_cases q2 : a ≤ t p ∧ t p ≤ b
    · rw [isIn_t Z q2 (by omega) (by omega), if_pos ⟨q, q2⟩]
    · rw [if_neg (fun h => q2 h.2)]
      exact isIn_f Z q2 (by omega) (by omega) (by omega) (by omega) (by omega) (by omega)
  · rw [if_neg q, if_neg (fun h => q h.1), oI_L (by omega) (by omega)]
    exact isIn_f Z (by omega) (by omega) (by omega) (by omega) (by omega) (by omega) (by omega)
theorem ltZ_L {t : Nat → Int} {L : Nat} (hT : RT t L) : ∀ (d fuel p : Nat) (Z : sM), L - p = d → p ≤ L → d < fuel → RZ Z t L → Z.1 10 11 0 0 = oI p → ∃ Z', Fr r10 Z Z' ∧ Z'.1 10 11 0 0 = oI (rn 97 122 t L p) ∧ Z'.1 10 10 0 0 = Z.1 10 10 0 0 ∧ ∀ kk, fX10_next_L83 kk fuel Z = kk Z' := by
  intro d
  induction d with
  | zero =>
    intro fuel p Z hd hp hf hR h3
    obtain ⟨f, rfl⟩ : ∃ f, fuel = f + 1 := ⟨fuel - 1, by omega⟩
    refine ⟨Z, Fr.refl _, by rw [rn_n (by omega)]; exact h3, rfl, fun kk => ?_⟩
    rw [fX10_next_L83, h3, see hT hR hp, bd_eq, kL_97, kL_122, inZ2 hT (by omega), bd_eq, if_neg (c := p < L ∧ (97 ≤ t p ∧ t p ≤ 122)) (by omega), if_pos nul_eq]
  | succ d ih =>
    intro fuel p Z hd hp hf hR h3
    obtain ⟨f, rfl⟩ : ∃ f, fuel = f + 1 := ⟨fuel - 1, by omega⟩
    have hpL : p < L := by omega
    by_cases q : 97 ≤ t p ∧ t p ≤ 122
    · obtain ⟨Z', u1, u2, u3, u4⟩ := ih f (p + 1) (wI Z 10 11 0 0 (oI (p + 1 : Nat))) (by omega) (by omega) (by omega) ⟨by rw [wI_1, if_neg (by omega)]; exact hR.1, fun k hk => by rw [wI_1, if_neg (by omega)]; exact hR.2 k hk⟩ (by rw [wI_1, if_pos ⟨rfl, rfl, rfl, rfl⟩])
      refine ⟨Z', Fr.trans ((Fr.refl _).wI rfl) u1, by rw [rn_e ⟨hpL, q⟩]; exact u2, by rw [u3, wI_1, if_neg (by omega)], fun kk => ?_⟩
      rw [fX10_next_L83, h3, see hT hR hp, bd_eq, kL_97, kL_122, inZ2 hT (by omega), bd_eq, if_pos (c := p < L ∧ (97 ≤ t p ∧ t p ≤ 122)) ⟨hpL, q⟩, if_neg one_ne, kI_1, oI_add, nat1, ltb_eq]
      exact u4 kk
    · refine ⟨Z, Fr.refl _, by rw [rn_n (fun h => q h.2)]; exact h3, rfl, fun kk => ?_⟩
      rw [fX10_next_L83, h3, see hT hR hp, bd_eq, kL_97, kL_122, inZ2 hT (by omega), bd_eq, if_neg (c := p < L ∧ (97 ≤ t p ∧ t p ≤ 122)) (fun h => q h.2), if_pos nul_eq]
