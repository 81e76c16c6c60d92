/-! Parts settled, member by member. -/
def stS (b : Bool) (s : sS) (i : Nat) (c : Int) : sS := if sB s i 3 = 1 then (if b = true then crS s i c else loS s i c) else inS s (if b = true then c else -c)
def stR (b : Bool) (p : Nat → Int) : Nat → sS → sS
  | 0, s => s
  | k + 1, s => stS b (stR b p k s) k (p k)
def same (s' s : sS) : Prop := sG s' = sG s ∧ sH s' = sH s ∧ sRt s' = sRt s ∧ sB s' = sB s ∧ sD s' = sD s ∧ sE s' = sE s ∧ sC s' = sC s
theorem same.refl (s : sS) : same s s := ⟨rfl, rfl, rfl, rfl, rfl, rfl, rfl⟩
theorem same.trans {a b c : sS} (h : same a b) (g : same b c) : same a c := ⟨h.1.trans g.1, h.2.1.trans g.2.1, h.2.2.1.trans g.2.2.1, h.2.2.2.1.trans g.2.2.2.1, h.2.2.2.2.1.trans g.2.2.2.2.1, h.2.2.2.2.2.1.trans g.2.2.2.2.2.1, h.2.2.2.2.2.2.trans g.2.2.2.2.2.2⟩
theorem same.w1 {s' s : sS} {N : Nat} (h : same s' s) (w : W1 s N) : W1 s' N := by
  simp only [W1] at w ⊢; rw [h.1]; exact w
theorem same.w2 {s' s : sS} (h : same s' s) (w : W2 s) : W2 s' := by
  simp only [W2] at w ⊢; rw [h.1, h.2.1, h.2.2.1]; exact w
theorem same.w3 {s' s : sS} {N : Nat} (h : same s' s) (w : W3 s N) : W3 s' N := by
  simp only [W3] at w ⊢; rw [h.1, h.2.2.2.1]; exact w
theorem same.w4 {s' s : sS} {N : Nat} (h : same s' s) (w : W4 s N) : W4 s' N := by
  simp only [W4] at w ⊢; rw [h.2.2.2.1]; exact w
theorem same.w5 {s' s : sS} {N : Nat} (h : same s' s) (w : W5 s N) : W5 s' N := by
  simp only [W5] at w ⊢; rw [h.1, h.2.2.2.2.1]; exact w
theorem same.w6 {s' s : sS} (h : same s' s) (w : W6 s) : W6 s' := by
  simp only [W6] at w ⊢; rw [h.1, h.2.2.2.2.2.1, h.2.2.2.2.2.2]; exact w
theorem same_pot {s' s : sS} (h : same s' s) : pot s' = pot s := by
  funext c
  simp only [pot]; rw [h.1, h.2.2.1, h.2.2.2.2.2.1, h.2.2.2.2.2.2]
theorem stS_same (b : Bool) (s : sS) (i : Nat) (c : Int) : same (stS b s i c) s := by
  rw [stS]
  split
  · split
    · exact same.refl s
    · exact same.refl s
  · exact same.refl s
theorem stR_same (b : Bool) (p : Nat → Int) : ∀ (k : Nat) (s : sS), same (stR b p k s) s
  | 0, s => same.refl s
  | k + 1, s => (stS_same b _ k (p k)).trans (stR_same b p k s)
theorem stS_o (b : Bool) (s : sS) {i j : Nat} (c : Int) (h : ¬ j = i) : (∀ w, sA (stS b s i c) j w = sA s j w) ∧ ∀ m, sT (stS b s i c) j m = sT s j m := by
  rw [stS]
  split
  · split
    · exact ⟨fun w => up2_n _ _ (fun q => h q.1), fun m => up2_n _ _ (fun q => h q.1)⟩
    · exact ⟨fun w => up2_n _ _ (fun q => h q.1), fun m => by show tk s i true c 60 j m = _; rw [tk, if_neg (fun q => h q.1)]⟩
  · exact ⟨fun w => rfl, fun m => rfl⟩
theorem stR_hi (b : Bool) (p : Nat → Int) : ∀ (k : Nat) (s : sS) (j : Nat), k ≤ j → (∀ w, sA (stR b p k s) j w = sA s j w) ∧ ∀ m, sT (stR b p k s) j m = sT s j m
  | 0, s, j, _ => ⟨fun _ => rfl, fun _ => rfl⟩
  | k + 1, s, j, h => by
    have h1 := stR_hi b p k s j (by omega)
    have h2 := stS_o b (stR b p k s) (i := k) (j := j) (p k) (by omega)
    exact ⟨fun w => (h2.1 w).trans (h1.1 w), fun m => (h2.2 m).trans (h1.2 m)⟩
section
variable {A Z : sM} {s : sS} {N n : Nat} {p : Nat → Int}
theorem inA {v : Int} (hS : SR A 0 s N) : SR (wL A 0 6 0 0 (oL (sF s 0 + v))) 0 (inS s v) N := hS.wF0 (z0 := 0) rfl
theorem inZ {v : Int} (hZ : ZR (zA Z) (zB Z) s) : ZR (zA (wL Z 30 0 0 0 (oL (sF s 0 + v)))) (zB (wL Z 30 0 0 0 (oL (sF s 0 + v)))) (inS s v) := hZ.wF (k0 := 0) (by omega)
theorem cpA_L {m : Nat} (hN : N ≤ 16) (h3 : W3 s N) (hm : sG s 5 = m) (hm2 : m < 60) (hp : ∀ j, j < N → 0 ≤ p j ∧ p j < 4611686018427387904) (hA : ∀ j, j < N → 0 ≤ sA s j 0 ∧ sA s j 0 < 4611686018427387904) :
    ∀ (fuel k : Nat) (A : sM), k ≤ N → N - k < fuel → SR A 0 (stR true p k s) N → (∀ j, j < N → A.2 17 0 0 j = oL (p j)) → ∃ A', Fr m26 A A' ∧ SR A' 0 (stR true p N s) N ∧ fX0_creditParts_L15 0 (fun A => some A) fuel (oI k) A = some A' := by
  intro fuel
  induction fuel with
  | zero => intro k A _ h; omega
  | succ fuel ih =>
    intro k A hk hfu hS h17
    have hsm := stR_same true p k s
    by_cases e : k = N
    · rw [e] at hS
      refine ⟨A, Fr.refl _, hS, ?_⟩
      rw [fX0_creditParts_L15, hS.cnt, if_pos (by simp (disch := omega) only [oI_lt, oI_le, oI_eq, oL_lt, oL_le, oL_eq, oI_L, oI_clamp, oI_inb, oL_nz]; omega)]
    · have hk2 : k < N := by omega
      have hb : sB (stR true p k s) k 3 = sB s k 3 := by rw [hsm.2.2.2.1]
      have hmk : sG (stR true p k s) 5 = m := by rw [hsm.1]; exact hm
      have hhi := stR_hi true p k s k (Nat.le_refl _)
      by_cases q : sB s k 3 = 1
      · obtain ⟨A1, a1, a2, a3⟩ := crA (c := p k) hS hN hk2 hmk hm2 (hp k hk2) (by rw [hhi.1 0]; exact hA k hk2)
        have a4 : SR A1 0 (stR true p (k + 1) s) N := by
          rw [stR, stS, if_pos (hb.trans q), if_pos rfl]; exact a2
        obtain ⟨A', u1, u2, u3⟩ := ih (k + 1) A1 (by omega) (by omega) a4 (fun j hj => by rw [a1.l rfl]; exact h17 j hj)
        refine ⟨A', Fr.trans a1 u1, u2, ?_⟩
        rw [fX0_creditParts_L15, hS.cnt, if_neg (by simp (disch := omega) only [oI_lt, oI_le, oI_eq, oL_lt, oL_le, oL_eq, oI_L, oI_clamp, oI_inb, oL_nz]; omega), inbA (by omega) (by omega), gd_true, clpA (by omega), actA hS (hsm.w3 h3) hk2, bd_eq, ltb_eq, if_pos (hb.trans q), if_neg one_ne, gd_true, inbA (by omega) (by omega), gd_true, h17 k hk2, hS.mon, hmk, a3, bd_eq]
        dsimp only
        rw [ltb_eq, kI_1, oI_add, nat1]
        exact u3
      · have a4 : SR (wL A 0 6 0 0 (oL (sF (stR true p k s) 0 + p k))) 0 (stR true p (k + 1) s) N := by
          rw [stR, stS, if_neg (fun e => q (hb.symm.trans e)), if_pos rfl]; exact inA hS
        obtain ⟨A', u1, u2, u3⟩ := ih (k + 1) _ (by omega) (by omega) a4 (fun j hj => by rw [wL_2, if_neg (by omega)]; exact h17 j hj)
        refine ⟨A', Fr.trans ((Fr.refl _).wL rfl) u1, u2, ?_⟩
        rw [fX0_creditParts_L15, hS.cnt, if_neg (by simp (disch := omega) only [oI_lt, oI_le, oI_eq, oL_lt, oL_le, oL_eq, oI_L, oI_clamp, oI_inb, oL_nz]; omega), inbA (by omega) (by omega), gd_true, clpA (by omega), actA hS (hsm.w3 h3) hk2, bd_eq, ltb_eq, if_neg (fun e => q (hb.symm.trans e)), if_pos nul_eq, inbA (by omega) (by omega), gd_true, h17 k hk2, hS.fu, oL_add, ltb_eq]
        dsimp only
        rw [ltb_eq, kI_1, oI_add, nat1]
        exact u3
theorem lpA_L (hN : N ≤ 16) (h3 : W3 s N) (hp : ∀ j, j < N → 0 ≤ p j ∧ p j < 4611686018427387904) (hT : ∀ j, j < N → ∀ m, m < 60 → 0 ≤ sT s j m ∧ sT s j m < 4611686018427387904) :
    ∀ (fuel k : Nat) (A : sM), k ≤ N → N - k < fuel → SR A 0 (stR false p k s) N → (∀ j, j < N → A.2 17 0 0 j = oL (p j)) → ∃ A', Fr m26 A A' ∧ SR A' 0 (stR false p N s) N ∧ fX0_settleTrueUp_L25 0 (fun A => some A) fuel (oI k) A = some A' := by
  intro fuel
  induction fuel with
  | zero => intro k A _ h; omega
  | succ fuel ih =>
    intro k A hk hfu hS h17
    have hsm := stR_same false p k s
    by_cases e : k = N
    · rw [e] at hS
      refine ⟨A, Fr.refl _, hS, ?_⟩
      rw [fX0_settleTrueUp_L25, hS.cnt, if_pos (by simp (disch := omega) only [oI_lt, oI_le, oI_eq, oL_lt, oL_le, oL_eq, oI_L, oI_clamp, oI_inb, oL_nz]; omega)]
    · have hk2 : k < N := by omega
      have hb : sB (stR false p k s) k 3 = sB s k 3 := by rw [hsm.2.2.2.1]
      have hhi := stR_hi false p k s k (Nat.le_refl _)
      by_cases q : sB s k 3 = 1
      · obtain ⟨A1, a1, a2, a3⟩ := loA (c := p k) hS hN hk2 ⟨(hp k hk2).1, by have := (hp k hk2).2; omega⟩ (fun m hm => by rw [hhi.2 m]; exact hT k hk2 m hm)
        have a4 : SR A1 0 (stR false p (k + 1) s) N := by
          rw [stR, stS, if_pos (hb.trans q), if_neg (by decide)]; exact a2
        obtain ⟨A', u1, u2, u3⟩ := ih (k + 1) A1 (by omega) (by omega) a4 (fun j hj => by rw [a1.l rfl]; exact h17 j hj)
        refine ⟨A', Fr.trans a1 u1, u2, ?_⟩
        rw [fX0_settleTrueUp_L25, hS.cnt, if_neg (by simp (disch := omega) only [oI_lt, oI_le, oI_eq, oL_lt, oL_le, oL_eq, oI_L, oI_clamp, oI_inb, oL_nz]; omega), inbA (by omega) (by omega), gd_true, clpA (by omega), actA hS (hsm.w3 h3) hk2, bd_eq, ltb_eq, if_pos (hb.trans q), if_neg one_ne, gd_true, inbA (by omega) (by omega), gd_true, h17 k hk2, a3, bd_eq]
        dsimp only
        rw [ltb_eq, kI_1, oI_add, nat1]
        exact u3
      · have a4 : SR (wL A 0 6 0 0 (oL (sF (stR false p k s) 0 - p k))) 0 (stR false p (k + 1) s) N := by
          rw [stR, stS, if_neg (fun e => q (hb.symm.trans e)), if_neg (by decide), Int.sub_eq_add_neg]; exact inA hS
        obtain ⟨A', u1, u2, u3⟩ := ih (k + 1) _ (by omega) (by omega) a4 (fun j hj => by rw [wL_2, if_neg (by omega)]; exact h17 j hj)
        refine ⟨A', Fr.trans ((Fr.refl _).wL rfl) u1, u2, ?_⟩
        rw [fX0_settleTrueUp_L25, hS.cnt, if_neg (by simp (disch := omega) only [oI_lt, oI_le, oI_eq, oL_lt, oL_le, oL_eq, oI_L, oI_clamp, oI_inb, oL_nz]; omega), inbA (by omega) (by omega), gd_true, clpA (by omega), actA hS (hsm.w3 h3) hk2, bd_eq, ltb_eq, if_neg (fun e => q (hb.symm.trans e)), if_pos nul_eq, inbA (by omega) (by omega), gd_true, h17 k hk2, hS.fu, oL_sub, ltb_eq]
        dsimp only
        rw [ltb_eq, kI_1, oI_add, nat1]
        exact u3
end
