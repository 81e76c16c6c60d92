def emR (p c : Nat → Int) : Nat → sS → sS
  | 0, s => s
  | k + 1, s => if sB s k 3 = 1 then emS (emR p c k s) k (c k) else inS (emR p c k s) (p k)
def emQ (c : Nat → Int) : Nat → sS → sS
  | 0, s => s
  | k + 1, s => if sB s k 3 = 1 then emS (emQ c k s) k (c k) else emQ c k s
theorem emS_same (s : sS) (i : Nat) (c : Int) : same (emS s i c) s := same.refl s
theorem inS_same (s : sS) (v : Int) : same (inS s v) s := same.refl s
theorem inS_F (s : sS) (v : Int) : sF (inS s v) 0 = sF s 0 + v := by
  show up1 (sF s) 0 (sF s 0 + v) 0 = _
  exact up1_s _ _ _
theorem inS_in (s : sS) (a b : Int) : inS (inS s a) b = inS s (a + b) := by
  show uF s (up1 (up1 (sF s) 0 (sF s 0 + a)) 0 (up1 (sF s) 0 (sF s 0 + a) 0 + b)) = uF s (up1 (sF s) 0 (sF s 0 + (a + b)))
  rw [up1_u, up1_s, Int.add_assoc]
theorem emS_in (s : sS) (i : Nat) (c v : Int) : emS (inS s v) i c = inS (emS s i c) v := by
  show (sG s, sH s, sRt s, sB s, sD s, sE s, sC s, up1 (up1 (sF s) 0 (sF s 0 + v)) 0 (up1 (sF s) 0 (sF s 0 + v) 0 + eX s i c), emA s i c, emT s i c) = (sG s, sH s, sRt s, sB s, sD s, sE s, sC s, up1 (up1 (sF s) 0 (sF s 0 + eX s i c)) 0 (up1 (sF s) 0 (sF s 0 + eX s i c) 0 + v), emA s i c, emT s i c)
  rw [up1_u, up1_u, up1_s, up1_s, show sF s 0 + v + eX s i c = sF s 0 + eX s i c + v by omega]
theorem emQ_in (c : Nat → Int) (v : Int) : ∀ (k : Nat) (s : sS), emQ c k (inS s v) = inS (emQ c k s) v
  | 0, s => rfl
  | k + 1, s => by
    rw [emQ, emQ, emQ_in c v k s]
    show (if sB s k 3 = 1 then _ else _) = _
    split
    · exact emS_in _ _ _ _
    · rfl
theorem emR_Q (p c : Nat → Int) : ∀ (k : Nat) (s : sS), emR p c k s = inS (emQ c k s) (sumN (fun j => if sB s j 3 = 1 then 0 else p j) k)
  | 0, s => (inS_0 s).symm
  | k + 1, s => by
    rw [emR, emQ, emR_Q p c k s, sumN]
    by_cases q : sB s k 3 = 1
    · rw [if_pos q, if_pos q, if_pos q, emS_in, Int.add_zero]
    · rw [if_neg q, if_neg q, if_neg q, inS_in]
theorem emR_same (p c : Nat → Int) : ∀ (k : Nat) (s : sS), same (emR p c k s) s
  | 0, s => same.refl s
  | k + 1, s => by
    rw [emR]
    split
    · exact (emS_same _ _ _).trans (emR_same p c k s)
    · exact (inS_same _ _).trans (emR_same p c k s)
theorem emQ_same (c : Nat → Int) : ∀ (k : Nat) (s : sS), same (emQ c k s) s
  | 0, s => same.refl s
  | k + 1, s => by
    rw [emQ]
    split
    · exact (emS_same _ _ _).trans (emQ_same c k s)
    · exact emQ_same c k s
theorem emQ_hi (c : Nat → Int) : ∀ (k : Nat) (s : sS) (j : Nat), k ≤ j → (∀ w, sA (emQ c k s) j w = sA s j w) ∧ ∀ m, sT (emQ c k s) j m = sT s j m
  | 0, s, j, _ => ⟨fun _ => rfl, fun _ => rfl⟩
  | k + 1, s, j, h => by
    have h1 := emQ_hi c k s j (by omega)
    rw [emQ]
    split
    · refine ⟨fun w => ?_, fun m => ?_⟩
      · show emA (emQ c k s) k (c k) j w = _
        rw [emA, if_neg (by omega)]; exact h1.1 w
      · show emT (emQ c k s) k (c k) j m = _
        rw [emT, if_neg (by omega)]; exact h1.2 m
    · exact h1
theorem emR_hi (p c : Nat → Int) (k : Nat) (s : sS) (j : Nat) (h : k ≤ j) : (∀ w, sA (emR p c k s) j w = sA s j w) ∧ ∀ m, sT (emR p c k s) j m = sT s j m := by
  rw [emR_Q]; exact emQ_hi c k s j h
/-- what one member needs -/
def emB (s : sS) (N : Nat) (c : Nat → Int) : Prop := ∀ j, j < N → (0 ≤ c j ∧ c j < 1152921504606846976) ∧ (∀ k, k < 60 → 0 ≤ sT s j k ∧ sT s j k < 1152921504606846976) ∧ (0 ≤ sA s j 0 ∧ sA s j 0 < 1152921504606846976 ∧ 0 ≤ sA s j 1 ∧ sA s j 1 < 1152921504606846976)
section
variable {A Z : sM} {s : sS} {N n : Nat} {p c : Nat → Int}
theorem cmA_L {m e : Nat} (hN : N ≤ 16) (h3 : W3 s N) (hm : sG s 5 = m) (hm2 : m < 60) (he : sG s 1 = e) (he2 : e ≤ 24) (hB : emB s N c) :
    ∀ (fuel k : Nat) (A : sM), k ≤ N → N - k < fuel → SR A 0 (emR p c k s) N → (∀ j, j < N → A.2 17 0 0 j = oL (p j)) → (∀ j, j < N → A.2 13 0 0 j = oL (c j)) → ∃ A', Fr m26 A A' ∧ SR A' 0 (emR p c N s) N ∧ ∀ kk, fX0_closeMonth_L15 0 kk fuel (oI k) A = kk A' := by
  intro fuel
  induction fuel with
  | zero => intro k A _ h; omega
  | succ fuel ih =>
    intro k A hk hfu hS h17 h13
    have hsm := emR_same p c k s
    by_cases ek : k = N
    · rw [ek] at hS
      refine ⟨A, Fr.refl _, hS, fun kk => ?_⟩
      rw [fX0_closeMonth_L15, hS.cnt, if_pos (by simp (disch := omega) only [oI_lt, oI_le, oI_eq, oL_lt, oL_le, oL_eq, oI_L, oI_clamp, oI_inb, oL_nz]; omega)]
    · have hk2 : k < N := by omega
      have hb : sB (emR p c k s) k 3 = sB s k 3 := by rw [hsm.2.2.2.1]
      have hmk : sG (emR p c k s) 5 = m := by rw [hsm.1]; exact hm
      have hek : sG (emR p c k s) 1 = e := by rw [hsm.1]; exact he
      have hhi := emR_hi p c k s k (Nat.le_refl _)
      obtain ⟨b1, b2, b3⟩ := hB k hk2
      by_cases q : sB s k 3 = 1
      · obtain ⟨A1, a1, a2, a3⟩ := emA_t (i := k) (c := c k) hS hN hk2 hmk hm2 hek he2 b1 (fun j hj => by rw [hhi.2 j]; exact b2 j hj) (by rw [hhi.1 0, hhi.1 1]; exact b3)
        have a4 : SR (wL A1 0 6 0 0 (oL (sF (emR p c k s) 0 + eX (emR p c k s) k (c k)))) 0 (emR p c (k + 1) s) N := by
          rw [emR, if_pos q]; exact a2
        have f1 : Fr m26 A (wL A1 0 6 0 0 (oL (sF (emR p c k s) 0 + eX (emR p c k s) k (c k)))) := (a1.mono fun c k o hq => by
          simp only [m26, Bool.or_eq_false_iff, Bool.and_eq_false_iff] at hq
          simp only [pS, Bool.and_eq_false_iff]
          rcases hq.1 with h | h
          · exact Or.inl (by simpa using h)
          · right
            simp at h ⊢
            omega).wL rfl
        obtain ⟨A', u1, u2, u3⟩ := ih (k + 1) _ (by omega) (by omega) a4 (fun j hj => by rw [f1.l rfl]; exact h17 j hj) (fun j hj => by rw [f1.l rfl]; exact h13 j hj)
        refine ⟨A', Fr.trans f1 u1, u2, fun kk => ?_⟩
        rw [fX0_closeMonth_L15, hS.cnt, if_neg (by simp (disch := omega) only [oI_lt, oI_le, oI_eq, oL_lt, oL_le, oL_eq, oI_L, oI_clamp, oI_inb, oL_nz]; omega), inbA (by omega) (by omega), gd_true, clpA (by omega), actA hS (hsm.w3 h3) hk2, bd_eq, ltb_eq, if_pos (hb.trans q), if_neg one_ne, gd_true, h13 k hk2, hS.mon, hmk, hS.g (k := 1) (by omega), hek, a3, bd2_eq, hS.fu, oL_add, ltb_eq]
        dsimp only
        rw [ltb_eq, kI_1, oI_add, nat1]
        exact u3 kk
      · have a4 : SR (wL A 0 6 0 0 (oL (sF (emR p c k s) 0 + p k))) 0 (emR p c (k + 1) s) N := by
          rw [emR, if_neg q]; exact inA hS
        obtain ⟨A', u1, u2, u3⟩ := ih (k + 1) _ (by omega) (by omega) a4 (fun j hj => by rw [wL_2, if_neg (by omega)]; exact h17 j hj) (fun j hj => by rw [wL_2, if_neg (by omega)]; exact h13 j hj)
        refine ⟨A', Fr.trans ((Fr.refl _).wL rfl) u1, u2, fun kk => ?_⟩
        rw [fX0_closeMonth_L15, hS.cnt, if_neg (by simp (disch := omega) only [oI_lt, oI_le, oI_eq, oL_lt, oL_le, oL_eq, oI_L, oI_clamp, oI_inb, oL_nz]; omega), inbA (by omega) (by omega), gd_true, clpA (by omega), actA hS (hsm.w3 h3) hk2, bd_eq, ltb_eq, if_neg (fun e => q (hb.symm.trans e)), if_pos nul_eq, inbA (by omega) (by omega), gd_true, h17 k hk2, hS.fu, oL_add, ltb_eq]
        dsimp only
        rw [ltb_eq, kI_1, oI_add, nat1]
        exact u3 kk
def m37 (c _ _ : Nat) : Bool := c == 30 || c == 37
theorem m37_mv {A A' : sM} (h : Fr m37 A A') : Fr mvZ A A' := h.mono fun c k o hq => by
  simp only [m37]
  by_cases e : c = 37
  · subst e; simp [mvZ, wkZ] at hq
  · by_cases e2 : c = 30
    · subst e2; simp [mvZ] at hq
    · simp [e, e2]
theorem rvZ_L (h1 : W1 s N) (h3 : W3 s N) (x1 : Int64) :
    ∀ (fuel k : Nat) (Z : sM), k ≤ N → N - k < fuel → ZR (zA Z) (zB Z) (inS s (sumN (fun j => if sB s j 3 = 1 then 0 else p j) k)) → (∀ j, j < N → Z.2 34 0 0 j = oL (p j)) → (∀ j, j < k → Z.2 37 0 0 j = oL (if sB s j 3 = 1 then p j else 0)) → ∃ Z', Fr m37 Z Z' ∧ ZR (zA Z') (zB Z') (inS s (sumN (fun j => if sB s j 3 = 1 then 0 else p j) N)) ∧ (∀ j, j < N → Z'.2 37 0 0 j = oL (if sB s j 3 = 1 then p j else 0)) ∧ ∀ kk, fX10_endMonth_L91 x1 kk fuel (oI k) Z = kk Z' := by
  obtain ⟨_, _, _, _, _, _, _, g7, hN⟩ := id h1
  intro fuel
  induction fuel with
  | zero => intro k Z _ h; omega
  | succ fuel ih =>
    intro k Z hk hfu hZ h34 h37
    have e7 : Z.1 27 0 0 7 = oI N := (hZ.g (k := 7) (by omega)).trans (congrArg oI g7)
    by_cases ek : k = N
    · rw [ek] at hZ h37
      refine ⟨Z, Fr.refl _, hZ, h37, fun kk => ?_⟩
      rw [fX10_endMonth_L91, tn_7, e7, if_pos (by simp (disch := omega) only [oI_lt, oI_le, oI_eq, oL_lt, oL_le, oL_eq, oI_L, oI_clamp, oI_inb, oL_nz]; omega)]
    · have hk2 : k < N := by omega
      have hZ6 : ∀ v : Int64, ZR (zA (wL Z 37 0 0 k v)) (zB (wL Z 37 0 0 k v)) (inS s (sumN (fun j => if sB s j 3 = 1 then 0 else p j) k)) := fun v => hZ.keep (fun k => rfl) (fun k => by show (wL Z 37 0 0 _ v).2 30 0 0 k = _; rw [wL_2, if_neg (by omega)])
      have e0 : ∀ v : Int64, (wL Z 37 0 0 k v).2 30 0 0 0 = oL (sF s 0 + sumN (fun j => if sB s j 3 = 1 then 0 else p j) k) := fun v => ((hZ6 v).fo (k := 0) (by omega)).trans (congrArg oL (inS_F _ _))
      have hact : ∀ Z' : sM, ZR (zA Z') (zB Z') (inS s (sumN (fun j => if sB s j 3 = 1 then 0 else p j) k)) → fX10_isActive (oI k) Z' = some (oI (if sB s k 3 = 1 then 1 else 0)) := fun Z' h => actZ h h3 hk2 hN
      have hst : inS (inS s (sumN (fun j => if sB s j 3 = 1 then 0 else p j) k)) (if sB s k 3 = 1 then 0 else p k) = inS s (sumN (fun j => if sB s j 3 = 1 then 0 else p j) (k + 1)) := by rw [inS_in, sumN]
      have key : ∀ v : Int64, v = oL (if sB s k 3 = 1 then p k else 0) → ∃ Z', Fr m37 Z Z' ∧ ZR (zA Z') (zB Z') (inS s (sumN (fun j => if sB s j 3 = 1 then 0 else p j) N)) ∧ (∀ j, j < N → Z'.2 37 0 0 j = oL (if sB s j 3 = 1 then p j else 0)) ∧ ∀ kk, fX10_endMonth_L91 x1 kk fuel (oI (k + 1 : Nat)) (wL (wL Z 37 0 0 k v) 30 0 0 0 (oL (sF s 0 + sumN (fun j => if sB s j 3 = 1 then 0 else p j) k + (if sB s k 3 = 1 then 0 else p k)))) = kk Z' := by
        rintro _ rfl
        have h9 := inZ (v := if sB s k 3 = 1 then 0 else p k) (hZ6 (oL (if sB s k 3 = 1 then p k else 0)))
        rw [hst, inS_F] at h9
        obtain ⟨Z', u1, u2, u3, u4⟩ := ih (k + 1) _ (by omega) (by omega) h9 (fun j hj => by rw [wL_2, if_neg (by omega), wL_2, if_neg (by omega)]; exact h34 j hj) (fun j hj => by
          rw [wL_2, if_neg (by omega), wL_2]
          by_cases q : j = k
          · rw [if_pos ⟨rfl, rfl, rfl, q⟩, q]
          · rw [if_neg (by omega)]; exact h37 j (by omega))
        exact ⟨Z', Fr.trans (((Fr.refl _).wL rfl).wL rfl) u1, u2, u3, u4⟩
      by_cases q : sB s k 3 = 1
      · obtain ⟨Z', u1, u2, u3, u4⟩ := key (oL (p k)) (by rw [if_pos q])
        simp only [if_pos q] at u4
        refine ⟨Z', u1, u2, u3, fun kk => ?_⟩
        rw [← u4 kk, fX10_endMonth_L91, tn_7, e7, if_neg (by simp (disch := omega) only [oI_lt, oI_le, oI_eq, oL_lt, oL_le, oL_eq, oI_L, oI_clamp, oI_inb, oL_nz]; omega), hact _ hZ, bd_eq, ltb_eq, if_pos q, if_neg one_ne, inbA (by omega) (by omega), gd_true, clpA (by omega), h34 k hk2]
        dsimp only
        rw [inbA (by omega) (by omega), gd_true, ltb_eq, hact _ (hZ6 _), bd_eq, ltb_eq, if_pos q, if_neg one_ne]
        dsimp only
        rw [tn_0, e0, kL_0, oL_add, ltb_eq, ltb_eq, kI_1, oI_add, nat1]
      · obtain ⟨Z', u1, u2, u3, u4⟩ := key (oL 0) (by rw [if_neg q])
        simp only [if_neg q] at u4
        have e34 : (wL Z 37 0 0 k (oL 0)).2 34 0 0 k = oL (p k) := by rw [wL_2, if_neg (by omega)]; exact h34 k hk2
        refine ⟨Z', u1, u2, u3, fun kk => ?_⟩
        rw [← u4 kk, fX10_endMonth_L91, tn_7, e7, if_neg (by simp (disch := omega) only [oI_lt, oI_le, oI_eq, oL_lt, oL_le, oL_eq, oI_L, oI_clamp, oI_inb, oL_nz]; omega), hact _ hZ, bd_eq, ltb_eq, if_neg q, if_pos nul_eq]
        dsimp only
        rw [inbA (by omega) (by omega), gd_true, clpA (by omega), kL_0, ltb_eq, hact _ (hZ6 _), bd_eq, ltb_eq, if_neg q, if_pos nul_eq, inbA (by omega) (by omega), gd_true, e34]
        dsimp only
        rw [tn_0, e0, oL_add, ltb_eq, ltb_eq, kI_1, oI_add, nat1]
theorem enZ2_L {m e : Nat} (h1 : W1 s N) (h3 : W3 s N) (hm : sG s 5 = m) (hm2 : m < 60) (he : sG s 1 = e) (he2 : e ≤ 24) (hB : emB s N c) (x1 : Int64) :
    ∀ (fuel k : Nat) (Z : sM), k ≤ N → N - k < fuel → ZR (zA Z) (zB Z) (emQ c k s) → (∀ j, j < N → Z.2 37 0 0 j = oL (c j)) → ∃ Z', Fr m30 Z Z' ∧ ZR (zA Z') (zB Z') (emQ c N s) ∧ ∀ kk, fX10_endMonth_L165 x1 kk fuel (oI k) Z = kk Z' := by
  obtain ⟨_, _, _, _, _, _, _, g7, hN⟩ := id h1
  intro fuel
  induction fuel with
  | zero => intro k Z _ h; omega
  | succ fuel ih =>
    intro k Z hk hfu hZ h37
    have hsm := emQ_same c k s
    have e7 : Z.1 27 0 0 7 = oI N := (hZ.g (k := 7) (by omega)).trans (by rw [hsm.1, g7])
    by_cases ek : k = N
    · rw [ek] at hZ
      refine ⟨Z, Fr.refl _, hZ, fun kk => ?_⟩
      rw [fX10_endMonth_L165, tn_7, e7, if_pos (by simp (disch := omega) only [oI_lt, oI_le, oI_eq, oL_lt, oL_le, oL_eq, oI_L, oI_clamp, oI_inb, oL_nz]; omega)]
    · have hk2 : k < N := by omega
      have hb : sB (emQ c k s) k 3 = sB s k 3 := by rw [hsm.2.2.2.1]
      have hmk : sG (emQ c k s) 5 = m := by rw [hsm.1]; exact hm
      have hek : sG (emQ c k s) 1 = e := by rw [hsm.1]; exact he
      have hhi := emQ_hi c k s k (Nat.le_refl _)
      obtain ⟨b1, b2, b3⟩ := hB k hk2
      by_cases q : sB s k 3 = 1
      · obtain ⟨Z1, a1, a2, a3⟩ := emZ (i := k) (c := c k) hZ (by omega) hmk hm2 hek he2 b1 (fun j hj => by rw [hhi.2 j]; exact b2 j hj) (by rw [hhi.1 0, hhi.1 1]; exact b3) (h37 k hk2)
        have a4 : ZR (zA Z1) (zB Z1) (emQ c (k + 1) s) := by
          rw [emQ, if_pos q]; exact a2
        obtain ⟨Z', u1, u2, u3⟩ := ih (k + 1) Z1 (by omega) (by omega) a4 (fun j hj => by rw [a1.l rfl]; exact h37 j hj)
        refine ⟨Z', Fr.trans a1 u1, u2, fun kk => ?_⟩
        rw [fX10_endMonth_L165, tn_7, e7, if_neg (by simp (disch := omega) only [oI_lt, oI_le, oI_eq, oL_lt, oL_le, oL_eq, oI_L, oI_clamp, oI_inb, oL_nz]; omega), actZ hZ (hsm.w3 h3) hk2 hN, bd_eq, ltb_eq, if_pos (hb.trans q), if_neg one_ne, a3, bd_eq]
        dsimp only
        rw [ltb_eq, kI_1, oI_add, nat1]
        exact u3 kk
      · have a4 : ZR (zA Z) (zB Z) (emQ c (k + 1) s) := by
          rw [emQ, if_neg q]; exact hZ
        obtain ⟨Z', u1, u2, u3⟩ := ih (k + 1) Z (by omega) (by omega) a4 h37
        refine ⟨Z', u1, u2, fun kk => ?_⟩
        rw [fX10_endMonth_L165, tn_7, e7, if_neg (by simp (disch := omega) only [oI_lt, oI_le, oI_eq, oL_lt, oL_le, oL_eq, oI_L, oI_clamp, oI_inb, oL_nz]; omega), actZ hZ (hsm.w3 h3) hk2 hN, bd_eq, ltb_eq, if_neg (fun e => q (hb.symm.trans e)), if_pos nul_eq]
        dsimp only
        rw [ltb_eq, kI_1, oI_add, nat1]
        exact u3 kk
end
