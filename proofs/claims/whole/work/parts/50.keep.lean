/-! Keeping states: copies of books. -/
def pBk (b : Nat) (c _ o : Nat) : Bool := ((c == 0 || c == 4 || c == 18 || c == 19 || c == 22 || c == 23) && o == b) || ((c == 8 || c == 24 || c == 25 || c == 26) && (decide (16 * b ≤ o) && decide (o < 16 * b + 16)))
theorem pBk_0 (b k : Nat) : pBk b 0 k b = true := by simp [pBk]
theorem pBk_4 (b k : Nat) : pBk b 4 k b = true := by simp [pBk]
theorem pBk_18 (b k : Nat) : pBk b 18 k b = true := by simp [pBk]
theorem pBk_19 (b k : Nat) : pBk b 19 k b = true := by simp [pBk]
theorem pBk_22 (b k : Nat) : pBk b 22 k b = true := by simp [pBk]
theorem pBk_23 (b k : Nat) : pBk b 23 k b = true := by simp [pBk]
theorem pBk_8 {b i : Nat} (k : Nat) (hi : i < 16) : pBk b 8 k (16 * b + i) = true := by simp [pBk]; omega
theorem pC_pBk {b i : Nat} (hi : i < 16) {A A' : sM} (h : Fr (pC (16 * b + i)) A A') : Fr (pBk b) A A' := h.mono fun c k o hq => by
  by_cases e : o = 16 * b + i
  · subst e
    by_cases e2 : c = 8 ∨ c = 24 ∨ c = 25 ∨ c = 26
    · rcases e2 with rfl | rfl | rfl | rfl <;> simp [pBk] at hq <;> omega
    · simp [pC]; omega
  · simp [pC, e]
theorem pBk_no {b b' : Nat} (hb : ¬ b' = b) : (∀ c k, c = 0 ∨ c = 4 ∨ c = 18 ∨ c = 19 ∨ c = 22 ∨ c = 23 → pBk b c k b' = false) ∧ (∀ c k i, c = 8 ∨ c = 24 ∨ c = 25 ∨ c = 26 → i < 16 → pBk b c k (16 * b' + i) = false) := by
  refine ⟨fun c k hc => ?_, fun c k i hc hi => ?_⟩
  · rcases hc with rfl | rfl | rfl | rfl | rfl | rfl <;> simp [pBk, hb]
  · rcases hc with rfl | rfl | rfl | rfl <;> simp [pBk] <;> omega
section
variable {A Z : sM} {s : sS} {N n : Nat}
theorem cpB_L {o o1 : Nat} (ho : ¬ o1 = o) {A0 : sM} (hN : N ≤ 16) (h3 : A0.1 0 3 o 0 = oI N) : ∀ (fuel i : Nat) (A : sM), i ≤ N → N - i < fuel → Fr (pBk o) A0 A → (∀ c k, c = 0 ∨ c = 4 ∨ c = 18 ∨ c = 19 ∨ c = 22 ∨ c = 23 → ∀ j, A.1 c k o j = A0.1 c k o j ∧ A.2 c k o j = A0.2 c k o j) →
    (∀ i', i' < i → (∀ k, k < 7 → A.1 8 k (16 * o + i') 0 = A0.1 8 k (16 * o1 + i') 0) ∧ (∀ j, j < 60 → A.1 24 0 (16 * o + i') j = A0.1 24 0 (16 * o1 + i') j) ∧ (∀ j, j < 72 → A.2 25 0 (16 * o + i') j = A0.2 25 0 (16 * o1 + i') j) ∧ (∀ w, w < 6 → A.2 26 0 (16 * o + i') w = A0.2 26 0 (16 * o1 + i') w)) →
    ∃ A', Fr (pBk o) A0 A' ∧ (∀ c k, c = 0 ∨ c = 4 ∨ c = 18 ∨ c = 19 ∨ c = 22 ∨ c = 23 → ∀ j, A'.1 c k o j = A0.1 c k o j ∧ A'.2 c k o j = A0.2 c k o j) ∧ (∀ i', i' < N → (∀ k, k < 7 → A'.1 8 k (16 * o + i') 0 = A0.1 8 k (16 * o1 + i') 0) ∧ (∀ j, j < 60 → A'.1 24 0 (16 * o + i') j = A0.1 24 0 (16 * o1 + i') j) ∧ (∀ j, j < 72 → A'.2 25 0 (16 * o + i') j = A0.2 25 0 (16 * o1 + i') j) ∧ (∀ w, w < 6 → A'.2 26 0 (16 * o + i') w = A0.2 26 0 (16 * o1 + i') w)) ∧ fX0_copyFrom_L64 o o1 (fun A => some A) fuel (oI i) A = some A' := by
  intro fuel
  induction fuel with
  | zero => intro i A _ h; omega
  | succ fuel ih =>
    intro i A hi hfu hF hb hm
    have e3 : A.1 0 3 o 0 = oI N := by rw [(hb 0 3 (by omega) 0).1]; exact h3
    by_cases e : i = N
    · refine ⟨A, hF, hb, fun i' hi' => hm i' (by omega), ?_⟩
      rw [fX0_copyFrom_L64, e3, if_pos (by simp (disch := omega) only [oI_lt, oI_le, oI_eq, oL_lt, oL_le, oL_eq, oI_L, oI_clamp, oI_inb, oL_nz]; omega)]
    · obtain ⟨A1, q1, q2, q3, q4, q5, q6⟩ := cpS (A := A) (o := 16 * o + i) (o1 := 16 * o1 + i) (by omega)
      have hno := pBk_no ho
      have hsrc : ∀ c k j, c = 8 ∨ c = 24 ∨ c = 25 ∨ c = 26 → A.1 c k (16 * o1 + i) j = A0.1 c k (16 * o1 + i) j ∧ A.2 c k (16 * o1 + i) j = A0.2 c k (16 * o1 + i) j := fun c k j hc => ⟨hF.i (hno.2 c k i hc (by omega)), hF.l (hno.2 c k i hc (by omega))⟩
      have hne : ∀ i', i' < i → ∀ c k, pC (16 * o + i) c k (16 * o + i') = false := fun i' hi' c k => by
        have e9 : ¬ 16 * o + i' = 16 * o + i := by omega
        simp only [pC, Bool.and_eq_false_iff]
        right
        simpa using e9
      have hne2 : ∀ c k, c = 0 ∨ c = 4 ∨ c = 18 ∨ c = 19 ∨ c = 22 ∨ c = 23 → pC (16 * o + i) c k o = false := fun c k hc => by
        rcases hc with rfl | rfl | rfl | rfl | rfl | rfl <;> rfl
      obtain ⟨A', u1, u2, u3, u4⟩ := ih (i + 1) A1 (by omega) (by omega) (hF.trans (pC_pBk (by omega) q1)) (fun c k hc j => ⟨by rw [q1.i (hne2 c k hc)]; exact (hb c k hc j).1, by rw [q1.l (hne2 c k hc)]; exact (hb c k hc j).2⟩) (fun i' hi' => by
        by_cases ei : i' = i
        · subst ei
          exact ⟨fun k hk => by rw [q2 k hk]; exact (hsrc 8 k 0 (by omega)).1, fun j hj => by rw [q3 j hj]; exact (hsrc 24 0 j (by omega)).1, fun j hj => by rw [q4 j hj]; exact (hsrc 25 0 j (by omega)).2, fun j hj => by rw [q5 j hj]; exact (hsrc 26 0 j (by omega)).2⟩
        · obtain ⟨a, b, c, d⟩ := hm i' (by omega)
          exact ⟨fun k hk => by rw [q1.i (hne i' (by omega) 8 k)]; exact a k hk, fun j hj => by rw [q1.i (hne i' (by omega) 24 0)]; exact b j hj, fun j hj => by rw [q1.l (hne i' (by omega) 25 0)]; exact c j hj, fun j hj => by rw [q1.l (hne i' (by omega) 26 0)]; exact d j hj⟩)
      refine ⟨A', u1, u2, u3, ?_⟩
      rw [fX0_copyFrom_L64, e3, if_neg (by simp (disch := omega) only [oI_lt, oI_le, oI_eq, oL_lt, oL_le, oL_eq, oI_L, oI_clamp, oI_inb, oL_nz]; omega)]
      simp (disch := omega) only [kI_0, kI_1, kI_2, kI_3, kI_4, kI_5, kI_6, kI_7, kI_8, kI_9, kI_10, kI_12, kI_16, kI_17, kI_19, kI_20, kI_23, kI_24, kI_30, kI_32, kI_36, kI_48, kI_57, kI_59, kI_60, kI_72, kI_80, kI_84, kI_97, kI_98, kI_100, kI_122, kI_148, kI_200, kI_300, kI_1058, kI_1108, kI_1348, kI_1588, kI_5290, kI_7940, kI_100000, kI_e7, kI_e9, kL_0, kL_1, kL_5, kL_9, kL_10, kL_12, kL_23, kL_30, kL_48, kL_57, kL_59, kL_97, kL_100, kL_122, kL_1000, kL_e7, kL_e9, kL_e10, oI_lt, oI_le, oI_eq, oL_lt, oL_le, oL_eq, oI_L, oI_clamp, oI_inb, oL_nz, gd_true, ltb_eq, bd_eq, bd2_eq, rq_none, rq_thr, xc_val, xc_thr, cl_nat, q6, oI_add, oI_sub, oI_mul, oI_neg, oL_add, oL_sub, oL_mul, oL_neg, oL_I, nat1]
      exact u4
/-- books o become a copy of books o1 -/
theorem cpB {o o1 : Nat} (ho : ¬ o1 = o) (hS : SR A o1 s N) (hN : N ≤ 16) (h4 : sG s 4 ≤ 4) : ∃ A', Fr (pBk o) A A' ∧ SR A' o s N ∧ fX0_copyFrom o o1 A = some A' := by
  have hq : nq o1 o = true := by simp [nq, ho]
  -- the garden, the meter and the scalars
  obtain ⟨B, hB⟩ : ∃ B, B = wL (wL (wI (wI (wI (cI (cI (cI (cI (wI (wI (wI (wI (wI A 4 0 o 0 (A.1 4 0 o1 0)) 4 1 o 0 (A.1 4 1 o1 0)) 4 2 o 0 (A.1 4 2 o1 0)) 4 3 o 0 (A.1 4 3 o1 0)) 4 4 o 0 (A.1 4 4 o1 0)) 18 o1 o 4) 19 o1 o 24) 22 o1 o 240) 23 o1 o 240) 0 3 o 0 (A.1 0 3 o1 0)) 0 4 o 0 (A.1 0 4 o1 0)) 0 5 o 0 (A.1 0 5 o1 0)) 0 6 o 0 (A.2 0 6 o1 0)) 0 7 o 0 (A.2 0 7 o1 0) := ⟨_, rfl⟩
  have e0 : fX0_copyFrom o o1 A = fX0_copyFrom_L64 o o1 (fun A => some A) 10000 (oI (0 : Nat)) B := by
    rw [fX0_copyFrom, fX4_copyFrom]
    simp only [ltb_eq, hq, gd_true, bd_eq, fX7_copyFrom]
    rw [hB]
    simp [wI_1, wI_2, wL_1, wL_2, cI_1, cI_2, ho]
    rfl
  have hF : Fr (pBk o) A B := by
    rw [hB]
    exact ((((((((((((((Fr.refl _).wI (pBk_4 o _)).wI (pBk_4 o _)).wI (pBk_4 o _)).wI (pBk_4 o _)).wI (pBk_4 o _)).cI (pBk_18 o _)).cI (pBk_19 o _)).cI (pBk_22 o _)).cI (pBk_23 o _)).wI (pBk_0 o _)).wI (pBk_0 o _)).wI (pBk_0 o _)).wL (pBk_0 o _)).wL (pBk_0 o _)
  have g4 : ∀ k, k < 5 → B.1 4 k o 0 = oI (sG s k) := fun k hk => by
    rw [hB, ← hS.g hk]
    rcases (by omega : k = 0 ∨ k = 1 ∨ k = 2 ∨ k = 3 ∨ k = 4) with rfl | rfl | rfl | rfl | rfl <;> simp [wI_1, wI_2, wL_1, wL_2, cI_1, cI_2]
  have g5 : B.1 0 4 o 0 = oI (sG s 5) := by rw [hB, ← hS.mon]; simp [wI_1, wI_2, wL_1, wL_2, cI_1, cI_2]
  have g6 : B.1 0 5 o 0 = oI (sG s 6) := by rw [hB, ← hS.day]; simp [wI_1, wI_2, wL_1, wL_2, cI_1, cI_2]
  have g7 : B.1 0 3 o 0 = oI N := by rw [hB, ← hS.cnt]; simp [wI_1, wI_2, wL_1, wL_2, cI_1, cI_2]
  have gh : ∀ h, h < 24 → B.1 19 0 o h = oI (sH s h) := fun h hh => by rw [hB, ← hS.hr hh]; simp [wI_1, wI_2, wL_1, wL_2, cI_1, cI_2, hh]
  have gr : ∀ p : Nat, (p : Int) < sG s 4 → B.1 18 0 o p = oI (sRt s p) := fun p hp => by
    have : p < 4 := by omega
    rw [hB, ← hS.rt hp]; simp [wI_1, wI_2, wL_1, wL_2, cI_1, cI_2, this]
  have ge : ∀ c, c < 240 → B.1 22 0 o c = oI (sE s c) ∧ B.1 23 0 o c = oI (if sC s c = -1 then 0 else sC s c - sE s c) := fun c hc => by
    rw [hB, ← hS.gn hc, ← hS.cr hc]; simp [wI_1, wI_2, wL_1, wL_2, cI_1, cI_2, hc]
  have gf : B.2 0 6 o 0 = oL (sF s 0) ∧ B.2 0 7 o 0 = oL (sF s 1) := by
    rw [hB, ← hS.fu, ← hS.op]; simp [wI_1, wI_2, wL_1, wL_2, cI_1, cI_2]
  clear hB
  obtain ⟨A', u1, u2, u3, u4⟩ := cpB_L ho (A0 := B) hN g7 10000 0 B (by omega) (by omega) (Fr.refl _) (fun _ _ _ _ => ⟨rfl, rfl⟩) (fun i' hi' => by omega)
  have hno := pBk_no ho
  have hSB : SR B o1 s N := hS.keep hF hN (fun c k hc => hno.1 c k hc) (fun c k i hc hi => hno.2 c k i hc hi)
  refine ⟨A', hF.trans u1, ?_, by rw [e0]; exact u4⟩
  refine ⟨fun k hk => ?_, ⟨?_, ?_, ?_⟩, fun k hk => ?_, fun p hp => ?_, fun i hi => ?_, fun i hi m hm => ?_, fun c hc => ⟨?_, ?_⟩, ⟨?_, ?_⟩, fun i hi w hw => ?_, fun i hi m hm => ?_⟩
  · rw [(u2 4 k (by omega) 0).1]; exact g4 k hk
  · rw [(u2 0 4 (by omega) 0).1]; exact g5
  · rw [(u2 0 5 (by omega) 0).1]; exact g6
  · rw [(u2 0 3 (by omega) 0).1]; exact g7
  · rw [(u2 19 0 (by omega) k).1]; exact gh k hk
  · rw [(u2 18 0 (by omega) p).1]; exact gr p hp
  · have h9 := (u3 i hi).1
    exact ⟨by rw [h9 0 (by omega)]; exact hSB.st hi, by rw [h9 1 (by omega)]; exact hSB.wa hi, by rw [h9 2 (by omega)]; exact hSB.mi hi, by rw [h9 3 (by omega)]; exact hSB.pr hi, by rw [h9 4 (by omega)]; exact hSB.sh hi, by rw [h9 5 (by omega)]; exact hSB.to hi, fun ht => by rw [h9 6 (by omega)]; exact hSB.pc hi ht⟩
  · rw [(u3 i hi).2.1 m hm]; exact hSB.dy hi hm
  · rw [(u2 22 0 (by omega) c).1]; exact (ge c hc).1
  · rw [(u2 23 0 (by omega) c).1]; exact (ge c hc).2
  · rw [(u2 0 6 (by omega) 0).2]; exact gf.1
  · rw [(u2 0 7 (by omega) 0).2]; exact gf.2
  · rw [(u3 i hi).2.2.2 w hw]; exact hSB.ac hi hw
  · rw [(u3 i hi).2.2.1 m hm]; exact hSB.lt hi hm
/-- .. and the ring's own fields -/
def pKp (b : Nat) (c k o : Nat) : Bool := pBk b c k o || c == 6 || c == 21
theorem pBk_pKp {b : Nat} {A A' : sM} (h : Fr (pBk b) A A') : Fr (pKp b) A A' := h.mono fun c k o hq => by
  simp only [pKp, Bool.or_eq_false_iff] at hq; exact hq.1.1
theorem nB_Fr (A : sM) (b : Nat) : Fr (pKp b) A (nB A b) := fun c k o hp j => by
  have h1 : ¬ (c = 0 ∧ o = b) := fun q => by simp [pKp, pBk, q.1, q.2] at hp
  have h2 : ¬ (c = 4 ∧ o = b) := fun q => by simp [pKp, pBk, q.1, q.2] at hp
  have h3 : ¬ (c = 18 ∧ o = b) := fun q => by simp [pKp, pBk, q.1, q.2] at hp
  have h4 : ¬ ((c = 19 ∨ c = 22 ∨ c = 23) ∧ o = b) := fun q => by
    rcases q with ⟨rfl | rfl | rfl, rfl⟩ <;> simp [pKp, pBk] at hp
  have h5 : ¬ (c = 8 ∧ o / 16 = b) := fun q => by
    obtain ⟨rfl, q⟩ := q
    simp [pKp, pBk] at hp
    omega
  have h6 : ¬ (c = 24 ∧ o / 16 = b) := fun q => by
    obtain ⟨rfl, q⟩ := q
    simp [pKp, pBk] at hp
    omega
  have h7 : ¬ ((c = 25 ∨ c = 26) ∧ o / 16 = b) := fun q => by
    obtain ⟨rfl | rfl, q⟩ := q <;> simp [pKp, pBk] at hp <;> omega
  simp only [nB, if_neg h1, if_neg h2, if_neg h3, if_neg h4, if_neg h5, if_neg h6, if_neg h7, and_self]
theorem kepA (hS : SR A 0 s N) (hN : N ≤ 16) (h4 : sG s 4 ≤ 4) {p K : Nat} (hp : p < 6) (hK : K ≤ 6) (e1 : A.1 6 1 0 0 = oI p) (e2 : A.1 6 2 0 0 = oI K) :
    ∃ A', Fr (pKp (p + 1)) A A' ∧ SR A' (p + 1) s N ∧ ¬ A'.1 21 0 0 p = 0 ∧ (∀ j, ¬ j = p → A'.1 21 0 0 j = A.1 21 0 0 j) ∧ A'.1 6 1 0 0 = oI ((p + 1) % 6 : Nat) ∧ A'.1 6 2 0 0 = oI (if K < 6 then K + 1 else 6 : Nat) ∧ fX6_keep A = some A' := by
  obtain ⟨A1, hA1⟩ : ∃ A1, A1 = if A.1 21 0 0 p = 0 then wI (nB A (p + 1)) 21 0 0 p 1 else A := ⟨_, rfl⟩
  have hF1 : Fr (pKp (p + 1)) A A1 := by
    rw [hA1]
    split
    · exact (nB_Fr A (p + 1)).wI (by simp [pKp])
    · exact Fr.refl _
  have h21 : ¬ A1.1 21 0 0 p = 0 ∧ (∀ j, ¬ j = p → A1.1 21 0 0 j = A.1 21 0 0 j) ∧ A1.1 6 1 0 0 = oI p ∧ A1.1 6 2 0 0 = oI K := by
    rw [hA1]
    split
    · refine ⟨by rw [wI_1, if_pos ⟨rfl, rfl, rfl, rfl⟩]; decide, fun j hj => ?_, ?_, ?_⟩
      · rw [wI_1, if_neg (by omega)]
        simp [nB]
      · rw [wI_1, if_neg (by omega)]
        simp [nB]; exact e1
      · rw [wI_1, if_neg (by omega)]
        simp [nB]; exact e2
    · exact ⟨by assumption, fun _ _ => rfl, e1, e2⟩
  have hno := pBk_no (b := p + 1) (b' := 0) (by omega)
  have hS1 : SR A1 0 s N := hS.keep hF1 hN (fun c k hc => by
    have := hno.1 c k hc
    simp only [pKp, this, Bool.false_or]
    rcases hc with rfl | rfl | rfl | rfl | rfl | rfl <;> rfl) (fun c k i hc hi => by
    have := hno.2 c k i hc hi
    simp only [pKp, this, Bool.false_or]
    rcases hc with rfl | rfl | rfl | rfl <;> rfl)
  obtain ⟨A2, q1, q2, q3⟩ := cpB (o := p + 1) (o1 := 0) (by omega) hS1 hN h4
  have c21 : ∀ c k j, (c = 6 ∨ c = 21) → A2.1 c k 0 j = A1.1 c k 0 j := fun c k j hc => q1.i (by rcases hc with rfl | rfl <;> rfl)
  obtain ⟨A3, hA3⟩ : ∃ A3, A3 = wI (wI A2 6 1 0 0 (oI ((p + 1) % 6 : Nat))) 6 2 0 0 (oI (if K < 6 then K + 1 else 6 : Nat)) := ⟨_, rfl⟩
  have hF3 : Fr (pKp (p + 1)) A2 A3 := by rw [hA3]; exact ((Fr.refl _).wI (by simp [pKp])).wI (by simp [pKp])
  refine ⟨A3, hF1.trans ((pBk_pKp q1).trans hF3), ?_, ?_, fun j hj => ?_, ?_, ?_, ?_⟩
  · have hF4 : Fr (fun c _ _ => c == 6) A2 A3 := by rw [hA3]; exact ((Fr.refl _).wI rfl).wI rfl
    refine q2.keep hF4 hN (fun c k hc => ?_) (fun c k i hc hi => ?_)
    · rcases hc with rfl | rfl | rfl | rfl | rfl | rfl <;> rfl
    · rcases hc with rfl | rfl | rfl | rfl <;> rfl
  · rw [hA3, wI_1, if_neg (by omega), wI_1, if_neg (by omega), c21 21 0 p (by omega)]; exact h21.1
  · rw [hA3, wI_1, if_neg (by omega), wI_1, if_neg (by omega), c21 21 0 j (by omega)]; exact h21.2.1 j hj
  · rw [hA3, wI_1, if_neg (by omega), wI_1, if_pos ⟨rfl, rfl, rfl, rfl⟩]
  · rw [hA3, wI_1, if_pos ⟨rfl, rfl, rfl, rfl⟩]
  · have c1 : A2.1 6 1 0 0 = oI p := (c21 6 1 0 (by omega)).trans h21.2.2.1
    have c2 : A2.1 6 2 0 0 = oI K := (c21 6 2 0 (by omega)).trans h21.2.2.2
    have r1 : oI p + 1 - (oI p + 1) / 6 * 6 = oI ((p + 1) % 6 : Nat) := by
      simp (disch := omega) only [kI_0, kI_1, kI_2, kI_3, kI_4, kI_5, kI_6, kI_7, kI_8, kI_9, kI_10, kI_12, kI_16, kI_17, kI_19, kI_20, kI_23, kI_24, kI_30, kI_32, kI_36, kI_48, kI_57, kI_59, kI_60, kI_72, kI_80, kI_84, kI_97, kI_98, kI_100, kI_122, kI_148, kI_200, kI_300, kI_1058, kI_1108, kI_1348, kI_1588, kI_5290, kI_7940, kI_100000, kI_e7, kI_e9, kL_0, kL_1, kL_5, kL_9, kL_10, kL_12, kL_23, kL_30, kL_48, kL_57, kL_59, kL_97, kL_100, kL_122, kL_1000, kL_e7, kL_e9, kL_e10, oI_add, oI_sub, oI_mul, oI_neg, oL_add, oL_sub, oL_mul, oL_neg, oL_I, oI_div]
      rw [rem_eq]; rfl
    have r2 : (if (6 : Int32) < oI K + 1 then (6 : Int32) else oI K + 1) = oI (if K < 6 then K + 1 else 6 : Nat) := by
      simp (disch := omega) only [kI_0, kI_1, kI_2, kI_3, kI_4, kI_5, kI_6, kI_7, kI_8, kI_9, kI_10, kI_12, kI_16, kI_17, kI_19, kI_20, kI_23, kI_24, kI_30, kI_32, kI_36, kI_48, kI_57, kI_59, kI_60, kI_72, kI_80, kI_84, kI_97, kI_98, kI_100, kI_122, kI_148, kI_200, kI_300, kI_1058, kI_1108, kI_1348, kI_1588, kI_5290, kI_7940, kI_100000, kI_e7, kI_e9, kL_0, kL_1, kL_5, kL_9, kL_10, kL_12, kL_23, kL_30, kL_48, kL_57, kL_59, kL_97, kL_100, kL_122, kL_1000, kL_e7, kL_e9, kL_e10, oI_add, oI_sub, oI_mul, oI_neg, oL_add, oL_sub, oL_mul, oL_neg, oL_I, oI_lt, oI_le, oI_eq, oL_lt, oL_le, oL_eq, oI_L, oI_clamp, oI_inb, oL_nz]
      by_cases e : K < 6
      · rw [if_neg (by omega), if_pos e]; rfl
      · rw [if_pos (by omega), if_neg e]; rfl
    have c3 : (wI A2 6 1 0 0 (oI ((p + 1) % 6 : Nat))).1 6 2 0 0 = oI K := by rw [wI_1, if_neg (by omega)]; exact c2
    rw [fX6_keep, e1, oI_inb (by omega) (by omega) (by omega), gd_true, oI_clamp (by omega) (by omega), cl_nat, ltb_eq, ← hA1, q3, bd_eq, ltb_eq, ltb_eq, c1, r1, c3, r2, hA3]
/-! The reference keeps. -/
def p29 (c k _ : Nat) : Bool := c == 29 || c == 31 || (c == 10 && k == 5)
theorem kz1_L {Z0 : sM} (kk : sM → Option sM) : ∀ (fuel i : Nat) (Z : sM), i ≤ 7940 → 7940 - i < fuel → Fr p29 Z0 Z → (∀ c k j, ¬ c = 29 → Z.1 c k 0 j = Z0.1 c k 0 j) → (∀ c k j, Z.2 c k 0 j = Z0.2 c k 0 j) → (∀ x, Z.1 29 0 0 x = if x < i then Z0.1 29 0 0 (x + 1588) else Z0.1 29 0 0 x) →
    ∃ Z', Fr p29 Z0 Z' ∧ (∀ c k j, ¬ c = 29 → Z'.1 c k 0 j = Z0.1 c k 0 j) ∧ (∀ c k j, Z'.2 c k 0 j = Z0.2 c k 0 j) ∧ (∀ x, Z'.1 29 0 0 x = if x < 7940 then Z0.1 29 0 0 (x + 1588) else Z0.1 29 0 0 x) ∧ fX10_keeps_L11 kk fuel (oI i) Z = kk Z' := by
  intro fuel
  induction fuel with
  | zero => intro i Z _ h; omega
  | succ fuel ih =>
    intro i Z hi hfu hF h1 h2 h9
    rw [fX10_keeps_L11]
    by_cases e : i = 7940
    · refine ⟨Z, hF, h1, h2, fun x => by rw [h9 x, e], ?_⟩
      rw [if_pos (by simp (disch := omega) only [kI_0, kI_1, kI_2, kI_3, kI_4, kI_5, kI_6, kI_7, kI_8, kI_9, kI_10, kI_12, kI_16, kI_17, kI_19, kI_20, kI_23, kI_24, kI_30, kI_32, kI_36, kI_48, kI_57, kI_59, kI_60, kI_72, kI_80, kI_84, kI_97, kI_98, kI_100, kI_122, kI_148, kI_200, kI_300, kI_1058, kI_1108, kI_1348, kI_1588, kI_5290, kI_7940, kI_100000, kI_e7, kI_e9, kL_0, kL_1, kL_5, kL_9, kL_10, kL_12, kL_23, kL_30, kL_48, kL_57, kL_59, kL_97, kL_100, kL_122, kL_1000, kL_e7, kL_e9, kL_e10, oI_lt, oI_le, oI_eq, oL_lt, oL_le, oL_eq, oI_L, oI_clamp, oI_inb, oL_nz]; omega)]
    · obtain ⟨Z', q1, q2, q3, q4, q5⟩ := ih (i + 1) (wI Z 29 0 0 i (Z.1 29 0 0 (i + 1588))) (by omega) (by omega) (hF.wI rfl) (fun c k j hc => by rw [wI_1, if_neg (by omega)]; exact h1 c k j hc) (fun c k j => h2 c k j) (fun x => by
        rw [wI_1]
        by_cases ex : x = i
        · rw [if_pos ⟨rfl, rfl, rfl, ex⟩, h9, if_neg (by omega), if_pos (by omega), ex]
        · rw [if_neg (by omega), h9 x]
          by_cases e2 : x < i
          · rw [if_pos e2, if_pos (by omega)]
          · rw [if_neg e2, if_neg (by omega)])
      refine ⟨Z', q1, q2, q3, q4, ?_⟩
      rw [if_neg (by simp (disch := omega) only [kI_0, kI_1, kI_2, kI_3, kI_4, kI_5, kI_6, kI_7, kI_8, kI_9, kI_10, kI_12, kI_16, kI_17, kI_19, kI_20, kI_23, kI_24, kI_30, kI_32, kI_36, kI_48, kI_57, kI_59, kI_60, kI_72, kI_80, kI_84, kI_97, kI_98, kI_100, kI_122, kI_148, kI_200, kI_300, kI_1058, kI_1108, kI_1348, kI_1588, kI_5290, kI_7940, kI_100000, kI_e7, kI_e9, kL_0, kL_1, kL_5, kL_9, kL_10, kL_12, kL_23, kL_30, kL_48, kL_57, kL_59, kL_97, kL_100, kL_122, kL_1000, kL_e7, kL_e9, kL_e10, oI_lt, oI_le, oI_eq, oL_lt, oL_le, oL_eq, oI_L, oI_clamp, oI_inb, oL_nz]; omega)]
      simp (disch := omega) only [kI_0, kI_1, kI_2, kI_3, kI_4, kI_5, kI_6, kI_7, kI_8, kI_9, kI_10, kI_12, kI_16, kI_17, kI_19, kI_20, kI_23, kI_24, kI_30, kI_32, kI_36, kI_48, kI_57, kI_59, kI_60, kI_72, kI_80, kI_84, kI_97, kI_98, kI_100, kI_122, kI_148, kI_200, kI_300, kI_1058, kI_1108, kI_1348, kI_1588, kI_5290, kI_7940, kI_100000, kI_e7, kI_e9, kL_0, kL_1, kL_5, kL_9, kL_10, kL_12, kL_23, kL_30, kL_48, kL_57, kL_59, kL_97, kL_100, kL_122, kL_1000, kL_e7, kL_e9, kL_e10, oI_lt, oI_le, oI_eq, oL_lt, oL_le, oL_eq, oI_L, oI_clamp, oI_inb, oL_nz, gd_true, ltb_eq, bd_eq, bd2_eq, rq_none, rq_thr, xc_val, xc_thr, oI_add, oI_sub, oI_mul, oI_neg, oL_add, oL_sub, oL_mul, oL_neg, oL_I, cl_nat, nat1]
      rw [show ((i : Int) + 1588).toNat = i + 1588 by omega]
      exact q5
theorem kz2_L {Z0 : sM} (kk : sM → Option sM) : ∀ (fuel i : Nat) (Z : sM), i ≤ 5290 → 5290 - i < fuel → Fr p29 Z0 Z → (∀ c k j, Z.1 c k 0 j = Z0.1 c k 0 j) → (∀ c k j, ¬ c = 31 → Z.2 c k 0 j = Z0.2 c k 0 j) → (∀ x, Z.2 31 0 0 x = if x < i then Z0.2 31 0 0 (x + 1058) else Z0.2 31 0 0 x) →
    ∃ Z', Fr p29 Z0 Z' ∧ (∀ c k j, Z'.1 c k 0 j = Z0.1 c k 0 j) ∧ (∀ c k j, ¬ c = 31 → Z'.2 c k 0 j = Z0.2 c k 0 j) ∧ (∀ x, Z'.2 31 0 0 x = if x < 5290 then Z0.2 31 0 0 (x + 1058) else Z0.2 31 0 0 x) ∧ fX10_keeps_L42 kk fuel (oI i) Z = kk Z' := by
  intro fuel
  induction fuel with
  | zero => intro i Z _ h; omega
  | succ fuel ih =>
    intro i Z hi hfu hF h1 h2 h9
    rw [fX10_keeps_L42]
    by_cases e : i = 5290
    · refine ⟨Z, hF, h1, h2, fun x => by rw [h9 x, e], ?_⟩
      rw [if_pos (by simp (disch := omega) only [kI_0, kI_1, kI_2, kI_3, kI_4, kI_5, kI_6, kI_7, kI_8, kI_9, kI_10, kI_12, kI_16, kI_17, kI_19, kI_20, kI_23, kI_24, kI_30, kI_32, kI_36, kI_48, kI_57, kI_59, kI_60, kI_72, kI_80, kI_84, kI_97, kI_98, kI_100, kI_122, kI_148, kI_200, kI_300, kI_1058, kI_1108, kI_1348, kI_1588, kI_5290, kI_7940, kI_100000, kI_e7, kI_e9, kL_0, kL_1, kL_5, kL_9, kL_10, kL_12, kL_23, kL_30, kL_48, kL_57, kL_59, kL_97, kL_100, kL_122, kL_1000, kL_e7, kL_e9, kL_e10, oI_lt, oI_le, oI_eq, oL_lt, oL_le, oL_eq, oI_L, oI_clamp, oI_inb, oL_nz]; omega)]
    · obtain ⟨Z', q1, q2, q3, q4, q5⟩ := ih (i + 1) (wL Z 31 0 0 i (Z.2 31 0 0 (i + 1058))) (by omega) (by omega) (hF.wL rfl) (fun c k j => h1 c k j) (fun c k j hc => by rw [wL_2, if_neg (by omega)]; exact h2 c k j hc) (fun x => by
        rw [wL_2]
        by_cases ex : x = i
        · rw [if_pos ⟨rfl, rfl, rfl, ex⟩, h9, if_neg (by omega), if_pos (by omega), ex]
        · rw [if_neg (by omega), h9 x]
          by_cases e2 : x < i
          · rw [if_pos e2, if_pos (by omega)]
          · rw [if_neg e2, if_neg (by omega)])
      refine ⟨Z', q1, q2, q3, q4, ?_⟩
      rw [if_neg (by simp (disch := omega) only [kI_0, kI_1, kI_2, kI_3, kI_4, kI_5, kI_6, kI_7, kI_8, kI_9, kI_10, kI_12, kI_16, kI_17, kI_19, kI_20, kI_23, kI_24, kI_30, kI_32, kI_36, kI_48, kI_57, kI_59, kI_60, kI_72, kI_80, kI_84, kI_97, kI_98, kI_100, kI_122, kI_148, kI_200, kI_300, kI_1058, kI_1108, kI_1348, kI_1588, kI_5290, kI_7940, kI_100000, kI_e7, kI_e9, kL_0, kL_1, kL_5, kL_9, kL_10, kL_12, kL_23, kL_30, kL_48, kL_57, kL_59, kL_97, kL_100, kL_122, kL_1000, kL_e7, kL_e9, kL_e10, oI_lt, oI_le, oI_eq, oL_lt, oL_le, oL_eq, oI_L, oI_clamp, oI_inb, oL_nz]; omega)]
      simp (disch := omega) only [kI_0, kI_1, kI_2, kI_3, kI_4, kI_5, kI_6, kI_7, kI_8, kI_9, kI_10, kI_12, kI_16, kI_17, kI_19, kI_20, kI_23, kI_24, kI_30, kI_32, kI_36, kI_48, kI_57, kI_59, kI_60, kI_72, kI_80, kI_84, kI_97, kI_98, kI_100, kI_122, kI_148, kI_200, kI_300, kI_1058, kI_1108, kI_1348, kI_1588, kI_5290, kI_7940, kI_100000, kI_e7, kI_e9, kL_0, kL_1, kL_5, kL_9, kL_10, kL_12, kL_23, kL_30, kL_48, kL_57, kL_59, kL_97, kL_100, kL_122, kL_1000, kL_e7, kL_e9, kL_e10, oI_lt, oI_le, oI_eq, oL_lt, oL_le, oL_eq, oI_L, oI_clamp, oI_inb, oL_nz, gd_true, ltb_eq, bd_eq, bd2_eq, rq_none, rq_thr, xc_val, xc_thr, oI_add, oI_sub, oI_mul, oI_neg, oL_add, oL_sub, oL_mul, oL_neg, oL_I, cl_nat, nat1]
      rw [show ((i : Int) + 1058).toNat = i + 1058 by omega]
      exact q5
theorem kz3_L {Z0 : sM} {K : Nat} (hK : K ≤ 5) (hk : Z0.1 10 5 0 0 = oI K) (kk : sM → Option sM) : ∀ (fuel i : Nat) (Z : sM), i ≤ 1588 → 1588 - i < fuel → Fr p29 Z0 Z → (∀ c k j, ¬ c = 29 → Z.1 c k 0 j = Z0.1 c k 0 j) → (∀ c k j, Z.2 c k 0 j = Z0.2 c k 0 j) → (∀ x, Z.1 29 0 0 x = if 1588 * K ≤ x ∧ x < 1588 * K + i then Z0.1 27 0 0 (x - 1588 * K) else Z0.1 29 0 0 x) →
    ∃ Z', Fr p29 Z0 Z' ∧ (∀ c k j, ¬ c = 29 → Z'.1 c k 0 j = Z0.1 c k 0 j) ∧ (∀ c k j, Z'.2 c k 0 j = Z0.2 c k 0 j) ∧ (∀ x, Z'.1 29 0 0 x = if 1588 * K ≤ x ∧ x < 1588 * K + 1588 then Z0.1 27 0 0 (x - 1588 * K) else Z0.1 29 0 0 x) ∧ fX10_keeps_L83 kk fuel (oI i) Z = kk Z' := by
  intro fuel
  induction fuel with
  | zero => intro i Z _ h; omega
  | succ fuel ih =>
    intro i Z hi hfu hF h1 h2 h9
    have ek : Z.1 10 5 0 0 = oI K := (h1 10 5 0 (by omega)).trans hk
    rw [fX10_keeps_L83]
    by_cases e : i = 1588
    · refine ⟨Z, hF, h1, h2, fun x => by rw [h9 x, e], ?_⟩
      rw [if_pos (by simp (disch := omega) only [kI_0, kI_1, kI_2, kI_3, kI_4, kI_5, kI_6, kI_7, kI_8, kI_9, kI_10, kI_12, kI_16, kI_17, kI_19, kI_20, kI_23, kI_24, kI_30, kI_32, kI_36, kI_48, kI_57, kI_59, kI_60, kI_72, kI_80, kI_84, kI_97, kI_98, kI_100, kI_122, kI_148, kI_200, kI_300, kI_1058, kI_1108, kI_1348, kI_1588, kI_5290, kI_7940, kI_100000, kI_e7, kI_e9, kL_0, kL_1, kL_5, kL_9, kL_10, kL_12, kL_23, kL_30, kL_48, kL_57, kL_59, kL_97, kL_100, kL_122, kL_1000, kL_e7, kL_e9, kL_e10, oI_lt, oI_le, oI_eq, oL_lt, oL_le, oL_eq, oI_L, oI_clamp, oI_inb, oL_nz]; omega)]
    · obtain ⟨Z', q1, q2, q3, q4, q5⟩ := ih (i + 1) (wI Z 29 0 0 (1588 * K + i) (Z.1 27 0 0 i)) (by omega) (by omega) (hF.wI rfl) (fun c k j hc => by rw [wI_1, if_neg (by omega)]; exact h1 c k j hc) (fun c k j => h2 c k j) (fun x => by
        rw [wI_1]
        by_cases ex : x = 1588 * K + i
        · rw [if_pos ⟨rfl, rfl, rfl, ex⟩, h1 27 0 i (by omega), if_pos (by omega), show x - 1588 * K = i by omega]
        · rw [if_neg (by omega), h9 x]
          by_cases e2 : 1588 * K ≤ x ∧ x < 1588 * K + i
          · rw [if_pos e2, if_pos (by omega)]
          · rw [if_neg e2, if_neg (by omega)])
      refine ⟨Z', q1, q2, q3, q4, ?_⟩
      rw [if_neg (by simp (disch := omega) only [kI_0, kI_1, kI_2, kI_3, kI_4, kI_5, kI_6, kI_7, kI_8, kI_9, kI_10, kI_12, kI_16, kI_17, kI_19, kI_20, kI_23, kI_24, kI_30, kI_32, kI_36, kI_48, kI_57, kI_59, kI_60, kI_72, kI_80, kI_84, kI_97, kI_98, kI_100, kI_122, kI_148, kI_200, kI_300, kI_1058, kI_1108, kI_1348, kI_1588, kI_5290, kI_7940, kI_100000, kI_e7, kI_e9, kL_0, kL_1, kL_5, kL_9, kL_10, kL_12, kL_23, kL_30, kL_48, kL_57, kL_59, kL_97, kL_100, kL_122, kL_1000, kL_e7, kL_e9, kL_e10, oI_lt, oI_le, oI_eq, oL_lt, oL_le, oL_eq, oI_L, oI_clamp, oI_inb, oL_nz]; omega), ek]
      simp (disch := omega) only [kI_0, kI_1, kI_2, kI_3, kI_4, kI_5, kI_6, kI_7, kI_8, kI_9, kI_10, kI_12, kI_16, kI_17, kI_19, kI_20, kI_23, kI_24, kI_30, kI_32, kI_36, kI_48, kI_57, kI_59, kI_60, kI_72, kI_80, kI_84, kI_97, kI_98, kI_100, kI_122, kI_148, kI_200, kI_300, kI_1058, kI_1108, kI_1348, kI_1588, kI_5290, kI_7940, kI_100000, kI_e7, kI_e9, kL_0, kL_1, kL_5, kL_9, kL_10, kL_12, kL_23, kL_30, kL_48, kL_57, kL_59, kL_97, kL_100, kL_122, kL_1000, kL_e7, kL_e9, kL_e10, oI_lt, oI_le, oI_eq, oL_lt, oL_le, oL_eq, oI_L, oI_clamp, oI_inb, oL_nz, gd_true, ltb_eq, bd_eq, bd2_eq, rq_none, rq_thr, xc_val, xc_thr, oI_add, oI_sub, oI_mul, oI_neg, oL_add, oL_sub, oL_mul, oL_neg, oL_I, cl_nat, nat1]
      rw [show (1588 * (K : Int) + (i : Int)).toNat = 1588 * K + i by omega]
      exact q5
theorem kz4_L {Z0 : sM} {K : Nat} (hK : K ≤ 5) (hk : Z0.1 10 5 0 0 = oI K) (kk : sM → Option sM) : ∀ (fuel i : Nat) (Z : sM), i ≤ 1058 → 1058 - i < fuel → Fr p29 Z0 Z → (∀ c k j, Z.1 c k 0 j = Z0.1 c k 0 j) → (∀ c k j, ¬ c = 31 → Z.2 c k 0 j = Z0.2 c k 0 j) → (∀ x, Z.2 31 0 0 x = if 1058 * K ≤ x ∧ x < 1058 * K + i then Z0.2 30 0 0 (x - 1058 * K) else Z0.2 31 0 0 x) →
    ∃ Z', Fr p29 Z0 Z' ∧ (∀ c k j, Z'.1 c k 0 j = Z0.1 c k 0 j) ∧ (∀ c k j, ¬ c = 31 → Z'.2 c k 0 j = Z0.2 c k 0 j) ∧ (∀ x, Z'.2 31 0 0 x = if 1058 * K ≤ x ∧ x < 1058 * K + 1058 then Z0.2 30 0 0 (x - 1058 * K) else Z0.2 31 0 0 x) ∧ fX10_keeps_L119 kk fuel (oI i) Z = kk Z' := by
  intro fuel
  induction fuel with
  | zero => intro i Z _ h; omega
  | succ fuel ih =>
    intro i Z hi hfu hF h1 h2 h9
    have ek : Z.1 10 5 0 0 = oI K := (h1 10 5 0).trans hk
    rw [fX10_keeps_L119]
    by_cases e : i = 1058
    · refine ⟨Z, hF, h1, h2, fun x => by rw [h9 x, e], ?_⟩
      rw [if_pos (by simp (disch := omega) only [kI_0, kI_1, kI_2, kI_3, kI_4, kI_5, kI_6, kI_7, kI_8, kI_9, kI_10, kI_12, kI_16, kI_17, kI_19, kI_20, kI_23, kI_24, kI_30, kI_32, kI_36, kI_48, kI_57, kI_59, kI_60, kI_72, kI_80, kI_84, kI_97, kI_98, kI_100, kI_122, kI_148, kI_200, kI_300, kI_1058, kI_1108, kI_1348, kI_1588, kI_5290, kI_7940, kI_100000, kI_e7, kI_e9, kL_0, kL_1, kL_5, kL_9, kL_10, kL_12, kL_23, kL_30, kL_48, kL_57, kL_59, kL_97, kL_100, kL_122, kL_1000, kL_e7, kL_e9, kL_e10, oI_lt, oI_le, oI_eq, oL_lt, oL_le, oL_eq, oI_L, oI_clamp, oI_inb, oL_nz]; omega)]
    · obtain ⟨Z', q1, q2, q3, q4, q5⟩ := ih (i + 1) (wL Z 31 0 0 (1058 * K + i) (Z.2 30 0 0 i)) (by omega) (by omega) (hF.wL rfl) (fun c k j => h1 c k j) (fun c k j hc => by rw [wL_2, if_neg (by omega)]; exact h2 c k j hc) (fun x => by
        rw [wL_2]
        by_cases ex : x = 1058 * K + i
        · rw [if_pos ⟨rfl, rfl, rfl, ex⟩, h2 30 0 i (by omega), if_pos (by omega), show x - 1058 * K = i by omega]
        · rw [if_neg (by omega), h9 x]
          by_cases e2 : 1058 * K ≤ x ∧ x < 1058 * K + i
          · rw [if_pos e2, if_pos (by omega)]
          · rw [if_neg e2, if_neg (by omega)])
      refine ⟨Z', q1, q2, q3, q4, ?_⟩
      rw [if_neg (by simp (disch := omega) only [kI_0, kI_1, kI_2, kI_3, kI_4, kI_5, kI_6, kI_7, kI_8, kI_9, kI_10, kI_12, kI_16, kI_17, kI_19, kI_20, kI_23, kI_24, kI_30, kI_32, kI_36, kI_48, kI_57, kI_59, kI_60, kI_72, kI_80, kI_84, kI_97, kI_98, kI_100, kI_122, kI_148, kI_200, kI_300, kI_1058, kI_1108, kI_1348, kI_1588, kI_5290, kI_7940, kI_100000, kI_e7, kI_e9, kL_0, kL_1, kL_5, kL_9, kL_10, kL_12, kL_23, kL_30, kL_48, kL_57, kL_59, kL_97, kL_100, kL_122, kL_1000, kL_e7, kL_e9, kL_e10, oI_lt, oI_le, oI_eq, oL_lt, oL_le, oL_eq, oI_L, oI_clamp, oI_inb, oL_nz]; omega), ek]
      simp (disch := omega) only [kI_0, kI_1, kI_2, kI_3, kI_4, kI_5, kI_6, kI_7, kI_8, kI_9, kI_10, kI_12, kI_16, kI_17, kI_19, kI_20, kI_23, kI_24, kI_30, kI_32, kI_36, kI_48, kI_57, kI_59, kI_60, kI_72, kI_80, kI_84, kI_97, kI_98, kI_100, kI_122, kI_148, kI_200, kI_300, kI_1058, kI_1108, kI_1348, kI_1588, kI_5290, kI_7940, kI_100000, kI_e7, kI_e9, kL_0, kL_1, kL_5, kL_9, kL_10, kL_12, kL_23, kL_30, kL_48, kL_57, kL_59, kL_97, kL_100, kL_122, kL_1000, kL_e7, kL_e9, kL_e10, oI_lt, oI_le, oI_eq, oL_lt, oL_le, oL_eq, oI_L, oI_clamp, oI_inb, oL_nz, gd_true, ltb_eq, bd_eq, bd2_eq, rq_none, rq_thr, xc_val, xc_thr, oI_add, oI_sub, oI_mul, oI_neg, oL_add, oL_sub, oL_mul, oL_neg, oL_I, cl_nat, nat1]
      rw [show (1058 * (K : Int) + (i : Int)).toNat = 1058 * K + i by omega]
      exact q5
/-- the copy behind the last kept state -/
theorem kzc {K : Nat} (hK : K ≤ 5) (hk : Z.1 10 5 0 0 = oI K) : ∃ Z', Fr p29 Z Z' ∧ Z'.1 10 5 0 0 = oI (K + 1 : Nat) ∧ (∀ x, Z'.1 29 0 0 x = if 1588 * K ≤ x ∧ x < 1588 * K + 1588 then Z.1 27 0 0 (x - 1588 * K) else Z.1 29 0 0 x) ∧ (∀ x, Z'.2 31 0 0 x = if 1058 * K ≤ x ∧ x < 1058 * K + 1058 then Z.2 30 0 0 (x - 1058 * K) else Z.2 31 0 0 x) ∧
    fX10_keeps_L83 (fun (Z_3 : sM) =>
      fX10_keeps_L119 (fun (Z_4 : sM) =>
        ltb (wI Z_4 10 5 0 0 ((Z_4.1 10 5 0 0) + (1 : Int32))) fun Z_5 =>
        some Z_5) 10000 (0 : Int32) Z_3) 10000 (0 : Int32) Z = some Z' := by
  obtain ⟨Z1, a1, a2, a3, a4, a5⟩ := kz3_L (Z0 := Z) hK hk (fun (Z_3 : sM) =>
      fX10_keeps_L119 (fun (Z_4 : sM) =>
        ltb (wI Z_4 10 5 0 0 ((Z_4.1 10 5 0 0) + (1 : Int32))) fun Z_5 =>
        some Z_5) 10000 (0 : Int32) Z_3) 10000 0 Z (by omega) (by omega) (Fr.refl _) (fun _ _ _ _ => rfl) (fun _ _ _ => rfl) (fun x => by rw [if_neg (by omega)])
  obtain ⟨Z2, b1, b2, b3, b4, b5⟩ := kz4_L (Z0 := Z1) hK ((a2 10 5 0 (by omega)).trans hk) (fun (Z_4 : sM) =>
        ltb (wI Z_4 10 5 0 0 ((Z_4.1 10 5 0 0) + (1 : Int32))) fun Z_5 =>
        some Z_5) 10000 0 Z1 (by omega) (by omega) (Fr.refl _) (fun _ _ _ => rfl) (fun _ _ _ _ => rfl) (fun x => by rw [if_neg (by omega)])
  have ek : Z2.1 10 5 0 0 = oI K := (b2 10 5 0).trans ((a2 10 5 0 (by omega)).trans hk)
  refine ⟨wI Z2 10 5 0 0 (oI (K + 1 : Nat)), (a1.trans b1).wI rfl, by rw [wI_1, if_pos ⟨rfl, rfl, rfl, rfl⟩], fun x => ?_, fun x => ?_, ?_⟩
  · rw [wI_1, if_neg (by omega), b2, a4]
  · rw [wI_2, b4, a3, a3]
  · rw [show (0 : Int32) = oI (0 : Nat) from rfl] at a5 ⊢
    refine a5.trans (b5.trans ?_)
    rw [ltb_eq, ek, kI_1, oI_add, nat1]
theorem ZR.sub {I : Nat → Int32} {L : Nat → Int64} {I' : Nat → Int32} {L' : Nat → Int64} {s : sS} (h : ZR I L s) (hI : ∀ k, k < 1588 → I' k = I k) (hL : ∀ k, k < 1058 → L' k = L k) : ZR I' L' s := by
  refine ⟨fun k hk => ?_, fun k hk => ?_, fun k hk => ?_, fun i w hi hw => ?_, fun m i hm hi => ?_, fun c hc => ?_, fun c hc => ?_, fun k hk => ?_, fun i w hi hw => ?_, fun i m hi hm => ?_⟩
  · rw [hI _ (by omega)]; exact h.g hk
  · rw [hI _ (by omega)]; exact h.hr hk
  · rw [hI _ (by omega)]; exact h.rt hk
  · rw [hI _ (by omega)]; exact h.mb hi hw
  · rw [hI _ (by omega)]; exact h.dy hm hi
  · rw [hI _ (by omega)]; exact h.gn hc
  · rw [hI _ (by omega)]; exact h.cr hc
  · rw [hL _ (by omega)]; exact h.fo hk
  · rw [hL _ (by omega)]; exact h.ac hi hw
  · rw [hL _ (by omega)]; exact h.lt hi hm
/-- both sides keep -/
theorem keep2 {n : Nat} (hs : St n A Z s N) (hR : Rest n A Z) : ∃ A' Z', fX6_keep A = some A' ∧ fX10_keeps Z = some Z' ∧ St n A' Z' s N ∧ Rest n A' Z' ∧ Fr p29 Z Z' := by
  obtain ⟨hS, hZ, hW⟩ := hs
  have hN : N ≤ 16 := hW.1.2.2.2.2.2.2.2.2
  have hg4 : sG s 4 ≤ 4 := hW.1.2.2.2.2.1.2
  obtain ⟨⟨K, p, t, Nt, ⟨h1, h2, h3, h4, h5⟩, h6⟩, ⟨len, t1, t2, t3, t4, t5⟩, dl, d1, d2, d3, d4⟩ := hR
  obtain ⟨A', a1, a2, a3, a4, a5, a6, a7⟩ := kepA hS hN hg4 h2 h1 h3 h4
  have hno0 := pBk_no (b := p + 1) (b' := 0) (by omega)
  have kp_no : ∀ b', ¬ b' = p + 1 → (∀ c k, c = 0 ∨ c = 4 ∨ c = 18 ∨ c = 19 ∨ c = 22 ∨ c = 23 → pKp (p + 1) c k b' = false) ∧ (∀ c k i, c = 8 ∨ c = 24 ∨ c = 25 ∨ c = 26 → i < 16 → pKp (p + 1) c k (16 * b' + i) = false) := fun b' hb => by
    have hno := pBk_no (b := p + 1) hb
    refine ⟨fun c k hc => ?_, fun c k i hc hi => ?_⟩
    · have := hno.1 c k hc
      simp only [pKp, this, Bool.false_or]
      rcases hc with rfl | rfl | rfl | rfl | rfl | rfl <;> rfl
    · have := hno.2 c k i hc hi
      simp only [pKp, this, Bool.false_or]
      rcases hc with rfl | rfl | rfl | rfl <;> rfl
  have hS' : SR A' 0 s N := hS.keep a1 hN (kp_no 0 (by omega)).1 (kp_no 0 (by omega)).2
  have hT' : ∀ {Z' : sM}, Fr p29 Z Z' → (∃ len, TR A' Z' len) ∧ ∃ dl, DR A' Z' dl := fun hF => by
    refine ⟨⟨len, t1, ?_, ?_, ?_, fun k hk => ?_⟩, dl, d1, ?_, ?_, fun k hk => ?_⟩
    · rw [a1.i rfl]; exact t2
    · rw [hF.i rfl]; exact t3
    · rw [a1.i rfl, hF.i rfl]; exact t4
    · rw [a1.i rfl, hF.i rfl]; exact t5 k hk
    · rw [a1.i rfl]; exact d2
    · rw [hF.i rfl]; exact d3
    · rw [a1.i rfl, hF.i rfl]; exact d4 k hk
  by_cases e : K = 6
  · -- the ring is full
    subst e
    obtain ⟨Z1, b1, b2, b3, b4, b5⟩ := kz1_L (Z0 := Z) (fun (Z_6 : sM) =>
      fX10_keeps_L42 (fun (Z_7 : sM) =>
        ltb (wI Z_7 10 5 0 0 ((Z_7.1 10 5 0 0) - (1 : Int32))) fun Z_8 =>
        fX10_keeps_L83 (fun (Z_3 : sM) =>
      fX10_keeps_L119 (fun (Z_4 : sM) =>
        ltb (wI Z_4 10 5 0 0 ((Z_4.1 10 5 0 0) + (1 : Int32))) fun Z_5 =>
        some Z_5) 10000 (0 : Int32) Z_3) 10000 (0 : Int32) Z_8) 10000 (0 : Int32) Z_6) 10000 0 Z (by omega) (by omega) (Fr.refl _) (fun _ _ _ _ => rfl) (fun _ _ _ => rfl) (fun x => by rw [if_neg (by omega)])
    obtain ⟨Z2, c1, c2, c3, c4, c5⟩ := kz2_L (Z0 := Z1) (fun (Z_7 : sM) =>
        ltb (wI Z_7 10 5 0 0 ((Z_7.1 10 5 0 0) - (1 : Int32))) fun Z_8 =>
        fX10_keeps_L83 (fun (Z_3 : sM) =>
      fX10_keeps_L119 (fun (Z_4 : sM) =>
        ltb (wI Z_4 10 5 0 0 ((Z_4.1 10 5 0 0) + (1 : Int32))) fun Z_5 =>
        some Z_5) 10000 (0 : Int32) Z_3) 10000 (0 : Int32) Z_8) 10000 0 Z1 (by omega) (by omega) (Fr.refl _) (fun _ _ _ => rfl) (fun _ _ _ _ => rfl) (fun x => by rw [if_neg (by omega)])
    have ek : Z2.1 10 5 0 0 = oI (6 : Nat) := (c2 10 5 0).trans ((b2 10 5 0 (by omega)).trans h5)
    have hF2 : Fr p29 Z (wI Z2 10 5 0 0 (oI (5 : Nat))) := (b1.trans c1).wI rfl
    obtain ⟨Z3, e1, e2, e3, e4, e5⟩ := kzc (Z := wI Z2 10 5 0 0 (oI (5 : Nat))) (K := 5) (by omega) (by rw [wI_1, if_pos ⟨rfl, rfl, rfl, rfl⟩])
    have hF3 : Fr p29 Z Z3 := hF2.trans e1
    have hZ3 : ZR (zA Z3) (zB Z3) s := hZ.keep (fun k => hF3.i rfl) (fun k => hF3.l rfl)
    have q29 : ∀ x, x < 7940 → Z3.1 29 0 0 x = Z.1 29 0 0 (x + 1588) := fun x hx => by
      rw [e3, if_neg (by omega), wI_1, if_neg (by omega), c2, b4, if_pos hx]
    have q31 : ∀ x, x < 5290 → Z3.2 31 0 0 x = Z.2 31 0 0 (x + 1058) := fun x hx => by
      rw [e4, if_neg (by omega), wI_2, c4, if_pos hx, b3]
    refine ⟨A', Z3, a7, ?_, ⟨hS', hZ3, hW⟩, ⟨⟨6, (p + 1) % 6, fun j => if j = 5 then s else t (j + 1), fun j => if j = 5 then N else Nt (j + 1), ⟨by omega, by omega, a5, by rw [a6]; rfl, e2⟩, fun j hj => ?_⟩, hT' hF3⟩, hF3⟩
    · rw [fX10_keeps, h5, ltb_eq, if_pos (show oI (6 : Nat) = (6 : Int32) from rfl), show (0 : Int32) = oI (0 : Nat) from rfl]
      rw [show (0 : Int32) = oI (0 : Nat) from rfl] at b5 c5 e5
      refine b5.trans (c5.trans ?_)
      rw [ltb_eq, ek, kI_1, oI_sub]
      exact e5
    · by_cases ej : j = 5
      · have hsl : slot ((p + 1) % 6) 6 j = p := by rw [slot]; omega
        simp only [if_pos ej, hsl]
        refine ⟨a3, a2, hZ.sub (fun k hk => ?_) (fun k hk => ?_), hW⟩
        · rw [e3, if_pos (by omega), wI_1, if_neg (by omega), c2, b2 27 0 _ (by omega), show 1588 * j + k - 1588 * 5 = k by omega]
        · rw [e4, if_pos (by omega), wI_2, c3 30 0 _ (by omega), b3, show 1058 * j + k - 1058 * 5 = k by omega]
      · have hsl : slot ((p + 1) % 6) 6 j = slot p 6 (j + 1) := by rw [slot, slot]; omega
        have hnp : ¬ slot p 6 (j + 1) = p := by rw [slot]; omega
        obtain ⟨f1, f2, f3, f4⟩ := h6 (j + 1) (by omega)
        simp only [if_neg ej, hsl]
        refine ⟨by rw [a4 _ hnp]; exact f1, f2.keep a1 f4.1.2.2.2.2.2.2.2.2 (kp_no _ (by omega)).1 (kp_no _ (by omega)).2, f3.sub (fun k hk => ?_) (fun k hk => ?_), f4⟩
        · rw [q29 _ (by omega), show 1588 * j + k + 1588 = 1588 * (j + 1) + k by omega]
        · rw [q31 _ (by omega), show 1058 * j + k + 1058 = 1058 * (j + 1) + k by omega]
  · obtain ⟨Z3, e1, e2, e3, e4, e5⟩ := kzc (Z := Z) (K := K) (by omega) h5
    have hZ3 : ZR (zA Z3) (zB Z3) s := hZ.keep (fun k => e1.i rfl) (fun k => e1.l rfl)
    refine ⟨A', Z3, a7, ?_, ⟨hS', hZ3, hW⟩, ⟨⟨K + 1, (p + 1) % 6, fun j => if j = K then s else t j, fun j => if j = K then N else Nt j, ⟨by omega, by omega, a5, by rw [a6, if_pos (by omega)], e2⟩, fun j hj => ?_⟩, hT' e1⟩, e1⟩
    · rw [fX10_keeps, h5, ltb_eq, if_neg (by simp (disch := omega) only [kI_0, kI_1, kI_2, kI_3, kI_4, kI_5, kI_6, kI_7, kI_8, kI_9, kI_10, kI_12, kI_16, kI_17, kI_19, kI_20, kI_23, kI_24, kI_30, kI_32, kI_36, kI_48, kI_57, kI_59, kI_60, kI_72, kI_80, kI_84, kI_97, kI_98, kI_100, kI_122, kI_148, kI_200, kI_300, kI_1058, kI_1108, kI_1348, kI_1588, kI_5290, kI_7940, kI_100000, kI_e7, kI_e9, kL_0, kL_1, kL_5, kL_9, kL_10, kL_12, kL_23, kL_30, kL_48, kL_57, kL_59, kL_97, kL_100, kL_122, kL_1000, kL_e7, kL_e9, kL_e10, oI_lt, oI_le, oI_eq, oL_lt, oL_le, oL_eq, oI_L, oI_clamp, oI_inb, oL_nz]; omega)]
      exact e5
    · by_cases ej : j = K
      · have hsl : slot ((p + 1) % 6) (K + 1) j = p := by rw [slot]; omega
        simp only [if_pos ej, hsl]
        refine ⟨a3, a2, hZ.sub (fun k hk => ?_) (fun k hk => ?_), hW⟩
        · rw [e3, if_pos (by omega), show 1588 * j + k - 1588 * K = k by omega]
        · rw [e4, if_pos (by omega), show 1058 * j + k - 1058 * K = k by omega]
      · have hsl : slot ((p + 1) % 6) (K + 1) j = slot p K j := by rw [slot, slot]; omega
        have hnp : ¬ slot p K j = p := by rw [slot]; omega
        obtain ⟨f1, f2, f3, f4⟩ := h6 j (by omega)
        simp only [if_neg ej, hsl]
        refine ⟨by rw [a4 _ hnp]; exact f1, f2.keep a1 f4.1.2.2.2.2.2.2.2.2 (kp_no _ (by omega)).1 (kp_no _ (by omega)).2, f3.sub (fun k hk => ?_) (fun k hk => ?_), f4⟩
        · rw [e3, if_neg (by omega)]
        · rw [e4, if_neg (by omega)]
end
