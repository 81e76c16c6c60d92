/-! Who joins. -/
def nwB (s : sS) (N : Nat) (a b c : Int) : Nat → Nat → Int := up2 (up2 (up2 (up2 (up2 (sB s) N 0 a) N 1 b) N 2 c) N 3 0) N 5 (-1)
def nwS (s : sS) (N : Nat) (a b c : Int) : sS := uG (uB s (nwB s N a b c)) (up1 (sG s) 7 (N + 1 : Nat))
section
variable {A Z : sM} {s : sS} {N n : Nat} {a b c : Int}
theorem nwB_o {j w : Nat} (h : ¬ j = N) : nwB s N a b c j w = sB s j w := by
  simp only [nwB]
  rw [up2_n _ _ (by omega), up2_n _ _ (by omega), up2_n _ _ (by omega), up2_n _ _ (by omega), up2_n _ _ (by omega)]
theorem nwB_0 : nwB s N a b c N 0 = a := by simp only [nwB]; rw [up2_n _ _ (by omega), up2_n _ _ (by omega), up2_n _ _ (by omega), up2_n _ _ (by omega), up2_s]
theorem nwB_1 : nwB s N a b c N 1 = b := by simp only [nwB]; rw [up2_n _ _ (by omega), up2_n _ _ (by omega), up2_n _ _ (by omega), up2_s]
theorem nwB_2 : nwB s N a b c N 2 = c := by simp only [nwB]; rw [up2_n _ _ (by omega), up2_n _ _ (by omega), up2_s]
theorem nwB_3 : nwB s N a b c N 3 = 0 := by simp only [nwB]; rw [up2_n _ _ (by omega), up2_s]
theorem nwB_5 : nwB s N a b c N 5 = -1 := by simp only [nwB]; rw [up2_s]
theorem nwB_4 (j : Nat) : nwB s N a b c j 4 = sB s j 4 := by
  simp only [nwB]
  rw [up2_n _ _ (by omega), up2_n _ _ (by omega), up2_n _ _ (by omega), up2_n _ _ (by omega), up2_n _ _ (by omega)]
theorem WF_nw (hW : WF n s N) (hN : N < 16) (ha : 1 ≤ a ∧ a ≤ sG s 0) (hb : 1 ≤ b ∧ b ≤ a) (hc : 0 ≤ c ∧ c ≤ 9) : WF n (nwS s N a b c) (N + 1) := by
  obtain ⟨w1, w2, w3, w4, w5, w6, w7, w8⟩ := id hW
  have g : ∀ k, ¬ k = 7 → sG (nwS s N a b c) k = sG s k := fun k hk => up1_n _ _ hk
  have hsh : sB s N 4 = 0 := w3.2.2.2.2.1 N (by omega) (by omega)
  have hz := w7.2.1 N (by omega) (by omega)
  refine ⟨?_, ?_, ⟨fun j hj => ?_, fun j hj => ?_, fun j hj q => ?_, fun j hj q => ?_, fun j h1 h2 => ?_, ?_⟩, ⟨fun j hj => ?_, ?_⟩, ⟨w5.1, fun m j hm h1 h2 => w5.2.1 m j hm (by omega) h2, fun m j hm hj q => ?_, fun m q => ?_, fun m q => ?_⟩, ⟨w6.1, fun m p hm hp => ?_⟩, ⟨w7.1, fun j h1 h2 => w7.2.1 j (by omega) h2, fun j hj q => ?_, fun j m hj hm q => ?_⟩, ?_⟩
  · obtain ⟨h0, h1, h2, h3, h4, h5, h6, h7⟩ := w1
    refine ⟨?_, ?_, ?_, ?_, ?_, ?_, ?_, (show up1 (sG s) 7 ((N + 1 : Nat) : Int) 7 = ((N + 1 : Nat) : Int) from up1_s _ _ _), by omega⟩
    · rw [g 0 (by omega)]; exact h0
    · rw [g 1 (by omega)]; exact h1
    · rw [g 2 (by omega)]; exact h2
    · rw [g 3 (by omega)]; exact h3
    · rw [g 4 (by omega)]; exact h4
    · rw [g 5 (by omega)]; exact h5
    · rw [g 6 (by omega)]; exact h6
  · refine ⟨fun h hh => ?_, w2.2⟩
    rw [g 4 (by omega)]; exact w2.1 h hh
  · rw [g 0 (by omega)]
    show (1 ≤ nwB s N a b c j 0 ∧ nwB s N a b c j 0 ≤ sG s 0) ∧ (1 ≤ nwB s N a b c j 1 ∧ nwB s N a b c j 1 ≤ nwB s N a b c j 0) ∧ (0 ≤ nwB s N a b c j 2 ∧ nwB s N a b c j 2 ≤ 9) ∧ (0 ≤ nwB s N a b c j 3 ∧ nwB s N a b c j 3 ≤ 2)
    by_cases e : j = N
    · rw [e, nwB_0, nwB_1, nwB_2, nwB_3]; omega
    · rw [nwB_o e, nwB_o e, nwB_o e, nwB_o e]; exact w3.1 j (by omega)
  · show 0 ≤ nwB s N a b c j 4
    rw [nwB_4]; exact w3.2.1 j hj
  · have q' : nwB s N a b c j 3 = 1 := q
    show 1 ≤ nwB s N a b c j 4
    by_cases e : j = N
    · rw [e, nwB_3] at q'; omega
    · rw [nwB_o e] at q' ⊢; exact w3.2.2.1 j (by omega) q'
  · have q' : ¬ nwB s N a b c j 3 = 1 := q
    show nwB s N a b c j 4 = 0
    rw [nwB_4]
    by_cases e : j = N
    · rw [e]; exact hsh
    · rw [nwB_o e] at q'; exact w3.2.2.2.1 j (by omega) q'
  · show nwB s N a b c j 4 = 0
    rw [nwB_4]; exact w3.2.2.2.2.1 j (by omega) h2
  · rw [g 0 (by omega)]
    show sumN (fun j => nwB s N a b c j 4) (N + 1) ≤ sG s 0
    rw [sumN, sumN_congr (g := fun j => sB s j 4) (fun j _ => nwB_4 j), nwB_4, hsh]
    have := w3.2.2.2.2.2
    omega
  · show nwB s N a b c j 5 = -1 ∨ (nwB s N a b c j 3 = 1 ∧ ∃ t : Nat, t < N + 1 ∧ nwB s N a b c j 5 = t ∧ nwB s N a b c t 3 = 1 ∧ 1 ≤ nwB s N a b c j 6 ∧ nwB s N a b c j 6 ≤ 100)
    by_cases e : j = N
    · rw [e, nwB_5]; exact Or.inl rfl
    · rw [nwB_o e, nwB_o e, nwB_o e]
      rcases w4.1 j (by omega) with q | ⟨q1, t, ht, q2, q3, q4⟩
      · exact Or.inl q
      · exact Or.inr ⟨q1, t, by omega, q2, by rw [nwB_o (by omega)]; exact q3, q4⟩
  · obtain ⟨d, hd⟩ := w4.2
    refine ⟨d, fun j t hj ht q => ?_⟩
    have q' : nwB s N a b c j 5 = (t : Int) := q
    by_cases e : j = N
    · rw [e, nwB_5] at q'; omega
    · rw [nwB_o e] at q'
      rcases w4.1 j (by omega) with q9 | ⟨-, t', ht', q2, -⟩
      · omega
      · exact hd j t (by omega) (by omega) q'
  · rw [g 5 (by omega)] at q; exact w5.2.2.1 m j hm hj q
  · rw [g 5 (by omega)] at q
    rw [g 0 (by omega), sumN, show sD (nwS s N a b c) m N = 0 from w5.2.1 m N (by have := w1.2.2.2.2.2.1; omega) (by omega) (by omega)]
    have := w5.2.2.2.1 m q
    show sumN (fun i => sD s m i) N + 0 ≤ _
    omega
  · rw [g 5 (by omega)] at q
    rw [g 0 (by omega), g 6 (by omega), sumN, show sD (nwS s N a b c) m N = 0 from w5.2.1 m N (by have := w1.2.2.2.2.2.1; omega) (by omega) (by omega)]
    have := w5.2.2.2.2 m q
    show sumN (fun i => sD s m i) N + 0 ≤ _
    omega
  · rw [g 5 (by omega), g 4 (by omega)]; exact w6.2 m p hm hp
  · have q' : ¬ nwB s N a b c j 3 = 1 := q
    by_cases e : j = N
    · rw [e]; exact ⟨hz.1 0 (by omega), hz.1 1 (by omega), hz.2, fun _ => hz.1 3 (by omega)⟩
    · rw [nwB_o e] at q'; exact ⟨(w7.2.2.1 j (by omega) q').1, (w7.2.2.1 j (by omega) q').2.1, (w7.2.2.1 j (by omega) q').2.2.1, fun e2 => (w7.2.2.1 j (by omega) q').2.2.2 ((nwB_o e).symm.trans e2)⟩
  · rw [g 5 (by omega), g 1 (by omega)] at q; exact w7.2.2.2 j m hj hm q
  · refine ⟨?_, w8.2⟩
    have e : sumN (pot (nwS s N a b c)) 240 = sumN (pot s) 240 := sumN_congr fun k _ => by
      show sRt s (k % 4) * (if sG (nwS s N a b c) 5 ≤ _ then _ else _) = _
      rw [g 5 (by omega)]; rfl
    rw [e]; exact w8.1
theorem bgn (hS : SR A 0 s N) (hW : WF n s N) (hN : N < 16) : ∃ A', Fr mvA A A' ∧ SR A' 0 (nwS s N a b c) (N + 1) ∧ Option.bind (fX8_begin (16 * 0 + N) (oI a) (oI b) (oI c) A) (fun A_3 => some (wI A_3 0 3 0 0 ((A_3.1 0 3 0 0) + (1 : Int32)))) = some A' := by
  obtain ⟨w1, w2, w3, w4, w5, w6, w7, w8⟩ := id hW
  have hz := w7.2.1 N (by omega) (by omega)
  have g : ∀ k, ¬ k = 7 → sG (nwS s N a b c) k = sG s k := fun k hk => up1_n _ _ hk
  have hm8 : ∀ k, mvA 8 k (16 * 0 + N) = true := fun k => by simp [mvA]; omega
  have hm24 : ∀ k, mvA 24 k (16 * 0 + N) = true := fun k => by simp [mvA]; omega
  have hm25 : ∀ k, mvA 25 k (16 * 0 + N) = true := fun k => by simp [mvA]; omega
  have hm26 : ∀ k, mvA 26 k (16 * 0 + N) = true := fun k => by simp [mvA]; omega
  obtain ⟨B, hB⟩ : ∃ B, B = wI (fL (fL (fI (wI (wI (wI (wI (wI (wI (wI A 8 0 (16 * 0 + N) 0 (oI 0)) 8 1 (16 * 0 + N) 0 (oI a)) 8 2 (16 * 0 + N) 0 (oI b)) 8 3 (16 * 0 + N) 0 (oI c)) 8 4 (16 * 0 + N) 0 (oI 0)) 8 5 (16 * 0 + N) 0 (oI (-1))) 8 6 (16 * 0 + N) 0 (oI 0)) 24 (16 * 0 + N) 60 (oI 0)) 25 (16 * 0 + N) 72 (oL 0)) 26 (16 * 0 + N) 6 (oL 0)) 0 3 0 0 (oI (N + 1 : Nat)) := ⟨_, rfl⟩
  have r8 : ∀ k j i, (¬ i = N) → B.1 8 k (16 * 0 + i) j = A.1 8 k (16 * 0 + i) j := fun k j i hi => by
    have e : ¬ 16 * 0 + i = 16 * 0 + N := by omega
    rw [hB]; simp only [wI_1, fL_1, fI_1, e, and_false, false_and, if_false, Nat.reduceEqDiff]
  have ro : ∀ c k o j, c = 4 ∨ c = 18 ∨ c = 19 ∨ c = 22 ∨ c = 23 ∨ (c = 0 ∧ ¬ k = 3) → B.1 c k o j = A.1 c k o j := fun c k o j hc => by
    rw [hB, wI_1, if_neg (by omega), fL_1, fL_1, fI_1, if_neg (by omega)]
    simp only [wI_1]
    rw [if_neg (by omega), if_neg (by omega), if_neg (by omega), if_neg (by omega), if_neg (by omega), if_neg (by omega), if_neg (by omega)]
  have r2 : ∀ c k o j, c = 0 → B.2 c k o j = A.2 c k o j := fun c k o j hc => by
    rw [hB, wI_2, fL_2, if_neg (by omega), fL_2, if_neg (by omega), fI_2]
    rfl
  refine ⟨B, ?_, ⟨fun k hk => ?_, ⟨?_, ?_, ?_⟩, fun k hk => ?_, fun p hp => ?_, fun i hi => ?_, fun i hi m hm => ?_, fun c hc => ⟨?_, ?_⟩, ⟨?_, ?_⟩, fun i hi w hw => ?_, fun i hi m hm => ?_⟩, ?_⟩
  · rw [hB]
    exact (((((((((((Fr.refl _).wI (hm8 _)).wI (hm8 _)).wI (hm8 _)).wI (hm8 _)).wI (hm8 _)).wI (hm8 _)).wI (hm8 _)).fI (hm24 _)).fL (hm25 _)).fL (hm26 _)).wI rfl
  · rw [ro 4 k 0 0 (by omega), g k (by omega)]; exact hS.g hk
  · rw [ro 0 4 0 0 (by omega), g 5 (by omega)]; exact hS.mon
  · rw [ro 0 5 0 0 (by omega), g 6 (by omega)]; exact hS.day
  · rw [hB, wI_1, if_pos ⟨rfl, rfl, rfl, rfl⟩]
  · rw [ro 19 0 0 k (by omega)]; exact hS.hr hk
  · rw [ro 18 0 0 p (by omega)]; exact hS.rt (by rw [g 4 (by omega)] at hp; exact hp)
  · by_cases e : i = N
    · subst e
      refine ⟨?_, ?_, ?_, ?_, ?_, ?_, fun ht => absurd (show nwB s i a b c i 5 = -1 from nwB_5) ht⟩
      · show _ = oI (nwB s i a b c i 3); rw [nwB_3, hB]; simp [wI_1, fL_1, fI_1]
      · show _ = oI (nwB s i a b c i 0); rw [nwB_0, hB]; simp [wI_1, fL_1, fI_1]
      · show _ = oI (nwB s i a b c i 1); rw [nwB_1, hB]; simp [wI_1, fL_1, fI_1]
      · show _ = oI (nwB s i a b c i 2); rw [nwB_2, hB]; simp [wI_1, fL_1, fI_1]
      · show _ = oI (nwB s i a b c i 4); rw [nwB_4, w3.2.2.2.2.1 i (by omega) (by omega), hB]; simp [wI_1, fL_1, fI_1]
      · show _ = oI (nwB s i a b c i 5); rw [nwB_5, hB]; simp [wI_1, fL_1, fI_1]
    · have hi2 : i < N := by omega
      refine ⟨?_, ?_, ?_, ?_, ?_, ?_, fun ht => ?_⟩
      · show _ = oI (nwB s N a b c i 3); rw [nwB_o e, r8 0 0 i e]; exact hS.st hi2
      · show _ = oI (nwB s N a b c i 0); rw [nwB_o e, r8 1 0 i e]; exact hS.wa hi2
      · show _ = oI (nwB s N a b c i 1); rw [nwB_o e, r8 2 0 i e]; exact hS.mi hi2
      · show _ = oI (nwB s N a b c i 2); rw [nwB_o e, r8 3 0 i e]; exact hS.pr hi2
      · show _ = oI (nwB s N a b c i 4); rw [nwB_o e, r8 4 0 i e]; exact hS.sh hi2
      · show _ = oI (nwB s N a b c i 5); rw [nwB_o e, r8 5 0 i e]; exact hS.to hi2
      · have ht2 : ¬ nwB s N a b c i 5 = -1 := ht
        rw [nwB_o e] at ht2
        show _ = oI (nwB s N a b c i 6); rw [nwB_o e, r8 6 0 i e]; exact hS.pc hi2 ht2
  · show _ = oI (sD s m i)
    by_cases e : i = N
    · subst e
      rw [w5.2.1 m i hm (by omega) (by omega), hB]; simp [wI_1, fL_1, fI_1, hm]
    · rw [hB, wI_1, if_neg (by omega), fL_1, fL_1, fI_1, if_neg (by omega)]
      simp only [wI_1]
      rw [if_neg (by omega), if_neg (by omega), if_neg (by omega), if_neg (by omega), if_neg (by omega), if_neg (by omega), if_neg (by omega)]
      exact hS.dy (by omega) hm
  · rw [ro 22 0 0 c (by omega)]; exact hS.gn hc
  · rw [ro 23 0 0 c (by omega)]; exact hS.cr hc
  · rw [r2 0 6 0 0 rfl]; exact hS.fu
  · rw [r2 0 7 0 0 rfl]; exact hS.op
  · show _ = oL (sA s i w)
    by_cases e : i = N
    · subst e
      rw [hz.1 w hw, hB]; simp [wI_2, fL_2, fI_2, hw]
    · rw [hB, wI_2, fL_2, if_neg (by omega), fL_2, if_neg (by omega), fI_2]
      exact hS.ac (by omega) hw
  · show _ = oL (if m < 60 then sT s i m else 0)
    by_cases e : i = N
    · subst e
      rw [show (if m < 60 then sT s i m else 0) = 0 by split; exact hz.2 m (by assumption); rfl, hB]; simp [wI_2, fL_2, fI_2, hm]
    · rw [hB, wI_2, fL_2, if_neg (by omega), fL_2, if_neg (by omega), fI_2]
      exact hS.lt (by omega) hm
  · have e0 : (0 : Int32) ≤ 0 := by decide
    simp only [fX8_begin, fX8_setAssignment, ltb_eq, bd_eq, if_pos e0]
    rw [hB]
    simp [wI_1, fL_1, fI_1, hS.cnt]
    rw [kI_1, oI_add]
    rfl
end
theorem jon {n : Nat} {A Z : sM} (hI : Inv n A Z) (x y z : Int32) : OKI n (fL_join x y z A) (fX10_join x y z Z) := by
  obtain ⟨⟨s, N, hS, hZ, hW⟩, hR⟩ := id hI
  obtain ⟨w1, w2, w3, w4, w5, w6, w7, w8⟩ := id hW
  obtain ⟨g0, g1, g2, g3, g4, g5, g6, g7, hN⟩ := id w1
  obtain ⟨a, a1, a2, rfl⟩ := I_ex x
  obtain ⟨b, b1, b2, rfl⟩ := I_ex y
  obtain ⟨c, c1, c2, rfl⟩ := I_ex z
  have e0 : Z.1 27 0 0 (0 : Int32).toNatClampNeg = oI (sG s 0) := hZ.g (k := 0) (by omega)
  have e7 : Z.1 27 0 0 (7 : Int32).toNatClampNeg = oI N := (hZ.g (k := 7) (by omega)).trans (by rw [g7])
  by_cases ha : (1 ≤ a ∧ a ≤ sG s 0) ∧ (1 ≤ b ∧ b ≤ a) ∧ (0 ≤ c ∧ c ≤ 9)
  · obtain ⟨ha, hb, hc⟩ := ha
    have eZ : fX10_join (oI a) (oI b) (oI c) Z = if N = 16 then some (oI 0, wI Z 10 6 0 0 (oI 2)) else (Option.bind (fX10_keeps (wI Z 10 6 0 0 (oI 0))) fun Z_6 =>
      ltb (Z_6.1 27 0 0 (7 : Int32).toNatClampNeg) fun x4_8 =>
      Option.bind (fX10_setMember x4_8 (0 : Int32) (oI a) Z_6) fun Z_9 =>
      Option.bind (fX10_setMember x4_8 (1 : Int32) (oI b) Z_9) fun Z_10 =>
      Option.bind (fX10_setMember x4_8 (2 : Int32) (oI c) Z_10) fun Z_11 =>
      Option.bind (fX10_setMember x4_8 (3 : Int32) (0 : Int32) Z_11) fun Z_12 =>
      Option.bind (fX10_setMember x4_8 (5 : Int32) (-1 : Int32) Z_12) fun Z_13 =>
      ltb (wI Z_13 27 0 0 (7 : Int32).toNatClampNeg ((Z_13.1 27 0 0 (7 : Int32).toNatClampNeg) + (1 : Int32))) fun Z_16 =>
      Option.bind (fX10_goesThrough Z_16) fun Z_17 =>
      some (x4_8, Z_17)) := by
      rw [fX10_join, e0, e7, oI_L (by omega) (by omega), oI_L (by omega) (by omega), kL_1, isIn_t _ (by omega) (by omega) (by omega), bd_eq, ltb_eq, ltb_eq, if_neg one_ne, oI_L (by omega) (by omega), isIn_t _ (by omega) (by omega) (by omega), bd_eq, if_neg one_ne, oI_L (by omega) (by omega), kL_0, kL_9, isIn_t _ (by omega) (by omega) (by omega), bd_eq, if_neg one_ne]
      by_cases e : N = 16
      · rw [if_pos (by simp (disch := omega) only [kI_0, kI_1, kI_2, kI_3, kI_4, kI_5, kI_6, kI_7, kI_8, kI_9, kI_10, kI_12, kI_16, kI_17, kI_19, kI_20, kI_23, kI_24, kI_30, kI_32, kI_36, kI_48, kI_57, kI_59, kI_60, kI_72, kI_80, kI_84, kI_97, kI_98, kI_100, kI_122, kI_148, kI_200, kI_300, kI_1058, kI_1108, kI_1348, kI_1588, kI_5290, kI_7940, kI_100000, kI_e7, kI_e9, kL_0, kL_1, kL_5, kL_9, kL_10, kL_12, kL_23, kL_30, kL_48, kL_57, kL_59, kL_97, kL_100, kL_122, kL_1000, kL_e7, kL_e9, kL_e10, oI_lt, oI_le, oI_eq, oL_lt, oL_le, oL_eq, oI_L, oI_clamp, oI_inb, oL_nz]; omega), if_pos e]
        dsimp only
        rw [ltb_eq, thr_no (by decide)]
        all_goals rfl
      · rw [if_neg (by simp (disch := omega) only [kI_0, kI_1, kI_2, kI_3, kI_4, kI_5, kI_6, kI_7, kI_8, kI_9, kI_10, kI_12, kI_16, kI_17, kI_19, kI_20, kI_23, kI_24, kI_30, kI_32, kI_36, kI_48, kI_57, kI_59, kI_60, kI_72, kI_80, kI_84, kI_97, kI_98, kI_100, kI_122, kI_148, kI_200, kI_300, kI_1058, kI_1108, kI_1348, kI_1588, kI_5290, kI_7940, kI_100000, kI_e7, kI_e9, kL_0, kL_1, kL_5, kL_9, kL_10, kL_12, kL_23, kL_30, kL_48, kL_57, kL_59, kL_97, kL_100, kL_122, kL_1000, kL_e7, kL_e9, kL_e10, oI_lt, oI_le, oI_eq, oL_lt, oL_le, oL_eq, oI_L, oI_clamp, oI_inb, oL_nz]; omega), if_neg e]
        dsimp only
        rw [ltb_eq, thr_yes]
        rfl
    have eA : fX9_join (oI a) (oI b) (oI c) A = if N = 16 then some (.inl 2, A) else (Option.bind (fX6_keep A) fun A_1 =>
                bd2 (fX0_enrol 0 (oI a) (oI b) (oI c) A_1) fun r_4 A_3 =>
                some (.inr r_4, A_3)) := by
      rw [fX9_join, hS.g (by omega), hS.cnt, if_neg (by simp (disch := omega) only [kI_0, kI_1, kI_2, kI_3, kI_4, kI_5, kI_6, kI_7, kI_8, kI_9, kI_10, kI_12, kI_16, kI_17, kI_19, kI_20, kI_23, kI_24, kI_30, kI_32, kI_36, kI_48, kI_57, kI_59, kI_60, kI_72, kI_80, kI_84, kI_97, kI_98, kI_100, kI_122, kI_148, kI_200, kI_300, kI_1058, kI_1108, kI_1348, kI_1588, kI_5290, kI_7940, kI_100000, kI_e7, kI_e9, kL_0, kL_1, kL_5, kL_9, kL_10, kL_12, kL_23, kL_30, kL_48, kL_57, kL_59, kL_97, kL_100, kL_122, kL_1000, kL_e7, kL_e9, kL_e10, oI_lt, oI_le, oI_eq, oL_lt, oL_le, oL_eq, oI_L, oI_clamp, oI_inb, oL_nz]; omega), if_pos (by simp (disch := omega) only [kI_0, kI_1, kI_2, kI_3, kI_4, kI_5, kI_6, kI_7, kI_8, kI_9, kI_10, kI_12, kI_16, kI_17, kI_19, kI_20, kI_23, kI_24, kI_30, kI_32, kI_36, kI_48, kI_57, kI_59, kI_60, kI_72, kI_80, kI_84, kI_97, kI_98, kI_100, kI_122, kI_148, kI_200, kI_300, kI_1058, kI_1108, kI_1348, kI_1588, kI_5290, kI_7940, kI_100000, kI_e7, kI_e9, kL_0, kL_1, kL_5, kL_9, kL_10, kL_12, kL_23, kL_30, kL_48, kL_57, kL_59, kL_97, kL_100, kL_122, kL_1000, kL_e7, kL_e9, kL_e10, oI_lt, oI_le, oI_eq, oL_lt, oL_le, oL_eq, oI_L, oI_clamp, oI_inb, oL_nz]; omega), if_neg (by simp (disch := omega) only [kI_0, kI_1, kI_2, kI_3, kI_4, kI_5, kI_6, kI_7, kI_8, kI_9, kI_10, kI_12, kI_16, kI_17, kI_19, kI_20, kI_23, kI_24, kI_30, kI_32, kI_36, kI_48, kI_57, kI_59, kI_60, kI_72, kI_80, kI_84, kI_97, kI_98, kI_100, kI_122, kI_148, kI_200, kI_300, kI_1058, kI_1108, kI_1348, kI_1588, kI_5290, kI_7940, kI_100000, kI_e7, kI_e9, kL_0, kL_1, kL_5, kL_9, kL_10, kL_12, kL_23, kL_30, kL_48, kL_57, kL_59, kL_97, kL_100, kL_122, kL_1000, kL_e7, kL_e9, kL_e10, oI_lt, oI_le, oI_eq, oL_lt, oL_le, oL_eq, oI_L, oI_clamp, oI_inb, oL_nz]; omega), if_pos (by simp (disch := omega) only [kI_0, kI_1, kI_2, kI_3, kI_4, kI_5, kI_6, kI_7, kI_8, kI_9, kI_10, kI_12, kI_16, kI_17, kI_19, kI_20, kI_23, kI_24, kI_30, kI_32, kI_36, kI_48, kI_57, kI_59, kI_60, kI_72, kI_80, kI_84, kI_97, kI_98, kI_100, kI_122, kI_148, kI_200, kI_300, kI_1058, kI_1108, kI_1348, kI_1588, kI_5290, kI_7940, kI_100000, kI_e7, kI_e9, kL_0, kL_1, kL_5, kL_9, kL_10, kL_12, kL_23, kL_30, kL_48, kL_57, kL_59, kL_97, kL_100, kL_122, kL_1000, kL_e7, kL_e9, kL_e10, oI_lt, oI_le, oI_eq, oL_lt, oL_le, oL_eq, oI_L, oI_clamp, oI_inb, oL_nz]; omega), if_neg (by simp (disch := omega) only [kI_0, kI_1, kI_2, kI_3, kI_4, kI_5, kI_6, kI_7, kI_8, kI_9, kI_10, kI_12, kI_16, kI_17, kI_19, kI_20, kI_23, kI_24, kI_30, kI_32, kI_36, kI_48, kI_57, kI_59, kI_60, kI_72, kI_80, kI_84, kI_97, kI_98, kI_100, kI_122, kI_148, kI_200, kI_300, kI_1058, kI_1108, kI_1348, kI_1588, kI_5290, kI_7940, kI_100000, kI_e7, kI_e9, kL_0, kL_1, kL_5, kL_9, kL_10, kL_12, kL_23, kL_30, kL_48, kL_57, kL_59, kL_97, kL_100, kL_122, kL_1000, kL_e7, kL_e9, kL_e10, oI_lt, oI_le, oI_eq, oL_lt, oL_le, oL_eq, oI_L, oI_clamp, oI_inb, oL_nz]; omega), if_pos (by simp (disch := omega) only [kI_0, kI_1, kI_2, kI_3, kI_4, kI_5, kI_6, kI_7, kI_8, kI_9, kI_10, kI_12, kI_16, kI_17, kI_19, kI_20, kI_23, kI_24, kI_30, kI_32, kI_36, kI_48, kI_57, kI_59, kI_60, kI_72, kI_80, kI_84, kI_97, kI_98, kI_100, kI_122, kI_148, kI_200, kI_300, kI_1058, kI_1108, kI_1348, kI_1588, kI_5290, kI_7940, kI_100000, kI_e7, kI_e9, kL_0, kL_1, kL_5, kL_9, kL_10, kL_12, kL_23, kL_30, kL_48, kL_57, kL_59, kL_97, kL_100, kL_122, kL_1000, kL_e7, kL_e9, kL_e10, oI_lt, oI_le, oI_eq, oL_lt, oL_le, oL_eq, oI_L, oI_clamp, oI_inb, oL_nz]; omega)]
      by_cases e : N = 16
      · rw [if_neg (by simp (disch := omega) only [kI_0, kI_1, kI_2, kI_3, kI_4, kI_5, kI_6, kI_7, kI_8, kI_9, kI_10, kI_12, kI_16, kI_17, kI_19, kI_20, kI_23, kI_24, kI_30, kI_32, kI_36, kI_48, kI_57, kI_59, kI_60, kI_72, kI_80, kI_84, kI_97, kI_98, kI_100, kI_122, kI_148, kI_200, kI_300, kI_1058, kI_1108, kI_1348, kI_1588, kI_5290, kI_7940, kI_100000, kI_e7, kI_e9, kL_0, kL_1, kL_5, kL_9, kL_10, kL_12, kL_23, kL_30, kL_48, kL_57, kL_59, kL_97, kL_100, kL_122, kL_1000, kL_e7, kL_e9, kL_e10, oI_lt, oI_le, oI_eq, oL_lt, oL_le, oL_eq, oI_L, oI_clamp, oI_inb, oL_nz]; omega), if_pos e]
      · rw [if_pos (by simp (disch := omega) only [kI_0, kI_1, kI_2, kI_3, kI_4, kI_5, kI_6, kI_7, kI_8, kI_9, kI_10, kI_12, kI_16, kI_17, kI_19, kI_20, kI_23, kI_24, kI_30, kI_32, kI_36, kI_48, kI_57, kI_59, kI_60, kI_72, kI_80, kI_84, kI_97, kI_98, kI_100, kI_122, kI_148, kI_200, kI_300, kI_1058, kI_1108, kI_1348, kI_1588, kI_5290, kI_7940, kI_100000, kI_e7, kI_e9, kL_0, kL_1, kL_5, kL_9, kL_10, kL_12, kL_23, kL_30, kL_48, kL_57, kL_59, kL_97, kL_100, kL_122, kL_1000, kL_e7, kL_e9, kL_e10, oI_lt, oI_le, oI_eq, oL_lt, oL_le, oL_eq, oI_L, oI_clamp, oI_inb, oL_nz]; omega), if_neg e]
    by_cases e : N = 16
    · exact OKI.t (r := 2) (v := 0) hI (by rw [fL_join, eA, if_pos e]; rfl) (by rw [eZ, if_pos e]; rfl) (thr_g _ _) (by decide) (Fr.refl _) (frT Z _)
    · obtain ⟨A1, Z1, k1, k2, k3, k4, k5, k6, k7⟩ := keep0 ⟨hS, hZ, hW⟩ hR
      have hW1 : WF (n + 1) (nwS s N a b c) (N + 1) := WF_nw (hW.mono (by omega)) (by omega) ha hb hc
      obtain ⟨A2, p1, p2, p3⟩ := bgn (a := a) (b := b) (c := c) k3 hW (by omega)
      obtain ⟨A3, u1, u2, u3⟩ := gtA p2 hW1
      have z1 := k4.wB (i0 := N) (w0 := 0) (v := a) (by omega) (by omega)
      have z2 := z1.wB (i0 := N) (w0 := 1) (v := b) (by omega) (by omega)
      have z3 := z2.wB (i0 := N) (w0 := 2) (v := c) (by omega) (by omega)
      have z4 := z3.wB (i0 := N) (w0 := 3) (v := ((0 : Nat) : Int)) (by omega) (by omega)
      have z5 := z4.wB (i0 := N) (w0 := 5) (v := -1) (by omega) (by omega)
      have z6 := z5.wG (k0 := 7) (v := (N + 1 : Nat)) (by omega)
      obtain ⟨Z3, v1, v2, v3⟩ := gtZ (s := nwS s N a b c) z6 hW1
      have k7' : Z1.1 27 0 0 (7 : Int32).toNatClampNeg = oI N := (k4.g (k := 7) (by omega)).trans (by rw [g7])
      have hb2 : fX0_enrol 0 (oI a) (oI b) (oI c) A1 = some (oI N, A3) := by
        rw [fX0_enrol, k3.cnt, ltb_eq, if_neg (by simp (disch := omega) only [kI_0, kI_1, kI_2, kI_3, kI_4, kI_5, kI_6, kI_7, kI_8, kI_9, kI_10, kI_12, kI_16, kI_17, kI_19, kI_20, kI_23, kI_24, kI_30, kI_32, kI_36, kI_48, kI_57, kI_59, kI_60, kI_72, kI_80, kI_84, kI_97, kI_98, kI_100, kI_122, kI_148, kI_200, kI_300, kI_1058, kI_1108, kI_1348, kI_1588, kI_5290, kI_7940, kI_100000, kI_e7, kI_e9, kL_0, kL_1, kL_5, kL_9, kL_10, kL_12, kL_23, kL_30, kL_48, kL_57, kL_59, kL_97, kL_100, kL_122, kL_1000, kL_e7, kL_e9, kL_e10, oI_lt, oI_le, oI_eq, oL_lt, oL_le, oL_eq, oI_L, oI_clamp, oI_inb, oL_nz]; omega), oI_inb (by omega) (by omega) (by omega), gd_true, oI_clamp (by omega) (by omega), cl_nat]
        cases hq : fX8_begin (16 * 0 + N) (oI a) (oI b) (oI c) A1 with
        | none => rw [hq] at p3; cases p3
        | some A9 =>
          rw [hq, bd_eq] at p3
          rw [bd_eq, ltb_eq, Option.some.inj p3, u3, bd_eq]
      rw [if_neg e, k1, bd_eq, hb2, bd2_eq] at eA
      have e77 : (wI (wI (wI (wI (wI Z1 27 0 0 (36 + 7 * N + 0) (oI a)) 27 0 0 (36 + 7 * N + 1) (oI b)) 27 0 0 (36 + 7 * N + 2) (oI c)) 27 0 0 (36 + 7 * N + 3) (oI (0 : Nat))) 27 0 0 (36 + 7 * N + 5) (oI (-1))).1 27 0 0 7 = oI N := by
        rw [wI_1, if_neg (by omega), wI_1, if_neg (by omega), wI_1, if_neg (by omega), wI_1, if_neg (by omega), wI_1, if_neg (by omega)]; exact k7'
      rw [if_neg e, k2, bd_eq, k7', ltb_eq, show (0 : Int32) = oI (0 : Nat) from rfl, setM (by omega) (by omega), bd_eq, show (1 : Int32) = oI (1 : Nat) from rfl, setM (by omega) (by omega), bd_eq, show (2 : Int32) = oI (2 : Nat) from rfl, setM (by omega) (by omega), bd_eq, show (3 : Int32) = oI (3 : Nat) from rfl, setM (v := ((0 : Nat) : Int)) (by omega) (by omega), bd_eq, show (5 : Int32) = oI (5 : Nat) from rfl, show (-oI (1 : Nat) : Int32) = oI (-1) from rfl, setM (by omega) (by omega), bd_eq, ltb_eq, show (7 : Int32).toNatClampNeg = 7 from rfl, e77, oI_add, show ((N : Int) + (1 : Nat)) = ((N + 1 : Nat) : Int) from rfl, v3, bd_eq] at eZ
      exact OKI.m (v := oI N) k5 (by rw [fL_join, eA]; rfl) eZ (by
        rw [v1.i rfl, wI_1, if_neg (by omega), wI_1, if_neg (by omega), wI_1, if_neg (by omega), wI_1, if_neg (by omega), wI_1, if_neg (by omega), wI_1, if_neg (by omega)]; exact k6) (p1.trans (m8_mv u1)) (Fr.trans ((((((Fr.refl _).wI rfl).wI rfl).wI rfl).wI rfl).wI rfl |>.wI rfl) (m27_mv v1)) u2 v2 (WF_gth hW1)
  · refine OKI.t (r := 1) (v := 0) hI ?_ ?_ (thr_g Z _) (by decide) (Fr.refl _) (frT Z _)
    · have e9 : fX9_join (oI a) (oI b) (oI c) A = some (.inl 1, A) := by
        rw [fX9_join, hS.g (by omega)]
        simp (disch := omega) only [kI_0, kI_1, kI_2, kI_3, kI_4, kI_5, kI_6, kI_7, kI_8, kI_9, kI_10, kI_12, kI_16, kI_17, kI_19, kI_20, kI_23, kI_24, kI_30, kI_32, kI_36, kI_48, kI_57, kI_59, kI_60, kI_72, kI_80, kI_84, kI_97, kI_98, kI_100, kI_122, kI_148, kI_200, kI_300, kI_1058, kI_1108, kI_1348, kI_1588, kI_5290, kI_7940, kI_100000, kI_e7, kI_e9, kL_0, kL_1, kL_5, kL_9, kL_10, kL_12, kL_23, kL_30, kL_48, kL_57, kL_59, kL_97, kL_100, kL_122, kL_1000, kL_e7, kL_e9, kL_e10, oI_lt, oI_le, oI_eq, oL_lt, oL_le, oL_eq, oI_L, oI_clamp, oI_inb, oL_nz]
        by_cases q1 : a < 1
        · rw [if_pos q1]
        · rw [if_neg q1]
          by_cases q2 : a ≤ sG s 0
          · rw [if_pos q2]
            by_cases q3 : b < 1
            · rw [if_pos q3]
            · rw [if_neg q3]
              by_cases q4 : b ≤ a
              · rw [if_pos q4]
                by_cases q5 : c < 0
                · rw [if_pos q5]
                · rw [if_neg q5, if_neg (by omega)]
              · rw [if_neg q4]
          · rw [if_neg q2]
      rw [fL_join, e9]
      rfl
    · rw [fX10_join, e0, oI_L (by omega) (by omega), oI_L (by omega) (by omega), kL_1]
      by_cases q1 : 1 ≤ a ∧ a ≤ sG s 0
      · rw [isIn_t _ (by omega) (by omega) (by omega), bd_eq, ltb_eq, ltb_eq, if_neg one_ne, oI_L (by omega) (by omega)]
        by_cases q2 : 1 ≤ b ∧ b ≤ a
        · rw [isIn_t _ (by omega) (by omega) (by omega), bd_eq, if_neg one_ne, oI_L (by omega) (by omega), kL_0, kL_9, isIn_f _ (by omega) (by omega) (by omega) (by omega) (by omega) (by omega) (by omega), bd_eq, if_pos nul_eq]
          dsimp only
          rw [ltb_eq, thr_no (by decide)]
          all_goals rfl
        · rw [isIn_f _ (by omega) (by omega) (by omega) (by omega) (by omega) (by omega) (by omega), bd_eq, if_pos nul_eq]
          dsimp only
          rw [ltb_eq, thr_no (by decide)]
          all_goals rfl
      · rw [isIn_f _ (by omega) (by omega) (by omega) (by omega) (by omega) (by omega) (by omega), bd_eq, ltb_eq, ltb_eq, if_pos nul_eq]
        dsimp only
        rw [ltb_eq, thr_no (by decide)]
        all_goals rfl
theorem case5 : CaseOK fL_case5 := by
  intro n L A Z xs x4 hn hI hin
  obtain ⟨_, i1, i2, i3, i4, i5⟩ := hin
  rw [fL_case5]
  simp only [i1, i2, i3, i4, i5, gd_true]
  exact OKI.c (jon hI _ _ _)
