section
variable {A Z : sM} {s : sS} {N n i : Nat}
theorem enB_w (B : Nat → Nat → Int) (i k : Nat) {j w : Nat} (h : ¬ w = 5) : enB B i k j w = B j w := by rw [enB, if_neg (fun q => h q.1)]
theorem lvB_n {j w : Nat} (h : ¬ (j = i ∧ (w = 3 ∨ w = 4 ∨ w = 5))) : lvB s i j w = sB s j w := by
  rw [lvB, up2_n _ _ (by omega), up2_n _ _ (by omega), up2_n _ _ (by omega)]
theorem lvB_3 : lvB s i i 3 = 2 := by rw [lvB, up2_n _ _ (by omega), up2_n _ _ (by omega), up2_s]
theorem lvB_4 : lvB s i i 4 = 0 := by rw [lvB, up2_n _ _ (by omega), up2_s]
theorem lvB_5 : lvB s i i 5 = -1 := by rw [lvB, up2_s]
theorem lvA_n {j w : Nat} (h : ¬ (j = i ∧ w < 4)) : lvA s i j w = sA s j w := by
  rw [lvA, up2_n _ _ (by omega), up2_n _ _ (by omega), up2_n _ _ (by omega), up2_n _ _ (by omega)]
theorem lvA_0 : lvA s i i 0 = 0 := by rw [lvA, up2_n _ _ (by omega), up2_n _ _ (by omega), up2_n _ _ (by omega), up2_s]
theorem lvA_1 : lvA s i i 1 = 0 := by rw [lvA, up2_n _ _ (by omega), up2_s]
theorem lvA_3 : lvA s i i 3 = lvY s i := by rw [lvA, up2_s]
def LvB (s : sS) (i : Nat) : Prop := (0 ≤ bal s i ∧ bal s i ≤ 76000000000000) ∧ (0 ≤ sA s i 0 ∧ sA s i 0 ≤ 200000000000000000) ∧ (0 ≤ lvU s i ∧ lvU s i ≤ sA s i 0 ∧ lvU s i ≤ bal s i) ∧ (0 ≤ lvX s i ∧ lvX s i ≤ bal s i) ∧ (0 ≤ lvX s i * sG s 2 ∧ lvX s i * sG s 2 ≤ 7600000000000000) ∧ (0 ≤ lvY s i ∧ lvY s i ≤ lvX s i)
theorem lv_bd (hn : n ≤ 512) (hW : WF n s N) (hi : i < N) : LvB s i := by
  obtain ⟨w1, w2, w3, w4, w5, w6, w7, w8⟩ := id hW
  obtain ⟨g0, g1, g2, g3, g4, g5, g6, g7, hN⟩ := id w1
  have hb := (bal_bd w7 w8 w2 w6 hn (show i < 16 by omega)).1
  have hd := (debt_bd w7 w8 w2 w6 hn (show i < 16 by omega)).1
  have hm := mn_le (sA s i 0) (bal s i)
  have hu : 0 ≤ lvU s i := by rcases mn_or (sA s i 0) (bal s i) with q | q <;> rw [lvU, q] <;> omega
  have hx : 0 ≤ lvX s i ∧ lvX s i ≤ bal s i := by
    have : lvU s i ≤ bal s i := hm.2
    simp only [lvX]; omega
  have hp : 0 ≤ lvX s i * sG s 2 ∧ lvX s i * sG s 2 ≤ lvX s i * 100 := ⟨Int.mul_nonneg hx.1 g2.1, Int.mul_le_mul_of_nonneg_left g2.2 hx.1⟩
  exact ⟨hb, hd, ⟨hu, hm.1, hm.2⟩, hx, ⟨hp.1, by omega⟩, by rw [lvY]; omega⟩
theorem WF_lv (hn : n ≤ 512) (hW : WF n s N) (hi : i < N) : WF n (lvS s N i) N := by
  obtain ⟨w1, w2, w3, w4, w5, w6, w7, w8⟩ := id hW
  obtain ⟨g0, g1, g2, g3, g4, g5, g6, g7, hN⟩ := id w1
  obtain ⟨hb, hd, hu, hx, hp, hy⟩ := lv_bd hn hW hi
  have b9 : ∀ j w, ¬ (j = i ∧ (w = 3 ∨ w = 4 ∨ w = 5)) → ¬ w = 5 → enB (lvB s i) i N j w = sB s j w := fun j w h h5 => by rw [enB_w _ _ _ h5, lvB_n h]
  have b3 : enB (lvB s i) i N i 3 = 2 := by rw [enB_w _ _ _ (by omega), lvB_3]
  have b4 : enB (lvB s i) i N i 4 = 0 := by rw [enB_w _ _ _ (by omega), lvB_4]
  have b5 : ∀ j, j < N → ¬ enB (lvB s i) i N j 5 = -1 → ¬ j = i ∧ ¬ sB s j 5 = (i : Int) ∧ enB (lvB s i) i N j 5 = sB s j 5 := fun j hj q => by
    have e1 : ¬ j = i := fun e => q (by rw [e, enB]; split; rfl; exact lvB_5)
    have e2 : lvB s i j 5 = sB s j 5 := lvB_n (by omega)
    by_cases e3 : sB s j 5 = (i : Int)
    · exact absurd (by rw [enB, if_pos ⟨rfl, hj, by rw [e2, e3]⟩]) q
    · exact ⟨e1, e3, by rw [enB, if_neg (fun q => e3 (e2 ▸ q.2.2)), e2]⟩
  refine ⟨w1, w2, ⟨fun j hj => ?_, fun j hj => ?_, fun j hj q => ?_, fun j hj q => ?_, fun j h1 h2 => ?_, ?_⟩, ⟨fun j hj => ?_, ?_⟩, w5, w6, ⟨fun j hj => ?_, fun j h1 h2 => ?_, fun j hj q => ?_, fun j m hj hm q => ?_⟩, ?_, ?_⟩
  · have h9 := w3.1 j hj
    show (1 ≤ enB (lvB s i) i N j 0 ∧ enB (lvB s i) i N j 0 ≤ sG s 0) ∧ (1 ≤ enB (lvB s i) i N j 1 ∧ enB (lvB s i) i N j 1 ≤ enB (lvB s i) i N j 0) ∧ (0 ≤ enB (lvB s i) i N j 2 ∧ enB (lvB s i) i N j 2 ≤ 9) ∧ (0 ≤ enB (lvB s i) i N j 3 ∧ enB (lvB s i) i N j 3 ≤ 2)
    rw [b9 j 0 (by omega) (by omega), b9 j 1 (by omega) (by omega), b9 j 2 (by omega) (by omega)]
    refine ⟨h9.1, h9.2.1, h9.2.2.1, ?_⟩
    by_cases e : j = i
    · rw [e, b3]; omega
    · rw [b9 j 3 (by omega) (by omega)]; exact h9.2.2.2
  · show 0 ≤ enB (lvB s i) i N j 4
    by_cases e : j = i
    · rw [e, b4]; omega
    · rw [b9 j 4 (by omega) (by omega)]; exact w3.2.1 j hj
  · have q' : enB (lvB s i) i N j 3 = 1 := q
    show 1 ≤ enB (lvB s i) i N j 4
    by_cases e : j = i
    · rw [e, b3] at q'; omega
    · rw [b9 j 3 (by omega) (by omega)] at q'
      rw [b9 j 4 (by omega) (by omega)]; exact w3.2.2.1 j hj q'
  · have q' : ¬ enB (lvB s i) i N j 3 = 1 := q
    show enB (lvB s i) i N j 4 = 0
    by_cases e : j = i
    · rw [e, b4]
    · rw [b9 j 3 (by omega) (by omega)] at q'
      rw [b9 j 4 (by omega) (by omega)]; exact w3.2.2.2.1 j hj q'
  · show enB (lvB s i) i N j 4 = 0
    rw [b9 j 4 (by omega) (by omega)]; exact w3.2.2.2.2.1 j h1 h2
  · show sumN (fun j => enB (lvB s i) i N j 4) N ≤ sG s 0
    have h9 := w3.2.2.2.2.2
    have h8 := w3.2.1 i (by omega)
    rw [sumN_up (f := fun j => sB s j 4) hi (fun j hj hn => b9 j 4 (by omega) (by omega)), b4]
    omega
  · show enB (lvB s i) i N j 5 = -1 ∨ (enB (lvB s i) i N j 3 = 1 ∧ ∃ t : Nat, t < N ∧ enB (lvB s i) i N j 5 = t ∧ enB (lvB s i) i N t 3 = 1 ∧ 1 ≤ enB (lvB s i) i N j 6 ∧ enB (lvB s i) i N j 6 ≤ 100)
    by_cases q : enB (lvB s i) i N j 5 = -1
    · exact Or.inl q
    · obtain ⟨q1, q2, q3⟩ := b5 j hj q
      rcases w4.1 j hj with e | ⟨e1, t, ht, e2, e3, e4⟩
      · exact absurd (q3.trans e) q
      · have ht2 : ¬ t = i := fun e => q2 (by rw [e2, e])
        exact Or.inr ⟨by rw [b9 j 3 (by omega) (by omega)]; exact e1, t, ht, q3.trans e2, by rw [b9 t 3 (by omega) (by omega)]; exact e3, by rw [b9 j 6 (by omega) (by omega)]; exact e4⟩
  · obtain ⟨d, hd9⟩ := w4.2
    refine ⟨d, fun j t hj ht q => ?_⟩
    have q' : enB (lvB s i) i N j 5 = (t : Int) := q
    exact hd9 j t hj ht ((b5 j hj (by omega)).2.2.symm.trans q')
  · have h9 := w7.1 j hj
    show 0 ≤ lvA s i j 0 ∧ 0 ≤ lvA s i j 1 ∧ lvA s i j 1 ≤ 10000000000 ∧ ∀ m, m < 60 → 0 ≤ cl0 (sT s) i 60 j m
    by_cases e : j = i
    · rw [e, lvA_0, lvA_1]
      exact ⟨by omega, by omega, by omega, fun m hm => by rw [cl0, if_pos ⟨rfl, hm⟩]; omega⟩
    · rw [lvA_n (by omega), lvA_n (by omega)]
      exact ⟨h9.1, h9.2.1, h9.2.2.1, fun m hm => by rw [cl0, if_neg (by omega)]; exact h9.2.2.2 m hm⟩
  · have h9 := w7.2.1 j h1 h2
    refine ⟨fun w hw => ?_, fun m hm => ?_⟩
    · show lvA s i j w = 0
      rw [lvA_n (by omega)]; exact h9.1 w hw
    · show cl0 (sT s) i 60 j m = 0
      rw [cl0, if_neg (by omega)]; exact h9.2 m hm
  · have q' : ¬ enB (lvB s i) i N j 3 = 1 := q
    show lvA s i j 0 = 0 ∧ lvA s i j 1 = 0 ∧ (∀ m, m < 60 → cl0 (sT s) i 60 j m = 0) ∧ (enB (lvB s i) i N j 3 = 0 → lvA s i j 3 = 0)
    by_cases e : j = i
    · rw [e, lvA_0, lvA_1, b3]
      exact ⟨rfl, rfl, fun m hm => by rw [cl0, if_pos ⟨rfl, hm⟩], fun e => by omega⟩
    · rw [b9 j 3 (by omega) (by omega)] at q'
      have h9 := w7.2.2.1 j hj q'
      rw [lvA_n (by omega), lvA_n (by omega), lvA_n (by omega), b9 j 3 (by omega) (by omega)]
      exact ⟨h9.1, h9.2.1, fun m hm => by rw [cl0, if_neg (by omega)]; exact h9.2.2.1 m hm, h9.2.2.2⟩
  · show cl0 (sT s) i 60 j m = 0
    rw [cl0]
    by_cases e : j = i ∧ m < 60
    · rw [if_pos e]
    · rw [if_neg e]; exact w7.2.2.2 j m hj hm q
  · have h9 := w8.1
    show 2 * (if 0 ≤ up1 (sF s) 0 (lvF s i) 0 then up1 (sF s) 0 (lvF s i) 0 else 0) + 2 * sumN (bal (lvS s N i)) 16 + sumN (pot s) 240 ≤ _
    rw [up1_s, sumN_up (f := bal s) (g := bal (lvS s N i)) (show i < 16 by omega) (fun j hj hn => sumN_congr fun m hm => by
      show cl0 (sT s) i 60 j m = _
      rw [cl0, if_neg (by omega)]), show bal (lvS s N i) i = 0 from sumN_zero fun m hm => by
      show cl0 (sT s) i 60 i m = _
      rw [cl0, if_pos ⟨rfl, hm⟩]]
    have e1 : lvF s i ≤ sF s 0 + bal s i := by simp only [lvF]; omega
    split at h9 <;> split <;> omega
  · have h9 := w8.2
    show _ ≤ up1 (sF s) 0 (lvF s i) 0 - sumN (fun j => lvA s i j 0) 16
    rw [up1_s, sumN_up (f := fun j => sA s j 0) (show i < 16 by omega) (fun j hj hn => lvA_n (by omega)), lvA_0]
    have e1 : sF s 0 - sA s i 0 ≤ lvF s i := by simp only [lvF]; omega
    omega
theorem clA (hS : SR A 0 s N) (hB : LvB s i) (g2 : 0 ≤ sG s 2 ∧ sG s 2 ≤ 100) (hi : i < N) : fX8_closeAccounts (16 * 0 + i) (oI (sG s 2)) A = some (oL ((lvX s i - lvY s i) - (sA s i 0 - lvU s i)), wL (wL (wL (wL (fL A 25 (16 * 0 + i) 72 (oL 0)) 26 0 (16 * 0 + i) 0 (oL 0)) 26 0 (16 * 0 + i) 2 (oL (sA s i 2 + sA s i 1))) 26 0 (16 * 0 + i) 1 (oL 0)) 26 0 (16 * 0 + i) 3 (oL (lvY s i))) := by
  obtain ⟨hb, hd, hu, hx, hp, hy⟩ := hB
  have eU : (if oL (sA s i 0) < oL (bal s i) then oL (sA s i 0) else oL (bal s i)) = oL (lvU s i) := by
    simp (disch := omega) only [oL_lt]; rw [lvU, mn]; split <;> rfl
  have h2 := hS.fT (i0 := i)
  have h3 := h2.wA (i0 := i) (w0 := 0) (v := 0) hi (by omega)
  have e2 : (wL (fL A 25 (16 * 0 + i) 72 (oL 0)) 26 0 (16 * 0 + i) 0 (oL 0)).2 26 0 (16 * 0 + i) 2 = oL (sA s i 2) := (h3.ac hi (by omega)).trans (by
    show oL (up2 (sA s) i 0 0 i 2) = _
    rw [up2_n _ _ (by omega)])
  have e1 : (wL (fL A 25 (16 * 0 + i) 72 (oL 0)) 26 0 (16 * 0 + i) 0 (oL 0)).2 26 0 (16 * 0 + i) 1 = oL (sA s i 1) := (h3.ac hi (by omega)).trans (by
    show oL (up2 (sA s) i 0 0 i 1) = _
    rw [up2_n _ _ (by omega)])
  rw [fX8_closeAccounts, lotSumS hS hi, bd_eq, tn_0, tn_1, tn_2, tn_3, hS.ac hi (w := 0) (by omega), ltb_eq, eU, ltb_eq, oL_sub, ltb_eq, oL_sub, ltb_eq, oI_L (by omega) (by omega), oL_mul, kL_100, show oL ((bal s i - lvU s i) * sG s 2) / oL 100 = oL (lvY s i) from oL_div hp.1 (by have := hp.2; simp only [lvX] at this; omega) (by omega) (by omega), kL_0, ltb_eq, ltb_eq, e2, e1, oL_add, ltb_eq, ltb_eq, ltb_eq, oL_sub, oL_sub]
  rfl
theorem lvr (h4 : W4 s N) (hi : i < N) : ∀ j, j < N → -1 ≤ lvB s i j 5 ∧ lvB s i j 5 < N := fun j hj => by
  by_cases e : j = i
  · rw [e, lvB_5]; omega
  · rw [lvB_n (by omega)]
    rcases h4.1 j hj with q | ⟨_, t, ht, q, _⟩ <;> rw [q] <;> omega
theorem lgA (hS : SR A 0 s N) (hW : WF n s N) (hn : n ≤ 512) (hi : i < N) (hac : sB s i 3 = 1) : ∃ A', Fr mvA A A' ∧ SR A' 0 (gth (lvS s N i) N) N ∧ A'.2 26 0 (16 * 0 + i) 3 = oL (lvY s i) ∧ fX0_letGo 0 (oI i) A = some A' := by
  obtain ⟨w1, w2, w3, w4, w5, w6, w7, w8⟩ := id hW
  obtain ⟨g0, g1, g2, g3, g4, g5, g6, g7, hN⟩ := id w1
  have h1 := hS.wSt (i0 := i) (v := 2) hi
  have e1 := clA (A := wI A 8 0 (16 * 0 + i) 0 (oI 2)) (s := uB s (up2 (sB s) i 3 2)) h1 (show LvB s i from lv_bd hn hW hi) g2 hi
  have h2 := (((h1.fT (i0 := i)).wA (i0 := i) (w0 := 0) (v := 0) hi (by omega)).wA (i0 := i) (w0 := 2) (v := sA s i 2 + sA s i 1) hi (by omega)).wA (i0 := i) (w0 := 1) (v := 0) hi (by omega)
  have h3 := h2.wA (i0 := i) (w0 := 3) (v := lvY s i) hi (by omega)
  have h4 := ((h3.wF0 (z0 := 0) (v := lvF s i) rfl).wSh (i0 := i) (v := 0) hi).asg1 (i0 := i) hi
  obtain ⟨A1, u1, u2, u3⟩ := enA_L (s := (sG s, sH s, sRt s, lvB s i, sD s, sE s, sC s, up1 (sF s) 0 (lvF s i), lvA s i, cl0 (sT s) i 60)) hN hi (lvr w4 hi) 10000 0 _ (by omega) (by omega) (by rw [enB_0]; exact h4)
  have hS1 : SR A1 0 (lvS s N i) N := u2
  obtain ⟨A2, v1, v2, v3⟩ := gtA hS1 (WF_lv hn hW hi)
  have hmv : ∀ k, mvA 8 k (16 * 0 + i) = true := fun k => by simp [mvA]; omega
  have hm6 : mvA 26 0 (16 * 0 + i) = true := by simp [mvA]; omega
  have hm5 : mvA 25 0 (16 * 0 + i) = true := by simp [mvA]; omega
  refine ⟨A2, Fr.trans (Fr.trans ((((((((((((Fr.refl _).wI (hmv 0)).fL hm5).wL hm6).wL hm6).wL hm6).wL hm6).wL rfl).wI (hmv 4)).wI (hmv 5)).wI (hmv 6))) (m8_mv u1)) (m8_mv v1), v2, ?_, ?_⟩
  · rw [v1.l rfl, hS1.ac hi (by omega)]
    show oL (lvA s i i 3) = _
    rw [lvA_3]
  · rw [fX0_letGo, oI_inb (by omega) (by omega) (by omega), gd_true, oI_clamp (by omega) (by omega), cl_nat, actA hS w3 hi, bd_eq, if_pos hac, kI_2, ltb_eq, if_neg one_ne, h1.g (by omega)]
    refine Eq.trans (congrArg (fun x => bd2 x _) e1) ?_
    rw [bd2_eq, h1.fu, oL_add, ltb_eq, ltb_eq, fX0_endAssignments, oI_inb (by omega) (by omega) (by omega), gd_true, oI_clamp (by omega) (by omega), cl_nat, setA, bd_eq]
    refine Eq.trans (congrArg (fun x => Option.bind x _) u3) ?_
    rw [bd_eq, v3, bd_eq]
end
