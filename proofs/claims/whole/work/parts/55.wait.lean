/-! Going through the waiting list. -/
theorem mn_def (a b : Int) : mn a b = if a < b then a else b := rfl
theorem mn_assoc (a b c : Int) : mn a (mn b c) = mn (mn a b) c := by
  simp only [mn]
  repeat' split
  all_goals omega
def offer (s : sS) (N i : Nat) : Int := mn (sB s i 0) (mn (sG s 0 - sumN (fun j => sB s j 4) N) (most s))
def goS (s : sS) (N p i : Nat) : sS := if (sB s i 3 = 0 ∧ sB s i 2 = (p : Int)) ∧ sB s i 1 ≤ offer s N i then uB s (up2 (up2 (sB s) i 3 1) i 4 (offer s N i)) else s
def giR (N p : Nat) : Nat → Nat → sS → sS
  | 0, _, s => s
  | k + 1, i, s => giR N p k (i + 1) (goS s N p i)
def gpR (N : Nat) : Nat → sS → sS
  | 0, s => s
  | k + 1, s => gpR N k (giR N k N 0 s)
def gth (s : sS) (N : Nat) : sS := gpR N 10 s
section
variable {A Z : sM} {s : sS} {N n p i : Nat}
theorem offer_bd (h1 : W1 s N) (h3 : W3 s N) (hi : i < N) : 0 ≤ offer s N i ∧ offer s N i ≤ sB s i 0 ∧ offer s N i ≤ sG s 0 - sumN (fun j => sB s j 4) N ∧ offer s N i ≤ most s := by
  have hm := most_bd h1
  have hb := h3.1 i hi
  have h9 := h3.2.2.2.2.2
  rw [offer, mn, mn]
  split <;> split <;> omega
theorem WF_goS (hW : WF n s N) (hi : i < N) : WF n (goS s N p i) N := by
  obtain ⟨w1, w2, w3, w4, w5, w6, w7, w8⟩ := id hW
  have hN := w1.2.2.2.2.2.2.2.2
  rw [goS]
  split
  · rename_i hc
    obtain ⟨⟨c1, c2⟩, c3⟩ := hc
    have ho := offer_bd w1 w3 hi
    have hb := w3.1 i hi
    have f9 : ∀ j w, ¬ (j = i ∧ (w = 3 ∨ w = 4)) → up2 (up2 (sB s) i 3 1) i 4 (offer s N i) j w = sB s j w := fun j w h => by
      rw [up2_n _ _ (by omega), up2_n _ _ (by omega)]
    have f3 : up2 (up2 (sB s) i 3 1) i 4 (offer s N i) i 3 = 1 := by rw [up2_n _ _ (by omega), up2_s]
    have f4 : up2 (up2 (sB s) i 3 1) i 4 (offer s N i) i 4 = offer s N i := up2_s _ _ _ _
    have f31 : ∀ j, sB s j 3 = 1 → up2 (up2 (sB s) i 3 1) i 4 (offer s N i) j 3 = 1 := fun j hj => by
      by_cases e : j = i
      · rw [e]; exact f3
      · rw [f9 j 3 (by omega)]; exact hj
    have f30 : ∀ j, ¬ up2 (up2 (sB s) i 3 1) i 4 (offer s N i) j 3 = 1 → ¬ j = i ∧ ¬ sB s j 3 = 1 := fun j hj => by
      have : ¬ j = i := fun e => by rw [e] at hj; exact hj f3
      rw [f9 j 3 (by omega)] at hj
      exact ⟨this, hj⟩
    refine ⟨w1, w2, ⟨fun j hj => ?_, fun j hj => ?_, fun j hj q => ?_, fun j hj q => ?_, fun j h1 h2 => ?_, ?_⟩, ⟨fun j hj => ?_, ?_⟩, w5, w6, ⟨w7.1, w7.2.1, fun j hj q => ⟨(w7.2.2.1 j hj (f30 j q).2).1, (w7.2.2.1 j hj (f30 j q).2).2.1, (w7.2.2.1 j hj (f30 j q).2).2.2.1, fun e => (w7.2.2.1 j hj (f30 j q).2).2.2.2 ((f9 j 3 (by have := (f30 j q).1; omega)).symm.trans e)⟩, w7.2.2.2⟩, w8⟩
    · have h9 := w3.1 j hj
      show (1 ≤ up2 (up2 (sB s) i 3 1) i 4 (offer s N i) j 0 ∧ up2 (up2 (sB s) i 3 1) i 4 (offer s N i) j 0 ≤ sG s 0) ∧ (1 ≤ up2 (up2 (sB s) i 3 1) i 4 (offer s N i) j 1 ∧ up2 (up2 (sB s) i 3 1) i 4 (offer s N i) j 1 ≤ up2 (up2 (sB s) i 3 1) i 4 (offer s N i) j 0) ∧ (0 ≤ up2 (up2 (sB s) i 3 1) i 4 (offer s N i) j 2 ∧ up2 (up2 (sB s) i 3 1) i 4 (offer s N i) j 2 ≤ 9) ∧ (0 ≤ up2 (up2 (sB s) i 3 1) i 4 (offer s N i) j 3 ∧ up2 (up2 (sB s) i 3 1) i 4 (offer s N i) j 3 ≤ 2)
      rw [f9 j 0 (by omega), f9 j 1 (by omega), f9 j 2 (by omega)]
      refine ⟨h9.1, h9.2.1, h9.2.2.1, ?_⟩
      by_cases e : j = i
      · rw [e, f3]; omega
      · rw [f9 j 3 (by omega)]; exact h9.2.2.2
    · show 0 ≤ up2 (up2 (sB s) i 3 1) i 4 (offer s N i) j 4
      have := w3.2.1 j hj
      by_cases e : j = i
      · rw [e, f4]; omega
      · rw [f9 j 4 (by omega)]; exact this
    · show 1 ≤ up2 (up2 (sB s) i 3 1) i 4 (offer s N i) j 4
      by_cases e : j = i
      · rw [e, f4]; omega
      · have q' : up2 (up2 (sB s) i 3 1) i 4 (offer s N i) j 3 = 1 := q
        rw [f9 j 3 (by omega)] at q'
        rw [f9 j 4 (by omega)]; exact w3.2.2.1 j hj q'
    · have h9 := f30 j q
      show up2 (up2 (sB s) i 3 1) i 4 (offer s N i) j 4 = 0
      rw [f9 j 4 (by omega)]; exact w3.2.2.2.1 j hj h9.2
    · show up2 (up2 (sB s) i 3 1) i 4 (offer s N i) j 4 = 0
      rw [f9 j 4 (by omega)]; exact w3.2.2.2.2.1 j h1 h2
    · show sumN (fun j => up2 (up2 (sB s) i 3 1) i 4 (offer s N i) j 4) N ≤ sG s 0
      have h0 : sB s i 4 = 0 := w3.2.2.2.1 i hi (by omega)
      rw [sumN_up (f := fun j => sB s j 4) hi (fun j hj hn => f9 j 4 (by omega)), f4]
      omega
    · show up2 (up2 (sB s) i 3 1) i 4 (offer s N i) j 5 = -1 ∨ (up2 (up2 (sB s) i 3 1) i 4 (offer s N i) j 3 = 1 ∧ ∃ t : Nat, t < N ∧ up2 (up2 (sB s) i 3 1) i 4 (offer s N i) j 5 = t ∧ up2 (up2 (sB s) i 3 1) i 4 (offer s N i) t 3 = 1 ∧ 1 ≤ up2 (up2 (sB s) i 3 1) i 4 (offer s N i) j 6 ∧ up2 (up2 (sB s) i 3 1) i 4 (offer s N i) j 6 ≤ 100)
      rw [f9 j 5 (by omega), f9 j 6 (by omega)]
      rcases w4.1 j hj with q | ⟨q1, t, ht, q2, q3, q4⟩
      · exact Or.inl q
      · exact Or.inr ⟨f31 j q1, t, ht, q2, f31 t q3, q4⟩
    · obtain ⟨d, hd⟩ := w4.2
      refine ⟨d, fun j t hj ht q => hd j t hj ht ?_⟩
      have q' : up2 (up2 (sB s) i 3 1) i 4 (offer s N i) j 5 = (t : Int) := q
      rw [f9 j 5 (by omega)] at q'
      exact q'
  · exact hW
theorem WF_giR : ∀ {k i : Nat} {s : sS}, WF n s N → i + k ≤ N → WF n (giR N p k i s) N
  | 0, _, _, h, _ => h
  | k + 1, i, s, h, hk => by rw [giR]; exact WF_giR (k := k) (i := i + 1) (WF_goS h (by omega)) (by omega)
theorem WF_gpR : ∀ {k : Nat} {s : sS}, WF n s N → WF n (gpR N k s) N
  | 0, _, h => h
  | k + 1, s, h => by rw [gpR]; exact WF_gpR (k := k) (WF_giR h (by omega))
def m8 (c _ o : Nat) : Bool := c == 8 && decide (o < 16)
theorem m8_mv {A A' : sM} (h : Fr m8 A A') : Fr mvA A A' := h.mono fun c k o hq => by
  by_cases e : c = 8
  · subst e
    simp [mvA, wkA] at hq
    simp [m8]; omega
  · simp [m8, e]
def m27 (c _ _ : Nat) : Bool := c == 27
theorem m27_mv {A A' : sM} (h : Fr m27 A A') : Fr mvZ A A' := h.mono fun c k o hq => by
  by_cases e : c = 27
  · subst e; simp [mvZ] at hq
  · simp [m27, e]
theorem offA (hS : SR A 0 s N) (hW : WF n s N) (hi : i < N) : ∃ A', Fr m8 A A' ∧ SR A' 0 (if sB s i 1 ≤ offer s N i then uB s (up2 (up2 (sB s) i 3 1) i 4 (offer s N i)) else s) N ∧ fX0_offerShares 0 (16 * 0 + i) A = some A' := by
  obtain ⟨w1, w2, w3, w4, w5, w6, w7, w8⟩ := id hW
  have hN := w1.2.2.2.2.2.2.2.2
  have hm := most_bd w1
  have hb := w3.1 i hi
  have h9 := w3.2.2.2.2.2
  have h90 : 0 ≤ sumN (fun j => sB s j 4) N := sumN_nonneg fun j hj => w3.2.1 j (by omega)
  have g0 := w1.1
  have ho := offer_bd w1 w3 hi
  have e1 : (if most s < sG s 0 - sumN (fun j => sB s j 4) N then oI (most s) else oI (sG s 0 - sumN (fun j => sB s j 4) N)) = oI (mn (sG s 0 - sumN (fun j => sB s j 4) N) (most s)) := by
    rw [mn_comm, mn]; split <;> rfl
  have hq : 0 ≤ mn (sG s 0 - sumN (fun j => sB s j 4) N) (most s) ∧ mn (sG s 0 - sumN (fun j => sB s j 4) N) (most s) ≤ 100000 := by
    rw [mn]; split <;> omega
  have e2 : (if sB s i 0 < mn (sG s 0 - sumN (fun j => sB s j 4) N) (most s) then oI (sB s i 0) else oI (mn (sG s 0 - sumN (fun j => sB s j 4) N) (most s))) = oI (offer s N i) := by
    rw [offer, mn_def (sB s i 0)]; split <;> rfl
  rw [fX0_offerShares, unheld hS hN, bd_eq, grt hS w1, bd_eq, ltb_eq, ltb_eq, hS.wa hi, hS.mi hi]
  simp (disch := omega) only [oI_lt, oI_le, oI_eq, oL_lt, oL_le, oL_eq, oI_L, oI_clamp, oI_inb, oL_nz]
  rw [e1]
  simp (disch := omega) only [oI_lt, oI_le, oI_eq, oL_lt, oL_le, oL_eq, oI_L, oI_clamp, oI_inb, oL_nz]
  rw [e2]
  simp (disch := omega) only [oI_lt, oI_le, oI_eq, oL_lt, oL_le, oL_eq, oI_L, oI_clamp, oI_inb, oL_nz]
  by_cases e : sB s i 1 ≤ offer s N i
  · rw [if_pos e, if_neg (show ¬ offer s N i < sB s i 1 by omega), kI_1]
    refine ⟨wI (wI A 8 0 (16 * 0 + i) 0 (oI 1)) 8 4 (16 * 0 + i) 0 (oI (offer s N i)), ?_, ?_, rfl⟩
    · exact ((Fr.refl _).wI (by simp [m8]; omega)).wI (by simp [m8]; omega)
    · exact (hS.wSt hi).wSh hi
  · rw [if_neg e, if_pos (show offer s N i < sB s i 1 by omega)]
    exact ⟨A, Fr.refl _, hS, rfl⟩
theorem gtA_L (hp : p ≤ 9) (kk : sM → Option sM) : ∀ (fuel i : Nat) (s : sS) (A : sM), SR A 0 s N → WF n s N → i ≤ N → N - i < fuel → ∃ A', Fr m8 A A' ∧ SR A' 0 (giR N p (N - i) i s) N ∧ fX0_goThroughWaitingList_L9 0 (oI p) kk fuel (oI i) A = kk A' := by
  intro fuel
  induction fuel with
  | zero => intro i s A _ _ _ h; omega
  | succ fuel ih =>
    intro i s A hS hW hi hfu
    have hN := hW.1.2.2.2.2.2.2.2.2
    rw [fX0_goThroughWaitingList_L9, hS.cnt]
    by_cases e : i = N
    · refine ⟨A, Fr.refl _, by rw [e, Nat.sub_self]; exact hS, ?_⟩
      rw [if_pos (by simp (disch := omega) only [oI_lt, oI_le, oI_eq, oL_lt, oL_le, oL_eq, oI_L, oI_clamp, oI_inb, oL_nz]; omega)]
    · have hi2 : i < N := by omega
      have hb := hW.2.2.1.1 i hi2
      have hgi : giR N p (N - i) i s = giR N p (N - (i + 1)) (i + 1) (goS s N p i) := by
        rw [show N - i = (N - (i + 1)) + 1 by omega, giR]
      rw [if_neg (by simp (disch := omega) only [oI_lt, oI_le, oI_eq, oL_lt, oL_le, oL_eq, oI_L, oI_clamp, oI_inb, oL_nz]; omega), oI_inb (by omega) (by omega) (by omega), gd_true, ltb_eq, oI_clamp (by omega) (by omega), cl_nat, hS.st hi2, hS.pr hi2, kI_0, kI_1, oI_add, nat1]
      by_cases c1 : sB s i 3 = 0
      · rw [if_pos (by rw [c1])]
        by_cases c2 : sB s i 2 = (p : Int)
        · obtain ⟨A1, a1, a2, a3⟩ := offA hS hW hi2
          have hg : goS s N p i = if sB s i 1 ≤ offer s N i then uB s (up2 (up2 (sB s) i 3 1) i 4 (offer s N i)) else s := by
            rw [goS]
            by_cases c3 : sB s i 1 ≤ offer s N i
            · rw [if_pos ⟨⟨c1, c2⟩, c3⟩, if_pos c3]
            · rw [if_neg (fun q => c3 q.2), if_neg c3]
          rw [← hg] at a2
          obtain ⟨A', u1, u2, u3⟩ := ih (i + 1) _ A1 a2 (WF_goS hW hi2) (by omega) (by omega)
          refine ⟨A', a1.trans u1, by rw [hgi]; exact u2, ?_⟩
          rw [if_pos (by rw [c2]), a3, bd_eq]
          exact u3
        · have hg : goS s N p i = s := if_neg (fun q => c2 q.1.2)
          obtain ⟨A', u1, u2, u3⟩ := ih (i + 1) s A hS hW (by omega) (by omega)
          refine ⟨A', u1, by rw [hgi, hg]; exact u2, ?_⟩
          rw [if_neg (by simp (disch := omega) only [oI_lt, oI_le, oI_eq, oL_lt, oL_le, oL_eq, oI_L, oI_clamp, oI_inb, oL_nz]; omega)]
          exact u3
      · have hg : goS s N p i = s := if_neg (fun q => c1 q.1.1)
        obtain ⟨A', u1, u2, u3⟩ := ih (i + 1) s A hS hW (by omega) (by omega)
        refine ⟨A', u1, by rw [hgi, hg]; exact u2, ?_⟩
        rw [if_neg (by simp (disch := omega) only [oI_lt, oI_le, oI_eq, oL_lt, oL_le, oL_eq, oI_L, oI_clamp, oI_inb, oL_nz]; omega)]
        exact u3
theorem gtA2_L : ∀ (k fuel : Nat) (s : sS) (A : sM), SR A 0 s N → WF n s N → k ≤ 10 → k < fuel → ∃ A', Fr m8 A A' ∧ SR A' 0 (gpR N k s) N ∧ fX0_goThroughWaitingList_L3 0 (fun A => some A) fuel (oI ((k : Int) - 1)) A = some A' := by
  intro k
  induction k with
  | zero =>
    intro fuel s A hS hW _ hf
    obtain ⟨f, rfl⟩ : ∃ f, fuel = f + 1 := ⟨fuel - 1, by omega⟩
    refine ⟨A, Fr.refl _, hS, ?_⟩
    rw [fX0_goThroughWaitingList_L3, if_pos (by simp (disch := omega) only [kI_0, kI_1, kI_2, kI_3, kI_4, kI_5, kI_6, kI_7, kI_8, kI_9, kI_10, kI_12, kI_16, kI_17, kI_19, kI_20, kI_23, kI_24, kI_30, kI_32, kI_36, kI_48, kI_57, kI_59, kI_60, kI_72, kI_80, kI_84, kI_97, kI_98, kI_100, kI_122, kI_148, kI_200, kI_300, kI_1058, kI_1108, kI_1348, kI_1588, kI_5290, kI_7940, kI_100000, kI_e7, kI_e9, kL_0, kL_1, kL_5, kL_9, kL_10, kL_12, kL_23, kL_30, kL_48, kL_57, kL_59, kL_97, kL_100, kL_122, kL_1000, kL_e7, kL_e9, kL_e10, oI_lt, oI_le, oI_eq, oL_lt, oL_le, oL_eq, oI_L, oI_clamp, oI_inb, oL_nz]; omega)]
  | succ k ih =>
    intro fuel s A hS hW hk hf
    obtain ⟨f, rfl⟩ : ∃ f, fuel = f + 1 := ⟨fuel - 1, by omega⟩
    have hN := hW.1.2.2.2.2.2.2.2.2
    obtain ⟨A1, a1, a2, a3⟩ := gtA_L (p := k) (by omega) (fun (A_1 : sM) =>
        ltb (oI (k : Int) + (-1 : Int32)) fun x1_2 =>
        fX0_goThroughWaitingList_L3 0 (fun A => some A) f x1_2 A_1) 10000 0 s A hS hW (by omega) (by omega)
    obtain ⟨A', u1, u2, u3⟩ := ih f _ A1 a2 (WF_giR hW (by omega)) (by omega) (by omega)
    refine ⟨A', a1.trans u1, by rw [gpR]; exact u2, ?_⟩
    rw [fX0_goThroughWaitingList_L3, if_neg (by simp (disch := omega) only [kI_0, kI_1, kI_2, kI_3, kI_4, kI_5, kI_6, kI_7, kI_8, kI_9, kI_10, kI_12, kI_16, kI_17, kI_19, kI_20, kI_23, kI_24, kI_30, kI_32, kI_36, kI_48, kI_57, kI_59, kI_60, kI_72, kI_80, kI_84, kI_97, kI_98, kI_100, kI_122, kI_148, kI_200, kI_300, kI_1058, kI_1108, kI_1348, kI_1588, kI_5290, kI_7940, kI_100000, kI_e7, kI_e9, kL_0, kL_1, kL_5, kL_9, kL_10, kL_12, kL_23, kL_30, kL_48, kL_57, kL_59, kL_97, kL_100, kL_122, kL_1000, kL_e7, kL_e9, kL_e10, oI_lt, oI_le, oI_eq, oL_lt, oL_le, oL_eq, oI_L, oI_clamp, oI_inb, oL_nz]; omega), show (((k + 1 : Nat) : Int) - 1) = (k : Int) by omega, show (0 : Int32) = oI (0 : Nat) from rfl, a3, ltb_eq, kI_1, oI_neg, oI_add]
    exact u3
theorem gtA (hS : SR A 0 s N) (hW : WF n s N) : ∃ A', Fr m8 A A' ∧ SR A' 0 (gth s N) N ∧ fX0_goThroughWaitingList 0 A = some A' := by
  obtain ⟨A', u1, u2, u3⟩ := gtA2_L 10 10000 s A hS hW (by omega) (by omega)
  exact ⟨A', u1, u2, u3⟩
theorem gtZ_L (hp : p ≤ 9) (kk : sM → Option sM) : ∀ (fuel i : Nat) (s : sS) (Z : sM), ZR (zA Z) (zB Z) s → WF n s N → i ≤ N → N - i < fuel → ∃ Z', Fr m27 Z Z' ∧ ZR (zA Z') (zB Z') (giR N p (N - i) i s) ∧ fX10_goesThrough_L9 (oI p) kk fuel (oI i) Z = kk Z' := by
  intro fuel
  induction fuel with
  | zero => intro i s Z _ _ _ h; omega
  | succ fuel ih =>
    intro i s Z hZ hW hi hfu
    obtain ⟨w1, w2, w3, w4, w5, w6, w7, w8⟩ := id hW
    have hN := w1.2.2.2.2.2.2.2.2
    have g7 := w1.2.2.2.2.2.2.2.1
    rw [fX10_goesThrough_L9, show Z.1 27 0 0 (7 : Int32).toNatClampNeg = oI N from (hZ.g (k := 7) (by omega)).trans (by rw [g7])]
    by_cases e : i = N
    · refine ⟨Z, Fr.refl _, by rw [e, Nat.sub_self]; exact hZ, ?_⟩
      rw [if_pos (by simp (disch := omega) only [oI_lt, oI_le, oI_eq, oL_lt, oL_le, oL_eq, oI_L, oI_clamp, oI_inb, oL_nz]; omega)]
    · have hi2 : i < N := by omega
      have hb := w3.1 i hi2
      have hgi : giR N p (N - i) i s = giR N p (N - (i + 1)) (i + 1) (goS s N p i) := by
        rw [show N - i = (N - (i + 1)) + 1 by omega, giR]
      rw [if_neg (by simp (disch := omega) only [oI_lt, oI_le, oI_eq, oL_lt, oL_le, oL_eq, oI_L, oI_clamp, oI_inb, oL_nz]; omega), kI_3, ofM3 hZ (by omega), bd_eq, ltb_eq, kI_0]
      by_cases c1 : sB s i 3 = 0
      · rw [if_pos (by rw [c1]), kI_2, ofM2 hZ (by omega), bd_eq]
        by_cases c2 : sB s i 2 = (p : Int)
        · have hm := most_bd w1
          have h9 := w3.2.2.2.2.2
          have h90 : 0 ≤ sumN (fun j => sB s j 4) N := sumN_nonneg fun j hj => w3.2.1 j (by omega)
          have g0 := w1.1
          have ho := offer_bd w1 w3 hi2
          rw [if_pos (by rw [c2]), ofM0 hZ (by omega), bd_eq, free hZ w1, bd_eq, ltb_eq]
          have hval : ∀ (F : Int32 → Option sM), (if oI (sB s i 0) ≤ oI (sG s 0 - sumN (fun j => sB s j 4) N) then F (oI (sB s i 0)) else F (oI (sG s 0 - sumN (fun j => sB s j 4) N))) = F (oI (mn (sB s i 0) (sG s 0 - sumN (fun j => sB s j 4) N))) := by
            intro F
            simp (disch := omega) only [oI_lt, oI_le, oI_eq, oL_lt, oL_le, oL_eq, oI_L, oI_clamp, oI_inb, oL_nz]
            rw [mn]
            by_cases q : sB s i 0 ≤ sG s 0 - sumN (fun j => sB s j 4) N
            · rw [if_pos q]
              by_cases q2 : sB s i 0 < sG s 0 - sumN (fun j => sB s j 4) N
              · rw [if_pos q2]
              · rw [if_neg q2, show sB s i 0 = sG s 0 - sumN (fun j => sB s j 4) N by omega]
            · rw [if_neg q, if_neg (by omega)]
          have hof : offer s N i = mn (mn (sB s i 0) (sG s 0 - sumN (fun j => sB s j 4) N)) (most s) := by
            rw [offer, mn_assoc]
          have hv0 : 0 ≤ mn (sB s i 0) (sG s 0 - sumN (fun j => sB s j 4) N) ∧ mn (sB s i 0) (sG s 0 - sumN (fun j => sB s j 4) N) ≤ 100000 := by
            rw [mn]; split <;> omega
          rw [hval (fun (v_9 : Int32) =>
            Option.bind (fX10_mostShares Z) fun r_11 =>
            ltb (α := Int32 → Option (sM)) (fun (v_12 : Int32) =>
              Option.bind (fX10_ofMember (oI i) (1 : Int32) Z) fun r_14 =>
              if r_14 ≤ v_12 then (
                Option.bind (fX10_setMember (oI i) (oI 3) (1 : Int32) Z) fun Z_15 =>
                Option.bind (fX10_setMember (oI i) (4 : Int32) v_12 Z_15) fun Z_16 =>
                (fun (Z_3 : sM) => ltb (oI i + (1 : Int32)) fun x2_5 => fX10_goesThrough_L9 (oI p) kk fuel x2_5 Z_3) Z_16)
              else (
                (fun (Z_3 : sM) => ltb (oI i + (1 : Int32)) fun x2_5 => fX10_goesThrough_L9 (oI p) kk fuel x2_5 Z_3) Z)) fun kj_13 =>
            if v_9 ≤ r_11 then (
              kj_13 v_9)
            else (
              Option.bind (fX10_mostShares Z) fun r_20 =>
              kj_13 r_20))]
          dsimp only
          rw [mst hZ w1, bd_eq, ltb_eq, bd_eq]
          have hval2 : ∀ (F : Int32 → Option sM), (if oI (mn (sB s i 0) (sG s 0 - sumN (fun j => sB s j 4) N)) ≤ oI (most s) then F (oI (mn (sB s i 0) (sG s 0 - sumN (fun j => sB s j 4) N))) else F (oI (most s))) = F (oI (offer s N i)) := by
            intro F
            simp (disch := omega) only [oI_lt, oI_le, oI_eq, oL_lt, oL_le, oL_eq, oI_L, oI_clamp, oI_inb, oL_nz]
            rw [hof, mn_def (mn (sB s i 0) (sG s 0 - sumN (fun j => sB s j 4) N))]
            generalize mn (sB s i 0) (sG s 0 - sumN (fun j => sB s j 4) N) = q
            by_cases q1 : q ≤ most s
            · rw [if_pos q1]
              by_cases q2 : q < most s
              · rw [if_pos q2]
              · rw [if_neg q2, show q = most s by omega]
            · rw [if_neg q1, if_neg (by omega)]
          rw [hval2 (fun (v_12 : Int32) =>
              Option.bind (fX10_ofMember (oI i) (1 : Int32) Z) fun r_14 =>
              if r_14 ≤ v_12 then (
                Option.bind (fX10_setMember (oI i) (oI 3) (1 : Int32) Z) fun Z_15 =>
                Option.bind (fX10_setMember (oI i) (4 : Int32) v_12 Z_15) fun Z_16 =>
                (fun (Z_3 : sM) => ltb (oI i + (1 : Int32)) fun x2_5 => fX10_goesThrough_L9 (oI p) kk fuel x2_5 Z_3) Z_16)
              else (
                (fun (Z_3 : sM) => ltb (oI i + (1 : Int32)) fun x2_5 => fX10_goesThrough_L9 (oI p) kk fuel x2_5 Z_3) Z))]
          dsimp only
          rw [kI_1, ofM1 hZ (by omega), bd_eq]
          simp (disch := omega) only [oI_lt, oI_le, oI_eq, oL_lt, oL_le, oL_eq, oI_L, oI_clamp, oI_inb, oL_nz]
          by_cases c3 : sB s i 1 ≤ offer s N i
          · have hg : goS s N p i = uB s (up2 (up2 (sB s) i 3 1) i 4 (offer s N i)) := if_pos ⟨⟨c1, c2⟩, c3⟩
            have hZ1 : ZR (zA (wI (wI Z 27 0 0 (36 + 7 * i + 3) (oI 1)) 27 0 0 (36 + 7 * i + 4) (oI (offer s N i)))) (zB (wI (wI Z 27 0 0 (36 + 7 * i + 3) (oI 1)) 27 0 0 (36 + 7 * i + 4) (oI (offer s N i)))) (goS s N p i) := by
              rw [hg]
              exact (hZ.wB (i0 := i) (w0 := 3) (v := 1) (by omega) (by omega)).wB (i0 := i) (w0 := 4) (by omega) (by omega)
            obtain ⟨Z', u1, u2, u3⟩ := ih (i + 1) _ _ hZ1 (WF_goS hW hi2) (by omega) (by omega)
            refine ⟨Z', Fr.trans (((Fr.refl _).wI rfl).wI rfl) u1, by rw [hgi]; exact u2, ?_⟩
            rw [if_pos c3, show oI 3 = oI (3 : Nat) from rfl, setM (by omega) (by omega), bd_eq, kI_4, show oI 4 = oI (4 : Nat) from rfl, setM (by omega) (by omega), bd_eq]
            simp only [ltb_eq, oI_add, nat1]
            exact u3
          · have hg : goS s N p i = s := if_neg (fun q => c3 q.2)
            obtain ⟨Z', u1, u2, u3⟩ := ih (i + 1) s Z hZ hW (by omega) (by omega)
            refine ⟨Z', u1, by rw [hgi, hg]; exact u2, ?_⟩
            rw [if_neg c3]
            simp only [ltb_eq, oI_add, nat1]
            exact u3
        · have hg : goS s N p i = s := if_neg (fun q => c2 q.1.2)
          obtain ⟨Z', u1, u2, u3⟩ := ih (i + 1) s Z hZ hW (by omega) (by omega)
          refine ⟨Z', u1, by rw [hgi, hg]; exact u2, ?_⟩
          rw [if_neg (by simp (disch := omega) only [oI_lt, oI_le, oI_eq, oL_lt, oL_le, oL_eq, oI_L, oI_clamp, oI_inb, oL_nz]; omega)]
          simp only [ltb_eq, kI_1, oI_add, nat1]
          exact u3
      · have hg : goS s N p i = s := if_neg (fun q => c1 q.1.1)
        obtain ⟨Z', u1, u2, u3⟩ := ih (i + 1) s Z hZ hW (by omega) (by omega)
        refine ⟨Z', u1, by rw [hgi, hg]; exact u2, ?_⟩
        rw [if_neg (by simp (disch := omega) only [oI_lt, oI_le, oI_eq, oL_lt, oL_le, oL_eq, oI_L, oI_clamp, oI_inb, oL_nz]; omega)]
        simp only [ltb_eq, kI_1, oI_add, nat1]
        exact u3
theorem gtZ2_L : ∀ (k fuel : Nat) (s : sS) (Z : sM), ZR (zA Z) (zB Z) s → WF n s N → k ≤ 10 → k < fuel → ∃ Z', Fr m27 Z Z' ∧ ZR (zA Z') (zB Z') (gpR N k s) ∧ fX10_goesThrough_L3 (fun Z => some Z) fuel (oI ((k : Int) - 1)) Z = some Z' := by
  intro k
  induction k with
  | zero =>
    intro fuel s Z hZ hW _ hf
    obtain ⟨f, rfl⟩ : ∃ f, fuel = f + 1 := ⟨fuel - 1, by omega⟩
    refine ⟨Z, Fr.refl _, hZ, ?_⟩
    rw [fX10_goesThrough_L3, if_pos (by simp (disch := omega) only [kI_0, kI_1, kI_2, kI_3, kI_4, kI_5, kI_6, kI_7, kI_8, kI_9, kI_10, kI_12, kI_16, kI_17, kI_19, kI_20, kI_23, kI_24, kI_30, kI_32, kI_36, kI_48, kI_57, kI_59, kI_60, kI_72, kI_80, kI_84, kI_97, kI_98, kI_100, kI_122, kI_148, kI_200, kI_300, kI_1058, kI_1108, kI_1348, kI_1588, kI_5290, kI_7940, kI_100000, kI_e7, kI_e9, kL_0, kL_1, kL_5, kL_9, kL_10, kL_12, kL_23, kL_30, kL_48, kL_57, kL_59, kL_97, kL_100, kL_122, kL_1000, kL_e7, kL_e9, kL_e10, oI_lt, oI_le, oI_eq, oL_lt, oL_le, oL_eq, oI_L, oI_clamp, oI_inb, oL_nz]; omega)]
  | succ k ih =>
    intro fuel s Z hZ hW hk hf
    obtain ⟨f, rfl⟩ : ∃ f, fuel = f + 1 := ⟨fuel - 1, by omega⟩
    have hN := hW.1.2.2.2.2.2.2.2.2
    obtain ⟨Z1, a1, a2, a3⟩ := gtZ_L (p := k) (by omega) (fun (Z_1 : sM) =>
        ltb (oI (k : Int) + (-1 : Int32)) fun x1_2 =>
        fX10_goesThrough_L3 (fun Z => some Z) f x1_2 Z_1) 10000 0 s Z hZ hW (by omega) (by omega)
    obtain ⟨Z', u1, u2, u3⟩ := ih f _ Z1 a2 (WF_giR hW (by omega)) (by omega) (by omega)
    refine ⟨Z', a1.trans u1, by rw [gpR]; exact u2, ?_⟩
    rw [fX10_goesThrough_L3, if_neg (by simp (disch := omega) only [kI_0, kI_1, kI_2, kI_3, kI_4, kI_5, kI_6, kI_7, kI_8, kI_9, kI_10, kI_12, kI_16, kI_17, kI_19, kI_20, kI_23, kI_24, kI_30, kI_32, kI_36, kI_48, kI_57, kI_59, kI_60, kI_72, kI_80, kI_84, kI_97, kI_98, kI_100, kI_122, kI_148, kI_200, kI_300, kI_1058, kI_1108, kI_1348, kI_1588, kI_5290, kI_7940, kI_100000, kI_e7, kI_e9, kL_0, kL_1, kL_5, kL_9, kL_10, kL_12, kL_23, kL_30, kL_48, kL_57, kL_59, kL_97, kL_100, kL_122, kL_1000, kL_e7, kL_e9, kL_e10, oI_lt, oI_le, oI_eq, oL_lt, oL_le, oL_eq, oI_L, oI_clamp, oI_inb, oL_nz]; omega), show (((k + 1 : Nat) : Int) - 1) = (k : Int) by omega, show (0 : Int32) = oI (0 : Nat) from rfl, a3, ltb_eq, kI_1, oI_neg, oI_add]
    exact u3
theorem gtZ (hZ : ZR (zA Z) (zB Z) s) (hW : WF n s N) : ∃ Z', Fr m27 Z Z' ∧ ZR (zA Z') (zB Z') (gth s N) ∧ fX10_goesThrough Z = some Z' := by
  obtain ⟨Z', u1, u2, u3⟩ := gtZ2_L 10 10000 s Z hZ hW (by omega) (by omega)
  exact ⟨Z', u1, u2, u3⟩
theorem WF_gth (hW : WF n s N) : WF n (gth s N) N := WF_gpR hW
end
