/-! load. -/
def lA (c k o : Nat) : Bool := plA c k o || c == 5 || (c == 9 && k == 7)
def lZ (c k o : Nat) : Bool := plZ c k o || (c == 10 && (k == 6 || k == 8 || k == 9 || k == 15))
theorem pl_lA {A A' : sM} (h : Fr plA A A') : Fr lA A A' := h.mono fun c k o hq => by
  simp only [lA, Bool.or_eq_false_iff] at hq; exact hq.1.1
theorem pl_lZ {A A' : sM} (h : Fr plZ A A') : Fr lZ A A' := h.mono fun c k o hq => by
  simp only [lZ, Bool.or_eq_false_iff] at hq; exact hq.1
theorem lA_no {b : Nat} (hb : b ≤ 6) : (∀ c k, c = 0 ∨ c = 4 ∨ c = 18 ∨ c = 19 ∨ c = 22 ∨ c = 23 → lA c k b = false) ∧ (∀ c k i, c = 8 ∨ c = 24 ∨ c = 25 ∨ c = 26 → i < 16 → lA c k (16 * b + i) = false) := by
  refine ⟨fun c k hc => ?_, fun c k i hc hi => ?_⟩
  · rcases hc with rfl | rfl | rfl | rfl | rfl | rfl <;> simp [lA, plA, r5, p7] <;> omega
  · rcases hc with rfl | rfl | rfl | rfl <;> rfl
theorem St.ld {n N : Nat} {s : sS} {A A' Z Z' : sM} (h : St n A Z s N) (hR : Rest n A Z) (hA : Fr lA A A') (hZ : Fr lZ Z Z') (e1 : A'.1 5 1 0 0 = 0) (e2 : Z'.1 10 8 0 0 = 0) (e3 : A'.1 9 7 0 0 = Z'.1 10 15 0 0) : St n A' Z' s N ∧ Rest n A' Z' := by
  obtain ⟨hS, hZ0, hW⟩ := h
  obtain ⟨⟨K, p, t, Nt, ⟨h1, h2, h3, h4, h5⟩, h6⟩, ⟨len0, t1, t2, t3, t4, t5⟩, dl, d1, d2, d3, d4⟩ := hR
  have hN : N ≤ 16 := hW.1.2.2.2.2.2.2.2.2
  refine ⟨⟨hS.keep hA hN (lA_no (by omega)).1 (lA_no (by omega)).2, hZ0.keep (fun k => hZ.i rfl) (fun k => hZ.l rfl), hW⟩, ⟨K, p, t, Nt, ⟨h1, h2, ?_, ?_, ?_⟩, fun j hj => ?_⟩, ⟨0, by omega, e1, e2, e3, fun k hk => absurd hk (Nat.not_lt_zero k)⟩, dl, d1, ?_, ?_, fun k hk => ?_⟩
  · rw [hA.i rfl]; exact h3
  · rw [hA.i rfl]; exact h4
  · rw [hZ.i rfl]; exact h5
  · obtain ⟨a, b, c, d⟩ := h6 j hj
    have hs : slot p K j < 6 := Nat.mod_lt _ (by omega)
    exact ⟨by rw [hA.i rfl]; exact a, b.keep hA d.1.2.2.2.2.2.2.2.2 (lA_no (by omega)).1 (lA_no (by omega)).2, c.keep (fun k => hZ.i rfl) (fun k => hZ.l rfl), d⟩
  · rw [hA.i rfl]; exact d2
  · rw [hZ.i rfl]; exact d3
  · rw [hA.i rfl, hZ.i rfl]; exact d4 k hk
theorem ldA {x : Int32} {A B A' : sM} {L : Nat} (hx : x = oI L) (hL : L ≤ 300) (hB : B = fI (wI (wI (wI (wI (wI A 5 2 0 0 (oI L)) 5 3 0 0 0) 5 4 0 0 0) 5 1 0 0 0) 4 4 7 0 0) 19 7 24 0) (he : ∀ kk : sM → Option (Int32 × sM), (Option.bind (fX5_readGardenStatement B) fun A_6 => Option.bind (fX5_readPeriodStatement A_6) fun A_7 => Option.bind (fX5_readFurtherStatements A_7) kk) = kk A') : fX5_read x A = some (A'.1 5 4 0 0, A') := by
  have e1 : (if (300 : Int32) < oI (L : Int) then (300 : Int32) else oI (L : Int)) = oI (L : Int) := if_neg (by simp (disch := omega) only [kI_0, kI_1, kI_2, kI_3, kI_4, kI_5, kI_6, kI_7, kI_8, kI_9, kI_10, kI_12, kI_16, kI_17, kI_19, kI_20, kI_23, kI_24, kI_30, kI_32, kI_36, kI_48, kI_57, kI_59, kI_60, kI_72, kI_80, kI_84, kI_97, kI_98, kI_100, kI_122, kI_148, kI_200, kI_300, kI_1058, kI_1108, kI_1348, kI_1588, kI_5290, kI_7940, kI_100000, kI_e7, kI_e9, kL_0, kL_1, kL_5, kL_9, kL_10, kL_12, kL_23, kL_30, kL_48, kL_57, kL_59, kL_97, kL_100, kL_122, kL_1000, kL_e7, kL_e9, kL_e10, oI_lt, oI_le, oI_eq, oL_lt, oL_le, oL_eq, oI_L, oI_clamp, oI_inb, oL_nz]; omega)
  rw [fX5_read, hx, e1, ltb_eq, ltb_eq, ltb_eq, ltb_eq, fX4_clearPeriods, ltb_eq, ltb_eq, bd_eq, ← hB]
  exact he _
theorem ld {n : Nat} {A Z : sM} (hI : Inv n A Z) (x : Int32) : OKI n (fL_load x A) (fX10_load x Z) := by
  obtain ⟨⟨s, N, hSt⟩, hR⟩ := id hI
  obtain ⟨_, ⟨len, t1, t2, t3, t4, t5⟩, _⟩ := id hR
  obtain ⟨y, y1, y2, rfl⟩ := I_ex x
  by_cases hy : 0 ≤ y ∧ y ≤ len
  · obtain ⟨L, rfl⟩ : ∃ L : Nat, y = L := ⟨y.toNat, by omega⟩
    have hL : L ≤ 300 := by omega
    -- the text
    obtain ⟨t, ht⟩ : ∃ t : Nat → Int, t = fun k => (Z.1 32 0 0 k).toInt := ⟨_, rfl⟩
    have htk : ∀ k, k < L → (0 ≤ t k ∧ t k < 256) ∧ Z.1 32 0 0 k = oI (t k) ∧ A.1 20 0 0 k = oI (sby (t k)) := fun k hk => by
      obtain ⟨v, v0, v1, v2, v3⟩ := t5 k (by omega)
      have : t k = v := by rw [ht]; show (Z.1 32 0 0 k).toInt = v; rw [v2]; exact oI_toInt (by omega) (by omega)
      rw [this]
      exact ⟨⟨v0, v1⟩, v2, v3⟩
    have hT : RT t L := ⟨hL, fun k hk => (htk k hk).1⟩
    obtain ⟨B, hB⟩ : ∃ B, B = fI (wI (wI (wI (wI (wI A 5 2 0 0 (oI L)) 5 3 0 0 0) 5 4 0 0 0) 5 1 0 0 0) 4 4 7 0 0) 19 7 24 0 := ⟨_, rfl⟩
    have fB : Fr lA A B := by rw [hB]; exact ((((((Fr.refl _).wI rfl).wI rfl).wI rfl).wI rfl).wI rfl).fI rfl
    have b2 : B.1 5 2 0 0 = oI L := by rw [hB]; simp [wI_1, fI_1]
    have b3 : B.1 5 3 0 0 = 0 := by rw [hB]; simp [wI_1, fI_1]
    have b4 : B.1 5 4 0 0 = 0 := by rw [hB]; simp [wI_1, fI_1]
    have b1 : B.1 5 1 0 0 = 0 := by rw [hB]; simp [wI_1, fI_1]
    have b44 : B.1 4 4 7 0 = 0 := by rw [hB]; simp [wI_1, fI_1]
    have b19 : ∀ k, k < 24 → B.1 19 0 7 k = 0 := fun k hk => by rw [hB]; simp [wI_1, fI_1, hk]
    obtain ⟨Y, hY⟩ : ∃ Y, Y = wI (wI (wI (wI (wI Z 10 6 0 0 0) 10 9 0 0 (oI L)) 10 8 0 0 0) 10 11 0 0 0) 10 13 0 0 0 := ⟨_, rfl⟩
    have fY : Fr lZ Z Y := by rw [hY]; exact (((((Fr.refl _).wI rfl).wI rfl).wI rfl).wI rfl).wI rfl
    have z6 : Y.1 10 6 0 0 = 0 := by rw [hY]; simp [wI_1]
    have z9 : Y.1 10 9 0 0 = oI L := by rw [hY]; simp [wI_1]
    have z8 : Y.1 10 8 0 0 = 0 := by rw [hY]; simp [wI_1]
    have z11 : Y.1 10 11 0 0 = 0 := by rw [hY]; simp [wI_1]
    have z13 : Y.1 10 13 0 0 = 0 := by rw [hY]; simp [wI_1]
    obtain ⟨A6, Z6, fa, fz, fin, ea, ez⟩ := rdAll (A := B) (Z := Y) hT ⟨b2, fun k hk => by rw [fB.i rfl]; exact (htk k hk).2.2⟩ ⟨z9, fun k hk => by rw [fY.i rfl]; exact (htk k hk).2.1⟩ b4 b3 b44 b19 z11 z13
    have eA := ldA (x := oI L) rfl hL hB ea
    have FA := fB.trans (pl_lA fa)
    have FZ := fY.trans (pl_lZ fz)
    have a1 : A6.1 5 1 0 0 = 0 := by rw [fa.i rfl]; exact b1
    have c8 : Z6.1 10 8 0 0 = 0 := by rw [fz.i rfl]; exact z8
    have c6 : Z6.1 10 6 0 0 = 0 := by rw [fz.i rfl]; exact z6
    have i0 : fX10_isIn ((oI (L : Int)).toInt64) (0 : Int64) ((Z.1 10 8 0 0).toInt64) Z = some (oI 1) := by
      rw [t3, oI_L (by omega) (by omega), oI_L (by omega) (by omega), kL_0]
      exact isIn_t Z (by omega) (by omega) (by omega)
    have eA0 : ∀ P : Option ((Nat ⊕ Int32) × sM), (if oI (L : Int) < 0 then some (.inl 1, A) else if oI (L : Int) ≤ A.1 5 1 0 0 then P else some (.inl 1, A)) = P := fun P => by
      rw [if_neg (by rw [kI_0]; simp (disch := omega) only [oI_lt, oI_le, oI_eq, oL_lt, oL_le, oL_eq, oI_L, oI_clamp, oI_inb, oL_nz]; omega), t2, if_pos (by simp (disch := omega) only [oI_lt, oI_le, oI_eq, oL_lt, oL_le, oL_eq, oI_L, oI_clamp, oI_inb, oL_nz]; omega)]
    rcases fin with ⟨f4, f13, np, ⟨n1, n4⟩, h44, g, hh, r, ⟨q1, q2, q3⟩, q4, q5⟩ | hF
    · -- read
      obtain ⟨A7, hA7⟩ : ∃ A7, A7 = wI A6 9 7 0 0 (-1) := ⟨_, rfl⟩
      obtain ⟨Z7, hZ7⟩ : ∃ Z7, Z7 = wI Z6 10 15 0 0 (-1) := ⟨_, rfl⟩
      have F7 : Fr (fun c k _ => c == 9 && k == 7) A6 A7 := by rw [hA7]; exact (Fr.refl _).wI rfl
      have G7 : Fr (fun c k _ => c == 10 && k == 15) Z6 Z7 := by rw [hZ7]; exact (Fr.refl _).wI rfl
      obtain ⟨hS7, hR7⟩ := St.ld hSt hR (A' := A7) (Z' := Z7) (by rw [hA7]; exact FA.wI rfl) (by rw [hZ7]; exact FZ.wI rfl) (by rw [F7.i rfl]; exact a1) (by rw [G7.i rfl]; exact c8) (by rw [hA7, hZ7, wI_1, if_pos ⟨rfl, rfl, rfl, rfl⟩, wI_1, if_pos ⟨rfl, rfl, rfl, rfl⟩])
      obtain ⟨A8, Z8, k1, k2, k3, k4, k5⟩ := keep2 hS7 hR7
      -- what keeping leaves in the plan
      obtain ⟨F8, hF8⟩ : ∃ P, (∀ k, P 4 k 7 = false) ∧ P 18 0 7 = false ∧ P 19 0 7 = false ∧ Fr P A7 A8 := by
        obtain ⟨⟨K, p, tt, Nt, ⟨h1, h2, h3, h4, h5⟩, h6⟩, _⟩ := id hR7
        obtain ⟨A8', w1, _, _, _, _, _, w7⟩ := kepA hS7.1 hS7.2.2.1.2.2.2.2.2.2.2.2 hS7.2.2.1.2.2.2.2.1.2 h2 h1 h3 h4
        have : A8' = A8 := by rw [k1] at w7; injection w7 with w7; exact w7.symm
        subst this
        exact ⟨pKp (p + 1), fun k => by simp [pKp, pBk]; omega, by simp [pKp, pBk]; omega, by simp [pKp, pBk]; omega, w1⟩
      obtain ⟨A9, v1, v2, v3, v4⟩ := bwA (A := A8) (g := g) (hh := hh) (r := r) n4 (fun k hk => by rw [hF8.2.2.2.i (hF8.1 k), F7.i rfl]; exact q1 k hk) (by rw [hF8.2.2.2.i (hF8.1 4), F7.i rfl]; exact h44) (fun p hp => by rw [hF8.2.2.2.i hF8.2.1, F7.i rfl]; exact q2 p hp) (fun x hx => by rw [hF8.2.2.2.i hF8.2.2.1, F7.i rfl]; exact q3 x hx)
      obtain ⟨Z9, x1, x2, x3⟩ := ld97 (Z0 := Z8) 1588 10000 0 Z8 (by omega) (by omega) (Fr.refl _) (fun k hk => by omega)
      obtain ⟨Z10, w1, w2, w3, w4⟩ := ld124 (Z0 := Z9) 1058 10000 0 Z9 (by omega) (by omega) (Fr.refl _) (fun _ _ _ => rfl) (fun k hk => by omega)
      have hZR : ZR (zA Z10) (zB Z10) (stN g hh r np) := row_ZR (Z := Z6) q4 (fun k hk => by rw [w2, x2 k hk, k5.i rfl, G7.i rfl]) w3
      have e4 : Z10.1 27 0 0 4 = oI np := hZR.g (k := 4) (by omega)
      refine OKI.m (v := oI np) k4 (A2 := A9) (Z2 := Z10) ?_ ?_ ?_ v1 ?_ v2 hZR (WF_new _ q5 n1)
      · rw [fL_load, fX9_load, eA0, eA, bd2_eq, if_pos f4, ltb_eq, ← hA7, k1, bd_eq, v4, bd_eq, v3]
        rfl
      · rw [fX10_load, i0, bd_eq, ltb_eq, if_neg one_ne]
        dsimp only
        rw [ltb_eq, thr_yes, ltb_eq, ltb_eq, ltb_eq, ltb_eq, ← hY]
        refine (ez _).trans ?_
        rw [ltb_eq, if_pos f13]
        dsimp only
        rw [ltb_eq, ← hZ7, if_pos (by rw [G7.i rfl]; exact f13), k2, bd_eq]
        refine (x3 _).trans ((w4 _).trans ?_)
        rw [clp4, e4]
      · rw [w1.i rfl, x1.i rfl, k5.i rfl, G7.i rfl]; exact c6
      · exact (x1.trans w1).mono fun c k o hq => by
          simp only [mvZ, Bool.or_eq_false_iff] at hq
          simp only [p2730, Bool.or_eq_false_iff]
          exact ⟨hq.1.2, hq.2⟩
    · -- not read
      obtain ⟨A7, hA7⟩ : ∃ A7, A7 = wI A6 9 7 0 0 (A6.1 5 3 0 0) := ⟨_, rfl⟩
      obtain ⟨Z7, hZ7⟩ : ∃ Z7, Z7 = wI Z6 10 15 0 0 (Z6.1 10 14 0 0) := ⟨_, rfl⟩
      have F7 : Fr (fun c k _ => c == 9 && k == 7) A6 A7 := by rw [hA7]; exact (Fr.refl _).wI rfl
      have G7 : Fr (fun c k _ => c == 10 && k == 15) Z6 Z7 := by rw [hZ7]; exact (Fr.refl _).wI rfl
      obtain ⟨hS7, hR7⟩ := St.ld hSt hR (A' := A7) (Z' := Z7) (by rw [hA7]; exact FA.wI rfl) (by rw [hZ7]; exact FZ.wI rfl) (by rw [F7.i rfl]; exact a1) (by rw [G7.i rfl]; exact c8) (by rw [hA7, hZ7, wI_1, if_pos ⟨rfl, rfl, rfl, rfl⟩, wI_1, if_pos ⟨rfl, rfl, rfl, rfl⟩, hF.2.2])
      refine OKI.v (A := A7) (Z := Z7) (A' := A7) (Z' := Z7) (v := A6.1 5 4 0 0) ⟨⟨s, N, hS7⟩, hR7⟩ ?_ ?_ ?_ (Fr.refl _) (Fr.refl _)
      · rw [fL_load, fX9_load, eA0, eA, bd2_eq, if_neg hF.1, ltb_eq, ← hA7]
        rfl
      · rw [fX10_load, i0, bd_eq, ltb_eq, if_neg one_ne]
        dsimp only
        rw [ltb_eq, thr_yes, ltb_eq, ltb_eq, ltb_eq, ltb_eq, ← hY]
        refine (ez _).trans ?_
        rw [ltb_eq, if_neg hF.z]
        dsimp only
        rw [ltb_eq, ← hZ7, G7.i (c := 10) (k := 13) rfl, if_neg hF.z, hF.2.1]
      · rw [G7.i rfl]; exact c6
  · refine OKI.t (r := 1) (v := 0) (Z' := wI Z 10 6 0 0 1) hI ?_ ?_ (thr_g Z _) (by decide) (Fr.refl _) (frT Z _)
    · have eA : fX9_load (oI y) A = some (.inl 1, A) := by
        rw [fX9_load]
        by_cases y0 : y < 0
        · rw [if_pos (by rw [kI_0]; simp (disch := omega) only [oI_lt, oI_le, oI_eq, oL_lt, oL_le, oL_eq, oI_L, oI_clamp, oI_inb, oL_nz]; omega)]
        · rw [if_neg (by rw [kI_0]; simp (disch := omega) only [oI_lt, oI_le, oI_eq, oL_lt, oL_le, oL_eq, oI_L, oI_clamp, oI_inb, oL_nz]; omega), t2, if_neg (by simp (disch := omega) only [oI_lt, oI_le, oI_eq, oL_lt, oL_le, oL_eq, oI_L, oI_clamp, oI_inb, oL_nz]; omega)]
      rw [fL_load, eA]; rfl
    · rw [fX10_load, t3, oI_L (by omega) (by omega), oI_L (by omega) (by omega), kL_0, isIn_f Z hy (by omega) (by omega) (by omega) (by omega) (by omega) (by omega), bd_eq, ltb_eq, if_pos nul_eq]
      dsimp only
      rw [ltb_eq, thr_no (by decide)]
theorem case1 : CaseOK fL_case1 := by
  intro n L A Z xs x4 hn hI hin
  obtain ⟨_, i1, i2, i3, i4, i5⟩ := hin
  rw [fL_case1]
  simp only [i1, i2, i3, i4, i5, gd_true]
  exact OKI.c (ld hI _)
