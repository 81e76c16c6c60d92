theorem Rest.mv0 {n : Nat} {A A' Z Z' : sM} (h : Rest n A Z) (hA : Fr mvA A A') (hZ : Fr mvZ Z Z') : Rest n A' Z' := by
  obtain ⟨⟨K, p, t, Nt, ⟨h1, h2, h3, h4, h5⟩, h6⟩, ⟨len, t1, t2, t3, t4, t5⟩, dl, d1, d2, d3, d4⟩ := h
  refine ⟨⟨K, p, t, Nt, ⟨h1, h2, ?_, ?_, ?_⟩, fun j hj => ?_⟩, ⟨len, t1, ?_, ?_, ?_, fun k hk => ?_⟩, dl, d1, ?_, ?_, fun k hk => ?_⟩
  · rw [hA.i rfl]; exact h3
  · rw [hA.i rfl]; exact h4
  · rw [hZ.i rfl]; exact h5
  · obtain ⟨a, b, c, d⟩ := h6 j hj
    have hs : slot p K j < 6 := Nat.mod_lt _ (by omega)
    refine ⟨by rw [hA.i rfl]; exact a, b.mv hA d.1.2.2.2.2.2.2.2.2 (by omega) (by omega), c.keep (fun k => hZ.i rfl) (fun k => hZ.l rfl), d⟩
  · rw [hA.i rfl]; exact t2
  · rw [hZ.i rfl]; exact t3
  · rw [hA.i rfl, hZ.i rfl]; exact t4
  · rw [hA.i rfl, hZ.i rfl]; exact t5 k hk
  · rw [hA.i rfl]; exact d2
  · rw [hZ.i rfl]; exact d3
  · rw [hA.i rfl, hZ.i rfl]; exact d4 k hk
theorem up1_self (f : Nat → Int) (i : Nat) : up1 f i (f i) = f := by
  funext j
  rw [up1]
  split
  · rename_i e; rw [e]
  · rfl
section
variable {V T : Int} {w : Nat → Int} {P : Nat}
theorem dvd_z (h : DV V T w P) {k : Nat} (hk : k < P) (hw : w k = 0) : dvd V T w P k = 0 := by
  have key : ∀ g : Nat, (g : Int) ≤ lft V T w P → giv (rm V T w) P g k = 0 ∧ prt (qt V T w) (rm V T w) P g k = 0 := by
    intro g
    induction g with
    | zero => intro _; exact ⟨by rw [giv, rm, hw]; simp, by rw [prt, qt, hw]; simp⟩
    | succ g ih =>
      intro hg
      obtain ⟨i1, i2⟩ := ih (by omega)
      have hp := giv_pos h (g := g) (by omega)
      have hne : ¬ k = am (giv (rm V T w) P g) P := fun e => by rw [← e, i1] at hp; omega
      exact ⟨by rw [giv, up1_n _ _ hne]; exact i1, by rw [prt, up1_n _ _ hne]; exact i2⟩
  have h0 := h.l0
  exact (key (lft V T w P).toNat (by omega)).2
end
section
variable {A Z : sM} {s : sS} {N n : Nat}
theorem swZ_L {Z0 : sM} (hZ0 : ZR (zA Z0) (zB Z0) s) (h1 : W1 s N) (h3 : W3 s N) : ∀ (fuel k : Nat) (Z : sM), k ≤ N → N - k < fuel → Fr pWz Z0 Z → (∀ j, j < k → Z.2 33 0 0 j = oL (sB s j 4)) → ∃ Z', Fr pWz Z0 Z' ∧ (∀ j, j < N → Z'.2 33 0 0 j = oL (sB s j 4)) ∧ ∀ kk, fX10_shareFund_L4 kk fuel (oL (sumN (fun j => sB s j 4) k)) (oI k) Z = kk (oL (sumN (fun j => sB s j 4) N)) Z' := by
  obtain ⟨_, _, _, _, _, _, _, g7, hN⟩ := id h1
  intro fuel
  induction fuel with
  | zero => intro k Z _ h; omega
  | succ fuel ih =>
    intro k Z hk hfu hF h33
    have hZ : ZR (zA Z) (zB Z) s := hZ0.keep (fun k => hF.i rfl) (fun k => hF.l rfl)
    have e7 : Z.1 27 0 0 7 = oI N := (hZ.g (k := 7) (by omega)).trans (by rw [g7])
    by_cases e : k = N
    · refine ⟨Z, hF, fun j hj => h33 j (by omega), fun kk => ?_⟩
      rw [fX10_shareFund_L4, tn_7, e7, if_pos (by simp (disch := omega) only [oI_lt, oI_le, oI_eq, oL_lt, oL_le, oL_eq, oI_L, oI_clamp, oI_inb, oL_nz]; omega), e]
    · have hb := sh_bd h1 h3 (show k < N by omega)
      obtain ⟨Z', u1, u2, u3⟩ := ih (k + 1) (wL Z 33 0 0 k (oL (sB s k 4))) (by omega) (by omega) (hF.wL rfl) (fun j hj => by
        rw [wL_2]
        by_cases q : j = k
        · rw [if_pos ⟨rfl, rfl, rfl, q⟩, q]
        · rw [if_neg (by omega)]; exact h33 j (by omega))
      refine ⟨Z', u1, u2, fun kk => ?_⟩
      rw [fX10_shareFund_L4, tn_7, e7, if_neg (by simp (disch := omega) only [oI_lt, oI_le, oI_eq, oL_lt, oL_le, oL_eq, oI_L, oI_clamp, oI_inb, oL_nz]; omega), kI_4, ofM4 hZ (by omega), bd_eq, inbA (by omega) (by omega), gd_true, clpA (by omega), oI_L (by omega) (by omega), ltb_eq, gd_true, wL_2, if_pos ⟨rfl, rfl, rfl, rfl⟩, oL_add, ltb_eq, ltb_eq, kI_1, oI_add, nat1]
      exact u3 kk
end
theorem sfd {n : Nat} {A Z : sM} (hn : n < 512) (hI : Inv n A Z) : OKL n (fL_shareFund A) (fX10_shareFund Z) := by
  obtain ⟨⟨s, N, hS, hZ, hW⟩, hR⟩ := id hI
  obtain ⟨w1, w2, w3, w4, w5, w6, w7, w8⟩ := id hW
  obtain ⟨g0, g1, g2, g3, g4, g5, g6, g7, hN⟩ := id w1
  obtain ⟨Z2, z1, z2, z3⟩ := swZ_L hZ w1 w3 10000 0 Z (by omega) (by omega) (Fr.refl _) (fun j hj => by omega)
  have hZ2 : ZR (zA Z2) (zB Z2) s := hZ.keep (fun k => z1.i rfl) (fun k => z1.l rfl)
  have e0 : Z2.2 30 0 0 0 = oL (sF s 0) := hZ2.fo (by omega)
  have hfb := (debt_bd w7 w8 w2 w6 (by omega) (show 0 < 16 by omega)).2
  have hsb : 0 ≤ sumN (fun j => sB s j 4) N := sumN_nonneg fun j hj => w3.2.1 j (by omega)
  have hsc := w3.2.2.2.2.2
  by_cases hF : 0 < sF s 0 ∧ 1 ≤ sumN (fun j => sB s j 4) N
  · obtain ⟨A1, Z1, k1, k2, k3, k4, k5, k6, k7⟩ := keep0 ⟨hS, hZ2, hW⟩ (hR.mv0 (Fr.refl _) (wk_mvZ (pWz_wk z1)))
    have k2' : fX10_keeps (wI Z2 10 6 0 0 (0 : Int32)) = some Z1 := k2
    have e34 : ∀ j, j < N → Z1.2 33 0 0 j = oL (sB s j 4) := fun j hj => by rw [k7.l rfl]; exact z2 j hj
    have hVT : sF s 0 * sumN (fun j => sB s j 4) N ≤ 76000000000000 * 100000 := Int.le_trans (Int.mul_le_mul_of_nonneg_right hfb.2 hsb) (Int.mul_le_mul_of_nonneg_left (by omega) (by omega))
    have hD : DV (sF s 0) (sumN (fun j => sB s j 4) N) (fun j => sB s j 4) N := ⟨by omega, by omega, ⟨by omega, by omega⟩, fun k hk => w3.2.1 k (by omega), rfl⟩
    obtain ⟨hD2, hd1, hd2⟩ := dvd_emb (W := fun j => if j < N then wv s (-1) 1 j else 0) (Q := 17) (φ := fun k => k) hD (fun k hk => by omega) (fun j k h _ => h) (fun k hk => by
      show (if k < N then wv s (-1) 1 k else 0) = _
      rw [if_pos hk, wv, if_neg (by omega)]; omega) (fun j hj hn => by
      show (if j < N then wv s (-1) 1 j else 0) = 0
      rw [if_neg (fun q => hn j q rfl)])
    have eT : sumN (wv s (-1) 1) N = sumN (fun j => sB s j 4) N := sumN_congr fun j hj => by rw [wv, if_neg (by omega)]; omega
    -- the system
    obtain ⟨A2, a1, a2, a3⟩ := wsub k3 w1 w3 w5 (a := -1) (d := 1) (by omega) (by omega)
    obtain ⟨A3, b1, b2, b3⟩ := divA (A := wL A2 3 1 0 0 (oL (sumN (wv s (-1) 1) N))) (V := sF s 0) (T := sumN (fun j => sB s j 4) N) (w := fun j => if j < N then wv s (-1) 1 j else 0) hD2 (by rw [wL_2, if_pos ⟨rfl, rfl, rfl, rfl⟩, eT]) (fun j hj => by rw [wL_2, if_neg (by omega)]; exact a2 j hj)
    have f3 : Fr wkA A1 A3 := Fr.trans (Fr.trans (pW_wk a1) ((Fr.refl _).wL rfl)) (pD_wk b1)
    have s3 : SR A3 0 s N := k3.wk f3 hN (by omega)
    have s4 := s3.wF0 (z0 := 0) (v := 0) rfl
    have s5 := s4.wF1 (z0 := 0) (v := sF s 1) rfl
    have es : uF (uF s (up1 (sF s) 0 0)) (up1 (sF (uF s (up1 (sF s) 0 0))) 1 (sF s 1)) = uF s (up1 (sF s) 0 0) := by
      show uF s (up1 (up1 (sF s) 0 0) 1 (sF s 1)) = uF s (up1 (sF s) 0 0)
      rw [show sF s 1 = up1 (sF s) 0 0 1 from (up1_n _ _ (by omega)).symm, up1_self]
    rw [es] at s5
    have hp : ∀ j, j < N → 0 ≤ dvd (sF s 0) (sumN (fun j => sB s j 4) N) (fun j => sB s j 4) N j ∧ dvd (sF s 0) (sumN (fun j => sB s j 4) N) (fun j => sB s j 4) N j < 4611686018427387904 := fun j hj => ⟨dvd_nn hD hj, by have := dvd_le hD hj; omega⟩
    have hdb : ∀ j, j < N → 0 ≤ sA s j 0 ∧ sA s j 0 < 4611686018427387904 := fun j hj => by
      have := (debt_bd w7 w8 w2 w6 (by omega) (show j < 16 by omega)).1
      omega
    have p17 : ∀ j, j < N → (wL (wL A3 0 6 0 0 (oL 0)) 0 7 0 0 (oL (sF s 1))).2 17 0 0 j = oL (dvd (sF s 0) (sumN (fun j => sB s j 4) N) (fun j => sB s j 4) N j) := fun j hj => by
      rw [wL_2, if_neg (by omega), wL_2, if_neg (by omega), b2 j (by omega)]
      exact congrArg oL (hd1 j hj)
    obtain ⟨m, hm⟩ : ∃ m : Nat, sG s 5 = m := ⟨(sG s 5).toNat, by omega⟩
    obtain ⟨A4, c1, c2, c3⟩ := cpA_L (s := uF s (up1 (sF s) 0 0)) (m := m) hN w3 hm (by omega) hp hdb 10000 0 _ (by omega) (by omega) s5 p17
    -- the reference
    obtain ⟨Z3, d1, d2, d3⟩ := divZ (Z := Z1) (P := N) (by omega) hD e34
    have t3 : ZR (zA Z3) (zB Z3) s := k4.keep (fun k => d1.i rfl) (fun k => d1.l rfl)
    have t4 := t3.wF (k0 := 0) (v := 0) (by omega)
    obtain ⟨Z4, g1', g2', g3'⟩ := sfZ_L (s := uF s (up1 (sF s) 0 0)) (m := m) w1 w3 hm (by omega) hp (fun j hj q => dvd_z hD hj (w3.2.2.2.1 j hj q)) hdb (oL (sF s 0)) 10000 0 _ (by omega) (by omega) t4 (fun j hj => by rw [wL_2, if_neg (by omega)]; exact d2 j hj)
    have hW1 : WF (n + 1) (uF s (up1 (sF s) 0 0)) N := by
      refine ⟨w1, w2, w3, w4, w5, w6, w7, ?_, ?_⟩
      · have := w8.1
        show 2 * (if 0 ≤ up1 (sF s) 0 0 0 then up1 (sF s) 0 0 0 else 0) + 2 * sumN (bal s) 16 + sumN (pot s) 240 ≤ _
        rw [up1_s, if_pos (by omega)]
        rw [if_pos (by omega)] at this
        omega
      · have := w8.2
        show _ ≤ up1 (sF s) 0 0 0 - sumN (fun i => sA s i 0) 16
        rw [up1_s]
        omega
    have hW2 : WF (n + 1) (stR true (dvd (sF s 0) (sumN (fun j => sB s j 4) N) (fun j => sB s j 4) N) N (uF s (up1 (sF s) 0 0))) N := by
      refine stR_W true hW1 (fun j hj => (hp j hj).1) ?_ ?_
      · have := w8.1
        rw [if_pos rfl, dvd_sum hD]
        show 2 * ((if 0 ≤ up1 (sF s) 0 0 0 then up1 (sF s) 0 0 0 else 0) + sumN (bal s) 16 + sF s 0) + sumN (pot s) 240 ≤ _
        rw [up1_s, if_pos (by omega)]
        rw [if_pos (by omega)] at this
        omega
      · rw [if_pos rfl]
        have := (W8_m.1 hW1.2.2.2.2.2.2.2).2
        omega
    refine OKL.m (v := oL (sF s 0)) (A2 := A4) (Z2 := Z4) k5 ?_ ?_ ?_ ?_ ?_ c2 g2' hW2
    · have e16 : (wL A3 0 6 0 0 (oL 0)).2 17 0 0 (16 : Int32).toNatClampNeg = oL 0 := by
        rw [show (16 : Int32).toNatClampNeg = 16 from rfl, wL_2, if_neg (by omega), b2 16 (by omega)]
        exact congrArg oL (hd2 16 (by omega) (fun k hk => by omega))
      have eA : fX9_shareFund A = some (.inr (oL (sF s 0)), A4) := by
        rw [fX9_shareFund, hS.fu, if_pos (by simp (disch := omega) only [kI_0, kI_1, kI_2, kI_3, kI_4, kI_5, kI_6, kI_7, kI_8, kI_9, kI_10, kI_12, kI_16, kI_17, kI_19, kI_20, kI_23, kI_24, kI_30, kI_32, kI_36, kI_48, kI_57, kI_59, kI_60, kI_72, kI_80, kI_84, kI_97, kI_98, kI_100, kI_122, kI_148, kI_200, kI_300, kI_1058, kI_1108, kI_1348, kI_1588, kI_5290, kI_7940, kI_100000, kI_e7, kI_e9, kL_0, kL_1, kL_5, kL_9, kL_10, kL_12, kL_23, kL_30, kL_48, kL_57, kL_59, kL_97, kL_100, kL_122, kL_1000, kL_e7, kL_e9, kL_e10, oI_lt, oI_le, oI_eq, oL_lt, oL_le, oL_eq, oI_L, oI_clamp, oI_inb, oL_nz]; omega), held hS hN, bd_eq, if_pos (by simp (disch := omega) only [kI_0, kI_1, kI_2, kI_3, kI_4, kI_5, kI_6, kI_7, kI_8, kI_9, kI_10, kI_12, kI_16, kI_17, kI_19, kI_20, kI_23, kI_24, kI_30, kI_32, kI_36, kI_48, kI_57, kI_59, kI_60, kI_72, kI_80, kI_84, kI_97, kI_98, kI_100, kI_122, kI_148, kI_200, kI_300, kI_1058, kI_1108, kI_1348, kI_1588, kI_5290, kI_7940, kI_100000, kI_e7, kI_e9, kL_0, kL_1, kL_5, kL_9, kL_10, kL_12, kL_23, kL_30, kL_48, kL_57, kL_59, kL_97, kL_100, kL_122, kL_1000, kL_e7, kL_e9, kL_e10, oI_lt, oI_le, oI_eq, oL_lt, oL_le, oL_eq, oI_L, oI_clamp, oI_inb, oL_nz]; omega), k1, bd_eq, k3.fu, ltb_eq, fX3_weighHeldShares, km1, kI_1, a3, bd2_eq, ltb_eq, bd_eq, b3, bd_eq, kL_0, ltb_eq, fX0_creditParts, s4.op, e16, oL_add, ltb_eq, show sF (uF s (up1 (sF s) 0 0)) 1 + 0 = sF s 1 from (Int.add_zero _).trans (show up1 (sF s) 0 0 1 = sF s 1 from up1_n _ _ (by omega))]
        exact (congrArg (fun x => Option.bind x fun A_8 => some ((Sum.inr (oL (sF s 0)) : Nat ⊕ Int64), A_8)) c3)
      rw [fL_shareFund, eA]; rfl
    · rw [fX10_shareFund]
      refine (z3 _).trans ?_
      have e7 : Z1.1 27 0 0 7 = oI N := (k4.g (k := 7) (by omega)).trans (by rw [g7])
      have e0' : Z1.2 30 0 0 0 = oL (sF s 0) := k4.fo (by omega)
      rw [ltb_eq, ltb_eq, tn_0, e0, if_neg (by simp (disch := omega) only [kI_0, kI_1, kI_2, kI_3, kI_4, kI_5, kI_6, kI_7, kI_8, kI_9, kI_10, kI_12, kI_16, kI_17, kI_19, kI_20, kI_23, kI_24, kI_30, kI_32, kI_36, kI_48, kI_57, kI_59, kI_60, kI_72, kI_80, kI_84, kI_97, kI_98, kI_100, kI_122, kI_148, kI_200, kI_300, kI_1058, kI_1108, kI_1348, kI_1588, kI_5290, kI_7940, kI_100000, kI_e7, kI_e9, kL_0, kL_1, kL_5, kL_9, kL_10, kL_12, kL_23, kL_30, kL_48, kL_57, kL_59, kL_97, kL_100, kL_122, kL_1000, kL_e7, kL_e9, kL_e10, oI_lt, oI_le, oI_eq, oL_lt, oL_le, oL_eq, oI_L, oI_clamp, oI_inb, oL_nz]; omega), if_neg (by simp (disch := omega) only [kI_0, kI_1, kI_2, kI_3, kI_4, kI_5, kI_6, kI_7, kI_8, kI_9, kI_10, kI_12, kI_16, kI_17, kI_19, kI_20, kI_23, kI_24, kI_30, kI_32, kI_36, kI_48, kI_57, kI_59, kI_60, kI_72, kI_80, kI_84, kI_97, kI_98, kI_100, kI_122, kI_148, kI_200, kI_300, kI_1058, kI_1108, kI_1348, kI_1588, kI_5290, kI_7940, kI_100000, kI_e7, kI_e9, kL_0, kL_1, kL_5, kL_9, kL_10, kL_12, kL_23, kL_30, kL_48, kL_57, kL_59, kL_97, kL_100, kL_122, kL_1000, kL_e7, kL_e9, kL_e10, oI_lt, oI_le, oI_eq, oL_lt, oL_le, oL_eq, oI_L, oI_clamp, oI_inb, oL_nz]; omega)]
      dsimp only
      rw [ltb_eq, thr_yes, k2', bd_eq, e0', ltb_eq, tn_7, e7, d3, bd_eq, kL_0, ltb_eq]
      exact g3' _
    · rw [g1'.i rfl, wL_1, d1.i rfl]; exact k6
    · exact Fr.trans (Fr.trans (wk_mvA f3) (((Fr.refl _).wL rfl).wL rfl)) (m26_mv c1)
    · exact Fr.trans (Fr.trans (wk_mvZ (pDz_wk d1)) ((Fr.refl _).wL rfl)) (m30_mv g1')
  · refine OKL.t (r := 1) (v := 0) (Z' := wI Z2 10 6 0 0 1) hI ?_ ?_ (thr_g Z2 _) (by decide) (Fr.refl _) (Fr.trans (pWz_wk z1) (frT Z2 _))
    · have eA : fX9_shareFund A = some (.inl 2, A) := by
        rw [fX9_shareFund, hS.fu]
        by_cases q : 0 < sF s 0
        · rw [if_pos (by simp (disch := omega) only [kI_0, kI_1, kI_2, kI_3, kI_4, kI_5, kI_6, kI_7, kI_8, kI_9, kI_10, kI_12, kI_16, kI_17, kI_19, kI_20, kI_23, kI_24, kI_30, kI_32, kI_36, kI_48, kI_57, kI_59, kI_60, kI_72, kI_80, kI_84, kI_97, kI_98, kI_100, kI_122, kI_148, kI_200, kI_300, kI_1058, kI_1108, kI_1348, kI_1588, kI_5290, kI_7940, kI_100000, kI_e7, kI_e9, kL_0, kL_1, kL_5, kL_9, kL_10, kL_12, kL_23, kL_30, kL_48, kL_57, kL_59, kL_97, kL_100, kL_122, kL_1000, kL_e7, kL_e9, kL_e10, oI_lt, oI_le, oI_eq, oL_lt, oL_le, oL_eq, oI_L, oI_clamp, oI_inb, oL_nz]; omega), held hS hN, bd_eq, if_neg (by simp (disch := omega) only [kI_0, kI_1, kI_2, kI_3, kI_4, kI_5, kI_6, kI_7, kI_8, kI_9, kI_10, kI_12, kI_16, kI_17, kI_19, kI_20, kI_23, kI_24, kI_30, kI_32, kI_36, kI_48, kI_57, kI_59, kI_60, kI_72, kI_80, kI_84, kI_97, kI_98, kI_100, kI_122, kI_148, kI_200, kI_300, kI_1058, kI_1108, kI_1348, kI_1588, kI_5290, kI_7940, kI_100000, kI_e7, kI_e9, kL_0, kL_1, kL_5, kL_9, kL_10, kL_12, kL_23, kL_30, kL_48, kL_57, kL_59, kL_97, kL_100, kL_122, kL_1000, kL_e7, kL_e9, kL_e10, oI_lt, oI_le, oI_eq, oL_lt, oL_le, oL_eq, oI_L, oI_clamp, oI_inb, oL_nz]; omega)]
        · rw [if_neg (by simp (disch := omega) only [kI_0, kI_1, kI_2, kI_3, kI_4, kI_5, kI_6, kI_7, kI_8, kI_9, kI_10, kI_12, kI_16, kI_17, kI_19, kI_20, kI_23, kI_24, kI_30, kI_32, kI_36, kI_48, kI_57, kI_59, kI_60, kI_72, kI_80, kI_84, kI_97, kI_98, kI_100, kI_122, kI_148, kI_200, kI_300, kI_1058, kI_1108, kI_1348, kI_1588, kI_5290, kI_7940, kI_100000, kI_e7, kI_e9, kL_0, kL_1, kL_5, kL_9, kL_10, kL_12, kL_23, kL_30, kL_48, kL_57, kL_59, kL_97, kL_100, kL_122, kL_1000, kL_e7, kL_e9, kL_e10, oI_lt, oI_le, oI_eq, oL_lt, oL_le, oL_eq, oI_L, oI_clamp, oI_inb, oL_nz]; omega)]
      rw [fL_shareFund, eA]; rfl
    · rw [fX10_shareFund]
      refine (z3 _).trans ?_
      rw [ltb_eq, ltb_eq, tn_0, e0]
      by_cases q : 0 < sF s 0
      · rw [if_neg (by simp (disch := omega) only [kI_0, kI_1, kI_2, kI_3, kI_4, kI_5, kI_6, kI_7, kI_8, kI_9, kI_10, kI_12, kI_16, kI_17, kI_19, kI_20, kI_23, kI_24, kI_30, kI_32, kI_36, kI_48, kI_57, kI_59, kI_60, kI_72, kI_80, kI_84, kI_97, kI_98, kI_100, kI_122, kI_148, kI_200, kI_300, kI_1058, kI_1108, kI_1348, kI_1588, kI_5290, kI_7940, kI_100000, kI_e7, kI_e9, kL_0, kL_1, kL_5, kL_9, kL_10, kL_12, kL_23, kL_30, kL_48, kL_57, kL_59, kL_97, kL_100, kL_122, kL_1000, kL_e7, kL_e9, kL_e10, oI_lt, oI_le, oI_eq, oL_lt, oL_le, oL_eq, oI_L, oI_clamp, oI_inb, oL_nz]; omega), if_pos (by simp (disch := omega) only [kI_0, kI_1, kI_2, kI_3, kI_4, kI_5, kI_6, kI_7, kI_8, kI_9, kI_10, kI_12, kI_16, kI_17, kI_19, kI_20, kI_23, kI_24, kI_30, kI_32, kI_36, kI_48, kI_57, kI_59, kI_60, kI_72, kI_80, kI_84, kI_97, kI_98, kI_100, kI_122, kI_148, kI_200, kI_300, kI_1058, kI_1108, kI_1348, kI_1588, kI_5290, kI_7940, kI_100000, kI_e7, kI_e9, kL_0, kL_1, kL_5, kL_9, kL_10, kL_12, kL_23, kL_30, kL_48, kL_57, kL_59, kL_97, kL_100, kL_122, kL_1000, kL_e7, kL_e9, kL_e10, oI_lt, oI_le, oI_eq, oL_lt, oL_le, oL_eq, oI_L, oI_clamp, oI_inb, oL_nz]; omega)]
        dsimp only
        rw [ltb_eq, thr_no (by decide)]
      · rw [if_pos (by simp (disch := omega) only [kI_0, kI_1, kI_2, kI_3, kI_4, kI_5, kI_6, kI_7, kI_8, kI_9, kI_10, kI_12, kI_16, kI_17, kI_19, kI_20, kI_23, kI_24, kI_30, kI_32, kI_36, kI_48, kI_57, kI_59, kI_60, kI_72, kI_80, kI_84, kI_97, kI_98, kI_100, kI_122, kI_148, kI_200, kI_300, kI_1058, kI_1108, kI_1348, kI_1588, kI_5290, kI_7940, kI_100000, kI_e7, kI_e9, kL_0, kL_1, kL_5, kL_9, kL_10, kL_12, kL_23, kL_30, kL_48, kL_57, kL_59, kL_97, kL_100, kL_122, kL_1000, kL_e7, kL_e9, kL_e10, oI_lt, oI_le, oI_eq, oL_lt, oL_le, oL_eq, oI_L, oI_clamp, oI_inb, oL_nz]; omega)]
        dsimp only
        rw [ltb_eq, thr_no (by decide)]
theorem case39 : CaseOK fL_case39 := by
  intro n L A Z xs x4 hn hI hin
  rw [fL_case39]
  exact OKL.c (sfd hn hI)
