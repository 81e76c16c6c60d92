section
variable {s : sS} {N n : Nat} {p c : Nat → Int}
theorem W8_op {v : Int} (h : W8 n s) : W8 n (uF s (up1 (sF s) 1 v)) := by
  refine ⟨?_, ?_⟩
  · show 2 * (if 0 ≤ up1 (sF s) 1 v 0 then up1 (sF s) 1 v 0 else 0) + 2 * sumN (bal s) 16 + sumN (pot s) 240 ≤ _
    rw [up1_n _ _ (by omega)]; exact h.1
  · show _ ≤ up1 (sF s) 1 v 0 - sumN (fun i => sA s i 0) 16
    rw [up1_n _ _ (by omega)]; exact h.2
theorem WF_nx (hW : WF n s N) (hB : emB s N c) (hp : ∀ j, j < N → 0 ≤ p j) (h6 : sG s 6 = 30) (h5 : sG s 5 < 59) (hV : sumN (fun j => if sB s j 3 = 1 then c j else p j) N ≤ worth s (sG s 5).toNat) : WF n (nxM (emR p c N s)) N := by
  obtain ⟨w1, w2, w3, w4, w5, w6, w7, w8⟩ := id hW
  obtain ⟨g0, g1, g2, g3, g4, g5, g6, g7, hN⟩ := id w1
  have hsm := emR_same p c N s
  have eQ := emR_Q p c N s
  have g : ∀ k, ¬ k = 5 → ¬ k = 6 → sG (nxM (emR p c N s)) k = sG s k := fun k h1 h2 => by
    show up1 (up1 (sG (emR p c N s)) 5 (sG (emR p c N s) 5 + 1)) 6 0 k = _
    rw [up1_n _ _ h2, up1_n _ _ h1, hsm.1]
  have gm : sG (nxM (emR p c N s)) 5 = sG s 5 + 1 := by
    show up1 (up1 (sG (emR p c N s)) 5 (sG (emR p c N s) 5 + 1)) 6 0 5 = _
    rw [up1_n _ _ (by omega), up1_s, hsm.1]
  have gd6 : sG (nxM (emR p c N s)) 6 = 0 := by
    show up1 (up1 (sG (emR p c N s)) 5 (sG (emR p c N s) 5 + 1)) 6 0 6 = _
    rw [up1_s]
  have eB : sB (nxM (emR p c N s)) = sB s := hsm.2.2.2.1
  have eD : sD (nxM (emR p c N s)) = sD s := hsm.2.2.2.2.1
  have eE : sE (nxM (emR p c N s)) = sE s := hsm.2.2.2.2.2.1
  have eC : sC (nxM (emR p c N s)) = sC s := hsm.2.2.2.2.2.2
  have eH : sH (nxM (emR p c N s)) = sH s := hsm.2.1
  have eR : sRt (nxM (emR p c N s)) = sRt s := hsm.2.2.1
  have rA : ∀ j, j < N → sB s j 3 = 1 → (∀ w, sA (nxM (emR p c N s)) j w = emA s j (c j) j w) ∧ ∀ m, sT (nxM (emR p c N s)) j m = emT s j (c j) j m := fun j hj q => by
    have h9 := emQ_row c N s j hj q
    show (∀ w, sA (emR p c N s) j w = _) ∧ ∀ m, sT (emR p c N s) j m = _
    rw [eQ]; exact h9
  have rN : ∀ j, ¬ (j < N ∧ sB s j 3 = 1) → (∀ w, sA (nxM (emR p c N s)) j w = sA s j w) ∧ ∀ m, sT (nxM (emR p c N s)) j m = sT s j m := fun j q => by
    show (∀ w, sA (emR p c N s) j w = _) ∧ ∀ m, sT (emR p c N s) j m = _
    by_cases q2 : j < N
    · have h9 := emQ_no c N s j (fun e => q ⟨q2, e⟩)
      rw [eQ]; exact h9
    · exact emR_hi p c N s j (by omega)
  refine ⟨?_, ?_, ?_, ?_, ⟨?_, ?_, fun m' j hm' hj q => ?_, fun m' q => ?_, fun m' q => ?_⟩, ⟨?_, fun m' q hm' hq => ⟨fun h => ?_, fun h => ?_, fun h => ?_⟩⟩, ⟨fun j hj => ?_, fun j h1 h2 => ?_, fun j hj q => ?_, fun j m' hj hm' q => ?_⟩, W8_m.2 ⟨?_, ?_⟩⟩
  · simp only [W1]; rw [g 0 (by omega) (by omega), g 1 (by omega) (by omega), g 2 (by omega) (by omega), g 3 (by omega) (by omega), g 4 (by omega) (by omega), gm, gd6, g 7 (by omega) (by omega)]
    exact ⟨g0, g1, g2, g3, g4, by omega, by omega, g7, hN⟩
  · simp only [W2]; rw [eH, eR, g 4 (by omega) (by omega)]; exact w2
  · simp only [W3]; rw [eB, g 0 (by omega) (by omega)]; exact w3
  · simp only [W4]; rw [eB]; exact w4
  · rw [eD]; exact w5.1
  · rw [eD]; exact w5.2.1
  · rw [gm] at q; rw [eD]; exact w5.2.2.1 m' j hm' hj (by omega)
  · rw [gm] at q; rw [eD, g 0 (by omega) (by omega)]
    by_cases e : (m' : Int) = sG s 5
    · have := w5.2.2.2.2 m' e
      rw [h6] at this; exact this
    · exact w5.2.2.2.1 m' (by omega)
  · rw [gm] at q; rw [eD, gd6, Int.zero_mul, sumN_zero (fun i hi => w5.2.2.1 m' i (by omega) (by omega) (by omega))]; omega
  · rw [eE, eC]; exact w6.1
  · rw [gm] at h; rw [eE]; exact (w6.2 m' q hm' hq).1 (by omega)
  · rw [gm] at h; rw [eC]; exact (w6.2 m' q hm' hq).2.1 (by omega)
  · rw [g 4 (by omega) (by omega)] at h; rw [eE, eC]; exact (w6.2 m' q hm' hq).2.2 h
  · have h9 := w7.1 j hj
    by_cases q : j < N ∧ sB s j 3 = 1
    · obtain ⟨b1, b2, b3⟩ := hB j q.1
      obtain ⟨r1, r2⟩ := rA j q.1 q.2
      have hm := mn_le (sA s j 0) (c j)
      have hn := eT1_nn (t := s) (i := j) b1.1 (fun k hk => (b2 k hk).1) ⟨g5.1, g5.2⟩
      rw [r1 0, r1 1, emA, emA, if_pos rfl, if_pos rfl, mA, mA, if_pos rfl, if_neg (by omega), if_pos rfl]
      refine ⟨by omega, by omega, by omega, fun k hk => ?_⟩
      rw [r2 k, emT, if_pos ⟨rfl, hk⟩]
      split
      · omega
      · exact (payd_bd h9.2.1 (fun l hl => hn l (by omega))).1
    · obtain ⟨r1, r2⟩ := rN j q
      rw [r1 0, r1 1]
      exact ⟨h9.1, h9.2.1, h9.2.2.1, fun k hk => by rw [r2 k]; exact h9.2.2.2 k hk⟩
  · obtain ⟨r1, r2⟩ := rN j (by omega)
    have h9 := w7.2.1 j h1 h2
    exact ⟨fun w hw => by rw [r1 w]; exact h9.1 w hw, fun k hk => by rw [r2 k]; exact h9.2 k hk⟩
  · rw [eB] at q ⊢
    obtain ⟨r1, r2⟩ := rN j (fun h => q h.2)
    have h9 := w7.2.2.1 j hj q
    rw [r1 0, r1 1, r1 3]
    exact ⟨h9.1, h9.2.1, fun k hk => by rw [r2 k]; exact h9.2.2.1 k hk, h9.2.2.2⟩
  · rw [gm, g 1 (by omega) (by omega)] at q
    by_cases q2 : j < N ∧ sB s j 3 = 1
    · obtain ⟨b1, b2, b3⟩ := hB j q2.1
      obtain ⟨r1, r2⟩ := rA j q2.1 q2.2
      have hn := eT1_nn (t := s) (i := j) b1.1 (fun k hk => (b2 k hk).1) ⟨g5.1, g5.2⟩
      rw [r2 m', emT, if_pos ⟨rfl, hm'⟩]
      by_cases q3 : sG s 1 ≤ sG s 5 ∧ m' = (sG s 5).toNat - (sG s 1).toNat
      · rw [if_pos q3]
      · rw [if_neg q3]
        have h8 := w7.2.2.2 j m' hj hm' (by omega)
        have h7 : eT1 s j (c j) m' = 0 := by rw [eT1, mT1, up1_n _ _ (by omega)]; exact h8
        have h6 := payd_bd (w7.1 j hj).2.1 (f := eT1 s j (c j)) (m := m') (fun l hl => hn l (by omega))
        omega
    · rw [(rN j q2).2 m']
      by_cases q4 : j < N
      · exact (w7.2.2.1 j q4 (fun e => q2 ⟨q4, e⟩)).2.2.1 m' hm'
      · exact (w7.2.1 j (by omega) hj).2 m' hm'
  · obtain ⟨m1, m2⟩ := emR_m hN ⟨g5.1, g5.2⟩ hB hp N (Nat.le_refl _)
    have h9 := (W8_m.1 w8).1
    have h8 := nx_pot (hsm.w1 w1) (hsm.w2 w2) (hsm.w6 w6)
    rw [same_pot hsm, show worth (emR p c N s) (sG (emR p c N s) 5).toNat = worth s (sG s 5).toNat by rw [worth, worth, hsm.1, hsm.2.2.1, hsm.2.2.2.2.2.1]] at h8
    show 2 * mM (emR p c N s) + _ ≤ _
    omega
  · obtain ⟨m1, m2⟩ := emR_m hN ⟨g5.1, g5.2⟩ hB hp N (Nat.le_refl _)
    have h9 := (W8_m.1 w8).2
    show _ ≤ mE (emR p c N s)
    omega
end
theorem enm {n : Nat} {A Z : sM} (hn : n < 512) (hI : Inv n A Z) : OKL n (fL_endMonth A) (fX10_endMonth Z) := by
  obtain ⟨⟨s, N, hS, hZ, hW⟩, hR⟩ := id hI
  obtain ⟨w1, w2, w3, w4, w5, w6, w7, w8⟩ := id hW
  obtain ⟨g0, g1, g2, g3, g4, g5, g6, g7, hN⟩ := id w1
  have e5 : Z.1 27 0 0 5 = oI (sG s 5) := hZ.g (by omega)
  have e6 : Z.1 27 0 0 6 = oI (sG s 6) := hZ.g (by omega)
  have tn_6 : (6 : Int32).toNatClampNeg = 6 := rfl
  by_cases hc : sG s 6 = 30 ∧ sG s 5 < 59
  · obtain ⟨A1, Z1, k1, k2, k3, k4, k5, k6, k7⟩ := keep0 ⟨hS, hZ, hW⟩ hR
    have k2' : fX10_keeps (wI Z 10 6 0 0 (0 : Int32)) = some Z1 := k2
    obtain ⟨m, hm⟩ : ∃ m : Nat, sG s 5 = m := ⟨(sG s 5).toNat, by omega⟩
    obtain ⟨e, he⟩ : ∃ e : Nat, sG s 1 = e := ⟨(sG s 1).toNat, by omega⟩
    have hwb := worth_bd w1 w2 w6 (m := m) (by omega)
    have hD := DVm (V := worth s m) w1 w3 w5 (a := m) (d := 0) (by omega) (by omega) (by have := hs_proj w1 w3 w5 hm; rw [hc.1] at this; exact this) (by omega)
    obtain ⟨d, hA⟩ := AS_of w4
    obtain ⟨tot, hT⟩ := TT_ex (c := fun k => if sB s k 3 = 1 then pt s N m 0 (worth s m) k else 0) hA
    obtain ⟨c1, c2, c3, c4⟩ := cs_le hD (by omega)
    generalize hkp : kp (fun k => if sB s k 3 = 1 then pt s N m 0 (worth s m) k else 0) (toS s) (pcS s) tot N = kc
    have hkb : ∀ k, k < N → 0 ≤ kc k ∧ kc k ≤ 1000000000000 := fun k hk => by
      have := kp_bd hA hT c3 hk
      rw [hkp] at this; omega
    have hks : sumN kc N = sumN (fun k => if sB s k 3 = 1 then pt s N m 0 (worth s m) k else 0) N := by rw [← hkp]; exact kp_sum hA hT c3
    have hkn : ∀ k, k < N → ¬ sB s k 3 = 1 → kc k = 0 := fun k hk q => by rw [← hkp]; exact kp_na w4 hk q
    have hB : emB s N kc := fun j hj => by
      have b1 := hkb j hj
      have b2 := (bal_bd w7 w8 w2 w6 (by omega) (show j < 16 by omega)).2
      have b3 := (debt_bd w7 w8 w2 w6 (by omega) (show j < 16 by omega)).1
      have b4 := w7.1 j (by omega)
      exact ⟨by omega, fun k hk => by have := b2 k hk; omega, by omega⟩
    -- the system
    obtain ⟨A2, A3, A4, a1, a2, a3, a4, a5, a6, a7, a8, a9⟩ := prjA k3 w1 w3 w5 hA (a := m) (d9 := 0) (by omega) (by omega) hD (by omega) hT
    have f4 : Fr wkA A1 A4 := (pW_wk a1).trans ((pD_wk a3).trans (pK_wk a7))
    have s4 : SR A4 0 s N := k3.wk f4 hN (by omega)
    have s5 := s4.wF1 (z0 := 0) (v := sF s 1 + pt s N m 0 (worth s m) N) rfl
    obtain ⟨A5, b1, b2, b3⟩ := cmA_L (s := uF s (up1 (sF s) 1 (sF s 1 + pt s N m 0 (worth s m) N))) (p := pt s N m 0 (worth s m)) (c := kc) (m := m) (e := e) hN w3 hm (by omega) he (by omega) hB 10000 0 _ (by omega) (by omega) s5 (fun j hj => by rw [wL_2, if_neg (by omega), a7.l rfl]; exact a5 j hj) (fun j hj => by rw [wL_2, if_neg (by omega), ← hkp]; exact a9 j hj)
    have s6 := (b2.wMon (z0 := 0) (v := sG s 5 + 1) rfl).wDay (z0 := 0) (v := 0) rfl
    -- the reference
    obtain ⟨Z2, d1, d2, d3⟩ := dvm k4 w1 w3 w5 (m := m) (d := 0) (by omega) (by omega) hD
    have t2 : ZR (zA Z2) (zB Z2) s := k4.keep (fun k => d1.i rfl) (fun k => d1.l rfl)
    have t3 := t2.wF (k0 := 1) (v := sF s 1 + pt s N m 0 (worth s m) N) (by omega)
    have eo : Z2.2 30 0 0 1 = oL (sF s 1) := t2.fo (by omega)
    have z7 : Z2.1 27 0 0 7 = oI N := (t2.g (k := 7) (by omega)).trans (by rw [g7])
    obtain ⟨Z3, f1, f2, f3, f4'⟩ := rvZ_L (s := uF s (up1 (sF s) 1 (sF s 1 + pt s N m 0 (worth s m) N))) (p := pt s N m 0 (worth s m)) w1 w3 (oL (worth s m)) 10000 0 _ (by omega) (by omega) (by rw [sumN, inS_0]; exact t3) (fun j hj => by rw [wL_2, if_neg (by omega)]; exact d2 j (by omega)) (fun j hj => by omega)
    obtain ⟨Z4, v1, v2, v3⟩ := poZ f2 w1 hA hT c3 c4 f3
    have t4 := f2.keep (I' := zA Z4) (L' := zB Z4) (fun k => v1.i rfl) (fun k => v1.l rfl)
    obtain ⟨Z5, q1, q2, q3⟩ := enZ2_L (s := inS (uF s (up1 (sF s) 1 (sF s 1 + pt s N m 0 (worth s m) N))) (sumN (fun j => if sB s j 3 = 1 then 0 else pt s N m 0 (worth s m) j) N)) (c := kc) (m := m) (e := e) w1 w3 hm (by omega) he (by omega) hB (oL (worth s m)) 10000 0 Z4 (by omega) (by omega) t4 (fun j hj => by rw [← hkp]; exact v2 j hj)
    rw [emQ_in, show inS (emQ kc N (uF s (up1 (sF s) 1 (sF s 1 + pt s N m 0 (worth s m) N)))) (sumN (fun j => if sB s j 3 = 1 then 0 else pt s N m 0 (worth s m) j) N) = emR (pt s N m 0 (worth s m)) kc N (uF s (up1 (sF s) 1 (sF s 1 + pt s N m 0 (worth s m) N))) from (emR_Q _ _ _ _).symm] at q2
    have hsm := emR_same (pt s N m 0 (worth s m)) kc N (uF s (up1 (sF s) 1 (sF s 1 + pt s N m 0 (worth s m) N)))
    have x5 : Z5.1 27 0 0 5 = oI (sG s 5) := (q2.g (k := 5) (by omega)).trans (by rw [hsm.1])
    have t6 := (q2.wG (k0 := 5) (v := sG s 5 + 1) (by omega)).wG (k0 := 6) (v := 0) (by omega)
    have hst : uG (uG (emR (pt s N m 0 (worth s m)) kc N (uF s (up1 (sF s) 1 (sF s 1 + pt s N m 0 (worth s m) N)))) (up1 (sG (emR (pt s N m 0 (worth s m)) kc N (uF s (up1 (sF s) 1 (sF s 1 + pt s N m 0 (worth s m) N))))) 5 (sG s 5 + 1))) (up1 (up1 (sG (emR (pt s N m 0 (worth s m)) kc N (uF s (up1 (sF s) 1 (sF s 1 + pt s N m 0 (worth s m) N))))) 5 (sG s 5 + 1)) 6 0) = nxM (emR (pt s N m 0 (worth s m)) kc N (uF s (up1 (sF s) 1 (sF s 1 + pt s N m 0 (worth s m) N)))) := by
      rw [nxM, hsm.1]
    have s7 : SR (wI (wI A5 0 4 0 0 (oI (sG s 5 + 1))) 0 5 0 0 (oI 0)) 0 (nxM (emR (pt s N m 0 (worth s m)) kc N (uF s (up1 (sF s) 1 (sF s 1 + pt s N m 0 (worth s m) N))))) N := by
      rw [← hst]; exact s6
    have t7 : ZR (zA (wI (wI Z5 27 0 0 5 (oI (sG s 5 + 1))) 27 0 0 6 (oI 0))) (zB (wI (wI Z5 27 0 0 5 (oI (sG s 5 + 1))) 27 0 0 6 (oI 0))) (nxM (emR (pt s N m 0 (worth s m)) kc N (uF s (up1 (sF s) 1 (sF s 1 + pt s N m 0 (worth s m) N))))) := by
      rw [← hst]; exact t6
    have hW1 : WF n (uF s (up1 (sF s) 1 (sF s 1 + pt s N m 0 (worth s m) N))) N := by
      exact ⟨w1, w2, w3, w4, w5, w6, w7, W8_op w8⟩
    have hVs : sumN (fun j => if sB s j 3 = 1 then kc j else pt s N m 0 (worth s m) j) N ≤ worth s m := by
      have e1 : sumN (fun j => if sB s j 3 = 1 then kc j else pt s N m 0 (worth s m) j) N = sumN kc N + sumN (fun j => if sB s j 3 = 1 then 0 else pt s N m 0 (worth s m) j) N := by
        rw [← sumN_add]
        refine sumN_congr fun j hj => ?_
        by_cases q : sB s j 3 = 1
        · simp only [if_pos q]; omega
        · simp only [if_neg q]; rw [hkn j hj q]; omega
      have e2 : sumN (fun k => if sB s k 3 = 1 then pt s N m 0 (worth s m) k else 0) N + sumN (fun j => if sB s j 3 = 1 then 0 else pt s N m 0 (worth s m) j) N = sumN (pt s N m 0 (worth s m)) N := by
        rw [← sumN_add]
        refine sumN_congr fun j hj => ?_
        by_cases q : sB s j 3 = 1
        · simp only [if_pos q]; omega
        · simp only [if_neg q]; omega
      have e3 := sumN_lt (pt s N m 0 (worth s m)) c2
      have e4 : sumN (pt s N m 0 (worth s m)) (N + 1) = worth s m := dvd_sum hD
      omega
    have hW2 : WF n (nxM (emR (pt s N m 0 (worth s m)) kc N (uF s (up1 (sF s) 1 (sF s 1 + pt s N m 0 (worth s m) N))))) N := WF_nx hW1 hB c1 hc.1 hc.2 (by
      show sumN (fun j => if sB s j 3 = 1 then kc j else pt s N m 0 (worth s m) j) N ≤ worth s (sG s 5).toNat
      rw [hm, cl_nat]; exact hVs)
    refine OKL.m (v := oL (worth s m)) (A2 := wI (wI A5 0 4 0 0 (oI (sG s 5 + 1))) 0 5 0 0 (oI 0)) (Z2 := wI (wI Z5 27 0 0 5 (oI (sG s 5 + 1))) 27 0 0 6 (oI 0)) k5 ?_ ?_ ?_ ?_ ?_ s7 t7 (hW2.mono (by omega))
    · have e16 : A4.2 17 0 0 (16 : Int32).toNatClampNeg = oL (pt s N m 0 (worth s m) N) := by rw [a7.l rfl]; exact a6
      have m5 : A5.1 0 4 0 0 = oI (sG s 5) := b2.mon.trans (by rw [hsm.1])
      have a2' : fX3_weighShareDays 0 (oI m) (0 : Int32) A1 = some A2 := a2
      have eA : fX9_endMonth A = some (.inr (oL (worth s m)), wI (wI A5 0 4 0 0 (oI (sG s 5 + 1))) 0 5 0 0 (oI 0)) := by
        rw [fX9_endMonth, hS.day, hS.mon, if_pos (by simp (disch := omega) only [kI_0, kI_1, kI_2, kI_3, kI_4, kI_5, kI_6, kI_7, kI_8, kI_9, kI_10, kI_12, kI_16, kI_17, kI_19, kI_20, kI_23, kI_24, kI_30, kI_32, kI_36, kI_48, kI_57, kI_59, kI_60, kI_72, kI_80, kI_84, kI_97, kI_98, kI_100, kI_122, kI_148, kI_200, kI_300, kI_1058, kI_1108, kI_1348, kI_1588, kI_5290, kI_7940, kI_100000, kI_e7, kI_e9, kL_0, kL_1, kL_5, kL_9, kL_10, kL_12, kL_23, kL_30, kL_48, kL_57, kL_59, kL_97, kL_100, kL_122, kL_1000, kL_e7, kL_e9, kL_e10, oI_lt, oI_le, oI_eq, oL_lt, oL_le, oL_eq, oI_L, oI_clamp, oI_inb, oL_nz]; omega), if_pos (by simp (disch := omega) only [kI_0, kI_1, kI_2, kI_3, kI_4, kI_5, kI_6, kI_7, kI_8, kI_9, kI_10, kI_12, kI_16, kI_17, kI_19, kI_20, kI_23, kI_24, kI_30, kI_32, kI_36, kI_48, kI_57, kI_59, kI_60, kI_72, kI_80, kI_84, kI_97, kI_98, kI_100, kI_122, kI_148, kI_200, kI_300, kI_1058, kI_1108, kI_1348, kI_1588, kI_5290, kI_7940, kI_100000, kI_e7, kI_e9, kL_0, kL_1, kL_5, kL_9, kL_10, kL_12, kL_23, kL_30, kL_48, kL_57, kL_59, kL_97, kL_100, kL_122, kL_1000, kL_e7, kL_e9, kL_e10, oI_lt, oI_le, oI_eq, oL_lt, oL_le, oL_eq, oI_L, oI_clamp, oI_inb, oL_nz]; omega), k1, bd_eq, k3.mon, hm, val k3 w1 w2 w6 (by omega), bd_eq, a2', bd_eq, a4, bd_eq, a8, bd_eq, fX0_closeMonth, s4.op, e16, oL_add, ltb_eq]
        refine Eq.trans (congrArg (fun x => Option.bind x _) (b3 _)) ?_
        rw [m5, hm, kI_1, oI_add, ltb_eq, kI_0, ltb_eq, bd_eq]
      rw [fL_endMonth, eA]; rfl
    · have d3' : fX10_dividesMonth (oL (worth s m)) (oI m) (0 : Int32) Z1 = some Z2 := d3
      have y5 : Z1.1 27 0 0 5 = oI m := (k4.g (k := 5) (by omega)).trans (by rw [hm])
      rw [fX10_endMonth, ltb_eq, ltb_eq, tn_6, tn_5, e6, e5, if_neg (by simp (disch := omega) only [kI_0, kI_1, kI_2, kI_3, kI_4, kI_5, kI_6, kI_7, kI_8, kI_9, kI_10, kI_12, kI_16, kI_17, kI_19, kI_20, kI_23, kI_24, kI_30, kI_32, kI_36, kI_48, kI_57, kI_59, kI_60, kI_72, kI_80, kI_84, kI_97, kI_98, kI_100, kI_122, kI_148, kI_200, kI_300, kI_1058, kI_1108, kI_1348, kI_1588, kI_5290, kI_7940, kI_100000, kI_e7, kI_e9, kL_0, kL_1, kL_5, kL_9, kL_10, kL_12, kL_23, kL_30, kL_48, kL_57, kL_59, kL_97, kL_100, kL_122, kL_1000, kL_e7, kL_e9, kL_e10, oI_lt, oI_le, oI_eq, oL_lt, oL_le, oL_eq, oI_L, oI_clamp, oI_inb, oL_nz]; omega), if_neg (by simp (disch := omega) only [kI_0, kI_1, kI_2, kI_3, kI_4, kI_5, kI_6, kI_7, kI_8, kI_9, kI_10, kI_12, kI_16, kI_17, kI_19, kI_20, kI_23, kI_24, kI_30, kI_32, kI_36, kI_48, kI_57, kI_59, kI_60, kI_72, kI_80, kI_84, kI_97, kI_98, kI_100, kI_122, kI_148, kI_200, kI_300, kI_1058, kI_1108, kI_1348, kI_1588, kI_5290, kI_7940, kI_100000, kI_e7, kI_e9, kL_0, kL_1, kL_5, kL_9, kL_10, kL_12, kL_23, kL_30, kL_48, kL_57, kL_59, kL_97, kL_100, kL_122, kL_1000, kL_e7, kL_e9, kL_e10, oI_lt, oI_le, oI_eq, oL_lt, oL_le, oL_eq, oI_L, oI_clamp, oI_inb, oL_nz]; omega)]
      dsimp only
      rw [ltb_eq, thr_yes, k2', bd_eq, y5, wor k4 w1 w2 w6 (by omega), bd_eq, d3', bd_eq, tn_7, z7, inbA (by omega) (by omega), gd_true, clpA (by omega), tn_1, eo, d2 N (Nat.le_refl _), oL_add, ltb_eq]
      refine (f4' _).trans ?_
      rw [v3, bd_eq]
      refine (q3 _).trans ?_
      rw [x5, kI_1, oI_add, ltb_eq, kI_0, ltb_eq]
    · rw [wI_1, if_neg (by omega), wI_1, if_neg (by omega), q1.i rfl, v1.i rfl, f1.i rfl, wL_1, d1.i rfl]; exact k6
    · exact ((Fr.trans ((wk_mvA f4).wL rfl) (m26_mv b1)).wI rfl).wI rfl
    · exact ((Fr.trans (Fr.trans (Fr.trans ((wk_mvZ (pZ_wk d1)).wL rfl) (m37_mv f1)) (wk_mvZ (p37_wk v1))) (m30_mv q1)).wI rfl).wI rfl
  · refine OKL.t (r := 1) (v := 0) (Z' := wI Z 10 6 0 0 1) hI ?_ ?_ (thr_g Z _) (by decide) (Fr.refl _) (frT Z _)
    · have eA : fX9_endMonth A = some (.inl 2, A) := by
        rw [fX9_endMonth, hS.day, hS.mon]
        by_cases q : sG s 6 = 30
        · rw [if_pos (by simp (disch := omega) only [kI_0, kI_1, kI_2, kI_3, kI_4, kI_5, kI_6, kI_7, kI_8, kI_9, kI_10, kI_12, kI_16, kI_17, kI_19, kI_20, kI_23, kI_24, kI_30, kI_32, kI_36, kI_48, kI_57, kI_59, kI_60, kI_72, kI_80, kI_84, kI_97, kI_98, kI_100, kI_122, kI_148, kI_200, kI_300, kI_1058, kI_1108, kI_1348, kI_1588, kI_5290, kI_7940, kI_100000, kI_e7, kI_e9, kL_0, kL_1, kL_5, kL_9, kL_10, kL_12, kL_23, kL_30, kL_48, kL_57, kL_59, kL_97, kL_100, kL_122, kL_1000, kL_e7, kL_e9, kL_e10, oI_lt, oI_le, oI_eq, oL_lt, oL_le, oL_eq, oI_L, oI_clamp, oI_inb, oL_nz]; omega), if_neg (by simp (disch := omega) only [kI_0, kI_1, kI_2, kI_3, kI_4, kI_5, kI_6, kI_7, kI_8, kI_9, kI_10, kI_12, kI_16, kI_17, kI_19, kI_20, kI_23, kI_24, kI_30, kI_32, kI_36, kI_48, kI_57, kI_59, kI_60, kI_72, kI_80, kI_84, kI_97, kI_98, kI_100, kI_122, kI_148, kI_200, kI_300, kI_1058, kI_1108, kI_1348, kI_1588, kI_5290, kI_7940, kI_100000, kI_e7, kI_e9, kL_0, kL_1, kL_5, kL_9, kL_10, kL_12, kL_23, kL_30, kL_48, kL_57, kL_59, kL_97, kL_100, kL_122, kL_1000, kL_e7, kL_e9, kL_e10, oI_lt, oI_le, oI_eq, oL_lt, oL_le, oL_eq, oI_L, oI_clamp, oI_inb, oL_nz]; omega)]
        · rw [if_neg (by simp (disch := omega) only [kI_0, kI_1, kI_2, kI_3, kI_4, kI_5, kI_6, kI_7, kI_8, kI_9, kI_10, kI_12, kI_16, kI_17, kI_19, kI_20, kI_23, kI_24, kI_30, kI_32, kI_36, kI_48, kI_57, kI_59, kI_60, kI_72, kI_80, kI_84, kI_97, kI_98, kI_100, kI_122, kI_148, kI_200, kI_300, kI_1058, kI_1108, kI_1348, kI_1588, kI_5290, kI_7940, kI_100000, kI_e7, kI_e9, kL_0, kL_1, kL_5, kL_9, kL_10, kL_12, kL_23, kL_30, kL_48, kL_57, kL_59, kL_97, kL_100, kL_122, kL_1000, kL_e7, kL_e9, kL_e10, oI_lt, oI_le, oI_eq, oL_lt, oL_le, oL_eq, oI_L, oI_clamp, oI_inb, oL_nz]; omega)]
      rw [fL_endMonth, eA]; rfl
    · rw [fX10_endMonth, ltb_eq, ltb_eq, tn_6, tn_5, e6, e5]
      by_cases q : sG s 6 = 30
      · rw [if_neg (by simp (disch := omega) only [kI_0, kI_1, kI_2, kI_3, kI_4, kI_5, kI_6, kI_7, kI_8, kI_9, kI_10, kI_12, kI_16, kI_17, kI_19, kI_20, kI_23, kI_24, kI_30, kI_32, kI_36, kI_48, kI_57, kI_59, kI_60, kI_72, kI_80, kI_84, kI_97, kI_98, kI_100, kI_122, kI_148, kI_200, kI_300, kI_1058, kI_1108, kI_1348, kI_1588, kI_5290, kI_7940, kI_100000, kI_e7, kI_e9, kL_0, kL_1, kL_5, kL_9, kL_10, kL_12, kL_23, kL_30, kL_48, kL_57, kL_59, kL_97, kL_100, kL_122, kL_1000, kL_e7, kL_e9, kL_e10, oI_lt, oI_le, oI_eq, oL_lt, oL_le, oL_eq, oI_L, oI_clamp, oI_inb, oL_nz]; omega), if_pos (by simp (disch := omega) only [kI_0, kI_1, kI_2, kI_3, kI_4, kI_5, kI_6, kI_7, kI_8, kI_9, kI_10, kI_12, kI_16, kI_17, kI_19, kI_20, kI_23, kI_24, kI_30, kI_32, kI_36, kI_48, kI_57, kI_59, kI_60, kI_72, kI_80, kI_84, kI_97, kI_98, kI_100, kI_122, kI_148, kI_200, kI_300, kI_1058, kI_1108, kI_1348, kI_1588, kI_5290, kI_7940, kI_100000, kI_e7, kI_e9, kL_0, kL_1, kL_5, kL_9, kL_10, kL_12, kL_23, kL_30, kL_48, kL_57, kL_59, kL_97, kL_100, kL_122, kL_1000, kL_e7, kL_e9, kL_e10, oI_lt, oI_le, oI_eq, oL_lt, oL_le, oL_eq, oI_L, oI_clamp, oI_inb, oL_nz]; omega)]
        dsimp only
        rw [ltb_eq, thr_no (by decide)]
      · rw [if_pos (by simp (disch := omega) only [kI_0, kI_1, kI_2, kI_3, kI_4, kI_5, kI_6, kI_7, kI_8, kI_9, kI_10, kI_12, kI_16, kI_17, kI_19, kI_20, kI_23, kI_24, kI_30, kI_32, kI_36, kI_48, kI_57, kI_59, kI_60, kI_72, kI_80, kI_84, kI_97, kI_98, kI_100, kI_122, kI_148, kI_200, kI_300, kI_1058, kI_1108, kI_1348, kI_1588, kI_5290, kI_7940, kI_100000, kI_e7, kI_e9, kL_0, kL_1, kL_5, kL_9, kL_10, kL_12, kL_23, kL_30, kL_48, kL_57, kL_59, kL_97, kL_100, kL_122, kL_1000, kL_e7, kL_e9, kL_e10, oI_lt, oI_le, oI_eq, oL_lt, oL_le, oL_eq, oI_L, oI_clamp, oI_inb, oL_nz]; omega)]
        dsimp only
        rw [ltb_eq, thr_no (by decide)]
theorem case19 : CaseOK fL_case19 := by
  intro n L A Z xs x4 hn hI hin
  rw [fL_case19]
  exact OKL.c (enm hn hI)
