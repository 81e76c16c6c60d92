/-! Calls that change little. -/
theorem OKI.m {n : Nat} {A1 A2 Z1 Z2 : sM} {s' : sS} {N' : Nat} {fA : Option (Int32 × sM)} {fZ : Option (Int32 × sM)} {v : Int32} (hR : Rest n A1 Z1) (hA : fA = some (0, wL A2 41 0 0 0 v.toInt64)) (hZ : fZ = some (v, Z2)) (ht : Z2.1 10 6 0 0 = 0) (a : Fr mvA A1 A2) (z : Fr mvZ Z1 Z2) (h1 : SR A2 0 s' N') (h2 : ZR (zA Z2) (zB Z2) s') (h3 : WF (n + 1) s' N') : OKI n fA fZ :=
  ⟨_, _, _, _, hA, hZ, ht, fun _ => rfl, Inv.mv hR (a.wL rfl) z (h1.wk ((Fr.refl _).wL rfl) h3.1.2.2.2.2.2.2.2.2 (by omega)) h2 h3⟩
theorem OKL.m {n : Nat} {A1 A2 Z1 Z2 : sM} {s' : sS} {N' : Nat} {fA : Option (Int32 × sM)} {fZ : Option (Int64 × sM)} {v : Int64} (hR : Rest n A1 Z1) (hA : fA = some (0, wL A2 41 0 0 0 v)) (hZ : fZ = some (v, Z2)) (ht : Z2.1 10 6 0 0 = 0) (a : Fr mvA A1 A2) (z : Fr mvZ Z1 Z2) (h1 : SR A2 0 s' N') (h2 : ZR (zA Z2) (zB Z2) s') (h3 : WF (n + 1) s' N') : OKL n fA fZ :=
  ⟨_, _, _, _, hA, hZ, ht, fun _ => rfl, Inv.mv hR (a.wL rfl) z (h1.wk ((Fr.refl _).wL rfl) h3.1.2.2.2.2.2.2.2.2 (by omega)) h2 h3⟩
/-- both sides keep, the reference with its mark of no throw -/
theorem keep0 {n N : Nat} {A Z : sM} {s : sS} (hs : St n A Z s N) (hR : Rest n A Z) : ∃ A' Z', fX6_keep A = some A' ∧ fX10_keeps (wI Z 10 6 0 0 (oI 0)) = some Z' ∧ SR A' 0 s N ∧ ZR (zA Z') (zB Z') s ∧ Rest n A' Z' ∧ Z'.1 10 6 0 0 = 0 ∧ Fr p29 (wI Z 10 6 0 0 (oI 0)) Z' := by
  have hR' : Rest n A (wI Z 10 6 0 0 (oI 0)) := by
    obtain ⟨⟨K, p, t, Nt, ⟨h1, h2, h3, h4, h5⟩, h6⟩, ⟨len, t1, t2, t3, t4, t5⟩, dl, d1, d2, d3, d4⟩ := hR
    exact ⟨⟨K, p, t, Nt, ⟨h1, h2, h3, h4, h5⟩, h6⟩, ⟨len, t1, t2, t3, t4, t5⟩, dl, d1, d2, d3, d4⟩
  obtain ⟨A', Z', a1, a2, a3, a4, a5⟩ := keep2 (Z := wI Z 10 6 0 0 (oI 0)) ⟨hs.1, ZRt hs.2.1, hs.2.2⟩ hR'
  exact ⟨A', Z', a1, a2, a3.1, a3.2.1, a4, by rw [a5.i rfl]; rfl, a5⟩
theorem thr_no {α : Type} {Z : sM} {v : Int32} {x y : α} (h : ¬ v ≤ 0) : (if (wI Z 10 6 0 0 v).1 10 6 0 0 ≤ 0 then x else y) = y := if_neg h
theorem thr_yes {α : Type} {Z : sM} {x y : α} : (if (wI Z 10 6 0 0 (0 : Int32)).1 10 6 0 0 ≤ 0 then x else y) = x := if_pos (by decide : (0 : Int32) ≤ 0)
theorem one_ne : ¬ oI 1 = (0 : Int32) := by decide
theorem nul_eq : oI 0 = (0 : Int32) := rfl
theorem wI_wI (M : sM) (c k o j : Nat) (a b : Int32) : wI (wI M c k o j a) c k o j b = wI M c k o j b := by
  refine Prod.ext ?_ rfl
  funext c' k' o' j'
  show (if _ then _ else (if _ then _ else _)) = (if _ then _ else _)
  split <;> rfl
/-- the meter's cell, where nothing is corrected -/
theorem SR.wE {A : sM} {s : sS} {N c0 : Nat} {v : Int} (h : SR A 0 s N) (h0 : c0 < 240) (hc0 : sC s c0 = -1) (_ : 0 < 1) : SR (wI A 22 0 0 c0 (oI v)) 0 (uE s (up1 (sE s) c0 v)) N := by
  refine ⟨fun k hk => ?_, ⟨?_, ?_, ?_⟩, fun k hk => ?_, fun p hp => ?_, fun i hi => ⟨?_, ?_, ?_, ?_, ?_, ?_, fun ht => ?_⟩, fun i hi m hm => ?_, fun c hc => ⟨?_, ?_⟩, ⟨?_, ?_⟩, fun i hi w hw => ?_, fun i hi m hm => ?_⟩
  · rw [wI_1, if_neg (by omega)]; exact h.g hk
  · rw [wI_1, if_neg (by omega)]; exact h.mon
  · rw [wI_1, if_neg (by omega)]; exact h.day
  · rw [wI_1, if_neg (by omega)]; exact h.cnt
  · rw [wI_1, if_neg (by omega)]; exact h.hr hk
  · rw [wI_1, if_neg (by omega)]; exact h.rt hp
  · rw [wI_1, if_neg (by omega)]; exact h.st hi
  · rw [wI_1, if_neg (by omega)]; exact h.wa hi
  · rw [wI_1, if_neg (by omega)]; exact h.mi hi
  · rw [wI_1, if_neg (by omega)]; exact h.pr hi
  · rw [wI_1, if_neg (by omega)]; exact h.sh hi
  · rw [wI_1, if_neg (by omega)]; exact h.to hi
  · rw [wI_1, if_neg (by omega)]; exact h.pc hi ht
  · rw [wI_1, if_neg (by omega)]; exact h.dy hi hm
  · show _ = oI (up1 (sE s) c0 v c)
    rw [wI_1, up1]
    by_cases q : c = c0
    · rw [if_pos (by omega), if_pos q]
    · rw [if_neg (by omega), if_neg q]; exact h.gn hc
  · show _ = oI (if sC s c = -1 then 0 else sC s c - up1 (sE s) c0 v c)
    rw [wI_1, if_neg (by omega), h.cr hc]
    by_cases q : c = c0
    · rw [q, if_pos hc0, if_pos hc0]
    · rw [up1_n _ _ q]
  · exact h.fu
  · exact h.op
  · exact h.ac hi hw
  · exact h.lt hi hm
section
variable {s : sS} {N n : Nat}
theorem cell_p {m p : Nat} (hp : p < 4) : (4 * m + p) % 4 = p ∧ (4 * m + p) / 4 = m := by omega
theorem W8_gen (h : W8 n s) {m p : Nat} {w : Int} (hm : sG s 5 = m) (hm2 : m < 60) (hp : p < 4) (hr : 0 ≤ sRt s p ∧ sRt s p ≤ 200) (hw : 0 ≤ w ∧ w ≤ 1000000000) : W8 (n + 1) (uE s (up1 (sE s) (4 * m + p) (sE s (4 * m + p) + w))) := by
  obtain ⟨h1, h2⟩ := h
  have hc := cell_p (m := m) hp
  have e : sumN (pot (uE s (up1 (sE s) (4 * m + p) (sE s (4 * m + p) + w)))) 240 = sumN (pot s) 240 + sRt s p * w := by
    rw [sumN_up (f := pot s) (i := 4 * m + p) (by omega) (fun j hj hn => by
      have e1 : sE (uE s (up1 (sE s) (4 * m + p) (sE s (4 * m + p) + w))) j = sE s j := up1_n _ _ hn
      show sRt s (j % 4) * _ = _
      rw [e1]; rfl)]
    have e2 : pot (uE s (up1 (sE s) (4 * m + p) (sE s (4 * m + p) + w))) (4 * m + p) = sRt s p * (1000000000 + (sE s (4 * m + p) + w)) := by
      show sRt s ((4 * m + p) % 4) * (if sG s 5 ≤ ((4 * m + p) / 4 : Nat) then 1000000000 + up1 (sE s) (4 * m + p) (sE s (4 * m + p) + w) (4 * m + p) else _) = _
      rw [hc.1, hc.2, if_pos (by omega), up1_s]
    have e3 : pot s (4 * m + p) = sRt s p * (1000000000 + sE s (4 * m + p)) := by
      rw [pot, hc.1, hc.2, if_pos (by omega)]
    rw [e2, e3]
    grind
  have hb : sRt s p * w ≤ 200000000000 := by
    have := Int.mul_le_mul hr.2 hw.2 hw.1 (by omega)
    omega
  refine ⟨?_, ?_⟩
  · rw [e]
    show 2 * (if 0 ≤ sF s 0 then sF s 0 else 0) + 2 * sumN (bal s) 16 + _ ≤ _
    omega
  · show _ ≤ sF s 0 - sumN (fun i => sA s i 0) 16
    omega
theorem W8_cor (h : W8 n s) (h6 : W6 s) {m p : Nat} {w : Int} (hm : (m : Int) < sG s 5) (hm2 : m < 60) (hp : p < 4) (hr : 0 ≤ sRt s p ∧ sRt s p ≤ 200) (hw : 0 ≤ w ∧ w ≤ 1000000000) : W8 (n + 1) (uC s (up1 (sC s) (4 * m + p) w)) := by
  obtain ⟨h1, h2⟩ := h
  have hc := cell_p (m := m) hp
  have hE := h6.1 (4 * m + p) (by omega)
  obtain ⟨x, hx, hx2⟩ : ∃ x : Int, sumN (pot (uC s (up1 (sC s) (4 * m + p) w))) 240 = sumN (pot s) 240 + sRt s p * x ∧ x ≤ 1000000000 := by
    refine ⟨(if w ≤ sE s (4 * m + p) then 1000000000 - w else 1000000000 + w - 2 * sE s (4 * m + p)) - (if sC s (4 * m + p) = -1 then 1000000000 - sE s (4 * m + p) else if sC s (4 * m + p) ≤ sE s (4 * m + p) then 1000000000 - sC s (4 * m + p) else 1000000000 + sC s (4 * m + p) - 2 * sE s (4 * m + p)), ?_, ?_⟩
    · rw [sumN_up (f := pot s) (i := 4 * m + p) (by omega) (fun j hj hn => by
        have e1 : sC (uC s (up1 (sC s) (4 * m + p) w)) j = sC s j := up1_n _ _ hn
        show sRt s (j % 4) * _ = _
        rw [e1]; rfl)]
      have e2 : pot (uC s (up1 (sC s) (4 * m + p) w)) (4 * m + p) = sRt s p * (if w ≤ sE s (4 * m + p) then 1000000000 - w else 1000000000 + w - 2 * sE s (4 * m + p)) := by
        show sRt s ((4 * m + p) % 4) * (if sG s 5 ≤ ((4 * m + p) / 4 : Nat) then _ else if up1 (sC s) (4 * m + p) w (4 * m + p) = -1 then _ else if up1 (sC s) (4 * m + p) w (4 * m + p) ≤ sE s (4 * m + p) then 1000000000 - up1 (sC s) (4 * m + p) w (4 * m + p) else 1000000000 + up1 (sC s) (4 * m + p) w (4 * m + p) - 2 * sE s (4 * m + p)) = _
        rw [hc.1, hc.2, if_neg (by omega), up1_s, if_neg (by omega)]
      have e3 : pot s (4 * m + p) = sRt s p * (if sC s (4 * m + p) = -1 then 1000000000 - sE s (4 * m + p) else if sC s (4 * m + p) ≤ sE s (4 * m + p) then 1000000000 - sC s (4 * m + p) else 1000000000 + sC s (4 * m + p) - 2 * sE s (4 * m + p)) := by
        rw [pot, hc.1, hc.2, if_neg (by omega)]
      rw [e2, e3, Int.mul_sub]
    · split <;> split <;> try split
      all_goals omega
  have hb : sRt s p * x ≤ 200000000000 := by
    have h3 : sRt s p * x ≤ sRt s p * 1000000000 := Int.mul_le_mul_of_nonneg_left hx2 hr.1
    omega
  refine ⟨?_, ?_⟩
  · rw [hx]
    show 2 * (if 0 ≤ sF s 0 then sF s 0 else 0) + 2 * sumN (bal s) 16 + _ ≤ _
    omega
  · show _ ≤ sF s 0 - sumN (fun i => sA s i 0) 16
    omega
end
theorem gnr {n : Nat} {A Z : sM} (hI : Inv n A Z) (x y : Int32) : OKI n (fL_generate x y A) (fX10_generate x y Z) := by
  obtain ⟨⟨s, N, hS, hZ, hW⟩, hR⟩ := id hI
  obtain ⟨w1, w2, w3, w4, w5, w6, w7, w8⟩ := id hW
  obtain ⟨g0, g1, g2, g3, g4, g5, g6, g7, hN⟩ := id w1
  obtain ⟨a, a1, a2, rfl⟩ := I_ex x
  obtain ⟨w, c1, c2, rfl⟩ := I_ex y
  obtain ⟨m, hm⟩ : ∃ m : Nat, sG s 5 = m := ⟨(sG s 5).toNat, by omega⟩
  by_cases ha : 0 ≤ a ∧ a < 24
  · obtain ⟨h, hh, rfl⟩ := int_ix (N := 24) ha
    by_cases hw : 1 ≤ w ∧ w ≤ 1000000000
    · have hp := w2.1 h hh
      obtain ⟨p, hpp⟩ : ∃ p : Nat, sH s h = p := ⟨(sH s h).toNat, by omega⟩
      have hE := w6.1 (4 * m + p) (by omega)
      have eI : ((m : Int) * 4 + (p : Int)).toNat = 4 * m + p := by omega
      have eJ : (1108 + 4 * (m : Int) + (p : Int)).toNat = 1108 + (4 * m + p) := by omega
      by_cases hs : sE s (4 * m + p) + w ≤ 1000000000
      · obtain ⟨A1, Z1, k1, k2, k3, k4, k5, k6, k7⟩ := keep0 ⟨hS, hZ, hW⟩ hR
        refine OKI.m (v := oI (sE s (4 * m + p) + w)) (A2 := wI A1 22 0 0 (4 * m + p) (oI (sE s (4 * m + p) + w))) (Z2 := wI Z1 27 0 0 (1108 + (4 * m + p)) (oI (sE s (4 * m + p) + w))) (s' := uE s (up1 (sE s) (4 * m + p) (sE s (4 * m + p) + w))) k5 ?_ ?_ (by rw [wI_1, if_neg (by omega)]; exact k6) ((Fr.refl _).wI rfl) ((Fr.refl _).wI rfl) ?_ (k4.wE (by omega)) ⟨w1, w2, w3, w4, w5, ⟨fun c hc => ?_, fun m' p' hm' hp' => ?_⟩, w7, W8_gen w8 hm (by omega) (by omega) (w2.2 p (by omega)) (by omega)⟩
        · have e9 : fX9_generate (oI h) (oI w) A = some (.inr (oI (sE s (4 * m + p) + w)), wI A1 22 0 0 (4 * m + p) (oI (sE s (4 * m + p) + w))) := by
            rw [fX9_generate, rqH_t _ hh, hS.mon, hm]
            simp (disch := omega) only [gd_true, ltb_eq, bd_eq, bd2_eq, rq_none, rq_thr, xc_val, xc_thr, oI_lt, oI_le, oI_eq, oL_lt, oL_le, oL_eq, oI_L, oI_clamp, oI_inb, oL_nz, kI_0, kI_1, kI_2, kI_3, kI_4, kI_5, kI_6, kI_7, kI_8, kI_9, kI_10, kI_12, kI_16, kI_17, kI_19, kI_20, kI_23, kI_24, kI_30, kI_32, kI_36, kI_48, kI_57, kI_59, kI_60, kI_72, kI_80, kI_84, kI_97, kI_98, kI_100, kI_122, kI_148, kI_200, kI_300, kI_1058, kI_1108, kI_1348, kI_1588, kI_5290, kI_7940, kI_100000, kI_e7, kI_e9, kL_0, kL_1, kL_5, kL_9, kL_10, kL_12, kL_23, kL_30, kL_48, kL_57, kL_59, kL_97, kL_100, kL_122, kL_1000, kL_e7, kL_e9, kL_e10, cl_nat, hS.hr hh, hpp, fX7_cell, oI_add, oI_sub, oI_mul, oI_neg, oL_add, oL_sub, oL_mul, oL_neg, oL_I, eI, hS.gn (show 4 * m + p < 240 by omega)]
            rw [if_neg (by omega), if_pos (by omega), if_pos (by omega), k1, bd_eq, k3.gn (by omega), oI_add, wI_1, if_pos ⟨rfl, rfl, rfl, rfl⟩]
          rw [fL_generate, e9]
          rfl
        · rw [fX10_generate]
          simp (disch := omega) only [gd_true, ltb_eq, bd_eq, bd2_eq, rq_none, rq_thr, xc_val, xc_thr, oI_lt, oI_le, oI_eq, oL_lt, oL_le, oL_eq, oI_L, oI_clamp, oI_inb, oL_nz, kI_0, kI_1, kI_2, kI_3, kI_4, kI_5, kI_6, kI_7, kI_8, kI_9, kI_10, kI_12, kI_16, kI_17, kI_19, kI_20, kI_23, kI_24, kI_30, kI_32, kI_36, kI_48, kI_57, kI_59, kI_60, kI_72, kI_80, kI_84, kI_97, kI_98, kI_100, kI_122, kI_148, kI_200, kI_300, kI_1058, kI_1108, kI_1348, kI_1588, kI_5290, kI_7940, kI_100000, kI_e7, kI_e9, kL_0, kL_1, kL_5, kL_9, kL_10, kL_12, kL_23, kL_30, kL_48, kL_57, kL_59, kL_97, kL_100, kL_122, kL_1000, kL_e7, kL_e9, kL_e10]
          rw [isIn_t _ (by omega) (by omega) (by omega), bd_eq, isIn_t _ (by omega) (by omega) (by omega), bd_eq]
          simp (disch := omega) only [gd_true, ltb_eq, bd_eq, bd2_eq, rq_none, rq_thr, xc_val, xc_thr, oI_lt, oI_le, oI_eq, oL_lt, oL_le, oL_eq, oI_L, oI_clamp, oI_inb, oL_nz, kI_0, kI_1, kI_2, kI_3, kI_4, kI_5, kI_6, kI_7, kI_8, kI_9, kI_10, kI_12, kI_16, kI_17, kI_19, kI_20, kI_23, kI_24, kI_30, kI_32, kI_36, kI_48, kI_57, kI_59, kI_60, kI_72, kI_80, kI_84, kI_97, kI_98, kI_100, kI_122, kI_148, kI_200, kI_300, kI_1058, kI_1108, kI_1348, kI_1588, kI_5290, kI_7940, kI_100000, kI_e7, kI_e9, kL_0, kL_1, kL_5, kL_9, kL_10, kL_12, kL_23, kL_30, kL_48, kL_57, kL_59, kL_97, kL_100, kL_122, kL_1000, kL_e7, kL_e9, kL_e10, wI_1, wI_2, wL_1, wL_2, fI_1, fI_2, fL_1, fL_2, eq_self, Nat.reduceEqDiff, Int.reduceLE, Int.reduceLT, Int.reduceEq, Int.reduceToNat, and_true, true_and, and_false, false_and, and_self, if_true, if_false, ite_true, ite_false, reduceCtorEq, oI_add, oI_sub, oI_mul, oI_neg, oL_add, oL_sub, oL_mul, oL_neg, oL_I, Zg hZ, hm, fX10_generatedAt]
          rw [show Z.1 27 0 0 (8 + (h : Int)).toNat = oI (p : Int) from (hZ.hr hh).trans (by rw [hpp])]
          simp (disch := omega) only [oI_lt, oI_le, oI_eq, oL_lt, oL_le, oL_eq, oI_L, oI_clamp, oI_inb, oL_nz, oI_add, oI_sub, oI_mul, oI_neg, oL_add, oL_sub, oL_mul, oL_neg, oL_I, gd_true, ltb_eq, bd_eq, bd2_eq, rq_none, rq_thr, xc_val, xc_thr, eJ]
          rw [show Z.1 27 0 0 (1108 + (4 * m + p)) = oI (sE s (4 * m + p)) from hZ.gn (by omega)]
          simp (disch := omega) only [oI_lt, oI_le, oI_eq, oL_lt, oL_le, oL_eq, oI_L, oI_clamp, oI_inb, oL_nz, oI_add, oI_sub, oI_mul, oI_neg, oL_add, oL_sub, oL_mul, oL_neg, oL_I, gd_true, ltb_eq, bd_eq, bd2_eq, rq_none, rq_thr, xc_val, xc_thr, wI_1, wI_2, wL_1, wL_2, fI_1, fI_2, fL_1, fL_2, eq_self, Nat.reduceEqDiff, Int.reduceLE, Int.reduceLT, Int.reduceEq, Int.reduceToNat, and_true, true_and, and_false, false_and, and_self, if_true, if_false, ite_true, ite_false, reduceCtorEq]
          rw [if_pos hs, wI_wI, k2, bd_eq, show Z1.1 27 0 0 (1108 + (4 * m + p)) = oI (sE s (4 * m + p)) from k4.gn (by omega), oI_add]
        · exact k3.wE (by omega) ((w6.2 m p (by omega) (by omega)).2.1 (by omega)) (by omega)
        · show 0 ≤ up1 (sE s) (4 * m + p) (sE s (4 * m + p) + w) c ∧ up1 (sE s) (4 * m + p) (sE s (4 * m + p) + w) c ≤ 1000000000 ∧ -1 ≤ sC s c ∧ sC s c ≤ 1000000000
          rw [up1]
          have := w6.1 c hc
          split
          · omega
          · omega
        · have h9 := w6.2 m' p' hm' hp'
          show (_ → up1 (sE s) (4 * m + p) (sE s (4 * m + p) + w) (4 * m' + p') = 0) ∧ _ ∧ (_ → up1 (sE s) (4 * m + p) (sE s (4 * m + p) + w) (4 * m' + p') = 0 ∧ _)
          refine ⟨fun q => ?_, h9.2.1, fun q => ⟨?_, (h9.2.2 q).2⟩⟩
          · have q' : sG s 5 < m' := q
            rw [up1_n _ _ (by omega)]; exact h9.1 q
          · have q' : sG s 4 ≤ p' := q
            rw [up1_n _ _ (by omega)]; exact (h9.2.2 q).1
      · refine OKI.t (r := 3) (v := 0) (Z' := wI (wI Z 10 6 0 0 (oI 0)) 10 6 0 0 (oI 3)) hI ?_ ?_ (thr_g _ _) (by decide) (Fr.refl _) ((frT Z _).wI rfl)
        · have e9 : fX9_generate (oI h) (oI w) A = some (.inl 2, A) := by
            rw [fX9_generate, rqH_t _ hh, hS.mon, hm]
            simp (disch := omega) only [gd_true, ltb_eq, bd_eq, bd2_eq, rq_none, rq_thr, xc_val, xc_thr, oI_lt, oI_le, oI_eq, oL_lt, oL_le, oL_eq, oI_L, oI_clamp, oI_inb, oL_nz, kI_0, kI_1, kI_2, kI_3, kI_4, kI_5, kI_6, kI_7, kI_8, kI_9, kI_10, kI_12, kI_16, kI_17, kI_19, kI_20, kI_23, kI_24, kI_30, kI_32, kI_36, kI_48, kI_57, kI_59, kI_60, kI_72, kI_80, kI_84, kI_97, kI_98, kI_100, kI_122, kI_148, kI_200, kI_300, kI_1058, kI_1108, kI_1348, kI_1588, kI_5290, kI_7940, kI_100000, kI_e7, kI_e9, kL_0, kL_1, kL_5, kL_9, kL_10, kL_12, kL_23, kL_30, kL_48, kL_57, kL_59, kL_97, kL_100, kL_122, kL_1000, kL_e7, kL_e9, kL_e10, cl_nat, hS.hr hh, hpp, fX7_cell, oI_add, oI_sub, oI_mul, oI_neg, oL_add, oL_sub, oL_mul, oL_neg, oL_I, eI, hS.gn (show 4 * m + p < 240 by omega)]
            rw [if_neg (by omega), if_pos (by omega), if_neg (by omega)]
          rw [fL_generate, e9]
          rfl
        · rw [fX10_generate]
          simp (disch := omega) only [gd_true, ltb_eq, bd_eq, bd2_eq, rq_none, rq_thr, xc_val, xc_thr, oI_lt, oI_le, oI_eq, oL_lt, oL_le, oL_eq, oI_L, oI_clamp, oI_inb, oL_nz, kI_0, kI_1, kI_2, kI_3, kI_4, kI_5, kI_6, kI_7, kI_8, kI_9, kI_10, kI_12, kI_16, kI_17, kI_19, kI_20, kI_23, kI_24, kI_30, kI_32, kI_36, kI_48, kI_57, kI_59, kI_60, kI_72, kI_80, kI_84, kI_97, kI_98, kI_100, kI_122, kI_148, kI_200, kI_300, kI_1058, kI_1108, kI_1348, kI_1588, kI_5290, kI_7940, kI_100000, kI_e7, kI_e9, kL_0, kL_1, kL_5, kL_9, kL_10, kL_12, kL_23, kL_30, kL_48, kL_57, kL_59, kL_97, kL_100, kL_122, kL_1000, kL_e7, kL_e9, kL_e10]
          rw [isIn_t _ (by omega) (by omega) (by omega), bd_eq, isIn_t _ (by omega) (by omega) (by omega), bd_eq]
          simp (disch := omega) only [gd_true, ltb_eq, bd_eq, bd2_eq, rq_none, rq_thr, xc_val, xc_thr, oI_lt, oI_le, oI_eq, oL_lt, oL_le, oL_eq, oI_L, oI_clamp, oI_inb, oL_nz, kI_0, kI_1, kI_2, kI_3, kI_4, kI_5, kI_6, kI_7, kI_8, kI_9, kI_10, kI_12, kI_16, kI_17, kI_19, kI_20, kI_23, kI_24, kI_30, kI_32, kI_36, kI_48, kI_57, kI_59, kI_60, kI_72, kI_80, kI_84, kI_97, kI_98, kI_100, kI_122, kI_148, kI_200, kI_300, kI_1058, kI_1108, kI_1348, kI_1588, kI_5290, kI_7940, kI_100000, kI_e7, kI_e9, kL_0, kL_1, kL_5, kL_9, kL_10, kL_12, kL_23, kL_30, kL_48, kL_57, kL_59, kL_97, kL_100, kL_122, kL_1000, kL_e7, kL_e9, kL_e10, wI_1, wI_2, wL_1, wL_2, fI_1, fI_2, fL_1, fL_2, eq_self, Nat.reduceEqDiff, Int.reduceLE, Int.reduceLT, Int.reduceEq, Int.reduceToNat, and_true, true_and, and_false, false_and, and_self, if_true, if_false, ite_true, ite_false, reduceCtorEq, oI_add, oI_sub, oI_mul, oI_neg, oL_add, oL_sub, oL_mul, oL_neg, oL_I, Zg hZ, hm, fX10_generatedAt]
          rw [show Z.1 27 0 0 (8 + (h : Int)).toNat = oI (p : Int) from (hZ.hr hh).trans (by rw [hpp])]
          simp (disch := omega) only [oI_lt, oI_le, oI_eq, oL_lt, oL_le, oL_eq, oI_L, oI_clamp, oI_inb, oL_nz, oI_add, oI_sub, oI_mul, oI_neg, oL_add, oL_sub, oL_mul, oL_neg, oL_I, gd_true, ltb_eq, bd_eq, bd2_eq, rq_none, rq_thr, xc_val, xc_thr, eJ]
          rw [show Z.1 27 0 0 (1108 + (4 * m + p)) = oI (sE s (4 * m + p)) from hZ.gn (by omega)]
          simp (disch := omega) only [oI_lt, oI_le, oI_eq, oL_lt, oL_le, oL_eq, oI_L, oI_clamp, oI_inb, oL_nz, oI_add, oI_sub, oI_mul, oI_neg, oL_add, oL_sub, oL_mul, oL_neg, oL_I, gd_true, ltb_eq, bd_eq, bd2_eq, rq_none, rq_thr, xc_val, xc_thr, wI_1, wI_2, wL_1, wL_2, fI_1, fI_2, fL_1, fL_2, eq_self, Nat.reduceEqDiff, Int.reduceLE, Int.reduceLT, Int.reduceEq, Int.reduceToNat, and_true, true_and, and_false, false_and, and_self, if_true, if_false, ite_true, ite_false, reduceCtorEq]
          rw [if_neg hs]
    · refine OKI.t (r := 2) (v := 0) hI ?_ ?_ (thr_g Z _) (by decide) (Fr.refl _) (frT Z _)
      · have e9 : fX9_generate (oI h) (oI w) A = some (.inl 1, A) := by
          rw [fX9_generate, rqH_t _ hh, rq_none]
          simp (disch := omega) only [oI_lt, oI_le, oI_eq, oL_lt, oL_le, oL_eq, oI_L, oI_clamp, oI_inb, oL_nz, kI_0, kI_1, kI_2, kI_3, kI_4, kI_5, kI_6, kI_7, kI_8, kI_9, kI_10, kI_12, kI_16, kI_17, kI_19, kI_20, kI_23, kI_24, kI_30, kI_32, kI_36, kI_48, kI_57, kI_59, kI_60, kI_72, kI_80, kI_84, kI_97, kI_98, kI_100, kI_122, kI_148, kI_200, kI_300, kI_1058, kI_1108, kI_1348, kI_1588, kI_5290, kI_7940, kI_100000, kI_e7, kI_e9, kL_0, kL_1, kL_5, kL_9, kL_10, kL_12, kL_23, kL_30, kL_48, kL_57, kL_59, kL_97, kL_100, kL_122, kL_1000, kL_e7, kL_e9, kL_e10]
          by_cases e : w < 1
          · rw [if_pos e]
          · rw [if_neg e, if_neg (by omega)]
        rw [fL_generate, e9]
        rfl
      · rw [fX10_generate]
        simp (disch := omega) only [gd_true, ltb_eq, bd_eq, bd2_eq, rq_none, rq_thr, xc_val, xc_thr, oI_lt, oI_le, oI_eq, oL_lt, oL_le, oL_eq, oI_L, oI_clamp, oI_inb, oL_nz, kI_0, kI_1, kI_2, kI_3, kI_4, kI_5, kI_6, kI_7, kI_8, kI_9, kI_10, kI_12, kI_16, kI_17, kI_19, kI_20, kI_23, kI_24, kI_30, kI_32, kI_36, kI_48, kI_57, kI_59, kI_60, kI_72, kI_80, kI_84, kI_97, kI_98, kI_100, kI_122, kI_148, kI_200, kI_300, kI_1058, kI_1108, kI_1348, kI_1588, kI_5290, kI_7940, kI_100000, kI_e7, kI_e9, kL_0, kL_1, kL_5, kL_9, kL_10, kL_12, kL_23, kL_30, kL_48, kL_57, kL_59, kL_97, kL_100, kL_122, kL_1000, kL_e7, kL_e9, kL_e10]
        rw [isIn_t _ (by omega) (by omega) (by omega), bd_eq, isIn_f _ (by omega) (by omega) (by omega) (by omega) (by omega) (by omega) (by omega), bd_eq]
        simp (disch := omega) only [gd_true, ltb_eq, bd_eq, bd2_eq, rq_none, rq_thr, xc_val, xc_thr, oI_lt, oI_le, oI_eq, oL_lt, oL_le, oL_eq, oI_L, oI_clamp, oI_inb, oL_nz, kI_0, kI_1, kI_2, kI_3, kI_4, kI_5, kI_6, kI_7, kI_8, kI_9, kI_10, kI_12, kI_16, kI_17, kI_19, kI_20, kI_23, kI_24, kI_30, kI_32, kI_36, kI_48, kI_57, kI_59, kI_60, kI_72, kI_80, kI_84, kI_97, kI_98, kI_100, kI_122, kI_148, kI_200, kI_300, kI_1058, kI_1108, kI_1348, kI_1588, kI_5290, kI_7940, kI_100000, kI_e7, kI_e9, kL_0, kL_1, kL_5, kL_9, kL_10, kL_12, kL_23, kL_30, kL_48, kL_57, kL_59, kL_97, kL_100, kL_122, kL_1000, kL_e7, kL_e9, kL_e10, wI_1, wI_2, wL_1, wL_2, fI_1, fI_2, fL_1, fL_2, eq_self, Nat.reduceEqDiff, Int.reduceLE, Int.reduceLT, Int.reduceEq, Int.reduceToNat, and_true, true_and, and_false, false_and, and_self, if_true, if_false, ite_true, ite_false, reduceCtorEq, oI_add, oI_sub, oI_mul, oI_neg, oL_add, oL_sub, oL_mul, oL_neg, oL_I]
  · refine OKI.t (r := 1) (v := 0) hI ?_ ?_ (thr_g Z _) (by decide) (Fr.refl _) (frT Z _)
    · rw [fL_generate, fX9_generate, rqH_f _ a1 a2 ha]
      rfl
    · rw [fX10_generate]
      simp (disch := omega) only [gd_true, ltb_eq, bd_eq, bd2_eq, rq_none, rq_thr, xc_val, xc_thr, oI_lt, oI_le, oI_eq, oL_lt, oL_le, oL_eq, oI_L, oI_clamp, oI_inb, oL_nz, kI_0, kI_1, kI_2, kI_3, kI_4, kI_5, kI_6, kI_7, kI_8, kI_9, kI_10, kI_12, kI_16, kI_17, kI_19, kI_20, kI_23, kI_24, kI_30, kI_32, kI_36, kI_48, kI_57, kI_59, kI_60, kI_72, kI_80, kI_84, kI_97, kI_98, kI_100, kI_122, kI_148, kI_200, kI_300, kI_1058, kI_1108, kI_1348, kI_1588, kI_5290, kI_7940, kI_100000, kI_e7, kI_e9, kL_0, kL_1, kL_5, kL_9, kL_10, kL_12, kL_23, kL_30, kL_48, kL_57, kL_59, kL_97, kL_100, kL_122, kL_1000, kL_e7, kL_e9, kL_e10]
      rw [isIn_f _ (by omega) (by omega) (by omega) (by omega) (by omega) (by omega) (by omega), bd_eq]
      simp (disch := omega) only [gd_true, ltb_eq, bd_eq, bd2_eq, rq_none, rq_thr, xc_val, xc_thr, oI_lt, oI_le, oI_eq, oL_lt, oL_le, oL_eq, oI_L, oI_clamp, oI_inb, oL_nz, kI_0, kI_1, kI_2, kI_3, kI_4, kI_5, kI_6, kI_7, kI_8, kI_9, kI_10, kI_12, kI_16, kI_17, kI_19, kI_20, kI_23, kI_24, kI_30, kI_32, kI_36, kI_48, kI_57, kI_59, kI_60, kI_72, kI_80, kI_84, kI_97, kI_98, kI_100, kI_122, kI_148, kI_200, kI_300, kI_1058, kI_1108, kI_1348, kI_1588, kI_5290, kI_7940, kI_100000, kI_e7, kI_e9, kL_0, kL_1, kL_5, kL_9, kL_10, kL_12, kL_23, kL_30, kL_48, kL_57, kL_59, kL_97, kL_100, kL_122, kL_1000, kL_e7, kL_e9, kL_e10, wI_1, wI_2, wL_1, wL_2, fI_1, fI_2, fL_1, fL_2, eq_self, Nat.reduceEqDiff, Int.reduceLE, Int.reduceLT, Int.reduceEq, Int.reduceToNat, and_true, true_and, and_false, false_and, and_self, if_true, if_false, ite_true, ite_false, reduceCtorEq, oI_add, oI_sub, oI_mul, oI_neg, oL_add, oL_sub, oL_mul, oL_neg, oL_I]
theorem case17 : CaseOK fL_case17 := by
  intro n L A Z xs x4 hn hI hin
  obtain ⟨_, i1, i2, i3, i4, i5⟩ := hin
  rw [fL_case17]
  simp only [i1, i2, i3, i4, i5, gd_true]
  exact OKI.c (gnr hI _ _)
theorem bll {n : Nat} {A Z : sM} (hI : Inv n A Z) (x y : Int32) : OKL n (fL_bill x y A) (fX10_bill x y Z) := by
  obtain ⟨⟨s, N, hS, hZ, hW⟩, hR⟩ := id hI
  obtain ⟨w1, w2, w3, w4, w5, w6, w7, w8⟩ := id hW
  obtain ⟨g0, g1, g2, g3, g4, g5, g6, g7, hN⟩ := id w1
  obtain ⟨a, a1, a2, rfl⟩ := I_ex x
  obtain ⟨w, c1, c2, rfl⟩ := I_ex y
  by_cases ha : 0 ≤ a ∧ a < N
  · obtain ⟨i, hi, rfl⟩ := int_ix ha
    by_cases hw : 1 ≤ w ∧ w ≤ 1000000000
    · have hB := w7.1 i (by omega)
      have hst := w3.1 i hi
      have eJ : (2 + 6 * (i : Int) + 1).toNat = 2 + 6 * i + 1 := by omega
      have eZ : Z.2 30 0 0 (2 + 6 * i + 1) = oL (sA s i 1) := hZ.ac (by omega) (by omega)
      have eR : fX9_requireActive (oI i) A = some (if sB s i 3 = 1 then none else some 2) := by
        rw [fX9_requireActive]
        simp (disch := omega) only [gd_true, ltb_eq, bd_eq, bd2_eq, rq_none, rq_thr, xc_val, xc_thr, oI_lt, oI_le, oI_eq, oL_lt, oL_le, oL_eq, oI_L, oI_clamp, oI_inb, oL_nz, kI_0, kI_1, kI_2, kI_3, kI_4, kI_5, kI_6, kI_7, kI_8, kI_9, kI_10, kI_12, kI_16, kI_17, kI_19, kI_20, kI_23, kI_24, kI_30, kI_32, kI_36, kI_48, kI_57, kI_59, kI_60, kI_72, kI_80, kI_84, kI_97, kI_98, kI_100, kI_122, kI_148, kI_200, kI_300, kI_1058, kI_1108, kI_1348, kI_1588, kI_5290, kI_7940, kI_100000, kI_e7, kI_e9, kL_0, kL_1, kL_5, kL_9, kL_10, kL_12, kL_23, kL_30, kL_48, kL_57, kL_59, kL_97, kL_100, kL_122, kL_1000, kL_e7, kL_e9, kL_e10, cl_nat, actA hS w3 hi]
        by_cases e : sB s i 3 = 1
        · rw [if_pos e, if_pos e]; rfl
        · rw [if_neg e, if_neg e]; rfl
      by_cases hac : sB s i 3 = 1
      · by_cases hs : sA s i 1 + w ≤ 10000000000
        · obtain ⟨A1, Z1, k1, k2, k3, k4, k5, k6, k7⟩ := keep0 ⟨hS, hZ, hW⟩ hR
          refine OKL.m (v := oL (sA s i 1 + w)) (A2 := wL A1 26 0 (16 * 0 + i) 1 (oL (sA s i 1 + w))) (Z2 := wL Z1 30 0 0 (2 + 6 * i + 1) (oL (sA s i 1 + w))) (s' := uA s (up2 (sA s) i 1 (sA s i 1 + w))) k5 ?_ ?_ k6 ((Fr.refl _).wL ?_) ((Fr.refl _).wL rfl) (k3.wA hi (by omega)) (k4.wA (by omega) (by omega)) ⟨w1, w2, w3, w4, w5, w6, ⟨fun j hj => ?_, fun j h1 h2 => ?_, fun j h1 h2 => ?_, w7.2.2.2⟩, ⟨?_, ?_⟩⟩
          · have e9 : fX9_bill (oI i) (oI w) A = some (.inr (oL (sA s i 1 + w)), wL A1 26 0 (16 * 0 + i) 1 (oL (sA s i 1 + w))) := by
              rw [fX9_bill, rqS_t hS hN hi, eR, if_pos hac]
              simp (disch := omega) only [gd_true, ltb_eq, bd_eq, bd2_eq, rq_none, rq_thr, xc_val, xc_thr, oI_lt, oI_le, oI_eq, oL_lt, oL_le, oL_eq, oI_L, oI_clamp, oI_inb, oL_nz, kI_0, kI_1, kI_2, kI_3, kI_4, kI_5, kI_6, kI_7, kI_8, kI_9, kI_10, kI_12, kI_16, kI_17, kI_19, kI_20, kI_23, kI_24, kI_30, kI_32, kI_36, kI_48, kI_57, kI_59, kI_60, kI_72, kI_80, kI_84, kI_97, kI_98, kI_100, kI_122, kI_148, kI_200, kI_300, kI_1058, kI_1108, kI_1348, kI_1588, kI_5290, kI_7940, kI_100000, kI_e7, kI_e9, kL_0, kL_1, kL_5, kL_9, kL_10, kL_12, kL_23, kL_30, kL_48, kL_57, kL_59, kL_97, kL_100, kL_122, kL_1000, kL_e7, kL_e9, kL_e10, cl_nat, eq_self, Nat.reduceEqDiff, Int.reduceLE, Int.reduceLT, Int.reduceEq, Int.reduceToNat, and_true, true_and, and_false, false_and, and_self, if_true, if_false, ite_true, ite_false, reduceCtorEq]
              rw [if_neg (by omega), if_pos (by omega), hS.ac hi (by omega), oL_sub, if_pos (by simp (disch := omega) only [oI_lt, oI_le, oI_eq, oL_lt, oL_le, oL_eq, oI_L, oI_clamp, oI_inb, oL_nz]; omega), k1, bd_eq, k3.ac hi (by omega), oL_add, wL_2, if_pos ⟨rfl, rfl, rfl, rfl⟩]
            rw [fL_bill, e9]
            rfl
          · rw [fX10_bill, mem_t hZ w1 hi, bd_eq, ltb_eq, if_neg one_ne, oI_L (by omega) (by omega), kL_1, kL_e9, isIn_t _ (by omega) (by omega) (by omega), bd_eq, if_neg one_ne]
            dsimp only
            rw [ltb_eq, thr_yes, fX10_accountAt, bd_eq, actZ (ZRt hZ) w3 hi hN, bd_eq, ltb_eq, ltb_eq]
            rw [if_pos hac, if_neg one_ne, kI_2, kI_6, kI_1, oI_mul, oI_add, oI_add, oI_inb (by omega) (by omega) (by omega), gd_true, oI_clamp (by omega) (by omega), eJ, show (wI Z 10 6 0 0 0).2 30 0 0 (2 + 6 * i + 1) = oL (sA s i 1) from eZ, oL_add, if_pos (by simp (disch := omega) only [kI_0, kI_1, kI_2, kI_3, kI_4, kI_5, kI_6, kI_7, kI_8, kI_9, kI_10, kI_12, kI_16, kI_17, kI_19, kI_20, kI_23, kI_24, kI_30, kI_32, kI_36, kI_48, kI_57, kI_59, kI_60, kI_72, kI_80, kI_84, kI_97, kI_98, kI_100, kI_122, kI_148, kI_200, kI_300, kI_1058, kI_1108, kI_1348, kI_1588, kI_5290, kI_7940, kI_100000, kI_e7, kI_e9, kL_0, kL_1, kL_5, kL_9, kL_10, kL_12, kL_23, kL_30, kL_48, kL_57, kL_59, kL_97, kL_100, kL_122, kL_1000, kL_e7, kL_e9, kL_e10, oI_lt, oI_le, oI_eq, oL_lt, oL_le, oL_eq, oI_L, oI_clamp, oI_inb, oL_nz]; omega)]
            dsimp only
            rw [ltb_eq, thr_yes, wI_wI, kI_0, k2, bd_eq, gd_true, gd_true, ltb_eq, gd_true, show Z1.2 30 0 0 (2 + 6 * i + 1) = oL (sA s i 1) from k4.ac (by omega) (by omega), oL_add, wL_2, if_pos ⟨rfl, rfl, rfl, rfl⟩]
          · simp [mvA]; omega
          · show 0 ≤ up2 (sA s) i 1 (sA s i 1 + w) j 0 ∧ 0 ≤ up2 (sA s) i 1 (sA s i 1 + w) j 1 ∧ up2 (sA s) i 1 (sA s i 1 + w) j 1 ≤ 10000000000 ∧ _
            have h9 := w7.1 j hj
            refine ⟨by rw [up2_n _ _ (by omega)]; exact h9.1, ?_, ?_, h9.2.2.2⟩
            · rw [up2]; split <;> omega
            · rw [up2]; split <;> omega
          · have h9 := w7.2.1 j h1 h2
            refine ⟨fun v hv => ?_, h9.2⟩
            show up2 (sA s) i 1 (sA s i 1 + w) j v = 0
            rw [up2_n _ _ (by omega)]; exact h9.1 v hv
          · have h9 := w7.2.2.1 j h1 h2
            have hji : ¬ j = i := fun e => by rw [e] at h2; exact h2 hac
            show up2 (sA s) i 1 (sA s i 1 + w) j 0 = 0 ∧ up2 (sA s) i 1 (sA s i 1 + w) j 1 = 0 ∧ _ ∧ (_ → up2 (sA s) i 1 (sA s i 1 + w) j 3 = 0)
            rw [up2_n _ _ (by omega), up2_n _ _ (by omega), up2_n _ _ (by omega)]; exact h9
          · have := w8.1
            show 2 * (if 0 ≤ sF s 0 then sF s 0 else 0) + 2 * sumN (bal s) 16 + sumN (pot s) 240 ≤ _
            omega
          · have := w8.2
            show _ ≤ sF s 0 - sumN (fun j => up2 (sA s) i 1 (sA s i 1 + w) j 0) 16
            rw [sumN_congr (g := fun j => sA s j 0) (fun j hj => up2_n _ _ (by omega))]
            omega
        · refine OKL.t (r := 3) (v := 0) (Z' := wI (wI Z 10 6 0 0 (oI 0)) 10 6 0 0 (oI 3)) hI ?_ ?_ (thr_g _ _) (by decide) (Fr.refl _) ((frT Z _).wI rfl)
          · have e9 : fX9_bill (oI i) (oI w) A = some (.inl 2, A) := by
              rw [fX9_bill, rqS_t hS hN hi, eR, if_pos hac]
              simp (disch := omega) only [gd_true, ltb_eq, bd_eq, bd2_eq, rq_none, rq_thr, xc_val, xc_thr, oI_lt, oI_le, oI_eq, oL_lt, oL_le, oL_eq, oI_L, oI_clamp, oI_inb, oL_nz, kI_0, kI_1, kI_2, kI_3, kI_4, kI_5, kI_6, kI_7, kI_8, kI_9, kI_10, kI_12, kI_16, kI_17, kI_19, kI_20, kI_23, kI_24, kI_30, kI_32, kI_36, kI_48, kI_57, kI_59, kI_60, kI_72, kI_80, kI_84, kI_97, kI_98, kI_100, kI_122, kI_148, kI_200, kI_300, kI_1058, kI_1108, kI_1348, kI_1588, kI_5290, kI_7940, kI_100000, kI_e7, kI_e9, kL_0, kL_1, kL_5, kL_9, kL_10, kL_12, kL_23, kL_30, kL_48, kL_57, kL_59, kL_97, kL_100, kL_122, kL_1000, kL_e7, kL_e9, kL_e10, cl_nat, eq_self, Nat.reduceEqDiff, Int.reduceLE, Int.reduceLT, Int.reduceEq, Int.reduceToNat, and_true, true_and, and_false, false_and, and_self, if_true, if_false, ite_true, ite_false, reduceCtorEq]
              rw [if_neg (by omega), if_pos (by omega), hS.ac hi (by omega), oL_sub, if_neg (by simp (disch := omega) only [oI_lt, oI_le, oI_eq, oL_lt, oL_le, oL_eq, oI_L, oI_clamp, oI_inb, oL_nz]; omega)]
            rw [fL_bill, e9]
            rfl
          · rw [fX10_bill, mem_t hZ w1 hi, bd_eq, ltb_eq, if_neg one_ne, oI_L (by omega) (by omega), kL_1, kL_e9, isIn_t _ (by omega) (by omega) (by omega), bd_eq, if_neg one_ne]
            dsimp only
            rw [ltb_eq, thr_yes, fX10_accountAt, bd_eq, actZ (ZRt hZ) w3 hi hN, bd_eq, ltb_eq, ltb_eq]
            rw [if_pos hac, if_neg one_ne, kI_2, kI_6, kI_1, oI_mul, oI_add, oI_add, oI_inb (by omega) (by omega) (by omega), gd_true, oI_clamp (by omega) (by omega), eJ, show (wI Z 10 6 0 0 0).2 30 0 0 (2 + 6 * i + 1) = oL (sA s i 1) from eZ, oL_add, if_neg (by simp (disch := omega) only [kI_0, kI_1, kI_2, kI_3, kI_4, kI_5, kI_6, kI_7, kI_8, kI_9, kI_10, kI_12, kI_16, kI_17, kI_19, kI_20, kI_23, kI_24, kI_30, kI_32, kI_36, kI_48, kI_57, kI_59, kI_60, kI_72, kI_80, kI_84, kI_97, kI_98, kI_100, kI_122, kI_148, kI_200, kI_300, kI_1058, kI_1108, kI_1348, kI_1588, kI_5290, kI_7940, kI_100000, kI_e7, kI_e9, kL_0, kL_1, kL_5, kL_9, kL_10, kL_12, kL_23, kL_30, kL_48, kL_57, kL_59, kL_97, kL_100, kL_122, kL_1000, kL_e7, kL_e9, kL_e10, oI_lt, oI_le, oI_eq, oL_lt, oL_le, oL_eq, oI_L, oI_clamp, oI_inb, oL_nz]; omega)]
            dsimp only
            rw [ltb_eq, thr_no (by decide)]
            rfl
      · refine OKL.t (r := 3) (v := 0) (Z' := wI (wI Z 10 6 0 0 (oI 0)) 10 6 0 0 (oI 3)) hI ?_ ?_ (thr_g _ _) (by decide) (Fr.refl _) ((frT Z _).wI rfl)
        · have e9 : fX9_bill (oI i) (oI w) A = some (.inl 2, A) := by
            rw [fX9_bill, rqS_t hS hN hi, eR, if_neg hac]
            simp (disch := omega) only [gd_true, ltb_eq, bd_eq, bd2_eq, rq_none, rq_thr, xc_val, xc_thr, oI_lt, oI_le, oI_eq, oL_lt, oL_le, oL_eq, oI_L, oI_clamp, oI_inb, oL_nz, kI_0, kI_1, kI_2, kI_3, kI_4, kI_5, kI_6, kI_7, kI_8, kI_9, kI_10, kI_12, kI_16, kI_17, kI_19, kI_20, kI_23, kI_24, kI_30, kI_32, kI_36, kI_48, kI_57, kI_59, kI_60, kI_72, kI_80, kI_84, kI_97, kI_98, kI_100, kI_122, kI_148, kI_200, kI_300, kI_1058, kI_1108, kI_1348, kI_1588, kI_5290, kI_7940, kI_100000, kI_e7, kI_e9, kL_0, kL_1, kL_5, kL_9, kL_10, kL_12, kL_23, kL_30, kL_48, kL_57, kL_59, kL_97, kL_100, kL_122, kL_1000, kL_e7, kL_e9, kL_e10, cl_nat, eq_self, Nat.reduceEqDiff, Int.reduceLE, Int.reduceLT, Int.reduceEq, Int.reduceToNat, and_true, true_and, and_false, false_and, and_self, if_true, if_false, ite_true, ite_false, reduceCtorEq]
            rw [if_neg (by omega), if_pos (by omega)]
          rw [fL_bill, e9]
          rfl
        · rw [fX10_bill, mem_t hZ w1 hi, bd_eq, ltb_eq, if_neg one_ne, oI_L (by omega) (by omega), kL_1, kL_e9, isIn_t _ (by omega) (by omega) (by omega), bd_eq, if_neg one_ne]
          dsimp only
          rw [ltb_eq, thr_yes, fX10_accountAt, bd_eq, actZ (ZRt hZ) w3 hi hN, bd_eq, ltb_eq, ltb_eq]
          rw [if_neg hac, if_pos nul_eq]
          dsimp only
          rw [ltb_eq, thr_no (by decide)]
          rfl
    · refine OKL.t (r := 2) (v := 0) hI ?_ ?_ (thr_g Z _) (by decide) (Fr.refl _) (frT Z _)
      · have e9 : fX9_bill (oI i) (oI w) A = some (.inl 1, A) := by
          rw [fX9_bill, rqS_t hS hN hi, rq_none]
          simp (disch := omega) only [oI_lt, oI_le, oI_eq, oL_lt, oL_le, oL_eq, oI_L, oI_clamp, oI_inb, oL_nz, kI_0, kI_1, kI_2, kI_3, kI_4, kI_5, kI_6, kI_7, kI_8, kI_9, kI_10, kI_12, kI_16, kI_17, kI_19, kI_20, kI_23, kI_24, kI_30, kI_32, kI_36, kI_48, kI_57, kI_59, kI_60, kI_72, kI_80, kI_84, kI_97, kI_98, kI_100, kI_122, kI_148, kI_200, kI_300, kI_1058, kI_1108, kI_1348, kI_1588, kI_5290, kI_7940, kI_100000, kI_e7, kI_e9, kL_0, kL_1, kL_5, kL_9, kL_10, kL_12, kL_23, kL_30, kL_48, kL_57, kL_59, kL_97, kL_100, kL_122, kL_1000, kL_e7, kL_e9, kL_e10]
          by_cases e : w < 1
          · rw [if_pos e]
          · rw [if_neg e, if_neg (by omega)]
        rw [fL_bill, e9]
        rfl
      · rw [fX10_bill, mem_t hZ w1 hi, bd_eq, ltb_eq, if_neg one_ne, oI_L (by omega) (by omega), kL_1, kL_e9, isIn_f _ (by omega) (by omega) (by omega) (by omega) (by omega) (by omega) (by omega), bd_eq, if_pos nul_eq]
        dsimp only
        rw [ltb_eq, thr_no (by decide)]
        all_goals rfl
  · refine OKL.t (r := 1) (v := 0) hI ?_ ?_ (thr_g Z _) (by decide) (Fr.refl _) (frT Z _)
    · rw [fL_bill, fX9_bill, rqS_f hS hN a1 a2 ha]
      rfl
    · rw [fX10_bill, mem_f hZ w1 a1 a2 ha, bd_eq, ltb_eq, if_pos nul_eq]
      dsimp only
      rw [ltb_eq, thr_no (by decide)]
      all_goals rfl
theorem case18 : CaseOK fL_case18 := by
  intro n L A Z xs x4 hn hI hin
  obtain ⟨_, i1, i2, i3, i4, i5⟩ := hin
  rw [fL_case18]
  simp only [i1, i2, i3, i4, i5, gd_true]
  exact OKL.c (bll hI _ _)
