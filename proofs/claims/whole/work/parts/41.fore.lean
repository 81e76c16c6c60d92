/-! A whole month by the shares as they are; forecasts. -/
def wsh (s : sS) (N k : Nat) : Int := if k < N then sB s k 4 else sG s 0 - sumN (fun i => sB s i 4) N
section
variable {A Z : sM} {s : sS} {N n b : Nat} {tot : Nat → Int} {d : Nat → Nat}
theorem wop30 (s : sS) (N : Nat) : wop s N (-1) 30 = fun k => 30 * wsh s N k := by
  have h0 : ∀ k, wv s (-1) 30 k = 30 * sB s k 4 := fun k => by rw [wv, if_neg (by omega)]; omega
  funext k
  rw [wop, wsh]
  split
  · exact h0 k
  · rw [sumN_congr (g := fun i => 30 * sB s i 4) (fun i _ => h0 i), sumN_mul]; omega
theorem DVs (h1 : W1 s N) (h3 : W3 s N) {V : Int} (hV : 0 ≤ V ∧ V ≤ 1000000000000) : DV V (sG s 0) (wsh s N) (N + 1) := by
  have g0 := h1.1
  have hN := h1.2.2.2.2.2.2.2.2
  have hs := h3.2.2.2.2.2
  refine ⟨hV.1, by omega, ⟨?_, by omega⟩, fun k hk => ?_, ?_⟩
  · have := Int.mul_le_mul hV.2 g0.2 (by omega) (by omega)
    omega
  · rw [wsh]
    split
    · exact h3.2.1 k (by omega)
    · omega
  · rw [sumN, wsh, if_neg (by omega), sumN_congr (f := wsh s N) (g := fun i => sB s i 4) (fun i hi => if_pos hi)]
    omega
theorem hs_whole (h3 : W3 s N) : sumN (wv s (-1) 30) N ≤ 30 * sG s 0 := by
  have h0 : ∀ k, wv s (-1) 30 k = 30 * sB s k 4 := fun k => by rw [wv, if_neg (by omega)]; omega
  have hs := h3.2.2.2.2.2
  rw [sumN_congr (g := fun i => 30 * sB s i 4) (fun i _ => h0 i), sumN_mul]; omega
theorem pt30 (h1 : W1 s N) (h3 : W3 s N) {V : Int} (hV : 0 ≤ V ∧ V ≤ 1000000000000) {k : Nat} (hk : k ≤ N) : pt s N (-1) 30 V k = dvd V (sG s 0) (wsh s N) (N + 1) k := by
  have g0 := h1.1
  rw [pt, wop30]
  refine (dvd_scale (by omega) (DVs h1 h3 hV) ⟨?_, by omega⟩).2 k (by omega)
  have := Int.mul_le_mul hV.2 (show 30 * sG s 0 ≤ 3000000 by omega) (by omega) (by omega)
  omega
theorem pw_L {Z0 : sM} (hZ0 : ZR (zA Z0) (zB Z0) s) (h1 : W1 s N) (h3 : W3 s N) (x1 : Int64) (kk : sM → Option sM) : ∀ (fuel i : Nat) (Z : sM), i ≤ N → N - i < fuel → Fr pWz Z0 Z → Z.2 33 0 0 N = Z0.2 33 0 0 N → (∀ k, k < i → Z.2 33 0 0 k = oL (sB s k 4)) →
    ∃ Z', Fr pWz Z0 Z' ∧ Z'.2 33 0 0 N = Z0.2 33 0 0 N ∧ (∀ k, k < N → Z'.2 33 0 0 k = oL (sB s k 4)) ∧ fX10_projectsWhole_L27 x1 kk fuel (oI i) Z = kk Z' := by
  obtain ⟨g0, _, _, _, _, _, _, g7, hN⟩ := id h1
  intro fuel
  induction fuel with
  | zero => intro i Z _ h; omega
  | succ fuel ih =>
    intro i Z hi hfu hF h33 h7
    have hZ : ZR (zA Z) (zB Z) s := hZ0.keep (fun k => hF.i rfl) (fun k => hF.l rfl)
    rw [fX10_projectsWhole_L27]
    simp (disch := omega) only [kI_0, kI_1, kI_2, kI_3, kI_4, kI_5, kI_6, kI_7, kI_8, kI_9, kI_10, kI_12, kI_16, kI_17, kI_19, kI_20, kI_23, kI_24, kI_30, kI_32, kI_36, kI_48, kI_57, kI_59, kI_60, kI_72, kI_80, kI_84, kI_97, kI_98, kI_100, kI_122, kI_148, kI_200, kI_300, kI_1058, kI_1108, kI_1348, kI_1588, kI_5290, kI_7940, kI_100000, kI_e7, kI_e9, kL_0, kL_1, kL_5, kL_9, kL_10, kL_12, kL_23, kL_30, kL_48, kL_57, kL_59, kL_97, kL_100, kL_122, kL_1000, kL_e7, kL_e9, kL_e10, oI_lt, oI_le, oI_eq, oL_lt, oL_le, oL_eq, oI_L, oI_clamp, oI_inb, oL_nz, eq_self, Nat.reduceEqDiff, Int.reduceLE, Int.reduceLT, Int.reduceEq, Int.reduceToNat, and_true, true_and, and_false, false_and, and_self, if_true, if_false, ite_true, ite_false, reduceCtorEq, Zg hZ, g7]
    by_cases e : i = N
    · exact ⟨Z, hF, h33, fun k hk => h7 k (by omega), by rw [if_pos (by omega)]⟩
    · have hb := h3.2.1 i (by omega)
      have hb2 := sumN_mem (f := fun i => sB s i 4) (show i < N by omega) (fun j hj => h3.2.1 j (by omega))
      have hb3 := h3.2.2.2.2.2
      obtain ⟨Z', q1, q2, q3, q4⟩ := ih (i + 1) (wL Z 33 0 0 i (oL (sB s i 4))) (by omega) (by omega) (hF.wL rfl) (by rw [wL_2, if_neg (by omega)]; exact h33) (fun k hk => by
        rw [wL_2]
        by_cases ek : k = i
        · rw [if_pos ⟨rfl, rfl, rfl, ek⟩, ek]
        · rw [if_neg (by omega)]; exact h7 k (by omega))
      refine ⟨Z', q1, q2, q3, ?_⟩
      rw [if_neg (by omega), ofM4 hZ (by omega), bd_eq, ← q4]
      simp (disch := omega) only [oI_lt, oI_le, oI_eq, oL_lt, oL_le, oL_eq, oI_L, oI_clamp, oI_inb, oL_nz, gd_true, ltb_eq, bd_eq, bd2_eq, rq_none, rq_thr, xc_val, xc_thr, oI_add, oI_sub, oI_mul, oI_neg, oL_add, oL_sub, oL_mul, oL_neg, oL_I, cl_nat, nat1]
theorem prw (hZ : ZR (zA Z) (zB Z) s) (h1 : W1 s N) (h2 : W2 s) (h3 : W3 s N) (h5 : W5 s N) (h6 : W6 s) (hA : AS (toS s) (pcS s) N d) {m : Nat} (hm : sG s 5 = m) (hT : TT (fun k => if sB s k 3 = 1 then pt s N (-1) 30 (worth s m) k else 0) (toS s) (pcS s) tot N) :
    ∃ Z', Fr pY Z Z' ∧ (∀ j, j < N → Z'.2 37 0 0 j = oL (kp (fun k => if sB s k 3 = 1 then pt s N (-1) 30 (worth s m) k else 0) (toS s) (pcS s) tot N j)) ∧ fX10_projectsWhole Z = some Z' := by
  obtain ⟨g0, g1, g2, g3, g4, g5, g6, g7, hN⟩ := id h1
  have hwb := worth_bd h1 h2 h6 (m := m) (by omega)
  have hD := DVm (V := worth s m) h1 h3 h5 (a := -1) (d := 30) (by omega) (by omega) (hs_whole h3) (by omega)
  obtain ⟨c1, c2, c3, c4⟩ := cs_le hD (by omega)
  have hDs := DVs h1 h3 (V := worth s m) (by omega)
  have hfs := h3.2.2.2.2.2
  have hfs0 : 0 ≤ sumN (fun i => sB s i 4) N := sumN_nonneg fun j hj => h3.2.1 j (by omega)
  have hZ0 : ZR (zA (wL Z 33 0 0 N (oL (sG s 0 - sumN (fun i => sB s i 4) N)))) (zB (wL Z 33 0 0 N (oL (sG s 0 - sumN (fun i => sB s i 4) N)))) s := hZ.keep (fun _ => rfl) (fun _ => rfl)
  obtain ⟨Z1, q1, q2, q3, q4⟩ := pw_L hZ0 h1 h3 (oL (sG s 0)) (fun Z_7 =>
      Option.bind (fX10_worthOf (Z_7.1 27 0 0 (5 : Int32).toNatClampNeg) Z_7) fun r_9 =>
      Option.bind (fX10_divides r_9 ((Z_7.1 27 0 0 (7 : Int32).toNatClampNeg) + (1 : Int32)) (oL (sG s 0)) Z_7) fun Z_11 =>
      fX10_projectsWhole_L83 (fun (Z_12 : sM) =>
        Option.bind (fX10_passesOn Z_12) fun Z_13 =>
        some Z_13) 10000 (0 : Int32) Z_11) 10000 0 (wL Z 33 0 0 N (oL (sG s 0 - sumN (fun i => sB s i 4) N))) (by omega) (by omega) (Fr.refl _) rfl (fun k hk => by omega)
  have hZ1 : ZR (zA Z1) (zB Z1) s := hZ0.keep (fun k => q1.i rfl) (fun k => q1.l rfl)
  obtain ⟨Z2, t1, t2, t3⟩ := divZ (Z := Z1) (P := N + 1) (by omega) hDs (fun j hj => by
    rw [wsh]
    by_cases e : j = N
    · rw [if_neg (by omega), e, q2, wL_2, if_pos ⟨rfl, rfl, rfl, rfl⟩]
    · rw [if_pos (by omega), q3 j (by omega)])
  have hZ2 : ZR (zA Z2) (zB Z2) s := hZ1.keep (fun k => t1.i rfl) (fun k => t1.l rfl)
  obtain ⟨Z3, u1, u2, u3⟩ := rcv2_L hZ2 h1 h3 (f := pt s N (-1) 30 (worth s m)) (fun k hk => by rw [t2 k (by omega), pt30 h1 h3 (by omega) (by omega)]) (fun Z_6 => Option.bind (fX10_passesOn Z_6) fun Z_7 => some Z_7) 10000 0 Z2 (by omega) (by omega) (Fr.refl _) (fun k hk => by omega)
  have hZ3 : ZR (zA Z3) (zB Z3) s := hZ2.keep (fun k => u1.i rfl) (fun k => u1.l rfl)
  obtain ⟨Z4, v1, v2, v3⟩ := poZ hZ3 h1 hA hT c3 c4 u2
  have hF1 : Fr pY Z (wL Z 33 0 0 N (oL (sG s 0 - sumN (fun i => sB s i 4) N))) := (Fr.refl _).wL rfl
  refine ⟨Z4, hF1.trans ((pZ_pY (pWz_pZ q1)).trans ((pZ_pY (pDz_pZ t1)).trans ((p37_pY u1).trans (p37_pY v1)))), v2, ?_⟩
  rw [fX10_projectsWhole, free hZ h1, show Z.1 27 0 0 (0 : Int32).toNatClampNeg = oI (sG s 0) from hZ.g (k := 0) (by omega), show Z.1 27 0 0 (7 : Int32).toNatClampNeg = oI N from (hZ.g (k := 7) (by omega)).trans (by rw [g7])]
  simp (disch := omega) only [ltb_eq, bd_eq, oI_lt, oI_le, oI_eq, oL_lt, oL_le, oL_eq, oI_L, oI_clamp, oI_inb, oL_nz, gd_true, cl_nat]
  rw [show (0 : Int32) = oI (0 : Nat) from rfl]
  refine q4.trans ?_
  rw [show Z1.1 27 0 0 (5 : Int32).toNatClampNeg = oI (sG s 5) from hZ1.g (k := 5) (by omega), show Z1.1 27 0 0 (7 : Int32).toNatClampNeg = oI N from (hZ1.g (k := 7) (by omega)).trans (by rw [g7]), hm, wor hZ1 h1 h2 h6 (by omega), bd_eq, kI_1, oI_add, nat1, t3, bd_eq, show (0 : Int32) = oI (0 : Nat) from rfl, u3, v3]
  rfl
/-- the forecast's steps, side by side -/
def fcC (k1 k2 : Int) (n : Nat) : Int := if n = 0 then k1 else k2
def fcS (f : Nat → Int) (D B k1 k2 : Int) (mo e : Nat) : Nat → (Nat → Int) × Int
  | 0 => (f, D)
  | n + 1 => (mT3 (fcS f D B k1 k2 mo e n).1 (fcS f D B k1 k2 mo e n).2 B (fcC k1 k2 n) (mo + n) e, (fcS f D B k1 k2 mo e n).2 - mn (fcS f D B k1 k2 mo e n).2 (fcC k1 k2 n))
theorem fcS_bd {f : Nat → Int} {D B k1 k2 : Int} {mo e : Nat} (hf : ∀ j, 0 ≤ f j ∧ f j ≤ 76000000000000) (hD : 0 ≤ D ∧ D ≤ 200000000000000000) (hB : 0 ≤ B) (hk1 : 0 ≤ k1 ∧ k1 ≤ 1000000000000) (hk2 : 0 ≤ k2 ∧ k2 ≤ 1000000000000) :
    ∀ n : Nat, (∀ j, 0 ≤ (fcS f D B k1 k2 mo e n).1 j ∧ (fcS f D B k1 k2 mo e n).1 j ≤ 76000000000000 + n * 1000000000000) ∧ 0 ≤ (fcS f D B k1 k2 mo e n).2 ∧ (fcS f D B k1 k2 mo e n).2 ≤ 200000000000000000
  | 0 => by
    refine ⟨fun j => ?_, hD⟩
    have := hf j
    rw [fcS]; dsimp only; omega
  | n + 1 => by
    obtain ⟨i1, i2, i3⟩ := fcS_bd (mo := mo) (e := e) hf hD hB hk1 hk2 n
    rw [fcS]
    generalize fcS f D B k1 k2 mo e n = q at *
    have hc : 0 ≤ fcC k1 k2 n ∧ fcC k1 k2 n ≤ 1000000000000 := by rw [fcC]; split <;> omega
    have h1 := mn_le q.2 (fcC k1 k2 n)
    have h2 := mn_or q.2 (fcC k1 k2 n)
    have h3 : ∀ j, 0 ≤ mT1 q.1 q.2 (fcC k1 k2 n) (mo + n) j ∧ mT1 q.1 q.2 (fcC k1 k2 n) (mo + n) j ≤ 76000000000000 + (n + 1 : Nat) * 1000000000000 := fun j => by
      have a1 := i1 j
      have a2 := i1 (mo + n)
      rw [mT1, up1]
      split <;> omega
    have h4 : ∀ j, 0 ≤ mT2 q.1 q.2 B (fcC k1 k2 n) (mo + n) j ∧ mT2 q.1 q.2 B (fcC k1 k2 n) (mo + n) j ≤ 76000000000000 + (n + 1 : Nat) * 1000000000000 := fun j => by
      have a1 := payd_bd hB (f := mT1 q.1 q.2 (fcC k1 k2 n) (mo + n)) (m := j) (fun i _ => (h3 i).1)
      have a2 := h3 j
      rw [mT2]; omega
    refine ⟨fun j => ?_, ?_, ?_⟩
    · have a1 := h4 j
      show 0 ≤ mT3 q.1 q.2 B (fcC k1 k2 n) (mo + n) e j ∧ mT3 q.1 q.2 B (fcC k1 k2 n) (mo + n) e j ≤ _
      rw [mT3]
      split
      · rw [up1]; split <;> omega
      · omega
    · show 0 ≤ q.2 - mn q.2 (fcC k1 k2 n); omega
    · show q.2 - mn q.2 (fcC k1 k2 n) ≤ _; omega
theorem fcA_L {A0 : sM} (hS0 : SR A0 0 s N) (hN : N ≤ 16) {i e mo en : Nat} (hi : i < N) (he : sG s 1 = e) (hmo : sG s 5 = mo) (hen : en ≤ 12) {f : Nat → Int} {D B k1 k2 : Int} (hf : ∀ j, 0 ≤ f j ∧ f j ≤ 76000000000000) (hD : 0 ≤ D ∧ D ≤ 200000000000000000) (hB : 0 ≤ B ∧ B ≤ 10000000000) (hk1 : 0 ≤ k1 ∧ k1 ≤ 1000000000000) (hk2 : 0 ≤ k2 ∧ k2 ≤ 1000000000000) (he2 : e ≤ 24) (hmo2 : mo < 60) (h13 : A0.2 13 0 0 i = oL k2) (kk : sM → Option ((Nat ⊕ Int64) × sM)) :
    ∀ (fuel r : Nat) (A : sM), 1 ≤ r → r ≤ en → en - r < fuel → Fr (pS 112) A0 A → (∀ j, j < 72 → A.2 25 0 112 j = oL ((fcS f D B k1 k2 mo e r).1 j)) → (∃ g : Nat → Int, g 0 = (fcS f D B k1 k2 mo e r).2 ∧ ∀ w, w < 6 → A.2 26 0 112 w = oL (g w)) →
    ∃ A', Fr (pS 112) A0 A' ∧ (∀ j, j < 72 → A'.2 25 0 112 j = oL ((fcS f D B k1 k2 mo e en).1 j)) ∧ fX9_forecastBalance_L176 (oI i) (oI en) (oL B) kk fuel (oI r) A = kk A' := by
  intro fuel
  induction fuel with
  | zero => intro r A _ _ h; omega
  | succ fuel ih =>
    intro r A hr1 hr hfu hF h25 hg
    have hS := hS0.wk (pS_wk hF) hN (by omega)
    by_cases e1 : r = en
    · refine ⟨A, hF, by rw [← e1]; exact h25, ?_⟩
      rw [fX9_forecastBalance_L176, if_pos (by simp (disch := omega) only [oI_lt, oI_le, oI_eq, oL_lt, oL_le, oL_eq, oI_L, oI_clamp, oI_inb, oL_nz]; omega)]
    · obtain ⟨g, g0, g1⟩ := hg
      have hb := fcS_bd (mo := mo) (e := e) hf hD hB.1 hk1 hk2 r
      have hc : fcC k1 k2 r = k2 := if_neg (by omega)
      have hF1 : Fr (pS 112) A0 (wL A 26 0 112 1 (oL B)) := hF.wL (pS_26 112 0)
      have hS1 := hS0.wk (pS_wk hF1) hN (by omega)
      obtain ⟨A1, u1, u2, u3, u4⟩ := finM (A := wL A 26 0 112 1 (oL B)) (o := 112) (m := mo + r) (e := e) (f := (fcS f D B k1 k2 mo e r).1) (g := up1 g 1 B) (c := k2) (by omega) he2 (by omega) (fun j _ => by have := hb.1 j; omega) (by rw [up1_s, up1_n _ _ (by omega), g0]; omega) (fun j hj => by rw [wL_2, if_neg (by omega)]; exact h25 j hj) (fun w hw => by
        rw [wL_2, up1]
        by_cases ew : w = 1
        · rw [if_pos ⟨rfl, rfl, rfl, ew⟩, if_pos ew]
        · rw [if_neg (by omega), if_neg ew]; exact g1 w hw)
      rw [up1_s, up1_n _ _ (show ¬ 0 = 1 by omega), g0] at u2 u4
      obtain ⟨A', v1, v2, v3⟩ := ih (r + 1) A1 (by omega) (by omega) (by omega) (hF1.trans u1) (fun j hj => by rw [u2 j hj, fcS, hc]) ⟨_, by rw [mA, if_pos rfl, fcS, hc, up1_n _ _ (show ¬ 0 = 1 by omega), g0], u3⟩
      refine ⟨A', v1, v2, ?_⟩
      have e13 : (wL A 26 0 112 1 (oL B)).2 13 0 0 i = oL k2 := by rw [hF1.l rfl]; exact h13
      rw [fX9_forecastBalance_L176, if_neg (by simp (disch := omega) only [oI_lt, oI_le, oI_eq, oL_lt, oL_le, oL_eq, oI_L, oI_clamp, oI_inb, oL_nz]; omega)]
      simp (disch := omega) only [kI_0, kI_1, kI_2, kI_3, kI_4, kI_5, kI_6, kI_7, kI_8, kI_9, kI_10, kI_12, kI_16, kI_17, kI_19, kI_20, kI_23, kI_24, kI_30, kI_32, kI_36, kI_48, kI_57, kI_59, kI_60, kI_72, kI_80, kI_84, kI_97, kI_98, kI_100, kI_122, kI_148, kI_200, kI_300, kI_1058, kI_1108, kI_1348, kI_1588, kI_5290, kI_7940, kI_100000, kI_e7, kI_e9, kL_0, kL_1, kL_5, kL_9, kL_10, kL_12, kL_23, kL_30, kL_48, kL_57, kL_59, kL_97, kL_100, kL_122, kL_1000, kL_e7, kL_e9, kL_e10, oI_lt, oI_le, oI_eq, oL_lt, oL_le, oL_eq, oI_L, oI_clamp, oI_inb, oL_nz, gd_true, ltb_eq, bd_eq, bd2_eq, rq_none, rq_thr, xc_val, xc_thr, eq_self, Nat.reduceEqDiff, Int.reduceLE, Int.reduceLT, Int.reduceEq, Int.reduceToNat, and_true, true_and, and_false, false_and, and_self, if_true, if_false, ite_true, ite_false, reduceCtorEq, cl_nat, e13, hS1.mon, hS1.g (show 1 < 5 by omega), hmo, he, oI_add, oI_sub, oI_mul, oI_neg, oL_add, oL_sub, oL_mul, oL_neg, oL_I, nat1]
      rw [show ((mo : Int) + (r : Int)) = ((mo + r : Nat) : Int) from rfl, u4, bd2_eq]
      exact v3
theorem fcS_z {f : Nat → Int} {D B k1 k2 : Int} {mo e : Nat} (hf : ∀ j, 0 ≤ f j ∧ f j ≤ 76000000000000) (hz : ∀ j, 60 ≤ j → f j = 0) (hD : 0 ≤ D ∧ D ≤ 200000000000000000) (hB : 0 ≤ B) (hk1 : 0 ≤ k1 ∧ k1 ≤ 1000000000000) (hk2 : 0 ≤ k2 ∧ k2 ≤ 1000000000000) (hmo : mo < 60) :
    ∀ n : Nat, n ≤ 12 → ∀ j, 72 ≤ j → (fcS f D B k1 k2 mo e n).1 j = 0
  | 0, _, j, hj => hz j (by omega)
  | n + 1, hn, j, hj => by
    have ih := fcS_z (e := e) hf hz hD hB hk1 hk2 hmo n (by omega) j hj
    obtain ⟨i1, i2, i3⟩ := fcS_bd (mo := mo) (e := e) hf hD hB hk1 hk2 n
    rw [fcS]
    generalize fcS f D B k1 k2 mo e n = q at *
    have hc : 0 ≤ fcC k1 k2 n ∧ fcC k1 k2 n ≤ 1000000000000 := by rw [fcC]; split <;> omega
    have h1 := mn_le q.2 (fcC k1 k2 n)
    have h3 : ∀ j, 0 ≤ mT1 q.1 q.2 (fcC k1 k2 n) (mo + n) j := fun j => by
      have a1 := i1 j
      have a2 := i1 (mo + n)
      rw [mT1, up1]
      split <;> omega
    have h4 := payd_bd hB (f := mT1 q.1 q.2 (fcC k1 k2 n) (mo + n)) (m := j) (fun i _ => h3 i)
    have h5 : mT1 q.1 q.2 (fcC k1 k2 n) (mo + n) j = 0 := by rw [mT1, up1_n _ _ (by omega)]; exact ih
    show mT3 q.1 q.2 B (fcC k1 k2 n) (mo + n) e j = 0
    rw [mT3]
    split
    · rw [up1]
      split
      · rfl
      · rw [mT2]; omega
    · rw [mT2]; omega
def pQ (c k o : Nat) : Bool := pY c k o || p39 c k o
theorem pQ_wk {A A' : sM} (h : Fr pQ A A') : Fr wkZ A A' := h.mono fun c k o hq => by
  simp only [wkZ, pQ, pY, pZ, pWz, pDz, p37, p39] at hq ⊢
  by_cases e : c = 34
  · subst e; simp at hq
  · by_cases e2 : c = 35
    · subst e2; simp at hq
    · by_cases e3 : c = 36
      · subst e3; simp at hq
      · by_cases e4 : c = 33
        · subst e4; simp at hq
        · by_cases e5 : c = 37
          · subst e5; simp at hq
          · by_cases e6 : c = 38
            · subst e6; simp at hq
            · by_cases e7 : c = 39
              · subst e7; simp at hq
              · simp [e, e2, e3, e4, e5, e6, e7]
theorem pY_pQ {A A' : sM} (h : Fr pY A A') : Fr pQ A A' := h.mono fun c k o hq => by
  simp only [pQ, Bool.or_eq_false_iff] at hq; exact hq.1
theorem p39_pQ {A A' : sM} (h : Fr p39 A A') : Fr pQ A A' := h.mono fun c k o hq => by
  simp only [pQ, Bool.or_eq_false_iff] at hq; exact hq.2
theorem fcZ_L {Z0 : sM} (hZ0 : ZR (zA Z0) (zB Z0) s) (h1 : W1 s N) (h7 : W7 s N) {i e mo en : Nat} (hi : i < N) (he : sG s 1 = e) (hmo : sG s 5 = mo) (hen : en ≤ 12) {f : Nat → Int} {D k1 k2 : Int} (hf : ∀ j, 0 ≤ f j ∧ f j ≤ 76000000000000) (hD : 0 ≤ D ∧ D ≤ 200000000000000000) (hk1 : 0 ≤ k1 ∧ k1 ≤ 1000000000000) (hk2 : 0 ≤ k2 ∧ k2 ≤ 1000000000000)
    (hp : ∀ Z, ZR (zA Z) (zB Z) s → ∃ Z', Fr pY Z Z' ∧ Z'.2 37 0 0 i = oL k1 ∧ fX10_projects Z = some Z') (hw : ∀ Z, ZR (zA Z) (zB Z) s → ∃ Z', Fr pY Z Z' ∧ Z'.2 37 0 0 i = oL k2 ∧ fX10_projectsWhole Z = some Z') (kk : sM → Option (Int64 × sM)) :
    ∀ (fuel r : Nat) (Z : sM), r ≤ en → en - r < fuel → Fr pQ Z0 Z → (∀ j, j < 84 → Z.2 39 0 0 j = oL ((fcS f D (sA s i 1) k1 k2 mo e r).1 j)) →
    ∃ Z', Fr pQ Z0 Z' ∧ (∀ j, j < 84 → Z'.2 39 0 0 j = oL ((fcS f D (sA s i 1) k1 k2 mo e en).1 j)) ∧ fX10_forecastBalance_L108 (oI i) (oI en) kk fuel (oL (fcS f D (sA s i 1) k1 k2 mo e r).2) (oI r) Z = kk Z' := by
  obtain ⟨g0, g1, g2, g3, g4, g5, g6, g7, hN⟩ := id h1
  have hB := h7.1 i (by omega)
  intro fuel
  induction fuel with
  | zero => intro r Z _ h; omega
  | succ fuel ih =>
    intro r Z hr hfu hF h39
    have hZ : ZR (zA Z) (zB Z) s := hZ0.keep (fun k => hF.i rfl) (fun k => hF.l rfl)
    by_cases e1 : r = en
    · refine ⟨Z, hF, by rw [← e1]; exact h39, ?_⟩
      rw [fX10_forecastBalance_L108, if_pos (by simp (disch := omega) only [oI_lt, oI_le, oI_eq, oL_lt, oL_le, oL_eq, oI_L, oI_clamp, oI_inb, oL_nz]; omega)]
    · have hb := fcS_bd (mo := mo) (e := e) hf hD hB.2.1 hk1 hk2 r
      have hstep : ∃ Z1, Fr pY Z Z1 ∧ Z1.2 37 0 0 i = oL (fcC k1 k2 r) ∧ (if oI r = (0 : Int32) then fX10_projects Z else fX10_projectsWhole Z) = some Z1 := by
        by_cases er : r = 0
        · obtain ⟨Z1, a1, a2, a3⟩ := hp Z hZ
          exact ⟨Z1, a1, by rw [fcC, if_pos er]; exact a2, by rw [er, if_pos (show oI (0 : Nat) = (0 : Int32) from rfl)]; exact a3⟩
        · obtain ⟨Z1, a1, a2, a3⟩ := hw Z hZ
          exact ⟨Z1, a1, by rw [fcC, if_neg er]; exact a2, by rw [if_neg (by simp (disch := omega) only [kI_0, kI_1, kI_2, kI_3, kI_4, kI_5, kI_6, kI_7, kI_8, kI_9, kI_10, kI_12, kI_16, kI_17, kI_19, kI_20, kI_23, kI_24, kI_30, kI_32, kI_36, kI_48, kI_57, kI_59, kI_60, kI_72, kI_80, kI_84, kI_97, kI_98, kI_100, kI_122, kI_148, kI_200, kI_300, kI_1058, kI_1108, kI_1348, kI_1588, kI_5290, kI_7940, kI_100000, kI_e7, kI_e9, kL_0, kL_1, kL_5, kL_9, kL_10, kL_12, kL_23, kL_30, kL_48, kL_57, kL_59, kL_97, kL_100, kL_122, kL_1000, kL_e7, kL_e9, kL_e10, oI_lt, oI_le, oI_eq, oL_lt, oL_le, oL_eq, oI_L, oI_clamp, oI_inb, oL_nz]; omega)]; exact a3⟩
      obtain ⟨Z1, a1, a2, a3⟩ := hstep
      have hc : 0 ≤ fcC k1 k2 r ∧ fcC k1 k2 r ≤ 1000000000000 := by rw [fcC]; split <;> omega
      have hZ1 : ZR (zA Z1) (zB Z1) s := hZ.keep (fun k => a1.i rfl) (fun k => a1.l rfl)
      have b39 : ∀ j, j < 84 → Z1.2 39 0 0 j = oL ((fcS f D (sA s i 1) k1 k2 mo e r).1 j) := fun j hj => by rw [a1.l rfl]; exact h39 j hj
      generalize hq : fcS f D (sA s i 1) k1 k2 mo e r = q at *
      have hmn := mn_le q.2 (fcC k1 k2 r)
      have hmo' := mn_or q.2 (fcC k1 k2 r)
      have hT1 : ∀ j, 0 ≤ mT1 q.1 q.2 (fcC k1 k2 r) (mo + r) j ∧ mT1 q.1 q.2 (fcC k1 k2 r) (mo + r) j < 4611686018427387904 := fun j => by
        have x1 := hb.1 j
        have x2 := hb.1 (mo + r)
        rw [mT1, up1]
        split <;> omega
      have c39 : ∀ j, j < 84 → (wL Z1 39 0 0 (mo + r) (oL (q.1 (mo + r) + (fcC k1 k2 r - mn q.2 (fcC k1 k2 r))))).2 39 0 0 j = oL (mT1 q.1 q.2 (fcC k1 k2 r) (mo + r) j) := fun j hj => by
        rw [wL_2, mT1, up1]
        by_cases ej : j = mo + r
        · rw [if_pos ⟨rfl, rfl, rfl, ej⟩, if_pos ej]
        · rw [if_neg (by omega), if_neg ej]; exact b39 j hj
      obtain ⟨Z2, z1, z2, z3⟩ := zpay (Z := wL Z1 39 0 0 (mo + r) (oL (q.1 (mo + r) + (fcC k1 k2 r - mn q.2 (fcC k1 k2 r))))) (x := sA s i 1) (by omega) (fun j _ => hT1 j) c39
      have hF2 : Fr pQ Z0 Z2 := (hF.trans (pY_pQ a1)).trans (Fr.trans ((Fr.refl _).wL rfl) (p39_pQ z1))
      have hZ2 : ZR (zA Z2) (zB Z2) s := hZ0.keep (fun k => hF2.i rfl) (fun k => hF2.l rfl)
      have hn1 : fcS f D (sA s i 1) k1 k2 mo e (r + 1) = (mT3 q.1 q.2 (sA s i 1) (fcC k1 k2 r) (mo + r) e, q.2 - mn q.2 (fcC k1 k2 r)) := by rw [fcS, hq]
      -- the step as it is written
      have st : fX10_forecastBalance_L108 (oI i) (oI en) kk (fuel + 1) (oL q.2) (oI r) Z = if (mo : Int) + r - e < 0 then fX10_forecastBalance_L108 (oI i) (oI en) kk fuel (oL (q.2 - mn q.2 (fcC k1 k2 r))) (oI (r + 1 : Nat)) Z2 else fX10_forecastBalance_L108 (oI i) (oI en) kk fuel (oL (q.2 - mn q.2 (fcC k1 k2 r))) (oI (r + 1 : Nat)) (wL Z2 39 0 0 ((mo : Int) + r - e).toNat (oL 0)) := by
        have e0 : ∀ (F : sM → Option (Int64 × sM)), (if oI r = (0 : Int32) then Option.bind (fX10_projects Z) fun Z_28 => F Z_28 else Option.bind (fX10_projectsWhole Z) fun Z_26 => F Z_26) = F Z1 := by
          intro F
          by_cases er : oI r = (0 : Int32)
          · rw [if_pos er] at a3 ⊢; rw [a3]; rfl
          · rw [if_neg er] at a3 ⊢; rw [a3]; rfl
        rw [fX10_forecastBalance_L108, if_neg (by simp (disch := omega) only [oI_lt, oI_le, oI_eq, oL_lt, oL_le, oL_eq, oI_L, oI_clamp, oI_inb, oL_nz]; omega)]
        rw [ltb_eq, e0]
        have e5 : (mo : Int) + (r : Int) = ((mo + r : Nat) : Int) := rfl
        by_cases el : fcC k1 k2 r ≤ q.2
        · have em : mn q.2 (fcC k1 k2 r) = fcC k1 k2 r := by omega
          simp (disch := omega) only [kI_0, kI_1, kI_2, kI_3, kI_4, kI_5, kI_6, kI_7, kI_8, kI_9, kI_10, kI_12, kI_16, kI_17, kI_19, kI_20, kI_23, kI_24, kI_30, kI_32, kI_36, kI_48, kI_57, kI_59, kI_60, kI_72, kI_80, kI_84, kI_97, kI_98, kI_100, kI_122, kI_148, kI_200, kI_300, kI_1058, kI_1108, kI_1348, kI_1588, kI_5290, kI_7940, kI_100000, kI_e7, kI_e9, kL_0, kL_1, kL_5, kL_9, kL_10, kL_12, kL_23, kL_30, kL_48, kL_57, kL_59, kL_97, kL_100, kL_122, kL_1000, kL_e7, kL_e9, kL_e10, oI_lt, oI_le, oI_eq, oL_lt, oL_le, oL_eq, oI_L, oI_clamp, oI_inb, oL_nz, gd_true, ltb_eq, bd_eq, bd2_eq, rq_none, rq_thr, xc_val, xc_thr, eq_self, Nat.reduceEqDiff, Int.reduceLE, Int.reduceLT, Int.reduceEq, Int.reduceToNat, and_true, true_and, and_false, false_and, and_self, if_true, if_false, ite_true, ite_false, reduceCtorEq, cl_nat, a2, Zg hZ1, hmo, oI_add, oI_sub, oI_mul, oI_neg, oL_add, oL_sub, oL_mul, oL_neg, oL_I, nat1, fX10_accountAt]
          rw [if_pos el, e5, cl_nat, b39 (mo + r) (by omega)]
          simp (disch := omega) only [oI_lt, oI_le, oI_eq, oL_lt, oL_le, oL_eq, oI_L, oI_clamp, oI_inb, oL_nz, gd_true, ltb_eq, bd_eq, bd2_eq, rq_none, rq_thr, xc_val, xc_thr, oI_add, oI_sub, oI_mul, oI_neg, oL_add, oL_sub, oL_mul, oL_neg, oL_I]
          rw [em] at z3 ⊢
          rw [show (wL Z1 39 0 0 (mo + r) (oL (q.1 (mo + r) + (fcC k1 k2 r - fcC k1 k2 r)))).2 30 0 0 (2 + 6 * (i : Int) + 1).toNat = oL (sA s i 1) from hZ1.ac (w := 1) (by omega) (by omega), z3]
          simp (disch := omega) only [oI_lt, oI_le, oI_eq, oL_lt, oL_le, oL_eq, oI_L, oI_clamp, oI_inb, oL_nz, gd_true, ltb_eq, bd_eq, bd2_eq, rq_none, rq_thr, xc_val, xc_thr, oI_add, oI_sub, oI_mul, oI_neg, oL_add, oL_sub, oL_mul, oL_neg, oL_I, Zg hZ2, hmo, he, nat1]
          rw [e5]
        · have em : mn q.2 (fcC k1 k2 r) = q.2 := by omega
          simp (disch := omega) only [kI_0, kI_1, kI_2, kI_3, kI_4, kI_5, kI_6, kI_7, kI_8, kI_9, kI_10, kI_12, kI_16, kI_17, kI_19, kI_20, kI_23, kI_24, kI_30, kI_32, kI_36, kI_48, kI_57, kI_59, kI_60, kI_72, kI_80, kI_84, kI_97, kI_98, kI_100, kI_122, kI_148, kI_200, kI_300, kI_1058, kI_1108, kI_1348, kI_1588, kI_5290, kI_7940, kI_100000, kI_e7, kI_e9, kL_0, kL_1, kL_5, kL_9, kL_10, kL_12, kL_23, kL_30, kL_48, kL_57, kL_59, kL_97, kL_100, kL_122, kL_1000, kL_e7, kL_e9, kL_e10, oI_lt, oI_le, oI_eq, oL_lt, oL_le, oL_eq, oI_L, oI_clamp, oI_inb, oL_nz, gd_true, ltb_eq, bd_eq, bd2_eq, rq_none, rq_thr, xc_val, xc_thr, eq_self, Nat.reduceEqDiff, Int.reduceLE, Int.reduceLT, Int.reduceEq, Int.reduceToNat, and_true, true_and, and_false, false_and, and_self, if_true, if_false, ite_true, ite_false, reduceCtorEq, cl_nat, a2, Zg hZ1, hmo, oI_add, oI_sub, oI_mul, oI_neg, oL_add, oL_sub, oL_mul, oL_neg, oL_I, nat1, fX10_accountAt]
          rw [if_neg el, e5, cl_nat, b39 (mo + r) (by omega)]
          simp (disch := omega) only [oI_lt, oI_le, oI_eq, oL_lt, oL_le, oL_eq, oI_L, oI_clamp, oI_inb, oL_nz, gd_true, ltb_eq, bd_eq, bd2_eq, rq_none, rq_thr, xc_val, xc_thr, oI_add, oI_sub, oI_mul, oI_neg, oL_add, oL_sub, oL_mul, oL_neg, oL_I]
          rw [em] at z3 ⊢
          rw [show (wL Z1 39 0 0 (mo + r) (oL (q.1 (mo + r) + (fcC k1 k2 r - q.2)))).2 30 0 0 (2 + 6 * (i : Int) + 1).toNat = oL (sA s i 1) from hZ1.ac (w := 1) (by omega) (by omega), z3]
          simp (disch := omega) only [oI_lt, oI_le, oI_eq, oL_lt, oL_le, oL_eq, oI_L, oI_clamp, oI_inb, oL_nz, gd_true, ltb_eq, bd_eq, bd2_eq, rq_none, rq_thr, xc_val, xc_thr, oI_add, oI_sub, oI_mul, oI_neg, oL_add, oL_sub, oL_mul, oL_neg, oL_I, Zg hZ2, hmo, he, nat1]
          rw [e5]
      by_cases eo : (mo : Int) + r - e < 0
      · obtain ⟨Z', v1, v2, v3⟩ := ih (r + 1) Z2 (by omega) (by omega) hF2 (fun j hj => by
          rw [hn1, z2 j hj, mT3, if_neg (by omega)]; rfl)
        refine ⟨Z', v1, v2, ?_⟩
        rw [hn1] at v3
        rw [st, if_pos eo]
        exact v3
      · obtain ⟨Z', v1, v2, v3⟩ := ih (r + 1) (wL Z2 39 0 0 ((mo : Int) + r - e).toNat (oL 0)) (by omega) (by omega) (hF2.wL rfl) (fun j hj => by
          rw [hn1, wL_2]
          show _ = oL (mT3 q.1 q.2 (sA s i 1) (fcC k1 k2 r) (mo + r) e j)
          rw [mT3, if_pos (show e ≤ mo + r by omega), up1]
          by_cases ej : j = mo + r - e
          · rw [if_pos ⟨rfl, rfl, rfl, by omega⟩, if_pos ej]
          · rw [if_neg (by omega), if_neg ej, z2 j hj]; rfl)
        refine ⟨Z', v1, v2, ?_⟩
        rw [hn1] at v3
        rw [st, if_neg eo]
        exact v3
theorem fsum_L {f : Nat → Int} (hf : ∀ j, j < 84 → Z.2 39 0 0 j = oL (f j)) (k : Int64 → Option (Int64 × sM)) : ∀ (fuel i : Nat) (acc : Int), i ≤ 84 → 84 - i < fuel → fX10_forecastBalance_L240 Z k fuel (oL acc) (oI i) = k (oL (acc + (sumN f 84 - sumN f i))) := by
  intro fuel
  induction fuel with
  | zero => intro i acc _ h; omega
  | succ fuel ih =>
    intro i acc hi hfu
    rw [fX10_forecastBalance_L240]
    simp (disch := omega) only [kI_0, kI_1, kI_2, kI_3, kI_4, kI_5, kI_6, kI_7, kI_8, kI_9, kI_10, kI_12, kI_16, kI_17, kI_19, kI_20, kI_23, kI_24, kI_30, kI_32, kI_36, kI_48, kI_57, kI_59, kI_60, kI_72, kI_80, kI_84, kI_97, kI_98, kI_100, kI_122, kI_148, kI_200, kI_300, kI_1058, kI_1108, kI_1348, kI_1588, kI_5290, kI_7940, kI_100000, kI_e7, kI_e9, kL_0, kL_1, kL_5, kL_9, kL_10, kL_12, kL_23, kL_30, kL_48, kL_57, kL_59, kL_97, kL_100, kL_122, kL_1000, kL_e7, kL_e9, kL_e10, oI_lt, oI_le, oI_eq, oL_lt, oL_le, oL_eq, oI_L, oI_clamp, oI_inb, oL_nz]
    by_cases e : i = 84
    · subst e
      rw [if_pos (by omega)]
      exact congrArg (fun x => k (oL x)) (by omega)
    · rw [if_neg (by omega)]
      simp (disch := omega) only [oI_lt, oI_le, oI_eq, oL_lt, oL_le, oL_eq, oI_L, oI_clamp, oI_inb, oL_nz, gd_true, ltb_eq, bd_eq, bd2_eq, rq_none, rq_thr, xc_val, xc_thr, cl_nat, hf i (show i < 84 by omega), oI_add, oI_sub, oI_mul, oI_neg, oL_add, oL_sub, oL_mul, oL_neg, oL_I, nat1]
      rw [ih (i + 1) _ (by omega) (by omega), sumN_s _ i]
      exact congrArg (fun x => k (oL x)) (by omega)
end
