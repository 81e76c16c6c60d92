section
variable {c t p tot : Nat → Int} {N : Nat} {d : Nat → Nat}
theorem PI_all (hA : AS t p N d) (hT : TT c t p tot N) (hc : ∀ k, k < N → 0 ≤ c k) : PI c t p tot N (fun _ => true) := by
  have : ∀ (n : Nat) (P : Nat → Bool), N - cnt P N ≤ n → PI c t p tot N P → ∃ Q, PI c t p tot N Q ∧ ∀ k, k < N → Q k = true := by
    intro n
    induction n with
    | zero => intro P h hP; exact ⟨P, hP, cnt_all (by omega)⟩
    | succ n ih =>
      intro P h hP
      by_cases e : cnt P N < N
      · obtain ⟨q0, hq0, hpq0⟩ := cnt_ex e
        obtain ⟨q, hq, hqn⟩ := nxt_ex hA hq0 hpq0
        have h1 := cnt_up hq hqn.1
        exact ih (upB P q) (by omega) (PI_up hA hT hP hq hqn)
      · exact ⟨P, hP, cnt_all (by omega)⟩
  obtain ⟨Q, hQ, hq⟩ := this N (fun _ => false) (by rw [cnt, sumN_zero (fun j hj => by simp)]; omega) (PI_0 hc)
  have he : ∀ k, k < N → rc c t p tot N (fun _ => true) k = rc c t p tot N Q k := fun k hk => rc_congr (fun j hj => (hq j hj).symm) hk
  exact ⟨fun k hk => by rw [he k hk]; exact hQ.1 k hk, by rw [sumN_congr he]; exact hQ.2.1, fun _ _ _ _ _ _ => rfl⟩
theorem kp_sum (hA : AS t p N d) (hT : TT c t p tot N) (hc : ∀ k, k < N → 0 ≤ c k) : sumN (kp c t p tot N) N = sumN c N := (PI_all hA hT hc).2.1
theorem kp_bd (hA : AS t p N d) (hT : TT c t p tot N) (hc : ∀ k, k < N → 0 ≤ c k) {k : Nat} (hk : k < N) : 0 ≤ kp c t p tot N k ∧ kp c t p tot N k ≤ sumN c N := by
  have h := PI_all hA hT hc
  have h2 := sumN_mem hk h.1
  rw [h.2.1] at h2
  exact ⟨h.1 k hk, h2⟩
end
/-- who isn't active keeps nothing -/
theorem kp_na {s : sS} {N : Nat} {f tot : Nat → Int} (h4 : W4 s N) {i : Nat} (hi : i < N) (ha : ¬ sB s i 3 = 1) : kp (fun k => if sB s k 3 = 1 then f k else 0) (toS s) (pcS s) tot N i = 0 := by
  have ht : sB s i 5 = -1 := by
    rcases h4.1 i hi with q | ⟨q, -⟩
    · exact q
    · exact absurd q ha
  rw [kp, rc, if_neg ha, if_neg (by rw [show toS s i = sB s i 5 from rfl]; omega), sumN_zero (fun j hj => if_neg ?_)]
  · omega
  · rintro ⟨-, e⟩
    rcases h4.1 j hj with q | ⟨-, t, ht, q, q2, -⟩
    · have : sB s j 5 = (i : Int) := e
      omega
    · have : sB s j 5 = (i : Int) := e
      have : t = i := by omega
      subst this
      exact ha q2
section
variable {A Z : sM} {s : sS} {N n b : Nat} {tot : Nat → Int} {d : Nat → Nat}
theorem rcv1_L {Z0 : sM} (hZ0 : ZR (zA Z0) (zB Z0) s) (h1 : W1 s N) (h3 : W3 s N) {f : Nat → Int} (h34 : ∀ k, k < N → Z0.2 34 0 0 k = oL (f k)) (kk : sM → Option sM) : ∀ (fuel i : Nat) (Z : sM), i ≤ N → N - i < fuel → Fr p37 Z0 Z → (∀ k, k < i → Z.2 37 0 0 k = oL (if sB s k 3 = 1 then f k else 0)) →
    ∃ Z', Fr p37 Z0 Z' ∧ (∀ k, k < N → Z'.2 37 0 0 k = oL (if sB s k 3 = 1 then f k else 0)) ∧ fX10_projects_L32 kk fuel (oI i) Z = kk Z' := by
  obtain ⟨_, _, _, _, _, _, _, g7, hN⟩ := id h1
  intro fuel
  induction fuel with
  | zero => intro i Z _ h; omega
  | succ fuel ih =>
    intro i Z hi hfu hF h7
    have hZ : ZR (zA Z) (zB Z) s := hZ0.keep (fun k => hF.i rfl) (fun k => hF.l rfl)
    rw [fX10_projects_L32]
    simp (disch := omega) only [kI_0, kI_1, kI_2, kI_3, kI_4, kI_5, kI_6, kI_7, kI_8, kI_9, kI_10, kI_12, kI_16, kI_17, kI_19, kI_20, kI_23, kI_24, kI_30, kI_32, kI_36, kI_48, kI_57, kI_59, kI_60, kI_72, kI_80, kI_84, kI_97, kI_98, kI_100, kI_122, kI_148, kI_200, kI_300, kI_1058, kI_1108, kI_1348, kI_1588, kI_5290, kI_7940, kI_100000, kI_e7, kI_e9, kL_0, kL_1, kL_5, kL_9, kL_10, kL_12, kL_23, kL_30, kL_48, kL_57, kL_59, kL_97, kL_100, kL_122, kL_1000, kL_e7, kL_e9, kL_e10, oI_lt, oI_le, oI_eq, oL_lt, oL_le, oL_eq, oI_L, oI_clamp, oI_inb, oL_nz, eq_self, Nat.reduceEqDiff, Int.reduceLE, Int.reduceLT, Int.reduceEq, Int.reduceToNat, and_true, true_and, and_false, false_and, and_self, if_true, if_false, ite_true, ite_false, reduceCtorEq, Zg hZ, g7]
    by_cases e : i = N
    · exact ⟨Z, hF, fun k hk => h7 k (by omega), by rw [if_pos (by omega)]⟩
    · have e34 : Z.2 34 0 0 i = oL (f i) := by rw [hF.l rfl]; exact h34 i (by omega)
      obtain ⟨Z', q1, q2, q3⟩ := ih (i + 1) (wL Z 37 0 0 i (oL (if sB s i 3 = 1 then f i else 0))) (by omega) (by omega) (hF.wL rfl) (fun k hk => by
        rw [wL_2]
        by_cases ek : k = i
        · rw [if_pos ⟨rfl, rfl, rfl, ek⟩, ek]
        · rw [if_neg (by omega)]; exact h7 k (by omega))
      refine ⟨Z', q1, q2, ?_⟩
      rw [if_neg (by omega), actZ hZ h3 (by omega) hN, bd_eq, ← q3]
      by_cases ea : sB s i 3 = 1
      · simp (disch := omega) only [if_pos ea, oI_lt, oI_le, oI_eq, oL_lt, oL_le, oL_eq, oI_L, oI_clamp, oI_inb, oL_nz, gd_true, ltb_eq, bd_eq, bd2_eq, rq_none, rq_thr, xc_val, xc_thr, oI_add, oI_sub, oI_mul, oI_neg, oL_add, oL_sub, oL_mul, oL_neg, oL_I, eq_self, Nat.reduceEqDiff, Int.reduceLE, Int.reduceLT, Int.reduceEq, Int.reduceToNat, and_true, true_and, and_false, false_and, and_self, if_true, if_false, ite_true, ite_false, reduceCtorEq, cl_nat, nat1, e34]
      · simp (disch := omega) only [if_neg ea, oI_lt, oI_le, oI_eq, oL_lt, oL_le, oL_eq, oI_L, oI_clamp, oI_inb, oL_nz, gd_true, ltb_eq, bd_eq, bd2_eq, rq_none, rq_thr, xc_val, xc_thr, oI_add, oI_sub, oI_mul, oI_neg, oL_add, oL_sub, oL_mul, oL_neg, oL_I, eq_self, Nat.reduceEqDiff, Int.reduceLE, Int.reduceLT, Int.reduceEq, Int.reduceToNat, and_true, true_and, and_false, false_and, and_self, if_true, if_false, ite_true, ite_false, reduceCtorEq, cl_nat, nat1]
theorem rcv2_L {Z0 : sM} (hZ0 : ZR (zA Z0) (zB Z0) s) (h1 : W1 s N) (h3 : W3 s N) {f : Nat → Int} (h34 : ∀ k, k < N → Z0.2 34 0 0 k = oL (f k)) (kk : sM → Option sM) : ∀ (fuel i : Nat) (Z : sM), i ≤ N → N - i < fuel → Fr p37 Z0 Z → (∀ k, k < i → Z.2 37 0 0 k = oL (if sB s k 3 = 1 then f k else 0)) →
    ∃ Z', Fr p37 Z0 Z' ∧ (∀ k, k < N → Z'.2 37 0 0 k = oL (if sB s k 3 = 1 then f k else 0)) ∧ fX10_projectsWhole_L83 kk fuel (oI i) Z = kk Z' := by
  obtain ⟨_, _, _, _, _, _, _, g7, hN⟩ := id h1
  intro fuel
  induction fuel with
  | zero => intro i Z _ h; omega
  | succ fuel ih =>
    intro i Z hi hfu hF h7
    have hZ : ZR (zA Z) (zB Z) s := hZ0.keep (fun k => hF.i rfl) (fun k => hF.l rfl)
    rw [fX10_projectsWhole_L83]
    simp (disch := omega) only [kI_0, kI_1, kI_2, kI_3, kI_4, kI_5, kI_6, kI_7, kI_8, kI_9, kI_10, kI_12, kI_16, kI_17, kI_19, kI_20, kI_23, kI_24, kI_30, kI_32, kI_36, kI_48, kI_57, kI_59, kI_60, kI_72, kI_80, kI_84, kI_97, kI_98, kI_100, kI_122, kI_148, kI_200, kI_300, kI_1058, kI_1108, kI_1348, kI_1588, kI_5290, kI_7940, kI_100000, kI_e7, kI_e9, kL_0, kL_1, kL_5, kL_9, kL_10, kL_12, kL_23, kL_30, kL_48, kL_57, kL_59, kL_97, kL_100, kL_122, kL_1000, kL_e7, kL_e9, kL_e10, oI_lt, oI_le, oI_eq, oL_lt, oL_le, oL_eq, oI_L, oI_clamp, oI_inb, oL_nz, eq_self, Nat.reduceEqDiff, Int.reduceLE, Int.reduceLT, Int.reduceEq, Int.reduceToNat, and_true, true_and, and_false, false_and, and_self, if_true, if_false, ite_true, ite_false, reduceCtorEq, Zg hZ, g7]
    by_cases e : i = N
    · exact ⟨Z, hF, fun k hk => h7 k (by omega), by rw [if_pos (by omega)]⟩
    · have e34 : Z.2 34 0 0 i = oL (f i) := by rw [hF.l rfl]; exact h34 i (by omega)
      obtain ⟨Z', q1, q2, q3⟩ := ih (i + 1) (wL Z 37 0 0 i (oL (if sB s i 3 = 1 then f i else 0))) (by omega) (by omega) (hF.wL rfl) (fun k hk => by
        rw [wL_2]
        by_cases ek : k = i
        · rw [if_pos ⟨rfl, rfl, rfl, ek⟩, ek]
        · rw [if_neg (by omega)]; exact h7 k (by omega))
      refine ⟨Z', q1, q2, ?_⟩
      rw [if_neg (by omega), actZ hZ h3 (by omega) hN, bd_eq, ← q3]
      by_cases ea : sB s i 3 = 1
      · simp (disch := omega) only [if_pos ea, oI_lt, oI_le, oI_eq, oL_lt, oL_le, oL_eq, oI_L, oI_clamp, oI_inb, oL_nz, gd_true, ltb_eq, bd_eq, bd2_eq, rq_none, rq_thr, xc_val, xc_thr, oI_add, oI_sub, oI_mul, oI_neg, oL_add, oL_sub, oL_mul, oL_neg, oL_I, eq_self, Nat.reduceEqDiff, Int.reduceLE, Int.reduceLT, Int.reduceEq, Int.reduceToNat, and_true, true_and, and_false, false_and, and_self, if_true, if_false, ite_true, ite_false, reduceCtorEq, cl_nat, nat1, e34]
      · simp (disch := omega) only [if_neg ea, oI_lt, oI_le, oI_eq, oL_lt, oL_le, oL_eq, oI_L, oI_clamp, oI_inb, oL_nz, gd_true, ltb_eq, bd_eq, bd2_eq, rq_none, rq_thr, xc_val, xc_thr, oI_add, oI_sub, oI_mul, oI_neg, oL_add, oL_sub, oL_mul, oL_neg, oL_I, eq_self, Nat.reduceEqDiff, Int.reduceLE, Int.reduceLT, Int.reduceEq, Int.reduceToNat, and_true, true_and, and_false, false_and, and_self, if_true, if_false, ite_true, ite_false, reduceCtorEq, cl_nat, nat1]
def pY (c k o : Nat) : Bool := pZ c k o || p37 c k o
theorem pY_wk {A A' : sM} (h : Fr pY A A') : Fr wkZ A A' := h.mono fun c k o hq => by
  simp only [wkZ, pY, pZ, pWz, pDz, p37] at hq ⊢
  by_cases e : c = 34
  · subst e; simp at hq
  · by_cases e2 : c = 35
    · subst e2; simp at hq
    · by_cases e3 : c = 36
      · subst e3; simp at hq
      · by_cases e4 : c = 33
        · subst e4; simp at hq
        · by_cases e5 : c = 37
          · subst e5; simp at hq
          · by_cases e6 : c = 38
            · subst e6; simp at hq
            · simp [e, e2, e3, e4, e5, e6]
theorem pZ_pY {A A' : sM} (h : Fr pZ A A') : Fr pY A A' := h.mono fun c k o hq => by
  simp only [pY, Bool.or_eq_false_iff] at hq; exact hq.1
theorem p37_pY {A A' : sM} (h : Fr p37 A A') : Fr pY A A' := h.mono fun c k o hq => by
  simp only [pY, Bool.or_eq_false_iff] at hq; exact hq.2
/-- sums of the active ones' parts -/
theorem cs_le {a d9 V : Int} (hD : DV V (30 * sG s 0) (wop s N a d9) (N + 1)) (hV : V ≤ 1000000000000) : (∀ k, k < N → 0 ≤ pt s N a d9 V k) ∧ 0 ≤ pt s N a d9 V N ∧ (∀ k, k < N → 0 ≤ (if sB s k 3 = 1 then pt s N a d9 V k else 0)) ∧ sumN (fun k => if sB s k 3 = 1 then pt s N a d9 V k else 0) N ≤ 1000000000000 := by
  have h0 : ∀ k, k < N + 1 → 0 ≤ pt s N a d9 V k := fun k hk => dvd_nn hD hk
  have hs : sumN (pt s N a d9 V) (N + 1) = V := dvd_sum hD
  rw [sumN] at hs
  have h1 := h0 N (by omega)
  have h2 : sumN (fun k => if sB s k 3 = 1 then pt s N a d9 V k else 0) N ≤ sumN (pt s N a d9 V) N := sumN_le fun k hk => by
    have := h0 k (by omega)
    split <;> omega
  refine ⟨fun k hk => h0 k (by omega), h1, fun k hk => ?_, by omega⟩
  have := h0 k (by omega)
  split <;> omega
theorem prj (hZ : ZR (zA Z) (zB Z) s) (h1 : W1 s N) (h2 : W2 s) (h3 : W3 s N) (h5 : W5 s N) (h6 : W6 s) (hA : AS (toS s) (pcS s) N d) {m : Nat} (hm : sG s 5 = m) (hT : TT (fun k => if sB s k 3 = 1 then pt s N m (30 - sG s 6) (worth s m) k else 0) (toS s) (pcS s) tot N) :
    ∃ Z', Fr pY Z Z' ∧ (∀ j, j < N → Z'.2 37 0 0 j = oL (kp (fun k => if sB s k 3 = 1 then pt s N m (30 - sG s 6) (worth s m) k else 0) (toS s) (pcS s) tot N j)) ∧ fX10_projects Z = some Z' := by
  obtain ⟨g0, g1, g2, g3, g4, g5, g6, g7, hN⟩ := id h1
  have hwb := worth_bd h1 h2 h6 (m := m) (by omega)
  have hD := DVm (V := worth s m) h1 h3 h5 (a := m) (d := 30 - sG s 6) (by omega) (by omega) (hs_proj h1 h3 h5 hm) (by omega)
  obtain ⟨c1, c2, c3, c4⟩ := cs_le hD (by omega)
  obtain ⟨Z2, t1, t2, t3⟩ := dvm hZ h1 h3 h5 (m := m) (d := 30 - sG s 6) (by omega) (by omega) hD
  have hZ2 : ZR (zA Z2) (zB Z2) s := hZ.keep (fun k => t1.i rfl) (fun k => t1.l rfl)
  obtain ⟨Z3, u1, u2, u3⟩ := rcv1_L hZ2 h1 h3 (f := pt s N m (30 - sG s 6) (worth s m)) (fun k hk => t2 k (by omega)) (fun Z_6 => Option.bind (fX10_passesOn Z_6) fun Z_7 => some Z_7) 10000 0 Z2 (by omega) (by omega) (Fr.refl _) (fun k hk => by omega)
  have hZ3 : ZR (zA Z3) (zB Z3) s := hZ2.keep (fun k => u1.i rfl) (fun k => u1.l rfl)
  obtain ⟨Z4, v1, v2, v3⟩ := poZ hZ3 h1 hA hT c3 c4 u2
  refine ⟨Z4, (pZ_pY t1).trans ((p37_pY u1).trans (p37_pY v1)), v2, ?_⟩
  rw [fX10_projects, show Z.1 27 0 0 (5 : Int32).toNatClampNeg = oI (sG s 5) from hZ.g (k := 5) (by omega), show Z.1 27 0 0 (6 : Int32).toNatClampNeg = oI (sG s 6) from hZ.g (k := 6) (by omega), hm, wor hZ h1 h2 h6 (by omega), bd_eq, kI_30, oI_sub, t3, bd_eq, show (0 : Int32) = oI (0 : Nat) from rfl, u3, v3]
  rfl
/-- the system's projection -/
theorem prjA (hS : SR A 0 s N) (h1 : W1 s N) (h3 : W3 s N) (h5 : W5 s N) (hA : AS (toS s) (pcS s) N d) {a d9 V : Int} (ha : -1 ≤ a ∧ a < 60) (hd : 0 ≤ d9 ∧ d9 ≤ 30) (hD : DV V (30 * sG s 0) (wop s N a d9) (N + 1)) (hV : V ≤ 1000000000000) (hT : TT (fun k => if sB s k 3 = 1 then pt s N a d9 V k else 0) (toS s) (pcS s) tot N) :
    ∃ A1 A2 A3, Fr pW A A1 ∧ fX3_weighShareDays 0 (oI a) (oI d9) A = some A1 ∧ Fr pD A1 A2 ∧ fX3_divide (oL V) A1 = some A2 ∧ (∀ k, k < N → A2.2 17 0 0 k = oL (pt s N a d9 V k)) ∧ A2.2 17 0 0 16 = oL (pt s N a d9 V N) ∧ Fr pK A2 A3 ∧ fX1_passOn 0 A2 = some A3 ∧ (∀ k, k < N → A3.2 13 0 0 k = oL (kp (fun k => if sB s k 3 = 1 then pt s N a d9 V k else 0) (toS s) (pcS s) tot N k)) := by
  have hN := h1.2.2.2.2.2.2.2.2
  obtain ⟨c1, c2, c3, c4⟩ := cs_le hD hV
  obtain ⟨A1, q1, q2, q3, q4⟩ := wsd hS h1 h3 h5 ha hd
  have hS1 := hS.wk (pW_wk q1) hN (by omega)
  obtain ⟨A2, r1, r2, r3, r4⟩ := divM h1 hD q2 q3
  have hS2 := hS1.wk (pD_wk r1) hN (by omega)
  obtain ⟨A3, t1, t2, t3⟩ := poA hS2 h1 h3 hA r2 hT c1 c4
  exact ⟨A1, A2, A3, q1, q4, r1, r4, r2, r3, t1, t3, t2⟩
end
theorem case24 : CaseOK fL_case24 := by
  intro n L A Z xs x4 hn hI hin
  obtain ⟨_, i1, i2, i3, i4, i5⟩ := hin
  rw [fL_case24]
  simp only [i1, i2, i3, i4, i5, gd_true]
  obtain ⟨⟨s, N, hS, hZ, hW⟩, hR⟩ := id hI
  obtain ⟨w1, w2, w3, w4, w5, w6, w7, w8⟩ := id hW
  obtain ⟨g0, g1, g2, g3, g4, g5, g6, g7, hN⟩ := id w1
  refine OKL.c ?_
  generalize xs (x4 + 1).toNatClampNeg = x
  obtain ⟨a, a1, a2, rfl⟩ := I_ex x
  obtain ⟨m, hm⟩ : ∃ m : Nat, sG s 5 = m := ⟨(sG s 5).toNat, by omega⟩
  have hwb := worth_bd w1 w2 w6 (m := m) (by omega)
  have hD := DVm (V := worth s m) w1 w3 w5 (a := m) (d := 30 - sG s 6) (by omega) (by omega) (hs_proj w1 w3 w5 hm) (by omega)
  obtain ⟨d, hA⟩ := AS_of w4
  obtain ⟨tot, hT⟩ := TT_ex (c := fun k => if sB s k 3 = 1 then pt s N m (30 - sG s 6) (worth s m) k else 0) hA
  by_cases ha : 0 ≤ a ∧ a < N
  · obtain ⟨i, hi, rfl⟩ := int_ix ha
    obtain ⟨A1, A2, A3, e1, e2, e3, e4, e5, e6, e7, e8, e9⟩ := prjA hS w1 w3 w5 hA (a := m) (d9 := 30 - sG s 6) (by omega) (by omega) hD (by omega) hT
    have hS1 := hS.wk (pW_wk e1) hN (by omega)
    have hAf : Fr wkA A A3 := (pW_wk e1).trans ((pD_wk e3).trans (pK_wk e7))
    have eA : fL_projectedCredit (oI i) A = some (0, wL A3 41 0 0 0 (oL (kp (fun k => if sB s k 3 = 1 then pt s N m (30 - sG s 6) (worth s m) k else 0) (toS s) (pcS s) tot N i))) := by
      rw [fL_projectedCredit, fX9_projectedCredit, rqS_t hS hN hi, fX9_weighProjected, hS.mon, hS.day, hm, kI_30, oI_sub, e2]
      simp (disch := omega) only [gd_true, ltb_eq, bd_eq, bd2_eq, rq_none, rq_thr, xc_val, xc_thr, hS1.mon, hm, val hS1 w1 w2 w6 (show m < 60 by omega), e4, e8, oI_lt, oI_le, oI_eq, oL_lt, oL_le, oL_eq, oI_L, oI_clamp, oI_inb, oL_nz, cl_nat]
      rw [e9 i hi]
      rfl
    by_cases hac : sB s i 3 = 1
    · obtain ⟨Z', t1, t2, t3⟩ := prj (ZRt (v := oI 0) hZ) w1 w2 w3 w5 w6 hA hm hT
      refine OKL.v (v := oL (kp (fun k => if sB s k 3 = 1 then pt s N m (30 - sG s 6) (worth s m) k else 0) (toS s) (pcS s) tot N i)) hI eA ?_ (by rw [t1.i rfl]; rfl) hAf ((frT Z (oI 0)).trans (pY_wk t1))
      rw [fX10_projectedCredit, lacks_t hZ w1 hi]
      simp (disch := omega) only [gd_true, ltb_eq, bd_eq, bd2_eq, rq_none, rq_thr, xc_val, xc_thr, kI_0, kI_1, kI_2, kI_3, kI_4, kI_5, kI_6, kI_7, kI_8, kI_9, kI_10, kI_12, kI_16, kI_17, kI_19, kI_20, kI_23, kI_24, kI_30, kI_32, kI_36, kI_48, kI_57, kI_59, kI_60, kI_72, kI_80, kI_84, kI_97, kI_98, kI_100, kI_122, kI_148, kI_200, kI_300, kI_1058, kI_1108, kI_1348, kI_1588, kI_5290, kI_7940, kI_100000, kI_e7, kI_e9, kL_0, kL_1, kL_5, kL_9, kL_10, kL_12, kL_23, kL_30, kL_48, kL_57, kL_59, kL_97, kL_100, kL_122, kL_1000, kL_e7, kL_e9, kL_e10, oI_lt, oI_le, oI_eq, oL_lt, oL_le, oL_eq, oI_L, oI_clamp, oI_inb, oL_nz, eq_self, Nat.reduceEqDiff, Int.reduceLE, Int.reduceLT, Int.reduceEq, Int.reduceToNat, and_true, true_and, and_false, false_and, and_self, if_true, if_false, ite_true, ite_false, reduceCtorEq, actZ (ZRt hZ) w3 hi hN, if_pos hac, t3, cl_nat, t2 i hi]
    · refine OKL.v (v := oL (kp (fun k => if sB s k 3 = 1 then pt s N m (30 - sG s 6) (worth s m) k else 0) (toS s) (pcS s) tot N i)) hI eA ?_ (thr_g Z (oI 0)) hAf (frT Z (oI 0))
      rw [fX10_projectedCredit, lacks_t hZ w1 hi, kp_na w4 hi hac]
      simp (disch := omega) only [gd_true, ltb_eq, bd_eq, bd2_eq, rq_none, rq_thr, xc_val, xc_thr, kI_0, kI_1, kI_2, kI_3, kI_4, kI_5, kI_6, kI_7, kI_8, kI_9, kI_10, kI_12, kI_16, kI_17, kI_19, kI_20, kI_23, kI_24, kI_30, kI_32, kI_36, kI_48, kI_57, kI_59, kI_60, kI_72, kI_80, kI_84, kI_97, kI_98, kI_100, kI_122, kI_148, kI_200, kI_300, kI_1058, kI_1108, kI_1348, kI_1588, kI_5290, kI_7940, kI_100000, kI_e7, kI_e9, kL_0, kL_1, kL_5, kL_9, kL_10, kL_12, kL_23, kL_30, kL_48, kL_57, kL_59, kL_97, kL_100, kL_122, kL_1000, kL_e7, kL_e9, kL_e10, oI_lt, oI_le, oI_eq, oL_lt, oL_le, oL_eq, oI_L, oI_clamp, oI_inb, oL_nz, eq_self, Nat.reduceEqDiff, Int.reduceLE, Int.reduceLT, Int.reduceEq, Int.reduceToNat, and_true, true_and, and_false, false_and, and_self, if_true, if_false, ite_true, ite_false, reduceCtorEq, actZ (ZRt hZ) w3 hi hN, if_neg hac]
  · refine OKL.t (r := 1) (v := 0) hI ?_ ?_ (thr_g Z _) (by decide) (Fr.refl _) (frT Z _)
    · rw [fL_projectedCredit, fX9_projectedCredit, rqS_f hS hN a1 a2 ha]
      rfl
    · rw [fX10_projectedCredit, lacks_f hZ w1 a1 a2 ha]
      rfl
