/-! A month's division. -/
/-- the participants' weights: members, then the operator -/
def wop (s : sS) (N : Nat) (a d : Int) (k : Nat) : Int := if k < N then wv s a d k else 30 * sG s 0 - sumN (wv s a d) N
def w17 (s : sS) (N : Nat) (a d : Int) (j : Nat) : Int := if j < N then wv s a d j else if j = 16 then 30 * sG s 0 - sumN (wv s a d) N else 0
/-- a part of a month's division -/
def pt (s : sS) (N : Nat) (a d V : Int) (k : Nat) : Int := dvd V (30 * sG s 0) (wop s N a d) (N + 1) k
def pZ (c k o : Nat) : Bool := pWz c k o || pDz c k o
theorem pZ_wk {A A' : sM} (h : Fr pZ A A') : Fr wkZ A A' := h.mono fun c k o hq => by
  simp only [wkZ, pZ, pWz, pDz] at hq ⊢
  by_cases e : c = 34
  · subst e; simp at hq
  · by_cases e2 : c = 35
    · subst e2; simp at hq
    · by_cases e3 : c = 36
      · subst e3; simp at hq
      · by_cases e4 : c = 33
        · subst e4; simp at hq
        · simp [e, e2, e3, e4]
def pA (c k o : Nat) : Bool := pW c k o || pD c k o
theorem pA_wk {A A' : sM} (h : Fr pA A A') : Fr wkA A A' := h.mono fun c k o hq => by
  simp only [wkA, pA, pW, pD, Bool.or_eq_false_iff] at hq ⊢; simp only [hq, and_self]
theorem pW_pA {A A' : sM} (h : Fr pW A A') : Fr pA A A' := h.mono fun c k o hq => by
  simp only [pA, Bool.or_eq_false_iff] at hq; exact hq.1
theorem pD_pA {A A' : sM} (h : Fr pD A A') : Fr pA A A' := h.mono fun c k o hq => by
  simp only [pA, Bool.or_eq_false_iff] at hq; exact hq.2
theorem pWz_pZ {A A' : sM} (h : Fr pWz A A') : Fr pZ A A' := h.mono fun c k o hq => by
  simp only [pZ, Bool.or_eq_false_iff] at hq; exact hq.1
theorem pDz_pZ {A A' : sM} (h : Fr pDz A A') : Fr pZ A A' := h.mono fun c k o hq => by
  simp only [pZ, Bool.or_eq_false_iff] at hq; exact hq.2
section
variable {A Z : sM} {s : sS} {N n b : Nat}
theorem wv_nn (h1 : W1 s N) (h3 : W3 s N) (h5 : W5 s N) {a d : Int} (ha : -1 ≤ a ∧ a < 60) (hd : 0 ≤ d) {i : Nat} (hi : i < N) : 0 ≤ wv s a d i := by
  have hN := h1.2.2.2.2.2.2.2.2
  have := Int.mul_nonneg (h3.2.1 i (by omega)) hd
  rw [wv]
  split
  · have := h5.1 a.toNat i (by omega) (by omega); omega
  · omega
theorem DVm (h1 : W1 s N) (h3 : W3 s N) (h5 : W5 s N) {a d V : Int} (ha : -1 ≤ a ∧ a < 60) (hd : 0 ≤ d) (hs : sumN (wv s a d) N ≤ 30 * sG s 0) (hV : 0 ≤ V ∧ V ≤ 1000000000000) : DV V (30 * sG s 0) (wop s N a d) (N + 1) := by
  have g0 := h1.1
  refine ⟨hV.1, by omega, ⟨?_, by omega⟩, fun k hk => ?_, ?_⟩
  · have := Int.mul_le_mul hV.2 (show 30 * sG s 0 ≤ 3000000 by omega) (by omega) (by omega)
    omega
  · rw [wop]
    split
    · exact wv_nn h1 h3 h5 ha hd (by assumption)
    · omega
  · rw [sumN, wop, if_neg (by omega), sumN_congr (f := wop s N a d) (g := wv s a d) (fun i hi => if_pos hi)]
    omega
theorem DV17 (h1 : W1 s N) {a d V : Int} (hD : DV V (30 * sG s 0) (wop s N a d) (N + 1)) :
    DV V (30 * sG s 0) (w17 s N a d) 17 ∧ (∀ k, k < N → dvd V (30 * sG s 0) (w17 s N a d) 17 k = pt s N a d V k) ∧ dvd V (30 * sG s 0) (w17 s N a d) 17 16 = pt s N a d V N := by
  have hN := h1.2.2.2.2.2.2.2.2
  obtain ⟨q1, q2, q3⟩ := dvd_emb (Q := 17) (W := w17 s N a d) (φ := fun k => if k < N then k else 16) hD (fun k hk => by split <;> omega) (fun j k hjk hk => by split <;> split <;> omega) (fun k hk => by
    simp only [w17, wop]
    by_cases e : k < N
    · simp only [if_pos e]
    · simp only [if_neg e]
      rw [if_neg (by omega), if_pos trivial]) (fun j hj hn => by
    rw [w17]
    by_cases e : j < N
    · exact absurd (if_pos e) (hn j (by omega))
    · rw [if_neg e, if_neg]
      intro e2
      exact hn N (by omega) (by rw [if_neg (by omega), e2]))
  refine ⟨q1, fun k hk => ?_, ?_⟩
  · have := q2 k (by omega)
    simp only [if_pos hk] at this
    exact this
  · have := q2 N (by omega)
    simp only [Nat.lt_irrefl, if_false] at this
    exact this
theorem wsd (h0 : SR A 0 s N) (h1 : W1 s N) (h3 : W3 s N) (h5 : W5 s N) {a d : Int} (ha : -1 ≤ a ∧ a < 60) (hd : 0 ≤ d ∧ d ≤ 30) :
    ∃ A', Fr pW A A' ∧ A'.2 3 1 0 0 = oL (30 * sG s 0) ∧ (∀ j, j < 17 → A'.2 15 0 0 j = oL (w17 s N a d j)) ∧ fX3_weighShareDays 0 (oI a) (oI d) A = some A' := by
  have hN := h1.2.2.2.2.2.2.2.2
  obtain ⟨A1, q1, q2, q3⟩ := wsub h0 h1 h3 h5 ha hd
  have hS1 := h0.wk (pW_wk q1) hN (by omega)
  have g0 := h1.1
  refine ⟨wL (wL A1 3 1 0 0 (oL (30 * sG s 0))) 15 0 0 16 (oL (30 * sG s 0 - sumN (wv s a d) N)), (q1.wL rfl).wL rfl, rfl, fun j hj => ?_, ?_⟩
  · rw [wL_2, w17]
    by_cases e : j = 16
    · rw [if_pos ⟨rfl, rfl, rfl, e⟩, if_neg (by omega), if_pos e]
    · rw [if_neg (by omega), wL_2, if_neg (by omega), q2 j hj, if_neg (c := j = 16) e]
  · rw [fX3_weighShareDays, q3, bd2_eq, fX4_monthShareDays, hS1.g (by omega)]
    simp (disch := omega) only [kI_0, kI_1, kI_2, kI_3, kI_4, kI_5, kI_6, kI_7, kI_8, kI_9, kI_10, kI_12, kI_16, kI_17, kI_19, kI_20, kI_23, kI_24, kI_30, kI_32, kI_36, kI_48, kI_57, kI_59, kI_60, kI_72, kI_80, kI_84, kI_97, kI_98, kI_100, kI_122, kI_148, kI_200, kI_300, kI_1058, kI_1108, kI_1348, kI_1588, kI_5290, kI_7940, kI_100000, kI_e7, kI_e9, kL_0, kL_1, kL_5, kL_9, kL_10, kL_12, kL_23, kL_30, kL_48, kL_57, kL_59, kL_97, kL_100, kL_122, kL_1000, kL_e7, kL_e9, kL_e10, oI_lt, oI_le, oI_eq, oL_lt, oL_le, oL_eq, oI_L, oI_clamp, oI_inb, oL_nz, gd_true, ltb_eq, bd_eq, bd2_eq, rq_none, rq_thr, xc_val, xc_thr, oI_add, oI_sub, oI_mul, oI_neg, oL_add, oL_sub, oL_mul, oL_neg, oL_I, eq_self, Nat.reduceEqDiff, Int.reduceLE, Int.reduceLT, Int.reduceEq, Int.reduceToNat, and_true, true_and, and_false, false_and, and_self, if_true, if_false, ite_true, ite_false, reduceCtorEq, wL_2]
/-- the system's division of a month, weighed already -/
theorem divM (h1 : W1 s N) {a d V : Int} (hD : DV V (30 * sG s 0) (wop s N a d) (N + 1)) (e3 : A.2 3 1 0 0 = oL (30 * sG s 0)) (e4 : ∀ j, j < 17 → A.2 15 0 0 j = oL (w17 s N a d j)) :
    ∃ A', Fr pD A A' ∧ (∀ k, k < N → A'.2 17 0 0 k = oL (pt s N a d V k)) ∧ A'.2 17 0 0 16 = oL (pt s N a d V N) ∧ fX3_divide (oL V) A = some A' := by
  have hN := h1.2.2.2.2.2.2.2.2
  obtain ⟨d1, d2, d3⟩ := DV17 h1 hD
  obtain ⟨A', q1, q2, q3⟩ := divA d1 e3 e4
  exact ⟨A', q1, fun k hk => by rw [q2 k (by omega), d2 k hk], by rw [q2 16 (by omega), d3], q3⟩
theorem dm_L {Z0 : sM} (h0 : ZR (zA Z0) (zB Z0) s) (h1 : W1 s N) (h3 : W3 s N) (h5 : W5 s N) {m : Nat} {d : Int} (hm : m < 60) (hd : 0 ≤ d ∧ d ≤ 30) (x1 : Int64) (k : Int64 → sM → Option sM) :
    ∀ (fuel i : Nat) (acc : Int) (Z : sM), i ≤ N → N - i < fuel → Fr pWz Z0 Z → (∀ j, j < i → Z.2 33 0 0 j = oL (wv s m d j)) →
    ∃ Z', Fr pWz Z0 Z' ∧ (∀ j, j < N → Z'.2 33 0 0 j = oL (wv s m d j)) ∧ fX10_dividesMonth_L16 x1 (oI m) (oI d) k fuel (oL acc) (oI i) Z = k (oL (acc - (sumN (wv s m d) N - sumN (wv s m d) i))) Z' := by
  obtain ⟨_, _, _, _, _, _, _, g7, hN⟩ := id h1
  intro fuel
  induction fuel with
  | zero => intro i acc A _ h; omega
  | succ fuel ih =>
    intro i acc Z hi hf hF hw
    have hZ : ZR (zA Z) (zB Z) s := h0.keep (fun k => hF.i rfl) (fun k => hF.l rfl)
    by_cases e : i = N
    · refine ⟨Z, hF, fun j hj => by rw [hw j (by omega)], ?_⟩
      rw [fX10_dividesMonth_L16]
      simp (disch := omega) only [kI_0, kI_1, kI_2, kI_3, kI_4, kI_5, kI_6, kI_7, kI_8, kI_9, kI_10, kI_12, kI_16, kI_17, kI_19, kI_20, kI_23, kI_24, kI_30, kI_32, kI_36, kI_48, kI_57, kI_59, kI_60, kI_72, kI_80, kI_84, kI_97, kI_98, kI_100, kI_122, kI_148, kI_200, kI_300, kI_1058, kI_1108, kI_1348, kI_1588, kI_5290, kI_7940, kI_100000, kI_e7, kI_e9, kL_0, kL_1, kL_5, kL_9, kL_10, kL_12, kL_23, kL_30, kL_48, kL_57, kL_59, kL_97, kL_100, kL_122, kL_1000, kL_e7, kL_e9, kL_e10, oI_lt, oI_le, oI_eq, oL_lt, oL_le, oL_eq, oI_L, oI_clamp, oI_inb, oL_nz, eq_self, Nat.reduceEqDiff, Int.reduceLE, Int.reduceLT, Int.reduceEq, Int.reduceToNat, and_true, true_and, and_false, false_and, and_self, if_true, if_false, ite_true, ite_false, reduceCtorEq, Zg hZ, g7]
      rw [if_pos (by omega), e]
      exact congrArg (fun x => k (oL x) Z) (by omega)
    · have hi2 : i < N := by omega
      have b1 := sub_ix h3 h1 h5 hi2
      have b2 := b1.2 m hm
      have b3 := h5.1 m i hm (by omega)
      have b4 := h3.2.1 i (by omega)
      have ev : wv s m d i = sD s m i + d * sB s i 4 := by rw [wv, if_pos (by omega), cl_nat, Int.mul_comm]; omega
      obtain ⟨Z', q1, q2, q3⟩ := ih (i + 1) (acc - wv s m d i) (wL Z 33 0 0 i (oL (wv s m d i))) (by omega) (by omega) (hF.wL rfl) (fun j hj => by
        rw [wL_2]
        by_cases ej : j = i
        · rw [if_pos ⟨rfl, rfl, rfl, ej⟩, ej]
        · rw [if_neg (by omega), hw j (by omega)])
      refine ⟨Z', q1, q2, ?_⟩
      rw [fX10_dividesMonth_L16, fX10_daysAt]
      simp (disch := omega) only [kI_0, kI_1, kI_2, kI_3, kI_4, kI_5, kI_6, kI_7, kI_8, kI_9, kI_10, kI_12, kI_16, kI_17, kI_19, kI_20, kI_23, kI_24, kI_30, kI_32, kI_36, kI_48, kI_57, kI_59, kI_60, kI_72, kI_80, kI_84, kI_97, kI_98, kI_100, kI_122, kI_148, kI_200, kI_300, kI_1058, kI_1108, kI_1348, kI_1588, kI_5290, kI_7940, kI_100000, kI_e7, kI_e9, kL_0, kL_1, kL_5, kL_9, kL_10, kL_12, kL_23, kL_30, kL_48, kL_57, kL_59, kL_97, kL_100, kL_122, kL_1000, kL_e7, kL_e9, kL_e10, oI_lt, oI_le, oI_eq, oL_lt, oL_le, oL_eq, oI_L, oI_clamp, oI_inb, oL_nz, gd_true, ltb_eq, bd_eq, bd2_eq, rq_none, rq_thr, xc_val, xc_thr, oI_add, oI_sub, oI_mul, oI_neg, oL_add, oL_sub, oL_mul, oL_neg, oL_I, eq_self, Nat.reduceEqDiff, Int.reduceLE, Int.reduceLT, Int.reduceEq, Int.reduceToNat, and_true, true_and, and_false, false_and, and_self, if_true, if_false, ite_true, ite_false, reduceCtorEq, Zg hZ, g7, ofM4 hZ, cl_nat, nat1]
      rw [if_neg (by omega), show Z.1 27 0 0 (148 + 16 * (m : Int) + (i : Int)).toNat = oI (sD s m i) from hZ.dy hm (by omega)]
      simp (disch := omega) only [oI_lt, oI_le, oI_eq, oL_lt, oL_le, oL_eq, oI_L, oI_clamp, oI_inb, oL_nz, oI_add, oI_sub, oI_mul, oI_neg, oL_add, oL_sub, oL_mul, oL_neg, oL_I]
      rw [← ev, wL_2, if_pos ⟨rfl, rfl, rfl, rfl⟩, oL_sub, q3, sumN_s _ i]
      exact congrArg (fun x => k (oL x) Z') (by omega)
theorem dvm (h0 : ZR (zA Z) (zB Z) s) (h1 : W1 s N) (h3 : W3 s N) (h5 : W5 s N) {m : Nat} {d V : Int} (hm : m < 60) (hd : 0 ≤ d ∧ d ≤ 30) (hD : DV V (30 * sG s 0) (wop s N m d) (N + 1)) :
    ∃ Z', Fr pZ Z Z' ∧ (∀ k, k ≤ N → Z'.2 34 0 0 k = oL (pt s N m d V k)) ∧ fX10_dividesMonth (oL V) (oI m) (oI d) Z = some Z' := by
  obtain ⟨g0, _, _, _, _, _, _, g7, hN⟩ := id h1
  obtain ⟨Z1, q1, q2, q3⟩ := dm_L h0 h1 h3 h5 hm hd (oL V) (fun x5_3 Z_4 => gd (inb (Z_4.1 27 0 0 (7 : Int32).toNatClampNeg) 17) (
      ltb (wL Z_4 33 0 0 (Z_4.1 27 0 0 (7 : Int32).toNatClampNeg).toNatClampNeg x5_3) fun Z_7 =>
      Option.bind (fX10_divides (oL V) ((Z_7.1 27 0 0 (7 : Int32).toNatClampNeg) + (1 : Int32)) ((30 : Int64) * ((Z_7.1 27 0 0 (0 : Int32).toNatClampNeg).toInt64)) Z_7) fun Z_10 =>
      some Z_10)) 10000 0 (30 * sG s 0) Z (by omega) (by omega) (Fr.refl _) (fun j hj => by omega)
  have hZ1 : ZR (zA Z1) (zB Z1) s := h0.keep (fun k => q1.i rfl) (fun k => q1.l rfl)
  have e0 : sumN (wv s m d) 0 = 0 := rfl
  obtain ⟨Z2, r1, r2, r3⟩ := divZ (Z := wL Z1 33 0 0 N (oL (30 * sG s 0 - (sumN (wv s m d) N - sumN (wv s m d) 0)))) (P := N + 1) (by omega) hD (fun j hj => by
    rw [wL_2, wop]
    by_cases e : j = N
    · rw [if_pos ⟨rfl, rfl, rfl, e⟩, if_neg (by omega), e0]
      congr 1; omega
    · rw [if_neg (by omega), if_pos (by omega), q2 j (by omega)])
  refine ⟨Z2, ((pWz_pZ q1).wL rfl).trans (pDz_pZ r1), fun k hk => r2 k (by omega), ?_⟩
  rw [fX10_dividesMonth]
  simp (disch := omega) only [kI_0, kI_1, kI_2, kI_3, kI_4, kI_5, kI_6, kI_7, kI_8, kI_9, kI_10, kI_12, kI_16, kI_17, kI_19, kI_20, kI_23, kI_24, kI_30, kI_32, kI_36, kI_48, kI_57, kI_59, kI_60, kI_72, kI_80, kI_84, kI_97, kI_98, kI_100, kI_122, kI_148, kI_200, kI_300, kI_1058, kI_1108, kI_1348, kI_1588, kI_5290, kI_7940, kI_100000, kI_e7, kI_e9, kL_0, kL_1, kL_5, kL_9, kL_10, kL_12, kL_23, kL_30, kL_48, kL_57, kL_59, kL_97, kL_100, kL_122, kL_1000, kL_e7, kL_e9, kL_e10, oI_lt, oI_le, oI_eq, oL_lt, oL_le, oL_eq, oI_L, oI_clamp, oI_inb, oL_nz, gd_true, ltb_eq, bd_eq, bd2_eq, rq_none, rq_thr, xc_val, xc_thr, oI_add, oI_sub, oI_mul, oI_neg, oL_add, oL_sub, oL_mul, oL_neg, oL_I, eq_self, Nat.reduceEqDiff, Int.reduceLE, Int.reduceLT, Int.reduceEq, Int.reduceToNat, and_true, true_and, and_false, false_and, and_self, if_true, if_false, ite_true, ite_false, reduceCtorEq, Zg h0] at q3 ⊢
  rw [show oI 0 = oI (0 : Nat) from rfl, q3]
  simp (disch := omega) only [kI_0, kI_1, kI_2, kI_3, kI_4, kI_5, kI_6, kI_7, kI_8, kI_9, kI_10, kI_12, kI_16, kI_17, kI_19, kI_20, kI_23, kI_24, kI_30, kI_32, kI_36, kI_48, kI_57, kI_59, kI_60, kI_72, kI_80, kI_84, kI_97, kI_98, kI_100, kI_122, kI_148, kI_200, kI_300, kI_1058, kI_1108, kI_1348, kI_1588, kI_5290, kI_7940, kI_100000, kI_e7, kI_e9, kL_0, kL_1, kL_5, kL_9, kL_10, kL_12, kL_23, kL_30, kL_48, kL_57, kL_59, kL_97, kL_100, kL_122, kL_1000, kL_e7, kL_e9, kL_e10, oI_lt, oI_le, oI_eq, oL_lt, oL_le, oL_eq, oI_L, oI_clamp, oI_inb, oL_nz, gd_true, ltb_eq, bd_eq, bd2_eq, rq_none, rq_thr, xc_val, xc_thr, oI_add, oI_sub, oI_mul, oI_neg, oL_add, oL_sub, oL_mul, oL_neg, oL_I, eq_self, Nat.reduceEqDiff, Int.reduceLE, Int.reduceLT, Int.reduceEq, Int.reduceToNat, and_true, true_and, and_false, false_and, and_self, if_true, if_false, ite_true, ite_false, reduceCtorEq, Zg hZ1, wL_1, g7, cl_nat, nat1]
  rw [r3]
  rfl
/-- the share-days of a projected month -/
theorem hs_proj (h1 : W1 s N) (h3 : W3 s N) (h5 : W5 s N) {m : Nat} (hm : sG s 5 = m) : sumN (wv s m (30 - sG s 6)) N ≤ 30 * sG s 0 := by
  obtain ⟨g0, _, _, _, _, g5, g6, _⟩ := id h1
  have e : sumN (wv s m (30 - sG s 6)) N = (30 - sG s 6) * sumN (fun i => sB s i 4) N + sumN (fun i => sD s m i) N := by
    rw [← sumN_mul, ← sumN_add]
    exact sumN_congr fun i _ => by rw [wv, if_pos (by omega), cl_nat, Int.mul_comm]
  have h6 := h5.2.2.2.2 m (by omega)
  have h7 : (30 - sG s 6) * sumN (fun i => sB s i 4) N ≤ (30 - sG s 6) * sG s 0 := Int.mul_le_mul_of_nonneg_left h3.2.2.2.2.2 (by omega)
  have h8 : (30 - sG s 6) * sG s 0 = 30 * sG s 0 - sG s 6 * sG s 0 := by rw [Int.sub_mul]
  omega
end
theorem case23 : CaseOK fL_case23 := by
  intro n L A Z xs x4 hn hI hin
  obtain ⟨_, i1, i2, i3, i4, i5⟩ := hin
  rw [fL_case23]
  simp only [i1, i2, i3, i4, i5, gd_true]
  obtain ⟨⟨s, N, hS, hZ, hW⟩, hR⟩ := id hI
  obtain ⟨w1, w2, w3, w4, w5, w6, w7, w8⟩ := id hW
  obtain ⟨g0, g1, g2, g3, g4, g5, g6, g7, hN⟩ := id w1
  refine OKL.c ?_
  generalize xs (x4 + 1).toNatClampNeg = x
  obtain ⟨a, a1, a2, rfl⟩ := I_ex x
  obtain ⟨m, hm⟩ : ∃ m : Nat, sG s 5 = m := ⟨(sG s 5).toNat, by omega⟩
  have hwb := worth_bd w1 w2 w6 (m := m) (by omega)
  have hD := DVm (V := worth s m) w1 w3 w5 (a := m) (d := 30 - sG s 6) (by omega) (by omega) (hs_proj w1 w3 w5 hm) (by omega)
  obtain ⟨A1, q1, q2, q3, q4⟩ := wsd hS w1 w3 w5 (a := m) (d := 30 - sG s 6) (by omega) (by omega)
  have hS1 := hS.wk (pW_wk q1) hN (by omega)
  obtain ⟨A2, r1, r2, r3, r4⟩ := divM w1 hD q2 q3
  obtain ⟨Z2, t1, t2, t3⟩ := dvm (ZRt (v := oI 0) hZ) w1 w3 w5 (m := m) (d := 30 - sG s 6) (by omega) (by omega) hD
  have hA : Fr wkA A A2 := (pW_wk q1).trans (pD_wk r1)
  have hZ2 : Fr wkZ Z Z2 := (frT Z (oI 0)).trans (pZ_wk t1)
  have ht : Z2.1 10 6 0 0 = 0 := by rw [t1.i rfl]; rfl
  have eA : fX9_weighProjected A = some A1 := by
    rw [fX9_weighProjected, hS.mon, hS.day, hm]
    simp only [kI_0, kI_1, kI_2, kI_3, kI_4, kI_5, kI_6, kI_7, kI_8, kI_9, kI_10, kI_12, kI_16, kI_17, kI_19, kI_20, kI_23, kI_24, kI_30, kI_32, kI_36, kI_48, kI_57, kI_59, kI_60, kI_72, kI_80, kI_84, kI_97, kI_98, kI_100, kI_122, kI_148, kI_200, kI_300, kI_1058, kI_1108, kI_1348, kI_1588, kI_5290, kI_7940, kI_100000, kI_e7, kI_e9, kL_0, kL_1, kL_5, kL_9, kL_10, kL_12, kL_23, kL_30, kL_48, kL_57, kL_59, kL_97, kL_100, kL_122, kL_1000, kL_e7, kL_e9, kL_e10, oI_add, oI_sub, oI_mul, oI_neg, oL_add, oL_sub, oL_mul, oL_neg, oL_I]
    rw [q4]
    rfl
  by_cases ha : -1 ≤ a ∧ a < N
  · by_cases ha2 : a = -1
    · subst ha2
      refine OKL.v (v := oL (pt s N m (30 - sG s 6) (worth s m) N)) hI ?_ ?_ ht hA hZ2
      · rw [fL_projectedPart, fX9_projectedPart, rqQ_o]
        simp (disch := omega) only [gd_true, ltb_eq, bd_eq, bd2_eq, rq_none, rq_thr, xc_val, xc_thr, eA, hS1.mon, hm, val hS1 w1 w2 w6 (show m < 60 by omega), r4, fX9_placeOf, kI_0, kI_1, kI_2, kI_3, kI_4, kI_5, kI_6, kI_7, kI_8, kI_9, kI_10, kI_12, kI_16, kI_17, kI_19, kI_20, kI_23, kI_24, kI_30, kI_32, kI_36, kI_48, kI_57, kI_59, kI_60, kI_72, kI_80, kI_84, kI_97, kI_98, kI_100, kI_122, kI_148, kI_200, kI_300, kI_1058, kI_1108, kI_1348, kI_1588, kI_5290, kI_7940, kI_100000, kI_e7, kI_e9, kL_0, kL_1, kL_5, kL_9, kL_10, kL_12, kL_23, kL_30, kL_48, kL_57, kL_59, kL_97, kL_100, kL_122, kL_1000, kL_e7, kL_e9, kL_e10, oI_add, oI_sub, oI_mul, oI_neg, oL_add, oL_sub, oL_mul, oL_neg, oL_I, oI_lt, oI_le, oI_eq, oL_lt, oL_le, oL_eq, oI_L, oI_clamp, oI_inb, oL_nz, eq_self, Nat.reduceEqDiff, Int.reduceLE, Int.reduceLT, Int.reduceEq, Int.reduceToNat, and_true, true_and, and_false, false_and, and_self, if_true, if_false, ite_true, ite_false, reduceCtorEq]
        rw [r3]
      · rw [fX10_projectedPart]
        simp (disch := omega) only [gd_true, ltb_eq, bd_eq, bd2_eq, rq_none, rq_thr, xc_val, xc_thr, kI_0, kI_1, kI_2, kI_3, kI_4, kI_5, kI_6, kI_7, kI_8, kI_9, kI_10, kI_12, kI_16, kI_17, kI_19, kI_20, kI_23, kI_24, kI_30, kI_32, kI_36, kI_48, kI_57, kI_59, kI_60, kI_72, kI_80, kI_84, kI_97, kI_98, kI_100, kI_122, kI_148, kI_200, kI_300, kI_1058, kI_1108, kI_1348, kI_1588, kI_5290, kI_7940, kI_100000, kI_e7, kI_e9, kL_0, kL_1, kL_5, kL_9, kL_10, kL_12, kL_23, kL_30, kL_48, kL_57, kL_59, kL_97, kL_100, kL_122, kL_1000, kL_e7, kL_e9, kL_e10, oI_add, oI_sub, oI_mul, oI_neg, oL_add, oL_sub, oL_mul, oL_neg, oL_I, oI_lt, oI_le, oI_eq, oL_lt, oL_le, oL_eq, oI_L, oI_clamp, oI_inb, oL_nz, wI_1, wI_2, wL_1, wL_2, fI_1, fI_2, fL_1, fL_2, eq_self, Nat.reduceEqDiff, Int.reduceLE, Int.reduceLT, Int.reduceEq, Int.reduceToNat, and_true, true_and, and_false, false_and, and_self, if_true, if_false, ite_true, ite_false, reduceCtorEq, Zg hZ, hm, wor (ZRt hZ) w1 w2 w6 (show m < 60 by omega), t3]
        have hg : Z2.1 27 0 0 7 = oI N := by rw [t1.i rfl]; exact (hZ.g (k := 7) (by omega)).trans (by rw [g7])
        simp (disch := omega) only [gd_true, ltb_eq, bd_eq, bd2_eq, rq_none, rq_thr, xc_val, xc_thr, oI_lt, oI_le, oI_eq, oL_lt, oL_le, oL_eq, oI_L, oI_clamp, oI_inb, oL_nz, hg, cl_nat, t2 N (Nat.le_refl N)]
    · obtain ⟨i, hi, rfl⟩ := int_ix (a := a) (N := N) (by omega)
      refine OKL.v (v := oL (pt s N m (30 - sG s 6) (worth s m) i)) hI ?_ ?_ ht hA hZ2
      · rw [fL_projectedPart, fX9_projectedPart, rqQ_t hS hN hi]
        simp (disch := omega) only [gd_true, ltb_eq, bd_eq, bd2_eq, rq_none, rq_thr, xc_val, xc_thr, eA, hS1.mon, hm, val hS1 w1 w2 w6 (show m < 60 by omega), r4, fX9_placeOf, kI_0, kI_1, kI_2, kI_3, kI_4, kI_5, kI_6, kI_7, kI_8, kI_9, kI_10, kI_12, kI_16, kI_17, kI_19, kI_20, kI_23, kI_24, kI_30, kI_32, kI_36, kI_48, kI_57, kI_59, kI_60, kI_72, kI_80, kI_84, kI_97, kI_98, kI_100, kI_122, kI_148, kI_200, kI_300, kI_1058, kI_1108, kI_1348, kI_1588, kI_5290, kI_7940, kI_100000, kI_e7, kI_e9, kL_0, kL_1, kL_5, kL_9, kL_10, kL_12, kL_23, kL_30, kL_48, kL_57, kL_59, kL_97, kL_100, kL_122, kL_1000, kL_e7, kL_e9, kL_e10, oI_add, oI_sub, oI_mul, oI_neg, oL_add, oL_sub, oL_mul, oL_neg, oL_I, oI_lt, oI_le, oI_eq, oL_lt, oL_le, oL_eq, oI_L, oI_clamp, oI_inb, oL_nz, eq_self, Nat.reduceEqDiff, Int.reduceLE, Int.reduceLT, Int.reduceEq, Int.reduceToNat, and_true, true_and, and_false, false_and, and_self, if_true, if_false, ite_true, ite_false, reduceCtorEq]
        rw [cl_nat, r2 i hi]
      · rw [fX10_projectedPart, mem_t hZ w1 hi]
        simp (disch := omega) only [gd_true, ltb_eq, bd_eq, bd2_eq, rq_none, rq_thr, xc_val, xc_thr, kI_0, kI_1, kI_2, kI_3, kI_4, kI_5, kI_6, kI_7, kI_8, kI_9, kI_10, kI_12, kI_16, kI_17, kI_19, kI_20, kI_23, kI_24, kI_30, kI_32, kI_36, kI_48, kI_57, kI_59, kI_60, kI_72, kI_80, kI_84, kI_97, kI_98, kI_100, kI_122, kI_148, kI_200, kI_300, kI_1058, kI_1108, kI_1348, kI_1588, kI_5290, kI_7940, kI_100000, kI_e7, kI_e9, kL_0, kL_1, kL_5, kL_9, kL_10, kL_12, kL_23, kL_30, kL_48, kL_57, kL_59, kL_97, kL_100, kL_122, kL_1000, kL_e7, kL_e9, kL_e10, oI_add, oI_sub, oI_mul, oI_neg, oL_add, oL_sub, oL_mul, oL_neg, oL_I, oI_lt, oI_le, oI_eq, oL_lt, oL_le, oL_eq, oI_L, oI_clamp, oI_inb, oL_nz, wI_1, wI_2, wL_1, wL_2, fI_1, fI_2, fL_1, fL_2, eq_self, Nat.reduceEqDiff, Int.reduceLE, Int.reduceLT, Int.reduceEq, Int.reduceToNat, and_true, true_and, and_false, false_and, and_self, if_true, if_false, ite_true, ite_false, reduceCtorEq, Zg hZ, hm, wor (ZRt hZ) w1 w2 w6 (show m < 60 by omega), t3]
        simp (disch := omega) only [if_neg ha2, gd_true, ltb_eq, bd_eq, bd2_eq, rq_none, rq_thr, xc_val, xc_thr, oI_lt, oI_le, oI_eq, oL_lt, oL_le, oL_eq, oI_L, oI_clamp, oI_inb, oL_nz, cl_nat, t2 i (by omega)]
  · refine OKL.t (r := 1) (v := 0) hI ?_ ?_ (thr_g Z _) (by decide) (Fr.refl _) (frT Z _)
    · rw [fL_projectedPart, fX9_projectedPart, rqQ_f hS hN a1 a2 ha]
      rfl
    · rw [fX10_projectedPart, mem_f hZ w1 a1 a2 (by omega)]
      simp (disch := omega) only [gd_true, ltb_eq, bd_eq, bd2_eq, rq_none, rq_thr, xc_val, xc_thr, oI_lt, oI_le, oI_eq, oL_lt, oL_le, oL_eq, oI_L, oI_clamp, oI_inb, oL_nz, kI_0, kI_1, kI_2, kI_3, kI_4, kI_5, kI_6, kI_7, kI_8, kI_9, kI_10, kI_12, kI_16, kI_17, kI_19, kI_20, kI_23, kI_24, kI_30, kI_32, kI_36, kI_48, kI_57, kI_59, kI_60, kI_72, kI_80, kI_84, kI_97, kI_98, kI_100, kI_122, kI_148, kI_200, kI_300, kI_1058, kI_1108, kI_1348, kI_1588, kI_5290, kI_7940, kI_100000, kI_e7, kI_e9, kL_0, kL_1, kL_5, kL_9, kL_10, kL_12, kL_23, kL_30, kL_48, kL_57, kL_59, kL_97, kL_100, kL_122, kL_1000, kL_e7, kL_e9, kL_e10, oI_add, oI_sub, oI_mul, oI_neg, oL_add, oL_sub, oL_mul, oL_neg, oL_I, wI_1, wI_2, wL_1, wL_2, fI_1, fI_2, fL_1, fL_2, eq_self, Nat.reduceEqDiff, Int.reduceLE, Int.reduceLT, Int.reduceEq, Int.reduceToNat, and_true, true_and, and_false, false_and, and_self, if_true, if_false, ite_true, ite_false, reduceCtorEq]
      rw [if_neg (by omega)]
