def uA5 (c k o : Nat) : Bool := tA c k o || wkA c k o
def uZ5 (c k o : Nat) : Bool := tZ c k o || wkZ c k o
theorem tA_u {A A' : sM} (h : Fr tA A A') : Fr uA5 A A' := h.mono fun c k o hq => by
  simp only [uA5, Bool.or_eq_false_iff] at hq; exact hq.1
theorem tZ_u {A A' : sM} (h : Fr tZ A A') : Fr uZ5 A A' := h.mono fun c k o hq => by
  simp only [uZ5, Bool.or_eq_false_iff] at hq; exact hq.1
theorem Inv.tx {n len : Nat} {A A' Z Z' : sM} {v : Int64} (hI : Inv n A Z) (hd : TX A' Z' len) (hl : len ≤ 300) (hA : Fr uA5 A A') (hZ : Fr uZ5 Z Z') : Inv (n + 1) (wL A' 41 0 0 0 v) Z' := by
  obtain ⟨⟨s, N, hS, hZ0, hW⟩, ⟨K, p, t, Nt, ⟨h1, h2, h3, h4, h5⟩, h6⟩, ⟨len0, t1, t2, t3, t4, t5⟩, dl, d1, d2, d3, d4⟩ := hI
  have hN : N ≤ 16 := hW.1.2.2.2.2.2.2.2.2
  have hA2 : Fr uA5 A (wL A' 41 0 0 0 v) := hA.wL rfl
  refine ⟨⟨s, N, hS.keep hA2 hN (fun c k hc => ?_) (fun c k i hc hi => ?_), hZ0.keep (fun k => hZ.i rfl) (fun k => hZ.l rfl), hW.mono (by omega)⟩, ⟨K, p, t, Nt, ⟨h1, h2, ?_, ?_, ?_⟩, fun j hj => ?_⟩, ⟨len, hl, hd.1, hd.2.1, ?_, hd.2.2⟩, dl, d1, ?_, ?_, fun k hk => ?_⟩
  · rcases hc with rfl | rfl | rfl | rfl | rfl | rfl <;> rfl
  · rcases hc with rfl | rfl | rfl | rfl <;> simp [uA5, tA, wkA] <;> omega
  · rw [hA2.i rfl]; exact h3
  · rw [hA2.i rfl]; exact h4
  · rw [hZ.i rfl]; exact h5
  · obtain ⟨a, b, c, d⟩ := h6 j hj
    have hs : slot p K j < 6 := Nat.mod_lt _ (by omega)
    refine ⟨by rw [hA2.i rfl]; exact a, b.keep hA2 d.1.2.2.2.2.2.2.2.2 (fun c k hc => ?_) (fun c k i hc hi => ?_), c.keep (fun k => hZ.i rfl) (fun k => hZ.l rfl), d.mono (by omega)⟩
    · rcases hc with rfl | rfl | rfl | rfl | rfl | rfl <;> rfl
    · rcases hc with rfl | rfl | rfl | rfl <;> simp [uA5, tA, wkA] <;> omega
  · rw [hA2.i rfl, hZ.i rfl]; exact t4
  · rw [hA2.i rfl]; exact d2
  · rw [hZ.i rfl]; exact d3
  · rw [hA2.i rfl, hZ.i rfl]; exact d4 k hk
theorem app {n : Nat} {A Z : sM} (hI : Inv n A Z) (x1 x2 x3 x4 x5 : Int32) : OKI n (fL_append x1 x2 x3 x4 x5 A) (fX10_append x1 x2 x3 x4 x5 Z) := by
  obtain ⟨_, _, ⟨len, t1, t2, t3, t4, t5⟩, _⟩ := id hI
  by_cases hl : len + 20 ≤ 300
  · have h0 : TX A (wI Z 10 6 0 0 (0 : Int32)) len := ⟨t2, by rw [wI_1, if_neg (by omega)]; exact t3, fun k hk => by rw [wI_1, if_neg (by omega)]; exact t5 k hk⟩
    obtain ⟨A1, Z1, a1, b1, c1, f1, g1⟩ := wd (x1 := x1) (x2 := x2) (x3 := x3) (x4 := x4) (x5 := x5) (x := x1) (y0 := 0) (y1 := 1) (y2 := 2) (y3 := 3) (y4 := 4) h0 (by omega) rfl rfl rfl rfl (by decide) (by decide) (by decide) (by decide) rfl rfl rfl rfl rfl rfl rfl rfl
    obtain ⟨A2, Z2, a2, b2, c2, f2, g2⟩ := wd (x1 := x1) (x2 := x2) (x3 := x3) (x4 := x4) (x5 := x5) (x := x2) (y0 := 4) (y1 := 5) (y2 := 6) (y3 := 7) (y4 := 8) c1 (by omega) rfl rfl rfl rfl (by decide) (by decide) (by decide) (by decide) rfl rfl rfl rfl rfl rfl rfl rfl
    obtain ⟨A3, Z3, a3, b3, c3, f3, g3⟩ := wd (x1 := x1) (x2 := x2) (x3 := x3) (x4 := x4) (x5 := x5) (x := x3) (y0 := 8) (y1 := 9) (y2 := 10) (y3 := 11) (y4 := 12) c2 (by omega) rfl rfl rfl rfl (by decide) (by decide) (by decide) (by decide) rfl rfl rfl rfl rfl rfl rfl rfl
    obtain ⟨A4, Z4, a4, b4, c4, f4, g4⟩ := wd (x1 := x1) (x2 := x2) (x3 := x3) (x4 := x4) (x5 := x5) (x := x4) (y0 := 12) (y1 := 13) (y2 := 14) (y3 := 15) (y4 := 16) c3 (by omega) rfl rfl rfl rfl (by decide) (by decide) (by decide) (by decide) rfl rfl rfl rfl rfl rfl rfl rfl
    obtain ⟨A5, Z5, a5, b5, c5, f5, g5⟩ := wd (x1 := x1) (x2 := x2) (x3 := x3) (x4 := x4) (x5 := x5) (x := x5) (y0 := 16) (y1 := 17) (y2 := 18) (y3 := 19) (y4 := 20) c4 (by omega) rfl rfl rfl rfl (by decide) (by decide) (by decide) (by decide) rfl rfl rfl rfl rfl rfl rfl rfl
    have fA := f1.trans (f2.trans (f3.trans (f4.trans f5)))
    have fZ := g1.trans (g2.trans (g3.trans (g4.trans g5)))
    have eA : fX9_append x1 x2 x3 x4 x5 A = some (.inr (oI (len + 4 + 4 + 4 + 4 + 4 : Nat)), A5) := by
      rw [fX9_append, fX5_hasRoomFor, t2, if_neg (by simp (disch := omega) only [kI_0, kI_1, kI_2, kI_3, kI_4, kI_5, kI_6, kI_7, kI_8, kI_9, kI_10, kI_12, kI_16, kI_17, kI_19, kI_20, kI_23, kI_24, kI_30, kI_32, kI_36, kI_48, kI_57, kI_59, kI_60, kI_72, kI_80, kI_84, kI_97, kI_98, kI_100, kI_122, kI_148, kI_200, kI_300, kI_1058, kI_1108, kI_1348, kI_1588, kI_5290, kI_7940, kI_100000, kI_e7, kI_e9, kL_0, kL_1, kL_5, kL_9, kL_10, kL_12, kL_23, kL_30, kL_48, kL_57, kL_59, kL_97, kL_100, kL_122, kL_1000, kL_e7, kL_e9, kL_e10, oI_lt, oI_le, oI_eq, oL_lt, oL_le, oL_eq, oI_L, oI_clamp, oI_inb, oL_nz, oI_add, oI_sub, oI_mul, oI_neg, oL_add, oL_sub, oL_mul, oL_neg, oL_I]; omega), bd_eq, if_neg (by decide), a1, bd_eq, a2, bd_eq, a3, bd_eq, a4, bd_eq, a5, bd_eq, c5.1]
    have eZ : fX10_append x1 x2 x3 x4 x5 Z = some (oI (len + 4 + 4 + 4 + 4 + 4 : Nat), Z5) := by
      rw [fX10_append, ltb_eq, t3, if_pos (by simp (disch := omega) only [kI_0, kI_1, kI_2, kI_3, kI_4, kI_5, kI_6, kI_7, kI_8, kI_9, kI_10, kI_12, kI_16, kI_17, kI_19, kI_20, kI_23, kI_24, kI_30, kI_32, kI_36, kI_48, kI_57, kI_59, kI_60, kI_72, kI_80, kI_84, kI_97, kI_98, kI_100, kI_122, kI_148, kI_200, kI_300, kI_1058, kI_1108, kI_1348, kI_1588, kI_5290, kI_7940, kI_100000, kI_e7, kI_e9, kL_0, kL_1, kL_5, kL_9, kL_10, kL_12, kL_23, kL_30, kL_48, kL_57, kL_59, kL_97, kL_100, kL_122, kL_1000, kL_e7, kL_e9, kL_e10, oI_lt, oI_le, oI_eq, oL_lt, oL_le, oL_eq, oI_L, oI_clamp, oI_inb, oL_nz, oI_add, oI_sub, oI_mul, oI_neg, oL_add, oL_sub, oL_mul, oL_neg, oL_I]; omega)]
      dsimp only
      rw [ltb_eq, thr_yes]
      refine (b1 _ 9996).trans ((b2 _ 9992).trans ((b3 _ 9988).trans ((b4 _ 9984).trans ((b5 _ 9980).trans ?_))))
      rw [fX10_append_L34, if_pos (by decide), c5.2.1]
    refine ⟨wL A5 41 0 0 0 (oI (len + 4 + 4 + 4 + 4 + 4 : Nat)).toInt64, Z5, 0, oI (len + 4 + 4 + 4 + 4 + 4 : Nat), by rw [fL_append, eA]; rfl, eZ, by rw [fZ.i rfl]; rfl, fun _ => rfl, Inv.tx hI c5 (by omega) (tA_u fA) (Fr.trans ((Fr.refl _).wI rfl) (tZ_u fZ))⟩
  · refine OKI.t (r := 1) (v := 0) (Z' := wI Z 10 6 0 0 1) hI ?_ ?_ (thr_g Z _) (by decide) (Fr.refl _) (frT Z _)
    · have eA : fX9_append x1 x2 x3 x4 x5 A = some (.inl 2, A) := by
        rw [fX9_append, fX5_hasRoomFor, t2, if_pos (by simp (disch := omega) only [kI_0, kI_1, kI_2, kI_3, kI_4, kI_5, kI_6, kI_7, kI_8, kI_9, kI_10, kI_12, kI_16, kI_17, kI_19, kI_20, kI_23, kI_24, kI_30, kI_32, kI_36, kI_48, kI_57, kI_59, kI_60, kI_72, kI_80, kI_84, kI_97, kI_98, kI_100, kI_122, kI_148, kI_200, kI_300, kI_1058, kI_1108, kI_1348, kI_1588, kI_5290, kI_7940, kI_100000, kI_e7, kI_e9, kL_0, kL_1, kL_5, kL_9, kL_10, kL_12, kL_23, kL_30, kL_48, kL_57, kL_59, kL_97, kL_100, kL_122, kL_1000, kL_e7, kL_e9, kL_e10, oI_lt, oI_le, oI_eq, oL_lt, oL_le, oL_eq, oI_L, oI_clamp, oI_inb, oL_nz, oI_add, oI_sub, oI_mul, oI_neg, oL_add, oL_sub, oL_mul, oL_neg, oL_I]; omega), bd_eq, if_pos rfl]
      rw [fL_append, eA]; rfl
    · rw [fX10_append, ltb_eq, t3, if_neg (by simp (disch := omega) only [kI_0, kI_1, kI_2, kI_3, kI_4, kI_5, kI_6, kI_7, kI_8, kI_9, kI_10, kI_12, kI_16, kI_17, kI_19, kI_20, kI_23, kI_24, kI_30, kI_32, kI_36, kI_48, kI_57, kI_59, kI_60, kI_72, kI_80, kI_84, kI_97, kI_98, kI_100, kI_122, kI_148, kI_200, kI_300, kI_1058, kI_1108, kI_1348, kI_1588, kI_5290, kI_7940, kI_100000, kI_e7, kI_e9, kL_0, kL_1, kL_5, kL_9, kL_10, kL_12, kL_23, kL_30, kL_48, kL_57, kL_59, kL_97, kL_100, kL_122, kL_1000, kL_e7, kL_e9, kL_e10, oI_lt, oI_le, oI_eq, oL_lt, oL_le, oL_eq, oI_L, oI_clamp, oI_inb, oL_nz, oI_add, oI_sub, oI_mul, oI_neg, oL_add, oL_sub, oL_mul, oL_neg, oL_I]; omega)]
      dsimp only
      rw [ltb_eq, thr_no (by decide)]
theorem case0 : CaseOK fL_case0 := by
  intro n L A Z xs x4 hn hI hin
  obtain ⟨_, i1, i2, i3, i4, i5⟩ := hin
  rw [fL_case0]
  simp only [i1, i2, i3, i4, i5, gd_true]
  exact OKI.c (app hI _ _ _ _ _)
