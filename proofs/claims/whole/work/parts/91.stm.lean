/-! Statements of the text: garden, period, hours. -/
theorem clp0 : (0 : Int32).toNatClampNeg = 0 := rfl
theorem clp4 : (4 : Int32).toNatClampNeg = 4 := rfl
section
variable {t : Nat → Int} {L p np : Nat} {A A' Z Z' : sM}
theorem tk_g (Z : sM) (q : Nat) (h : TK Z t L q) : (Z.1 10 12 0 0 = oI (0 : Nat) ↔ stands t wg L q 6) ∧ (Z.1 10 12 0 0 = oI (0 : Nat) → Z.1 10 11 0 0 = oI (q + 6 : Nat)) := by
  obtain ⟨k, e, ⟨h1, h2, h3⟩, ⟨_, _, _, h4⟩, ⟨a1, a2⟩, _⟩ := h
  rw [h2, h3]
  simp (disch := omega) only [oI_eq]
  exact ⟨⟨fun e => a1.1 (by omega), fun e => by have := a1.2 e; omega⟩, fun e => by rw [a2 (by omega)]⟩
theorem tk_p (Z : sM) (q : Nat) (h : TK Z t L q) : (Z.1 10 12 0 0 = oI (1 : Nat) ↔ stands t wp L q 6) ∧ (Z.1 10 12 0 0 = oI (1 : Nat) → Z.1 10 11 0 0 = oI (q + 6 : Nat)) := by
  obtain ⟨k, e, ⟨h1, h2, h3⟩, ⟨_, _, _, h4⟩, _, ⟨a1, a2⟩, _⟩ := h
  rw [h2, h3]
  simp (disch := omega) only [oI_eq]
  exact ⟨⟨fun e => a1.1 (by omega), fun e => by have := a1.2 e; omega⟩, fun e => by rw [a2 (by omega)]⟩
theorem tk_h (Z : sM) (q : Nat) (h : TK Z t L q) : (Z.1 10 12 0 0 = oI (2 : Nat) ↔ stands t wh L q 5) ∧ (Z.1 10 12 0 0 = oI (2 : Nat) → Z.1 10 11 0 0 = oI (q + 5 : Nat)) := by
  obtain ⟨k, e, ⟨h1, h2, h3⟩, ⟨_, _, _, h4⟩, _, _, ⟨a1, a2⟩, _⟩ := h
  rw [h2, h3]
  simp (disch := omega) only [oI_eq]
  exact ⟨⟨fun e => a1.1 (by omega), fun e => by have := a1.2 e; omega⟩, fun e => by rw [a2 (by omega)]⟩
theorem exG (hT : RT t L) (h : QQ A Z t L p) : ∃ A' Z', Fr r5 A A' ∧ Fr r1f Z Z' ∧ QQ A' Z' t L (p + 1) ∧ (A'.1 5 4 0 0 = 0 → A.1 5 4 0 0 = 0) ∧ fX5_expectWord 2 A = some A' ∧ fX10_must 0 Z = some Z' :=
  exW (n := 6) hT ⟨by omega, by omega⟩ (by decide) rfl (fun j hj => ⟨(wg_s j hj).1.2, by have := (wg_s j hj).2; omega⟩) tk_g h
theorem exP (hT : RT t L) (h : QQ A Z t L p) : ∃ A' Z', Fr r5 A A' ∧ Fr r1f Z Z' ∧ QQ A' Z' t L (p + 1) ∧ (A'.1 5 4 0 0 = 0 → A.1 5 4 0 0 = 0) ∧ fX5_expectWord 3 A = some A' ∧ fX10_must 1 Z = some Z' :=
  exW (n := 6) hT ⟨by omega, by omega⟩ (by decide) rfl (fun j hj => ⟨(wp_s j hj).1.2, by have := (wp_s j hj).2; omega⟩) tk_p h
theorem exH (hT : RT t L) (h : QQ A Z t L p) : ∃ A' Z', Fr r5 A A' ∧ Fr r1f Z Z' ∧ QQ A' Z' t L (p + 1) ∧ (A'.1 5 4 0 0 = 0 → A.1 5 4 0 0 = 0) ∧ fX5_expectWord 4 A = some A' ∧ fX10_must 2 Z = some Z' :=
  exW (n := 5) hT ⟨by omega, by omega⟩ (by decide) rfl (fun j hj => ⟨(wh_s j hj).1.2, by have := (wh_s j hj).2; omega⟩) tk_h h
theorem gar (hT : RT t L) (h : QQ A Z t L p) (hc : A.1 4 4 7 0 = 0) (hh0 : ∀ k, k < 24 → A.1 19 0 7 k = 0) : ∃ A' Z', Fr plA A A' ∧ Fr plZ Z Z' ∧ QQ A' Z' t L (p + 1) ∧ (A'.1 5 4 0 0 = 0 → PLe A' Z' 0) ∧ A'.1 4 4 7 0 = 0 ∧ fX5_readGardenStatement A = some A' ∧ ∀ kk : sM → Option sM, (Option.bind (fX10_must (0 : Int32) Z) fun Z_1 =>
  bd2 (fX10_takes (1 : Int32) (100000 : Int32) Z_1) fun r_3 Z_2 =>
  bd2 (fX10_takes (1 : Int32) (24 : Int32) Z_2) fun r_5 Z_4 =>
  bd2 (fX10_takes (0 : Int32) (100 : Int32) Z_4) fun r_7 Z_6 =>
  bd2 (fX10_takes (1 : Int32) (100 : Int32) Z_6) fun r_9 Z_8 =>
  Option.bind (fX10_begins_28 r_3 r_5 r_7 r_9 Z_8) fun Z_10 =>
  Option.bind (fX10_must (5 : Int32) Z_10) kk) = kk Z' := by
  obtain ⟨A1, Z1, fa1, fz1, q1, n1, ea1, ez1⟩ := exG hT h
  obtain ⟨A2, Z2, ra1, rz1, v1, fa2, fz2, q2, n2, ea2, ez2⟩ := exN (x1 := 1) (x2 := 100000) (y1 := 1) (y2 := 100000) (a := 1) (b := 100000) hT (fun _ => ⟨⟨kI_1, kI_1, kI_100000, kI_100000⟩, by omega, by omega⟩) q1
  obtain ⟨B2, hB2⟩ : ∃ B, B = wI A2 4 0 7 0 ra1 := ⟨_, rfl⟩
  have fb2 : Fr p7 A2 B2 := by rw [hB2]; exact (Fr.refl _).wI rfl
  obtain ⟨A3, Z3, ra2, rz2, v2, fa3, fz3, q3, n3, ea3, ez3⟩ := exN (x1 := 1) (x2 := 24) (y1 := 1) (y2 := 24) (a := 1) (b := 24) hT (fun _ => ⟨⟨kI_1, kI_1, kI_24, kI_24⟩, by omega, by omega⟩) (q2.pl fb2 (Fr.refl _))
  obtain ⟨B3, hB3⟩ : ∃ B, B = wI A3 4 1 7 0 ra2 := ⟨_, rfl⟩
  have fb3 : Fr p7 A3 B3 := by rw [hB3]; exact (Fr.refl _).wI rfl
  obtain ⟨A4, Z4, ra3, rz3, v3, fa4, fz4, q4, n4, ea4, ez4⟩ := exN (x1 := 0) (x2 := 100) (y1 := 0) (y2 := 100) (a := 0) (b := 100) hT (fun _ => ⟨⟨kI_0, kI_0, kI_100, kI_100⟩, by omega, by omega⟩) (q3.pl fb3 (Fr.refl _))
  obtain ⟨B4, hB4⟩ : ∃ B, B = wI A4 4 2 7 0 ra3 := ⟨_, rfl⟩
  have fb4 : Fr p7 A4 B4 := by rw [hB4]; exact (Fr.refl _).wI rfl
  obtain ⟨A5, Z5, ra4, rz4, v4, fa5, fz5, q5, n5, ea5, ez5⟩ := exN (x1 := 1) (x2 := 100) (y1 := 1) (y2 := 100) (a := 1) (b := 100) hT (fun _ => ⟨⟨kI_1, kI_1, kI_100, kI_100⟩, by omega, by omega⟩) (q4.pl fb4 (Fr.refl _))
  obtain ⟨B5, hB5⟩ : ∃ B, B = wI A5 4 3 7 0 ra4 := ⟨_, rfl⟩
  have fb5 : Fr p7 A5 B5 := by rw [hB5]; exact (Fr.refl _).wI rfl
  obtain ⟨Z6, fz6, ⟨y0, y1, y2, y3⟩, y4, ez6⟩ := bgs rz1 rz2 rz3 rz4 Z5
  obtain ⟨A7, Z7, fa7, fz7, q7, n7, ea7, ez7⟩ := exS hT (q5.pl fb5 fz6)
  have s3 : B5.1 4 3 7 0 = ra4 := by rw [hB5, wI_1, if_pos ⟨rfl, rfl, rfl, rfl⟩]
  have s2 : B5.1 4 2 7 0 = ra3 := by rw [hB5, wI_1, if_neg (by omega), fa5.i rfl, hB4, wI_1, if_pos ⟨rfl, rfl, rfl, rfl⟩]
  have s1 : B5.1 4 1 7 0 = ra2 := by rw [hB5, wI_1, if_neg (by omega), fa5.i rfl, hB4, wI_1, if_neg (by omega), fa4.i rfl, hB3, wI_1, if_pos ⟨rfl, rfl, rfl, rfl⟩]
  have s0 : B5.1 4 0 7 0 = ra1 := by rw [hB5, wI_1, if_neg (by omega), fa5.i rfl, hB4, wI_1, if_neg (by omega), fa4.i rfl, hB3, wI_1, if_neg (by omega), fa3.i rfl, hB2, wI_1, if_pos ⟨rfl, rfl, rfl, rfl⟩]
  have sx : ∀ c k i, ¬ (c = 4 ∧ k < 4) → ¬ c = 5 → B5.1 c k 7 i = A.1 c k 7 i := fun c k i hck h5 => by
    have e5 : r5 c k 7 = false := by simp [r5, h5]
    rw [hB5, wI_1, if_neg (by omega), fa5.i e5, hB4, wI_1, if_neg (by omega), fa4.i e5, hB3, wI_1, if_neg (by omega), fa3.i e5, hB2, wI_1, if_neg (by omega), fa2.i e5, fa1.i e5]
  refine ⟨A7, Z7, ?_, ?_, q7.le (by omega), fun e => ?_, ?_, ?_, fun kk => ?_⟩
  · exact (r5_pl fa1).trans ((r5_pl fa2).trans ((p7_pl fb2).trans ((r5_pl fa3).trans ((p7_pl fb3).trans ((r5_pl fa4).trans ((p7_pl fb4).trans ((r5_pl fa5).trans ((p7_pl fb5).trans (r5_pl fa7)))))))))
  · exact (r1f_pl fz1).trans ((r1f_pl fz2).trans ((r1f_pl fz3).trans ((r1f_pl fz4).trans ((r1f_pl fz5).trans ((p28_pl fz6).trans (r1f_pl fz7))))))
  · obtain ⟨m4, c4, d4, l4⟩ := n5 (by rw [← fb5.i rfl]; exact n7 e)
    obtain ⟨m3, c3, d3, l3⟩ := n4 (by rw [← fb4.i rfl]; exact m4)
    obtain ⟨m2, c2, d2, l2⟩ := n3 (by rw [← fb3.i rfl]; exact m3)
    obtain ⟨m1, c1, d1, l1⟩ := n2 (by rw [← fb2.i rfl]; exact m2)
    refine PLe.fr (A := B5) (Z := Z6) ⟨fun k => if k = 0 then v1 else if k = 1 then v2 else if k = 2 then v3 else v4, fun _ => 0, fun _ => 0, ⟨fun k hk => ?_, fun p hp => by omega, fun x hx => ?_⟩, fun k hk => ?_, ⟨l1, l2, l3, l4⟩, by omega, fun p hp => by dsimp only; omega, fun x hx => by dsimp only; omega⟩ fa7 fz7
    · rcases (by omega : k = 0 ∨ k = 1 ∨ k = 2 ∨ k = 3) with rfl | rfl | rfl | rfl
      · rw [s0, c1]; rfl
      · rw [s1, c2]; rfl
      · rw [s2, c3]; rfl
      · rw [s3, c4]; rfl
    · rw [sx 19 0 x (by omega) (by omega), hh0 x hx]; rfl
    · by_cases k4 : k < 4
      · rw [row, if_pos k4]
        rcases (by omega : k = 0 ∨ k = 1 ∨ k = 2 ∨ k = 3) with rfl | rfl | rfl | rfl
        · rw [y0, d1]; rfl
        · rw [y1, d2]; rfl
        · rw [y2, d3]; rfl
        · rw [y3, d4]; rfl
      · rw [y4 k (by omega) hk, row, ro0, if_neg k4]
        by_cases k13 : k < 1348
        · rw [if_pos k13]
          split
          · rfl
          · split
            · rfl
            · split
              · rfl
              · split <;> rfl
        · rw [if_neg k13, if_neg (by omega), if_neg (by omega), if_neg (by omega), if_neg (by omega)]
  · rw [fa7.i rfl, sx 4 4 0 (by omega) (by omega)]; exact hc
  · rw [fX5_readGardenStatement, ea1, bd_eq, ea2, bd2_eq, ltb_eq, ← hB2, ea3, bd2_eq, ltb_eq, ← hB3, ea4, bd2_eq, ltb_eq, ← hB4, ea5, bd2_eq, ltb_eq, ← hB5, ea7, bd_eq]
  · rw [ez1, bd_eq, ez2, bd2_eq, ez3, bd2_eq, ez4, bd2_eq, ez5, bd2_eq, ez6, bd_eq, ez7, bd_eq]
theorem adp {x : Int32} (hn : np ≤ 4) (hc : A.1 4 4 7 0 = oI np) : ∃ (A' : sM) (np' : Nat), np' ≤ 4 ∧ A'.1 4 4 7 0 = oI np' ∧ Fr p7 A A' ∧ (np < 4 → np' = np + 1 ∧ A'.1 18 0 7 np = x ∧ ∀ c k i, ¬ (c = 4 ∧ k = 4) → ¬ (c = 18 ∧ i = np) → A'.1 c k 7 i = A.1 c k 7 i) ∧ fX4_addPeriod 7 x A = some A' := by
  by_cases q : np < 4
  · refine ⟨wI (wI A 18 0 7 np x) 4 4 7 0 (oI (np + 1 : Nat)), np + 1, by omega, by rw [wI_1, if_pos ⟨rfl, rfl, rfl, rfl⟩], ((Fr.refl _).wI rfl).wI rfl, fun _ => ⟨rfl, by rw [wI_1, if_neg (by omega), wI_1, if_pos ⟨rfl, rfl, rfl, rfl⟩], fun c k i h1 h2 => by rw [wI_1, if_neg (by omega), wI_1, if_neg (by omega)]⟩, ?_⟩
    rw [fX4_addPeriod, hc, if_neg (by simp (disch := omega) only [kI_0, kI_1, kI_2, kI_3, kI_4, kI_5, kI_6, kI_7, kI_8, kI_9, kI_10, kI_12, kI_16, kI_17, kI_19, kI_20, kI_23, kI_24, kI_30, kI_32, kI_36, kI_48, kI_57, kI_59, kI_60, kI_72, kI_80, kI_84, kI_97, kI_98, kI_100, kI_122, kI_148, kI_200, kI_300, kI_1058, kI_1108, kI_1348, kI_1588, kI_5290, kI_7940, kI_100000, kI_e7, kI_e9, kL_0, kL_1, kL_5, kL_9, kL_10, kL_12, kL_23, kL_30, kL_48, kL_57, kL_59, kL_97, kL_100, kL_122, kL_1000, kL_e7, kL_e9, kL_e10, oI_lt, oI_le, oI_eq, oL_lt, oL_le, oL_eq, oI_L, oI_clamp, oI_inb, oL_nz]; omega), inbA (by omega) (by omega), gd_true, clpA (by omega), ltb_eq, wI_1, if_neg (by omega), hc, kI_1, oI_add, nat1, ltb_eq]
  · refine ⟨A, np, hn, hc, Fr.refl _, fun h => by omega, ?_⟩
    rw [fX4_addPeriod, hc, if_pos (by simp (disch := omega) only [kI_0, kI_1, kI_2, kI_3, kI_4, kI_5, kI_6, kI_7, kI_8, kI_9, kI_10, kI_12, kI_16, kI_17, kI_19, kI_20, kI_23, kI_24, kI_30, kI_32, kI_36, kI_48, kI_57, kI_59, kI_60, kI_72, kI_80, kI_84, kI_97, kI_98, kI_100, kI_122, kI_148, kI_200, kI_300, kI_1058, kI_1108, kI_1348, kI_1588, kI_5290, kI_7940, kI_100000, kI_e7, kI_e9, kL_0, kL_1, kL_5, kL_9, kL_10, kL_12, kL_23, kL_30, kL_48, kL_57, kL_59, kL_97, kL_100, kL_122, kL_1000, kL_e7, kL_e9, kL_e10, oI_lt, oI_le, oI_eq, oL_lt, oL_le, oL_eq, oI_L, oI_clamp, oI_inb, oL_nz]; omega)]
theorem per (hT : RT t L) (h : QQ A Z t L p) (hn : np ≤ 4) (hc : A.1 4 4 7 0 = oI np) (hP : A.1 5 4 0 0 = 0 → np < 4 ∧ PLe A Z np) : ∃ (A' Z' : sM) (np' : Nat), Fr plA A A' ∧ Fr plZ Z Z' ∧ QQ A' Z' t L (p + 1) ∧ np' ≤ 4 ∧ A'.1 4 4 7 0 = oI np' ∧ (A'.1 5 4 0 0 = 0 → 1 ≤ np' ∧ PLe A' Z' np') ∧ fX5_readPeriodStatement A = some A' ∧ fX10_readsPeriod Z = some Z' := by
  obtain ⟨A1, Z1, fa1, fz1, q1, n1, ea1, ez1⟩ := exP hT h
  obtain ⟨A2, Z2, ra, rz, v, fa2, fz2, q2, n2, ea2, ez2⟩ := exN (x1 := 0) (x2 := 200) (y1 := 0) (y2 := 200) (a := 0) (b := 200) hT (fun _ => ⟨⟨kI_0, kI_0, kI_200, kI_200⟩, by omega, by omega⟩) q1
  obtain ⟨A3, np', n4, c3, fa3, a3, ea3⟩ := adp (A := A2) (x := ra) hn (by rw [fa2.i rfl, fa1.i rfl]; exact hc)
  obtain ⟨A4, Z4, fa4, fz4, q4, m4, ea4, ez4⟩ := exS hT (q2.pl fa3 (Fr.refl _))
  have FA : Fr plA A A4 := (r5_pl fa1).trans ((r5_pl fa2).trans ((p7_pl fa3).trans (r5_pl fa4)))
  have FZ : Fr plZ Z Z4 := (r1f_pl fz1).trans ((r1f_pl fz2).trans (r1f_pl fz4))
  have eA : fX5_readPeriodStatement A = some A4 := by rw [fX5_readPeriodStatement, ea1, bd_eq, ea2, bd2_eq, ea3, bd_eq, ea4, bd_eq]
  have eZ : fX10_readsPeriod Z = (if (Z4.1 10 13 0 0) = 0 then (gd (inb ((32 : Int32) + (Z4.1 28 0 0 (4 : Int32).toNatClampNeg)) 1588) (ltb (wI Z4 28 0 0 ((32 : Int32) + (Z4.1 28 0 0 (4 : Int32).toNatClampNeg)).toNatClampNeg rz) fun Z_10 => ltb (wI Z_10 28 0 0 (4 : Int32).toNatClampNeg ((Z_10.1 28 0 0 (4 : Int32).toNatClampNeg) + (1 : Int32))) fun Z_13 => some Z_13)) else some Z4) := by
    obtain ⟨r, hr, hr2⟩ : ∃ r, fX10_is 1 Z = some r ∧ (r = 0 ∨ ¬ Z.1 28 0 0 4 = 4) := by
      rcases h with ⟨p', hp, _, _, ⟨h4, h13⟩, _⟩ | h
      · obtain ⟨w1, g, hh, r, _, w2, _⟩ := hP h4
        have e4 : ¬ Z.1 28 0 0 4 = 4 := by
          rw [w2 4 (by omega), kI_4, row, if_neg (by omega), if_pos rfl]
          simp (disch := omega) only [oI_lt, oI_le, oI_eq, oL_lt, oL_le, oL_eq, oI_L, oI_clamp, oI_inb, oL_nz]
          omega
        rw [fX10_is, if_pos h13]
        by_cases e : Z.1 10 12 0 0 = 1
        · exact ⟨_, if_pos e, .inr e4⟩
        · exact ⟨_, if_neg e, .inl rfl⟩
      · exact ⟨0, is_F _ h.z, .inl rfl⟩
    rw [fX10_readsPeriod, hr, bd_eq, ltb_eq]
    by_cases r0 : r = 0
    · rw [if_pos r0]
      dsimp only
      rw [ez1, bd_eq, ez2, bd2_eq, ez4, bd_eq]
    · rw [if_neg r0, clp4, if_neg (hr2.resolve_left r0)]
      dsimp only
      rw [ez1, bd_eq, ez2, bd2_eq, ez4, bd_eq]
  rcases id q4 with ⟨p', hp, hA4, hZ4, ⟨h4, h13⟩, hpl, hTK⟩ | hF
  · obtain ⟨e2, ra_e, rz_e, v0, v1⟩ := n2 (by rw [← fa3.i rfl]; exact m4 h4)
    obtain ⟨np4, hPL⟩ := hP (n1 e2)
    obtain ⟨enp, e18, eo⟩ := a3 np4
    obtain ⟨g, hh, r, ⟨h1, h2, h3⟩, h5, b1, b2, b3, b5⟩ := hPL.fr (fa1.trans fa2) (fz1.trans fz2)
    have e28 : Z4.1 28 0 0 4 = oI np := by
      rw [fz4.i rfl, h5 4 (by omega), row, if_neg (by omega), if_pos rfl]
    have FW : Fr p28 Z4 (wI (wI Z4 28 0 0 (32 + np) (oI v)) 28 0 0 4 (oI (np + 1 : Nat))) := ((Fr.refl _).wI rfl).wI rfl
    refine ⟨A4, wI (wI Z4 28 0 0 (32 + np) (oI v)) 28 0 0 4 (oI (np + 1 : Nat)), np', FA, FZ.trans (p28_pl FW), (q4.pl (Fr.refl _) FW).le (by omega), n4, by rw [fa4.i rfl]; exact c3, fun _ => ⟨by omega, g, hh, up1 r np v, ⟨fun k hk => ?_, fun p hp => ?_, fun x hx => ?_⟩, fun k hk => ?_, b1, by omega, fun p hp => ?_, fun x hx => ?_⟩, eA, ?_⟩
    · rw [fa4.i rfl, eo 4 k 0 (by omega) (by omega)]; exact h1 k hk
    · by_cases ep : p = np
      · rw [ep, up1_s, fa4.i rfl, e18, ra_e]
      · rw [up1_n _ _ ep, fa4.i rfl, eo 18 0 p (by omega) (by omega)]; exact h2 p (by omega)
    · rw [fa4.i rfl, eo 19 0 x (by omega) (by omega)]; exact h3 x hx
    · rw [enp, wI_1]
      by_cases k4 : k = 4
      · rw [if_pos ⟨rfl, rfl, rfl, k4⟩, row, if_neg (by omega), if_pos k4]
      · rw [if_neg (by omega), wI_1]
        by_cases k3 : k = 32 + np
        · rw [if_pos ⟨rfl, rfl, rfl, k3⟩, row, if_neg (by omega), if_neg (by omega), if_neg (by omega), if_neg (by omega), if_pos (by omega), show k - 32 = np by omega, up1_s]
        · rw [if_neg (by omega), fz4.i rfl, h5 k hk, row, row]
          by_cases k0 : k < 4
          · rw [if_pos k0, if_pos k0]
          · rw [if_neg k0, if_neg k0, if_neg k4, if_neg k4]
            by_cases k8 : k < 8
            · rw [if_pos k8, if_pos k8]
            · rw [if_neg k8, if_neg k8]
              by_cases k9 : k < 32
              · rw [if_pos k9, if_pos k9]
              · rw [if_neg k9, if_neg k9]
                by_cases kA : k < 36
                · rw [if_pos kA, if_pos kA, up1_n _ _ (by omega)]
                · rw [if_neg kA, if_neg kA]
    · by_cases ep : p = np
      · rw [ep, up1_s]; exact ⟨v0, v1⟩
      · rw [up1_n _ _ ep]; exact b3 p hp
    · have := b5 x hx
      omega
    · rw [eZ, if_pos h13, clp4, e28, kI_32, oI_add, show ((32 : Int) + (np : Int)) = ((32 + np : Nat) : Int) from rfl, inbA (by omega) (by omega), gd_true, clpA (by omega), ltb_eq, wI_1, if_neg (by omega), e28, kI_1, oI_add, nat1, ltb_eq, rz_e]
  · refine ⟨A4, Z4, np', FA, FZ, q4.le (by omega), n4, by rw [fa4.i rfl]; exact c3, fun e => absurd e hF.1, eA, ?_⟩
    rw [eZ, if_neg hF.z]
theorem hrs (hT : RT t L) (h : QQ A Z t L p) (hn : np ≤ 4) (hc : A.1 4 4 7 0 = oI np) (hP : A.1 5 4 0 0 = 0 → PLe A Z np) : ∃ A' Z', Fr plA A A' ∧ Fr plZ Z Z' ∧ QQ A' Z' t L (p + 1) ∧ A'.1 4 4 7 0 = oI np ∧ (A'.1 5 4 0 0 = 0 → PLe A' Z' np) ∧ fX5_readHoursStatement A = some A' ∧ fX10_readsHours Z = some Z' := by
  obtain ⟨A1, Z1, fa1, fz1, q1, n1, ea1, ez1⟩ := exH hT h
  obtain ⟨A2, Z2, ra1, rz1, v1, fa2, fz2, q2, n2, ea2, ez2⟩ := exN (x1 := 0) (x2 := 23) (y1 := 0) (y2 := 23) (a := 0) (b := 23) hT (fun _ => ⟨⟨kI_0, kI_0, kI_23, kI_23⟩, by omega, by omega⟩) q1
  obtain ⟨A3, Z3, ra2, rz2, v2, fa3, fz3, q3, n3, ea3, ez3⟩ := exN (x1 := ra1 + 1) (x2 := 24) (y1 := rz1 + 1) (y2 := 24) (a := v1 + 1) (b := 24) hT (fun e => by
    obtain ⟨m1, c1, d1, l1, l2⟩ := n2 e
    exact ⟨⟨by rw [c1, kI_1, oI_add], by rw [d1, kI_1, oI_add], kI_24, kI_24⟩, by omega, by omega⟩) q2
  have c3 : A3.1 4 4 7 0 = oI np := by rw [fa3.i rfl, fa2.i rfl, fa1.i rfl]; exact hc
  have ez28 : ∀ k, Z3.1 28 0 0 k = Z.1 28 0 0 k := fun k => by rw [fz3.i rfl, fz2.i rfl, fz1.i rfl]
  have bk3 : A3.1 5 4 0 0 = 0 → A.1 5 4 0 0 = 0 := fun e => n1 (n2 (n3 e).1).1
  obtain ⟨A4, Z4, ra3, rz3, v3, fa4, fz4, q4, n4, ea4, ez4⟩ := exN (x1 := 0) (x2 := A3.1 4 4 7 0 - 1) (y1 := 0) (y2 := Z3.1 28 0 0 4 - 1) (a := 0) (b := np - 1) hT (fun e => by
    obtain ⟨g, hh, r, _, w2, _⟩ := hP (bk3 e)
    refine ⟨⟨kI_0, kI_0, by rw [c3, kI_1, oI_sub], ?_⟩, by omega, by omega⟩
    rw [ez28, w2 4 (by omega), row, if_neg (by omega), if_pos rfl, kI_1, oI_sub]) q3
  obtain ⟨A5, Z5, fa5, fz5, q5, n5, ea5, ez5⟩ := exS hT q4
  have FA : Fr r5 A A5 := fa1.trans (fa2.trans (fa3.trans (fa4.trans fa5)))
  have FZ : Fr r1f Z Z5 := fz1.trans (fz2.trans (fz3.trans (fz4.trans fz5)))
  have eZ : fX10_readsHours Z = fX10_readsHours_L45 rz2 rz3 (fun Z => some Z) 10000 rz1 Z5 := by
    rw [fX10_readsHours, ez1, bd_eq, ez2, bd2_eq, ez3, bd2_eq, clp4, ez4, bd2_eq, ez5, bd_eq]
  rcases id q5 with ⟨p', hp, hA5, hZ5, ⟨h4, h13⟩, hpl, hTK⟩ | hF
  · obtain ⟨m4, c4, d4, l4, l5⟩ := n4 (n5 h4)
    obtain ⟨m3, c3', d3, l6, l7⟩ := n3 m4
    obtain ⟨m2, c2, d2, l8, l9⟩ := n2 m3
    obtain ⟨g, hh, r, ⟨h1, h2, h3⟩, h5, b1, b2, b3, b5⟩ := (hP (n1 m2)).fr FA FZ
    obtain ⟨w1, hw1⟩ : ∃ w : Nat, v1 = w := ⟨v1.toNat, by omega⟩
    obtain ⟨w2, hw2⟩ : ∃ w : Nat, v2 = w := ⟨v2.toNat, by omega⟩
    subst hw1 hw2
    obtain ⟨A6, x1, x2, x3, x4⟩ := shr_L (v2 := w2) (v3 := oI v3) (by omega) (w2 - w1) 10000 w1 A5 rfl (by omega) (by omega)
    obtain ⟨Z6, y1, y3, y4⟩ := shz_L (v2 := w2) (v3 := oI v3) (by omega) (w2 - w1) 10000 w1 Z5 rfl (by omega) (by omega) h13
    refine ⟨A6, Z6, (r5_pl FA).trans (p7_pl x1), (r1f_pl FZ).trans (p28_pl y1), (q5.pl x1 y1).le (by omega), by rw [x2 4 4 7 0 (by omega), fa5.i rfl, fa4.i rfl]; exact c3, fun _ => ⟨g, fun x => if w1 ≤ x ∧ x < w2 then v3 else hh x, r, ⟨fun k hk => by rw [x2 4 k 7 0 (by omega)]; exact h1 k hk, fun p hp => by rw [x2 18 0 7 p (by omega)]; exact h2 p hp, fun x hx => ?_⟩, fun k hk => ?_, b1, by omega, b3, fun x hx => ?_⟩, ?_, ?_⟩
    · rw [x3 x]
      dsimp only
      by_cases e : w1 ≤ x ∧ x < w2
      · rw [if_pos e, if_pos e]
      · rw [if_neg e, if_neg e]; exact h3 x hx
    · rw [y3 k]
      by_cases e : 8 + w1 ≤ k ∧ k < 8 + w2
      · rw [if_pos e, row, if_neg (by omega), if_neg (by omega), if_neg (by omega), if_pos (by omega), if_pos (by omega)]
      · rw [if_neg e, h5 k hk, row, row]
        by_cases k0 : k < 4
        · rw [if_pos k0, if_pos k0]
        · rw [if_neg k0, if_neg k0]
          by_cases k4 : k = 4
          · rw [if_pos k4, if_pos k4]
          · rw [if_neg k4, if_neg k4]
            by_cases k8 : k < 8
            · rw [if_pos k8, if_pos k8]
            · rw [if_neg k8, if_neg k8]
              by_cases k9 : k < 32
              · rw [if_pos k9, if_pos k9, if_neg (c := w1 ≤ k - 8 ∧ k - 8 < w2) (by omega)]
              · rw [if_neg k9, if_neg k9]
    · have := b5 x hx
      dsimp only
      by_cases e : w1 ≤ x ∧ x < w2
      · rw [if_pos e]; omega
      · rw [if_neg e]; omega
    · have em : (if oI (w1 : Int) < (0 : Int32) then (0 : Int32) else oI (w1 : Int)) = oI (w1 : Int) := if_neg (by rw [kI_0]; simp (disch := omega) only [oI_lt, oI_le, oI_eq, oL_lt, oL_le, oL_eq, oI_L, oI_clamp, oI_inb, oL_nz]; omega)
      rw [fX5_readHoursStatement, ea1, bd_eq, ea2, bd2_eq, ea3, bd2_eq, ea4, bd2_eq, ea5, bd_eq, if_pos h4, fX4_setHours, c2, em, ltb_eq, c3', c4, x4, bd_eq]
    · rw [eZ, d2, d3, d4]; exact y4 _
  · refine ⟨A5, Z5, r5_pl FA, r1f_pl FZ, q5.le (by omega), by rw [fa5.i rfl, fa4.i rfl]; exact c3, fun e => absurd e hF.1, ?_, ?_⟩
    · rw [fX5_readHoursStatement, ea1, bd_eq, ea2, bd2_eq, ea3, bd2_eq, ea4, bd2_eq, ea5, bd_eq, if_neg hF.1]
    · rw [eZ]
      show fX10_readsHours_L45 rz2 rz3 _ (9999 + 1) rz1 Z5 = _
      rw [fX10_readsHours_L45, if_neg hF.z]
      split <;> rfl
end
