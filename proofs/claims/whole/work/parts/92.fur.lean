/-! The text as a whole. -/
section
variable {t : Nat → Int} {L : Nat}
theorem skp_idF : ∀ (f p : Nat), L - p ≤ f → ¬ (skF t L f p < L ∧ t (skF t L f p) = 32)
  | 0, p, h => by rw [skF]; omega
  | f + 1, p, h => by
    rw [skF]
    by_cases q : p < L ∧ t p = 32
    · rw [if_pos q]; exact skp_idF f (p + 1) (by omega)
    · rw [if_neg q]; exact q
theorem skp_skp (p : Nat) : skp t L (skp t L p) = skp t L p := skp_n (skp_idF (t := t) (L := L) (L - p) p (Nat.le_refl _))
def FIN (A Z : sM) : Prop := (A.1 5 4 0 0 = 0 ∧ Z.1 10 13 0 0 = 0 ∧ ∃ np, (1 ≤ np ∧ np ≤ 4) ∧ A.1 4 4 7 0 = oI (np : Nat) ∧ PLe A Z np) ∨ FF A Z
def KE (Z : sM) : Option sM := if (Z.1 10 13 0 0) = 0 then (if (Z.1 10 12 0 0) = (6 : Int32) then (some Z) else (Option.bind (fX10_fails (-2 : Int32) Z) fun Z_15 => some Z_15)) else (some Z)
theorem fuF_A {A : sM} (h : ¬ A.1 5 4 0 0 = 0) (f : Nat) (x y : Int32) : fX5_readFurtherStatements_L4 (fun A => some A) (fun A => some A) (f + 1) x y A = some A := by
  rw [fX5_readFurtherStatements_L4, if_neg h]
  split <;> rfl
theorem fuF_Z {Z : sM} (h : ¬ Z.1 10 13 0 0 = 0) (f : Nat) : fX10_readsAll_L70 KE (f + 1) Z = some Z := by
  rw [fX10_readsAll_L70, is_F _ h, bd_eq, if_pos rfl, KE, if_neg h]
theorem tk_6 {Z : sM} {q : Nat} (h : TK Z t L q) : Z.1 10 12 0 0 = 6 ↔ q = L := by
  obtain ⟨k, e, ⟨h1, h2, h3⟩, ⟨_, _, _, h4⟩, _, _, _, _, _, h6⟩ := h
  rw [h3, kI_6]
  simp (disch := omega) only [oI_eq]
  exact ⟨fun e => h6.1 (by omega), fun e => by have := h6.2 e; omega⟩
theorem fu1 (hT : RT t L) : ∀ (d p fA fZ x2 f np : Nat) (A Z : sM), L + 1 - p = d → d + 1 < fA → d < fZ → x2 + 1 ≤ p → f ≤ 1 → (f = 1 ∨ ∀ p', RR A Z t L p' → ¬ stands t wp L (skp t L p') 6) → QQ A Z t L p → np ≤ 4 → A.1 4 4 7 0 = oI np → (A.1 5 4 0 0 = 0 → 1 ≤ np ∧ PLe A Z np) → ∃ A' Z', Fr plA A A' ∧ Fr plZ Z Z' ∧ FIN A' Z' ∧ fX5_readFurtherStatements_L4 (fun A => some A) (fun A => some A) fA (oI f) (oI x2) A = some A' ∧ fX10_readsAll_L70 KE fZ Z = some Z' := by
  have hL := hT.1
  intro d
  induction d with
  | zero =>
    intro p fA fZ x2 f np A Z hd hfA hfZ hx hf hfp hQ hn hc hP
    obtain ⟨fA, rfl⟩ : ∃ f, fA = f + 1 := ⟨fA - 1, by omega⟩
    obtain ⟨fZ, rfl⟩ : ∃ f, fZ = f + 1 := ⟨fZ - 1, by omega⟩
    rcases hQ with ⟨p', hp, _, _, _, ⟨hpL, _⟩, _⟩ | h
    · omega
    · exact ⟨A, Z, Fr.refl _, Fr.refl _, .inr h, fuF_A h.1 _ _ _, fuF_Z h.z _⟩
  | succ d ih =>
    intro p fA fZ x2 f np A Z hd hfA hfZ hx hf hfp hQ hn hc hP
    obtain ⟨fA, rfl⟩ : ∃ f, fA = f + 1 + 1 := ⟨fA - 2, by omega⟩
    obtain ⟨fZ, rfl⟩ : ∃ f, fZ = f + 1 := ⟨fZ - 1, by omega⟩
    rcases hQ with ⟨p', hp, hR⟩ | h
    · obtain ⟨hA, hZ, ⟨h4, h13⟩, ⟨hpL, h3⟩, hTK⟩ := id hR
      obtain ⟨np1, hPL⟩ := hP h4
      obtain ⟨A1, u1, u2, u3⟩ := skA hT hpL hA h4 h3
      have hq := (skp_le t L p').2 hpL
      have hq1 := (skp_le t L p').1
      have hid := skp_skp (t := t) (L := L) p'
      obtain ⟨q, hqe⟩ : ∃ q, q = skp t L p' := ⟨_, rfl⟩
      have hfp2 : f = 1 ∨ ¬ stands t wp L q 6 := hfp.imp id fun h => by rw [hqe]; exact h p' hR
      rw [← hqe] at u2 hq hq1 hTK hid
      have f1 := r53_5 u1
      have A1R := hA.fr f1
      have a4 : A1.1 5 4 0 0 = 0 := by rw [u1.i rfl]; exact h4
      have c1 : A1.1 4 4 7 0 = oI np := by rw [u1.i rfl]; exact hc
      have z10 : Z.1 10 10 0 0 = oI q := by obtain ⟨k, e, h1, _⟩ := hTK; exact h1.1
      have k1 : Z.1 10 12 0 0 = 2 ↔ stands t wh L q 5 := (tk_h Z q hTK).1
      obtain ⟨sh1, sh2⟩ := shA (s1 := 4) (w := wh) (n := 5) hT A1R u2 hq (by omega) (by decide) rfl (fun j hj => ⟨(wh_s j hj).1.2, by have := (wh_s j hj).2; omega⟩)
      obtain ⟨sp1, sp2⟩ := shA (s1 := 3) (w := wp) (n := 6) hT A1R u2 hq (by omega) (by decide) rfl (fun j hj => ⟨(wp_s j hj).1.2, by have := (wp_s j hj).2; omega⟩)
      have QA : QQ A1 Z t L p := .inl ⟨q, by omega, A1R, hZ, ⟨a4, h13⟩, ⟨hq, u2⟩, by rw [hid]; exact hTK⟩
      have P1 : PLe A1 Z np := hPL.fr f1 (Fr.refl _)
      have hx3 : x2 < 300 := by omega
      by_cases ql : q < L
      · by_cases st : stands t wh L q 5
        · obtain ⟨A2, Z2, fa, fz, q2, c2, P2, ea, ez⟩ := hrs hT QA hn c1 (fun _ => P1)
          obtain ⟨A3, Z3, ga, gz, fin, ea3, ez3⟩ := ih (p + 1) (fA + 1) fZ (x2 + 1) 1 np A2 Z2 (by omega) (by omega) (by omega) (by omega) (by omega) (.inl rfl) q2 hn c2 (fun e => ⟨np1, P2 e⟩)
          refine ⟨A3, Z3, (r5_pl f1).trans (fa.trans ga), fz.trans gz, fin, ?_, ?_⟩
          · rw [fX5_readFurtherStatements_L4, if_neg (by simp (disch := omega) only [kI_0, kI_1, kI_2, kI_3, kI_4, kI_5, kI_6, kI_7, kI_8, kI_9, kI_10, kI_12, kI_16, kI_17, kI_19, kI_20, kI_23, kI_24, kI_30, kI_32, kI_36, kI_48, kI_57, kI_59, kI_60, kI_72, kI_80, kI_84, kI_97, kI_98, kI_100, kI_122, kI_148, kI_200, kI_300, kI_1058, kI_1108, kI_1348, kI_1588, kI_5290, kI_7940, kI_100000, kI_e7, kI_e9, kL_0, kL_1, kL_5, kL_9, kL_10, kL_12, kL_23, kL_30, kL_48, kL_57, kL_59, kL_97, kL_100, kL_122, kL_1000, kL_e7, kL_e9, kL_e10, oI_lt, oI_le, oI_eq, oL_lt, oL_le, oL_eq, oI_L, oI_clamp, oI_inb, oL_nz]; omega), if_pos h4, u3, bd_eq, u2, A1R.1, if_pos (by simp (disch := omega) only [oI_lt, oI_le, oI_eq, oL_lt, oL_le, oL_eq, oI_L, oI_clamp, oI_inb, oL_nz]; omega), sh1 st, bd_eq, ltb_eq, if_neg one_ne, ea, bd_eq]
            dsimp only
            rw [kI_1, oI_add, nat1, ltb_eq]
            exact ea3
          · rw [fX10_readsAll_L70, fX10_is, if_pos h13, if_pos (k1.2 st), bd_eq, if_neg o1_ne, ez, bd_eq]
            exact ez3
        · have F2 : FF (wI A1 5 4 0 0 (-2)) (wI (wI Z 10 13 0 0 (-2)) 10 14 0 0 (oI q)) := FF_wr u2 rfl m2_ne
          refine ⟨wI A1 5 4 0 0 (-2), wI (wI Z 10 13 0 0 (-2)) 10 14 0 0 (oI q), r5_pl (f1.wI rfl), r1f_pl (((Fr.refl _).wI rfl).wI rfl), .inr F2, ?_, ?_⟩
          · rw [fX5_readFurtherStatements_L4, if_neg (by simp (disch := omega) only [kI_0, kI_1, kI_2, kI_3, kI_4, kI_5, kI_6, kI_7, kI_8, kI_9, kI_10, kI_12, kI_16, kI_17, kI_19, kI_20, kI_23, kI_24, kI_30, kI_32, kI_36, kI_48, kI_57, kI_59, kI_60, kI_72, kI_80, kI_84, kI_97, kI_98, kI_100, kI_122, kI_148, kI_200, kI_300, kI_1058, kI_1108, kI_1348, kI_1588, kI_5290, kI_7940, kI_100000, kI_e7, kI_e9, kL_0, kL_1, kL_5, kL_9, kL_10, kL_12, kL_23, kL_30, kL_48, kL_57, kL_59, kL_97, kL_100, kL_122, kL_1000, kL_e7, kL_e9, kL_e10, oI_lt, oI_le, oI_eq, oL_lt, oL_le, oL_eq, oI_L, oI_clamp, oI_inb, oL_nz]; omega), if_pos h4, u3, bd_eq, u2, A1R.1, if_pos (by simp (disch := omega) only [oI_lt, oI_le, oI_eq, oL_lt, oL_le, oL_eq, oI_L, oI_clamp, oI_inb, oL_nz]; omega), sh2 st, bd_eq, ltb_eq, if_pos nul_eq, ltb_eq]
            by_cases f0 : f = 0
            · rw [if_pos (by rw [f0]; rfl), sp2 (hfp2.resolve_left (by omega)), bd_eq, if_pos nul_eq]
              dsimp only
              rw [ltb_eq, ltb_eq]
              exact fuF_A F2.1 _ _ _
            · rw [if_neg (by rw [show f = 1 by omega]; decide)]
              dsimp only
              rw [ltb_eq, ltb_eq]
              exact fuF_A F2.1 _ _ _
          · rw [fX10_readsAll_L70, fX10_is, if_pos h13, if_neg (fun e => st (k1.1 e)), bd_eq, if_pos rfl, KE, if_pos h13, if_neg (fun e => by have := (tk_6 hTK).1 e; omega), fl_N h13 z10, bd_eq]
      · refine ⟨A1, Z, r5_pl f1, Fr.refl _, .inl ⟨a4, h13, np, ⟨np1, hn⟩, c1, P1⟩, ?_, ?_⟩
        · rw [fX5_readFurtherStatements_L4, if_neg (by simp (disch := omega) only [kI_0, kI_1, kI_2, kI_3, kI_4, kI_5, kI_6, kI_7, kI_8, kI_9, kI_10, kI_12, kI_16, kI_17, kI_19, kI_20, kI_23, kI_24, kI_30, kI_32, kI_36, kI_48, kI_57, kI_59, kI_60, kI_72, kI_80, kI_84, kI_97, kI_98, kI_100, kI_122, kI_148, kI_200, kI_300, kI_1058, kI_1108, kI_1348, kI_1588, kI_5290, kI_7940, kI_100000, kI_e7, kI_e9, kL_0, kL_1, kL_5, kL_9, kL_10, kL_12, kL_23, kL_30, kL_48, kL_57, kL_59, kL_97, kL_100, kL_122, kL_1000, kL_e7, kL_e9, kL_e10, oI_lt, oI_le, oI_eq, oL_lt, oL_le, oL_eq, oI_L, oI_clamp, oI_inb, oL_nz]; omega), if_pos h4, u3, bd_eq, u2, A1R.1, if_neg (by simp (disch := omega) only [oI_lt, oI_le, oI_eq, oL_lt, oL_le, oL_eq, oI_L, oI_clamp, oI_inb, oL_nz]; omega)]
        · have k6 := (tk_6 hTK).2 (by omega)
          rw [fX10_readsAll_L70, fX10_is, if_pos h13, k6, if_neg (by decide), bd_eq, if_pos rfl, KE, if_pos h13, if_pos k6]
    · exact ⟨A, Z, Fr.refl _, Fr.refl _, .inr h, fuF_A h.1 _ _ _, fuF_Z h.z _⟩
theorem wp_wh {q : Nat} (p1 : stands t wp L q 6) : ¬ stands t wh L q 5 := fun p2 => by
  have r1 := p1.2.1 0 (by omega)
  have r2 := p2.2.1 0 (by omega)
  rw [r1] at r2
  exact absurd r2 (by decide)
theorem fu0_Z {Z : sM} (h : ¬ Z.1 10 13 0 0 = 0) (f : Nat) : fX10_readsAll_L55 (fun Z => fX10_readsAll_L70 KE 10000 Z) (f + 1) Z = some Z := by
  rw [fX10_readsAll_L55, is_F _ h, bd_eq, if_pos rfl]
  exact fuF_Z h 9999
theorem fu0 (hT : RT t L) : ∀ (d p fA fZ x2 np : Nat) (A Z : sM), L + 1 - p = d → d + 1 < fA → d + 1 < fZ → x2 + 1 ≤ p → QQ A Z t L p → np ≤ 4 → A.1 4 4 7 0 = oI np → (A.1 5 4 0 0 = 0 → 1 ≤ np ∧ PLe A Z np) → ∃ A' Z', Fr plA A A' ∧ Fr plZ Z Z' ∧ FIN A' Z' ∧ fX5_readFurtherStatements_L4 (fun A => some A) (fun A => some A) fA (oI (0 : Nat)) (oI x2) A = some A' ∧ fX10_readsAll_L55 (fun Z => fX10_readsAll_L70 KE 10000 Z) fZ Z = some Z' := by
  have hL := hT.1
  intro d
  induction d with
  | zero =>
    intro p fA fZ x2 np A Z hd hfA hfZ hx hQ hn hc hP
    obtain ⟨fA, rfl⟩ : ∃ f, fA = f + 1 := ⟨fA - 1, by omega⟩
    obtain ⟨fZ, rfl⟩ : ∃ f, fZ = f + 1 := ⟨fZ - 1, by omega⟩
    rcases hQ with ⟨p', hp, _, _, _, ⟨hpL, _⟩, _⟩ | h
    · omega
    · exact ⟨A, Z, Fr.refl _, Fr.refl _, .inr h, fuF_A h.1 _ _ _, fu0_Z h.z _⟩
  | succ d ih =>
    intro p fA fZ x2 np A Z hd hfA hfZ hx hQ hn hc hP
    rcases id hQ with ⟨p', hp, hR⟩ | h
    · obtain ⟨hA, hZ, ⟨h4, h13⟩, ⟨hpL, h3⟩, hTK⟩ := id hR
      obtain ⟨np1, hPL⟩ := hP h4
      have kp1 : Z.1 10 12 0 0 = 1 ↔ stands t wp L (skp t L p') 6 := (tk_p Z _ hTK).1
      by_cases sp : stands t wp L (skp t L p') 6
      · obtain ⟨fA, rfl⟩ : ∃ f, fA = f + 1 + 1 := ⟨fA - 2, by omega⟩
        obtain ⟨fZ, rfl⟩ : ∃ f, fZ = f + 1 + 1 := ⟨fZ - 2, by omega⟩
        obtain ⟨A1, u1, u2, u3⟩ := skA hT hpL hA h4 h3
        have hq := (skp_le t L p').2 hpL
        have hq1 := (skp_le t L p').1
        have hid := skp_skp (t := t) (L := L) p'
        obtain ⟨q, hqe⟩ : ∃ q, q = skp t L p' := ⟨_, rfl⟩
        rw [← hqe] at u2 hq hq1 hTK hid sp kp1
        have f1 := r53_5 u1
        have A1R := hA.fr f1
        have a4 : A1.1 5 4 0 0 = 0 := by rw [u1.i rfl]; exact h4
        have c1 : A1.1 4 4 7 0 = oI np := by rw [u1.i rfl]; exact hc
        have z10 : Z.1 10 10 0 0 = oI q := by obtain ⟨k, e, h1, _⟩ := hTK; exact h1.1
        obtain ⟨sh1, sh2⟩ := shA (s1 := 4) (w := wh) (n := 5) hT A1R u2 hq (by omega) (by decide) rfl (fun j hj => ⟨(wh_s j hj).1.2, by have := (wh_s j hj).2; omega⟩)
        obtain ⟨sp1, sp2⟩ := shA (s1 := 3) (w := wp) (n := 6) hT A1R u2 hq (by omega) (by decide) rfl (fun j hj => ⟨(wp_s j hj).1.2, by have := (wp_s j hj).2; omega⟩)
        have QA : QQ A1 Z t L p := .inl ⟨q, by omega, A1R, hZ, ⟨a4, h13⟩, ⟨hq, u2⟩, by rw [hid]; exact hTK⟩
        have P1 : PLe A1 Z np := hPL.fr f1 (Fr.refl _)
        have hx3 : x2 < 300 := by omega
        have ql : q < L := by have := sp.1; omega
        by_cases n4 : np < 4
        · obtain ⟨A2, Z2, np2, fa, fz, q2, n2, c2, P2, ea, ez⟩ := per hT QA hn c1 (fun _ => ⟨n4, P1⟩)
          obtain ⟨A3, Z3, ga, gz, fin, ea3, ez3⟩ := ih (p + 1) (fA + 1) (fZ + 1) (x2 + 1) np2 A2 Z2 (by omega) (by omega) (by omega) (by omega) q2 n2 c2 P2
          refine ⟨A3, Z3, (r5_pl f1).trans (fa.trans ga), fz.trans gz, fin, ?_, ?_⟩
          · rw [fX5_readFurtherStatements_L4, if_neg (by simp (disch := omega) only [kI_0, kI_1, kI_2, kI_3, kI_4, kI_5, kI_6, kI_7, kI_8, kI_9, kI_10, kI_12, kI_16, kI_17, kI_19, kI_20, kI_23, kI_24, kI_30, kI_32, kI_36, kI_48, kI_57, kI_59, kI_60, kI_72, kI_80, kI_84, kI_97, kI_98, kI_100, kI_122, kI_148, kI_200, kI_300, kI_1058, kI_1108, kI_1348, kI_1588, kI_5290, kI_7940, kI_100000, kI_e7, kI_e9, kL_0, kL_1, kL_5, kL_9, kL_10, kL_12, kL_23, kL_30, kL_48, kL_57, kL_59, kL_97, kL_100, kL_122, kL_1000, kL_e7, kL_e9, kL_e10, oI_lt, oI_le, oI_eq, oL_lt, oL_le, oL_eq, oI_L, oI_clamp, oI_inb, oL_nz]; omega), if_pos h4, u3, bd_eq, u2, A1R.1, if_pos (by simp (disch := omega) only [oI_lt, oI_le, oI_eq, oL_lt, oL_le, oL_eq, oI_L, oI_clamp, oI_inb, oL_nz]; omega), sh2 (wp_wh sp), bd_eq, ltb_eq, if_pos nul_eq, ltb_eq, if_pos (by rfl), sp1 sp, bd_eq, if_neg one_ne, c1, if_pos (by simp (disch := omega) only [kI_0, kI_1, kI_2, kI_3, kI_4, kI_5, kI_6, kI_7, kI_8, kI_9, kI_10, kI_12, kI_16, kI_17, kI_19, kI_20, kI_23, kI_24, kI_30, kI_32, kI_36, kI_48, kI_57, kI_59, kI_60, kI_72, kI_80, kI_84, kI_97, kI_98, kI_100, kI_122, kI_148, kI_200, kI_300, kI_1058, kI_1108, kI_1348, kI_1588, kI_5290, kI_7940, kI_100000, kI_e7, kI_e9, kL_0, kL_1, kL_5, kL_9, kL_10, kL_12, kL_23, kL_30, kL_48, kL_57, kL_59, kL_97, kL_100, kL_122, kL_1000, kL_e7, kL_e9, kL_e10, oI_lt, oI_le, oI_eq, oL_lt, oL_le, oL_eq, oI_L, oI_clamp, oI_inb, oL_nz]; omega), ea, bd_eq]
            dsimp only
            rw [kI_1, oI_add, nat1, ltb_eq]
            exact ea3
          · rw [fX10_readsAll_L55, fX10_is, if_pos h13, if_pos (kp1.2 sp), bd_eq, if_neg o1_ne, ez, bd_eq]
            exact ez3
        · obtain ⟨Zf, hZf⟩ : ∃ Zf, Zf = wI (wI Z 10 13 0 0 (-4)) 10 14 0 0 (oI q) := ⟨_, rfl⟩
          have F2 : FF (wI A1 5 4 0 0 (-4)) Zf := by rw [hZf]; exact FF_wr u2 rfl (by decide)
          refine ⟨wI A1 5 4 0 0 (-4), Zf, r5_pl (f1.wI rfl), r1f_pl (by rw [hZf]; exact ((Fr.refl _).wI rfl).wI rfl), .inr F2, ?_, ?_⟩
          · rw [fX5_readFurtherStatements_L4, if_neg (by simp (disch := omega) only [kI_0, kI_1, kI_2, kI_3, kI_4, kI_5, kI_6, kI_7, kI_8, kI_9, kI_10, kI_12, kI_16, kI_17, kI_19, kI_20, kI_23, kI_24, kI_30, kI_32, kI_36, kI_48, kI_57, kI_59, kI_60, kI_72, kI_80, kI_84, kI_97, kI_98, kI_100, kI_122, kI_148, kI_200, kI_300, kI_1058, kI_1108, kI_1348, kI_1588, kI_5290, kI_7940, kI_100000, kI_e7, kI_e9, kL_0, kL_1, kL_5, kL_9, kL_10, kL_12, kL_23, kL_30, kL_48, kL_57, kL_59, kL_97, kL_100, kL_122, kL_1000, kL_e7, kL_e9, kL_e10, oI_lt, oI_le, oI_eq, oL_lt, oL_le, oL_eq, oI_L, oI_clamp, oI_inb, oL_nz]; omega), if_pos h4, u3, bd_eq, u2, A1R.1, if_pos (by simp (disch := omega) only [oI_lt, oI_le, oI_eq, oL_lt, oL_le, oL_eq, oI_L, oI_clamp, oI_inb, oL_nz]; omega), sh2 (wp_wh sp), bd_eq, ltb_eq, if_pos nul_eq, ltb_eq, if_pos (by rfl), sp1 sp, bd_eq, if_neg one_ne, c1, if_neg (by simp (disch := omega) only [kI_0, kI_1, kI_2, kI_3, kI_4, kI_5, kI_6, kI_7, kI_8, kI_9, kI_10, kI_12, kI_16, kI_17, kI_19, kI_20, kI_23, kI_24, kI_30, kI_32, kI_36, kI_48, kI_57, kI_59, kI_60, kI_72, kI_80, kI_84, kI_97, kI_98, kI_100, kI_122, kI_148, kI_200, kI_300, kI_1058, kI_1108, kI_1348, kI_1588, kI_5290, kI_7940, kI_100000, kI_e7, kI_e9, kL_0, kL_1, kL_5, kL_9, kL_10, kL_12, kL_23, kL_30, kL_48, kL_57, kL_59, kL_97, kL_100, kL_122, kL_1000, kL_e7, kL_e9, kL_e10, oI_lt, oI_le, oI_eq, oL_lt, oL_le, oL_eq, oI_L, oI_clamp, oI_inb, oL_nz]; omega), ltb_eq]
            dsimp only
            rw [ltb_eq]
            exact fuF_A F2.1 _ _ _
          · obtain ⟨g, hh, r, _, w2, _⟩ := hPL
            have e4 : Z.1 28 0 0 4 = 4 := by
              rw [w2 4 (by omega), row, if_neg (by omega), if_pos rfl, show np = 4 by omega]; rfl
            have ez : fX10_readsPeriod Z = some Zf := by
              rw [fX10_readsPeriod, fX10_is, if_pos h13, if_pos (kp1.2 sp), bd_eq, ltb_eq, if_neg o1_ne, clp4, if_pos e4, fl_N h13 z10, ← hZf, bd_eq]
              dsimp only
              rw [must_F _ F2.z, bd_eq, takes_F _ _ F2.z, bd2_eq, must_F _ F2.z, bd_eq, if_neg F2.z]
            rw [fX10_readsAll_L55, fX10_is, if_pos h13, if_pos (kp1.2 sp), bd_eq, if_neg o1_ne, ez, bd_eq]
            exact fu0_Z F2.z _
      · obtain ⟨A3, Z3, ga, gz, fin, ea3, ez3⟩ := fu1 hT (d + 1) p fA 10000 x2 0 np A Z hd hfA (by omega) hx (by omega) (.inr fun p2 hR2 => by
          obtain ⟨_, _, _, ⟨hpL2, h32⟩, _⟩ := hR2
          rw [h3] at h32
          simp (disch := omega) only [oI_eq] at h32
          rw [show p2 = p' by omega]
          exact sp) hQ hn hc hP
        refine ⟨A3, Z3, ga, gz, fin, ea3, ?_⟩
        obtain ⟨fZ, rfl⟩ : ∃ f, fZ = f + 1 := ⟨fZ - 1, by omega⟩
        rw [fX10_readsAll_L55, fX10_is, if_pos h13, if_neg (fun e => sp (kp1.1 e)), bd_eq, if_pos rfl]
        exact ez3
    · obtain ⟨fA, rfl⟩ : ∃ f, fA = f + 1 := ⟨fA - 1, by omega⟩
      obtain ⟨fZ, rfl⟩ : ∃ f, fZ = f + 1 := ⟨fZ - 1, by omega⟩
      exact ⟨A, Z, Fr.refl _, Fr.refl _, .inr h, fuF_A h.1 _ _ _, fu0_Z h.z _⟩
theorem rdAll {A Z : sM} (hT : RT t L) (hA : RA A t L) (hZ : RZ Z t L) (h4 : A.1 5 4 0 0 = 0) (h3 : A.1 5 3 0 0 = 0) (h44 : A.1 4 4 7 0 = 0) (h19 : ∀ k, k < 24 → A.1 19 0 7 k = 0) (z11 : Z.1 10 11 0 0 = 0) (z13 : Z.1 10 13 0 0 = 0) : ∃ A' Z', Fr plA A A' ∧ Fr plZ Z Z' ∧ FIN A' Z' ∧ (∀ kk : sM → Option (Int32 × sM), (Option.bind (fX5_readGardenStatement A) fun A_6 => Option.bind (fX5_readPeriodStatement A_6) fun A_7 => Option.bind (fX5_readFurtherStatements A_7) kk) = kk A') ∧ ∀ kk : sM → Option (Int32 × sM), (Option.bind (fX10_next Z) fun Z_9 => Option.bind (fX10_readsAll Z_9) kk) = kk Z' := by
  have hL := hT.1
  obtain ⟨Z1, f1, k1, e1⟩ := nexZ hT hZ (p := 0) (by rw [z11]; rfl) (by omega)
  have Q0 : QQ A Z1 t L 0 := .inl ⟨0, by omega, hA, hZ.fr (r10_f f1), ⟨h4, by rw [f1.i rfl]; exact z13⟩, ⟨by omega, by rw [h3]; rfl⟩, k1⟩
  obtain ⟨A2, Z2, fa2, fz2, q2, P2, c2, ea2, ez2⟩ := gar hT Q0 h44 h19
  obtain ⟨A3, Z3, np, fa3, fz3, q3, n3, c3, P3, ea3, ez3⟩ := per (np := 0) hT q2 (by omega) (by rw [c2]; rfl) (fun e => ⟨by omega, P2 e⟩)
  obtain ⟨A4, Z4, fa4, fz4, fin, ea4, ez4⟩ := fu0 hT (L + 1 - (0 + 1 + 1)) (0 + 1 + 1) 10000 10000 0 np A3 Z3 rfl (by omega) (by omega) (by omega) q3 n3 c3 P3
  refine ⟨A4, Z4, fa2.trans (fa3.trans fa4), (r1f_pl (r10_f f1)).trans (fz2.trans (fz3.trans fz4)), fin, fun kk => ?_, fun kk => ?_⟩
  · have e9 : fX5_readFurtherStatements A3 = some A4 := by rw [fX5_readFurtherStatements]; exact ea4
    rw [ea2, bd_eq, ea3, bd_eq, e9, bd_eq]
  · have e9 : fX10_readsAll Z1 = some Z4 := by
      rw [fX10_readsAll]
      refine (ez2 _).trans ?_
      rw [ez3, bd_eq]
      exact ez4
    rw [e1, bd_eq, e9, bd_eq]
end
