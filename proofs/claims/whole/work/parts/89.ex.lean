/-! What both readers expect. -/
def r5 (c k _ : Nat) : Bool := c == 5 && (k == 3 || k == 4)
def r1f (c k _ : Nat) : Bool := c == 10 && (k == 10 || k == 11 || k == 12 || k == 13 || k == 14 || k == 16)
theorem r53_5 {A A' : sM} (h : Fr r53 A A') : Fr r5 A A' := h.mono fun c k o hq => by
  simp [r5, r53] at hq ⊢; omega
theorem r10_f {A A' : sM} (h : Fr r10 A A') : Fr r1f A A' := h.mono fun c k o hq => by
  simp [r1f, r10] at hq ⊢; omega
section
variable {t : Nat → Int} {L p : Nat} {A A' Z Z' : sM}
theorem RA.fr (h : RA A t L) (hF : Fr r5 A A') : RA A' t L := ⟨by rw [hF.i rfl]; exact h.1, fun k hk => by rw [hF.i rfl]; exact h.2 k hk⟩
theorem RZ.fr (h : RZ Z t L) (hF : Fr r1f Z Z') : RZ Z' t L := ⟨by rw [hF.i rfl]; exact h.1, fun k hk => by rw [hF.i rfl]; exact h.2 k hk⟩
def RR (A Z : sM) (t : Nat → Int) (L p : Nat) : Prop := RA A t L ∧ RZ Z t L ∧ (A.1 5 4 0 0 = 0 ∧ Z.1 10 13 0 0 = 0) ∧ (p ≤ L ∧ A.1 5 3 0 0 = oI p) ∧ TK Z t L (skp t L p)
def FF (A Z : sM) : Prop := ¬ A.1 5 4 0 0 = 0 ∧ Z.1 10 13 0 0 = A.1 5 4 0 0 ∧ Z.1 10 14 0 0 = A.1 5 3 0 0
def QQ (A Z : sM) (t : Nat → Int) (L p : Nat) : Prop := (∃ p', p ≤ p' ∧ RR A Z t L p') ∨ FF A Z
theorem FF.z (h : FF A Z) : ¬ Z.1 10 13 0 0 = 0 := fun e => h.1 (by rw [← h.2.1]; exact e)
theorem QQ.le {p0 : Nat} (h : QQ A Z t L p) (hp : p0 ≤ p) : QQ A Z t L p0 := by
  rcases h with ⟨p', h1, h2⟩ | h
  · exact .inl ⟨p', by omega, h2⟩
  · exact .inr h
theorem skA_F (h : ¬ A.1 5 4 0 0 = 0) : fX5_skipSpaces A = some A := by
  show fX5_skipSpaces_L0 _ (9999 + 1) A = _
  rw [fX5_skipSpaces_L0, if_neg h]
theorem is_F (x : Int32) (h : ¬ Z.1 10 13 0 0 = 0) : fX10_is x Z = some 0 := by rw [fX10_is, if_neg h]
theorem fl_F (x : Int32) (h : ¬ Z.1 10 13 0 0 = 0) : fX10_fails x Z = some Z := by rw [fX10_fails, if_neg h]
theorem fl_N {x q : Int32} (h : Z.1 10 13 0 0 = 0) (hq : Z.1 10 10 0 0 = q) : fX10_fails x Z = some (wI (wI Z 10 13 0 0 x) 10 14 0 0 q) := by
  rw [fX10_fails, if_pos h, ltb_eq, ltb_eq, wI_1, if_neg (by omega), hq]
theorem must_F (x : Int32) (h : ¬ Z.1 10 13 0 0 = 0) : fX10_must x Z = some Z := by
  rw [fX10_must, is_F x h, bd_eq, if_pos rfl, fl_F _ h, bd_eq, if_neg h]
theorem takes_F (x y : Int32) (h : ¬ Z.1 10 13 0 0 = 0) : fX10_takes x y Z = some (0, Z) := by
  rw [fX10_takes, is_F _ h, bd_eq, ltb_eq, if_pos rfl, fl_F _ h, bd_eq]
  dsimp only
  rw [if_neg h, if_neg h]
theorem m2_ne : ¬ (-2 : Int32) = 0 := by decide
theorem m3_ne : ¬ (-3 : Int32) = 0 := by decide
theorem o1_ne : ¬ (1 : Int32) = 0 := by decide
theorem must_Y {x : Int32} (h : Z.1 10 13 0 0 = 0) (hx : Z.1 10 12 0 0 = x) (hn : fX10_next Z = some Z') : fX10_must x Z = some Z' := by
  rw [fX10_must, fX10_is, h, if_pos rfl, if_pos hx, bd_eq, if_neg o1_ne, if_pos rfl, hn, bd_eq]
theorem must_N {x q : Int32} (h : Z.1 10 13 0 0 = 0) (hx : ¬ Z.1 10 12 0 0 = x) (hq : Z.1 10 10 0 0 = q) : fX10_must x Z = some (wI (wI Z 10 13 0 0 (-2)) 10 14 0 0 q) := by
  have e : ¬ (wI (wI Z 10 13 0 0 (-2)) 10 14 0 0 q).1 10 13 0 0 = 0 := by
    rw [wI_1, if_neg (by omega), wI_1, if_pos ⟨rfl, rfl, rfl, rfl⟩]; exact m2_ne
  rw [fX10_must, fX10_is, h, if_pos rfl, if_neg hx, bd_eq, if_pos rfl, fl_N h hq, bd_eq, if_neg e]
theorem FF_wr {q : Nat} {x y : Int32} (h3 : A.1 5 3 0 0 = oI q) (hy : y = oI q) (hx : ¬ x = 0) : FF (wI A 5 4 0 0 x) (wI (wI Z 10 13 0 0 x) 10 14 0 0 y) := by
  refine ⟨?_, ?_, ?_⟩
  · rw [wI_1, if_pos ⟨rfl, rfl, rfl, rfl⟩]; exact hx
  · rw [wI_1, if_neg (by omega), wI_1, if_pos ⟨rfl, rfl, rfl, rfl⟩, wI_1, if_pos ⟨rfl, rfl, rfl, rfl⟩]
  · rw [wI_1, if_pos ⟨rfl, rfl, rfl, rfl⟩, wI_1, if_neg (by omega), h3, hy]
theorem exW {w : Nat → Int} {s1 n kk : Nat} (hT : RT t L) (hn : 0 < n ∧ n < 100) (hL1 : strL s1 = oI n) (hl : sLen.getD s1 0 = n) (hw : ∀ j, j < n → strC s1 j = oI (w j) ∧ 0 ≤ w j ∧ w j < 128) (hk : ∀ Z q, TK Z t L q → (Z.1 10 12 0 0 = oI kk ↔ stands t w L q n) ∧ (Z.1 10 12 0 0 = oI kk → Z.1 10 11 0 0 = oI (q + n : Nat))) (h : QQ A Z t L p) : ∃ A' Z', Fr r5 A A' ∧ Fr r1f Z Z' ∧ QQ A' Z' t L (p + 1) ∧ (A'.1 5 4 0 0 = 0 → A.1 5 4 0 0 = 0) ∧ fX5_expectWord s1 A = some A' ∧ fX10_must (oI kk) Z = some Z' := by
  have hL := hT.1
  rcases h with ⟨p', hp, hA, hZ, ⟨h4, h13⟩, ⟨hpL, h3⟩, hTK⟩ | h
  · obtain ⟨A1, u1, u2, u3⟩ := skA hT hpL hA h4 h3
    have hq := (skp_le t L p').2 hpL
    have hq1 := (skp_le t L p').1
    obtain ⟨q, hqe⟩ : ∃ q, q = skp t L p' := ⟨_, rfl⟩
    rw [← hqe] at u2 hq hq1 hTK
    have f1 := r53_5 u1
    have A1R := hA.fr f1
    have a4 : A1.1 5 4 0 0 = 0 := by rw [u1.i rfl]; exact h4
    obtain ⟨k1, k2⟩ := hk Z q hTK
    obtain ⟨sh1, sh2⟩ := shA hT A1R u2 hq hn.2 hL1 hl hw
    have z10 : Z.1 10 10 0 0 = oI q := by obtain ⟨k, e, h1, _⟩ := hTK; exact h1.1
    by_cases st : stands t w L q n
    · have hqn : q + n ≤ L := st.1
      obtain ⟨Z1, v1, v2, v3⟩ := nexZ hT hZ (k2 (k1.2 st)) hqn
      refine ⟨wI A1 5 3 0 0 (oI (q + n : Nat)), Z1, f1.wI rfl, r10_f v1, .inl ⟨q + n, by omega, A1R.fr ((Fr.refl _).wI rfl), hZ.fr (r10_f v1), ⟨by rw [wI_1, if_neg (by omega)]; exact a4, by rw [v1.i rfl]; exact h13⟩, ⟨hqn, by rw [wI_1, if_pos ⟨rfl, rfl, rfl, rfl⟩]⟩, v2⟩, fun _ => h4, ?_, must_Y h13 (k1.2 st) v3⟩
      rw [fX5_expectWord, u3, bd_eq, if_pos a4, sh1 st, bd_eq, if_neg one_ne, u2, hL1, oI_add, ltb_eq]; rfl
    · refine ⟨wI A1 5 4 0 0 (-2), wI (wI Z 10 13 0 0 (-2)) 10 14 0 0 (oI q), f1.wI rfl, ((Fr.refl _).wI rfl).wI rfl, .inr (FF_wr u2 rfl m2_ne), fun _ => h4, ?_, must_N h13 (fun e => st (k1.1 e)) z10⟩
      rw [fX5_expectWord, u3, bd_eq, if_pos a4, sh2 st, bd_eq, if_pos nul_eq, ltb_eq]
  · refine ⟨A, Z, Fr.refl _, Fr.refl _, .inr h, id, ?_, must_F _ h.z⟩
    rw [fX5_expectWord, skA_F h.1, bd_eq, if_neg h.1]
theorem exS (hT : RT t L) (h : QQ A Z t L p) : ∃ A' Z', Fr r5 A A' ∧ Fr r1f Z Z' ∧ QQ A' Z' t L (p + 1) ∧ (A'.1 5 4 0 0 = 0 → A.1 5 4 0 0 = 0) ∧ fX5_expectSemicolon A = some A' ∧ fX10_must 5 Z = some Z' := by
  have hL := hT.1
  rcases h with ⟨p', hp, hA, hZ, ⟨h4, h13⟩, ⟨hpL, h3⟩, hTK⟩ | h
  · obtain ⟨A1, u1, u2, u3⟩ := skA hT hpL hA h4 h3
    have hq := (skp_le t L p').2 hpL
    have hq1 := (skp_le t L p').1
    obtain ⟨q, hqe⟩ : ∃ q, q = skp t L p' := ⟨_, rfl⟩
    rw [← hqe] at u2 hq hq1 hTK
    have f1 := r53_5 u1
    have A1R := hA.fr f1
    have a4 : A1.1 5 4 0 0 = 0 := by rw [u1.i rfl]; exact h4
    obtain ⟨k, e, ⟨z10, z11, z12⟩, ⟨_, _, _, k8⟩, _, _, _, _, ⟨k5, k5e⟩, _⟩ := hTK
    by_cases st : q < L ∧ t q = 59
    · have ek := k5.2 st
      have ee := k5e ek
      obtain ⟨Z1, v1, v2, v3⟩ := nexZ hT hZ (p := q + 1) (by rw [z11, ee]) (by omega)
      refine ⟨wI A1 5 3 0 0 (oI (q + 1 : Nat)), Z1, f1.wI rfl, r10_f v1, .inl ⟨q + 1, by omega, A1R.fr ((Fr.refl _).wI rfl), hZ.fr (r10_f v1), ⟨by rw [wI_1, if_neg (by omega)]; exact a4, by rw [v1.i rfl]; exact h13⟩, ⟨by omega, by rw [wI_1, if_pos ⟨rfl, rfl, rfl, rfl⟩]⟩, v2⟩, fun _ => h4, ?_, must_Y h13 (by rw [z12, ek]; rfl) v3⟩
      rw [fX5_expectSemicolon, u3, bd_eq, if_pos a4, u2, A1R.1, if_neg (by simp (disch := omega) only [oI_lt, oI_le, oI_eq, oL_lt, oL_le, oL_eq, oI_L, oI_clamp, oI_inb, oL_nz]; omega), inbA (by omega) (by omega), gd_true, clpA (by omega), A1R.2 q st.1, st.2, if_pos (by decide), kI_1, oI_add, nat1, ltb_eq]
    · have nk : ¬ Z.1 10 12 0 0 = 5 := by
        rw [z12, kI_5]
        simp (disch := omega) only [oI_lt, oI_le, oI_eq, oL_lt, oL_le, oL_eq, oI_L, oI_clamp, oI_inb, oL_nz]
        intro e9
        exact st (k5.1 (by omega))
      refine ⟨wI A1 5 4 0 0 (-2), wI (wI Z 10 13 0 0 (-2)) 10 14 0 0 (oI q), f1.wI rfl, ((Fr.refl _).wI rfl).wI rfl, .inr (FF_wr u2 rfl m2_ne), fun _ => h4, ?_, must_N h13 nk z10⟩
      by_cases q1 : q < L
      · have hb := hT.2 q q1
        have hr := sby_rg hb
        rw [fX5_expectSemicolon, u3, bd_eq, if_pos a4, u2, A1R.1, if_neg (by simp (disch := omega) only [oI_lt, oI_le, oI_eq, oL_lt, oL_le, oL_eq, oI_L, oI_clamp, oI_inb, oL_nz]; omega), inbA (by omega) (by omega), gd_true, clpA (by omega), A1R.2 q q1, if_neg (by
          rw [kI_59]
          simp (disch := omega) only [oI_lt, oI_le, oI_eq, oL_lt, oL_le, oL_eq, oI_L, oI_clamp, oI_inb, oL_nz]
          intro e9
          exact st ⟨q1, (sby_eq hb (by omega)).1 e9⟩), ltb_eq]
      · rw [fX5_expectSemicolon, u3, bd_eq, if_pos a4, u2, A1R.1, if_pos (by simp (disch := omega) only [oI_lt, oI_le, oI_eq, oL_lt, oL_le, oL_eq, oI_L, oI_clamp, oI_inb, oL_nz]; omega), ltb_eq]
  · refine ⟨A, Z, Fr.refl _, Fr.refl _, .inr h, id, ?_, must_F _ h.z⟩
    rw [fX5_expectSemicolon, skA_F h.1, bd_eq, if_neg h.1]
theorem takes_N {x y q : Int32} (h : Z.1 10 13 0 0 = 0) (hx : ¬ Z.1 10 12 0 0 = 4) (hq : Z.1 10 10 0 0 = q) : fX10_takes x y Z = some (0, wI (wI Z 10 13 0 0 (-2)) 10 14 0 0 q) := by
  have e : ¬ (wI (wI Z 10 13 0 0 (-2)) 10 14 0 0 q).1 10 13 0 0 = 0 := by
    rw [wI_1, if_neg (by omega), wI_1, if_pos ⟨rfl, rfl, rfl, rfl⟩]; exact m2_ne
  rw [fX10_takes, fX10_is, h, if_pos rfl, if_neg hx, bd_eq, ltb_eq, if_pos rfl, fl_N h hq, bd_eq]
  dsimp only
  rw [if_neg e, if_neg e]
theorem takes_R {q : Int32} {a b v : Int} (h : Z.1 10 13 0 0 = 0) (hx : Z.1 10 12 0 0 = 4) (hq : Z.1 10 10 0 0 = q) (hv : Z.2 10 16 0 0 = oL v) (ha : -1 ≤ a ∧ a < 1000000) (hb : -1 ≤ b ∧ b < 1000000) (v0 : 0 ≤ v ∧ v < 100000000) (hn : ¬ (a ≤ v ∧ v ≤ b)) : fX10_takes (oI a) (oI b) Z = some (0, wI (wI Z 10 13 0 0 (-3)) 10 14 0 0 q) := by
  have e : ¬ (wI (wI Z 10 13 0 0 (-3)) 10 14 0 0 q).1 10 13 0 0 = 0 := by
    rw [wI_1, if_neg (by omega), wI_1, if_pos ⟨rfl, rfl, rfl, rfl⟩]; exact m3_ne
  rw [fX10_takes, fX10_is, h, if_pos rfl, if_pos hx, bd_eq, ltb_eq, if_neg o1_ne, hv, oI_L (by omega) (by omega), oI_L (by omega) (by omega), isIn_f Z hn (by omega) (by omega) (by omega) (by omega) (by omega) (by omega), bd_eq, if_pos nul_eq, fl_N h hq, bd_eq]
  dsimp only
  rw [if_neg e, if_neg e]
theorem takes_Y {a b v : Int} (h : Z.1 10 13 0 0 = 0) (hx : Z.1 10 12 0 0 = 4) (hv : Z.2 10 16 0 0 = oL v) (ha : -1 ≤ a ∧ a < 1000000) (hb : -1 ≤ b ∧ b < 1000000) (hn : a ≤ v ∧ v ≤ b) (hZ : fX10_next Z = some Z') : fX10_takes (oI a) (oI b) Z = some (oI v, Z') := by
  rw [fX10_takes, fX10_is, h, if_pos rfl, if_pos hx, bd_eq, ltb_eq, if_neg o1_ne, hv, oI_L (by omega) (by omega), oI_L (by omega) (by omega), isIn_t Z hn (by omega) (by omega), bd_eq, if_neg one_ne]
  dsimp only
  rw [if_pos h, hv, oL_I, ltb_eq, if_pos h, hZ, bd_eq]
theorem exN {x1 x2 y1 y2 : Int32} {a b : Int} (hT : RT t L) (hx : A.1 5 4 0 0 = 0 → (x1 = oI a ∧ y1 = oI a ∧ x2 = oI b ∧ y2 = oI b) ∧ (-1 ≤ a ∧ a < 1000000) ∧ (-1 ≤ b ∧ b < 1000000)) (h : QQ A Z t L p) : ∃ A' Z' rA rZ v, Fr r5 A A' ∧ Fr r1f Z Z' ∧ QQ A' Z' t L (p + 1) ∧ (A'.1 5 4 0 0 = 0 → A.1 5 4 0 0 = 0 ∧ rA = oI v ∧ rZ = oI v ∧ a ≤ v ∧ v ≤ b) ∧ fX5_expectNumber x1 x2 A = some (rA, A') ∧ fX10_takes y1 y2 Z = some (rZ, Z') := by
  have hL := hT.1
  rcases h with ⟨p', hp, hA, hZ, ⟨h4, h13⟩, ⟨hpL, h3⟩, hTK⟩ | h
  · obtain ⟨⟨ex1, ey1, ex2, ey2⟩, ha, hb⟩ := hx h4
    subst ex1 ey1 ex2 ey2
    obtain ⟨A1, u1, u2, u3⟩ := skA hT hpL hA h4 h3
    have hq := (skp_le t L p').2 hpL
    have hq1 := (skp_le t L p').1
    obtain ⟨q, hqe⟩ : ∃ q, q = skp t L p' := ⟨_, rfl⟩
    rw [← hqe] at u2 hq hq1 hTK
    have f1 := r53_5 u1
    have A1R := hA.fr f1
    have a4 : A1.1 5 4 0 0 = 0 := by rw [u1.i rfl]; exact h4
    obtain ⟨k, e, ⟨z10, z11, z12⟩, ⟨_, _, _, k8⟩, _, _, _, ⟨k4, k4e⟩, _⟩ := hTK
    obtain ⟨A2, v1, v2, v3⟩ := dgA_L hT (oI a) (oI b) (oI q) (L - q) 10000 q 0 A1 rfl hq (by omega) A1R (by omega) u2
    have f2 := f1.trans (r53_5 v1)
    have b4 : A2.1 5 4 0 0 = 0 := by rw [v1.i rfl]; exact a4
    have hv := nv_rg (t := t) (L := L) _ q 0 rfl (by omega)
    have hrL := (rn_le 48 57 t L q).2 hq
    obtain ⟨v, hve⟩ : ∃ v, v = nv t L q 0 := ⟨_, rfl⟩
    rw [← hve] at hv v3 k4e
    have hc : (v < 10000000 ∧ cap v = v) ∨ (10000000 ≤ v ∧ cap v = 10000000) := by
      rw [cap]; split <;> omega
    have e0 : (0 : Int32) = oI (cap 0) := by decide
    by_cases st : q < L ∧ (48 ≤ t q ∧ t q ≤ 57)
    · have ek := k4.2 st
      obtain ⟨ee, ev⟩ := k4e ek
      have hgt : q < rn 48 57 t L q := by rw [rn_e st]; have := (rn_le 48 57 t L (q + 1)).1; omega
      have n1 : ¬ A2.1 5 3 0 0 = oI q := by
        rw [v2]
        simp (disch := omega) only [oI_lt, oI_le, oI_eq, oL_lt, oL_le, oL_eq, oI_L, oI_clamp, oI_inb, oL_nz]
        omega
      have z4 : Z.1 10 12 0 0 = 4 := by rw [z12, ek]; rfl
      by_cases rg : a ≤ v ∧ v ≤ b
      · obtain ⟨Z1, w1, w2, w3⟩ := nexZ hT hZ (p := rn 48 57 t L q) (by rw [z11, ee]) hrL
        have ecv : cap v = v := by omega
        refine ⟨A2, Z1, oI v, oI v, v, f2, r10_f w1, .inl ⟨rn 48 57 t L q, by omega, hA.fr f2, hZ.fr (r10_f w1), ⟨b4, by rw [w1.i rfl]; exact h13⟩, ⟨hrL, v2⟩, w2⟩, fun _ => ⟨h4, rfl, rfl, rg⟩, ?_, takes_Y h13 z4 ev ha hb rg w3⟩
        rw [fX5_expectNumber, u3, bd_eq, if_pos a4, u2, ltb_eq, e0]
        refine (v3 _).trans ?_
        rw [if_neg n1, ecv, if_neg (by simp (disch := omega) only [oI_lt, oI_le, oI_eq, oL_lt, oL_le, oL_eq, oI_L, oI_clamp, oI_inb, oL_nz]; omega), if_pos (by simp (disch := omega) only [oI_lt, oI_le, oI_eq, oL_lt, oL_le, oL_eq, oI_L, oI_clamp, oI_inb, oL_nz]; omega)]
      · refine ⟨wI (wI A2 5 4 0 0 (-3)) 5 3 0 0 (oI q), wI (wI Z 10 13 0 0 (-3)) 10 14 0 0 (oI q), oI (cap v), 0, 0, (f2.wI rfl).wI rfl, ((Fr.refl _).wI rfl).wI rfl, .inr ⟨?_, ?_, ?_⟩, fun e9 => ?_, ?_, takes_R h13 z4 z10 ev ha hb hv rg⟩
        · rw [wI_1, if_neg (by omega), wI_1, if_pos ⟨rfl, rfl, rfl, rfl⟩]; exact m3_ne
        · rw [wI_1, if_neg (by omega), wI_1, if_pos ⟨rfl, rfl, rfl, rfl⟩, wI_1, if_neg (by omega), wI_1, if_pos ⟨rfl, rfl, rfl, rfl⟩]
        · rw [wI_1, if_pos ⟨rfl, rfl, rfl, rfl⟩, wI_1, if_pos ⟨rfl, rfl, rfl, rfl⟩]
        · rw [wI_1, if_neg (by omega), wI_1, if_pos ⟨rfl, rfl, rfl, rfl⟩] at e9
          exact absurd e9 m3_ne
        · rw [fX5_expectNumber, u3, bd_eq, if_pos a4, u2, ltb_eq, e0]
          refine (v3 _).trans ?_
          rw [if_neg n1]
          by_cases lo : cap v < a
          · rw [if_pos (by simp (disch := omega) only [oI_lt, oI_le, oI_eq, oL_lt, oL_le, oL_eq, oI_L, oI_clamp, oI_inb, oL_nz]; omega), ltb_eq, ltb_eq]
          · rw [if_neg (by simp (disch := omega) only [oI_lt, oI_le, oI_eq, oL_lt, oL_le, oL_eq, oI_L, oI_clamp, oI_inb, oL_nz]; omega), if_neg (by simp (disch := omega) only [oI_lt, oI_le, oI_eq, oL_lt, oL_le, oL_eq, oI_L, oI_clamp, oI_inb, oL_nz]; omega), ltb_eq, ltb_eq]
    · have nk : ¬ Z.1 10 12 0 0 = 4 := by
        rw [z12, kI_4]
        simp (disch := omega) only [oI_lt, oI_le, oI_eq, oL_lt, oL_le, oL_eq, oI_L, oI_clamp, oI_inb, oL_nz]
        intro e9
        exact st (k4.1 (by omega))
      have er : rn 48 57 t L q = q := rn_n st
      rw [er] at v2
      refine ⟨wI A2 5 4 0 0 (-2), wI (wI Z 10 13 0 0 (-2)) 10 14 0 0 (oI q), oI (cap v), 0, 0, f2.wI rfl, ((Fr.refl _).wI rfl).wI rfl, .inr (FF_wr v2 rfl m2_ne), fun e9 => ?_, ?_, takes_N h13 nk z10⟩
      · rw [wI_1, if_pos ⟨rfl, rfl, rfl, rfl⟩] at e9
        exact absurd e9 m2_ne
      · rw [fX5_expectNumber, u3, bd_eq, if_pos a4, u2, ltb_eq, e0]
        refine (v3 _).trans ?_
        rw [if_pos v2, ltb_eq]
  · refine ⟨A, Z, 0, 0, 0, Fr.refl _, Fr.refl _, .inr h, fun e => absurd e h.1, ?_, takes_F _ _ h.z⟩
    rw [fX5_expectNumber, skA_F h.1, bd_eq, if_neg h.1]
end
