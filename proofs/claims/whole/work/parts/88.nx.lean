/-! The token that the reference sees. -/
def TK (Z : sM) (t : Nat → Int) (L q : Nat) : Prop := ∃ k e : Nat, (Z.1 10 10 0 0 = oI q ∧ Z.1 10 11 0 0 = oI e ∧ Z.1 10 12 0 0 = oI k) ∧ (q ≤ L ∧ q ≤ e ∧ e ≤ L ∧ k < 8) ∧ ((k = 0 ↔ stands t wg L q 6) ∧ (k = 0 → e = q + 6)) ∧ ((k = 1 ↔ stands t wp L q 6) ∧ (k = 1 → e = q + 6)) ∧ ((k = 2 ↔ stands t wh L q 5) ∧ (k = 2 → e = q + 5)) ∧ ((k = 4 ↔ (q < L ∧ (48 ≤ t q ∧ t q ≤ 57))) ∧ (k = 4 → e = rn 48 57 t L q ∧ Z.2 10 16 0 0 = oL (nv t L q 0))) ∧ ((k = 5 ↔ (q < L ∧ t q = 59)) ∧ (k = 5 → e = q + 1)) ∧ (k = 6 ↔ q = L)
theorem st_no {t w : Nat → Int} {L q n : Nat} (hn : 0 < n) (hw : 97 ≤ w 0 ∧ w 0 ≤ 122) (h : ¬ (q < L ∧ (97 ≤ t q ∧ t q ≤ 122))) : ¬ stands t w L q n := fun s => by
  have h1 := s.2.1 0 hn
  have h2 := s.1
  rw [Nat.add_zero] at h1
  exact h ⟨by omega, by omega⟩
theorem nv_rg {t : Nat → Int} {L : Nat} : ∀ (d p : Nat) (v : Int), L - p = d → 0 ≤ v ∧ v < 100000000 → 0 ≤ nv t L p v ∧ nv t L p v < 100000000 := by
  intro d
  induction d with
  | zero =>
    intro p v hd hv
    rw [nv_n (by omega)]; exact hv
  | succ d ih =>
    intro p v hd hv
    by_cases q : p < L ∧ (48 ≤ t p ∧ t p ≤ 57)
    · rw [nv_e q]
      refine ih (p + 1) _ (by omega) ?_
      split <;> omega
    · rw [nv_n q]; exact hv
theorem nexZ {t : Nat → Int} {L p : Nat} {Z : sM} (hT : RT t L) (hR : RZ Z t L) (h11 : Z.1 10 11 0 0 = oI p) (hp : p ≤ L) : ∃ Z', Fr r10 Z Z' ∧ TK Z' t L (skp t L p) ∧ fX10_next Z = some Z' := by
  have hL := hT.1
  obtain ⟨Z2, u1, u2, u3⟩ := skZ_L hT (L - p) 10000 p (wI Z 10 10 0 0 (oI p)) rfl hp (by omega) ⟨by rw [wI_1, if_neg (by omega)]; exact hR.1, fun k hk => by rw [wI_1, if_neg (by omega)]; exact hR.2 k hk⟩ (by rw [wI_1, if_pos ⟨rfl, rfl, rfl, rfl⟩])
  have hq0 := (skp_le t L p).2 hp
  obtain ⟨q, hqe⟩ : ∃ q, q = skp t L p := ⟨_, rfl⟩
  rw [← hqe] at u2 hq0 ⊢
  obtain ⟨Z3, hZ3⟩ : ∃ Z3, Z3 = wI Z2 10 11 0 0 (oI q) := ⟨_, rfl⟩
  have F3 : Fr r10 Z Z3 := by rw [hZ3]; exact Fr.trans ((Fr.refl _).wI rfl) (u1.wI rfl)
  have R3 : RZ Z3 t L := ⟨by rw [F3.i rfl]; exact hR.1, fun k hk => by rw [F3.i rfl]; exact hR.2 k hk⟩
  have z0 : Z3.1 10 10 0 0 = oI q := by rw [hZ3, wI_1, if_neg (by omega)]; exact u2
  have z1 : Z3.1 10 11 0 0 = oI q := by rw [hZ3, wI_1, if_pos ⟨rfl, rfl, rfl, rfl⟩]
  have z9 : Z3.1 10 9 0 0 = oI L := R3.1
  by_cases q1 : q < L
  · have hb := hT.2 q q1
    by_cases q2 : 97 ≤ t q ∧ t q ≤ 122
    · obtain ⟨Z4, v1, v2, v3, v4⟩ := ltZ_L hT (L - q) 10000 q Z3 rfl hq0 (by omega) R3 z1
      have R4 : RZ Z4 t L := ⟨by rw [v1.i rfl]; exact R3.1, fun k hk => by rw [v1.i rfl]; exact R3.2 k hk⟩
      obtain ⟨k, k1, k2, k3, k4, k5⟩ := wat hT R4 (v3.trans z0) v2 hq0
      have s0 := isw_st (t := t) (w := wg) (n := 6) hq0 (fun j hj => (wg_s j hj).2)
      have s1 := isw_st (t := t) (w := wp) (n := 6) hq0 (fun j hj => (wp_s j hj).2)
      have s2 := isw_st (t := t) (w := wh) (n := 5) hq0 (fun j hj => (wh_s j hj).2)
      refine ⟨wI Z4 10 12 0 0 (oI k), F3.trans (v1.wI rfl), ⟨k, rn 97 122 t L q, ⟨by rw [wI_1, if_neg (by omega)]; exact v3.trans z0, by rw [wI_1, if_neg (by omega)]; exact v2, by rw [wI_1, if_pos ⟨rfl, rfl, rfl, rfl⟩]⟩, ⟨hq0, (rn_le _ _ _ _ _).1, (rn_le _ _ _ _ _).2 hq0, by omega⟩, ⟨k2, fun h => ((s0.2 (k2.1 h)).1).symm⟩, ⟨k3, fun h => ((s1.2 (k3.1 h)).1).symm⟩, ⟨k4, fun h => ((s2.2 (k4.1 h)).1).symm⟩, ⟨⟨fun h => by omega, fun h => by omega⟩, fun h => by omega⟩, ⟨⟨fun h => by omega, fun h => by omega⟩, fun h => by omega⟩, ⟨fun h => by omega, fun h => by omega⟩⟩, ?_⟩
      rw [fX10_next, ltb_eq, h11]
      refine (u3 _).trans ?_
      rw [ltb_eq, u2, ← hZ3, z0, z9, if_pos (by simp (disch := omega) only [oI_lt, oI_le, oI_eq, oL_lt, oL_le, oL_eq, oI_L, oI_clamp, oI_inb, oL_nz]; omega), see hT R3 hq0, bd_eq, kL_97, kL_122, inZ2 hT (by omega), bd_eq, if_pos (c := q < L ∧ (97 ≤ t q ∧ t q ≤ 122)) ⟨q1, q2⟩, if_neg one_ne]
      refine (v4 _).trans ?_
      rw [k5, bd_eq, ltb_eq]
    · have n0 := st_no (t := t) (w := wg) (L := L) (q := q) (n := 6) (by omega) (by decide) (fun h => q2 h.2)
      have n1 := st_no (t := t) (w := wp) (L := L) (q := q) (n := 6) (by omega) (by decide) (fun h => q2 h.2)
      have n2 := st_no (t := t) (w := wh) (L := L) (q := q) (n := 5) (by omega) (by decide) (fun h => q2 h.2)
      by_cases q3 : 48 ≤ t q ∧ t q ≤ 57
      · have R4 : RZ (wL Z3 10 16 0 0 (oL 0)) t L := ⟨by rw [wL_1]; exact R3.1, fun k hk => by rw [wL_1]; exact R3.2 k hk⟩
        obtain ⟨Z4, v1, v2, v5, v3, v4⟩ := dgZ_L hT (L - q) 10000 q 0 (wL Z3 10 16 0 0 (oL 0)) rfl hq0 (by omega) R4 (by omega) (by omega) (by rw [wL_1]; exact z1) (by rw [wL_2, if_pos ⟨rfl, rfl, rfl, rfl⟩])
        refine ⟨wI Z4 10 12 0 0 (oI (4 : Nat)), F3.trans (Fr.trans ((Fr.refl _).wL rfl) (v1.wI rfl)), ⟨4, rn 48 57 t L q, ⟨by rw [wI_1, if_neg (by omega), v3, wL_1]; exact z0, by rw [wI_1, if_neg (by omega)]; exact v2, by rw [wI_1, if_pos ⟨rfl, rfl, rfl, rfl⟩]⟩, ⟨hq0, (rn_le _ _ _ _ _).1, (rn_le _ _ _ _ _).2 hq0, by omega⟩, ⟨⟨fun h => by omega, fun h => absurd h n0⟩, fun h => by omega⟩, ⟨⟨fun h => by omega, fun h => absurd h n1⟩, fun h => by omega⟩, ⟨⟨fun h => by omega, fun h => absurd h n2⟩, fun h => by omega⟩, ⟨⟨fun _ => ⟨q1, q3⟩, fun _ => rfl⟩, fun _ => ⟨rfl, by rw [wI_2]; exact v5⟩⟩, ⟨⟨fun h => by omega, fun h => by omega⟩, fun h => by omega⟩, ⟨fun h => by omega, fun h => by omega⟩⟩, ?_⟩
        rw [fX10_next, ltb_eq, h11]
        refine (u3 _).trans ?_
        rw [ltb_eq, u2, ← hZ3, z0, z9, if_pos (by simp (disch := omega) only [oI_lt, oI_le, oI_eq, oL_lt, oL_le, oL_eq, oI_L, oI_clamp, oI_inb, oL_nz]; omega), see hT R3 hq0, bd_eq, kL_97, kL_122, inZ2 hT (by omega), bd_eq, if_neg (c := q < L ∧ (97 ≤ t q ∧ t q ≤ 122)) (fun h => q2 h.2), if_pos nul_eq, bd_eq, kL_48, kL_57, inZ2 hT (by omega), bd_eq, if_pos (c := q < L ∧ (48 ≤ t q ∧ t q ≤ 57)) ⟨q1, q3⟩, if_neg one_ne, ltb_eq]
        exact v4 _
      · by_cases q4 : t q = 59
        · refine ⟨wI (wI Z3 10 11 0 0 (oI (q + 1 : Nat))) 10 12 0 0 (oI (5 : Nat)), (F3.wI rfl).wI rfl, ⟨5, q + 1, ⟨by rw [wI_1, if_neg (by omega), wI_1, if_neg (by omega)]; exact z0, by rw [wI_1, if_neg (by omega), wI_1, if_pos ⟨rfl, rfl, rfl, rfl⟩], by rw [wI_1, if_pos ⟨rfl, rfl, rfl, rfl⟩]⟩, ⟨hq0, by omega, by omega, by omega⟩, ⟨⟨fun h => by omega, fun h => absurd h n0⟩, fun h => by omega⟩, ⟨⟨fun h => by omega, fun h => absurd h n1⟩, fun h => by omega⟩, ⟨⟨fun h => by omega, fun h => absurd h n2⟩, fun h => by omega⟩, ⟨⟨fun h => by omega, fun h => by omega⟩, fun h => by omega⟩, ⟨⟨fun _ => ⟨q1, q4⟩, fun _ => rfl⟩, fun _ => rfl⟩, ⟨fun h => by omega, fun h => by omega⟩⟩, ?_⟩
          have R4 : RZ (wI Z3 10 11 0 0 (oI (q + 1 : Nat))) t L := ⟨by rw [wI_1, if_neg (by omega)]; exact R3.1, fun k hk => by rw [wI_1, if_neg (by omega)]; exact R3.2 k hk⟩
          have z4 : (wI Z3 10 11 0 0 (oI (q + 1 : Nat))).1 10 10 0 0 = oI q := by rw [wI_1, if_neg (by omega)]; exact z0
          rw [fX10_next, ltb_eq, h11]
          refine (u3 _).trans ?_
          rw [ltb_eq, u2, ← hZ3, z0, z1, z9, if_pos (by simp (disch := omega) only [oI_lt, oI_le, oI_eq, oL_lt, oL_le, oL_eq, oI_L, oI_clamp, oI_inb, oL_nz]; omega), see hT R3 hq0, bd_eq, kL_97, kL_122, inZ2 hT (by omega), bd_eq, if_neg (c := q < L ∧ (97 ≤ t q ∧ t q ≤ 122)) (fun h => q2 h.2), if_pos nul_eq, bd_eq, kL_48, kL_57, inZ2 hT (by omega), bd_eq, if_neg (c := q < L ∧ (48 ≤ t q ∧ t q ≤ 57)) (fun h => q3 h.2), if_pos nul_eq, kI_1, oI_add, nat1, ltb_eq, z4, see hT R4 hq0, bd_eq, if_pos (c := q < L) q1, q4, if_pos (by decide), ltb_eq]
          rfl
        · refine ⟨wI (wI Z3 10 11 0 0 (oI (q + 1 : Nat))) 10 12 0 0 (oI (7 : Nat)), (F3.wI rfl).wI rfl, ⟨7, q + 1, ⟨by rw [wI_1, if_neg (by omega), wI_1, if_neg (by omega)]; exact z0, by rw [wI_1, if_neg (by omega), wI_1, if_pos ⟨rfl, rfl, rfl, rfl⟩], by rw [wI_1, if_pos ⟨rfl, rfl, rfl, rfl⟩]⟩, ⟨hq0, by omega, by omega, by omega⟩, ⟨⟨fun h => by omega, fun h => absurd h n0⟩, fun h => by omega⟩, ⟨⟨fun h => by omega, fun h => absurd h n1⟩, fun h => by omega⟩, ⟨⟨fun h => by omega, fun h => absurd h n2⟩, fun h => by omega⟩, ⟨⟨fun h => by omega, fun h => by omega⟩, fun h => by omega⟩, ⟨⟨fun h => by omega, fun h => by omega⟩, fun h => by omega⟩, ⟨fun h => by omega, fun h => by omega⟩⟩, ?_⟩
          have R4 : RZ (wI Z3 10 11 0 0 (oI (q + 1 : Nat))) t L := ⟨by rw [wI_1, if_neg (by omega)]; exact R3.1, fun k hk => by rw [wI_1, if_neg (by omega)]; exact R3.2 k hk⟩
          have z4 : (wI Z3 10 11 0 0 (oI (q + 1 : Nat))).1 10 10 0 0 = oI q := by rw [wI_1, if_neg (by omega)]; exact z0
          rw [fX10_next, ltb_eq, h11]
          refine (u3 _).trans ?_
          rw [ltb_eq, u2, ← hZ3, z0, z1, z9, if_pos (by simp (disch := omega) only [oI_lt, oI_le, oI_eq, oL_lt, oL_le, oL_eq, oI_L, oI_clamp, oI_inb, oL_nz]; omega), see hT R3 hq0, bd_eq, kL_97, kL_122, inZ2 hT (by omega), bd_eq, if_neg (c := q < L ∧ (97 ≤ t q ∧ t q ≤ 122)) (fun h => q2 h.2), if_pos nul_eq, bd_eq, kL_48, kL_57, inZ2 hT (by omega), bd_eq, if_neg (c := q < L ∧ (48 ≤ t q ∧ t q ≤ 57)) (fun h => q3 h.2), if_pos nul_eq, kI_1, oI_add, nat1, ltb_eq, z4, see hT R4 hq0, bd_eq, if_pos (c := q < L) q1, if_neg (by rw [show (59 : Int32) = oI 59 from rfl]; simp (disch := omega) only [oI_lt, oI_le, oI_eq, oL_lt, oL_le, oL_eq, oI_L, oI_clamp, oI_inb, oL_nz]; exact q4), ltb_eq]
          rfl
  · have n0 := st_no (t := t) (w := wg) (L := L) (q := q) (n := 6) (by omega) (by decide) (fun h => q1 h.1)
    have n1 := st_no (t := t) (w := wp) (L := L) (q := q) (n := 6) (by omega) (by decide) (fun h => q1 h.1)
    have n2 := st_no (t := t) (w := wh) (L := L) (q := q) (n := 5) (by omega) (by decide) (fun h => q1 h.1)
    refine ⟨wI Z3 10 12 0 0 (oI (6 : Nat)), F3.wI rfl, ⟨6, q, ⟨by rw [wI_1, if_neg (by omega)]; exact z0, by rw [wI_1, if_neg (by omega)]; exact z1, by rw [wI_1, if_pos ⟨rfl, rfl, rfl, rfl⟩]⟩, ⟨hq0, by omega, by omega, by omega⟩, ⟨⟨fun h => by omega, fun h => absurd h n0⟩, fun h => by omega⟩, ⟨⟨fun h => by omega, fun h => absurd h n1⟩, fun h => by omega⟩, ⟨⟨fun h => by omega, fun h => absurd h n2⟩, fun h => by omega⟩, ⟨⟨fun h => by omega, fun h => by omega⟩, fun h => by omega⟩, ⟨⟨fun h => by omega, fun h => by omega⟩, fun h => by omega⟩, ⟨fun h => by omega, fun h => by omega⟩⟩, ?_⟩
    rw [fX10_next, ltb_eq, h11]
    refine (u3 _).trans ?_
    rw [ltb_eq, u2, ← hZ3, z0, z9, if_neg (by simp (disch := omega) only [oI_lt, oI_le, oI_eq, oL_lt, oL_le, oL_eq, oI_L, oI_clamp, oI_inb, oL_nz]; omega), ltb_eq]
    rfl
