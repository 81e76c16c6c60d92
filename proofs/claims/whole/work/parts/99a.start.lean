/-! The law's start. -/
def fS (f : Nat → Int32) : Nat → Int32 := upd (upd (upd (upd (upd (upd f 0 (1000 : Int32)) 1 (12 : Int32)) 2 (50 : Int32)) 3 (100 : Int32)) (4 : Int32).toNatClampNeg (1 : Int32)) (32 : Int32).toNatClampNeg (10 : Int32)
def A00 : sM := (fun c k _ j => match c with
  | 4 => (match k with | 0 => 1000 | 1 => 12 | 2 => 50 | 3 => 100 | 4 => 1 | _ => 0)
  | 18 => if j = 0 then (10 : Int32) else 0
  | 8 => (match k with | 5 => -1 | _ => 0)
  | 9 => (match k with | 7 => -1 | _ => 0)
  | _ => 0, fun _ _ _ _ => 0)
def Z00 (F : Nat → Int32) : sM := (fun c k _ j => match c with
  | 27 => F j
  | 10 => (match k with | 15 => -1 | _ => 0)
  | _ => 0, fun _ _ _ _ => 0)
def ixS (c o : Nat) : Nat := match c with
  | 0 => 43
  | 1 => 22
  | 2 => 28
  | 3 => 26
  | 4 => if o = 7 then 31 else 42
  | 5 => 33
  | 6 => 35
  | 7 => 39
  | 8 => if o = 112 then 19 else (4 * (16 - 1 - o) + 3) + 45
  | 9 => 44
  | 10 => 15
  | 11 => 36
  | 12 => 21
  | 13 => 20
  | 14 => 27
  | 15 => 25
  | 16 => 24
  | 17 => 23
  | 18 => if o = 7 then 30 else 41
  | 19 => if o = 7 then 29 else 40
  | 20 => 32
  | 21 => 34
  | 22 => 38
  | 23 => 37
  | 24 => if o = 112 then 18 else (4 * (16 - 1 - o) + 2) + 45
  | 25 => if o = 112 then 17 else (4 * (16 - 1 - o) + 1) + 45
  | 26 => if o = 112 then 16 else (4 * (16 - 1 - o) + 0) + 45
  | 27 => 1
  | 28 => 14
  | 29 => 13
  | 30 => 12
  | 31 => 11
  | 32 => 10
  | 33 => 9
  | 34 => 8
  | 35 => 7
  | 36 => 6
  | 37 => 5
  | 38 => 4
  | 39 => 3
  | 40 => 2
  | 41 => 0
  | _ => 0
def rS (v : Nat → Nat) (hs : Nat → Nat × Nat × Nat × Nat) (c o : Nat) : Nat := match c with
  | 8 => if o = 112 then v 19 else (hs o).1
  | 24 => if o = 112 then v 18 else (hs o).2.1
  | 25 => if o = 112 then v 17 else (hs o).2.2.1
  | 26 => if o = 112 then v 16 else (hs o).2.2.2
  | c => v (ixS c o)
def vS (c o : Nat) : Bool := if c = 8 ∨ c = 24 ∨ c = 25 ∨ c = 26 then decide (o < 16) || o == 112 else if c = 4 ∨ c = 18 ∨ c = 19 then o == 0 || o == 7 else decide (c < 42) && o == 0
def ivS (i : Nat) : Nat × Nat := if i < 45 then ([(41, 0), (27, 0), (40, 0), (39, 0), (38, 0), (37, 0), (36, 0), (35, 0), (34, 0), (33, 0), (32, 0), (31, 0), (30, 0), (29, 0), (28, 0), (10, 0), (26, 112), (25, 112), (24, 112), (8, 112), (13, 0), (12, 0), (1, 0), (17, 0), (16, 0), (15, 0), (3, 0), (14, 0), (2, 0), (19, 7), (18, 7), (4, 7), (20, 0), (5, 0), (21, 0), (6, 0), (11, 0), (23, 0), (22, 0), (7, 0), (19, 0), (18, 0), (4, 0), (0, 0), (9, 0)] : List (Nat × Nat)).getD i (0, 0) else (([26, 25, 24, 8] : List Nat).getD ((i - 45) % 4) 0, 15 - (i - 45) / 4)
theorem ivS_ok : ∀ c, c < 42 → ∀ o, o < 113 → vS c o = true → ivS (ixS c o) = (c, o) := by decide +kernel
theorem vS_bd {c o : Nat} (h : vS c o = true) : c < 42 ∧ o < 113 := by
  unfold vS at h
  split at h
  · simp at h; omega
  · split at h
    · simp at h; omega
    · simp at h; omega
abbrev wsQ (G : gU) (hs : Nat → Nat × Nat × Nat × Nat) (f : Nat → Int32) (v : Nat → Nat) : va_W := ((v 0), .inl (gC G 1, 1, .inr (.inl (fun _ => 0)))) :: ((v 1), .inl (gC G 0, 1588, .inl (fS f))) :: ((v 2), .inl (gC G 2, 100, .inl (fun _ => 0))) :: ((v 3), .inl (gC G 1, 84, .inr (.inl (fun _ => 0)))) :: ((v 4), .inl (gC G 3, 16, .inl (fun _ => 0))) :: ((v 5), .inl (gC G 1, 16, .inr (.inl (fun _ => 0)))) :: ((v 6), .inl (gC G 3, 17, .inl (fun _ => 0))) :: ((v 7), .inl (gC G 1, 17, .inr (.inl (fun _ => 0)))) :: ((v 8), .inl (gC G 1, 17, .inr (.inl (fun _ => 0)))) :: ((v 9), .inl (gC G 1, 17, .inr (.inl (fun _ => 0)))) :: ((v 10), .inl (gC G 0, 300, .inl (fun _ => 0))) :: ((v 11), .inl (gC G 1, 6348, .inr (.inl (fun _ => 0)))) :: ((v 12), .inl (gC G 1, 1058, .inr (.inl (fun _ => 0)))) :: ((v 13), .inl (gC G 0, 9528, .inl (fun _ => 0))) :: ((v 14), .inl (gC G 0, 1588, .inl (fun _ => 0))) :: ((v 15), .inr (10, [.ref (v 1), .ref (v 14), .ref (v 13), .ref (v 12), .ref (v 11), .int 0, .int 0, .ref (v 10), .int 0, .int 0, .int 0, .int 0, .int 0, .int 0, .int 0, .int (-1 : Int32), .long 0, .ref (v 9), .ref (v 8), .ref (v 7), .ref (v 6), .ref (v 5), .ref (v 4), .ref (v 3), .ref (v 2), .int 0])) :: ((v 16), .inl (gC G 1, 6, .inr (.inl (fun _ => 0)))) :: ((v 17), .inl (gC G 1, 72, .inr (.inl (fun _ => 0)))) :: ((v 18), .inl (gC G 0, 60, .inl (fun _ => 0))) :: ((v 19), .inr (8, [.int 0, .int 0, .int 0, .int 0, .int 0, .int (-1 : Int32), .int 0, .ref (v 18), .ref (v 17), .ref (v 16)])) :: ((v 20), .inl (gC G 1, 16, .inr (.inl (fun _ => 0)))) :: ((v 21), .inl (gC G 0, 16, .inl (fun _ => 0))) :: ((v 22), .inr (1, [.ref (v 21), .ref (v 20)])) :: ((v 23), .inl (gC G 1, 17, .inr (.inl (fun _ => 0)))) :: ((v 24), .inl (gC G 1, 17, .inr (.inl (fun _ => 0)))) :: ((v 25), .inl (gC G 1, 17, .inr (.inl (fun _ => 0)))) :: ((v 26), .inr (3, [.ref (v 25), .long 0, .ref (v 24), .ref (v 23)])) :: ((v 27), .inl (gC G 2, 80, .inl (fun _ => 0))) :: ((v 28), .inr (2, [.ref (v 27), .int 0])) :: ((v 29), .inl (gC G 0, 24, .inl (fun _ => 0))) :: ((v 30), .inl (gC G 0, 4, .inl (upd (upd (upd (upd (fun _ => 0) (0 : Int32).toNatClampNeg (10 : Int32)) (1 : Int32).toNatClampNeg (0 : Int32)) (2 : Int32).toNatClampNeg (0 : Int32)) (3 : Int32).toNatClampNeg (0 : Int32)))) :: ((v 31), .inr (4, [.int (1000 : Int32), .int (12 : Int32), .int (50 : Int32), .int (100 : Int32), .int (1 : Int32), .ref (v 30), .ref (v 29)])) :: ((v 32), .inl (gC G 2, 300, .inl (fun _ => 0))) :: ((v 33), .inr (5, [.ref (v 32), .int 0, .int 0, .int 0, .int 0, .ref (v 31)])) :: ((v 34), .inl (gC G 5, 6, .inr (.inr (.inr (.inr (fun _ => none)))))) :: ((v 35), .inr (6, [.ref (v 34), .int 0, .int 0])) :: ((v 36), arrS G hs 16) :: ((v 37), .inl (gC G 0, 240, .inl (fun _ => 0))) :: ((v 38), .inl (gC G 0, 240, .inl (fun _ => 0))) :: ((v 39), .inr (7, [.ref (v 38), .ref (v 37)])) :: ((v 40), .inl (gC G 0, 24, .inl (fun _ => 0))) :: ((v 41), .inl (gC G 0, 4, .inl (upd (upd (upd (upd (fun _ => 0) (0 : Int32).toNatClampNeg (10 : Int32)) (1 : Int32).toNatClampNeg (0 : Int32)) (2 : Int32).toNatClampNeg (0 : Int32)) (3 : Int32).toNatClampNeg (0 : Int32)))) :: ((v 42), .inr (4, [.int (1000 : Int32), .int (12 : Int32), .int (50 : Int32), .int (100 : Int32), .int (1 : Int32), .ref (v 41), .ref (v 40)])) :: ((v 43), .inr (0, [.ref (v 42), .ref (v 39), .ref (v 36), .int 0, .int 0, .int 0, .long 0, .long 0])) :: ((v 44), .inr (9, [.ref (v 43), .ref (v 35), .ref (v 33), .ref (v 28), .ref (v 26), .ref (v 22), .ref (v 19), .int (-1 : Int32)])) :: (subsW G hs 16 ++ [])
def CS (G : gU) (hs : Nat → Nat × Nat × Nat × Nat) (f : Nat → Int32) (v : Nat → Nat) (c o : Nat) : Prop := ∃ x, (wsQ G hs f v)[ixS c o]? = some (rS v hs c o, x) ∧ ∀ (D : va_G) (cl : List vw_C) (H : Heap), va_at D cl (rS v hs c o, x) H → va_at D cl (rS v hs c o, ce (gC G) (rS v hs) (J A00 (Z00 (fS f))) c o) H
section
variable {G : gU} {hs : Nat → Nat × Nat × Nat × Nat} {f : Nat → Int32} {v : Nat → Nat}
theorem rS8 {o : Nat} (h : o < 16) : rS v hs 8 o = (hs o).1 := if_neg (by omega)
theorem rS24 {o : Nat} (h : o < 16) : rS v hs 24 o = (hs o).2.1 := if_neg (by omega)
theorem rS25 {o : Nat} (h : o < 16) : rS v hs 25 o = (hs o).2.2.1 := if_neg (by omega)
theorem rS26 {o : Nat} (h : o < 16) : rS v hs 26 o = (hs o).2.2.2 := if_neg (by omega)
theorem wsQ_at (k : Nat) : (wsQ G hs f v)[k + 45]? = (subsW G hs 16)[k]? := by
  rw [← List.append_nil (subsW G hs 16)]
  rfl
theorem cs_41_0 : CS G hs f v 41 0 := ⟨_, rfl, fun _ _ _ h => h⟩
theorem cs_27_0 : CS G hs f v 27 0 := ⟨_, rfl, fun _ _ _ h => h⟩
theorem cs_40_0 : CS G hs f v 40 0 := ⟨_, rfl, fun _ _ _ h => h⟩
theorem cs_39_0 : CS G hs f v 39 0 := ⟨_, rfl, fun _ _ _ h => h⟩
theorem cs_38_0 : CS G hs f v 38 0 := ⟨_, rfl, fun _ _ _ h => h⟩
theorem cs_37_0 : CS G hs f v 37 0 := ⟨_, rfl, fun _ _ _ h => h⟩
theorem cs_36_0 : CS G hs f v 36 0 := ⟨_, rfl, fun _ _ _ h => h⟩
theorem cs_35_0 : CS G hs f v 35 0 := ⟨_, rfl, fun _ _ _ h => h⟩
theorem cs_34_0 : CS G hs f v 34 0 := ⟨_, rfl, fun _ _ _ h => h⟩
theorem cs_33_0 : CS G hs f v 33 0 := ⟨_, rfl, fun _ _ _ h => h⟩
theorem cs_32_0 : CS G hs f v 32 0 := ⟨_, rfl, fun _ _ _ h => h⟩
theorem cs_31_0 : CS G hs f v 31 0 := ⟨_, rfl, fun _ _ _ h => h⟩
theorem cs_30_0 : CS G hs f v 30 0 := ⟨_, rfl, fun _ _ _ h => h⟩
theorem cs_29_0 : CS G hs f v 29 0 := ⟨_, rfl, fun _ _ _ h => h⟩
theorem cs_28_0 : CS G hs f v 28 0 := ⟨_, rfl, fun _ _ _ h => h⟩
theorem cs_10_0 : CS G hs f v 10 0 := ⟨_, rfl, fun _ _ _ h => h⟩
theorem cs_26_112 : CS G hs f v 26 112 := ⟨_, rfl, fun _ _ _ h => h⟩
theorem cs_25_112 : CS G hs f v 25 112 := ⟨_, rfl, fun _ _ _ h => h⟩
theorem cs_24_112 : CS G hs f v 24 112 := ⟨_, rfl, fun _ _ _ h => h⟩
theorem cs_8_112 : CS G hs f v 8 112 := ⟨_, rfl, fun _ _ _ h => h⟩
theorem cs_13_0 : CS G hs f v 13 0 := ⟨_, rfl, fun _ _ _ h => h⟩
theorem cs_12_0 : CS G hs f v 12 0 := ⟨_, rfl, fun _ _ _ h => h⟩
theorem cs_1_0 : CS G hs f v 1 0 := ⟨_, rfl, fun _ _ _ h => h⟩
theorem cs_17_0 : CS G hs f v 17 0 := ⟨_, rfl, fun _ _ _ h => h⟩
theorem cs_16_0 : CS G hs f v 16 0 := ⟨_, rfl, fun _ _ _ h => h⟩
theorem cs_15_0 : CS G hs f v 15 0 := ⟨_, rfl, fun _ _ _ h => h⟩
theorem cs_3_0 : CS G hs f v 3 0 := ⟨_, rfl, fun _ _ _ h => h⟩
theorem cs_14_0 : CS G hs f v 14 0 := ⟨_, rfl, fun _ _ _ h => h⟩
theorem cs_2_0 : CS G hs f v 2 0 := ⟨_, rfl, fun _ _ _ h => h⟩
theorem cs_19_7 : CS G hs f v 19 7 := ⟨_, rfl, fun _ _ _ h => h⟩
theorem cs_4_7 : CS G hs f v 4 7 := ⟨_, rfl, fun _ _ _ h => h⟩
theorem cs_20_0 : CS G hs f v 20 0 := ⟨_, rfl, fun _ _ _ h => h⟩
theorem cs_5_0 : CS G hs f v 5 0 := ⟨_, rfl, fun _ _ _ h => h⟩
theorem cs_6_0 : CS G hs f v 6 0 := ⟨_, rfl, fun _ _ _ h => h⟩
theorem cs_23_0 : CS G hs f v 23 0 := ⟨_, rfl, fun _ _ _ h => h⟩
theorem cs_22_0 : CS G hs f v 22 0 := ⟨_, rfl, fun _ _ _ h => h⟩
theorem cs_7_0 : CS G hs f v 7 0 := ⟨_, rfl, fun _ _ _ h => h⟩
theorem cs_19_0 : CS G hs f v 19 0 := ⟨_, rfl, fun _ _ _ h => h⟩
theorem cs_4_0 : CS G hs f v 4 0 := ⟨_, rfl, fun _ _ _ h => h⟩
theorem cs_0_0 : CS G hs f v 0 0 := ⟨_, rfl, fun _ _ _ h => h⟩
theorem cs_9_0 : CS G hs f v 9 0 := ⟨_, rfl, fun _ _ _ h => h⟩
theorem cs_18_0 : CS G hs f v 18 0 := ⟨_, rfl, fun _ _ _ h => by rw [upd10] at h; exact h⟩
theorem cs_18_7 : CS G hs f v 18 7 := ⟨_, rfl, fun _ _ _ h => by rw [upd10] at h; exact h⟩
theorem cs_11_0 : CS G hs f v 11 0 := ⟨_, rfl, fun _ _ _ h => va_at.arrq h (fun j hj => by rw [if_pos hj, show 16 * 0 + j = j by omega, rS8 hj])⟩
theorem cs_21_0 : CS G hs f v 21 0 := ⟨_, rfl, fun _ _ _ h => va_at.arrq h (fun j hj => (if_pos rfl).symm)⟩
theorem cs_8 {o : Nat} (h : o < 16) : CS G hs f v 8 o := by
  refine ⟨.inr (8, [.int 0, .int 0, .int 0, .int 0, .int 0, .int (-1 : Int32), .int 0, .ref (hs o).2.1, .ref (hs o).2.2.1, .ref (hs o).2.2.2]), ?_, fun D cl H q => ?_⟩
  · rw [show ixS 8 o = (4 * (16 - 1 - o) + 3) + 45 from if_neg (by omega), wsQ_at, subsW_get G hs 3 (by omega) 16 o h, rS8 h]; rfl
  · show va_at D cl (rS v hs 8 o, .inr (8, [.int 0, .int 0, .int 0, .int 0, .int 0, .int (-1 : Int32), .int 0, .ref (rS v hs 24 o), .ref (rS v hs 25 o), .ref (rS v hs 26 o)])) H
    rw [rS24 h, rS25 h, rS26 h]; exact q
theorem cs_24 {o : Nat} (h : o < 16) : CS G hs f v 24 o := by
  refine ⟨.inl (gC G 0, 60, .inl (fun _ => 0)), ?_, fun D cl H q => q⟩
  rw [show ixS 24 o = (4 * (16 - 1 - o) + 2) + 45 from if_neg (by omega), wsQ_at, subsW_get G hs 2 (by omega) 16 o h, rS24 h]; rfl
theorem cs_25 {o : Nat} (h : o < 16) : CS G hs f v 25 o := by
  refine ⟨.inl (gC G 1, 72, .inr (.inl (fun _ => 0))), ?_, fun D cl H q => q⟩
  rw [show ixS 25 o = (4 * (16 - 1 - o) + 1) + 45 from if_neg (by omega), wsQ_at, subsW_get G hs 1 (by omega) 16 o h, rS25 h]; rfl
theorem cs_26 {o : Nat} (h : o < 16) : CS G hs f v 26 o := by
  refine ⟨.inl (gC G 1, 6, .inr (.inl (fun _ => 0))), ?_, fun D cl H q => q⟩
  rw [show ixS 26 o = (4 * (16 - 1 - o) + 0) + 45 from if_neg (by omega), wsQ_at]
  refine (subsW_get G hs 0 (by omega) 16 o h).trans ?_
  rw [rS26 h]; rfl
theorem cs_all (c o : Nat) (h : vS c o = true) : CS G hs f v c o := by
  have hb := vS_bd h
  match c, h, hb with
  | 0, h, _ =>
    have e0 : o = 0 := by simpa [vS] using h
    subst e0; exact cs_0_0
  | 1, h, _ =>
    have e0 : o = 0 := by simpa [vS] using h
    subst e0; exact cs_1_0
  | 2, h, _ =>
    have e0 : o = 0 := by simpa [vS] using h
    subst e0; exact cs_2_0
  | 3, h, _ =>
    have e0 : o = 0 := by simpa [vS] using h
    subst e0; exact cs_3_0
  | 4, h, _ =>
    by_cases e : o = 7
    · subst e; exact cs_4_7
    · have e0 : o = 0 := by simp [vS] at h; omega
      subst e0; exact cs_4_0
  | 5, h, _ =>
    have e0 : o = 0 := by simpa [vS] using h
    subst e0; exact cs_5_0
  | 6, h, _ =>
    have e0 : o = 0 := by simpa [vS] using h
    subst e0; exact cs_6_0
  | 7, h, _ =>
    have e0 : o = 0 := by simpa [vS] using h
    subst e0; exact cs_7_0
  | 8, h, _ =>
    by_cases e : o = 112
    · subst e; exact cs_8_112
    · exact cs_8 (by simp [vS] at h; omega)
  | 9, h, _ =>
    have e0 : o = 0 := by simpa [vS] using h
    subst e0; exact cs_9_0
  | 10, h, _ =>
    have e0 : o = 0 := by simpa [vS] using h
    subst e0; exact cs_10_0
  | 11, h, _ =>
    have e0 : o = 0 := by simpa [vS] using h
    subst e0; exact cs_11_0
  | 12, h, _ =>
    have e0 : o = 0 := by simpa [vS] using h
    subst e0; exact cs_12_0
  | 13, h, _ =>
    have e0 : o = 0 := by simpa [vS] using h
    subst e0; exact cs_13_0
  | 14, h, _ =>
    have e0 : o = 0 := by simpa [vS] using h
    subst e0; exact cs_14_0
  | 15, h, _ =>
    have e0 : o = 0 := by simpa [vS] using h
    subst e0; exact cs_15_0
  | 16, h, _ =>
    have e0 : o = 0 := by simpa [vS] using h
    subst e0; exact cs_16_0
  | 17, h, _ =>
    have e0 : o = 0 := by simpa [vS] using h
    subst e0; exact cs_17_0
  | 18, h, _ =>
    by_cases e : o = 7
    · subst e; exact cs_18_7
    · have e0 : o = 0 := by simp [vS] at h; omega
      subst e0; exact cs_18_0
  | 19, h, _ =>
    by_cases e : o = 7
    · subst e; exact cs_19_7
    · have e0 : o = 0 := by simp [vS] at h; omega
      subst e0; exact cs_19_0
  | 20, h, _ =>
    have e0 : o = 0 := by simpa [vS] using h
    subst e0; exact cs_20_0
  | 21, h, _ =>
    have e0 : o = 0 := by simpa [vS] using h
    subst e0; exact cs_21_0
  | 22, h, _ =>
    have e0 : o = 0 := by simpa [vS] using h
    subst e0; exact cs_22_0
  | 23, h, _ =>
    have e0 : o = 0 := by simpa [vS] using h
    subst e0; exact cs_23_0
  | 24, h, _ =>
    by_cases e : o = 112
    · subst e; exact cs_24_112
    · exact cs_24 (by simp [vS] at h; omega)
  | 25, h, _ =>
    by_cases e : o = 112
    · subst e; exact cs_25_112
    · exact cs_25 (by simp [vS] at h; omega)
  | 26, h, _ =>
    by_cases e : o = 112
    · subst e; exact cs_26_112
    · exact cs_26 (by simp [vS] at h; omega)
  | 27, h, _ =>
    have e0 : o = 0 := by simpa [vS] using h
    subst e0; exact cs_27_0
  | 28, h, _ =>
    have e0 : o = 0 := by simpa [vS] using h
    subst e0; exact cs_28_0
  | 29, h, _ =>
    have e0 : o = 0 := by simpa [vS] using h
    subst e0; exact cs_29_0
  | 30, h, _ =>
    have e0 : o = 0 := by simpa [vS] using h
    subst e0; exact cs_30_0
  | 31, h, _ =>
    have e0 : o = 0 := by simpa [vS] using h
    subst e0; exact cs_31_0
  | 32, h, _ =>
    have e0 : o = 0 := by simpa [vS] using h
    subst e0; exact cs_32_0
  | 33, h, _ =>
    have e0 : o = 0 := by simpa [vS] using h
    subst e0; exact cs_33_0
  | 34, h, _ =>
    have e0 : o = 0 := by simpa [vS] using h
    subst e0; exact cs_34_0
  | 35, h, _ =>
    have e0 : o = 0 := by simpa [vS] using h
    subst e0; exact cs_35_0
  | 36, h, _ =>
    have e0 : o = 0 := by simpa [vS] using h
    subst e0; exact cs_36_0
  | 37, h, _ =>
    have e0 : o = 0 := by simpa [vS] using h
    subst e0; exact cs_37_0
  | 38, h, _ =>
    have e0 : o = 0 := by simpa [vS] using h
    subst e0; exact cs_38_0
  | 39, h, _ =>
    have e0 : o = 0 := by simpa [vS] using h
    subst e0; exact cs_39_0
  | 40, h, _ =>
    have e0 : o = 0 := by simpa [vS] using h
    subst e0; exact cs_40_0
  | 41, h, _ =>
    have e0 : o = 0 := by simpa [vS] using h
    subst e0; exact cs_41_0
  | c + 42, _, hb => exact absurd hb.1 (by omega)
end
theorem vcS : VC (fun c o => vS c o = true) := by
  have h0 : ∀ o, vS 0 o = true → o = 0 := fun o h => by simpa [vS] using h
  have h4 : ∀ o, vS 4 o = true → o = 0 ∨ o = 7 := fun o h => by simpa [vS] using h
  have h7 : ∀ o, vS 7 o = true → o = 0 := fun o h => by simpa [vS] using h
  refine ⟨fun o h => ?_, fun o h => ?_, fun o h => ?_, fun o h => ?_, fun c hc => ?_, rfl, rfl, rfl⟩
  · rw [h0 o h]; exact ⟨rfl, rfl, rfl, fun i hi => by simp [vS]; omega⟩
  · rcases h4 o h with e | e <;> rw [e] <;> exact ⟨rfl, rfl⟩
  · rw [h7 o h]; exact ⟨rfl, rfl⟩
  · have h' : o < 16 ∨ o = 112 := by simpa [vS] using h
    refine ⟨?_, ?_, ?_⟩ <;> simpa [vS] using h'
  · have hq : c < 42 ∧ ¬ c = 8 ∧ ¬ c = 24 ∧ ¬ c = 25 ∧ ¬ c = 26 ∧ ¬ c = 4 ∧ ¬ c = 18 ∧ ¬ c = 19 := by omega
    obtain ⟨q1, q2, q3, q4, q5, q6, q7, q8⟩ := hq
    simp [vS, q1, q2, q3, q4, q5, q6, q7, q8]
theorem vdS : VD (fun c o => vS c o = true) := by
  refine ⟨fun o h => ?_, fun o h => ?_, fun o h => ?_, fun o h => ?_, fun o h => ?_, fun o h => ?_, fun o h => ?_, fun o h => ?_, fun o h => ?_, fun o h => ?_, fun o h => ?_, fun o h => ?_, fun o h => ?_⟩
  · have e : o = 0 := by simpa [vS] using h
    omega
  · have e : o = 0 ∨ o = 7 := by simpa [vS] using h
    rcases e with e | e
    · exact Or.inl (by rw [e]; rfl)
    · exact Or.inr e
  · have e : o = 0 := by simpa [vS] using h
    rw [e]; rfl
  · have e : o = 0 := by simpa [vS] using h
    rw [e]; rfl
  · have e : o < 16 ∨ o = 112 := by simpa [vS] using h
    rcases e with e | e
    · exact Or.inl (by rw [show o / 16 = 0 by omega]; rfl)
    · exact Or.inr e
  · have e : o = 0 ∨ o = 7 := by simpa [vS] using h
    simpa [vS] using e
  · have e : o = 0 ∨ o = 7 := by simpa [vS] using h
    simpa [vS] using e
  · have e : o = 0 := by simpa [vS] using h
    rw [e]; rfl
  · have e : o = 0 := by simpa [vS] using h
    rw [e]; rfl
  · have e : o < 16 ∨ o = 112 := by simpa [vS] using h
    simpa [vS] using e
  · have e : o < 16 ∨ o = 112 := by simpa [vS] using h
    simpa [vS] using e
  · have e : o < 16 ∨ o = 112 := by simpa [vS] using h
    simpa [vS] using e
  · simpa [vS] using h
theorem rpS {G : gU} {Hf H : Heap} {hs : Nat → Nat × Nat × Nat × Nat} {f : Nat → Int32} {v : Nat → Nat} (hHf : HB G Hf) (hCP : CP G Hf (wsQ G hs f v) H) : RP G (rS v hs) (fun c o => vS c o = true) (J A00 (Z00 (fS f))) H := by
  refine ⟨fun c o hV => ?_, fun c o c' o' h h' e => ?_, ⟨Nat.le_trans hHf.1 hCP.2.2.1, fun q hq => ?_⟩, vcS, fun j hj => ⟨fun h => absurd rfl h, fun h => by simp [vS] at h⟩, vdS⟩
  · obtain ⟨x, e1, e2⟩ := cs_all (G := G) (hs := hs) (f := f) (v := v) c o hV
    exact ⟨e2 _ _ _ (hCP.1 _ _ e1), Nat.le_trans hHf.1 (hCP.2.1.2 _ _ e1)⟩
  · obtain ⟨x, e1, -⟩ := cs_all (G := G) (hs := hs) (f := f) (v := v) c o h
    obtain ⟨x', e1', -⟩ := cs_all (G := G) (hs := hs) (f := f) (v := v) c' o' h'
    have ei := hCP.2.1.1 _ _ _ _ e1 e1' e
    have b1 := vS_bd h
    have b2 := vS_bd h'
    have k1 := ivS_ok c b1.1 o b1.2 h
    have k2 := ivS_ok c' b2.1 o' b2.2 h'
    rw [ei, k2] at k1
    exact ⟨(Prod.mk.inj k1).1.symm, (Prod.mk.inj k1).2.symm⟩
  · rw [hCP.2.2.2 q (Nat.lt_of_lt_of_le hq hHf.1)]; exact hHf.2 q hq
/-! The law's first instructions. -/
theorem wc_astore_n {E : eU} {G : gU} {Hf : Heap} {k1 k2 : Nat} {ws : va_W} {pc nL d mc ms : Nat} {lv : List (Nat × Value)} {st : List Value} {cc : ByteArray} {own : String} {ret : Option FieldType} (q i : Nat) (hC : CX E G cc nL own ret d mc ms) {lv' : List (Nat × Value)} {j : Fin 4} {x : Nat} (hdg : decode cc pc = .ok (.astore_n j, 1)) (hi : (j : Nat) = i) (hn : i < nL) (hl9 : (i, Value.ref x) :: lv.filter (fun q => !(q.1 == i) && !(q.1 + 1 == i && q.2.category == 2)) = lv') (hq : pc + 1 = q) (kk : WC E G Hf k1 k2 ws q lv' st) : WC E G Hf k1 k2 ws pc lv (.ref x :: st) := by
  subst hq
  intro H locs ls hP hO hl
  exact lv_astore_n hC.1 hC.2.1 hdg hi hl (by rw [hC.2.2.1]; exact hn) hl9 (fun ls' hl' => kk H locs ls' hP hO hl')
theorem nwL_8 : NWc RL 8 9 8 [.null, .null, .null, .null, .null, .null, .null, .int 0] := ⟨RX9, TX9, tyX9, rfl, inX9, tyX9_ok, (inW 153 (by decide +kernel) (by decide +kernel)), (inW 154 (by decide +kernel) (by decide +kernel)), (inW 128 (by decide +kernel) (by decide +kernel)), fun j hj => by match j, hj with | 0, _ => rfl | 1, _ => rfl | 2, _ => rfl | 3, _ => rfl | 4, _ => rfl | 5, _ => rfl | 6, _ => rfl | 7, _ => rfl | j + 8, hj => exact absurd hj (by omega)⟩
theorem liL_138 : (Cond.methodLink RL 138 yX9_init ∈ ALLW ∨ ∃ host, Cond.methodLinkNest RL 138 yX9_init host ∈ NW) ∧ Cond.instanceMethod yX9_init ∈ ALLW := ⟨Or.inl (inW 155 (by decide +kernel) (by decide +kernel)), (inW 156 (by decide +kernel) (by decide +kernel))⟩
theorem knX9_init : KN yX9_init cX9_init 1 none 0 := ⟨(inW 157 (by decide +kernel) (by decide +kernel)), (inW 128 (by decide +kernel) (by decide +kernel)), (by decide +kernel), (by decide +kernel), (by decide +kernel)⟩
theorem nwL_139 : NWc RL 139 10 26 [.null, .null, .null, .null, .null, .int 0, .int 0, .null, .int 0, .int 0, .int 0, .int 0, .int 0, .int 0, .int 0, .int 0, .long 0, .null, .null, .null, .null, .null, .null, .null, .null, .int 0] := ⟨RX10, TX10, tyX10, rfl, inX10, tyX10_ok, (inW 1356 (by decide +kernel) (by decide +kernel)), (inW 1357 (by decide +kernel) (by decide +kernel)), (inW 138 (by decide +kernel) (by decide +kernel)), fun j hj => by match j, hj with | 0, _ => rfl | 1, _ => rfl | 2, _ => rfl | 3, _ => rfl | 4, _ => rfl | 5, _ => rfl | 6, _ => rfl | 7, _ => rfl | 8, _ => rfl | 9, _ => rfl | 10, _ => rfl | 11, _ => rfl | 12, _ => rfl | 13, _ => rfl | 14, _ => rfl | 15, _ => rfl | 16, _ => rfl | 17, _ => rfl | 18, _ => rfl | 19, _ => rfl | 20, _ => rfl | 21, _ => rfl | 22, _ => rfl | 23, _ => rfl | 24, _ => rfl | 25, _ => rfl | j + 26, hj => exact absurd hj (by omega)⟩
theorem liL_141 : (Cond.methodLink RL 141 yX10_init ∈ ALLW ∨ ∃ host, Cond.methodLinkNest RL 141 yX10_init host ∈ NW) ∧ Cond.instanceMethod yX10_init ∈ ALLW := ⟨Or.inl (inW 1358 (by decide +kernel) (by decide +kernel)), (inW 1359 (by decide +kernel) (by decide +kernel))⟩
theorem knX10_init : KN yX10_init cX10_init 1 none 0 := ⟨(inW 1360 (by decide +kernel) (by decide +kernel)), (inW 138 (by decide +kernel) (by decide +kernel)), (by decide +kernel), (by decide +kernel), (by decide +kernel)⟩
theorem law_start {E : eU} {G : gU} {b : Nat} (hC : CX E G cL_law 8 RL (some .boolean) 1312 601024 7293034) (kk : ∀ (v : Nat → Nat) (hs : Nat → Nat × Nat × Nat × Nat) (f : Nat → Int32), (∀ j, j < 1588 → f j = row0 j) → WC E G (eS E).heap 109 24307 (wsQ G hs f v) 23 [(4, .int 0), (3, .ref (v 0)), (2, .ref (v 15)), (1, .ref (v 44)), (0, .ref b)] []) : WC E G (eS E).heap 0 0 [] 0 [(0, .ref b)] [] := by
  have hHf : HB G (eS E).heap := hC.2.2.2.2.2.2.2.2.2
  refine wc_new 3 hC dL_law_0 nwL_8 (by decide) rfl (fun h9 => ?_)
  refine wc_dup 4 hC dL_law_3 rfl rfl ?_
  refine wc_call 7 hC dL_law_4 knX9_init rfl liL_138 (mcX9 E.2.1 hHf h9 []) (by decide) (by decide) (Nat.le_of_ble_eq_true rfl) (by decide) rfl (fun ws' hw => ?_)
  obtain ⟨hs, pa26, pa27, pa28, pa25, pa23, pa24, pa22, pa19, pa20, pa21, pa18, pa17, pa16, pa12, pa13, pa14, pa15, pa11, pa10, pa9, pa2, pa3, pa4, pa5, pa6, pa7, pa8, pa1, rfl⟩ := hw
  refine wc_astore_n (lv' := [(1, .ref h9), (0, .ref b)]) 8 1 hC dL_law_7 rfl (by decide) rfl rfl ?_
  refine wc_new 11 hC dL_law_8 nwL_139 (by decide) rfl (fun h10 => ?_)
  refine wc_dup 12 hC dL_law_11 rfl rfl ?_
  refine wc_call 15 hC dL_law_12 knX10_init rfl liL_141 (mcX10 E.2.1 hHf h10 _) (by decide) (by decide) (Nat.le_of_ble_eq_true rfl) (by decide) rfl (fun ws' hw => ?_)
  obtain ⟨f, qa1, qa14, qa13, qa12, qa11, qa10, qa9, qa8, qa7, qa6, qa5, qa4, qa3, qa2, hf, rfl⟩ := hw
  refine wc_astore_n (lv' := [(2, .ref h10), (1, .ref h9), (0, .ref b)]) 16 2 hC dL_law_15 rfl (by decide) rfl rfl ?_
  refine wc_iconst 17 hC dL_law_16 (show Int32.ofInt 1 = (1 : Int32) from by decide) rfl ?_
  refine wc_newA (t := 1) (n := 1) (ty := .long) (a0 := (1, .inr (.inl (fun _ => 0)))) 19 hC dL_law_17 (inW 288 (by decide +kernel) (by decide +kernel)) rfl rfl ra_J (fun _ => rfl) (by decide) (by decide) (by decide) (by decide) rfl (fun a41 => ?_)
  refine wc_astore_n (lv' := [(3, .ref a41), (2, .ref h10), (1, .ref h9), (0, .ref b)]) 20 3 hC dL_law_19 rfl (by decide) rfl rfl ?_
  refine wc_iconst 21 hC dL_law_20 (show Int32.ofInt 0 = (0 : Int32) from by decide) rfl ?_
  refine wc_istore (lv' := [(4, .int 0), (3, .ref a41), (2, .ref h10), (1, .ref h9), (0, .ref b)]) 23 4 hC dL_law_21 (by decide) rfl rfl ?_
  exact kk (fun i => ([a41, qa1, qa14, qa13, qa12, qa11, qa10, qa9, qa8, qa7, qa6, qa5, qa4, qa3, qa2, h10, pa26, pa27, pa28, pa25, pa23, pa24, pa22, pa19, pa20, pa21, pa18, pa17, pa16, pa12, pa13, pa14, pa15, pa11, pa10, pa9, pa2, pa3, pa4, pa5, pa6, pa7, pa8, pa1, h9] : List Nat).getD i 0) hs f hf
/-! The tables' facts at the start. -/
abbrev FLT : List Cond := flatC (Jvm.Cond.and given_1 narrow_1)
abbrev tmS (i : Nat) : Term := .string (sOwn i) (sIdx i)
abbrev vlS (i : Nat) : Term := .field (tmS i) "java/lang/String" "value" "[B"
def wS (i : Nat) : List Cond := .exactly (tmS i) "java/lang/String" :: .eq (.field (tmS i) "java/lang/String" "coder" "B") (.int 0) :: .arrayOf (vlS i) .byte :: .eq (.length (vlS i)) (.int (Int32.ofNat (sLen.getD i 0))) :: (List.range (sLen.getD i 0)).map (fun j => .eq (.elem (vlS i) (.int (Int32.ofNat j))) (.int ((sByt.getD i []).getD j 0)))
theorem wS_eq : (List.range 52).flatMap wS = FLT.drop 99 := by decide +kernel
theorem wS_in {i : Nat} (hi : i < 52) {w : Cond} (hw : w ∈ wS i) : w ∈ FLT := by
  have h : w ∈ (List.range 52).flatMap wS := List.mem_flatMap.mpr ⟨i, List.mem_range.mpr hi, hw⟩
  rw [wS_eq] at h
  exact List.mem_of_mem_drop h
def srI : List Nat := [637, 684, 707, 790, 799, 831, 853, 867, 868, 869, 870, 907, 912, 918, 919, 924, 936, 949, 957, 962, 971, 1026, 1027, 1040, 1042, 1050, 1052, 1060, 1061, 1120, 1125, 1169, 1190, 1225, 1226, 1248, 1265, 1273, 1281, 1283, 1309, 1316, 1318, 1319, 1326, 1332, 1333, 1334, 1342, 1350, 1478, 1811]
theorem sr_at : ∀ i, i < 52 → lw_tbl[srI.getD i 0]? = some (Cond.stringRef (sOwn i) (sIdx i) (sTxt i)) := by decide +kernel
theorem sl_sm : ∀ i, i < 52 → sLen.getD i 0 < 2 ^ 31 := by decide +kernel
theorem str_start {s : State} {args : Array Value} {A : Nat → Prop} (hts : ∀ w ∈ lw_tbl, w.before args s = true) (hfl : ∀ w ∈ FLT, w.before args s = true) (hA : ∀ a : Nat, a < s.heap.size → ¬ A a) : ∃ ad : Nat → Nat × Nat, ∀ i, i < 52 → vk_R (sOwn i) (sIdx i) (sTxt i) (ad i).1 s ∧ va_O "java/lang/String" (ad i).1 A s s.heap ∧ va_OF "java/lang/String" "coder" "B" (.int 0) (ad i).1 A s s.heap ∧ va_OF "java/lang/String" "value" "[B" (.ref (ad i).2) (ad i).1 A s s.heap ∧ va_T .byte (ad i).2 (sLen.getD i 0) (fun j => .int ((sByt.getD i []).getD j 0)) A s s.heap := by
  have h0 : ∀ i : Nat, ∃ q : Nat × Nat, i < 52 → vk_R (sOwn i) (sIdx i) (sTxt i) q.1 s ∧ va_O "java/lang/String" q.1 A s s.heap ∧ va_OF "java/lang/String" "coder" "B" (.int 0) q.1 A s s.heap ∧ va_OF "java/lang/String" "value" "[B" (.ref q.2) q.1 A s s.heap ∧ va_T .byte q.2 (sLen.getD i 0) (fun j => .int ((sByt.getD i []).getD j 0)) A s s.heap := by
    intro i
    by_cases hi : i < 52
    · have hex : (Cond.exactly (tmS i) "java/lang/String").before args s = true := hfl _ (wS_in hi (by simp [wS]))
      have hco : (Cond.eq (.field (tmS i) "java/lang/String" "coder" "B") (.int 0)).before args s = true := hfl _ (wS_in hi (by simp [wS]))
      have har : (Cond.arrayOf (vlS i) .byte).before args s = true := hfl _ (wS_in hi (by simp [wS]))
      have hle : (Cond.eq (.length (vlS i)) (.int (Int32.ofNat (sLen.getD i 0)))).before args s = true := hfl _ (wS_in hi (by simp [wS]))
      have hel : ∀ j : Nat, j < sLen.getD i 0 → (Cond.eq (.elem (vlS i) (.int (Int32.ofNat j))) (.int ((sByt.getD i []).getD j 0))).before args s = true := fun j hj => hfl _ (wS_in hi (List.mem_cons_of_mem _ (List.mem_cons_of_mem _ (List.mem_cons_of_mem _ (List.mem_cons_of_mem _ (List.mem_map.mpr ⟨j, List.mem_range.mpr hj, rfl⟩))))))
      obtain ⟨a, c, cA, kA, q1, q2, q3, q4, q5, q6, -⟩ := Cond.exactly_spec (args := args) (first := s) (o := none) (s := s) (idx := []) (t := tmS i) (cls := "java/lang/String") hex
      obtain ⟨t, ht, hT⟩ := va_Tof (f := fun j => .int ((sByt.getD i []).getD j 0)) (A := A) (sl_sm i hi) har (va_eqt hle) (fun j hj => va_eqt (hel j hj)) hA
      exact ⟨(a, t), fun _ => ⟨vk_R.of (hts _ (List.mem_of_getElem? (sr_at i hi))) q1, ⟨cA, q3, q5, by rw [q6]; exact q2, hA a (Array.getElem?_eq_some_iff.mp q3).1⟩, vk_OFof q1 (va_eqt hco) hA, vk_OFof q1 ht hA, hT⟩⟩
    · exact ⟨(0, 0), fun h => absurd h hi⟩
  exact Classical.axiomOfChoice h0
theorem nc_in : ∀ q ∈ NCL, Cond.not (.castable q.1 q.2) ∈ FLT := by decide +kernel
theorem arr_start {s : State} {args : Array Value} {ty : FieldType} (h : (Cond.arrayClass ty).before args s = true) (hr : ∀ c : ClassId, s.vm.findClass ("[" ++ ty.toString) = some c → va_RA s c ty) : ∃ c : ClassId, ArrOfT s c ty ∧ va_RA s c ty := by
  obtain ⟨c, k, comp, h1, h2, h3⟩ := Cond.arrayClass_spec (args := args) (first := s) (o := none) (s := s) (idx := []) h
  exact ⟨c, fun n z => ⟨fun k h => (by cases h), k, h2, comp, h3⟩, hr c h1⟩
theorem arro_start {s : State} {args : Array Value} {C : String} (h : (Cond.arrayOver (.object C)).before args s = true) : ∃ c : ClassId, ArrOfT s c (.object C) ∧ va_RA s c (.object C) := by
  obtain ⟨comp, c, k, f4, -, f2, f3, f1⟩ := Cond.arrayOver_spec (args := args) (first := s) (o := none) (s := s) (idx := []) h
  exact ⟨c, fun n z => ⟨fun k h => (by cases h), k, f2, comp, f3⟩, k, comp, f2, f3, f4, f1⟩
theorem kk_start {s : State} {args : Array Value} (hts : ∀ w ∈ lw_tbl, w.before args s = true) (hgv : (Jvm.Cond.and given_1 narrow_1).before args s = true) : ∃ G : gU, KK G s ∧ gB G = s.heap.size ∧ gH G = s.heap := by
  have hfl := flat_of_before _ hgv
  have hAW : ∀ w ∈ ALLW, w.before args s = true := fun w hw => hts w (List.mem_filter.mp hw).1
  have hA : ∀ a : Nat, a < s.heap.size → ¬ (fun q : Nat => s.heap.size ≤ q) a := fun a h q => Nat.not_lt.mpr q h
  obtain ⟨c0, i0, k0⟩ := u_known (C := RX0) (T := TX0) (N := 8) (n := 8) hAW inX0 (hts (.instantiable RX0 8) (List.mem_of_getElem? (i := 162) (by decide +kernel)))
  obtain ⟨c1, i1, k1⟩ := u_known (C := RX1) (T := TX1) (N := 2) (n := 2) hAW inX1 (hts (.instantiable RX1 2) (List.mem_of_getElem? (i := 414) (by decide +kernel)))
  obtain ⟨c2, i2, k2⟩ := u_known (C := RX2) (T := TX2) (N := 2) (n := 2) hAW inX2 (hts (.instantiable RX2 2) (List.mem_of_getElem? (i := 379) (by decide +kernel)))
  obtain ⟨c3, i3, k3⟩ := u_known (C := RX3) (T := TX3) (N := 4) (n := 4) hAW inX3 (hts (.instantiable RX3 4) (List.mem_of_getElem? (i := 394) (by decide +kernel)))
  obtain ⟨c4, i4, k4⟩ := u_known (C := RX4) (T := TX4) (N := 7) (n := 7) hAW inX4 (hts (.instantiable RX4 7) (List.mem_of_getElem? (i := 168) (by decide +kernel)))
  obtain ⟨c5, i5, k5⟩ := u_known (C := RX5) (T := TX5) (N := 6) (n := 6) hAW inX5 (hts (.instantiable RX5 6) (List.mem_of_getElem? (i := 348) (by decide +kernel)))
  obtain ⟨c6, i6, k6⟩ := u_known (C := RX6) (T := TX6) (N := 3) (n := 3) hAW inX6 (hts (.instantiable RX6 3) (List.mem_of_getElem? (i := 329) (by decide +kernel)))
  obtain ⟨c7, i7, k7⟩ := u_known (C := RX7) (T := TX7) (N := 2) (n := 2) hAW inX7 (hts (.instantiable RX7 2) (List.mem_of_getElem? (i := 214) (by decide +kernel)))
  obtain ⟨c8, i8, k8⟩ := u_known (C := RX8) (T := TX8) (N := 10) (n := 10) hAW inX8 (hts (.instantiable RX8 10) (List.mem_of_getElem? (i := 230) (by decide +kernel)))
  obtain ⟨c9, i9, k9⟩ := u_known (C := RX9) (T := TX9) (N := 8) (n := 8) hAW inX9 (hts (.instantiable RX9 8) (List.mem_of_getElem? (i := 154) (by decide +kernel)))
  obtain ⟨c10, i10, k10⟩ := u_known (C := RX10) (T := TX10) (N := 26) (n := 26) hAW inX10 (hts (.instantiable RX10 26) (List.mem_of_getElem? (i := 1357) (by decide +kernel)))
  obtain ⟨y0, r0⟩ := arr_start (ty := .int) (hts (.arrayClass .int) (List.mem_of_getElem? (i := 212) (by decide +kernel))) (fun c h => h)
  obtain ⟨y1, r1⟩ := arr_start (ty := .long) (hts (.arrayClass .long) (List.mem_of_getElem? (i := 288) (by decide +kernel))) (fun c h => h)
  obtain ⟨y2, r2⟩ := arr_start (ty := .byte) (hts (.arrayClass .byte) (List.mem_of_getElem? (i := 377) (by decide +kernel))) (fun c h => h)
  obtain ⟨y3, r3⟩ := arr_start (ty := .boolean) (hts (.arrayClass .boolean) (List.mem_of_getElem? (i := 1444) (by decide +kernel))) (fun c h => h)
  obtain ⟨y4, r4⟩ := arro_start (C := "SolarLedger$Subscriber") (hts (.arrayOver (.object "SolarLedger$Subscriber")) (List.mem_of_getElem? (i := 229) (by decide +kernel)))
  obtain ⟨y5, r5⟩ := arro_start (C := "SolarLedger$Books") (hts (.arrayOver (.object "SolarLedger$Books")) (List.mem_of_getElem? (i := 335) (by decide +kernel)))
  obtain ⟨ad, had⟩ := str_start (A := fun q => s.heap.size ≤ q) hts hfl hA
  refine ⟨((fun k => ([c0, c1, c2, c3, c4, c5, c6, c7, c8, c9, c10] : List ClassId).getD k c0, fun k => ([i0, i1, i2, i3, i4, i5, i6, i7, i8, i9, i10] : List (Nat → Nat)).getD k i0), fun k => ([y0, y1, y2, y3, y4, y5] : List ClassId).getD k y0, fun k => if k % 2 = 0 then (ad (k / 2)).1 else (ad (k / 2)).2, s.heap.size, s.heap), ⟨⟨fun k q hq => ?_, fun k q hq => ?_⟩, fun w hw => ?_, fun i hi => ?_, fun i hi => ?_, ?_, ?_, ?_, ?_, fun q hq => ?_, ?_, ?_⟩, rfl, rfl⟩
  · match k, hq with
    | 0, hq => cases hq; exact k0
    | 1, hq => cases hq; exact k1
    | 2, hq => cases hq; exact k2
    | 3, hq => cases hq; exact k3
    | 4, hq => cases hq; exact k4
    | 5, hq => cases hq; exact k5
    | 6, hq => cases hq; exact k6
    | 7, hq => cases hq; exact k7
    | 8, hq => cases hq; exact k8
    | 9, hq => cases hq; exact k9
    | 10, hq => cases hq; exact k10
    | k + 11, hq => simp at hq
  · match k, hq with
    | 0, hq => cases hq; exact r0
    | 1, hq => cases hq; exact r1
    | 2, hq => cases hq; exact r2
    | 3, hq => cases hq; exact r3
    | 4, hq => cases hq; exact r4
    | 5, hq => cases hq; exact r5
    | k + 6, hq => simp at hq
  · obtain ⟨h1, h2⟩ := List.mem_filter.mp hw
    exact va_Nw.of (nest_tab h2) (hts w (List.mem_append_right _ h1))
  · have e := (had i hi).1
    show vk_R (sOwn i) (sIdx i) (sTxt i) (if (2 * i) % 2 = 0 then (ad ((2 * i) / 2)).1 else (ad ((2 * i) / 2)).2) s
    rw [if_pos (by omega), show 2 * i / 2 = i by omega]; exact e
  · obtain ⟨-, e1, e2, e3, e4⟩ := had i hi
    have g1 : (if (2 * i) % 2 = 0 then (ad ((2 * i) / 2)).1 else (ad ((2 * i) / 2)).2) = (ad i).1 := by rw [if_pos (by omega), show 2 * i / 2 = i by omega]
    have g2 : (if (2 * i + 1) % 2 = 0 then (ad ((2 * i + 1) / 2)).1 else (ad ((2 * i + 1) / 2)).2) = (ad i).2 := by rw [if_neg (by omega), show (2 * i + 1) / 2 = i by omega]
    simp only [gS]
    rw [g1, g2]
    exact ⟨e1, e2, e3, e4⟩
  · exact vx_Zqof (hts (.laysStatic Bundle.tN "UNASSIGNED_STACK" Bundle.steD) (List.mem_of_getElem? (i := 622) (by decide +kernel))) (hts (.initialized Bundle.tN) (List.mem_of_getElem? (i := 139) (by decide +kernel))) (hfl (.isRef (.static Bundle.tN "UNASSIGNED_STACK" Bundle.steD)) (List.mem_of_getElem? (i := 4) (by decide +kernel))) hA
  · exact vx_Zqof (hts (.laysStatic Bundle.tN "SUPPRESSED_SENTINEL" Bundle.listD) (List.mem_of_getElem? (i := 624) (by decide +kernel))) (hts (.initialized Bundle.tN) (List.mem_of_getElem? (i := 139) (by decide +kernel))) (hfl (.isRef (.static Bundle.tN "SUPPRESSED_SENTINEL" Bundle.listD)) (List.mem_of_getElem? (i := 5) (by decide +kernel))) hA
  · exact va_Zof (hts (.laysStatic "java/lang/String" "COMPACT_STRINGS" "Z") (List.mem_of_getElem? (i := 729) (by decide +kernel))) (hts (.initialized "java/lang/String") (List.mem_of_getElem? (i := 146) (by decide +kernel))) (va_eqt (hfl (.eq (.static "java/lang/String" "COMPACT_STRINGS" "Z") (.int 1)) (List.mem_of_getElem? (i := 6) (by decide +kernel)))) hA
  · exact va_Zqof (hts (.laysStatic "jdk/internal/util/Preconditions" "SIOOBE_FORMATTER" "Ljava/util/function/BiFunction;") (List.mem_of_getElem? (i := 745) (by decide +kernel))) (hts (.initialized "jdk/internal/util/Preconditions") (List.mem_of_getElem? (i := 148) (by decide +kernel))) (hfl (.isRef (.static "jdk/internal/util/Preconditions" "SIOOBE_FORMATTER" "Ljava/util/function/BiFunction;")) (List.mem_of_getElem? (i := 7) (by decide +kernel))) hA
  · exact va_Nc.of (hfl _ (nc_in q hq))
  · exact va_AO.of (hts (.arrayOver (.object "SolarLedger$Subscriber")) (List.mem_of_getElem? (i := 229) (by decide +kernel)))
  · exact va_AO.of (hts (.arrayOver (.object "SolarLedger$Books")) (List.mem_of_getElem? (i := 335) (by decide +kernel)))
