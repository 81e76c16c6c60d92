theorem ra_I {s : State} (cA cB : ClassId) (h1 : va_RA s cA .int) (h2 : va_RA s cB .int) : cA = cB := ra_prim (s := s) (ty := .int) (fun _ h => h) cA cB h1 h2
theorem ra_J {s : State} (cA cB : ClassId) (h1 : va_RA s cA .long) (h2 : va_RA s cB .long) : cA = cB := ra_prim (s := s) (ty := .long) (fun _ h => h) cA cB h1 h2
theorem ra_B {s : State} (cA cB : ClassId) (h1 : va_RA s cA .byte) (h2 : va_RA s cB .byte) : cA = cB := ra_prim (s := s) (ty := .byte) (fun _ h => h) cA cB h1 h2
theorem ra_Z {s : State} (cA cB : ClassId) (h1 : va_RA s cA .boolean) (h2 : va_RA s cB .boolean) : cA = cB := ra_prim (s := s) (ty := .boolean) (fun _ h => h) cA cB h1 h2
theorem oiX8 : Cond.methodLink RX8 3 Lib.objectInit ∈ ALLW ∧ Cond.instanceMethod Lib.objectInit ∈ ALLW ∧ Cond.code Lib.objectInit ⟨#[0xb1]⟩ 1 none ∈ ALLW := ⟨inW 234 (by decide +kernel) (by decide +kernel), inW 159 (by decide +kernel) (by decide +kernel), inW 160 (by decide +kernel) (by decide +kernel)⟩
theorem fcX8_9 : FC RX8 9 8 5 .int false := ⟨_, _, _, tyX8, rfl, inX8, tyX8_ok, nmX8, by decide, inW 251 (by decide +kernel) (by decide +kernel), rfl, rfl, rfl⟩
theorem fcX8_15 : FC RX8 15 8 7 (.array .int) true := ⟨_, _, _, tyX8, rfl, inX8, tyX8_ok, nmX8, by decide, inW 258 (by decide +kernel) (by decide +kernel), rfl, rfl, rfl⟩
theorem fcX8_19 : FC RX8 19 8 8 (.array .long) true := ⟨_, _, _, tyX8, rfl, inX8, tyX8_ok, nmX8, by decide, inW 262 (by decide +kernel) (by decide +kernel), rfl, rfl, rfl⟩
theorem fcX8_23 : FC RX8 23 8 9 (.array .long) true := ⟨_, _, _, tyX8, rfl, inX8, tyX8_ok, nmX8, by decide, inW 264 (by decide +kernel) (by decide +kernel), rfl, rfl, rfl⟩
theorem mcX8 (l : Launch) {G : gU} {Hf : Heap} (hHf : HB G Hf) (h : Nat) (ws : va_W) : MC l yX8_init cX8_init 1 1 3 138 G Hf [.ref h] ((h, .inr (8, [.int 0, .int 0, .int 0, .int 0, .int 0, .int 0, .int 0, .null, .null, .null])) :: ws) (fun ws' => ∃ a3 a2 a1 : Nat, ws' = (a3, .inl (gC G 1, 6, .inr (.inl (fun _ => 0)))) :: (a2, .inl (gC G 1, 72, .inr (.inl (fun _ => 0)))) :: (a1, .inl (gC G 0, 60, .inl (fun _ => 0))) :: (h, .inr (8, [.int 0, .int 0, .int 0, .int 0, .int 0, .int (-1 : Int32), .int 0, .ref a1, .ref a2, .ref a3])) :: ws) := by
  refine vc_enter (lv := [(0, .ref h)]) RX8 rfl (by decide) rfl (Nat.le_of_ble_eq_true rfl) rfl hHf ?_
  intro E hE hC hQ hnm
  subst hE
  refine wc_aload_n 1 0 hC dX8_init_0 rfl 0 rfl rfl ?_
  refine wc_objInit 4 hC dX8_init_1 oiX8 (Nat.le_of_ble_eq_true rfl) (Nat.le_of_ble_eq_true rfl) rfl ?_
  refine wc_aload_n 5 0 hC dX8_init_4 rfl 0 rfl rfl ?_
  refine wc_iconst 6 hC dX8_init_5 (v := (-1 : Int32)) (by decide) rfl ?_
  refine wc_put (ws' := (h, .inr (8, [.int 0, .int 0, .int 0, .int 0, .int 0, .int (-1 : Int32), .int 0, .null, .null, .null])) :: ws) 9 0 hC dX8_init_6 fcX8_9 hnm rfl rfl rfl (Nat.le_of_ble_eq_true rfl) rfl rfl ?_
  refine wc_aload_n 10 0 hC dX8_init_9 rfl 0 rfl rfl ?_
  refine wc_bipush 12 hC dX8_init_10 (v := (60 : Int32)) (by decide) rfl ?_
  refine wc_newA (t := 0) (n := 60) (ty := .int) (a0 := (60, .inl (fun _ => 0))) 14 hC dX8_init_12 (inW 212 (by decide +kernel) (by decide +kernel)) rfl rfl ra_I (fun _ => rfl) (by decide) (by decide) (by decide) ⟨Nat.le_of_ble_eq_true rfl, Nat.le_of_ble_eq_true rfl⟩ rfl (fun a1 => ?_)
  refine wc_put (ws' := (a1, .inl (gC G 0, 60, .inl (fun _ => 0))) :: (h, .inr (8, [.int 0, .int 0, .int 0, .int 0, .int 0, .int (-1 : Int32), .int 0, .ref a1, .null, .null])) :: ws) 17 1 hC dX8_init_14 fcX8_15 hnm rfl rfl rfl (Nat.le_of_ble_eq_true rfl) rfl rfl ?_
  refine wc_aload_n 18 0 hC dX8_init_17 rfl 0 rfl rfl ?_
  refine wc_bipush 20 hC dX8_init_18 (v := (72 : Int32)) (by decide) rfl ?_
  refine wc_newA (t := 1) (n := 72) (ty := .long) (a0 := (72, .inr (.inl (fun _ => 0)))) 22 hC dX8_init_20 (inW 288 (by decide +kernel) (by decide +kernel)) rfl rfl ra_J (fun _ => rfl) (by decide) (by decide) (by decide) ⟨Nat.le_of_ble_eq_true rfl, Nat.le_of_ble_eq_true rfl⟩ rfl (fun a2 => ?_)
  refine wc_put (ws' := (a2, .inl (gC G 1, 72, .inr (.inl (fun _ => 0)))) :: (a1, .inl (gC G 0, 60, .inl (fun _ => 0))) :: (h, .inr (8, [.int 0, .int 0, .int 0, .int 0, .int 0, .int (-1 : Int32), .int 0, .ref a1, .ref a2, .null])) :: ws) 25 2 hC dX8_init_22 fcX8_19 hnm rfl rfl rfl (Nat.le_of_ble_eq_true rfl) rfl rfl ?_
  refine wc_aload_n 26 0 hC dX8_init_25 rfl 0 rfl rfl ?_
  refine wc_bipush 28 hC dX8_init_26 (v := (6 : Int32)) (by decide) rfl ?_
  refine wc_newA (t := 1) (n := 6) (ty := .long) (a0 := (6, .inr (.inl (fun _ => 0)))) 30 hC dX8_init_28 (inW 288 (by decide +kernel) (by decide +kernel)) rfl rfl ra_J (fun _ => rfl) (by decide) (by decide) (by decide) ⟨Nat.le_of_ble_eq_true rfl, Nat.le_of_ble_eq_true rfl⟩ rfl (fun a3 => ?_)
  refine wc_put (ws' := (a3, .inl (gC G 1, 6, .inr (.inl (fun _ => 0)))) :: (a2, .inl (gC G 1, 72, .inr (.inl (fun _ => 0)))) :: (a1, .inl (gC G 0, 60, .inl (fun _ => 0))) :: (h, .inr (8, [.int 0, .int 0, .int 0, .int 0, .int 0, .int (-1 : Int32), .int 0, .ref a1, .ref a2, .ref a3])) :: ws) 33 3 hC dX8_init_30 fcX8_23 hnm rfl rfl rfl (Nat.le_of_ble_eq_true rfl) rfl rfl ?_
  exact wc_vret hC hQ ⟨Nat.le_of_ble_eq_true rfl, Nat.le_of_ble_eq_true rfl⟩ ⟨a3, a2, a1, rfl⟩ dX8_init_33
theorem oiX4 : Cond.methodLink RX4 3 Lib.objectInit ∈ ALLW ∧ Cond.instanceMethod Lib.objectInit ∈ ALLW ∧ Cond.code Lib.objectInit ⟨#[0xb1]⟩ 1 none ∈ ALLW := ⟨inW 172 (by decide +kernel) (by decide +kernel), inW 159 (by decide +kernel) (by decide +kernel), inW 160 (by decide +kernel) (by decide +kernel)⟩
theorem fcX4_9 : FC RX4 9 4 0 .int false := ⟨_, _, _, tyX4, rfl, inX4, tyX4_ok, nmX4, by decide, inW 173 (by decide +kernel) (by decide +kernel), rfl, rfl, rfl⟩
theorem fcX4_15 : FC RX4 15 4 1 .int false := ⟨_, _, _, tyX4, rfl, inX4, tyX4_ok, nmX4, by decide, inW 177 (by decide +kernel) (by decide +kernel), rfl, rfl, rfl⟩
theorem fcX4_18 : FC RX4 18 4 2 .int false := ⟨_, _, _, tyX4, rfl, inX4, tyX4_ok, nmX4, by decide, inW 181 (by decide +kernel) (by decide +kernel), rfl, rfl, rfl⟩
theorem fcX4_21 : FC RX4 21 4 3 .int false := ⟨_, _, _, tyX4, rfl, inX4, tyX4_ok, nmX4, by decide, inW 185 (by decide +kernel) (by decide +kernel), rfl, rfl, rfl⟩
theorem fcX4_24 : FC RX4 24 4 4 .int false := ⟨_, _, _, tyX4, rfl, inX4, tyX4_ok, nmX4, by decide, inW 188 (by decide +kernel) (by decide +kernel), rfl, rfl, rfl⟩
theorem fcX4_27 : FC RX4 27 4 5 (.array .int) true := ⟨_, _, _, tyX4, rfl, inX4, tyX4_ok, nmX4, by decide, inW 192 (by decide +kernel) (by decide +kernel), rfl, rfl, rfl⟩
theorem fcX4_31 : FC RX4 31 4 6 (.array .int) true := ⟨_, _, _, tyX4, rfl, inX4, tyX4_ok, nmX4, by decide, inW 195 (by decide +kernel) (by decide +kernel), rfl, rfl, rfl⟩
theorem mcX4 (l : Launch) {G : gU} {Hf : Heap} (hHf : HB G Hf) (h : Nat) (ws : va_W) : MC l yX4_init cX4_init 1 1 2 28 G Hf [.ref h] ((h, .inr (4, [.int 0, .int 0, .int 0, .int 0, .int 0, .null, .null])) :: ws) (fun ws' => ∃ a2 a1 : Nat, ws' = (a2, .inl (gC G 0, 24, .inl (fun _ => 0))) :: (a1, .inl (gC G 0, 4, .inl (upd (upd (upd (upd (fun _ => 0) (0 : Int32).toNatClampNeg (10 : Int32)) (1 : Int32).toNatClampNeg (0 : Int32)) (2 : Int32).toNatClampNeg (0 : Int32)) (3 : Int32).toNatClampNeg (0 : Int32)))) :: (h, .inr (4, [.int (1000 : Int32), .int (12 : Int32), .int (50 : Int32), .int (100 : Int32), .int (1 : Int32), .ref a1, .ref a2])) :: ws) := by
  refine vc_enter (lv := [(0, .ref h)]) RX4 rfl (by decide) rfl (Nat.le_of_ble_eq_true rfl) rfl hHf ?_
  intro E hE hC hQ hnm
  subst hE
  refine wc_aload_n 1 0 hC dX4_init_0 rfl 0 rfl rfl ?_
  refine wc_objInit 4 hC dX4_init_1 oiX4 (Nat.le_of_ble_eq_true rfl) (Nat.le_of_ble_eq_true rfl) rfl ?_
  refine wc_aload_n 5 0 hC dX4_init_4 rfl 0 rfl rfl ?_
  refine wc_sipush 8 hC dX4_init_5 (v := (1000 : Int32)) (by decide) rfl ?_
  refine wc_put (ws' := (h, .inr (4, [.int (1000 : Int32), .int 0, .int 0, .int 0, .int 0, .null, .null])) :: ws) 11 0 hC dX4_init_8 fcX4_9 hnm rfl rfl rfl (Nat.le_of_ble_eq_true rfl) rfl rfl ?_
  refine wc_aload_n 12 0 hC dX4_init_11 rfl 0 rfl rfl ?_
  refine wc_bipush 14 hC dX4_init_12 (v := (12 : Int32)) (by decide) rfl ?_
  refine wc_put (ws' := (h, .inr (4, [.int (1000 : Int32), .int (12 : Int32), .int 0, .int 0, .int 0, .null, .null])) :: ws) 17 0 hC dX4_init_14 fcX4_15 hnm rfl rfl rfl (Nat.le_of_ble_eq_true rfl) rfl rfl ?_
  refine wc_aload_n 18 0 hC dX4_init_17 rfl 0 rfl rfl ?_
  refine wc_bipush 20 hC dX4_init_18 (v := (50 : Int32)) (by decide) rfl ?_
  refine wc_put (ws' := (h, .inr (4, [.int (1000 : Int32), .int (12 : Int32), .int (50 : Int32), .int 0, .int 0, .null, .null])) :: ws) 23 0 hC dX4_init_20 fcX4_18 hnm rfl rfl rfl (Nat.le_of_ble_eq_true rfl) rfl rfl ?_
  refine wc_aload_n 24 0 hC dX4_init_23 rfl 0 rfl rfl ?_
  refine wc_bipush 26 hC dX4_init_24 (v := (100 : Int32)) (by decide) rfl ?_
  refine wc_put (ws' := (h, .inr (4, [.int (1000 : Int32), .int (12 : Int32), .int (50 : Int32), .int (100 : Int32), .int 0, .null, .null])) :: ws) 29 0 hC dX4_init_26 fcX4_21 hnm rfl rfl rfl (Nat.le_of_ble_eq_true rfl) rfl rfl ?_
  refine wc_aload_n 30 0 hC dX4_init_29 rfl 0 rfl rfl ?_
  refine wc_iconst 31 hC dX4_init_30 (v := (1 : Int32)) (by decide) rfl ?_
  refine wc_put (ws' := (h, .inr (4, [.int (1000 : Int32), .int (12 : Int32), .int (50 : Int32), .int (100 : Int32), .int (1 : Int32), .null, .null])) :: ws) 34 0 hC dX4_init_31 fcX4_24 hnm rfl rfl rfl (Nat.le_of_ble_eq_true rfl) rfl rfl ?_
  refine wc_aload_n 35 0 hC dX4_init_34 rfl 0 rfl rfl ?_
  refine wc_iconst 36 hC dX4_init_35 (v := (4 : Int32)) (by decide) rfl ?_
  refine wc_newA (t := 0) (n := 4) (ty := .int) (a0 := (4, .inl (fun _ => 0))) 38 hC dX4_init_36 (inW 212 (by decide +kernel) (by decide +kernel)) rfl rfl ra_I (fun _ => rfl) (by decide) (by decide) (by decide) ⟨Nat.le_of_ble_eq_true rfl, Nat.le_of_ble_eq_true rfl⟩ rfl (fun a1 => ?_)
  refine wc_dup 39 hC dX4_init_38 rfl rfl ?_
  refine wc_iconst 40 hC dX4_init_39 (v := (0 : Int32)) (by decide) rfl ?_
  refine wc_bipush 42 hC dX4_init_40 (v := (10 : Int32)) (by decide) rfl ?_
  refine wc_iast (ws' := (a1, .inl (gC G 0, 4, .inl (upd (fun _ => 0) (0 : Int32).toNatClampNeg (10 : Int32)))) :: (h, .inr (4, [.int (1000 : Int32), .int (12 : Int32), .int (50 : Int32), .int (100 : Int32), .int (1 : Int32), .null, .null])) :: ws) 43 0 hC dX4_init_42 rfl (by decide) rfl rfl ?_
  refine wc_dup 44 hC dX4_init_43 rfl rfl ?_
  refine wc_iconst 45 hC dX4_init_44 (v := (1 : Int32)) (by decide) rfl ?_
  refine wc_iconst 46 hC dX4_init_45 (v := (0 : Int32)) (by decide) rfl ?_
  refine wc_iast (ws' := (a1, .inl (gC G 0, 4, .inl (upd (upd (fun _ => 0) (0 : Int32).toNatClampNeg (10 : Int32)) (1 : Int32).toNatClampNeg (0 : Int32)))) :: (h, .inr (4, [.int (1000 : Int32), .int (12 : Int32), .int (50 : Int32), .int (100 : Int32), .int (1 : Int32), .null, .null])) :: ws) 47 0 hC dX4_init_46 rfl (by decide) rfl rfl ?_
  refine wc_dup 48 hC dX4_init_47 rfl rfl ?_
  refine wc_iconst 49 hC dX4_init_48 (v := (2 : Int32)) (by decide) rfl ?_
  refine wc_iconst 50 hC dX4_init_49 (v := (0 : Int32)) (by decide) rfl ?_
  refine wc_iast (ws' := (a1, .inl (gC G 0, 4, .inl (upd (upd (upd (fun _ => 0) (0 : Int32).toNatClampNeg (10 : Int32)) (1 : Int32).toNatClampNeg (0 : Int32)) (2 : Int32).toNatClampNeg (0 : Int32)))) :: (h, .inr (4, [.int (1000 : Int32), .int (12 : Int32), .int (50 : Int32), .int (100 : Int32), .int (1 : Int32), .null, .null])) :: ws) 51 0 hC dX4_init_50 rfl (by decide) rfl rfl ?_
  refine wc_dup 52 hC dX4_init_51 rfl rfl ?_
  refine wc_iconst 53 hC dX4_init_52 (v := (3 : Int32)) (by decide) rfl ?_
  refine wc_iconst 54 hC dX4_init_53 (v := (0 : Int32)) (by decide) rfl ?_
  refine wc_iast (ws' := (a1, .inl (gC G 0, 4, .inl (upd (upd (upd (upd (fun _ => 0) (0 : Int32).toNatClampNeg (10 : Int32)) (1 : Int32).toNatClampNeg (0 : Int32)) (2 : Int32).toNatClampNeg (0 : Int32)) (3 : Int32).toNatClampNeg (0 : Int32)))) :: (h, .inr (4, [.int (1000 : Int32), .int (12 : Int32), .int (50 : Int32), .int (100 : Int32), .int (1 : Int32), .null, .null])) :: ws) 55 0 hC dX4_init_54 rfl (by decide) rfl rfl ?_
  refine wc_put (ws' := (a1, .inl (gC G 0, 4, .inl (upd (upd (upd (upd (fun _ => 0) (0 : Int32).toNatClampNeg (10 : Int32)) (1 : Int32).toNatClampNeg (0 : Int32)) (2 : Int32).toNatClampNeg (0 : Int32)) (3 : Int32).toNatClampNeg (0 : Int32)))) :: (h, .inr (4, [.int (1000 : Int32), .int (12 : Int32), .int (50 : Int32), .int (100 : Int32), .int (1 : Int32), .ref a1, .null])) :: ws) 58 1 hC dX4_init_55 fcX4_27 hnm rfl rfl rfl (Nat.le_of_ble_eq_true rfl) rfl rfl ?_
  refine wc_aload_n 59 0 hC dX4_init_58 rfl 0 rfl rfl ?_
  refine wc_bipush 61 hC dX4_init_59 (v := (24 : Int32)) (by decide) rfl ?_
  refine wc_newA (t := 0) (n := 24) (ty := .int) (a0 := (24, .inl (fun _ => 0))) 63 hC dX4_init_61 (inW 212 (by decide +kernel) (by decide +kernel)) rfl rfl ra_I (fun _ => rfl) (by decide) (by decide) (by decide) ⟨Nat.le_of_ble_eq_true rfl, Nat.le_of_ble_eq_true rfl⟩ rfl (fun a2 => ?_)
  refine wc_put (ws' := (a2, .inl (gC G 0, 24, .inl (fun _ => 0))) :: (a1, .inl (gC G 0, 4, .inl (upd (upd (upd (upd (fun _ => 0) (0 : Int32).toNatClampNeg (10 : Int32)) (1 : Int32).toNatClampNeg (0 : Int32)) (2 : Int32).toNatClampNeg (0 : Int32)) (3 : Int32).toNatClampNeg (0 : Int32)))) :: (h, .inr (4, [.int (1000 : Int32), .int (12 : Int32), .int (50 : Int32), .int (100 : Int32), .int (1 : Int32), .ref a1, .ref a2])) :: ws) 66 2 hC dX4_init_63 fcX4_31 hnm rfl rfl rfl (Nat.le_of_ble_eq_true rfl) rfl rfl ?_
  exact wc_vret hC hQ ⟨Nat.le_of_ble_eq_true rfl, Nat.le_of_ble_eq_true rfl⟩ ⟨a2, a1, rfl⟩ dX4_init_66
theorem oiX7 : Cond.methodLink RX7 3 Lib.objectInit ∈ ALLW ∧ Cond.instanceMethod Lib.objectInit ∈ ALLW ∧ Cond.code Lib.objectInit ⟨#[0xb1]⟩ 1 none ∈ ALLW := ⟨inW 218 (by decide +kernel) (by decide +kernel), inW 159 (by decide +kernel) (by decide +kernel), inW 160 (by decide +kernel) (by decide +kernel)⟩
theorem fcX7_9 : FC RX7 9 7 0 (.array .int) true := ⟨_, _, _, tyX7, rfl, inX7, tyX7_ok, nmX7, by decide, inW 219 (by decide +kernel) (by decide +kernel), rfl, rfl, rfl⟩
theorem fcX7_15 : FC RX7 15 7 1 (.array .int) true := ⟨_, _, _, tyX7, rfl, inX7, tyX7_ok, nmX7, by decide, inW 221 (by decide +kernel) (by decide +kernel), rfl, rfl, rfl⟩
theorem mcX7 (l : Launch) {G : gU} {Hf : Heap} (hHf : HB G Hf) (h : Nat) (ws : va_W) : MC l yX7_init cX7_init 1 1 2 480 G Hf [.ref h] ((h, .inr (7, [.null, .null])) :: ws) (fun ws' => ∃ a2 a1 : Nat, ws' = (a2, .inl (gC G 0, 240, .inl (fun _ => 0))) :: (a1, .inl (gC G 0, 240, .inl (fun _ => 0))) :: (h, .inr (7, [.ref a1, .ref a2])) :: ws) := by
  refine vc_enter (lv := [(0, .ref h)]) RX7 rfl (by decide) rfl (Nat.le_of_ble_eq_true rfl) rfl hHf ?_
  intro E hE hC hQ hnm
  subst hE
  refine wc_aload_n 1 0 hC dX7_init_0 rfl 0 rfl rfl ?_
  refine wc_objInit 4 hC dX7_init_1 oiX7 (Nat.le_of_ble_eq_true rfl) (Nat.le_of_ble_eq_true rfl) rfl ?_
  refine wc_aload_n 5 0 hC dX7_init_4 rfl 0 rfl rfl ?_
  refine wc_sipush 8 hC dX7_init_5 (v := (240 : Int32)) (by decide) rfl ?_
  refine wc_newA (t := 0) (n := 240) (ty := .int) (a0 := (240, .inl (fun _ => 0))) 10 hC dX7_init_8 (inW 212 (by decide +kernel) (by decide +kernel)) rfl rfl ra_I (fun _ => rfl) (by decide) (by decide) (by decide) ⟨Nat.le_of_ble_eq_true rfl, Nat.le_of_ble_eq_true rfl⟩ rfl (fun a1 => ?_)
  refine wc_put (ws' := (a1, .inl (gC G 0, 240, .inl (fun _ => 0))) :: (h, .inr (7, [.ref a1, .null])) :: ws) 13 1 hC dX7_init_10 fcX7_9 hnm rfl rfl rfl (Nat.le_of_ble_eq_true rfl) rfl rfl ?_
  refine wc_aload_n 14 0 hC dX7_init_13 rfl 0 rfl rfl ?_
  refine wc_sipush 17 hC dX7_init_14 (v := (240 : Int32)) (by decide) rfl ?_
  refine wc_newA (t := 0) (n := 240) (ty := .int) (a0 := (240, .inl (fun _ => 0))) 19 hC dX7_init_17 (inW 212 (by decide +kernel) (by decide +kernel)) rfl rfl ra_I (fun _ => rfl) (by decide) (by decide) (by decide) ⟨Nat.le_of_ble_eq_true rfl, Nat.le_of_ble_eq_true rfl⟩ rfl (fun a2 => ?_)
  refine wc_put (ws' := (a2, .inl (gC G 0, 240, .inl (fun _ => 0))) :: (a1, .inl (gC G 0, 240, .inl (fun _ => 0))) :: (h, .inr (7, [.ref a1, .ref a2])) :: ws) 22 2 hC dX7_init_19 fcX7_15 hnm rfl rfl rfl (Nat.le_of_ble_eq_true rfl) rfl rfl ?_
  exact wc_vret hC hQ ⟨Nat.le_of_ble_eq_true rfl, Nat.le_of_ble_eq_true rfl⟩ ⟨a2, a1, rfl⟩ dX7_init_22
theorem oiX6 : Cond.methodLink RX6 3 Lib.objectInit ∈ ALLW ∧ Cond.instanceMethod Lib.objectInit ∈ ALLW ∧ Cond.code Lib.objectInit ⟨#[0xb1]⟩ 1 none ∈ ALLW := ⟨inW 333 (by decide +kernel) (by decide +kernel), inW 159 (by decide +kernel) (by decide +kernel), inW 160 (by decide +kernel) (by decide +kernel)⟩
theorem fcX6_11 : FC RX6 11 6 0 (.array (.object "SolarLedger$Books")) true := ⟨_, _, _, tyX6, rfl, inX6, tyX6_ok, nmX6, by decide, inW 336 (by decide +kernel) (by decide +kernel), rfl, rfl, rfl⟩
theorem mcX6 (l : Launch) {G : gU} {Hf : Heap} (hHf : HB G Hf) (h : Nat) (ws : va_W) : MC l yX6_init cX6_init 1 1 1 6 G Hf [.ref h] ((h, .inr (6, [.null, .int 0, .int 0])) :: ws) (fun ws' => ∃ a1 : Nat, ws' = (a1, .inl (gC G 5, 6, .inr (.inr (.inr (.inr (fun _ => none)))))) :: (h, .inr (6, [.ref a1, .int 0, .int 0])) :: ws) := by
  refine vc_enter (lv := [(0, .ref h)]) RX6 rfl (by decide) rfl (Nat.le_of_ble_eq_true rfl) rfl hHf ?_
  intro E hE hC hQ hnm
  subst hE
  refine wc_aload_n 1 0 hC dX6_init_0 rfl 0 rfl rfl ?_
  refine wc_objInit 4 hC dX6_init_1 oiX6 (Nat.le_of_ble_eq_true rfl) (Nat.le_of_ble_eq_true rfl) rfl ?_
  refine wc_aload_n 5 0 hC dX6_init_4 rfl 0 rfl rfl ?_
  refine wc_bipush 7 hC dX6_init_5 (v := (6 : Int32)) (by decide) rfl ?_
  refine wc_newQ (t := 5) (n := 6) 10 hC dX6_init_7 (inW 334 (by decide +kernel) (by decide +kernel)) hC.2.2.2.2.2.1.2.2.2.2.2.2.2.2.2.2 rfl (by decide) (by decide) (by decide) ⟨Nat.le_of_ble_eq_true rfl, Nat.le_of_ble_eq_true rfl⟩ rfl (fun a1 => ?_)
  refine wc_put (ws' := (a1, .inl (gC G 5, 6, .inr (.inr (.inr (.inr (fun _ => none)))))) :: (h, .inr (6, [.ref a1, .int 0, .int 0])) :: ws) 13 1 hC dX6_init_10 fcX6_11 hnm rfl rfl rfl (Nat.le_of_ble_eq_true rfl) rfl rfl ?_
  exact wc_vret hC hQ ⟨Nat.le_of_ble_eq_true rfl, Nat.le_of_ble_eq_true rfl⟩ ⟨a1, rfl⟩ dX6_init_13
theorem oiX5 : Cond.methodLink RX5 3 Lib.objectInit ∈ ALLW ∧ Cond.instanceMethod Lib.objectInit ∈ ALLW ∧ Cond.code Lib.objectInit ⟨#[0xb1]⟩ 1 none ∈ ALLW := ⟨inW 352 (by decide +kernel) (by decide +kernel), inW 159 (by decide +kernel) (by decide +kernel), inW 160 (by decide +kernel) (by decide +kernel)⟩
theorem fcX5_9 : FC RX5 9 5 0 (.array .byte) true := ⟨_, _, _, tyX5, rfl, inX5, tyX5_ok, nmX5, by decide, inW 355 (by decide +kernel) (by decide +kernel), rfl, rfl, rfl⟩
theorem nwX5_15 : NWc RX5 15 4 7 [.int 0, .int 0, .int 0, .int 0, .int 0, .null, .null] := ⟨RX4, TX4, tyX4, rfl, inX4, tyX4_ok, inW 353 (by decide +kernel) (by decide +kernel), inW 168 (by decide +kernel) (by decide +kernel), inW 130 (by decide +kernel) (by decide +kernel), fun j hj => by match j, hj with | 0, _ => rfl | 1, _ => rfl | 2, _ => rfl | 3, _ => rfl | 4, _ => rfl | 5, _ => rfl | 6, _ => rfl | j + 7, hj => exact absurd hj (by omega)⟩
theorem liX5_17 : (Cond.methodLink RX5 17 yX4_init ∈ ALLW ∨ ∃ host, Cond.methodLinkNest RX5 17 yX4_init host ∈ NW) ∧ Cond.instanceMethod yX4_init ∈ ALLW := ⟨Or.inr ⟨"SolarLedger", inN 227 (by decide +kernel) (by decide +kernel)⟩, inW 170 (by decide +kernel) (by decide +kernel)⟩
theorem knX4_init : KN yX4_init cX4_init 1 none 0 := ⟨inW 171 (by decide +kernel) (by decide +kernel), inW 130 (by decide +kernel) (by decide +kernel), (by decide +kernel), (by decide +kernel), (by decide +kernel)⟩
theorem fcX5_18 : FC RX5 18 5 5 (.object "SolarLedger$Garden") true := ⟨_, _, _, tyX5, rfl, inX5, tyX5_ok, nmX5, by decide, inW 362 (by decide +kernel) (by decide +kernel), rfl, rfl, rfl⟩
theorem mcX5 (l : Launch) {G : gU} {Hf : Heap} (hHf : HB G Hf) (h : Nat) (ws : va_W) : MC l yX5_init cX5_init 1 2 4 335 G Hf [.ref h] ((h, .inr (5, [.null, .int 0, .int 0, .int 0, .int 0, .null])) :: ws) (fun ws' => ∃ a3 a4 a2 a1 : Nat, ws' = (a3, .inl (gC G 0, 24, .inl (fun _ => 0))) :: (a4, .inl (gC G 0, 4, .inl (upd (upd (upd (upd (fun _ => 0) (0 : Int32).toNatClampNeg (10 : Int32)) (1 : Int32).toNatClampNeg (0 : Int32)) (2 : Int32).toNatClampNeg (0 : Int32)) (3 : Int32).toNatClampNeg (0 : Int32)))) :: (a2, .inr (4, [.int (1000 : Int32), .int (12 : Int32), .int (50 : Int32), .int (100 : Int32), .int (1 : Int32), .ref a4, .ref a3])) :: (a1, .inl (gC G 2, 300, .inl (fun _ => 0))) :: (h, .inr (5, [.ref a1, .int 0, .int 0, .int 0, .int 0, .ref a2])) :: ws) := by
  refine vc_enter (lv := [(0, .ref h)]) RX5 rfl (by decide) rfl (Nat.le_of_ble_eq_true rfl) rfl hHf ?_
  intro E hE hC hQ hnm
  subst hE
  refine wc_aload_n 1 0 hC dX5_init_0 rfl 0 rfl rfl ?_
  refine wc_objInit 4 hC dX5_init_1 oiX5 (Nat.le_of_ble_eq_true rfl) (Nat.le_of_ble_eq_true rfl) rfl ?_
  refine wc_aload_n 5 0 hC dX5_init_4 rfl 0 rfl rfl ?_
  refine wc_sipush 8 hC dX5_init_5 (v := (300 : Int32)) (by decide) rfl ?_
  refine wc_newA (t := 2) (n := 300) (ty := .byte) (a0 := (300, .inl (fun _ => 0))) 10 hC dX5_init_8 (inW 377 (by decide +kernel) (by decide +kernel)) rfl rfl ra_B (fun _ => rfl) (by decide) (by decide) (by decide) ⟨Nat.le_of_ble_eq_true rfl, Nat.le_of_ble_eq_true rfl⟩ rfl (fun a1 => ?_)
  refine wc_put (ws' := (a1, .inl (gC G 2, 300, .inl (fun _ => 0))) :: (h, .inr (5, [.ref a1, .int 0, .int 0, .int 0, .int 0, .null])) :: ws) 13 1 hC dX5_init_10 fcX5_9 hnm rfl rfl rfl (Nat.le_of_ble_eq_true rfl) rfl rfl ?_
  refine wc_aload_n 14 0 hC dX5_init_13 rfl 0 rfl rfl ?_
  refine wc_new 17 hC dX5_init_14 nwX5_15 ⟨Nat.le_of_ble_eq_true rfl, Nat.le_of_ble_eq_true rfl⟩ rfl (fun a2 => ?_)
  refine wc_dup 18 hC dX5_init_17 rfl rfl ?_
  refine wc_call 21 hC dX5_init_18 knX4_init rfl liX5_17 (mcX4 E.2.1 hHf a2 _) (Nat.le_of_ble_eq_true rfl) (Nat.le_of_ble_eq_true rfl) (Nat.le_of_ble_eq_true rfl) ⟨Nat.le_of_ble_eq_true rfl, Nat.le_of_ble_eq_true rfl⟩ rfl ?_
  rintro _ ⟨a3, a4, rfl⟩
  refine wc_put (ws' := (a3, .inl (gC G 0, 24, .inl (fun _ => 0))) :: (a4, .inl (gC G 0, 4, .inl (upd (upd (upd (upd (fun _ => 0) (0 : Int32).toNatClampNeg (10 : Int32)) (1 : Int32).toNatClampNeg (0 : Int32)) (2 : Int32).toNatClampNeg (0 : Int32)) (3 : Int32).toNatClampNeg (0 : Int32)))) :: (a2, .inr (4, [.int (1000 : Int32), .int (12 : Int32), .int (50 : Int32), .int (100 : Int32), .int (1 : Int32), .ref a4, .ref a3])) :: (a1, .inl (gC G 2, 300, .inl (fun _ => 0))) :: (h, .inr (5, [.ref a1, .int 0, .int 0, .int 0, .int 0, .ref a2])) :: ws) 24 4 hC dX5_init_21 fcX5_18 hnm rfl rfl rfl (Nat.le_of_ble_eq_true rfl) rfl rfl ?_
  exact wc_vret hC hQ ⟨Nat.le_of_ble_eq_true rfl, Nat.le_of_ble_eq_true rfl⟩ ⟨a3, a4, a2, a1, rfl⟩ dX5_init_24
theorem oiX2 : Cond.methodLink RX2 3 Lib.objectInit ∈ ALLW ∧ Cond.instanceMethod Lib.objectInit ∈ ALLW ∧ Cond.code Lib.objectInit ⟨#[0xb1]⟩ 1 none ∈ ALLW := ⟨inW 383 (by decide +kernel) (by decide +kernel), inW 159 (by decide +kernel) (by decide +kernel), inW 160 (by decide +kernel) (by decide +kernel)⟩
theorem fcX2_9 : FC RX2 9 2 0 (.array .byte) true := ⟨_, _, _, tyX2, rfl, inX2, tyX2_ok, nmX2, by decide, inW 384 (by decide +kernel) (by decide +kernel), rfl, rfl, rfl⟩
theorem mcX2 (l : Launch) {G : gU} {Hf : Heap} (hHf : HB G Hf) (h : Nat) (ws : va_W) : MC l yX2_init cX2_init 1 1 1 80 G Hf [.ref h] ((h, .inr (2, [.null, .int 0])) :: ws) (fun ws' => ∃ a1 : Nat, ws' = (a1, .inl (gC G 2, 80, .inl (fun _ => 0))) :: (h, .inr (2, [.ref a1, .int 0])) :: ws) := by
  refine vc_enter (lv := [(0, .ref h)]) RX2 rfl (by decide) rfl (Nat.le_of_ble_eq_true rfl) rfl hHf ?_
  intro E hE hC hQ hnm
  subst hE
  refine wc_aload_n 1 0 hC dX2_init_0 rfl 0 rfl rfl ?_
  refine wc_objInit 4 hC dX2_init_1 oiX2 (Nat.le_of_ble_eq_true rfl) (Nat.le_of_ble_eq_true rfl) rfl ?_
  refine wc_aload_n 5 0 hC dX2_init_4 rfl 0 rfl rfl ?_
  refine wc_bipush 7 hC dX2_init_5 (v := (80 : Int32)) (by decide) rfl ?_
  refine wc_newA (t := 2) (n := 80) (ty := .byte) (a0 := (80, .inl (fun _ => 0))) 9 hC dX2_init_7 (inW 377 (by decide +kernel) (by decide +kernel)) rfl rfl ra_B (fun _ => rfl) (by decide) (by decide) (by decide) ⟨Nat.le_of_ble_eq_true rfl, Nat.le_of_ble_eq_true rfl⟩ rfl (fun a1 => ?_)
  refine wc_put (ws' := (a1, .inl (gC G 2, 80, .inl (fun _ => 0))) :: (h, .inr (2, [.ref a1, .int 0])) :: ws) 12 1 hC dX2_init_9 fcX2_9 hnm rfl rfl rfl (Nat.le_of_ble_eq_true rfl) rfl rfl ?_
  exact wc_vret hC hQ ⟨Nat.le_of_ble_eq_true rfl, Nat.le_of_ble_eq_true rfl⟩ ⟨a1, rfl⟩ dX2_init_12
theorem oiX3 : Cond.methodLink RX3 3 Lib.objectInit ∈ ALLW ∧ Cond.instanceMethod Lib.objectInit ∈ ALLW ∧ Cond.code Lib.objectInit ⟨#[0xb1]⟩ 1 none ∈ ALLW := ⟨inW 398 (by decide +kernel) (by decide +kernel), inW 159 (by decide +kernel) (by decide +kernel), inW 160 (by decide +kernel) (by decide +kernel)⟩
theorem fcX3_9 : FC RX3 9 3 0 (.array .long) true := ⟨_, _, _, tyX3, rfl, inX3, tyX3_ok, nmX3, by decide, inW 399 (by decide +kernel) (by decide +kernel), rfl, rfl, rfl⟩
theorem fcX3_15 : FC RX3 15 3 2 (.array .long) true := ⟨_, _, _, tyX3, rfl, inX3, tyX3_ok, nmX3, by decide, inW 401 (by decide +kernel) (by decide +kernel), rfl, rfl, rfl⟩
theorem fcX3_18 : FC RX3 18 3 3 (.array .long) true := ⟨_, _, _, tyX3, rfl, inX3, tyX3_ok, nmX3, by decide, inW 402 (by decide +kernel) (by decide +kernel), rfl, rfl, rfl⟩
theorem mcX3 (l : Launch) {G : gU} {Hf : Heap} (hHf : HB G Hf) (h : Nat) (ws : va_W) : MC l yX3_init cX3_init 1 1 3 51 G Hf [.ref h] ((h, .inr (3, [.null, .long 0, .null, .null])) :: ws) (fun ws' => ∃ a3 a2 a1 : Nat, ws' = (a3, .inl (gC G 1, 17, .inr (.inl (fun _ => 0)))) :: (a2, .inl (gC G 1, 17, .inr (.inl (fun _ => 0)))) :: (a1, .inl (gC G 1, 17, .inr (.inl (fun _ => 0)))) :: (h, .inr (3, [.ref a1, .long 0, .ref a2, .ref a3])) :: ws) := by
  refine vc_enter (lv := [(0, .ref h)]) RX3 rfl (by decide) rfl (Nat.le_of_ble_eq_true rfl) rfl hHf ?_
  intro E hE hC hQ hnm
  subst hE
  refine wc_aload_n 1 0 hC dX3_init_0 rfl 0 rfl rfl ?_
  refine wc_objInit 4 hC dX3_init_1 oiX3 (Nat.le_of_ble_eq_true rfl) (Nat.le_of_ble_eq_true rfl) rfl ?_
  refine wc_aload_n 5 0 hC dX3_init_4 rfl 0 rfl rfl ?_
  refine wc_bipush 7 hC dX3_init_5 (v := (17 : Int32)) (by decide) rfl ?_
  refine wc_newA (t := 1) (n := 17) (ty := .long) (a0 := (17, .inr (.inl (fun _ => 0)))) 9 hC dX3_init_7 (inW 288 (by decide +kernel) (by decide +kernel)) rfl rfl ra_J (fun _ => rfl) (by decide) (by decide) (by decide) ⟨Nat.le_of_ble_eq_true rfl, Nat.le_of_ble_eq_true rfl⟩ rfl (fun a1 => ?_)
  refine wc_put (ws' := (a1, .inl (gC G 1, 17, .inr (.inl (fun _ => 0)))) :: (h, .inr (3, [.ref a1, .long 0, .null, .null])) :: ws) 12 1 hC dX3_init_9 fcX3_9 hnm rfl rfl rfl (Nat.le_of_ble_eq_true rfl) rfl rfl ?_
  refine wc_aload_n 13 0 hC dX3_init_12 rfl 0 rfl rfl ?_
  refine wc_bipush 15 hC dX3_init_13 (v := (17 : Int32)) (by decide) rfl ?_
  refine wc_newA (t := 1) (n := 17) (ty := .long) (a0 := (17, .inr (.inl (fun _ => 0)))) 17 hC dX3_init_15 (inW 288 (by decide +kernel) (by decide +kernel)) rfl rfl ra_J (fun _ => rfl) (by decide) (by decide) (by decide) ⟨Nat.le_of_ble_eq_true rfl, Nat.le_of_ble_eq_true rfl⟩ rfl (fun a2 => ?_)
  refine wc_put (ws' := (a2, .inl (gC G 1, 17, .inr (.inl (fun _ => 0)))) :: (a1, .inl (gC G 1, 17, .inr (.inl (fun _ => 0)))) :: (h, .inr (3, [.ref a1, .long 0, .ref a2, .null])) :: ws) 20 2 hC dX3_init_17 fcX3_15 hnm rfl rfl rfl (Nat.le_of_ble_eq_true rfl) rfl rfl ?_
  refine wc_aload_n 21 0 hC dX3_init_20 rfl 0 rfl rfl ?_
  refine wc_bipush 23 hC dX3_init_21 (v := (17 : Int32)) (by decide) rfl ?_
  refine wc_newA (t := 1) (n := 17) (ty := .long) (a0 := (17, .inr (.inl (fun _ => 0)))) 25 hC dX3_init_23 (inW 288 (by decide +kernel) (by decide +kernel)) rfl rfl ra_J (fun _ => rfl) (by decide) (by decide) (by decide) ⟨Nat.le_of_ble_eq_true rfl, Nat.le_of_ble_eq_true rfl⟩ rfl (fun a3 => ?_)
  refine wc_put (ws' := (a3, .inl (gC G 1, 17, .inr (.inl (fun _ => 0)))) :: (a2, .inl (gC G 1, 17, .inr (.inl (fun _ => 0)))) :: (a1, .inl (gC G 1, 17, .inr (.inl (fun _ => 0)))) :: (h, .inr (3, [.ref a1, .long 0, .ref a2, .ref a3])) :: ws) 28 3 hC dX3_init_25 fcX3_18 hnm rfl rfl rfl (Nat.le_of_ble_eq_true rfl) rfl rfl ?_
  exact wc_vret hC hQ ⟨Nat.le_of_ble_eq_true rfl, Nat.le_of_ble_eq_true rfl⟩ ⟨a3, a2, a1, rfl⟩ dX3_init_28
theorem oiX1 : Cond.methodLink RX1 3 Lib.objectInit ∈ ALLW ∧ Cond.instanceMethod Lib.objectInit ∈ ALLW ∧ Cond.code Lib.objectInit ⟨#[0xb1]⟩ 1 none ∈ ALLW := ⟨inW 418 (by decide +kernel) (by decide +kernel), inW 159 (by decide +kernel) (by decide +kernel), inW 160 (by decide +kernel) (by decide +kernel)⟩
theorem fcX1_9 : FC RX1 9 1 0 (.array .int) true := ⟨_, _, _, tyX1, rfl, inX1, tyX1_ok, nmX1, by decide, inW 419 (by decide +kernel) (by decide +kernel), rfl, rfl, rfl⟩
theorem fcX1_15 : FC RX1 15 1 1 (.array .long) true := ⟨_, _, _, tyX1, rfl, inX1, tyX1_ok, nmX1, by decide, inW 420 (by decide +kernel) (by decide +kernel), rfl, rfl, rfl⟩
theorem mcX1 (l : Launch) {G : gU} {Hf : Heap} (hHf : HB G Hf) (h : Nat) (ws : va_W) : MC l yX1_init cX1_init 1 1 2 32 G Hf [.ref h] ((h, .inr (1, [.null, .null])) :: ws) (fun ws' => ∃ a2 a1 : Nat, ws' = (a2, .inl (gC G 1, 16, .inr (.inl (fun _ => 0)))) :: (a1, .inl (gC G 0, 16, .inl (fun _ => 0))) :: (h, .inr (1, [.ref a1, .ref a2])) :: ws) := by
  refine vc_enter (lv := [(0, .ref h)]) RX1 rfl (by decide) rfl (Nat.le_of_ble_eq_true rfl) rfl hHf ?_
  intro E hE hC hQ hnm
  subst hE
  refine wc_aload_n 1 0 hC dX1_init_0 rfl 0 rfl rfl ?_
  refine wc_objInit 4 hC dX1_init_1 oiX1 (Nat.le_of_ble_eq_true rfl) (Nat.le_of_ble_eq_true rfl) rfl ?_
  refine wc_aload_n 5 0 hC dX1_init_4 rfl 0 rfl rfl ?_
  refine wc_bipush 7 hC dX1_init_5 (v := (16 : Int32)) (by decide) rfl ?_
  refine wc_newA (t := 0) (n := 16) (ty := .int) (a0 := (16, .inl (fun _ => 0))) 9 hC dX1_init_7 (inW 212 (by decide +kernel) (by decide +kernel)) rfl rfl ra_I (fun _ => rfl) (by decide) (by decide) (by decide) ⟨Nat.le_of_ble_eq_true rfl, Nat.le_of_ble_eq_true rfl⟩ rfl (fun a1 => ?_)
  refine wc_put (ws' := (a1, .inl (gC G 0, 16, .inl (fun _ => 0))) :: (h, .inr (1, [.ref a1, .null])) :: ws) 12 1 hC dX1_init_9 fcX1_9 hnm rfl rfl rfl (Nat.le_of_ble_eq_true rfl) rfl rfl ?_
  refine wc_aload_n 13 0 hC dX1_init_12 rfl 0 rfl rfl ?_
  refine wc_bipush 15 hC dX1_init_13 (v := (16 : Int32)) (by decide) rfl ?_
  refine wc_newA (t := 1) (n := 16) (ty := .long) (a0 := (16, .inr (.inl (fun _ => 0)))) 17 hC dX1_init_15 (inW 288 (by decide +kernel) (by decide +kernel)) rfl rfl ra_J (fun _ => rfl) (by decide) (by decide) (by decide) ⟨Nat.le_of_ble_eq_true rfl, Nat.le_of_ble_eq_true rfl⟩ rfl (fun a2 => ?_)
  refine wc_put (ws' := (a2, .inl (gC G 1, 16, .inr (.inl (fun _ => 0)))) :: (a1, .inl (gC G 0, 16, .inl (fun _ => 0))) :: (h, .inr (1, [.ref a1, .ref a2])) :: ws) 20 2 hC dX1_init_17 fcX1_15 hnm rfl rfl rfl (Nat.le_of_ble_eq_true rfl) rfl rfl ?_
  exact wc_vret hC hQ ⟨Nat.le_of_ble_eq_true rfl, Nat.le_of_ble_eq_true rfl⟩ ⟨a2, a1, rfl⟩ dX1_init_20
theorem va_D.nodup {A : Nat → Prop} {ws : va_W} (h : va_D A ws) : (ws.map Prod.fst).Nodup := by
  refine List.pairwise_iff_getElem.mpr (fun i j hi hj hij e => ?_)
  rw [List.length_map] at hi hj
  have := h.1 i j ws[i] ws[j] (List.getElem?_eq_some_iff.mpr ⟨hi, rfl⟩) (List.getElem?_eq_some_iff.mpr ⟨hj, rfl⟩) (by simpa using e)
  omega
theorem va_D.ofNodup {A : Nat → Prop} {ws : va_W} (h : (ws.map Prod.fst).Nodup) (hA : ∀ q ∈ ws, A q.1) : va_D A ws := by
  refine ⟨fun i j p q hi hj e => ?_, fun k q hq => hA q (List.mem_of_getElem? hq)⟩
  obtain ⟨hi1, hi2⟩ := List.getElem?_eq_some_iff.mp hi
  obtain ⟨hj1, hj2⟩ := List.getElem?_eq_some_iff.mp hj
  have h2 := List.pairwise_iff_getElem.mp h
  rcases Nat.lt_trichotomy i j with hl | hl | hl
  · have h3 := h2 i j (by simpa using hi1) (by simpa using hj1) hl
    simp only [List.getElem_map] at h3
    rw [hi2, hj2] at h3
    exact absurd e h3
  · exact hl
  · have h3 := h2 j i (by simpa using hj1) (by simpa using hi1) hl
    simp only [List.getElem_map] at h3
    rw [hi2, hj2] at h3
    exact absurd e.symm h3
theorem CP.perm {G : gU} {Hf H : Heap} {ws ws' : va_W} (hp : ws.Perm ws') (h : CP G Hf ws H) : CP G Hf ws' H := by
  refine ⟨fun k q hq => ?_, va_D.ofNodup ((hp.map Prod.fst).nodup_iff.mp h.2.1.nodup) (fun q hq => ?_), h.2.2⟩
  · obtain ⟨k', hk'⟩ := List.mem_iff_getElem?.mp (hp.mem_iff.mpr (List.mem_of_getElem? hq))
    exact h.1 k' q hk'
  · obtain ⟨k', hk'⟩ := List.mem_iff_getElem?.mp (hp.mem_iff.mpr hq)
    exact h.2.1.2 k' q hk'
theorem wc_perm {E : eU} {G : gU} {Hf : Heap} {k1 k2 : Nat} {ws ws' : va_W} {pc : Nat} {lv : List (Nat × Value)} {st : List Value} (hp : ws.Perm ws') (kk : WC E G Hf k1 k2 ws' pc lv st) : WC E G Hf k1 k2 ws pc lv st :=
  fun H locs ls hP hO hl => kk H locs ls (hP.perm hp) hO hl
def sub4 (G : gU) (x : Nat × Nat × Nat × Nat) : va_W := [(x.2.2.2, .inl (gC G 1, 6, .inr (.inl (fun _ => 0)))), (x.2.2.1, .inl (gC G 1, 72, .inr (.inl (fun _ => 0)))), (x.2.1, .inl (gC G 0, 60, .inl (fun _ => 0))), (x.1, .inr (8, [.int 0, .int 0, .int 0, .int 0, .int 0, .int (-1 : Int32), .int 0, .ref x.2.1, .ref x.2.2.1, .ref x.2.2.2]))]
def subsW (G : gU) (hs : Nat → Nat × Nat × Nat × Nat) : Nat → va_W
  | 0 => []
  | n + 1 => sub4 G (hs n) ++ subsW G hs n
theorem subsW_len (G : gU) (hs : Nat → Nat × Nat × Nat × Nat) (n : Nat) : (subsW G hs n).length = 4 * n := by
  induction n with
  | zero => rfl
  | succ n ih => rw [subsW, List.length_append, ih]; simp only [sub4, List.length_cons, List.length_nil]; omega
theorem subsW_at (G : gU) (hs : Nat → Nat × Nat × Nat × Nat) (n : Nat) (R : va_W) (k : Nat) : (subsW G hs n ++ R)[4 * n + k]? = R[k]? := by
  rw [List.getElem?_append_right (by rw [subsW_len]; omega), subsW_len]
  congr 1
  omega
theorem subsW_set (G : gU) (hs : Nat → Nat × Nat × Nat × Nat) (n : Nat) (R : va_W) (v : Nat × va_E) : (subsW G hs n ++ R).set (4 * n) v = subsW G hs n ++ R.set 0 v := by
  rw [List.set_append_right _ _ (by rw [subsW_len]; exact Nat.le_refl _), subsW_len, Nat.sub_self]
theorem subsW_congr (G : gU) {hs hs' : Nat → Nat × Nat × Nat × Nat} (n : Nat) (h : ∀ j, j < n → hs j = hs' j) : subsW G hs n = subsW G hs' n := by
  induction n with
  | zero => rfl
  | succ n ih => rw [subsW, subsW, h n (Nat.lt_succ_self n), ih (fun j hj => h j (Nat.lt_succ_of_lt hj))]
abbrev arrS (G : gU) (hs : Nat → Nat × Nat × Nat × Nat) (n : Nat) : va_E := .inl (gC G 4, 16, .inr (.inr (.inr (.inr (fun j => if j < n then some (hs j).1 else none)))))
theorem i16_cl : ∀ i, i < 16 → (Int32.ofNat i).toNatClampNeg = i ∧ ¬ (16 : Int32) ≤ Int32.ofNat i ∧ Int32.ofNat i + Int32.ofInt 1 = Int32.ofNat (i + 1) ∧ inb (Int32.ofNat i) 16 = true := by decide +kernel
theorem fcX0_27 : FC RX0 27 0 2 (.array (.object "SolarLedger$Subscriber")) true := ⟨_, _, _, tyX0, rfl, inX0, tyX0_ok, nmX0, by decide, inW 294 (by decide +kernel) (by decide +kernel), rfl, rfl, rfl⟩
theorem nwX0_25 : NWc RX0 25 8 10 [.int 0, .int 0, .int 0, .int 0, .int 0, .int 0, .int 0, .null, .null, .null] := ⟨RX8, TX8, tyX8, rfl, inX8, tyX8_ok, inW 228 (by decide +kernel) (by decide +kernel), inW 230 (by decide +kernel) (by decide +kernel), inW 132 (by decide +kernel) (by decide +kernel), fun j hj => by match j, hj with | 0, _ => rfl | 1, _ => rfl | 2, _ => rfl | 3, _ => rfl | 4, _ => rfl | 5, _ => rfl | 6, _ => rfl | 7, _ => rfl | 8, _ => rfl | 9, _ => rfl | j + 10, hj => exact absurd hj (by omega)⟩
theorem oiX0 : Cond.methodLink RX0 3 Lib.objectInit ∈ ALLW ∧ Cond.instanceMethod Lib.objectInit ∈ ALLW ∧ Cond.code Lib.objectInit ⟨#[0xb1]⟩ 1 none ∈ ALLW := ⟨inW 166 (by decide +kernel) (by decide +kernel), inW 159 (by decide +kernel) (by decide +kernel), inW 160 (by decide +kernel) (by decide +kernel)⟩
theorem nwX0_9 : NWc RX0 9 4 7 [.int 0, .int 0, .int 0, .int 0, .int 0, .null, .null] := ⟨RX4, TX4, tyX4, rfl, inX4, tyX4_ok, inW 167 (by decide +kernel) (by decide +kernel), inW 168 (by decide +kernel) (by decide +kernel), inW 130 (by decide +kernel) (by decide +kernel), fun j hj => by match j, hj with | 0, _ => rfl | 1, _ => rfl | 2, _ => rfl | 3, _ => rfl | 4, _ => rfl | 5, _ => rfl | 6, _ => rfl | j + 7, hj => exact absurd hj (by omega)⟩
theorem liX0_11 : (Cond.methodLink RX0 11 yX4_init ∈ ALLW ∨ ∃ host, Cond.methodLinkNest RX0 11 yX4_init host ∈ NW) ∧ Cond.instanceMethod yX4_init ∈ ALLW := ⟨Or.inr ⟨"SolarLedger", inN 42 (by decide +kernel) (by decide +kernel)⟩, inW 170 (by decide +kernel) (by decide +kernel)⟩
theorem fcX0_12 : FC RX0 12 0 0 (.object "SolarLedger$Garden") true := ⟨_, _, _, tyX0, rfl, inX0, tyX0_ok, nmX0, by decide, inW 289 (by decide +kernel) (by decide +kernel), rfl, rfl, rfl⟩
theorem nwX0_18 : NWc RX0 18 7 2 [.null, .null] := ⟨RX7, TX7, tyX7, rfl, inX7, tyX7_ok, inW 213 (by decide +kernel) (by decide +kernel), inW 214 (by decide +kernel) (by decide +kernel), inW 131 (by decide +kernel) (by decide +kernel), fun j hj => by match j, hj with | 0, _ => rfl | 1, _ => rfl | j + 2, hj => exact absurd hj (by omega)⟩
theorem liX0_20 : (Cond.methodLink RX0 20 yX7_init ∈ ALLW ∨ ∃ host, Cond.methodLinkNest RX0 20 yX7_init host ∈ NW) ∧ Cond.instanceMethod yX7_init ∈ ALLW := ⟨Or.inr ⟨"SolarLedger", inN 88 (by decide +kernel) (by decide +kernel)⟩, inW 216 (by decide +kernel) (by decide +kernel)⟩
theorem knX7_init : KN yX7_init cX7_init 1 none 0 := ⟨inW 217 (by decide +kernel) (by decide +kernel), inW 131 (by decide +kernel) (by decide +kernel), (by decide +kernel), (by decide +kernel), (by decide +kernel)⟩
theorem fcX0_21 : FC RX0 21 0 1 (.object "SolarLedger$Meter") true := ⟨_, _, _, tyX0, rfl, inX0, tyX0_ok, nmX0, by decide, inW 292 (by decide +kernel) (by decide +kernel), rfl, rfl, rfl⟩
theorem liX0_31 : (Cond.methodLink RX0 31 yX8_init ∈ ALLW ∨ ∃ host, Cond.methodLinkNest RX0 31 yX8_init host ∈ NW) ∧ Cond.instanceMethod yX8_init ∈ ALLW := ⟨Or.inr ⟨"SolarLedger", inN 104 (by decide +kernel) (by decide +kernel)⟩, inW 232 (by decide +kernel) (by decide +kernel)⟩
theorem knX8_init : KN yX8_init cX8_init 1 none 0 := ⟨inW 233 (by decide +kernel) (by decide +kernel), inW 132 (by decide +kernel) (by decide +kernel), (by decide +kernel), (by decide +kernel), (by decide +kernel)⟩
theorem mcX0_L {E : eU} {G : gU} {Hf : Heap} (hHf : HB G Hf) (hC : CX E G cX0_init 2 RX0 none 2 71 2901) (hnm : (eT E).name = "<init>") (h qa : Nat) (bf : List Value) (hbf : bf[2]? = some (.ref qa)) (R : va_W) (hR : R[6]? = some (h, .inr (0, bf)))
    (kend : ∀ hs, WC E G Hf 71 2901 (subsW G hs 16 ++ (qa, arrS G hs 16) :: R) 62 [(1, .int 16), (0, .ref h)] []) : ∀ n i, i + n = 16 → ∀ hs, WC E G Hf (7 + 4 * i) (533 + 148 * i) (subsW G hs i ++ (qa, arrS G hs i) :: R) 37 [(1, .int (Int32.ofNat i)), (0, .ref h)] [] := by
  intro n
  induction n with
  | zero =>
    intro i hi hs
    have e : i = 16 := by omega
    subst e
    refine wc_iload_n 38 1 hC dX0_init_37 rfl 0 rfl rfl ?_
    refine wc_bipush 40 hC dX0_init_38 (v := (16 : Int32)) (by decide) rfl ?_
    refine wc_geT 62 hC dX0_init_40 rfl (by decide) ?_
    exact kend hs
  | succ n ih =>
    intro i hi hs
    obtain ⟨g1, g2, g3, g4⟩ := i16_cl i (by omega)
    refine wc_iload_n 38 1 hC dX0_init_37 rfl 0 rfl rfl ?_
    refine wc_bipush 40 hC dX0_init_38 (v := (16 : Int32)) (by decide) rfl ?_
    refine wc_geF 43 62 hC dX0_init_40 rfl rfl g2 ?_
    refine wc_aload_n 44 0 hC dX0_init_43 rfl 1 rfl rfl ?_
    refine wc_getR (kc := 0) (k := 2) (v := .ref qa) 47 (4 * i + 7) hC dX0_init_44 fcX0_27 ((subsW_at G hs i _ 7).trans hR) hbf rfl ?_
    refine wc_iload_n 48 1 hC dX0_init_47 rfl 0 rfl rfl ?_
    refine wc_new 51 hC dX0_init_48 nwX0_25 ⟨by omega, by omega⟩ rfl (fun a => ?_)
    refine wc_dup 52 hC dX0_init_51 rfl rfl ?_
    refine wc_call 55 hC dX0_init_52 knX8_init rfl liX0_31 (mcX8 E.2.1 hHf a _) (Nat.le_of_ble_eq_true rfl) (Nat.le_of_ble_eq_true rfl) (Nat.le_of_ble_eq_true rfl) ⟨by omega, by omega⟩ rfl ?_
    rintro _ ⟨a3, a2, a1, rfl⟩
    have e1 : 7 + 4 * i + 1 + 3 = 7 + 4 * (i + 1) := by omega
    have e2 : 533 + 148 * i + 10 + 138 = 533 + 148 * (i + 1) := by omega
    rw [e1, e2]
    have hs1 : ∀ j, j < i → hs j = (fun j => if j = i then (a, a1, a2, a3) else hs j) j := fun j hj => (if_neg (by omega : ¬ j = i)).symm
    have hf9 : va_up (fun j => if j < i then some (hs j).1 else none) (Int32.ofNat i).toNatClampNeg (some a) = fun j => if j < i + 1 then some ((fun j => if j = i then (a, a1, a2, a3) else hs j) j).1 else none := by
      funext j
      rw [g1]
      by_cases h1 : j = i
      · subst h1
        simp [va_up]
      · by_cases h2 : j < i
        · simp [va_up, h1, h2, Nat.lt_succ_of_lt h2]
        · have h3 : ¬ j < i + 1 := by omega
          simp [va_up, h1, h2, h3]
    refine wc_astq (r := (RX8, TX8, 10)) (ws' := subsW G (fun j => if j = i then (a, a1, a2, a3) else hs j) (i + 1) ++ (qa, arrS G (fun j => if j = i then (a, a1, a2, a3) else hs j) (i + 1)) :: R) 56 (4 * i + 4) 3 4 hC dX0_init_55 (subsW_at G hs i _ 0) rfl rfl rfl g4 rfl ?_ ?_
    · show sub4 G (a, a1, a2, a3) ++ (subsW G hs i ++ (qa, _) :: R).set (4 * i) _ = _
      rw [subsW_set, hf9, subsW, subsW_congr G i hs1]
      show _ = sub4 G (if i = i then (a, a1, a2, a3) else hs i) ++ _ ++ _
      rw [if_pos rfl, List.append_assoc]
      rfl
    refine wc_iinc (lv' := [(1, .int (Int32.ofNat (i + 1))), (0, .ref h)]) 59 1 hC dX0_init_56 0 rfl g3 (by decide) rfl rfl ?_
    refine wc_goto 37 hC dX0_init_59 rfl ?_
    exact ih (i + 1) (by omega) _
theorem mcX0 (l : Launch) {G : gU} {Hf : Heap} (hHf : HB G Hf) (h : Nat) (ws : va_W) : MC l yX0_init cX0_init 2 2 71 2901 G Hf [.ref h] ((h, .inr (0, [.null, .null, .null, .int 0, .int 0, .int 0, .long 0, .long 0])) :: ws) (fun ws' => ∃ hs : Nat → Nat × Nat × Nat × Nat, ∃ a7 a5 a6 a4 a2 a3 a1 : Nat, ws' = (a7, arrS G hs 16) :: (a5, .inl (gC G 0, 240, .inl (fun _ => 0))) :: (a6, .inl (gC G 0, 240, .inl (fun _ => 0))) :: (a4, .inr (7, [.ref a6, .ref a5])) :: (a2, .inl (gC G 0, 24, .inl (fun _ => 0))) :: (a3, .inl (gC G 0, 4, .inl (upd (upd (upd (upd (fun _ => 0) (0 : Int32).toNatClampNeg (10 : Int32)) (1 : Int32).toNatClampNeg (0 : Int32)) (2 : Int32).toNatClampNeg (0 : Int32)) (3 : Int32).toNatClampNeg (0 : Int32)))) :: (a1, .inr (4, [.int (1000 : Int32), .int (12 : Int32), .int (50 : Int32), .int (100 : Int32), .int (1 : Int32), .ref a3, .ref a2])) :: (h, .inr (0, [.ref a1, .ref a4, .ref a7, .int 0, .int 0, .int 0, .long 0, .long 0])) :: (subsW G hs 16 ++ ws)) := by
  refine vc_enter (lv := [(0, .ref h)]) RX0 rfl (by decide) rfl (Nat.le_of_ble_eq_true rfl) rfl hHf ?_
  intro E hE hC hQ hnm
  subst hE
  refine wc_aload_n 1 0 hC dX0_init_0 rfl 0 rfl rfl ?_
  refine wc_objInit 4 hC dX0_init_1 oiX0 (Nat.le_of_ble_eq_true rfl) (Nat.le_of_ble_eq_true rfl) rfl ?_
  refine wc_aload_n 5 0 hC dX0_init_4 rfl 0 rfl rfl ?_
  refine wc_new 8 hC dX0_init_5 nwX0_9 ⟨Nat.le_of_ble_eq_true rfl, Nat.le_of_ble_eq_true rfl⟩ rfl (fun a1 => ?_)
  refine wc_dup 9 hC dX0_init_8 rfl rfl ?_
  refine wc_call 12 hC dX0_init_9 knX4_init rfl liX0_11 (mcX4 E.2.1 hHf a1 _) (Nat.le_of_ble_eq_true rfl) (Nat.le_of_ble_eq_true rfl) (Nat.le_of_ble_eq_true rfl) ⟨Nat.le_of_ble_eq_true rfl, Nat.le_of_ble_eq_true rfl⟩ rfl ?_
  rintro _ ⟨a2, a3, rfl⟩
  refine wc_put (ws' := (a2, .inl (gC G 0, 24, .inl (fun _ => 0))) :: (a3, .inl (gC G 0, 4, .inl (upd (upd (upd (upd (fun _ => 0) (0 : Int32).toNatClampNeg (10 : Int32)) (1 : Int32).toNatClampNeg (0 : Int32)) (2 : Int32).toNatClampNeg (0 : Int32)) (3 : Int32).toNatClampNeg (0 : Int32)))) :: (a1, .inr (4, [.int (1000 : Int32), .int (12 : Int32), .int (50 : Int32), .int (100 : Int32), .int (1 : Int32), .ref a3, .ref a2])) :: (h, .inr (0, [.ref a1, .null, .null, .int 0, .int 0, .int 0, .long 0, .long 0])) :: ws) 15 3 hC dX0_init_12 fcX0_12 hnm rfl rfl rfl (Nat.le_of_ble_eq_true rfl) rfl rfl ?_
  refine wc_aload_n 16 0 hC dX0_init_15 rfl 0 rfl rfl ?_
  refine wc_new 19 hC dX0_init_16 nwX0_18 ⟨Nat.le_of_ble_eq_true rfl, Nat.le_of_ble_eq_true rfl⟩ rfl (fun a4 => ?_)
  refine wc_dup 20 hC dX0_init_19 rfl rfl ?_
  refine wc_call 23 hC dX0_init_20 knX7_init rfl liX0_20 (mcX7 E.2.1 hHf a4 _) (Nat.le_of_ble_eq_true rfl) (Nat.le_of_ble_eq_true rfl) (Nat.le_of_ble_eq_true rfl) ⟨Nat.le_of_ble_eq_true rfl, Nat.le_of_ble_eq_true rfl⟩ rfl ?_
  rintro _ ⟨a5, a6, rfl⟩
  refine wc_put (ws' := (a5, .inl (gC G 0, 240, .inl (fun _ => 0))) :: (a6, .inl (gC G 0, 240, .inl (fun _ => 0))) :: (a4, .inr (7, [.ref a6, .ref a5])) :: (a2, .inl (gC G 0, 24, .inl (fun _ => 0))) :: (a3, .inl (gC G 0, 4, .inl (upd (upd (upd (upd (fun _ => 0) (0 : Int32).toNatClampNeg (10 : Int32)) (1 : Int32).toNatClampNeg (0 : Int32)) (2 : Int32).toNatClampNeg (0 : Int32)) (3 : Int32).toNatClampNeg (0 : Int32)))) :: (a1, .inr (4, [.int (1000 : Int32), .int (12 : Int32), .int (50 : Int32), .int (100 : Int32), .int (1 : Int32), .ref a3, .ref a2])) :: (h, .inr (0, [.ref a1, .ref a4, .null, .int 0, .int 0, .int 0, .long 0, .long 0])) :: ws) 26 6 hC dX0_init_23 fcX0_21 hnm rfl rfl rfl (Nat.le_of_ble_eq_true rfl) rfl rfl ?_
  refine wc_aload_n 27 0 hC dX0_init_26 rfl 0 rfl rfl ?_
  refine wc_bipush 29 hC dX0_init_27 (v := (16 : Int32)) (by decide) rfl ?_
  refine wc_newQ (t := 4) (n := 16) 32 hC dX0_init_29 (inW 228 (by decide +kernel) (by decide +kernel)) hC.2.2.2.2.2.1.2.2.2.2.2.2.2.2.2.1 rfl (by decide) (by decide) (by decide) ⟨Nat.le_of_ble_eq_true rfl, Nat.le_of_ble_eq_true rfl⟩ rfl (fun a7 => ?_)
  refine wc_put (ws' := (a7, .inl (gC G 4, 16, .inr (.inr (.inr (.inr (fun _ => none)))))) :: (a5, .inl (gC G 0, 240, .inl (fun _ => 0))) :: (a6, .inl (gC G 0, 240, .inl (fun _ => 0))) :: (a4, .inr (7, [.ref a6, .ref a5])) :: (a2, .inl (gC G 0, 24, .inl (fun _ => 0))) :: (a3, .inl (gC G 0, 4, .inl (upd (upd (upd (upd (fun _ => 0) (0 : Int32).toNatClampNeg (10 : Int32)) (1 : Int32).toNatClampNeg (0 : Int32)) (2 : Int32).toNatClampNeg (0 : Int32)) (3 : Int32).toNatClampNeg (0 : Int32)))) :: (a1, .inr (4, [.int (1000 : Int32), .int (12 : Int32), .int (50 : Int32), .int (100 : Int32), .int (1 : Int32), .ref a3, .ref a2])) :: (h, .inr (0, [.ref a1, .ref a4, .ref a7, .int 0, .int 0, .int 0, .long 0, .long 0])) :: ws) 35 7 hC dX0_init_32 fcX0_27 hnm rfl rfl rfl (Nat.le_of_ble_eq_true rfl) rfl rfl ?_
  refine wc_iconst 36 hC dX0_init_35 (v := (0 : Int32)) (by decide) rfl ?_
  refine wc_istore_n (lv' := [(1, .int (0 : Int32)), (0, .ref h)]) 37 1 hC dX0_init_36 rfl (by decide) rfl rfl ?_
  refine mcX0_L hHf hC hnm h a7 _ rfl ((a5, .inl (gC G 0, 240, .inl (fun _ => 0))) :: (a6, .inl (gC G 0, 240, .inl (fun _ => 0))) :: (a4, .inr (7, [.ref a6, .ref a5])) :: (a2, .inl (gC G 0, 24, .inl (fun _ => 0))) :: (a3, .inl (gC G 0, 4, .inl (upd (upd (upd (upd (fun _ => 0) (0 : Int32).toNatClampNeg (10 : Int32)) (1 : Int32).toNatClampNeg (0 : Int32)) (2 : Int32).toNatClampNeg (0 : Int32)) (3 : Int32).toNatClampNeg (0 : Int32)))) :: (a1, .inr (4, [.int (1000 : Int32), .int (12 : Int32), .int (50 : Int32), .int (100 : Int32), .int (1 : Int32), .ref a3, .ref a2])) :: (h, .inr (0, [.ref a1, .ref a4, .ref a7, .int 0, .int 0, .int 0, .long 0, .long 0])) :: ws) rfl (fun hs => ?_) 16 0 rfl (fun _ => (0, 0, 0, 0))
  refine wc_perm (ws' := (a7, arrS G hs 16) :: (a5, .inl (gC G 0, 240, .inl (fun _ => 0))) :: (a6, .inl (gC G 0, 240, .inl (fun _ => 0))) :: (a4, .inr (7, [.ref a6, .ref a5])) :: (a2, .inl (gC G 0, 24, .inl (fun _ => 0))) :: (a3, .inl (gC G 0, 4, .inl (upd (upd (upd (upd (fun _ => 0) (0 : Int32).toNatClampNeg (10 : Int32)) (1 : Int32).toNatClampNeg (0 : Int32)) (2 : Int32).toNatClampNeg (0 : Int32)) (3 : Int32).toNatClampNeg (0 : Int32)))) :: (a1, .inr (4, [.int (1000 : Int32), .int (12 : Int32), .int (50 : Int32), .int (100 : Int32), .int (1 : Int32), .ref a3, .ref a2])) :: (h, .inr (0, [.ref a1, .ref a4, .ref a7, .int 0, .int 0, .int 0, .long 0, .long 0])) :: (subsW G hs 16 ++ ws)) (List.perm_append_comm_assoc (subsW G hs 16) [(a7, arrS G hs 16), (a5, .inl (gC G 0, 240, .inl (fun _ => 0))), (a6, .inl (gC G 0, 240, .inl (fun _ => 0))), (a4, .inr (7, [.ref a6, .ref a5])), (a2, .inl (gC G 0, 24, .inl (fun _ => 0))), (a3, .inl (gC G 0, 4, .inl (upd (upd (upd (upd (fun _ => 0) (0 : Int32).toNatClampNeg (10 : Int32)) (1 : Int32).toNatClampNeg (0 : Int32)) (2 : Int32).toNatClampNeg (0 : Int32)) (3 : Int32).toNatClampNeg (0 : Int32)))), (a1, .inr (4, [.int (1000 : Int32), .int (12 : Int32), .int (50 : Int32), .int (100 : Int32), .int (1 : Int32), .ref a3, .ref a2])), (h, .inr (0, [.ref a1, .ref a4, .ref a7, .int 0, .int 0, .int 0, .long 0, .long 0]))] ws) ?_
  exact wc_vret hC hQ ⟨Nat.le_of_ble_eq_true rfl, Nat.le_of_ble_eq_true rfl⟩ ⟨hs, a7, a5, a6, a4, a2, a3, a1, rfl⟩ dX0_init_62
theorem oiX9 : Cond.methodLink RX9 3 Lib.objectInit ∈ ALLW ∧ Cond.instanceMethod Lib.objectInit ∈ ALLW ∧ Cond.code Lib.objectInit ⟨#[0xb1]⟩ 1 none ∈ ALLW := ⟨inW 158 (by decide +kernel) (by decide +kernel), inW 159 (by decide +kernel) (by decide +kernel), inW 160 (by decide +kernel) (by decide +kernel)⟩
theorem nwX9_9 : NWc RX9 9 0 8 [.null, .null, .null, .int 0, .int 0, .int 0, .long 0, .long 0] := ⟨RX0, TX0, tyX0, rfl, inX0, tyX0_ok, inW 161 (by decide +kernel) (by decide +kernel), inW 162 (by decide +kernel) (by decide +kernel), inW 129 (by decide +kernel) (by decide +kernel), fun j hj => by match j, hj with | 0, _ => rfl | 1, _ => rfl | 2, _ => rfl | 3, _ => rfl | 4, _ => rfl | 5, _ => rfl | 6, _ => rfl | 7, _ => rfl | j + 8, hj => exact absurd hj (by omega)⟩
theorem liX9_11 : (Cond.methodLink RX9 11 yX0_init ∈ ALLW ∨ ∃ host, Cond.methodLinkNest RX9 11 yX0_init host ∈ NW) ∧ Cond.instanceMethod yX0_init ∈ ALLW := ⟨Or.inr ⟨"SolarLedger", inN 36 (by decide +kernel) (by decide +kernel)⟩, inW 164 (by decide +kernel) (by decide +kernel)⟩
theorem knX0_init : KN yX0_init cX0_init 2 none 0 := ⟨inW 165 (by decide +kernel) (by decide +kernel), inW 129 (by decide +kernel) (by decide +kernel), (by decide +kernel), (by decide +kernel), (by decide +kernel)⟩
theorem fcX9_12 : FC RX9 12 9 0 (.object "SolarLedger$Books") true := ⟨_, _, _, tyX9, rfl, inX9, tyX9_ok, nmX9, by decide, inW 429 (by decide +kernel) (by decide +kernel), rfl, rfl, rfl⟩
theorem nwX9_16 : NWc RX9 16 6 3 [.null, .int 0, .int 0] := ⟨RX6, TX6, tyX6, rfl, inX6, tyX6_ok, inW 328 (by decide +kernel) (by decide +kernel), inW 329 (by decide +kernel) (by decide +kernel), inW 133 (by decide +kernel) (by decide +kernel), fun j hj => by match j, hj with | 0, _ => rfl | 1, _ => rfl | 2, _ => rfl | j + 3, hj => exact absurd hj (by omega)⟩
theorem liX9_18 : (Cond.methodLink RX9 18 yX6_init ∈ ALLW ∨ ∃ host, Cond.methodLinkNest RX9 18 yX6_init host ∈ NW) ∧ Cond.instanceMethod yX6_init ∈ ALLW := ⟨Or.inr ⟨"SolarLedger", inN 203 (by decide +kernel) (by decide +kernel)⟩, inW 331 (by decide +kernel) (by decide +kernel)⟩
theorem knX6_init : KN yX6_init cX6_init 1 none 0 := ⟨inW 332 (by decide +kernel) (by decide +kernel), inW 133 (by decide +kernel) (by decide +kernel), (by decide +kernel), (by decide +kernel), (by decide +kernel)⟩
theorem fcX9_19 : FC RX9 19 9 1 (.object "SolarLedger$History") true := ⟨_, _, _, tyX9, rfl, inX9, tyX9_ok, nmX9, by decide, inW 430 (by decide +kernel) (by decide +kernel), rfl, rfl, rfl⟩
theorem nwX9_23 : NWc RX9 23 5 6 [.null, .int 0, .int 0, .int 0, .int 0, .null] := ⟨RX5, TX5, tyX5, rfl, inX5, tyX5_ok, inW 347 (by decide +kernel) (by decide +kernel), inW 348 (by decide +kernel) (by decide +kernel), inW 134 (by decide +kernel) (by decide +kernel), fun j hj => by match j, hj with | 0, _ => rfl | 1, _ => rfl | 2, _ => rfl | 3, _ => rfl | 4, _ => rfl | 5, _ => rfl | j + 6, hj => exact absurd hj (by omega)⟩
theorem liX9_25 : (Cond.methodLink RX9 25 yX5_init ∈ ALLW ∨ ∃ host, Cond.methodLinkNest RX9 25 yX5_init host ∈ NW) ∧ Cond.instanceMethod yX5_init ∈ ALLW := ⟨Or.inr ⟨"SolarLedger", inN 222 (by decide +kernel) (by decide +kernel)⟩, inW 350 (by decide +kernel) (by decide +kernel)⟩
theorem knX5_init : KN yX5_init cX5_init 1 none 0 := ⟨inW 351 (by decide +kernel) (by decide +kernel), inW 134 (by decide +kernel) (by decide +kernel), (by decide +kernel), (by decide +kernel), (by decide +kernel)⟩
theorem fcX9_26 : FC RX9 26 9 2 (.object "SolarLedger$GardenText") true := ⟨_, _, _, tyX9, rfl, inX9, tyX9_ok, nmX9, by decide, inW 431 (by decide +kernel) (by decide +kernel), rfl, rfl, rfl⟩
theorem nwX9_30 : NWc RX9 30 2 2 [.null, .int 0] := ⟨RX2, TX2, tyX2, rfl, inX2, tyX2_ok, inW 378 (by decide +kernel) (by decide +kernel), inW 379 (by decide +kernel) (by decide +kernel), inW 135 (by decide +kernel) (by decide +kernel), fun j hj => by match j, hj with | 0, _ => rfl | 1, _ => rfl | j + 2, hj => exact absurd hj (by omega)⟩
theorem liX9_32 : (Cond.methodLink RX9 32 yX2_init ∈ ALLW ∨ ∃ host, Cond.methodLinkNest RX9 32 yX2_init host ∈ NW) ∧ Cond.instanceMethod yX2_init ∈ ALLW := ⟨Or.inr ⟨"SolarLedger", inN 253 (by decide +kernel) (by decide +kernel)⟩, inW 381 (by decide +kernel) (by decide +kernel)⟩
theorem knX2_init : KN yX2_init cX2_init 1 none 0 := ⟨inW 382 (by decide +kernel) (by decide +kernel), inW 135 (by decide +kernel) (by decide +kernel), (by decide +kernel), (by decide +kernel), (by decide +kernel)⟩
theorem fcX9_33 : FC RX9 33 9 3 (.object "SolarLedger$Description") true := ⟨_, _, _, tyX9, rfl, inX9, tyX9_ok, nmX9, by decide, inW 432 (by decide +kernel) (by decide +kernel), rfl, rfl, rfl⟩
theorem nwX9_37 : NWc RX9 37 3 4 [.null, .long 0, .null, .null] := ⟨RX3, TX3, tyX3, rfl, inX3, tyX3_ok, inW 393 (by decide +kernel) (by decide +kernel), inW 394 (by decide +kernel) (by decide +kernel), inW 136 (by decide +kernel) (by decide +kernel), fun j hj => by match j, hj with | 0, _ => rfl | 1, _ => rfl | 2, _ => rfl | 3, _ => rfl | j + 4, hj => exact absurd hj (by omega)⟩
theorem liX9_39 : (Cond.methodLink RX9 39 yX3_init ∈ ALLW ∨ ∃ host, Cond.methodLinkNest RX9 39 yX3_init host ∈ NW) ∧ Cond.instanceMethod yX3_init ∈ ALLW := ⟨Or.inr ⟨"SolarLedger", inN 268 (by decide +kernel) (by decide +kernel)⟩, inW 396 (by decide +kernel) (by decide +kernel)⟩
theorem knX3_init : KN yX3_init cX3_init 1 none 0 := ⟨inW 397 (by decide +kernel) (by decide +kernel), inW 136 (by decide +kernel) (by decide +kernel), (by decide +kernel), (by decide +kernel), (by decide +kernel)⟩
theorem fcX9_40 : FC RX9 40 9 4 (.object "SolarLedger$Division") true := ⟨_, _, _, tyX9, rfl, inX9, tyX9_ok, nmX9, by decide, inW 433 (by decide +kernel) (by decide +kernel), rfl, rfl, rfl⟩
theorem nwX9_44 : NWc RX9 44 1 2 [.null, .null] := ⟨RX1, TX1, tyX1, rfl, inX1, tyX1_ok, inW 413 (by decide +kernel) (by decide +kernel), inW 414 (by decide +kernel) (by decide +kernel), inW 137 (by decide +kernel) (by decide +kernel), fun j hj => by match j, hj with | 0, _ => rfl | 1, _ => rfl | j + 2, hj => exact absurd hj (by omega)⟩
theorem liX9_46 : (Cond.methodLink RX9 46 yX1_init ∈ ALLW ∨ ∃ host, Cond.methodLinkNest RX9 46 yX1_init host ∈ NW) ∧ Cond.instanceMethod yX1_init ∈ ALLW := ⟨Or.inr ⟨"SolarLedger", inN 288 (by decide +kernel) (by decide +kernel)⟩, inW 416 (by decide +kernel) (by decide +kernel)⟩
theorem knX1_init : KN yX1_init cX1_init 1 none 0 := ⟨inW 417 (by decide +kernel) (by decide +kernel), inW 137 (by decide +kernel) (by decide +kernel), (by decide +kernel), (by decide +kernel), (by decide +kernel)⟩
theorem fcX9_47 : FC RX9 47 9 5 (.object "SolarLedger$Credits") true := ⟨_, _, _, tyX9, rfl, inX9, tyX9_ok, nmX9, by decide, inW 434 (by decide +kernel) (by decide +kernel), rfl, rfl, rfl⟩
theorem nwX9_51 : NWc RX9 51 8 10 [.int 0, .int 0, .int 0, .int 0, .int 0, .int 0, .int 0, .null, .null, .null] := ⟨RX8, TX8, tyX8, rfl, inX8, tyX8_ok, inW 427 (by decide +kernel) (by decide +kernel), inW 230 (by decide +kernel) (by decide +kernel), inW 132 (by decide +kernel) (by decide +kernel), fun j hj => by match j, hj with | 0, _ => rfl | 1, _ => rfl | 2, _ => rfl | 3, _ => rfl | 4, _ => rfl | 5, _ => rfl | 6, _ => rfl | 7, _ => rfl | 8, _ => rfl | 9, _ => rfl | j + 10, hj => exact absurd hj (by omega)⟩
theorem liX9_53 : (Cond.methodLink RX9 53 yX8_init ∈ ALLW ∨ ∃ host, Cond.methodLinkNest RX9 53 yX8_init host ∈ NW) ∧ Cond.instanceMethod yX8_init ∈ ALLW := ⟨Or.inr ⟨"SolarLedger", inN 301 (by decide +kernel) (by decide +kernel)⟩, inW 232 (by decide +kernel) (by decide +kernel)⟩
theorem fcX9_54 : FC RX9 54 9 6 (.object "SolarLedger$Subscriber") true := ⟨_, _, _, tyX9, rfl, inX9, tyX9_ok, nmX9, by decide, inW 435 (by decide +kernel) (by decide +kernel), rfl, rfl, rfl⟩
theorem fcX9_58 : FC RX9 58 9 7 .int false := ⟨_, _, _, tyX9, rfl, inX9, tyX9_ok, nmX9, by decide, inW 436 (by decide +kernel) (by decide +kernel), rfl, rfl, rfl⟩
theorem mcX9 (l : Launch) {G : gU} {Hf : Heap} (hHf : HB G Hf) (h : Nat) (ws : va_W) : MC l yX9_init cX9_init 1 3 92 3578 G Hf [.ref h] ((h, .inr (9, [.null, .null, .null, .null, .null, .null, .null, .int 0])) :: ws) (fun ws' => ∃ hs : Nat → Nat × Nat × Nat × Nat, ∃ a26 a27 a28 a25 a23 a24 a22 a19 a20 a21 a18 a17 a16 a12 a13 a14 a15 a11 a10 a9 a2 a3 a4 a5 a6 a7 a8 a1 : Nat, ws' = (a26, .inl (gC G 1, 6, .inr (.inl (fun _ => 0)))) :: (a27, .inl (gC G 1, 72, .inr (.inl (fun _ => 0)))) :: (a28, .inl (gC G 0, 60, .inl (fun _ => 0))) :: (a25, .inr (8, [.int 0, .int 0, .int 0, .int 0, .int 0, .int (-1 : Int32), .int 0, .ref a28, .ref a27, .ref a26])) :: (a23, .inl (gC G 1, 16, .inr (.inl (fun _ => 0)))) :: (a24, .inl (gC G 0, 16, .inl (fun _ => 0))) :: (a22, .inr (1, [.ref a24, .ref a23])) :: (a19, .inl (gC G 1, 17, .inr (.inl (fun _ => 0)))) :: (a20, .inl (gC G 1, 17, .inr (.inl (fun _ => 0)))) :: (a21, .inl (gC G 1, 17, .inr (.inl (fun _ => 0)))) :: (a18, .inr (3, [.ref a21, .long 0, .ref a20, .ref a19])) :: (a17, .inl (gC G 2, 80, .inl (fun _ => 0))) :: (a16, .inr (2, [.ref a17, .int 0])) :: (a12, .inl (gC G 0, 24, .inl (fun _ => 0))) :: (a13, .inl (gC G 0, 4, .inl (upd (upd (upd (upd (fun _ => 0) (0 : Int32).toNatClampNeg (10 : Int32)) (1 : Int32).toNatClampNeg (0 : Int32)) (2 : Int32).toNatClampNeg (0 : Int32)) (3 : Int32).toNatClampNeg (0 : Int32)))) :: (a14, .inr (4, [.int (1000 : Int32), .int (12 : Int32), .int (50 : Int32), .int (100 : Int32), .int (1 : Int32), .ref a13, .ref a12])) :: (a15, .inl (gC G 2, 300, .inl (fun _ => 0))) :: (a11, .inr (5, [.ref a15, .int 0, .int 0, .int 0, .int 0, .ref a14])) :: (a10, .inl (gC G 5, 6, .inr (.inr (.inr (.inr (fun _ => none)))))) :: (a9, .inr (6, [.ref a10, .int 0, .int 0])) :: (a2, arrS G hs 16) :: (a3, .inl (gC G 0, 240, .inl (fun _ => 0))) :: (a4, .inl (gC G 0, 240, .inl (fun _ => 0))) :: (a5, .inr (7, [.ref a4, .ref a3])) :: (a6, .inl (gC G 0, 24, .inl (fun _ => 0))) :: (a7, .inl (gC G 0, 4, .inl (upd (upd (upd (upd (fun _ => 0) (0 : Int32).toNatClampNeg (10 : Int32)) (1 : Int32).toNatClampNeg (0 : Int32)) (2 : Int32).toNatClampNeg (0 : Int32)) (3 : Int32).toNatClampNeg (0 : Int32)))) :: (a8, .inr (4, [.int (1000 : Int32), .int (12 : Int32), .int (50 : Int32), .int (100 : Int32), .int (1 : Int32), .ref a7, .ref a6])) :: (a1, .inr (0, [.ref a8, .ref a5, .ref a2, .int 0, .int 0, .int 0, .long 0, .long 0])) :: (h, .inr (9, [.ref a1, .ref a9, .ref a11, .ref a16, .ref a18, .ref a22, .ref a25, .int (-1 : Int32)])) :: (subsW G hs 16 ++ ws)) := by
  refine vc_enter (lv := [(0, .ref h)]) RX9 rfl (by decide) rfl (Nat.le_of_ble_eq_true rfl) rfl hHf ?_
  intro E hE hC hQ hnm
  subst hE
  refine wc_aload_n 1 0 hC dX9_init_0 rfl 0 rfl rfl ?_
  refine wc_objInit 4 hC dX9_init_1 oiX9 (Nat.le_of_ble_eq_true rfl) (Nat.le_of_ble_eq_true rfl) rfl ?_
  refine wc_aload_n 5 0 hC dX9_init_4 rfl 0 rfl rfl ?_
  refine wc_new 8 hC dX9_init_5 nwX9_9 ⟨Nat.le_of_ble_eq_true rfl, Nat.le_of_ble_eq_true rfl⟩ rfl (fun a1 => ?_)
  refine wc_dup 9 hC dX9_init_8 rfl rfl ?_
  refine wc_call 12 hC dX9_init_9 knX0_init rfl liX9_11 (mcX0 E.2.1 hHf a1 _) (Nat.le_of_ble_eq_true rfl) (Nat.le_of_ble_eq_true rfl) (Nat.le_of_ble_eq_true rfl) ⟨Nat.le_of_ble_eq_true rfl, Nat.le_of_ble_eq_true rfl⟩ rfl ?_
  rintro _ ⟨hs, a2, a3, a4, a5, a6, a7, a8, rfl⟩
  refine wc_perm (ws' := (a2, arrS G hs 16) :: (a3, .inl (gC G 0, 240, .inl (fun _ => 0))) :: (a4, .inl (gC G 0, 240, .inl (fun _ => 0))) :: (a5, .inr (7, [.ref a4, .ref a3])) :: (a6, .inl (gC G 0, 24, .inl (fun _ => 0))) :: (a7, .inl (gC G 0, 4, .inl (upd (upd (upd (upd (fun _ => 0) (0 : Int32).toNatClampNeg (10 : Int32)) (1 : Int32).toNatClampNeg (0 : Int32)) (2 : Int32).toNatClampNeg (0 : Int32)) (3 : Int32).toNatClampNeg (0 : Int32)))) :: (a8, .inr (4, [.int (1000 : Int32), .int (12 : Int32), .int (50 : Int32), .int (100 : Int32), .int (1 : Int32), .ref a7, .ref a6])) :: (a1, .inr (0, [.ref a8, .ref a5, .ref a2, .int 0, .int 0, .int 0, .long 0, .long 0])) :: (h, .inr (9, [.null, .null, .null, .null, .null, .null, .null, .int 0])) :: (subsW G hs 16 ++ ws)) (List.Perm.append_left ([(a2, arrS G hs 16), (a3, .inl (gC G 0, 240, .inl (fun _ => 0))), (a4, .inl (gC G 0, 240, .inl (fun _ => 0))), (a5, .inr (7, [.ref a4, .ref a3])), (a6, .inl (gC G 0, 24, .inl (fun _ => 0))), (a7, .inl (gC G 0, 4, .inl (upd (upd (upd (upd (fun _ => 0) (0 : Int32).toNatClampNeg (10 : Int32)) (1 : Int32).toNatClampNeg (0 : Int32)) (2 : Int32).toNatClampNeg (0 : Int32)) (3 : Int32).toNatClampNeg (0 : Int32)))), (a8, .inr (4, [.int (1000 : Int32), .int (12 : Int32), .int (50 : Int32), .int (100 : Int32), .int (1 : Int32), .ref a7, .ref a6])), (a1, .inr (0, [.ref a8, .ref a5, .ref a2, .int 0, .int 0, .int 0, .long 0, .long 0]))] : va_W) (List.perm_append_comm_assoc (subsW G hs 16) ([(h, .inr (9, [.null, .null, .null, .null, .null, .null, .null, .int 0]))] : va_W) ws)) ?_
  refine wc_put (ws' := (a2, arrS G hs 16) :: (a3, .inl (gC G 0, 240, .inl (fun _ => 0))) :: (a4, .inl (gC G 0, 240, .inl (fun _ => 0))) :: (a5, .inr (7, [.ref a4, .ref a3])) :: (a6, .inl (gC G 0, 24, .inl (fun _ => 0))) :: (a7, .inl (gC G 0, 4, .inl (upd (upd (upd (upd (fun _ => 0) (0 : Int32).toNatClampNeg (10 : Int32)) (1 : Int32).toNatClampNeg (0 : Int32)) (2 : Int32).toNatClampNeg (0 : Int32)) (3 : Int32).toNatClampNeg (0 : Int32)))) :: (a8, .inr (4, [.int (1000 : Int32), .int (12 : Int32), .int (50 : Int32), .int (100 : Int32), .int (1 : Int32), .ref a7, .ref a6])) :: (a1, .inr (0, [.ref a8, .ref a5, .ref a2, .int 0, .int 0, .int 0, .long 0, .long 0])) :: (h, .inr (9, [.ref a1, .null, .null, .null, .null, .null, .null, .int 0])) :: (subsW G hs 16 ++ ws)) 15 8 hC dX9_init_12 fcX9_12 hnm rfl rfl rfl (Nat.le_of_ble_eq_true rfl) rfl rfl ?_
  refine wc_aload_n 16 0 hC dX9_init_15 rfl 0 rfl rfl ?_
  refine wc_new 19 hC dX9_init_16 nwX9_16 ⟨Nat.le_of_ble_eq_true rfl, Nat.le_of_ble_eq_true rfl⟩ rfl (fun a9 => ?_)
  refine wc_dup 20 hC dX9_init_19 rfl rfl ?_
  refine wc_call 23 hC dX9_init_20 knX6_init rfl liX9_18 (mcX6 E.2.1 hHf a9 _) (Nat.le_of_ble_eq_true rfl) (Nat.le_of_ble_eq_true rfl) (Nat.le_of_ble_eq_true rfl) ⟨Nat.le_of_ble_eq_true rfl, Nat.le_of_ble_eq_true rfl⟩ rfl ?_
  rintro _ ⟨a10, rfl⟩
  refine wc_put (ws' := (a10, .inl (gC G 5, 6, .inr (.inr (.inr (.inr (fun _ => none)))))) :: (a9, .inr (6, [.ref a10, .int 0, .int 0])) :: (a2, arrS G hs 16) :: (a3, .inl (gC G 0, 240, .inl (fun _ => 0))) :: (a4, .inl (gC G 0, 240, .inl (fun _ => 0))) :: (a5, .inr (7, [.ref a4, .ref a3])) :: (a6, .inl (gC G 0, 24, .inl (fun _ => 0))) :: (a7, .inl (gC G 0, 4, .inl (upd (upd (upd (upd (fun _ => 0) (0 : Int32).toNatClampNeg (10 : Int32)) (1 : Int32).toNatClampNeg (0 : Int32)) (2 : Int32).toNatClampNeg (0 : Int32)) (3 : Int32).toNatClampNeg (0 : Int32)))) :: (a8, .inr (4, [.int (1000 : Int32), .int (12 : Int32), .int (50 : Int32), .int (100 : Int32), .int (1 : Int32), .ref a7, .ref a6])) :: (a1, .inr (0, [.ref a8, .ref a5, .ref a2, .int 0, .int 0, .int 0, .long 0, .long 0])) :: (h, .inr (9, [.ref a1, .ref a9, .null, .null, .null, .null, .null, .int 0])) :: (subsW G hs 16 ++ ws)) 26 10 hC dX9_init_23 fcX9_19 hnm rfl rfl rfl (Nat.le_of_ble_eq_true rfl) rfl rfl ?_
  refine wc_aload_n 27 0 hC dX9_init_26 rfl 0 rfl rfl ?_
  refine wc_new 30 hC dX9_init_27 nwX9_23 ⟨Nat.le_of_ble_eq_true rfl, Nat.le_of_ble_eq_true rfl⟩ rfl (fun a11 => ?_)
  refine wc_dup 31 hC dX9_init_30 rfl rfl ?_
  refine wc_call 34 hC dX9_init_31 knX5_init rfl liX9_25 (mcX5 E.2.1 hHf a11 _) (Nat.le_of_ble_eq_true rfl) (Nat.le_of_ble_eq_true rfl) (Nat.le_of_ble_eq_true rfl) ⟨Nat.le_of_ble_eq_true rfl, Nat.le_of_ble_eq_true rfl⟩ rfl ?_
  rintro _ ⟨a12, a13, a14, a15, rfl⟩
  refine wc_put (ws' := (a12, .inl (gC G 0, 24, .inl (fun _ => 0))) :: (a13, .inl (gC G 0, 4, .inl (upd (upd (upd (upd (fun _ => 0) (0 : Int32).toNatClampNeg (10 : Int32)) (1 : Int32).toNatClampNeg (0 : Int32)) (2 : Int32).toNatClampNeg (0 : Int32)) (3 : Int32).toNatClampNeg (0 : Int32)))) :: (a14, .inr (4, [.int (1000 : Int32), .int (12 : Int32), .int (50 : Int32), .int (100 : Int32), .int (1 : Int32), .ref a13, .ref a12])) :: (a15, .inl (gC G 2, 300, .inl (fun _ => 0))) :: (a11, .inr (5, [.ref a15, .int 0, .int 0, .int 0, .int 0, .ref a14])) :: (a10, .inl (gC G 5, 6, .inr (.inr (.inr (.inr (fun _ => none)))))) :: (a9, .inr (6, [.ref a10, .int 0, .int 0])) :: (a2, arrS G hs 16) :: (a3, .inl (gC G 0, 240, .inl (fun _ => 0))) :: (a4, .inl (gC G 0, 240, .inl (fun _ => 0))) :: (a5, .inr (7, [.ref a4, .ref a3])) :: (a6, .inl (gC G 0, 24, .inl (fun _ => 0))) :: (a7, .inl (gC G 0, 4, .inl (upd (upd (upd (upd (fun _ => 0) (0 : Int32).toNatClampNeg (10 : Int32)) (1 : Int32).toNatClampNeg (0 : Int32)) (2 : Int32).toNatClampNeg (0 : Int32)) (3 : Int32).toNatClampNeg (0 : Int32)))) :: (a8, .inr (4, [.int (1000 : Int32), .int (12 : Int32), .int (50 : Int32), .int (100 : Int32), .int (1 : Int32), .ref a7, .ref a6])) :: (a1, .inr (0, [.ref a8, .ref a5, .ref a2, .int 0, .int 0, .int 0, .long 0, .long 0])) :: (h, .inr (9, [.ref a1, .ref a9, .ref a11, .null, .null, .null, .null, .int 0])) :: (subsW G hs 16 ++ ws)) 37 15 hC dX9_init_34 fcX9_26 hnm rfl rfl rfl (Nat.le_of_ble_eq_true rfl) rfl rfl ?_
  refine wc_aload_n 38 0 hC dX9_init_37 rfl 0 rfl rfl ?_
  refine wc_new 41 hC dX9_init_38 nwX9_30 ⟨Nat.le_of_ble_eq_true rfl, Nat.le_of_ble_eq_true rfl⟩ rfl (fun a16 => ?_)
  refine wc_dup 42 hC dX9_init_41 rfl rfl ?_
  refine wc_call 45 hC dX9_init_42 knX2_init rfl liX9_32 (mcX2 E.2.1 hHf a16 _) (Nat.le_of_ble_eq_true rfl) (Nat.le_of_ble_eq_true rfl) (Nat.le_of_ble_eq_true rfl) ⟨Nat.le_of_ble_eq_true rfl, Nat.le_of_ble_eq_true rfl⟩ rfl ?_
  rintro _ ⟨a17, rfl⟩
  refine wc_put (ws' := (a17, .inl (gC G 2, 80, .inl (fun _ => 0))) :: (a16, .inr (2, [.ref a17, .int 0])) :: (a12, .inl (gC G 0, 24, .inl (fun _ => 0))) :: (a13, .inl (gC G 0, 4, .inl (upd (upd (upd (upd (fun _ => 0) (0 : Int32).toNatClampNeg (10 : Int32)) (1 : Int32).toNatClampNeg (0 : Int32)) (2 : Int32).toNatClampNeg (0 : Int32)) (3 : Int32).toNatClampNeg (0 : Int32)))) :: (a14, .inr (4, [.int (1000 : Int32), .int (12 : Int32), .int (50 : Int32), .int (100 : Int32), .int (1 : Int32), .ref a13, .ref a12])) :: (a15, .inl (gC G 2, 300, .inl (fun _ => 0))) :: (a11, .inr (5, [.ref a15, .int 0, .int 0, .int 0, .int 0, .ref a14])) :: (a10, .inl (gC G 5, 6, .inr (.inr (.inr (.inr (fun _ => none)))))) :: (a9, .inr (6, [.ref a10, .int 0, .int 0])) :: (a2, arrS G hs 16) :: (a3, .inl (gC G 0, 240, .inl (fun _ => 0))) :: (a4, .inl (gC G 0, 240, .inl (fun _ => 0))) :: (a5, .inr (7, [.ref a4, .ref a3])) :: (a6, .inl (gC G 0, 24, .inl (fun _ => 0))) :: (a7, .inl (gC G 0, 4, .inl (upd (upd (upd (upd (fun _ => 0) (0 : Int32).toNatClampNeg (10 : Int32)) (1 : Int32).toNatClampNeg (0 : Int32)) (2 : Int32).toNatClampNeg (0 : Int32)) (3 : Int32).toNatClampNeg (0 : Int32)))) :: (a8, .inr (4, [.int (1000 : Int32), .int (12 : Int32), .int (50 : Int32), .int (100 : Int32), .int (1 : Int32), .ref a7, .ref a6])) :: (a1, .inr (0, [.ref a8, .ref a5, .ref a2, .int 0, .int 0, .int 0, .long 0, .long 0])) :: (h, .inr (9, [.ref a1, .ref a9, .ref a11, .ref a16, .null, .null, .null, .int 0])) :: (subsW G hs 16 ++ ws)) 48 17 hC dX9_init_45 fcX9_33 hnm rfl rfl rfl (Nat.le_of_ble_eq_true rfl) rfl rfl ?_
  refine wc_aload_n 49 0 hC dX9_init_48 rfl 0 rfl rfl ?_
  refine wc_new 52 hC dX9_init_49 nwX9_37 ⟨Nat.le_of_ble_eq_true rfl, Nat.le_of_ble_eq_true rfl⟩ rfl (fun a18 => ?_)
  refine wc_dup 53 hC dX9_init_52 rfl rfl ?_
  refine wc_call 56 hC dX9_init_53 knX3_init rfl liX9_39 (mcX3 E.2.1 hHf a18 _) (Nat.le_of_ble_eq_true rfl) (Nat.le_of_ble_eq_true rfl) (Nat.le_of_ble_eq_true rfl) ⟨Nat.le_of_ble_eq_true rfl, Nat.le_of_ble_eq_true rfl⟩ rfl ?_
  rintro _ ⟨a19, a20, a21, rfl⟩
  refine wc_put (ws' := (a19, .inl (gC G 1, 17, .inr (.inl (fun _ => 0)))) :: (a20, .inl (gC G 1, 17, .inr (.inl (fun _ => 0)))) :: (a21, .inl (gC G 1, 17, .inr (.inl (fun _ => 0)))) :: (a18, .inr (3, [.ref a21, .long 0, .ref a20, .ref a19])) :: (a17, .inl (gC G 2, 80, .inl (fun _ => 0))) :: (a16, .inr (2, [.ref a17, .int 0])) :: (a12, .inl (gC G 0, 24, .inl (fun _ => 0))) :: (a13, .inl (gC G 0, 4, .inl (upd (upd (upd (upd (fun _ => 0) (0 : Int32).toNatClampNeg (10 : Int32)) (1 : Int32).toNatClampNeg (0 : Int32)) (2 : Int32).toNatClampNeg (0 : Int32)) (3 : Int32).toNatClampNeg (0 : Int32)))) :: (a14, .inr (4, [.int (1000 : Int32), .int (12 : Int32), .int (50 : Int32), .int (100 : Int32), .int (1 : Int32), .ref a13, .ref a12])) :: (a15, .inl (gC G 2, 300, .inl (fun _ => 0))) :: (a11, .inr (5, [.ref a15, .int 0, .int 0, .int 0, .int 0, .ref a14])) :: (a10, .inl (gC G 5, 6, .inr (.inr (.inr (.inr (fun _ => none)))))) :: (a9, .inr (6, [.ref a10, .int 0, .int 0])) :: (a2, arrS G hs 16) :: (a3, .inl (gC G 0, 240, .inl (fun _ => 0))) :: (a4, .inl (gC G 0, 240, .inl (fun _ => 0))) :: (a5, .inr (7, [.ref a4, .ref a3])) :: (a6, .inl (gC G 0, 24, .inl (fun _ => 0))) :: (a7, .inl (gC G 0, 4, .inl (upd (upd (upd (upd (fun _ => 0) (0 : Int32).toNatClampNeg (10 : Int32)) (1 : Int32).toNatClampNeg (0 : Int32)) (2 : Int32).toNatClampNeg (0 : Int32)) (3 : Int32).toNatClampNeg (0 : Int32)))) :: (a8, .inr (4, [.int (1000 : Int32), .int (12 : Int32), .int (50 : Int32), .int (100 : Int32), .int (1 : Int32), .ref a7, .ref a6])) :: (a1, .inr (0, [.ref a8, .ref a5, .ref a2, .int 0, .int 0, .int 0, .long 0, .long 0])) :: (h, .inr (9, [.ref a1, .ref a9, .ref a11, .ref a16, .ref a18, .null, .null, .int 0])) :: (subsW G hs 16 ++ ws)) 59 21 hC dX9_init_56 fcX9_40 hnm rfl rfl rfl (Nat.le_of_ble_eq_true rfl) rfl rfl ?_
  refine wc_aload_n 60 0 hC dX9_init_59 rfl 0 rfl rfl ?_
  refine wc_new 63 hC dX9_init_60 nwX9_44 ⟨Nat.le_of_ble_eq_true rfl, Nat.le_of_ble_eq_true rfl⟩ rfl (fun a22 => ?_)
  refine wc_dup 64 hC dX9_init_63 rfl rfl ?_
  refine wc_call 67 hC dX9_init_64 knX1_init rfl liX9_46 (mcX1 E.2.1 hHf a22 _) (Nat.le_of_ble_eq_true rfl) (Nat.le_of_ble_eq_true rfl) (Nat.le_of_ble_eq_true rfl) ⟨Nat.le_of_ble_eq_true rfl, Nat.le_of_ble_eq_true rfl⟩ rfl ?_
  rintro _ ⟨a23, a24, rfl⟩
  refine wc_put (ws' := (a23, .inl (gC G 1, 16, .inr (.inl (fun _ => 0)))) :: (a24, .inl (gC G 0, 16, .inl (fun _ => 0))) :: (a22, .inr (1, [.ref a24, .ref a23])) :: (a19, .inl (gC G 1, 17, .inr (.inl (fun _ => 0)))) :: (a20, .inl (gC G 1, 17, .inr (.inl (fun _ => 0)))) :: (a21, .inl (gC G 1, 17, .inr (.inl (fun _ => 0)))) :: (a18, .inr (3, [.ref a21, .long 0, .ref a20, .ref a19])) :: (a17, .inl (gC G 2, 80, .inl (fun _ => 0))) :: (a16, .inr (2, [.ref a17, .int 0])) :: (a12, .inl (gC G 0, 24, .inl (fun _ => 0))) :: (a13, .inl (gC G 0, 4, .inl (upd (upd (upd (upd (fun _ => 0) (0 : Int32).toNatClampNeg (10 : Int32)) (1 : Int32).toNatClampNeg (0 : Int32)) (2 : Int32).toNatClampNeg (0 : Int32)) (3 : Int32).toNatClampNeg (0 : Int32)))) :: (a14, .inr (4, [.int (1000 : Int32), .int (12 : Int32), .int (50 : Int32), .int (100 : Int32), .int (1 : Int32), .ref a13, .ref a12])) :: (a15, .inl (gC G 2, 300, .inl (fun _ => 0))) :: (a11, .inr (5, [.ref a15, .int 0, .int 0, .int 0, .int 0, .ref a14])) :: (a10, .inl (gC G 5, 6, .inr (.inr (.inr (.inr (fun _ => none)))))) :: (a9, .inr (6, [.ref a10, .int 0, .int 0])) :: (a2, arrS G hs 16) :: (a3, .inl (gC G 0, 240, .inl (fun _ => 0))) :: (a4, .inl (gC G 0, 240, .inl (fun _ => 0))) :: (a5, .inr (7, [.ref a4, .ref a3])) :: (a6, .inl (gC G 0, 24, .inl (fun _ => 0))) :: (a7, .inl (gC G 0, 4, .inl (upd (upd (upd (upd (fun _ => 0) (0 : Int32).toNatClampNeg (10 : Int32)) (1 : Int32).toNatClampNeg (0 : Int32)) (2 : Int32).toNatClampNeg (0 : Int32)) (3 : Int32).toNatClampNeg (0 : Int32)))) :: (a8, .inr (4, [.int (1000 : Int32), .int (12 : Int32), .int (50 : Int32), .int (100 : Int32), .int (1 : Int32), .ref a7, .ref a6])) :: (a1, .inr (0, [.ref a8, .ref a5, .ref a2, .int 0, .int 0, .int 0, .long 0, .long 0])) :: (h, .inr (9, [.ref a1, .ref a9, .ref a11, .ref a16, .ref a18, .ref a22, .null, .int 0])) :: (subsW G hs 16 ++ ws)) 70 24 hC dX9_init_67 fcX9_47 hnm rfl rfl rfl (Nat.le_of_ble_eq_true rfl) rfl rfl ?_
  refine wc_aload_n 71 0 hC dX9_init_70 rfl 0 rfl rfl ?_
  refine wc_new 74 hC dX9_init_71 nwX9_51 ⟨Nat.le_of_ble_eq_true rfl, Nat.le_of_ble_eq_true rfl⟩ rfl (fun a25 => ?_)
  refine wc_dup 75 hC dX9_init_74 rfl rfl ?_
  refine wc_call 78 hC dX9_init_75 knX8_init rfl liX9_53 (mcX8 E.2.1 hHf a25 _) (Nat.le_of_ble_eq_true rfl) (Nat.le_of_ble_eq_true rfl) (Nat.le_of_ble_eq_true rfl) ⟨Nat.le_of_ble_eq_true rfl, Nat.le_of_ble_eq_true rfl⟩ rfl ?_
  rintro _ ⟨a26, a27, a28, rfl⟩
  refine wc_put (ws' := (a26, .inl (gC G 1, 6, .inr (.inl (fun _ => 0)))) :: (a27, .inl (gC G 1, 72, .inr (.inl (fun _ => 0)))) :: (a28, .inl (gC G 0, 60, .inl (fun _ => 0))) :: (a25, .inr (8, [.int 0, .int 0, .int 0, .int 0, .int 0, .int (-1 : Int32), .int 0, .ref a28, .ref a27, .ref a26])) :: (a23, .inl (gC G 1, 16, .inr (.inl (fun _ => 0)))) :: (a24, .inl (gC G 0, 16, .inl (fun _ => 0))) :: (a22, .inr (1, [.ref a24, .ref a23])) :: (a19, .inl (gC G 1, 17, .inr (.inl (fun _ => 0)))) :: (a20, .inl (gC G 1, 17, .inr (.inl (fun _ => 0)))) :: (a21, .inl (gC G 1, 17, .inr (.inl (fun _ => 0)))) :: (a18, .inr (3, [.ref a21, .long 0, .ref a20, .ref a19])) :: (a17, .inl (gC G 2, 80, .inl (fun _ => 0))) :: (a16, .inr (2, [.ref a17, .int 0])) :: (a12, .inl (gC G 0, 24, .inl (fun _ => 0))) :: (a13, .inl (gC G 0, 4, .inl (upd (upd (upd (upd (fun _ => 0) (0 : Int32).toNatClampNeg (10 : Int32)) (1 : Int32).toNatClampNeg (0 : Int32)) (2 : Int32).toNatClampNeg (0 : Int32)) (3 : Int32).toNatClampNeg (0 : Int32)))) :: (a14, .inr (4, [.int (1000 : Int32), .int (12 : Int32), .int (50 : Int32), .int (100 : Int32), .int (1 : Int32), .ref a13, .ref a12])) :: (a15, .inl (gC G 2, 300, .inl (fun _ => 0))) :: (a11, .inr (5, [.ref a15, .int 0, .int 0, .int 0, .int 0, .ref a14])) :: (a10, .inl (gC G 5, 6, .inr (.inr (.inr (.inr (fun _ => none)))))) :: (a9, .inr (6, [.ref a10, .int 0, .int 0])) :: (a2, arrS G hs 16) :: (a3, .inl (gC G 0, 240, .inl (fun _ => 0))) :: (a4, .inl (gC G 0, 240, .inl (fun _ => 0))) :: (a5, .inr (7, [.ref a4, .ref a3])) :: (a6, .inl (gC G 0, 24, .inl (fun _ => 0))) :: (a7, .inl (gC G 0, 4, .inl (upd (upd (upd (upd (fun _ => 0) (0 : Int32).toNatClampNeg (10 : Int32)) (1 : Int32).toNatClampNeg (0 : Int32)) (2 : Int32).toNatClampNeg (0 : Int32)) (3 : Int32).toNatClampNeg (0 : Int32)))) :: (a8, .inr (4, [.int (1000 : Int32), .int (12 : Int32), .int (50 : Int32), .int (100 : Int32), .int (1 : Int32), .ref a7, .ref a6])) :: (a1, .inr (0, [.ref a8, .ref a5, .ref a2, .int 0, .int 0, .int 0, .long 0, .long 0])) :: (h, .inr (9, [.ref a1, .ref a9, .ref a11, .ref a16, .ref a18, .ref a22, .ref a25, .int 0])) :: (subsW G hs 16 ++ ws)) 81 28 hC dX9_init_78 fcX9_54 hnm rfl rfl rfl (Nat.le_of_ble_eq_true rfl) rfl rfl ?_
  refine wc_aload_n 82 0 hC dX9_init_81 rfl 0 rfl rfl ?_
  refine wc_iconst 83 hC dX9_init_82 (v := (-1 : Int32)) (by decide) rfl ?_
  refine wc_put (ws' := (a26, .inl (gC G 1, 6, .inr (.inl (fun _ => 0)))) :: (a27, .inl (gC G 1, 72, .inr (.inl (fun _ => 0)))) :: (a28, .inl (gC G 0, 60, .inl (fun _ => 0))) :: (a25, .inr (8, [.int 0, .int 0, .int 0, .int 0, .int 0, .int (-1 : Int32), .int 0, .ref a28, .ref a27, .ref a26])) :: (a23, .inl (gC G 1, 16, .inr (.inl (fun _ => 0)))) :: (a24, .inl (gC G 0, 16, .inl (fun _ => 0))) :: (a22, .inr (1, [.ref a24, .ref a23])) :: (a19, .inl (gC G 1, 17, .inr (.inl (fun _ => 0)))) :: (a20, .inl (gC G 1, 17, .inr (.inl (fun _ => 0)))) :: (a21, .inl (gC G 1, 17, .inr (.inl (fun _ => 0)))) :: (a18, .inr (3, [.ref a21, .long 0, .ref a20, .ref a19])) :: (a17, .inl (gC G 2, 80, .inl (fun _ => 0))) :: (a16, .inr (2, [.ref a17, .int 0])) :: (a12, .inl (gC G 0, 24, .inl (fun _ => 0))) :: (a13, .inl (gC G 0, 4, .inl (upd (upd (upd (upd (fun _ => 0) (0 : Int32).toNatClampNeg (10 : Int32)) (1 : Int32).toNatClampNeg (0 : Int32)) (2 : Int32).toNatClampNeg (0 : Int32)) (3 : Int32).toNatClampNeg (0 : Int32)))) :: (a14, .inr (4, [.int (1000 : Int32), .int (12 : Int32), .int (50 : Int32), .int (100 : Int32), .int (1 : Int32), .ref a13, .ref a12])) :: (a15, .inl (gC G 2, 300, .inl (fun _ => 0))) :: (a11, .inr (5, [.ref a15, .int 0, .int 0, .int 0, .int 0, .ref a14])) :: (a10, .inl (gC G 5, 6, .inr (.inr (.inr (.inr (fun _ => none)))))) :: (a9, .inr (6, [.ref a10, .int 0, .int 0])) :: (a2, arrS G hs 16) :: (a3, .inl (gC G 0, 240, .inl (fun _ => 0))) :: (a4, .inl (gC G 0, 240, .inl (fun _ => 0))) :: (a5, .inr (7, [.ref a4, .ref a3])) :: (a6, .inl (gC G 0, 24, .inl (fun _ => 0))) :: (a7, .inl (gC G 0, 4, .inl (upd (upd (upd (upd (fun _ => 0) (0 : Int32).toNatClampNeg (10 : Int32)) (1 : Int32).toNatClampNeg (0 : Int32)) (2 : Int32).toNatClampNeg (0 : Int32)) (3 : Int32).toNatClampNeg (0 : Int32)))) :: (a8, .inr (4, [.int (1000 : Int32), .int (12 : Int32), .int (50 : Int32), .int (100 : Int32), .int (1 : Int32), .ref a7, .ref a6])) :: (a1, .inr (0, [.ref a8, .ref a5, .ref a2, .int 0, .int 0, .int 0, .long 0, .long 0])) :: (h, .inr (9, [.ref a1, .ref a9, .ref a11, .ref a16, .ref a18, .ref a22, .ref a25, .int (-1 : Int32)])) :: (subsW G hs 16 ++ ws)) 86 28 hC dX9_init_83 fcX9_58 hnm rfl rfl rfl (Nat.le_of_ble_eq_true rfl) rfl rfl ?_
  exact wc_vret hC hQ ⟨Nat.le_of_ble_eq_true rfl, Nat.le_of_ble_eq_true rfl⟩ ⟨hs, a26, a27, a28, a25, a23, a24, a22, a19, a20, a21, a18, a17, a16, a12, a13, a14, a15, a11, a10, a9, a2, a3, a4, a5, a6, a7, a8, a1, rfl⟩ dX9_init_86
section
variable {E : eU} {G : gU} {Hf : Heap} {k1 k2 : Nat} {ws : va_W} {pc nL d mc ms : Nat} {lv : List (Nat × Value)} {st : List Value} {cc : ByteArray} {own : String} {ret : Option FieldType}
theorem wc_iload (q i : Nat) (hC : CX E G cc nL own ret d mc ms) {x : Int32} (hdg : decode cc pc = .ok (.iload i, 2)) (k : Nat) (hk : lv[k]? = some (i, .int x)) (hq : pc + 2 = q) (kk : WC E G Hf k1 k2 ws q lv (.int x :: st)) : WC E G Hf k1 k2 ws pc lv st := by
  subst hq
  intro H locs ls hP hO hl
  exact lv_iload hC.1 hC.2.1 hdg (lv_at hl k hk) (kk H locs ls hP hO hl)
theorem wc_istore (q i : Nat) (hC : CX E G cc nL own ret d mc ms) {lv' : List (Nat × Value)} {x : Int32} (hdg : decode cc pc = .ok (.istore i, 2)) (hn : i < nL) (hl9 : (i, Value.int x) :: lv.filter (fun q => !(q.1 == i) && !(q.1 + 1 == i && q.2.category == 2)) = lv') (hq : pc + 2 = q) (kk : WC E G Hf k1 k2 ws q lv' st) : WC E G Hf k1 k2 ws pc lv (.int x :: st) := by
  subst hq
  intro H locs ls hP hO hl
  exact lv_istore hC.1 hC.2.1 hdg hl (by rw [hC.2.2.1]; exact hn) hl9 (fun ls' hl' => kk H locs ls' hP hO hl')
theorem wc_lt (q t : Nat) (hC : CX E G cc nL own ret d mc ms) {x y : Int32} {off : Int} (hdg : decode cc pc = .ok (.if_icmp .lt off, 3)) (ht : (pc : Int) + off = (t : Int)) (hq : pc + 3 = q) (kt : x < y → WC E G Hf k1 k2 ws t lv st) (kf : ¬ x < y → WC E G Hf k1 k2 ws q lv st) : WC E G Hf k1 k2 ws pc lv (.int y :: .int x :: st) := by
  subst hq
  intro H locs ls hP hO hl
  exact lv_icmp_lt hC.1 hC.2.1 hdg ht (fun c9 => kt c9 H locs ls hP hO hl) (fun c9 => kf c9 H locs ls hP hO hl)
theorem wc_callS (q : Nat) (hC : CX E G cc nL own ret d mc ms) {y : MethodName} {bytes : ByteArray} {maxL d' index n mk1 mk2 : Nat} {st' : List Value} {P : va_W → Prop} (As : List Value) (hdg : decode cc pc = .ok (.invokestatic index, 3)) (hN : KN y bytes maxL none n) (hL : MS own index y) (hM : MC E.2.1 y bytes maxL d' mk1 mk2 G Hf As ws P)
    (hd : d' + 1 ≤ d) (hlo : 8 + (maxL + 11) + 64 * d' ≤ 64 * d) (hn : As.length = n) (hst : (st.map fun v => v.category).sum ≤ 8) (hk : k1 + mk1 ≤ mc ∧ k2 + mk2 ≤ ms) (hq : pc + 3 = q) (hs : As.reverse ++ st = st') (kk : ∀ ws', P ws' → WC E G Hf (k1 + mk1) (k2 + mk2) ws' q lv st) : WC E G Hf k1 k2 ws pc lv st' := by
  subst hq
  subst hs
  intro H locs ls hP hO hl T hT X
  obtain ⟨hx, hb, hml, hown, hts, hK, hr, hlk, hRm, -⟩ := hC
  have hfr : (rmD d' mk1 mk2).frames + 1 ≤ (eR E).frames ∧ 8 + (maxL + 11) + (rmD d' mk1 mk2).locals ≤ (eR E).locals := ⟨Nat.le_trans hd hRm.1, Nat.le_trans hlo hRm.2.1⟩
  have hf2 : k1 + mk1 ≤ (eR E).cells ∧ k2 + mk2 ≤ (eR E).slots := ⟨Nat.le_trans hk.1 hRm.2.2.1, Nat.le_trans hk.2 hRm.2.2.2⟩
  have hbl : FrameBlind (va_Pc As (fun U => CP G Hf ws U.heap ∧ KK G U)) := by
    intro a9 U g mk h
    obtain ⟨h1, h2, h3⟩ := h
    exact ⟨h1, h2, KK.same (u := U) (U := U.calling g mk a9) rfl (Vm.Alike.refl U.vm) h3⟩
  have hrun : va_Run E.1 E.2.1 E.2.2.1 (eR E) (eS E) (eM E) (eA E) (eF E) (eT E) (eC E) H locs k1 k2 mk1 mk2 (F0 (eM E) pc ls (As.reverse ++ st)) st (QcC G Hf P As.toArray) (fun q => Hf.size ≤ q) := by
    rcases hL with ⟨hlink | ⟨host, hlink⟩, hstat⟩
    · exact va_runS (Ts := ALLW) (n := n) ⟨hx, hb, rfl, hown, hts⟩ hM ⟨callB_of n hts hN.good rfl rfl rfl (hts _ hN.2.1) (hts _ hlink) hN.2.2 hfr, hts _ hstat⟩ ⟨hbl, fun U hU hW => ⟨rfl, by rw [hU]; exact hP, hK.warm hW⟩⟩ rfl hn hl.1 rfl (lv_room hst) hdg hf2
    · exact va_runSN (Ts := ALLW) (n := n) ⟨hx, hb, rfl, hown, hts⟩ hM ⟨va_cnB n hts hN.good rfl rfl rfl (hK.2.1 _ hlink) (hts _ hN.2.1) hN.2.2 hfr, hts _ hstat, trivial⟩ ⟨hbl, fun U hU hW => ⟨rfl, by rw [hU]; exact hP, hK.warm hW⟩⟩ rfl hn hl.1 rfl (lv_room hst) hdg hf2
  obtain ⟨v, st₀, t, T', L, h0, X', hL9, e1, e2, ⟨hv, ws', hp, hq9⟩, stp⟩ := hrun T hT X
  cases hv
  obtain ⟨t2, a1, b1⟩ := kk ws' hp T'.heap (locs ++ L) ls (by rw [e1]; exact hq9) (fun q h => (List.mem_append.mp h).elim (hO q) (hL9 q)) hl T' rfl X'
  exact ⟨t2, stp t2 a1, b1⟩
end
theorem vc_enterS {l : Launch} {y : MethodName} {cc : ByteArray} {maxL d mc ms : Nat} {G : gU} {Hf : Heap} {av : List Value} {lv : List (Nat × Value)} {ws : va_W} {P : va_W → Prop} (own : String) (ho : y.cls = own) (hy : plainName y.cls = true) (hlen : (lg_sl av).length ≤ maxL) (hlv : lv_args 0 av = lv) (hHf : HB G Hf)
    (body : ∀ E : eU, E.2.1 = l → CX E G cc maxL own none d mc ms → QXC E G Hf P mc ms → WC E G Hf 0 0 ws 0 lv []) : MC l y cc maxL d mc ms G Hf av ws P := by
  subst hlv
  refine Met.ofW (cc := cc) (maxL := maxL) (ret := none) hy rfl ?_
  intro p e s m args below meth c s₁ Bd hml hv
  obtain ⟨rfl, hR, hK⟩ := hv
  have hts := atoms_spec (ws := .code y cc maxL none :: ALLW) Bd.pre
  have hl := lv_entry av (n := c.maxLocals) (by rw [hml]; exact hlen)
  have h := body (p, l, e, rmD d mc ms, s, m, av.toArray, below, meth, c, MQ below (QcC G Hf P) av.toArray s mc ms (fun q => Hf.size ≤ q)) rfl ⟨Bd.exec, Bd.bytes, hml, by rw [← ho]; exact findClass_of_methodNamed Bd.named, fun w hw => hts w (List.mem_cons_of_mem _ hw), hK, Bd.returns, Bd.notSynchronized, RG.rf, ⟨Nat.le_trans hHf.1 hR.2.2.1, fun q hq => by rw [hR.2.2.2 q (Nat.lt_of_lt_of_le hq hHf.1)]; exact hHf.2 q hq⟩⟩ rfl s.heap [] _ hR (fun _ h => by cases h) hl
  rw [lg_entry_eq, ← hml]
  exact h
theorem i1588_cl : ∀ i, i < 1588 → (Int32.ofNat i).toNatClampNeg = i ∧ ¬ (1588 : Int32) ≤ Int32.ofNat i ∧ Int32.ofNat i + Int32.ofInt 1 = Int32.ofNat (i + 1) ∧ inb (Int32.ofNat i) 1588 = true ∧ (Int32.ofNat i < 1348 ↔ i < 1348) := by decide +kernel
/-- the reference's row as begins leaves it before the four settings -/
def row0 (j : Nat) : Int32 := if j < 1348 then 0 else -1
theorem mcBeg_L {E : eU} {G : gU} {Hf : Heap} (hC : CX E G cX10_begins 6 RX10 none 1 0 0) (a : Nat) (x1 x2 x3 x4 : Int32) (ws : va_W)
    (kend : ∀ f : Nat → Int32, (∀ j, j < 1588 → f j = row0 j) → WC E G Hf 0 0 ((a, .inl (gC G 0, 1588, .inl f)) :: ws) 34 [(5, .int 1588), (0, .ref a), (1, .int x1), (2, .int x2), (3, .int x3), (4, .int x4)] []) : ∀ n i, i + n = 1588 → ∀ f : Nat → Int32, (∀ j, j < i → f j = row0 j) → WC E G Hf 0 0 ((a, .inl (gC G 0, 1588, .inl f)) :: ws) 3 [(5, .int (Int32.ofNat i)), (0, .ref a), (1, .int x1), (2, .int x2), (3, .int x3), (4, .int x4)] [] := by
  intro n
  induction n with
  | zero =>
    intro i hi f hf
    have e : i = 1588 := by omega
    subst e
    refine wc_iload 5 5 hC dX10_begins_3 0 rfl rfl ?_
    refine wc_sipush 8 hC dX10_begins_5 (v := (1588 : Int32)) (by decide) rfl ?_
    refine wc_geT 34 hC dX10_begins_8 rfl (by decide) ?_
    exact kend f hf
  | succ n ih =>
    intro i hi f hf
    obtain ⟨g1, g2, g3, g4, g5⟩ := i1588_cl i (by omega)
    refine wc_iload 5 5 hC dX10_begins_3 0 rfl rfl ?_
    refine wc_sipush 8 hC dX10_begins_5 (v := (1588 : Int32)) (by decide) rfl ?_
    refine wc_geF 11 34 hC dX10_begins_8 rfl rfl g2 ?_
    refine wc_aload_n 12 0 hC dX10_begins_11 rfl 1 rfl rfl ?_
    refine wc_iload 14 5 hC dX10_begins_12 0 rfl rfl ?_
    refine wc_iload 16 5 hC dX10_begins_14 0 rfl rfl ?_
    refine wc_sipush 19 hC dX10_begins_16 (v := (1348 : Int32)) (by decide) rfl ?_
    have hk : ∀ v : Int32, v = row0 i → WC E G Hf 0 0 ((a, .inl (gC G 0, 1588, .inl f)) :: ws) 27 [(5, .int (Int32.ofNat i)), (0, .ref a), (1, .int x1), (2, .int x2), (3, .int x3), (4, .int x4)] [.int v, .int (Int32.ofNat i), .ref a] := by
      intro v hv
      refine wc_iast (ws' := (a, .inl (gC G 0, 1588, .inl (upd f i v))) :: ws) 28 0 hC dX10_begins_27 rfl g4 rfl (by rw [g1]; rfl) ?_
      refine wc_iinc (lv' := [(5, .int (Int32.ofNat (i + 1))), (0, .ref a), (1, .int x1), (2, .int x2), (3, .int x3), (4, .int x4)]) 31 5 hC dX10_begins_28 0 rfl g3 (by decide) rfl rfl ?_
      refine wc_goto 3 hC dX10_begins_31 rfl ?_
      refine ih (i + 1) (by omega) _ (fun j hj => ?_)
      by_cases hji : j = i
      · subst hji
        rw [← hv]
        simp [upd]
      · have h3 : upd f i v j = f j := by simp [upd, hji]
        rw [h3]
        exact hf j (by omega)
    refine wc_lt 22 26 hC dX10_begins_19 rfl rfl (fun c => ?_) (fun c => ?_)
    · refine wc_iconst 27 hC dX10_begins_26 (v := (0 : Int32)) (by decide) rfl ?_
      exact hk 0 (by rw [row0, if_pos (g5.mp c)])
    · refine wc_iconst 23 hC dX10_begins_22 (v := (-1 : Int32)) (by decide) rfl ?_
      refine wc_goto 27 hC dX10_begins_23 rfl ?_
      exact hk (-1) (by rw [row0, if_neg (fun z => c (g5.mpr z))])
theorem mcBeg (l : Launch) {G : gU} {Hf : Heap} (hHf : HB G Hf) (a : Nat) (x1 x2 x3 x4 : Int32) (f0 : Nat → Int32) (ws : va_W) : MC l yX10_begins cX10_begins 6 1 0 0 G Hf [.ref a, .int x1, .int x2, .int x3, .int x4] ((a, .inl (gC G 0, 1588, .inl f0)) :: ws) (fun ws' => ∃ f : Nat → Int32, (∀ j, j < 1588 → f j = row0 j) ∧ ws' = (a, .inl (gC G 0, 1588, .inl (upd (upd (upd (upd f 0 x1) 1 x2) 2 x3) 3 x4))) :: ws) := by
  refine vc_enterS (lv := [(0, .ref a), (1, .int x1), (2, .int x2), (3, .int x3), (4, .int x4)]) RX10 rfl (by decide) (Nat.le_of_ble_eq_true rfl) rfl hHf ?_
  intro E hE hC hQ
  subst hE
  refine wc_iconst 1 hC dX10_begins_0 (v := (0 : Int32)) (by decide) rfl ?_
  refine wc_istore (lv' := [(5, .int (0 : Int32)), (0, .ref a), (1, .int x1), (2, .int x2), (3, .int x3), (4, .int x4)]) 3 5 hC dX10_begins_1 (by decide) rfl rfl ?_
  refine mcBeg_L hC a x1 x2 x3 x4 ws (fun f hf => ?_) 1588 0 rfl f0 (fun j hj => absurd hj (Nat.not_lt_zero j))
  refine wc_aload_n 35 0 hC dX10_begins_34 rfl 1 rfl rfl ?_
  refine wc_iconst 36 hC dX10_begins_35 (v := (0 : Int32)) (by decide) rfl ?_
  refine wc_iload_n 37 1 hC dX10_begins_36 rfl 2 rfl rfl ?_
  refine wc_iast (ws' := (a, .inl (gC G 0, 1588, .inl (upd f 0 x1))) :: ws) 38 0 hC dX10_begins_37 rfl (by decide) rfl rfl ?_
  refine wc_aload_n 39 0 hC dX10_begins_38 rfl 1 rfl rfl ?_
  refine wc_iconst 40 hC dX10_begins_39 (v := (1 : Int32)) (by decide) rfl ?_
  refine wc_iload_n 41 2 hC dX10_begins_40 rfl 3 rfl rfl ?_
  refine wc_iast (ws' := (a, .inl (gC G 0, 1588, .inl (upd (upd f 0 x1) 1 x2))) :: ws) 42 0 hC dX10_begins_41 rfl (by decide) rfl rfl ?_
  refine wc_aload_n 43 0 hC dX10_begins_42 rfl 1 rfl rfl ?_
  refine wc_iconst 44 hC dX10_begins_43 (v := (2 : Int32)) (by decide) rfl ?_
  refine wc_iload_n 45 3 hC dX10_begins_44 rfl 4 rfl rfl ?_
  refine wc_iast (ws' := (a, .inl (gC G 0, 1588, .inl (upd (upd (upd f 0 x1) 1 x2) 2 x3))) :: ws) 46 0 hC dX10_begins_45 rfl (by decide) rfl rfl ?_
  refine wc_aload_n 47 0 hC dX10_begins_46 rfl 1 rfl rfl ?_
  refine wc_iconst 48 hC dX10_begins_47 (v := (3 : Int32)) (by decide) rfl ?_
  refine wc_iload 50 4 hC dX10_begins_48 5 rfl rfl ?_
  refine wc_iast (ws' := (a, .inl (gC G 0, 1588, .inl (upd (upd (upd (upd f 0 x1) 1 x2) 2 x3) 3 x4))) :: ws) 51 0 hC dX10_begins_50 rfl (by decide) rfl rfl ?_
  exact wc_vret hC hQ ⟨Nat.le_of_ble_eq_true rfl, Nat.le_of_ble_eq_true rfl⟩ ⟨f, hf, rfl⟩ dX10_begins_51
theorem oiX10 : Cond.methodLink RX10 1 Lib.objectInit ∈ ALLW ∧ Cond.instanceMethod Lib.objectInit ∈ ALLW ∧ Cond.code Lib.objectInit ⟨#[0xb1]⟩ 1 none ∈ ALLW := ⟨inW 1361 (by decide +kernel) (by decide +kernel), inW 159 (by decide +kernel) (by decide +kernel), inW 160 (by decide +kernel) (by decide +kernel)⟩
theorem fcX10_7 : FC RX10 7 10 0 (.array .int) true := ⟨_, _, _, tyX10, rfl, inX10, tyX10_ok, nmX10, by decide, inW 1365 (by decide +kernel) (by decide +kernel), rfl, rfl, rfl⟩
theorem fcX10_13 : FC RX10 13 10 1 (.array .int) true := ⟨_, _, _, tyX10, rfl, inX10, tyX10_ok, nmX10, by decide, inW 1366 (by decide +kernel) (by decide +kernel), rfl, rfl, rfl⟩
theorem fcX10_16 : FC RX10 16 10 2 (.array .int) true := ⟨_, _, _, tyX10, rfl, inX10, tyX10_ok, nmX10, by decide, inW 1367 (by decide +kernel) (by decide +kernel), rfl, rfl, rfl⟩
theorem fcX10_19 : FC RX10 19 10 3 (.array .long) true := ⟨_, _, _, tyX10, rfl, inX10, tyX10_ok, nmX10, by decide, inW 1368 (by decide +kernel) (by decide +kernel), rfl, rfl, rfl⟩
theorem fcX10_23 : FC RX10 23 10 4 (.array .long) true := ⟨_, _, _, tyX10, rfl, inX10, tyX10_ok, nmX10, by decide, inW 1369 (by decide +kernel) (by decide +kernel), rfl, rfl, rfl⟩
theorem fcX10_26 : FC RX10 26 10 7 (.array .int) true := ⟨_, _, _, tyX10, rfl, inX10, tyX10_ok, nmX10, by decide, inW 1372 (by decide +kernel) (by decide +kernel), rfl, rfl, rfl⟩
theorem fcX10_29 : FC RX10 29 10 15 .int false := ⟨_, _, _, tyX10, rfl, inX10, tyX10_ok, nmX10, by decide, inW 1380 (by decide +kernel) (by decide +kernel), rfl, rfl, rfl⟩
theorem fcX10_33 : FC RX10 33 10 17 (.array .long) true := ⟨_, _, _, tyX10, rfl, inX10, tyX10_ok, nmX10, by decide, inW 1382 (by decide +kernel) (by decide +kernel), rfl, rfl, rfl⟩
theorem fcX10_36 : FC RX10 36 10 18 (.array .long) true := ⟨_, _, _, tyX10, rfl, inX10, tyX10_ok, nmX10, by decide, inW 1383 (by decide +kernel) (by decide +kernel), rfl, rfl, rfl⟩
theorem fcX10_39 : FC RX10 39 10 19 (.array .long) true := ⟨_, _, _, tyX10, rfl, inX10, tyX10_ok, nmX10, by decide, inW 1384 (by decide +kernel) (by decide +kernel), rfl, rfl, rfl⟩
theorem fcX10_42 : FC RX10 42 10 20 (.array .boolean) true := ⟨_, _, _, tyX10, rfl, inX10, tyX10_ok, nmX10, by decide, inW 1385 (by decide +kernel) (by decide +kernel), rfl, rfl, rfl⟩
theorem fcX10_46 : FC RX10 46 10 21 (.array .long) true := ⟨_, _, _, tyX10, rfl, inX10, tyX10_ok, nmX10, by decide, inW 1386 (by decide +kernel) (by decide +kernel), rfl, rfl, rfl⟩
theorem fcX10_49 : FC RX10 49 10 22 (.array .boolean) true := ⟨_, _, _, tyX10, rfl, inX10, tyX10_ok, nmX10, by decide, inW 1387 (by decide +kernel) (by decide +kernel), rfl, rfl, rfl⟩
theorem fcX10_52 : FC RX10 52 10 23 (.array .long) true := ⟨_, _, _, tyX10, rfl, inX10, tyX10_ok, nmX10, by decide, inW 1388 (by decide +kernel) (by decide +kernel), rfl, rfl, rfl⟩
theorem fcX10_55 : FC RX10 55 10 24 (.array .byte) true := ⟨_, _, _, tyX10, rfl, inX10, tyX10_ok, nmX10, by decide, inW 1389 (by decide +kernel) (by decide +kernel), rfl, rfl, rfl⟩
theorem mcX10 (l : Launch) {G : gU} {Hf : Heap} (hHf : HB G Hf) (h : Nat) (ws : va_W) : MC l yX10_init cX10_init 1 2 14 20694 G Hf [.ref h] ((h, .inr (10, [.null, .null, .null, .null, .null, .int 0, .int 0, .null, .int 0, .int 0, .int 0, .int 0, .int 0, .int 0, .int 0, .int 0, .long 0, .null, .null, .null, .null, .null, .null, .null, .null, .int 0])) :: ws) (fun ws' => ∃ f : Nat → Int32, ∃ a1 a14 a13 a12 a11 a10 a9 a8 a7 a6 a5 a4 a3 a2 : Nat, (∀ j, j < 1588 → f j = row0 j) ∧ ws' = (a1, .inl (gC G 0, 1588, .inl (upd (upd (upd (upd (upd (upd f 0 (1000 : Int32)) 1 (12 : Int32)) 2 (50 : Int32)) 3 (100 : Int32)) (4 : Int32).toNatClampNeg (1 : Int32)) (32 : Int32).toNatClampNeg (10 : Int32)))) :: (a14, .inl (gC G 2, 100, .inl (fun _ => 0))) :: (a13, .inl (gC G 1, 84, .inr (.inl (fun _ => 0)))) :: (a12, .inl (gC G 3, 16, .inl (fun _ => 0))) :: (a11, .inl (gC G 1, 16, .inr (.inl (fun _ => 0)))) :: (a10, .inl (gC G 3, 17, .inl (fun _ => 0))) :: (a9, .inl (gC G 1, 17, .inr (.inl (fun _ => 0)))) :: (a8, .inl (gC G 1, 17, .inr (.inl (fun _ => 0)))) :: (a7, .inl (gC G 1, 17, .inr (.inl (fun _ => 0)))) :: (a6, .inl (gC G 0, 300, .inl (fun _ => 0))) :: (a5, .inl (gC G 1, 6348, .inr (.inl (fun _ => 0)))) :: (a4, .inl (gC G 1, 1058, .inr (.inl (fun _ => 0)))) :: (a3, .inl (gC G 0, 9528, .inl (fun _ => 0))) :: (a2, .inl (gC G 0, 1588, .inl (fun _ => 0))) :: (h, .inr (10, [.ref a1, .ref a2, .ref a3, .ref a4, .ref a5, .int 0, .int 0, .ref a6, .int 0, .int 0, .int 0, .int 0, .int 0, .int 0, .int 0, .int (-1 : Int32), .long 0, .ref a7, .ref a8, .ref a9, .ref a10, .ref a11, .ref a12, .ref a13, .ref a14, .int 0])) :: ws) := by
  refine vc_enter (lv := [(0, .ref h)]) RX10 rfl (by decide) rfl (Nat.le_of_ble_eq_true rfl) rfl hHf ?_
  intro E hE hC hQ hnm
  subst hE
  refine wc_aload_n 1 0 hC dX10_init_0 rfl 0 rfl rfl ?_
  refine wc_objInit 4 hC dX10_init_1 oiX10 (Nat.le_of_ble_eq_true rfl) (Nat.le_of_ble_eq_true rfl) rfl ?_
  refine wc_aload_n 5 0 hC dX10_init_4 rfl 0 rfl rfl ?_
  refine wc_sipush 8 hC dX10_init_5 (v := (1588 : Int32)) (by decide) rfl ?_
  refine wc_newA (t := 0) (n := 1588) (ty := .int) (a0 := (1588, .inl (fun _ => 0))) 10 hC dX10_init_8 (inW 212 (by decide +kernel) (by decide +kernel)) rfl rfl ra_I (fun _ => rfl) (by decide) (by decide) (by decide) ⟨Nat.le_of_ble_eq_true rfl, Nat.le_of_ble_eq_true rfl⟩ rfl (fun a1 => ?_)
  refine wc_put (ws' := (a1, .inl (gC G 0, 1588, .inl (fun _ => 0))) :: (h, .inr (10, [.ref a1, .null, .null, .null, .null, .int 0, .int 0, .null, .int 0, .int 0, .int 0, .int 0, .int 0, .int 0, .int 0, .int 0, .long 0, .null, .null, .null, .null, .null, .null, .null, .null, .int 0])) :: ws) 13 1 hC dX10_init_10 fcX10_7 hnm rfl rfl rfl (Nat.le_of_ble_eq_true rfl) rfl rfl ?_
  refine wc_aload_n 14 0 hC dX10_init_13 rfl 0 rfl rfl ?_
  refine wc_sipush 17 hC dX10_init_14 (v := (1588 : Int32)) (by decide) rfl ?_
  refine wc_newA (t := 0) (n := 1588) (ty := .int) (a0 := (1588, .inl (fun _ => 0))) 19 hC dX10_init_17 (inW 212 (by decide +kernel) (by decide +kernel)) rfl rfl ra_I (fun _ => rfl) (by decide) (by decide) (by decide) ⟨Nat.le_of_ble_eq_true rfl, Nat.le_of_ble_eq_true rfl⟩ rfl (fun a2 => ?_)
  refine wc_put (ws' := (a2, .inl (gC G 0, 1588, .inl (fun _ => 0))) :: (a1, .inl (gC G 0, 1588, .inl (fun _ => 0))) :: (h, .inr (10, [.ref a1, .ref a2, .null, .null, .null, .int 0, .int 0, .null, .int 0, .int 0, .int 0, .int 0, .int 0, .int 0, .int 0, .int 0, .long 0, .null, .null, .null, .null, .null, .null, .null, .null, .int 0])) :: ws) 22 2 hC dX10_init_19 fcX10_13 hnm rfl rfl rfl (Nat.le_of_ble_eq_true rfl) rfl rfl ?_
  refine wc_aload_n 23 0 hC dX10_init_22 rfl 0 rfl rfl ?_
  refine wc_sipush 26 hC dX10_init_23 (v := (9528 : Int32)) (by decide) rfl ?_
  refine wc_newA (t := 0) (n := 9528) (ty := .int) (a0 := (9528, .inl (fun _ => 0))) 28 hC dX10_init_26 (inW 212 (by decide +kernel) (by decide +kernel)) rfl rfl ra_I (fun _ => rfl) (by decide) (by decide) (by decide) ⟨Nat.le_of_ble_eq_true rfl, Nat.le_of_ble_eq_true rfl⟩ rfl (fun a3 => ?_)
  refine wc_put (ws' := (a3, .inl (gC G 0, 9528, .inl (fun _ => 0))) :: (a2, .inl (gC G 0, 1588, .inl (fun _ => 0))) :: (a1, .inl (gC G 0, 1588, .inl (fun _ => 0))) :: (h, .inr (10, [.ref a1, .ref a2, .ref a3, .null, .null, .int 0, .int 0, .null, .int 0, .int 0, .int 0, .int 0, .int 0, .int 0, .int 0, .int 0, .long 0, .null, .null, .null, .null, .null, .null, .null, .null, .int 0])) :: ws) 31 3 hC dX10_init_28 fcX10_16 hnm rfl rfl rfl (Nat.le_of_ble_eq_true rfl) rfl rfl ?_
  refine wc_aload_n 32 0 hC dX10_init_31 rfl 0 rfl rfl ?_
  refine wc_sipush 35 hC dX10_init_32 (v := (1058 : Int32)) (by decide) rfl ?_
  refine wc_newA (t := 1) (n := 1058) (ty := .long) (a0 := (1058, .inr (.inl (fun _ => 0)))) 37 hC dX10_init_35 (inW 288 (by decide +kernel) (by decide +kernel)) rfl rfl ra_J (fun _ => rfl) (by decide) (by decide) (by decide) ⟨Nat.le_of_ble_eq_true rfl, Nat.le_of_ble_eq_true rfl⟩ rfl (fun a4 => ?_)
  refine wc_put (ws' := (a4, .inl (gC G 1, 1058, .inr (.inl (fun _ => 0)))) :: (a3, .inl (gC G 0, 9528, .inl (fun _ => 0))) :: (a2, .inl (gC G 0, 1588, .inl (fun _ => 0))) :: (a1, .inl (gC G 0, 1588, .inl (fun _ => 0))) :: (h, .inr (10, [.ref a1, .ref a2, .ref a3, .ref a4, .null, .int 0, .int 0, .null, .int 0, .int 0, .int 0, .int 0, .int 0, .int 0, .int 0, .int 0, .long 0, .null, .null, .null, .null, .null, .null, .null, .null, .int 0])) :: ws) 40 4 hC dX10_init_37 fcX10_19 hnm rfl rfl rfl (Nat.le_of_ble_eq_true rfl) rfl rfl ?_
  refine wc_aload_n 41 0 hC dX10_init_40 rfl 0 rfl rfl ?_
  refine wc_sipush 44 hC dX10_init_41 (v := (6348 : Int32)) (by decide) rfl ?_
  refine wc_newA (t := 1) (n := 6348) (ty := .long) (a0 := (6348, .inr (.inl (fun _ => 0)))) 46 hC dX10_init_44 (inW 288 (by decide +kernel) (by decide +kernel)) rfl rfl ra_J (fun _ => rfl) (by decide) (by decide) (by decide) ⟨Nat.le_of_ble_eq_true rfl, Nat.le_of_ble_eq_true rfl⟩ rfl (fun a5 => ?_)
  refine wc_put (ws' := (a5, .inl (gC G 1, 6348, .inr (.inl (fun _ => 0)))) :: (a4, .inl (gC G 1, 1058, .inr (.inl (fun _ => 0)))) :: (a3, .inl (gC G 0, 9528, .inl (fun _ => 0))) :: (a2, .inl (gC G 0, 1588, .inl (fun _ => 0))) :: (a1, .inl (gC G 0, 1588, .inl (fun _ => 0))) :: (h, .inr (10, [.ref a1, .ref a2, .ref a3, .ref a4, .ref a5, .int 0, .int 0, .null, .int 0, .int 0, .int 0, .int 0, .int 0, .int 0, .int 0, .int 0, .long 0, .null, .null, .null, .null, .null, .null, .null, .null, .int 0])) :: ws) 49 5 hC dX10_init_46 fcX10_23 hnm rfl rfl rfl (Nat.le_of_ble_eq_true rfl) rfl rfl ?_
  refine wc_aload_n 50 0 hC dX10_init_49 rfl 0 rfl rfl ?_
  refine wc_sipush 53 hC dX10_init_50 (v := (300 : Int32)) (by decide) rfl ?_
  refine wc_newA (t := 0) (n := 300) (ty := .int) (a0 := (300, .inl (fun _ => 0))) 55 hC dX10_init_53 (inW 212 (by decide +kernel) (by decide +kernel)) rfl rfl ra_I (fun _ => rfl) (by decide) (by decide) (by decide) ⟨Nat.le_of_ble_eq_true rfl, Nat.le_of_ble_eq_true rfl⟩ rfl (fun a6 => ?_)
  refine wc_put (ws' := (a6, .inl (gC G 0, 300, .inl (fun _ => 0))) :: (a5, .inl (gC G 1, 6348, .inr (.inl (fun _ => 0)))) :: (a4, .inl (gC G 1, 1058, .inr (.inl (fun _ => 0)))) :: (a3, .inl (gC G 0, 9528, .inl (fun _ => 0))) :: (a2, .inl (gC G 0, 1588, .inl (fun _ => 0))) :: (a1, .inl (gC G 0, 1588, .inl (fun _ => 0))) :: (h, .inr (10, [.ref a1, .ref a2, .ref a3, .ref a4, .ref a5, .int 0, .int 0, .ref a6, .int 0, .int 0, .int 0, .int 0, .int 0, .int 0, .int 0, .int 0, .long 0, .null, .null, .null, .null, .null, .null, .null, .null, .int 0])) :: ws) 58 6 hC dX10_init_55 fcX10_26 hnm rfl rfl rfl (Nat.le_of_ble_eq_true rfl) rfl rfl ?_
  refine wc_aload_n 59 0 hC dX10_init_58 rfl 0 rfl rfl ?_
  refine wc_iconst 60 hC dX10_init_59 (v := (-1 : Int32)) (by decide) rfl ?_
  refine wc_put (ws' := (a6, .inl (gC G 0, 300, .inl (fun _ => 0))) :: (a5, .inl (gC G 1, 6348, .inr (.inl (fun _ => 0)))) :: (a4, .inl (gC G 1, 1058, .inr (.inl (fun _ => 0)))) :: (a3, .inl (gC G 0, 9528, .inl (fun _ => 0))) :: (a2, .inl (gC G 0, 1588, .inl (fun _ => 0))) :: (a1, .inl (gC G 0, 1588, .inl (fun _ => 0))) :: (h, .inr (10, [.ref a1, .ref a2, .ref a3, .ref a4, .ref a5, .int 0, .int 0, .ref a6, .int 0, .int 0, .int 0, .int 0, .int 0, .int 0, .int 0, .int (-1 : Int32), .long 0, .null, .null, .null, .null, .null, .null, .null, .null, .int 0])) :: ws) 63 6 hC dX10_init_60 fcX10_29 hnm rfl rfl rfl (Nat.le_of_ble_eq_true rfl) rfl rfl ?_
  refine wc_aload_n 64 0 hC dX10_init_63 rfl 0 rfl rfl ?_
  refine wc_bipush 66 hC dX10_init_64 (v := (17 : Int32)) (by decide) rfl ?_
  refine wc_newA (t := 1) (n := 17) (ty := .long) (a0 := (17, .inr (.inl (fun _ => 0)))) 68 hC dX10_init_66 (inW 288 (by decide +kernel) (by decide +kernel)) rfl rfl ra_J (fun _ => rfl) (by decide) (by decide) (by decide) ⟨Nat.le_of_ble_eq_true rfl, Nat.le_of_ble_eq_true rfl⟩ rfl (fun a7 => ?_)
  refine wc_put (ws' := (a7, .inl (gC G 1, 17, .inr (.inl (fun _ => 0)))) :: (a6, .inl (gC G 0, 300, .inl (fun _ => 0))) :: (a5, .inl (gC G 1, 6348, .inr (.inl (fun _ => 0)))) :: (a4, .inl (gC G 1, 1058, .inr (.inl (fun _ => 0)))) :: (a3, .inl (gC G 0, 9528, .inl (fun _ => 0))) :: (a2, .inl (gC G 0, 1588, .inl (fun _ => 0))) :: (a1, .inl (gC G 0, 1588, .inl (fun _ => 0))) :: (h, .inr (10, [.ref a1, .ref a2, .ref a3, .ref a4, .ref a5, .int 0, .int 0, .ref a6, .int 0, .int 0, .int 0, .int 0, .int 0, .int 0, .int 0, .int (-1 : Int32), .long 0, .ref a7, .null, .null, .null, .null, .null, .null, .null, .int 0])) :: ws) 71 7 hC dX10_init_68 fcX10_33 hnm rfl rfl rfl (Nat.le_of_ble_eq_true rfl) rfl rfl ?_
  refine wc_aload_n 72 0 hC dX10_init_71 rfl 0 rfl rfl ?_
  refine wc_bipush 74 hC dX10_init_72 (v := (17 : Int32)) (by decide) rfl ?_
  refine wc_newA (t := 1) (n := 17) (ty := .long) (a0 := (17, .inr (.inl (fun _ => 0)))) 76 hC dX10_init_74 (inW 288 (by decide +kernel) (by decide +kernel)) rfl rfl ra_J (fun _ => rfl) (by decide) (by decide) (by decide) ⟨Nat.le_of_ble_eq_true rfl, Nat.le_of_ble_eq_true rfl⟩ rfl (fun a8 => ?_)
  refine wc_put (ws' := (a8, .inl (gC G 1, 17, .inr (.inl (fun _ => 0)))) :: (a7, .inl (gC G 1, 17, .inr (.inl (fun _ => 0)))) :: (a6, .inl (gC G 0, 300, .inl (fun _ => 0))) :: (a5, .inl (gC G 1, 6348, .inr (.inl (fun _ => 0)))) :: (a4, .inl (gC G 1, 1058, .inr (.inl (fun _ => 0)))) :: (a3, .inl (gC G 0, 9528, .inl (fun _ => 0))) :: (a2, .inl (gC G 0, 1588, .inl (fun _ => 0))) :: (a1, .inl (gC G 0, 1588, .inl (fun _ => 0))) :: (h, .inr (10, [.ref a1, .ref a2, .ref a3, .ref a4, .ref a5, .int 0, .int 0, .ref a6, .int 0, .int 0, .int 0, .int 0, .int 0, .int 0, .int 0, .int (-1 : Int32), .long 0, .ref a7, .ref a8, .null, .null, .null, .null, .null, .null, .int 0])) :: ws) 79 8 hC dX10_init_76 fcX10_36 hnm rfl rfl rfl (Nat.le_of_ble_eq_true rfl) rfl rfl ?_
  refine wc_aload_n 80 0 hC dX10_init_79 rfl 0 rfl rfl ?_
  refine wc_bipush 82 hC dX10_init_80 (v := (17 : Int32)) (by decide) rfl ?_
  refine wc_newA (t := 1) (n := 17) (ty := .long) (a0 := (17, .inr (.inl (fun _ => 0)))) 84 hC dX10_init_82 (inW 288 (by decide +kernel) (by decide +kernel)) rfl rfl ra_J (fun _ => rfl) (by decide) (by decide) (by decide) ⟨Nat.le_of_ble_eq_true rfl, Nat.le_of_ble_eq_true rfl⟩ rfl (fun a9 => ?_)
  refine wc_put (ws' := (a9, .inl (gC G 1, 17, .inr (.inl (fun _ => 0)))) :: (a8, .inl (gC G 1, 17, .inr (.inl (fun _ => 0)))) :: (a7, .inl (gC G 1, 17, .inr (.inl (fun _ => 0)))) :: (a6, .inl (gC G 0, 300, .inl (fun _ => 0))) :: (a5, .inl (gC G 1, 6348, .inr (.inl (fun _ => 0)))) :: (a4, .inl (gC G 1, 1058, .inr (.inl (fun _ => 0)))) :: (a3, .inl (gC G 0, 9528, .inl (fun _ => 0))) :: (a2, .inl (gC G 0, 1588, .inl (fun _ => 0))) :: (a1, .inl (gC G 0, 1588, .inl (fun _ => 0))) :: (h, .inr (10, [.ref a1, .ref a2, .ref a3, .ref a4, .ref a5, .int 0, .int 0, .ref a6, .int 0, .int 0, .int 0, .int 0, .int 0, .int 0, .int 0, .int (-1 : Int32), .long 0, .ref a7, .ref a8, .ref a9, .null, .null, .null, .null, .null, .int 0])) :: ws) 87 9 hC dX10_init_84 fcX10_39 hnm rfl rfl rfl (Nat.le_of_ble_eq_true rfl) rfl rfl ?_
  refine wc_aload_n 88 0 hC dX10_init_87 rfl 0 rfl rfl ?_
  refine wc_bipush 90 hC dX10_init_88 (v := (17 : Int32)) (by decide) rfl ?_
  refine wc_newA (t := 3) (n := 17) (ty := .boolean) (a0 := (17, .inl (fun _ => 0))) 92 hC dX10_init_90 (inW 1444 (by decide +kernel) (by decide +kernel)) rfl rfl ra_Z (fun _ => rfl) (by decide) (by decide) (by decide) ⟨Nat.le_of_ble_eq_true rfl, Nat.le_of_ble_eq_true rfl⟩ rfl (fun a10 => ?_)
  refine wc_put (ws' := (a10, .inl (gC G 3, 17, .inl (fun _ => 0))) :: (a9, .inl (gC G 1, 17, .inr (.inl (fun _ => 0)))) :: (a8, .inl (gC G 1, 17, .inr (.inl (fun _ => 0)))) :: (a7, .inl (gC G 1, 17, .inr (.inl (fun _ => 0)))) :: (a6, .inl (gC G 0, 300, .inl (fun _ => 0))) :: (a5, .inl (gC G 1, 6348, .inr (.inl (fun _ => 0)))) :: (a4, .inl (gC G 1, 1058, .inr (.inl (fun _ => 0)))) :: (a3, .inl (gC G 0, 9528, .inl (fun _ => 0))) :: (a2, .inl (gC G 0, 1588, .inl (fun _ => 0))) :: (a1, .inl (gC G 0, 1588, .inl (fun _ => 0))) :: (h, .inr (10, [.ref a1, .ref a2, .ref a3, .ref a4, .ref a5, .int 0, .int 0, .ref a6, .int 0, .int 0, .int 0, .int 0, .int 0, .int 0, .int 0, .int (-1 : Int32), .long 0, .ref a7, .ref a8, .ref a9, .ref a10, .null, .null, .null, .null, .int 0])) :: ws) 95 10 hC dX10_init_92 fcX10_42 hnm rfl rfl rfl (Nat.le_of_ble_eq_true rfl) rfl rfl ?_
  refine wc_aload_n 96 0 hC dX10_init_95 rfl 0 rfl rfl ?_
  refine wc_bipush 98 hC dX10_init_96 (v := (16 : Int32)) (by decide) rfl ?_
  refine wc_newA (t := 1) (n := 16) (ty := .long) (a0 := (16, .inr (.inl (fun _ => 0)))) 100 hC dX10_init_98 (inW 288 (by decide +kernel) (by decide +kernel)) rfl rfl ra_J (fun _ => rfl) (by decide) (by decide) (by decide) ⟨Nat.le_of_ble_eq_true rfl, Nat.le_of_ble_eq_true rfl⟩ rfl (fun a11 => ?_)
  refine wc_put (ws' := (a11, .inl (gC G 1, 16, .inr (.inl (fun _ => 0)))) :: (a10, .inl (gC G 3, 17, .inl (fun _ => 0))) :: (a9, .inl (gC G 1, 17, .inr (.inl (fun _ => 0)))) :: (a8, .inl (gC G 1, 17, .inr (.inl (fun _ => 0)))) :: (a7, .inl (gC G 1, 17, .inr (.inl (fun _ => 0)))) :: (a6, .inl (gC G 0, 300, .inl (fun _ => 0))) :: (a5, .inl (gC G 1, 6348, .inr (.inl (fun _ => 0)))) :: (a4, .inl (gC G 1, 1058, .inr (.inl (fun _ => 0)))) :: (a3, .inl (gC G 0, 9528, .inl (fun _ => 0))) :: (a2, .inl (gC G 0, 1588, .inl (fun _ => 0))) :: (a1, .inl (gC G 0, 1588, .inl (fun _ => 0))) :: (h, .inr (10, [.ref a1, .ref a2, .ref a3, .ref a4, .ref a5, .int 0, .int 0, .ref a6, .int 0, .int 0, .int 0, .int 0, .int 0, .int 0, .int 0, .int (-1 : Int32), .long 0, .ref a7, .ref a8, .ref a9, .ref a10, .ref a11, .null, .null, .null, .int 0])) :: ws) 103 11 hC dX10_init_100 fcX10_46 hnm rfl rfl rfl (Nat.le_of_ble_eq_true rfl) rfl rfl ?_
  refine wc_aload_n 104 0 hC dX10_init_103 rfl 0 rfl rfl ?_
  refine wc_bipush 106 hC dX10_init_104 (v := (16 : Int32)) (by decide) rfl ?_
  refine wc_newA (t := 3) (n := 16) (ty := .boolean) (a0 := (16, .inl (fun _ => 0))) 108 hC dX10_init_106 (inW 1444 (by decide +kernel) (by decide +kernel)) rfl rfl ra_Z (fun _ => rfl) (by decide) (by decide) (by decide) ⟨Nat.le_of_ble_eq_true rfl, Nat.le_of_ble_eq_true rfl⟩ rfl (fun a12 => ?_)
  refine wc_put (ws' := (a12, .inl (gC G 3, 16, .inl (fun _ => 0))) :: (a11, .inl (gC G 1, 16, .inr (.inl (fun _ => 0)))) :: (a10, .inl (gC G 3, 17, .inl (fun _ => 0))) :: (a9, .inl (gC G 1, 17, .inr (.inl (fun _ => 0)))) :: (a8, .inl (gC G 1, 17, .inr (.inl (fun _ => 0)))) :: (a7, .inl (gC G 1, 17, .inr (.inl (fun _ => 0)))) :: (a6, .inl (gC G 0, 300, .inl (fun _ => 0))) :: (a5, .inl (gC G 1, 6348, .inr (.inl (fun _ => 0)))) :: (a4, .inl (gC G 1, 1058, .inr (.inl (fun _ => 0)))) :: (a3, .inl (gC G 0, 9528, .inl (fun _ => 0))) :: (a2, .inl (gC G 0, 1588, .inl (fun _ => 0))) :: (a1, .inl (gC G 0, 1588, .inl (fun _ => 0))) :: (h, .inr (10, [.ref a1, .ref a2, .ref a3, .ref a4, .ref a5, .int 0, .int 0, .ref a6, .int 0, .int 0, .int 0, .int 0, .int 0, .int 0, .int 0, .int (-1 : Int32), .long 0, .ref a7, .ref a8, .ref a9, .ref a10, .ref a11, .ref a12, .null, .null, .int 0])) :: ws) 111 12 hC dX10_init_108 fcX10_49 hnm rfl rfl rfl (Nat.le_of_ble_eq_true rfl) rfl rfl ?_
  refine wc_aload_n 112 0 hC dX10_init_111 rfl 0 rfl rfl ?_
  refine wc_bipush 114 hC dX10_init_112 (v := (84 : Int32)) (by decide) rfl ?_
  refine wc_newA (t := 1) (n := 84) (ty := .long) (a0 := (84, .inr (.inl (fun _ => 0)))) 116 hC dX10_init_114 (inW 288 (by decide +kernel) (by decide +kernel)) rfl rfl ra_J (fun _ => rfl) (by decide) (by decide) (by decide) ⟨Nat.le_of_ble_eq_true rfl, Nat.le_of_ble_eq_true rfl⟩ rfl (fun a13 => ?_)
  refine wc_put (ws' := (a13, .inl (gC G 1, 84, .inr (.inl (fun _ => 0)))) :: (a12, .inl (gC G 3, 16, .inl (fun _ => 0))) :: (a11, .inl (gC G 1, 16, .inr (.inl (fun _ => 0)))) :: (a10, .inl (gC G 3, 17, .inl (fun _ => 0))) :: (a9, .inl (gC G 1, 17, .inr (.inl (fun _ => 0)))) :: (a8, .inl (gC G 1, 17, .inr (.inl (fun _ => 0)))) :: (a7, .inl (gC G 1, 17, .inr (.inl (fun _ => 0)))) :: (a6, .inl (gC G 0, 300, .inl (fun _ => 0))) :: (a5, .inl (gC G 1, 6348, .inr (.inl (fun _ => 0)))) :: (a4, .inl (gC G 1, 1058, .inr (.inl (fun _ => 0)))) :: (a3, .inl (gC G 0, 9528, .inl (fun _ => 0))) :: (a2, .inl (gC G 0, 1588, .inl (fun _ => 0))) :: (a1, .inl (gC G 0, 1588, .inl (fun _ => 0))) :: (h, .inr (10, [.ref a1, .ref a2, .ref a3, .ref a4, .ref a5, .int 0, .int 0, .ref a6, .int 0, .int 0, .int 0, .int 0, .int 0, .int 0, .int 0, .int (-1 : Int32), .long 0, .ref a7, .ref a8, .ref a9, .ref a10, .ref a11, .ref a12, .ref a13, .null, .int 0])) :: ws) 119 13 hC dX10_init_116 fcX10_52 hnm rfl rfl rfl (Nat.le_of_ble_eq_true rfl) rfl rfl ?_
  refine wc_aload_n 120 0 hC dX10_init_119 rfl 0 rfl rfl ?_
  refine wc_bipush 122 hC dX10_init_120 (v := (100 : Int32)) (by decide) rfl ?_
  refine wc_newA (t := 2) (n := 100) (ty := .byte) (a0 := (100, .inl (fun _ => 0))) 124 hC dX10_init_122 (inW 377 (by decide +kernel) (by decide +kernel)) rfl rfl ra_B (fun _ => rfl) (by decide) (by decide) (by decide) ⟨Nat.le_of_ble_eq_true rfl, Nat.le_of_ble_eq_true rfl⟩ rfl (fun a14 => ?_)
  refine wc_put (ws' := (a14, .inl (gC G 2, 100, .inl (fun _ => 0))) :: (a13, .inl (gC G 1, 84, .inr (.inl (fun _ => 0)))) :: (a12, .inl (gC G 3, 16, .inl (fun _ => 0))) :: (a11, .inl (gC G 1, 16, .inr (.inl (fun _ => 0)))) :: (a10, .inl (gC G 3, 17, .inl (fun _ => 0))) :: (a9, .inl (gC G 1, 17, .inr (.inl (fun _ => 0)))) :: (a8, .inl (gC G 1, 17, .inr (.inl (fun _ => 0)))) :: (a7, .inl (gC G 1, 17, .inr (.inl (fun _ => 0)))) :: (a6, .inl (gC G 0, 300, .inl (fun _ => 0))) :: (a5, .inl (gC G 1, 6348, .inr (.inl (fun _ => 0)))) :: (a4, .inl (gC G 1, 1058, .inr (.inl (fun _ => 0)))) :: (a3, .inl (gC G 0, 9528, .inl (fun _ => 0))) :: (a2, .inl (gC G 0, 1588, .inl (fun _ => 0))) :: (a1, .inl (gC G 0, 1588, .inl (fun _ => 0))) :: (h, .inr (10, [.ref a1, .ref a2, .ref a3, .ref a4, .ref a5, .int 0, .int 0, .ref a6, .int 0, .int 0, .int 0, .int 0, .int 0, .int 0, .int 0, .int (-1 : Int32), .long 0, .ref a7, .ref a8, .ref a9, .ref a10, .ref a11, .ref a12, .ref a13, .ref a14, .int 0])) :: ws) 127 14 hC dX10_init_124 fcX10_55 hnm rfl rfl rfl (Nat.le_of_ble_eq_true rfl) rfl rfl ?_
  refine wc_aload_n 128 0 hC dX10_init_127 rfl 0 rfl rfl ?_
  refine wc_getR (v := .ref a1) 131 14 hC dX10_init_128 fcX10_7 rfl rfl rfl ?_
  refine wc_sipush 134 hC dX10_init_131 (v := (1000 : Int32)) (by decide) rfl ?_
  refine wc_bipush 136 hC dX10_init_134 (v := (12 : Int32)) (by decide) rfl ?_
  refine wc_bipush 138 hC dX10_init_136 (v := (50 : Int32)) (by decide) rfl ?_
  refine wc_bipush 140 hC dX10_init_138 (v := (100 : Int32)) (by decide) rfl ?_
  refine wc_perm (ws' := (a1, .inl (gC G 0, 1588, .inl (fun _ => 0))) :: (a14, .inl (gC G 2, 100, .inl (fun _ => 0))) :: (a13, .inl (gC G 1, 84, .inr (.inl (fun _ => 0)))) :: (a12, .inl (gC G 3, 16, .inl (fun _ => 0))) :: (a11, .inl (gC G 1, 16, .inr (.inl (fun _ => 0)))) :: (a10, .inl (gC G 3, 17, .inl (fun _ => 0))) :: (a9, .inl (gC G 1, 17, .inr (.inl (fun _ => 0)))) :: (a8, .inl (gC G 1, 17, .inr (.inl (fun _ => 0)))) :: (a7, .inl (gC G 1, 17, .inr (.inl (fun _ => 0)))) :: (a6, .inl (gC G 0, 300, .inl (fun _ => 0))) :: (a5, .inl (gC G 1, 6348, .inr (.inl (fun _ => 0)))) :: (a4, .inl (gC G 1, 1058, .inr (.inl (fun _ => 0)))) :: (a3, .inl (gC G 0, 9528, .inl (fun _ => 0))) :: (a2, .inl (gC G 0, 1588, .inl (fun _ => 0))) :: (h, .inr (10, [.ref a1, .ref a2, .ref a3, .ref a4, .ref a5, .int 0, .int 0, .ref a6, .int 0, .int 0, .int 0, .int 0, .int 0, .int 0, .int 0, .int (-1 : Int32), .long 0, .ref a7, .ref a8, .ref a9, .ref a10, .ref a11, .ref a12, .ref a13, .ref a14, .int 0])) :: ws) (List.perm_middle (l₁ := ([(a14, .inl (gC G 2, 100, .inl (fun _ => 0))), (a13, .inl (gC G 1, 84, .inr (.inl (fun _ => 0)))), (a12, .inl (gC G 3, 16, .inl (fun _ => 0))), (a11, .inl (gC G 1, 16, .inr (.inl (fun _ => 0)))), (a10, .inl (gC G 3, 17, .inl (fun _ => 0))), (a9, .inl (gC G 1, 17, .inr (.inl (fun _ => 0)))), (a8, .inl (gC G 1, 17, .inr (.inl (fun _ => 0)))), (a7, .inl (gC G 1, 17, .inr (.inl (fun _ => 0)))), (a6, .inl (gC G 0, 300, .inl (fun _ => 0))), (a5, .inl (gC G 1, 6348, .inr (.inl (fun _ => 0)))), (a4, .inl (gC G 1, 1058, .inr (.inl (fun _ => 0)))), (a3, .inl (gC G 0, 9528, .inl (fun _ => 0))), (a2, .inl (gC G 0, 1588, .inl (fun _ => 0)))] : va_W))) ?_
  refine wc_callS (st := []) 143 hC [.ref a1, .int (1000 : Int32), .int (12 : Int32), .int (50 : Int32), .int (100 : Int32)] dX10_init_140 knX10_begins msX10_59 (mcBeg E.2.1 hHf a1 (1000 : Int32) (12 : Int32) (50 : Int32) (100 : Int32) _ _) (Nat.le_of_ble_eq_true rfl) (Nat.le_of_ble_eq_true rfl) rfl (Nat.le_of_ble_eq_true rfl) ⟨Nat.le_of_ble_eq_true rfl, Nat.le_of_ble_eq_true rfl⟩ rfl rfl ?_
  rintro _ ⟨f, hf, rfl⟩
  refine wc_aload_n 144 0 hC dX10_init_143 rfl 0 rfl rfl ?_
  refine wc_getR (v := .ref a1) 147 14 hC dX10_init_144 fcX10_7 rfl rfl rfl ?_
  refine wc_iconst 148 hC dX10_init_147 (v := (4 : Int32)) (by decide) rfl ?_
  refine wc_iconst 149 hC dX10_init_148 (v := (1 : Int32)) (by decide) rfl ?_
  refine wc_iast (ws' := (a1, .inl (gC G 0, 1588, .inl (upd (upd (upd (upd (upd f 0 (1000 : Int32)) 1 (12 : Int32)) 2 (50 : Int32)) 3 (100 : Int32)) (4 : Int32).toNatClampNeg (1 : Int32)))) :: (a14, .inl (gC G 2, 100, .inl (fun _ => 0))) :: (a13, .inl (gC G 1, 84, .inr (.inl (fun _ => 0)))) :: (a12, .inl (gC G 3, 16, .inl (fun _ => 0))) :: (a11, .inl (gC G 1, 16, .inr (.inl (fun _ => 0)))) :: (a10, .inl (gC G 3, 17, .inl (fun _ => 0))) :: (a9, .inl (gC G 1, 17, .inr (.inl (fun _ => 0)))) :: (a8, .inl (gC G 1, 17, .inr (.inl (fun _ => 0)))) :: (a7, .inl (gC G 1, 17, .inr (.inl (fun _ => 0)))) :: (a6, .inl (gC G 0, 300, .inl (fun _ => 0))) :: (a5, .inl (gC G 1, 6348, .inr (.inl (fun _ => 0)))) :: (a4, .inl (gC G 1, 1058, .inr (.inl (fun _ => 0)))) :: (a3, .inl (gC G 0, 9528, .inl (fun _ => 0))) :: (a2, .inl (gC G 0, 1588, .inl (fun _ => 0))) :: (h, .inr (10, [.ref a1, .ref a2, .ref a3, .ref a4, .ref a5, .int 0, .int 0, .ref a6, .int 0, .int 0, .int 0, .int 0, .int 0, .int 0, .int 0, .int (-1 : Int32), .long 0, .ref a7, .ref a8, .ref a9, .ref a10, .ref a11, .ref a12, .ref a13, .ref a14, .int 0])) :: ws) 150 0 hC dX10_init_149 rfl (by decide) rfl rfl ?_
  refine wc_aload_n 151 0 hC dX10_init_150 rfl 0 rfl rfl ?_
  refine wc_getR (v := .ref a1) 154 14 hC dX10_init_151 fcX10_7 rfl rfl rfl ?_
  refine wc_bipush 156 hC dX10_init_154 (v := (32 : Int32)) (by decide) rfl ?_
  refine wc_bipush 158 hC dX10_init_156 (v := (10 : Int32)) (by decide) rfl ?_
  refine wc_iast (ws' := (a1, .inl (gC G 0, 1588, .inl (upd (upd (upd (upd (upd (upd f 0 (1000 : Int32)) 1 (12 : Int32)) 2 (50 : Int32)) 3 (100 : Int32)) (4 : Int32).toNatClampNeg (1 : Int32)) (32 : Int32).toNatClampNeg (10 : Int32)))) :: (a14, .inl (gC G 2, 100, .inl (fun _ => 0))) :: (a13, .inl (gC G 1, 84, .inr (.inl (fun _ => 0)))) :: (a12, .inl (gC G 3, 16, .inl (fun _ => 0))) :: (a11, .inl (gC G 1, 16, .inr (.inl (fun _ => 0)))) :: (a10, .inl (gC G 3, 17, .inl (fun _ => 0))) :: (a9, .inl (gC G 1, 17, .inr (.inl (fun _ => 0)))) :: (a8, .inl (gC G 1, 17, .inr (.inl (fun _ => 0)))) :: (a7, .inl (gC G 1, 17, .inr (.inl (fun _ => 0)))) :: (a6, .inl (gC G 0, 300, .inl (fun _ => 0))) :: (a5, .inl (gC G 1, 6348, .inr (.inl (fun _ => 0)))) :: (a4, .inl (gC G 1, 1058, .inr (.inl (fun _ => 0)))) :: (a3, .inl (gC G 0, 9528, .inl (fun _ => 0))) :: (a2, .inl (gC G 0, 1588, .inl (fun _ => 0))) :: (h, .inr (10, [.ref a1, .ref a2, .ref a3, .ref a4, .ref a5, .int 0, .int 0, .ref a6, .int 0, .int 0, .int 0, .int 0, .int 0, .int 0, .int 0, .int (-1 : Int32), .long 0, .ref a7, .ref a8, .ref a9, .ref a10, .ref a11, .ref a12, .ref a13, .ref a14, .int 0])) :: ws) 159 0 hC dX10_init_158 rfl (by decide) rfl rfl ?_
  exact wc_vret hC hQ ⟨Nat.le_of_ble_eq_true rfl, Nat.le_of_ble_eq_true rfl⟩ ⟨f, a1, a14, a13, a12, a11, a10, a9, a8, a7, a6, a5, a4, a3, a2, hf, rfl⟩ dX10_init_159
