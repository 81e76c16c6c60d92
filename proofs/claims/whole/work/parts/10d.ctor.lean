theorem ra_I {s : State} (cA cB : ClassId) (h1 : va_RA s cA .int) (h2 : va_RA s cB .int) : cA = cB := ra_prim (s := s) (ty := .int) (fun _ h => h) cA cB h1 h2
theorem ra_J {s : State} (cA cB : ClassId) (h1 : va_RA s cA .long) (h2 : va_RA s cB .long) : cA = cB := ra_prim (s := s) (ty := .long) (fun _ h => h) cA cB h1 h2
theorem ra_B {s : State} (cA cB : ClassId) (h1 : va_RA s cA .byte) (h2 : va_RA s cB .byte) : cA = cB := ra_prim (s := s) (ty := .byte) (fun _ h => h) cA cB h1 h2
theorem ra_Z {s : State} (cA cB : ClassId) (h1 : va_RA s cA .boolean) (h2 : va_RA s cB .boolean) : cA = cB := ra_prim (s := s) (ty := .boolean) (fun _ h => h) cA cB h1 h2
theorem oiX8 : Cond.methodLink RX8 3 Lib.objectInit ∈ ALLW ∧ Cond.instanceMethod Lib.objectInit ∈ ALLW ∧ Cond.code Lib.objectInit ⟨#[0xb1]⟩ 1 none ∈ ALLW := ⟨inW 234 (by decide +kernel) (by decide +kernel), inW 159 (by decide +kernel) (by decide +kernel), inW 160 (by decide +kernel) (by decide +kernel)⟩
theorem fcX8_9 : FC RX8 9 8 5 .int false := ⟨_, _, _, tyX8, rfl, inX8, tyX8_ok, nmX8, by decide, inW 251 (by decide +kernel) (by decide +kernel), rfl, rfl, rfl⟩
theorem fcX8_15 : FC RX8 15 8 7 (.array .int) true := ⟨_, _, _, tyX8, rfl, inX8, tyX8_ok, nmX8, by decide, inW 258 (by decide +kernel) (by decide +kernel), rfl, rfl, rfl⟩
theorem fcX8_19 : FC RX8 19 8 8 (.array .long) true := ⟨_, _, _, tyX8, rfl, inX8, tyX8_ok, nmX8, by decide, inW 262 (by decide +kernel) (by decide +kernel), rfl, rfl, rfl⟩
theorem fcX8_23 : FC RX8 23 8 9 (.array .long) true := ⟨_, _, _, tyX8, rfl, inX8, tyX8_ok, nmX8, by decide, inW 264 (by decide +kernel) (by decide +kernel), rfl, rfl, rfl⟩
theorem mcX8 (l : Launch) {G : gU} {Hf : Heap} (hHf : HB G Hf) (h : Nat) (ws : va_W) : MC l yX8_init cX8_init 1 1 3 138 G Hf [.ref h] ((h, .inr (8, [.int 0, .int 0, .int 0, .int 0, .int 0, .int 0, .int 0, .null, .null, .null])) :: ws) (fun ws' => ∃ a3 a2 a1 : Nat, ws' = (a3, .inl (gC G 1, 6, .inr (.inl (fun _ => 0)))) :: (a2, .inl (gC G 1, 72, .inr (.inl (fun _ => 0)))) :: (a1, .inl (gC G 0, 60, .inl (fun _ => 0))) :: (h, .inr (8, [.int 0, .int 0, .int 0, .int 0, .int 0, .int (-1 : Int32), .int 0, .ref a1, .ref a2, .ref a3])) :: ws) := by
  refine vc_enter (lv := [(0, .ref h)]) RX8 rfl (by decide) rfl (Nat.le_of_ble_eq_true rfl) rfl hHf ?_
  intro E hE hC hQ hnm
  subst hE
  refine wc_aload_n 1 0 hC dX8_init_0 rfl 0 rfl rfl ?_
  refine wc_objInit 4 hC dX8_init_1 oiX8 (Nat.le_of_ble_eq_true rfl) (Nat.le_of_ble_eq_true rfl) rfl ?_
  refine wc_aload_n 5 0 hC dX8_init_4 rfl 0 rfl rfl ?_
  refine wc_iconst 6 hC dX8_init_5 (v := (-1 : Int32)) (by decide) rfl ?_
  refine wc_put (ws' := (h, .inr (8, [.int 0, .int 0, .int 0, .int 0, .int 0, .int (-1 : Int32), .int 0, .null, .null, .null])) :: ws) 9 0 hC dX8_init_6 fcX8_9 hnm rfl rfl rfl (Nat.le_of_ble_eq_true rfl) rfl rfl ?_
  refine wc_aload_n 10 0 hC dX8_init_9 rfl 0 rfl rfl ?_
  refine wc_bipush 12 hC dX8_init_10 (v := (60 : Int32)) (by decide) rfl ?_
  refine wc_newA (t := 0) (n := 60) (ty := .int) (a0 := (60, .inl (fun _ => 0))) 14 hC dX8_init_12 (inW 212 (by decide +kernel) (by decide +kernel)) rfl rfl ra_I (fun _ => rfl) (by decide) (by decide) (by decide) ⟨Nat.le_of_ble_eq_true rfl, Nat.le_of_ble_eq_true rfl⟩ rfl (fun a1 => ?_)
  refine wc_put (ws' := (a1, .inl (gC G 0, 60, .inl (fun _ => 0))) :: (h, .inr (8, [.int 0, .int 0, .int 0, .int 0, .int 0, .int (-1 : Int32), .int 0, .ref a1, .null, .null])) :: ws) 17 1 hC dX8_init_14 fcX8_15 hnm rfl rfl rfl (Nat.le_of_ble_eq_true rfl) rfl rfl ?_
  refine wc_aload_n 18 0 hC dX8_init_17 rfl 0 rfl rfl ?_
  refine wc_bipush 20 hC dX8_init_18 (v := (72 : Int32)) (by decide) rfl ?_
  refine wc_newA (t := 1) (n := 72) (ty := .long) (a0 := (72, .inr (.inl (fun _ => 0)))) 22 hC dX8_init_20 (inW 288 (by decide +kernel) (by decide +kernel)) rfl rfl ra_J (fun _ => rfl) (by decide) (by decide) (by decide) ⟨Nat.le_of_ble_eq_true rfl, Nat.le_of_ble_eq_true rfl⟩ rfl (fun a2 => ?_)
  refine wc_put (ws' := (a2, .inl (gC G 1, 72, .inr (.inl (fun _ => 0)))) :: (a1, .inl (gC G 0, 60, .inl (fun _ => 0))) :: (h, .inr (8, [.int 0, .int 0, .int 0, .int 0, .int 0, .int (-1 : Int32), .int 0, .ref a1, .ref a2, .null])) :: ws) 25 2 hC dX8_init_22 fcX8_19 hnm rfl rfl rfl (Nat.le_of_ble_eq_true rfl) rfl rfl ?_
  refine wc_aload_n 26 0 hC dX8_init_25 rfl 0 rfl rfl ?_
  refine wc_bipush 28 hC dX8_init_26 (v := (6 : Int32)) (by decide) rfl ?_
  refine wc_newA (t := 1) (n := 6) (ty := .long) (a0 := (6, .inr (.inl (fun _ => 0)))) 30 hC dX8_init_28 (inW 288 (by decide +kernel) (by decide +kernel)) rfl rfl ra_J (fun _ => rfl) (by decide) (by decide) (by decide) ⟨Nat.le_of_ble_eq_true rfl, Nat.le_of_ble_eq_true rfl⟩ rfl (fun a3 => ?_)
  refine wc_put (ws' := (a3, .inl (gC G 1, 6, .inr (.inl (fun _ => 0)))) :: (a2, .inl (gC G 1, 72, .inr (.inl (fun _ => 0)))) :: (a1, .inl (gC G 0, 60, .inl (fun _ => 0))) :: (h, .inr (8, [.int 0, .int 0, .int 0, .int 0, .int 0, .int (-1 : Int32), .int 0, .ref a1, .ref a2, .ref a3])) :: ws) 33 3 hC dX8_init_30 fcX8_23 hnm rfl rfl rfl (Nat.le_of_ble_eq_true rfl) rfl rfl ?_
  exact wc_vret hC hQ ⟨Nat.le_of_ble_eq_true rfl, Nat.le_of_ble_eq_true rfl⟩ ⟨a3, a2, a1, rfl⟩ dX8_init_33
theorem oiX4 : Cond.methodLink RX4 3 Lib.objectInit ∈ ALLW ∧ Cond.instanceMethod Lib.objectInit ∈ ALLW ∧ Cond.code Lib.objectInit ⟨#[0xb1]⟩ 1 none ∈ ALLW := ⟨inW 172 (by decide +kernel) (by decide +kernel), inW 159 (by decide +kernel) (by decide +kernel), inW 160 (by decide +kernel) (by decide +kernel)⟩
theorem fcX4_9 : FC RX4 9 4 0 .int false := ⟨_, _, _, tyX4, rfl, inX4, tyX4_ok, nmX4, by decide, inW 173 (by decide +kernel) (by decide +kernel), rfl, rfl, rfl⟩
theorem fcX4_15 : FC RX4 15 4 1 .int false := ⟨_, _, _, tyX4, rfl, inX4, tyX4_ok, nmX4, by decide, inW 177 (by decide +kernel) (by decide +kernel), rfl, rfl, rfl⟩
theorem fcX4_18 : FC RX4 18 4 2 .int false := ⟨_, _, _, tyX4, rfl, inX4, tyX4_ok, nmX4, by decide, inW 181 (by decide +kernel) (by decide +kernel), rfl, rfl, rfl⟩
theorem fcX4_21 : FC RX4 21 4 3 .int false := ⟨_, _, _, tyX4, rfl, inX4, tyX4_ok, nmX4, by decide, inW 185 (by decide +kernel) (by decide +kernel), rfl, rfl, rfl⟩
theorem fcX4_24 : FC RX4 24 4 4 .int false := ⟨_, _, _, tyX4, rfl, inX4, tyX4_ok, nmX4, by decide, inW 188 (by decide +kernel) (by decide +kernel), rfl, rfl, rfl⟩
theorem fcX4_27 : FC RX4 27 4 5 (.array .int) true := ⟨_, _, _, tyX4, rfl, inX4, tyX4_ok, nmX4, by decide, inW 192 (by decide +kernel) (by decide +kernel), rfl, rfl, rfl⟩
theorem fcX4_31 : FC RX4 31 4 6 (.array .int) true := ⟨_, _, _, tyX4, rfl, inX4, tyX4_ok, nmX4, by decide, inW 195 (by decide +kernel) (by decide +kernel), rfl, rfl, rfl⟩
theorem mcX4 (l : Launch) {G : gU} {Hf : Heap} (hHf : HB G Hf) (h : Nat) (ws : va_W) : MC l yX4_init cX4_init 1 1 2 28 G Hf [.ref h] ((h, .inr (4, [.int 0, .int 0, .int 0, .int 0, .int 0, .null, .null])) :: ws) (fun ws' => ∃ a2 a1 : Nat, ws' = (a2, .inl (gC G 0, 24, .inl (fun _ => 0))) :: (a1, .inl (gC G 0, 4, .inl (upd (upd (upd (upd (fun _ => 0) (0 : Int32).toNatClampNeg (10 : Int32)) (1 : Int32).toNatClampNeg (0 : Int32)) (2 : Int32).toNatClampNeg (0 : Int32)) (3 : Int32).toNatClampNeg (0 : Int32)))) :: (h, .inr (4, [.int (1000 : Int32), .int (12 : Int32), .int (50 : Int32), .int (100 : Int32), .int (1 : Int32), .ref a1, .ref a2])) :: ws) := by
  refine vc_enter (lv := [(0, .ref h)]) RX4 rfl (by decide) rfl (Nat.le_of_ble_eq_true rfl) rfl hHf ?_
  intro E hE hC hQ hnm
  subst hE
  refine wc_aload_n 1 0 hC dX4_init_0 rfl 0 rfl rfl ?_
  refine wc_objInit 4 hC dX4_init_1 oiX4 (Nat.le_of_ble_eq_true rfl) (Nat.le_of_ble_eq_true rfl) rfl ?_
  refine wc_aload_n 5 0 hC dX4_init_4 rfl 0 rfl rfl ?_
  refine wc_sipush 8 hC dX4_init_5 (v := (1000 : Int32)) (by decide) rfl ?_
  refine wc_put (ws' := (h, .inr (4, [.int (1000 : Int32), .int 0, .int 0, .int 0, .int 0, .null, .null])) :: ws) 11 0 hC dX4_init_8 fcX4_9 hnm rfl rfl rfl (Nat.le_of_ble_eq_true rfl) rfl rfl ?_
  refine wc_aload_n 12 0 hC dX4_init_11 rfl 0 rfl rfl ?_
  refine wc_bipush 14 hC dX4_init_12 (v := (12 : Int32)) (by decide) rfl ?_
  refine wc_put (ws' := (h, .inr (4, [.int (1000 : Int32), .int (12 : Int32), .int 0, .int 0, .int 0, .null, .null])) :: ws) 17 0 hC dX4_init_14 fcX4_15 hnm rfl rfl rfl (Nat.le_of_ble_eq_true rfl) rfl rfl ?_
  refine wc_aload_n 18 0 hC dX4_init_17 rfl 0 rfl rfl ?_
  refine wc_bipush 20 hC dX4_init_18 (v := (50 : Int32)) (by decide) rfl ?_
  refine wc_put (ws' := (h, .inr (4, [.int (1000 : Int32), .int (12 : Int32), .int (50 : Int32), .int 0, .int 0, .null, .null])) :: ws) 23 0 hC dX4_init_20 fcX4_18 hnm rfl rfl rfl (Nat.le_of_ble_eq_true rfl) rfl rfl ?_
  refine wc_aload_n 24 0 hC dX4_init_23 rfl 0 rfl rfl ?_
  refine wc_bipush 26 hC dX4_init_24 (v := (100 : Int32)) (by decide) rfl ?_
  refine wc_put (ws' := (h, .inr (4, [.int (1000 : Int32), .int (12 : Int32), .int (50 : Int32), .int (100 : Int32), .int 0, .null, .null])) :: ws) 29 0 hC dX4_init_26 fcX4_21 hnm rfl rfl rfl (Nat.le_of_ble_eq_true rfl) rfl rfl ?_
  refine wc_aload_n 30 0 hC dX4_init_29 rfl 0 rfl rfl ?_
  refine wc_iconst 31 hC dX4_init_30 (v := (1 : Int32)) (by decide) rfl ?_
  refine wc_put (ws' := (h, .inr (4, [.int (1000 : Int32), .int (12 : Int32), .int (50 : Int32), .int (100 : Int32), .int (1 : Int32), .null, .null])) :: ws) 34 0 hC dX4_init_31 fcX4_24 hnm rfl rfl rfl (Nat.le_of_ble_eq_true rfl) rfl rfl ?_
  refine wc_aload_n 35 0 hC dX4_init_34 rfl 0 rfl rfl ?_
  refine wc_iconst 36 hC dX4_init_35 (v := (4 : Int32)) (by decide) rfl ?_
  refine wc_newA (t := 0) (n := 4) (ty := .int) (a0 := (4, .inl (fun _ => 0))) 38 hC dX4_init_36 (inW 212 (by decide +kernel) (by decide +kernel)) rfl rfl ra_I (fun _ => rfl) (by decide) (by decide) (by decide) ⟨Nat.le_of_ble_eq_true rfl, Nat.le_of_ble_eq_true rfl⟩ rfl (fun a1 => ?_)
  refine wc_dup 39 hC dX4_init_38 rfl rfl ?_
  refine wc_iconst 40 hC dX4_init_39 (v := (0 : Int32)) (by decide) rfl ?_
  refine wc_bipush 42 hC dX4_init_40 (v := (10 : Int32)) (by decide) rfl ?_
  refine wc_iast (ws' := (a1, .inl (gC G 0, 4, .inl (upd (fun _ => 0) (0 : Int32).toNatClampNeg (10 : Int32)))) :: (h, .inr (4, [.int (1000 : Int32), .int (12 : Int32), .int (50 : Int32), .int (100 : Int32), .int (1 : Int32), .null, .null])) :: ws) 43 0 hC dX4_init_42 rfl (by decide) rfl rfl ?_
  refine wc_dup 44 hC dX4_init_43 rfl rfl ?_
  refine wc_iconst 45 hC dX4_init_44 (v := (1 : Int32)) (by decide) rfl ?_
  refine wc_iconst 46 hC dX4_init_45 (v := (0 : Int32)) (by decide) rfl ?_
  refine wc_iast (ws' := (a1, .inl (gC G 0, 4, .inl (upd (upd (fun _ => 0) (0 : Int32).toNatClampNeg (10 : Int32)) (1 : Int32).toNatClampNeg (0 : Int32)))) :: (h, .inr (4, [.int (1000 : Int32), .int (12 : Int32), .int (50 : Int32), .int (100 : Int32), .int (1 : Int32), .null, .null])) :: ws) 47 0 hC dX4_init_46 rfl (by decide) rfl rfl ?_
  refine wc_dup 48 hC dX4_init_47 rfl rfl ?_
  refine wc_iconst 49 hC dX4_init_48 (v := (2 : Int32)) (by decide) rfl ?_
  refine wc_iconst 50 hC dX4_init_49 (v := (0 : Int32)) (by decide) rfl ?_
  refine wc_iast (ws' := (a1, .inl (gC G 0, 4, .inl (upd (upd (upd (fun _ => 0) (0 : Int32).toNatClampNeg (10 : Int32)) (1 : Int32).toNatClampNeg (0 : Int32)) (2 : Int32).toNatClampNeg (0 : Int32)))) :: (h, .inr (4, [.int (1000 : Int32), .int (12 : Int32), .int (50 : Int32), .int (100 : Int32), .int (1 : Int32), .null, .null])) :: ws) 51 0 hC dX4_init_50 rfl (by decide) rfl rfl ?_
  refine wc_dup 52 hC dX4_init_51 rfl rfl ?_
  refine wc_iconst 53 hC dX4_init_52 (v := (3 : Int32)) (by decide) rfl ?_
  refine wc_iconst 54 hC dX4_init_53 (v := (0 : Int32)) (by decide) rfl ?_
  refine wc_iast (ws' := (a1, .inl (gC G 0, 4, .inl (upd (upd (upd (upd (fun _ => 0) (0 : Int32).toNatClampNeg (10 : Int32)) (1 : Int32).toNatClampNeg (0 : Int32)) (2 : Int32).toNatClampNeg (0 : Int32)) (3 : Int32).toNatClampNeg (0 : Int32)))) :: (h, .inr (4, [.int (1000 : Int32), .int (12 : Int32), .int (50 : Int32), .int (100 : Int32), .int (1 : Int32), .null, .null])) :: ws) 55 0 hC dX4_init_54 rfl (by decide) rfl rfl ?_
  refine wc_put (ws' := (a1, .inl (gC G 0, 4, .inl (upd (upd (upd (upd (fun _ => 0) (0 : Int32).toNatClampNeg (10 : Int32)) (1 : Int32).toNatClampNeg (0 : Int32)) (2 : Int32).toNatClampNeg (0 : Int32)) (3 : Int32).toNatClampNeg (0 : Int32)))) :: (h, .inr (4, [.int (1000 : Int32), .int (12 : Int32), .int (50 : Int32), .int (100 : Int32), .int (1 : Int32), .ref a1, .null])) :: ws) 58 1 hC dX4_init_55 fcX4_27 hnm rfl rfl rfl (Nat.le_of_ble_eq_true rfl) rfl rfl ?_
  refine wc_aload_n 59 0 hC dX4_init_58 rfl 0 rfl rfl ?_
  refine wc_bipush 61 hC dX4_init_59 (v := (24 : Int32)) (by decide) rfl ?_
  refine wc_newA (t := 0) (n := 24) (ty := .int) (a0 := (24, .inl (fun _ => 0))) 63 hC dX4_init_61 (inW 212 (by decide +kernel) (by decide +kernel)) rfl rfl ra_I (fun _ => rfl) (by decide) (by decide) (by decide) ⟨Nat.le_of_ble_eq_true rfl, Nat.le_of_ble_eq_true rfl⟩ rfl (fun a2 => ?_)
  refine wc_put (ws' := (a2, .inl (gC G 0, 24, .inl (fun _ => 0))) :: (a1, .inl (gC G 0, 4, .inl (upd (upd (upd (upd (fun _ => 0) (0 : Int32).toNatClampNeg (10 : Int32)) (1 : Int32).toNatClampNeg (0 : Int32)) (2 : Int32).toNatClampNeg (0 : Int32)) (3 : Int32).toNatClampNeg (0 : Int32)))) :: (h, .inr (4, [.int (1000 : Int32), .int (12 : Int32), .int (50 : Int32), .int (100 : Int32), .int (1 : Int32), .ref a1, .ref a2])) :: ws) 66 2 hC dX4_init_63 fcX4_31 hnm rfl rfl rfl (Nat.le_of_ble_eq_true rfl) rfl rfl ?_
  exact wc_vret hC hQ ⟨Nat.le_of_ble_eq_true rfl, Nat.le_of_ble_eq_true rfl⟩ ⟨a2, a1, rfl⟩ dX4_init_66
theorem oiX7 : Cond.methodLink RX7 3 Lib.objectInit ∈ ALLW ∧ Cond.instanceMethod Lib.objectInit ∈ ALLW ∧ Cond.code Lib.objectInit ⟨#[0xb1]⟩ 1 none ∈ ALLW := ⟨inW 218 (by decide +kernel) (by decide +kernel), inW 159 (by decide +kernel) (by decide +kernel), inW 160 (by decide +kernel) (by decide +kernel)⟩
theorem fcX7_9 : FC RX7 9 7 0 (.array .int) true := ⟨_, _, _, tyX7, rfl, inX7, tyX7_ok, nmX7, by decide, inW 219 (by decide +kernel) (by decide +kernel), rfl, rfl, rfl⟩
theorem fcX7_15 : FC RX7 15 7 1 (.array .int) true := ⟨_, _, _, tyX7, rfl, inX7, tyX7_ok, nmX7, by decide, inW 221 (by decide +kernel) (by decide +kernel), rfl, rfl, rfl⟩
theorem mcX7 (l : Launch) {G : gU} {Hf : Heap} (hHf : HB G Hf) (h : Nat) (ws : va_W) : MC l yX7_init cX7_init 1 1 2 480 G Hf [.ref h] ((h, .inr (7, [.null, .null])) :: ws) (fun ws' => ∃ a2 a1 : Nat, ws' = (a2, .inl (gC G 0, 240, .inl (fun _ => 0))) :: (a1, .inl (gC G 0, 240, .inl (fun _ => 0))) :: (h, .inr (7, [.ref a1, .ref a2])) :: ws) := by
  refine vc_enter (lv := [(0, .ref h)]) RX7 rfl (by decide) rfl (Nat.le_of_ble_eq_true rfl) rfl hHf ?_
  intro E hE hC hQ hnm
  subst hE
  refine wc_aload_n 1 0 hC dX7_init_0 rfl 0 rfl rfl ?_
  refine wc_objInit 4 hC dX7_init_1 oiX7 (Nat.le_of_ble_eq_true rfl) (Nat.le_of_ble_eq_true rfl) rfl ?_
  refine wc_aload_n 5 0 hC dX7_init_4 rfl 0 rfl rfl ?_
  refine wc_sipush 8 hC dX7_init_5 (v := (240 : Int32)) (by decide) rfl ?_
  refine wc_newA (t := 0) (n := 240) (ty := .int) (a0 := (240, .inl (fun _ => 0))) 10 hC dX7_init_8 (inW 212 (by decide +kernel) (by decide +kernel)) rfl rfl ra_I (fun _ => rfl) (by decide) (by decide) (by decide) ⟨Nat.le_of_ble_eq_true rfl, Nat.le_of_ble_eq_true rfl⟩ rfl (fun a1 => ?_)
  refine wc_put (ws' := (a1, .inl (gC G 0, 240, .inl (fun _ => 0))) :: (h, .inr (7, [.ref a1, .null])) :: ws) 13 1 hC dX7_init_10 fcX7_9 hnm rfl rfl rfl (Nat.le_of_ble_eq_true rfl) rfl rfl ?_
  refine wc_aload_n 14 0 hC dX7_init_13 rfl 0 rfl rfl ?_
  refine wc_sipush 17 hC dX7_init_14 (v := (240 : Int32)) (by decide) rfl ?_
  refine wc_newA (t := 0) (n := 240) (ty := .int) (a0 := (240, .inl (fun _ => 0))) 19 hC dX7_init_17 (inW 212 (by decide +kernel) (by decide +kernel)) rfl rfl ra_I (fun _ => rfl) (by decide) (by decide) (by decide) ⟨Nat.le_of_ble_eq_true rfl, Nat.le_of_ble_eq_true rfl⟩ rfl (fun a2 => ?_)
  refine wc_put (ws' := (a2, .inl (gC G 0, 240, .inl (fun _ => 0))) :: (a1, .inl (gC G 0, 240, .inl (fun _ => 0))) :: (h, .inr (7, [.ref a1, .ref a2])) :: ws) 22 2 hC dX7_init_19 fcX7_15 hnm rfl rfl rfl (Nat.le_of_ble_eq_true rfl) rfl rfl ?_
  exact wc_vret hC hQ ⟨Nat.le_of_ble_eq_true rfl, Nat.le_of_ble_eq_true rfl⟩ ⟨a2, a1, rfl⟩ dX7_init_22
theorem oiX6 : Cond.methodLink RX6 3 Lib.objectInit ∈ ALLW ∧ Cond.instanceMethod Lib.objectInit ∈ ALLW ∧ Cond.code Lib.objectInit ⟨#[0xb1]⟩ 1 none ∈ ALLW := ⟨inW 333 (by decide +kernel) (by decide +kernel), inW 159 (by decide +kernel) (by decide +kernel), inW 160 (by decide +kernel) (by decide +kernel)⟩
theorem fcX6_11 : FC RX6 11 6 0 (.array (.object "SolarLedger$Books")) true := ⟨_, _, _, tyX6, rfl, inX6, tyX6_ok, nmX6, by decide, inW 336 (by decide +kernel) (by decide +kernel), rfl, rfl, rfl⟩
theorem mcX6 (l : Launch) {G : gU} {Hf : Heap} (hHf : HB G Hf) (h : Nat) (ws : va_W) : MC l yX6_init cX6_init 1 1 1 6 G Hf [.ref h] ((h, .inr (6, [.null, .int 0, .int 0])) :: ws) (fun ws' => ∃ a1 : Nat, ws' = (a1, .inl (gC G 5, 6, .inr (.inr (.inr (.inr (fun _ => none)))))) :: (h, .inr (6, [.ref a1, .int 0, .int 0])) :: ws) := by
  refine vc_enter (lv := [(0, .ref h)]) RX6 rfl (by decide) rfl (Nat.le_of_ble_eq_true rfl) rfl hHf ?_
  intro E hE hC hQ hnm
  subst hE
  refine wc_aload_n 1 0 hC dX6_init_0 rfl 0 rfl rfl ?_
  refine wc_objInit 4 hC dX6_init_1 oiX6 (Nat.le_of_ble_eq_true rfl) (Nat.le_of_ble_eq_true rfl) rfl ?_
  refine wc_aload_n 5 0 hC dX6_init_4 rfl 0 rfl rfl ?_
  refine wc_bipush 7 hC dX6_init_5 (v := (6 : Int32)) (by decide) rfl ?_
  refine wc_newQ (t := 5) (n := 6) 10 hC dX6_init_7 (inW 334 (by decide +kernel) (by decide +kernel)) hC.2.2.2.2.2.1.2.2.2.2.2.2.2.2.2.2 rfl (by decide) (by decide) (by decide) ⟨Nat.le_of_ble_eq_true rfl, Nat.le_of_ble_eq_true rfl⟩ rfl (fun a1 => ?_)
  refine wc_put (ws' := (a1, .inl (gC G 5, 6, .inr (.inr (.inr (.inr (fun _ => none)))))) :: (h, .inr (6, [.ref a1, .int 0, .int 0])) :: ws) 13 1 hC dX6_init_10 fcX6_11 hnm rfl rfl rfl (Nat.le_of_ble_eq_true rfl) rfl rfl ?_
  exact wc_vret hC hQ ⟨Nat.le_of_ble_eq_true rfl, Nat.le_of_ble_eq_true rfl⟩ ⟨a1, rfl⟩ dX6_init_13
theorem oiX5 : Cond.methodLink RX5 3 Lib.objectInit ∈ ALLW ∧ Cond.instanceMethod Lib.objectInit ∈ ALLW ∧ Cond.code Lib.objectInit ⟨#[0xb1]⟩ 1 none ∈ ALLW := ⟨inW 352 (by decide +kernel) (by decide +kernel), inW 159 (by decide +kernel) (by decide +kernel), inW 160 (by decide +kernel) (by decide +kernel)⟩
theorem fcX5_9 : FC RX5 9 5 0 (.array .byte) true := ⟨_, _, _, tyX5, rfl, inX5, tyX5_ok, nmX5, by decide, inW 355 (by decide +kernel) (by decide +kernel), rfl, rfl, rfl⟩
theorem nwX5_15 : NWc RX5 15 4 7 [.int 0, .int 0, .int 0, .int 0, .int 0, .null, .null] := ⟨RX4, TX4, tyX4, rfl, inX4, tyX4_ok, inW 353 (by decide +kernel) (by decide +kernel), inW 168 (by decide +kernel) (by decide +kernel), inW 130 (by decide +kernel) (by decide +kernel), fun j hj => by match j, hj with | 0, _ => rfl | 1, _ => rfl | 2, _ => rfl | 3, _ => rfl | 4, _ => rfl | 5, _ => rfl | 6, _ => rfl | j + 7, hj => exact absurd hj (by omega)⟩
theorem liX5_17 : (Cond.methodLink RX5 17 yX4_init ∈ ALLW ∨ ∃ host, Cond.methodLinkNest RX5 17 yX4_init host ∈ NW) ∧ Cond.instanceMethod yX4_init ∈ ALLW := ⟨Or.inr ⟨"SolarLedger", inN 227 (by decide +kernel) (by decide +kernel)⟩, inW 170 (by decide +kernel) (by decide +kernel)⟩
theorem knX4_init : KN yX4_init cX4_init 1 none 0 := ⟨inW 171 (by decide +kernel) (by decide +kernel), inW 130 (by decide +kernel) (by decide +kernel), (by decide +kernel), (by decide +kernel), (by decide +kernel)⟩
theorem fcX5_18 : FC RX5 18 5 5 (.object "SolarLedger$Garden") true := ⟨_, _, _, tyX5, rfl, inX5, tyX5_ok, nmX5, by decide, inW 362 (by decide +kernel) (by decide +kernel), rfl, rfl, rfl⟩
theorem mcX5 (l : Launch) {G : gU} {Hf : Heap} (hHf : HB G Hf) (h : Nat) (ws : va_W) : MC l yX5_init cX5_init 1 2 4 335 G Hf [.ref h] ((h, .inr (5, [.null, .int 0, .int 0, .int 0, .int 0, .null])) :: ws) (fun ws' => ∃ a3 a4 a2 a1 : Nat, ws' = (a3, .inl (gC G 0, 24, .inl (fun _ => 0))) :: (a4, .inl (gC G 0, 4, .inl (upd (upd (upd (upd (fun _ => 0) (0 : Int32).toNatClampNeg (10 : Int32)) (1 : Int32).toNatClampNeg (0 : Int32)) (2 : Int32).toNatClampNeg (0 : Int32)) (3 : Int32).toNatClampNeg (0 : Int32)))) :: (a2, .inr (4, [.int (1000 : Int32), .int (12 : Int32), .int (50 : Int32), .int (100 : Int32), .int (1 : Int32), .ref a4, .ref a3])) :: (a1, .inl (gC G 2, 300, .inl (fun _ => 0))) :: (h, .inr (5, [.ref a1, .int 0, .int 0, .int 0, .int 0, .ref a2])) :: ws) := by
  refine vc_enter (lv := [(0, .ref h)]) RX5 rfl (by decide) rfl (Nat.le_of_ble_eq_true rfl) rfl hHf ?_
  intro E hE hC hQ hnm
  subst hE
  refine wc_aload_n 1 0 hC dX5_init_0 rfl 0 rfl rfl ?_
  refine wc_objInit 4 hC dX5_init_1 oiX5 (Nat.le_of_ble_eq_true rfl) (Nat.le_of_ble_eq_true rfl) rfl ?_
  refine wc_aload_n 5 0 hC dX5_init_4 rfl 0 rfl rfl ?_
  refine wc_sipush 8 hC dX5_init_5 (v := (300 : Int32)) (by decide) rfl ?_
  refine wc_newA (t := 2) (n := 300) (ty := .byte) (a0 := (300, .inl (fun _ => 0))) 10 hC dX5_init_8 (inW 377 (by decide +kernel) (by decide +kernel)) rfl rfl ra_B (fun _ => rfl) (by decide) (by decide) (by decide) ⟨Nat.le_of_ble_eq_true rfl, Nat.le_of_ble_eq_true rfl⟩ rfl (fun a1 => ?_)
  refine wc_put (ws' := (a1, .inl (gC G 2, 300, .inl (fun _ => 0))) :: (h, .inr (5, [.ref a1, .int 0, .int 0, .int 0, .int 0, .null])) :: ws) 13 1 hC dX5_init_10 fcX5_9 hnm rfl rfl rfl (Nat.le_of_ble_eq_true rfl) rfl rfl ?_
  refine wc_aload_n 14 0 hC dX5_init_13 rfl 0 rfl rfl ?_
  refine wc_new 17 hC dX5_init_14 nwX5_15 ⟨Nat.le_of_ble_eq_true rfl, Nat.le_of_ble_eq_true rfl⟩ rfl (fun a2 => ?_)
  refine wc_dup 18 hC dX5_init_17 rfl rfl ?_
  refine wc_call 21 hC dX5_init_18 knX4_init rfl liX5_17 (mcX4 E.2.1 hHf a2 _) (Nat.le_of_ble_eq_true rfl) (Nat.le_of_ble_eq_true rfl) (Nat.le_of_ble_eq_true rfl) ⟨Nat.le_of_ble_eq_true rfl, Nat.le_of_ble_eq_true rfl⟩ rfl ?_
  rintro _ ⟨a3, a4, rfl⟩
  refine wc_put (ws' := (a3, .inl (gC G 0, 24, .inl (fun _ => 0))) :: (a4, .inl (gC G 0, 4, .inl (upd (upd (upd (upd (fun _ => 0) (0 : Int32).toNatClampNeg (10 : Int32)) (1 : Int32).toNatClampNeg (0 : Int32)) (2 : Int32).toNatClampNeg (0 : Int32)) (3 : Int32).toNatClampNeg (0 : Int32)))) :: (a2, .inr (4, [.int (1000 : Int32), .int (12 : Int32), .int (50 : Int32), .int (100 : Int32), .int (1 : Int32), .ref a4, .ref a3])) :: (a1, .inl (gC G 2, 300, .inl (fun _ => 0))) :: (h, .inr (5, [.ref a1, .int 0, .int 0, .int 0, .int 0, .ref a2])) :: ws) 24 4 hC dX5_init_21 fcX5_18 hnm rfl rfl rfl (Nat.le_of_ble_eq_true rfl) rfl rfl ?_
  exact wc_vret hC hQ ⟨Nat.le_of_ble_eq_true rfl, Nat.le_of_ble_eq_true rfl⟩ ⟨a3, a4, a2, a1, rfl⟩ dX5_init_24
theorem oiX2 : Cond.methodLink RX2 3 Lib.objectInit ∈ ALLW ∧ Cond.instanceMethod Lib.objectInit ∈ ALLW ∧ Cond.code Lib.objectInit ⟨#[0xb1]⟩ 1 none ∈ ALLW := ⟨inW 383 (by decide +kernel) (by decide +kernel), inW 159 (by decide +kernel) (by decide +kernel), inW 160 (by decide +kernel) (by decide +kernel)⟩
theorem fcX2_9 : FC RX2 9 2 0 (.array .byte) true := ⟨_, _, _, tyX2, rfl, inX2, tyX2_ok, nmX2, by decide, inW 384 (by decide +kernel) (by decide +kernel), rfl, rfl, rfl⟩
theorem mcX2 (l : Launch) {G : gU} {Hf : Heap} (hHf : HB G Hf) (h : Nat) (ws : va_W) : MC l yX2_init cX2_init 1 1 1 80 G Hf [.ref h] ((h, .inr (2, [.null, .int 0])) :: ws) (fun ws' => ∃ a1 : Nat, ws' = (a1, .inl (gC G 2, 80, .inl (fun _ => 0))) :: (h, .inr (2, [.ref a1, .int 0])) :: ws) := by
  refine vc_enter (lv := [(0, .ref h)]) RX2 rfl (by decide) rfl (Nat.le_of_ble_eq_true rfl) rfl hHf ?_
  intro E hE hC hQ hnm
  subst hE
  refine wc_aload_n 1 0 hC dX2_init_0 rfl 0 rfl rfl ?_
  refine wc_objInit 4 hC dX2_init_1 oiX2 (Nat.le_of_ble_eq_true rfl) (Nat.le_of_ble_eq_true rfl) rfl ?_
  refine wc_aload_n 5 0 hC dX2_init_4 rfl 0 rfl rfl ?_
  refine wc_bipush 7 hC dX2_init_5 (v := (80 : Int32)) (by decide) rfl ?_
  refine wc_newA (t := 2) (n := 80) (ty := .byte) (a0 := (80, .inl (fun _ => 0))) 9 hC dX2_init_7 (inW 377 (by decide +kernel) (by decide +kernel)) rfl rfl ra_B (fun _ => rfl) (by decide) (by decide) (by decide) ⟨Nat.le_of_ble_eq_true rfl, Nat.le_of_ble_eq_true rfl⟩ rfl (fun a1 => ?_)
  refine wc_put (ws' := (a1, .inl (gC G 2, 80, .inl (fun _ => 0))) :: (h, .inr (2, [.ref a1, .int 0])) :: ws) 12 1 hC dX2_init_9 fcX2_9 hnm rfl rfl rfl (Nat.le_of_ble_eq_true rfl) rfl rfl ?_
  exact wc_vret hC hQ ⟨Nat.le_of_ble_eq_true rfl, Nat.le_of_ble_eq_true rfl⟩ ⟨a1, rfl⟩ dX2_init_12
theorem oiX3 : Cond.methodLink RX3 3 Lib.objectInit ∈ ALLW ∧ Cond.instanceMethod Lib.objectInit ∈ ALLW ∧ Cond.code Lib.objectInit ⟨#[0xb1]⟩ 1 none ∈ ALLW := ⟨inW 398 (by decide +kernel) (by decide +kernel), inW 159 (by decide +kernel) (by decide +kernel), inW 160 (by decide +kernel) (by decide +kernel)⟩
theorem fcX3_9 : FC RX3 9 3 0 (.array .long) true := ⟨_, _, _, tyX3, rfl, inX3, tyX3_ok, nmX3, by decide, inW 399 (by decide +kernel) (by decide +kernel), rfl, rfl, rfl⟩
theorem fcX3_15 : FC RX3 15 3 2 (.array .long) true := ⟨_, _, _, tyX3, rfl, inX3, tyX3_ok, nmX3, by decide, inW 401 (by decide +kernel) (by decide +kernel), rfl, rfl, rfl⟩
theorem fcX3_18 : FC RX3 18 3 3 (.array .long) true := ⟨_, _, _, tyX3, rfl, inX3, tyX3_ok, nmX3, by decide, inW 402 (by decide +kernel) (by decide +kernel), rfl, rfl, rfl⟩
theorem mcX3 (l : Launch) {G : gU} {Hf : Heap} (hHf : HB G Hf) (h : Nat) (ws : va_W) : MC l yX3_init cX3_init 1 1 3 51 G Hf [.ref h] ((h, .inr (3, [.null, .long 0, .null, .null])) :: ws) (fun ws' => ∃ a3 a2 a1 : Nat, ws' = (a3, .inl (gC G 1, 17, .inr (.inl (fun _ => 0)))) :: (a2, .inl (gC G 1, 17, .inr (.inl (fun _ => 0)))) :: (a1, .inl (gC G 1, 17, .inr (.inl (fun _ => 0)))) :: (h, .inr (3, [.ref a1, .long 0, .ref a2, .ref a3])) :: ws) := by
  refine vc_enter (lv := [(0, .ref h)]) RX3 rfl (by decide) rfl (Nat.le_of_ble_eq_true rfl) rfl hHf ?_
  intro E hE hC hQ hnm
  subst hE
  refine wc_aload_n 1 0 hC dX3_init_0 rfl 0 rfl rfl ?_
  refine wc_objInit 4 hC dX3_init_1 oiX3 (Nat.le_of_ble_eq_true rfl) (Nat.le_of_ble_eq_true rfl) rfl ?_
  refine wc_aload_n 5 0 hC dX3_init_4 rfl 0 rfl rfl ?_
  refine wc_bipush 7 hC dX3_init_5 (v := (17 : Int32)) (by decide) rfl ?_
  refine wc_newA (t := 1) (n := 17) (ty := .long) (a0 := (17, .inr (.inl (fun _ => 0)))) 9 hC dX3_init_7 (inW 288 (by decide +kernel) (by decide +kernel)) rfl rfl ra_J (fun _ => rfl) (by decide) (by decide) (by decide) ⟨Nat.le_of_ble_eq_true rfl, Nat.le_of_ble_eq_true rfl⟩ rfl (fun a1 => ?_)
  refine wc_put (ws' := (a1, .inl (gC G 1, 17, .inr (.inl (fun _ => 0)))) :: (h, .inr (3, [.ref a1, .long 0, .null, .null])) :: ws) 12 1 hC dX3_init_9 fcX3_9 hnm rfl rfl rfl (Nat.le_of_ble_eq_true rfl) rfl rfl ?_
  refine wc_aload_n 13 0 hC dX3_init_12 rfl 0 rfl rfl ?_
  refine wc_bipush 15 hC dX3_init_13 (v := (17 : Int32)) (by decide) rfl ?_
  refine wc_newA (t := 1) (n := 17) (ty := .long) (a0 := (17, .inr (.inl (fun _ => 0)))) 17 hC dX3_init_15 (inW 288 (by decide +kernel) (by decide +kernel)) rfl rfl ra_J (fun _ => rfl) (by decide) (by decide) (by decide) ⟨Nat.le_of_ble_eq_true rfl, Nat.le_of_ble_eq_true rfl⟩ rfl (fun a2 => ?_)
  refine wc_put (ws' := (a2, .inl (gC G 1, 17, .inr (.inl (fun _ => 0)))) :: (a1, .inl (gC G 1, 17, .inr (.inl (fun _ => 0)))) :: (h, .inr (3, [.ref a1, .long 0, .ref a2, .null])) :: ws) 20 2 hC dX3_init_17 fcX3_15 hnm rfl rfl rfl (Nat.le_of_ble_eq_true rfl) rfl rfl ?_
  refine wc_aload_n 21 0 hC dX3_init_20 rfl 0 rfl rfl ?_
  refine wc_bipush 23 hC dX3_init_21 (v := (17 : Int32)) (by decide) rfl ?_
  refine wc_newA (t := 1) (n := 17) (ty := .long) (a0 := (17, .inr (.inl (fun _ => 0)))) 25 hC dX3_init_23 (inW 288 (by decide +kernel) (by decide +kernel)) rfl rfl ra_J (fun _ => rfl) (by decide) (by decide) (by decide) ⟨Nat.le_of_ble_eq_true rfl, Nat.le_of_ble_eq_true rfl⟩ rfl (fun a3 => ?_)
  refine wc_put (ws' := (a3, .inl (gC G 1, 17, .inr (.inl (fun _ => 0)))) :: (a2, .inl (gC G 1, 17, .inr (.inl (fun _ => 0)))) :: (a1, .inl (gC G 1, 17, .inr (.inl (fun _ => 0)))) :: (h, .inr (3, [.ref a1, .long 0, .ref a2, .ref a3])) :: ws) 28 3 hC dX3_init_25 fcX3_18 hnm rfl rfl rfl (Nat.le_of_ble_eq_true rfl) rfl rfl ?_
  exact wc_vret hC hQ ⟨Nat.le_of_ble_eq_true rfl, Nat.le_of_ble_eq_true rfl⟩ ⟨a3, a2, a1, rfl⟩ dX3_init_28
theorem oiX1 : Cond.methodLink RX1 3 Lib.objectInit ∈ ALLW ∧ Cond.instanceMethod Lib.objectInit ∈ ALLW ∧ Cond.code Lib.objectInit ⟨#[0xb1]⟩ 1 none ∈ ALLW := ⟨inW 418 (by decide +kernel) (by decide +kernel), inW 159 (by decide +kernel) (by decide +kernel), inW 160 (by decide +kernel) (by decide +kernel)⟩
theorem fcX1_9 : FC RX1 9 1 0 (.array .int) true := ⟨_, _, _, tyX1, rfl, inX1, tyX1_ok, nmX1, by decide, inW 419 (by decide +kernel) (by decide +kernel), rfl, rfl, rfl⟩
theorem fcX1_15 : FC RX1 15 1 1 (.array .long) true := ⟨_, _, _, tyX1, rfl, inX1, tyX1_ok, nmX1, by decide, inW 420 (by decide +kernel) (by decide +kernel), rfl, rfl, rfl⟩
theorem mcX1 (l : Launch) {G : gU} {Hf : Heap} (hHf : HB G Hf) (h : Nat) (ws : va_W) : MC l yX1_init cX1_init 1 1 2 32 G Hf [.ref h] ((h, .inr (1, [.null, .null])) :: ws) (fun ws' => ∃ a2 a1 : Nat, ws' = (a2, .inl (gC G 1, 16, .inr (.inl (fun _ => 0)))) :: (a1, .inl (gC G 0, 16, .inl (fun _ => 0))) :: (h, .inr (1, [.ref a1, .ref a2])) :: ws) := by
  refine vc_enter (lv := [(0, .ref h)]) RX1 rfl (by decide) rfl (Nat.le_of_ble_eq_true rfl) rfl hHf ?_
  intro E hE hC hQ hnm
  subst hE
  refine wc_aload_n 1 0 hC dX1_init_0 rfl 0 rfl rfl ?_
  refine wc_objInit 4 hC dX1_init_1 oiX1 (Nat.le_of_ble_eq_true rfl) (Nat.le_of_ble_eq_true rfl) rfl ?_
  refine wc_aload_n 5 0 hC dX1_init_4 rfl 0 rfl rfl ?_
  refine wc_bipush 7 hC dX1_init_5 (v := (16 : Int32)) (by decide) rfl ?_
  refine wc_newA (t := 0) (n := 16) (ty := .int) (a0 := (16, .inl (fun _ => 0))) 9 hC dX1_init_7 (inW 212 (by decide +kernel) (by decide +kernel)) rfl rfl ra_I (fun _ => rfl) (by decide) (by decide) (by decide) ⟨Nat.le_of_ble_eq_true rfl, Nat.le_of_ble_eq_true rfl⟩ rfl (fun a1 => ?_)
  refine wc_put (ws' := (a1, .inl (gC G 0, 16, .inl (fun _ => 0))) :: (h, .inr (1, [.ref a1, .null])) :: ws) 12 1 hC dX1_init_9 fcX1_9 hnm rfl rfl rfl (Nat.le_of_ble_eq_true rfl) rfl rfl ?_
  refine wc_aload_n 13 0 hC dX1_init_12 rfl 0 rfl rfl ?_
  refine wc_bipush 15 hC dX1_init_13 (v := (16 : Int32)) (by decide) rfl ?_
  refine wc_newA (t := 1) (n := 16) (ty := .long) (a0 := (16, .inr (.inl (fun _ => 0)))) 17 hC dX1_init_15 (inW 288 (by decide +kernel) (by decide +kernel)) rfl rfl ra_J (fun _ => rfl) (by decide) (by decide) (by decide) ⟨Nat.le_of_ble_eq_true rfl, Nat.le_of_ble_eq_true rfl⟩ rfl (fun a2 => ?_)
  refine wc_put (ws' := (a2, .inl (gC G 1, 16, .inr (.inl (fun _ => 0)))) :: (a1, .inl (gC G 0, 16, .inl (fun _ => 0))) :: (h, .inr (1, [.ref a1, .ref a2])) :: ws) 20 2 hC dX1_init_17 fcX1_15 hnm rfl rfl rfl (Nat.le_of_ble_eq_true rfl) rfl rfl ?_
  exact wc_vret hC hQ ⟨Nat.le_of_ble_eq_true rfl, Nat.le_of_ble_eq_true rfl⟩ ⟨a2, a1, rfl⟩ dX1_init_20
theorem va_D.nodup {A : Nat → Prop} {ws : va_W} (h : va_D A ws) : (ws.map Prod.fst).Nodup := by
  refine List.pairwise_iff_getElem.mpr (fun i j hi hj hij e => ?_)
  rw [List.length_map] at hi hj
  have := h.1 i j ws[i] ws[j] (List.getElem?_eq_some_iff.mpr ⟨hi, rfl⟩) (List.getElem?_eq_some_iff.mpr ⟨hj, rfl⟩) (by simpa using e)
  omega
theorem va_D.ofNodup {A : Nat → Prop} {ws : va_W} (h : (ws.map Prod.fst).Nodup) (hA : ∀ q ∈ ws, A q.1) : va_D A ws := by
  refine ⟨fun i j p q hi hj e => ?_, fun k q hq => hA q (List.mem_of_getElem? hq)⟩
  obtain ⟨hi1, hi2⟩ := List.getElem?_eq_some_iff.mp hi
  obtain ⟨hj1, hj2⟩ := List.getElem?_eq_some_iff.mp hj
  have h2 := List.pairwise_iff_getElem.mp h
  rcases Nat.lt_trichotomy i j with hl | hl | hl
  · have h3 := h2 i j (by simpa using hi1) (by simpa using hj1) hl
    simp only [List.getElem_map] at h3
    rw [hi2, hj2] at h3
    exact absurd e h3
  · exact hl
  · have h3 := h2 j i (by simpa using hj1) (by simpa using hi1) hl
    simp only [List.getElem_map] at h3
    rw [hi2, hj2] at h3
    exact absurd e.symm h3
theorem CP.perm {G : gU} {Hf H : Heap} {ws ws' : va_W} (hp : ws.Perm ws') (h : CP G Hf ws H) : CP G Hf ws' H := by
  refine ⟨fun k q hq => ?_, va_D.ofNodup ((hp.map Prod.fst).nodup_iff.mp h.2.1.nodup) (fun q hq => ?_), h.2.2⟩
  · obtain ⟨k', hk'⟩ := List.mem_iff_getElem?.mp (hp.mem_iff.mpr (List.mem_of_getElem? hq))
    exact h.1 k' q hk'
  · obtain ⟨k', hk'⟩ := List.mem_iff_getElem?.mp (hp.mem_iff.mpr hq)
    exact h.2.1.2 k' q hk'
theorem wc_perm {E : eU} {G : gU} {Hf : Heap} {k1 k2 : Nat} {ws ws' : va_W} {pc : Nat} {lv : List (Nat × Value)} {st : List Value} (hp : ws.Perm ws') (kk : WC E G Hf k1 k2 ws' pc lv st) : WC E G Hf k1 k2 ws pc lv st :=
  fun H locs ls hP hO hl => kk H locs ls (hP.perm hp) hO hl
def sub4 (G : gU) (x : Nat × Nat × Nat × Nat) : va_W := [(x.2.2.2, .inl (gC G 1, 6, .inr (.inl (fun _ => 0)))), (x.2.2.1, .inl (gC G 1, 72, .inr (.inl (fun _ => 0)))), (x.2.1, .inl (gC G 0, 60, .inl (fun _ => 0))), (x.1, .inr (8, [.int 0, .int 0, .int 0, .int 0, .int 0, .int (-1 : Int32), .int 0, .ref x.2.1, .ref x.2.2.1, .ref x.2.2.2]))]
def subsW (G : gU) (hs : Nat → Nat × Nat × Nat × Nat) : Nat → va_W
  | 0 => []
  | n + 1 => sub4 G (hs n) ++ subsW G hs n
theorem subsW_len (G : gU) (hs : Nat → Nat × Nat × Nat × Nat) (n : Nat) : (subsW G hs n).length = 4 * n := by
  induction n with
  | zero => rfl
  | succ n ih => rw [subsW, List.length_append, ih]; simp only [sub4, List.length_cons, List.length_nil]; omega
theorem subsW_at (G : gU) (hs : Nat → Nat × Nat × Nat × Nat) (n : Nat) (R : va_W) (k : Nat) : (subsW G hs n ++ R)[4 * n + k]? = R[k]? := by
  rw [List.getElem?_append_right (by rw [subsW_len]; omega), subsW_len]
  congr 1
  omega
theorem subsW_set (G : gU) (hs : Nat → Nat × Nat × Nat × Nat) (n : Nat) (R : va_W) (v : Nat × va_E) : (subsW G hs n ++ R).set (4 * n) v = subsW G hs n ++ R.set 0 v := by
  rw [List.set_append_right _ _ (by rw [subsW_len]; exact Nat.le_refl _), subsW_len, Nat.sub_self]
theorem subsW_congr (G : gU) {hs hs' : Nat → Nat × Nat × Nat × Nat} (n : Nat) (h : ∀ j, j < n → hs j = hs' j) : subsW G hs n = subsW G hs' n := by
  induction n with
  | zero => rfl
  | succ n ih => rw [subsW, subsW, h n (Nat.lt_succ_self n), ih (fun j hj => h j (Nat.lt_succ_of_lt hj))]
abbrev arrS (G : gU) (hs : Nat → Nat × Nat × Nat × Nat) (n : Nat) : va_E := .inl (gC G 4, 16, .inr (.inr (.inr (.inr (fun j => if j < n then some (hs j).1 else none)))))
theorem i16_cl : ∀ i, i < 16 → (Int32.ofNat i).toNatClampNeg = i ∧ ¬ (16 : Int32) ≤ Int32.ofNat i ∧ Int32.ofNat i + Int32.ofInt 1 = Int32.ofNat (i + 1) ∧ inb (Int32.ofNat i) 16 = true := by decide +kernel
theorem fcX0_27 : FC RX0 27 0 2 (.array (.object "SolarLedger$Subscriber")) true := ⟨_, _, _, tyX0, rfl, inX0, tyX0_ok, nmX0, by decide, inW 294 (by decide +kernel) (by decide +kernel), rfl, rfl, rfl⟩
theorem nwX0_25 : NWc RX0 25 8 10 [.int 0, .int 0, .int 0, .int 0, .int 0, .int 0, .int 0, .null, .null, .null] := ⟨RX8, TX8, tyX8, rfl, inX8, tyX8_ok, inW 228 (by decide +kernel) (by decide +kernel), inW 230 (by decide +kernel) (by decide +kernel), inW 132 (by decide +kernel) (by decide +kernel), fun j hj => by match j, hj with | 0, _ => rfl | 1, _ => rfl | 2, _ => rfl | 3, _ => rfl | 4, _ => rfl | 5, _ => rfl | 6, _ => rfl | 7, _ => rfl | 8, _ => rfl | 9, _ => rfl | j + 10, hj => exact absurd hj (by omega)⟩
theorem oiX0 : Cond.methodLink RX0 3 Lib.objectInit ∈ ALLW ∧ Cond.instanceMethod Lib.objectInit ∈ ALLW ∧ Cond.code Lib.objectInit ⟨#[0xb1]⟩ 1 none ∈ ALLW := ⟨inW 166 (by decide +kernel) (by decide +kernel), inW 159 (by decide +kernel) (by decide +kernel), inW 160 (by decide +kernel) (by decide +kernel)⟩
theorem nwX0_9 : NWc RX0 9 4 7 [.int 0, .int 0, .int 0, .int 0, .int 0, .null, .null] := ⟨RX4, TX4, tyX4, rfl, inX4, tyX4_ok, inW 167 (by decide +kernel) (by decide +kernel), inW 168 (by decide +kernel) (by decide +kernel), inW 130 (by decide +kernel) (by decide +kernel), fun j hj => by match j, hj with | 0, _ => rfl | 1, _ => rfl | 2, _ => rfl | 3, _ => rfl | 4, _ => rfl | 5, _ => rfl | 6, _ => rfl | j + 7, hj => exact absurd hj (by omega)⟩
theorem liX0_11 : (Cond.methodLink RX0 11 yX4_init ∈ ALLW ∨ ∃ host, Cond.methodLinkNest RX0 11 yX4_init host ∈ NW) ∧ Cond.instanceMethod yX4_init ∈ ALLW := ⟨Or.inr ⟨"SolarLedger", inN 42 (by decide +kernel) (by decide +kernel)⟩, inW 170 (by decide +kernel) (by decide +kernel)⟩
theorem fcX0_12 : FC RX0 12 0 0 (.object "SolarLedger$Garden") true := ⟨_, _, _, tyX0, rfl, inX0, tyX0_ok, nmX0, by decide, inW 289 (by decide +kernel) (by decide +kernel), rfl, rfl, rfl⟩
theorem nwX0_18 : NWc RX0 18 7 2 [.null, .null] := ⟨RX7, TX7, tyX7, rfl, inX7, tyX7_ok, inW 213 (by decide +kernel) (by decide +kernel), inW 214 (by decide +kernel) (by decide +kernel), inW 131 (by decide +kernel) (by decide +kernel), fun j hj => by match j, hj with | 0, _ => rfl | 1, _ => rfl | j + 2, hj => exact absurd hj (by omega)⟩
theorem liX0_20 : (Cond.methodLink RX0 20 yX7_init ∈ ALLW ∨ ∃ host, Cond.methodLinkNest RX0 20 yX7_init host ∈ NW) ∧ Cond.instanceMethod yX7_init ∈ ALLW := ⟨Or.inr ⟨"SolarLedger", inN 88 (by decide +kernel) (by decide +kernel)⟩, inW 216 (by decide +kernel) (by decide +kernel)⟩
theorem knX7_init : KN yX7_init cX7_init 1 none 0 := ⟨inW 217 (by decide +kernel) (by decide +kernel), inW 131 (by decide +kernel) (by decide +kernel), (by decide +kernel), (by decide +kernel), (by decide +kernel)⟩
theorem fcX0_21 : FC RX0 21 0 1 (.object "SolarLedger$Meter") true := ⟨_, _, _, tyX0, rfl, inX0, tyX0_ok, nmX0, by decide, inW 292 (by decide +kernel) (by decide +kernel), rfl, rfl, rfl⟩
theorem liX0_31 : (Cond.methodLink RX0 31 yX8_init ∈ ALLW ∨ ∃ host, Cond.methodLinkNest RX0 31 yX8_init host ∈ NW) ∧ Cond.instanceMethod yX8_init ∈ ALLW := ⟨Or.inr ⟨"SolarLedger", inN 104 (by decide +kernel) (by decide +kernel)⟩, inW 232 (by decide +kernel) (by decide +kernel)⟩
theorem knX8_init : KN yX8_init cX8_init 1 none 0 := ⟨inW 233 (by decide +kernel) (by decide +kernel), inW 132 (by decide +kernel) (by decide +kernel), (by decide +kernel), (by decide +kernel), (by decide +kernel)⟩
theorem mcX0_L {E : eU} {G : gU} {Hf : Heap} (hHf : HB G Hf) (hC : CX E G cX0_init 2 RX0 none 2 71 2901) (hnm : (eT E).name = "<init>") (h qa : Nat) (bf : List Value) (hbf : bf[2]? = some (.ref qa)) (R : va_W) (hR : R[6]? = some (h, .inr (0, bf)))
    (kend : ∀ hs, WC E G Hf 71 2901 (subsW G hs 16 ++ (qa, arrS G hs 16) :: R) 62 [(1, .int 16), (0, .ref h)] []) : ∀ n i, i + n = 16 → ∀ hs, WC E G Hf (7 + 4 * i) (533 + 148 * i) (subsW G hs i ++ (qa, arrS G hs i) :: R) 37 [(1, .int (Int32.ofNat i)), (0, .ref h)] [] := by
  intro n
  induction n with
  | zero =>
    intro i hi hs
    have e : i = 16 := by omega
    subst e
    refine wc_iload_n 38 1 hC dX0_init_37 rfl 0 rfl rfl ?_
    refine wc_bipush 40 hC dX0_init_38 (v := (16 : Int32)) (by decide) rfl ?_
    refine wc_geT 62 hC dX0_init_40 rfl (by decide) ?_
    exact kend hs
  | succ n ih =>
    intro i hi hs
    obtain ⟨g1, g2, g3, g4⟩ := i16_cl i (by omega)
    refine wc_iload_n 38 1 hC dX0_init_37 rfl 0 rfl rfl ?_
    refine wc_bipush 40 hC dX0_init_38 (v := (16 : Int32)) (by decide) rfl ?_
    refine wc_geF 43 62 hC dX0_init_40 rfl rfl g2 ?_
    refine wc_aload_n 44 0 hC dX0_init_43 rfl 1 rfl rfl ?_
    refine wc_getR (kc := 0) (k := 2) (v := .ref qa) 47 (4 * i + 7) hC dX0_init_44 fcX0_27 ((subsW_at G hs i _ 7).trans hR) hbf rfl ?_
    refine wc_iload_n 48 1 hC dX0_init_47 rfl 0 rfl rfl ?_
    refine wc_new 51 hC dX0_init_48 nwX0_25 ⟨by omega, by omega⟩ rfl (fun a => ?_)
    refine wc_dup 52 hC dX0_init_51 rfl rfl ?_
    refine wc_call 55 hC dX0_init_52 knX8_init rfl liX0_31 (mcX8 E.2.1 hHf a _) (Nat.le_of_ble_eq_true rfl) (Nat.le_of_ble_eq_true rfl) (Nat.le_of_ble_eq_true rfl) ⟨by omega, by omega⟩ rfl ?_
    rintro _ ⟨a3, a2, a1, rfl⟩
    have e1 : 7 + 4 * i + 1 + 3 = 7 + 4 * (i + 1) := by omega
    have e2 : 533 + 148 * i + 10 + 138 = 533 + 148 * (i + 1) := by omega
    rw [e1, e2]
    have hs1 : ∀ j, j < i → hs j = (fun j => if j = i then (a, a1, a2, a3) else hs j) j := fun j hj => (if_neg (by omega : ¬ j = i)).symm
    have hf9 : va_up (fun j => if j < i then some (hs j).1 else none) (Int32.ofNat i).toNatClampNeg (some a) = fun j => if j < i + 1 then some ((fun j => if j = i then (a, a1, a2, a3) else hs j) j).1 else none := by
      funext j
      rw [g1]
      by_cases h1 : j = i
      · subst h1
        simp [va_up]
      · by_cases h2 : j < i
        · simp [va_up, h1, h2, Nat.lt_succ_of_lt h2]
        · have h3 : ¬ j < i + 1 := by omega
          simp [va_up, h1, h2, h3]
    refine wc_astq (r := (RX8, TX8, 10)) (ws' := subsW G (fun j => if j = i then (a, a1, a2, a3) else hs j) (i + 1) ++ (qa, arrS G (fun j => if j = i then (a, a1, a2, a3) else hs j) (i + 1)) :: R) 56 (4 * i + 4) 3 4 hC dX0_init_55 (subsW_at G hs i _ 0) rfl rfl rfl g4 rfl ?_ ?_
    · show sub4 G (a, a1, a2, a3) ++ (subsW G hs i ++ (qa, _) :: R).set (4 * i) _ = _
      rw [subsW_set, hf9, subsW, subsW_congr G i hs1]
      show _ = sub4 G (if i = i then (a, a1, a2, a3) else hs i) ++ _ ++ _
      rw [if_pos rfl, List.append_assoc]
      rfl
    refine wc_iinc (lv' := [(1, .int (Int32.ofNat (i + 1))), (0, .ref h)]) 59 1 hC dX0_init_56 0 rfl g3 (by decide) rfl rfl ?_
    refine wc_goto 37 hC dX0_init_59 rfl ?_
    exact ih (i + 1) (by omega) _
theorem mcX0 (l : Launch) {G : gU} {Hf : Heap} (hHf : HB G Hf) (h : Nat) (ws : va_W) : MC l yX0_init cX0_init 2 2 71 2901 G Hf [.ref h] ((h, .inr (0, [.null, .null, .null, .int 0, .int 0, .int 0, .long 0, .long 0])) :: ws) (fun ws' => ∃ hs : Nat → Nat × Nat × Nat × Nat, ∃ a7 a5 a6 a4 a2 a3 a1 : Nat, ws' = (a7, arrS G hs 16) :: (a5, .inl (gC G 0, 240, .inl (fun _ => 0))) :: (a6, .inl (gC G 0, 240, .inl (fun _ => 0))) :: (a4, .inr (7, [.ref a6, .ref a5])) :: (a2, .inl (gC G 0, 24, .inl (fun _ => 0))) :: (a3, .inl (gC G 0, 4, .inl (upd (upd (upd (upd (fun _ => 0) (0 : Int32).toNatClampNeg (10 : Int32)) (1 : Int32).toNatClampNeg (0 : Int32)) (2 : Int32).toNatClampNeg (0 : Int32)) (3 : Int32).toNatClampNeg (0 : Int32)))) :: (a1, .inr (4, [.int (1000 : Int32), .int (12 : Int32), .int (50 : Int32), .int (100 : Int32), .int (1 : Int32), .ref a3, .ref a2])) :: (h, .inr (0, [.ref a1, .ref a4, .ref a7, .int 0, .int 0, .int 0, .long 0, .long 0])) :: (subsW G hs 16 ++ ws)) := by
  refine vc_enter (lv := [(0, .ref h)]) RX0 rfl (by decide) rfl (Nat.le_of_ble_eq_true rfl) rfl hHf ?_
  intro E hE hC hQ hnm
  subst hE
  refine wc_aload_n 1 0 hC dX0_init_0 rfl 0 rfl rfl ?_
  refine wc_objInit 4 hC dX0_init_1 oiX0 (Nat.le_of_ble_eq_true rfl) (Nat.le_of_ble_eq_true rfl) rfl ?_
  refine wc_aload_n 5 0 hC dX0_init_4 rfl 0 rfl rfl ?_
  refine wc_new 8 hC dX0_init_5 nwX0_9 ⟨Nat.le_of_ble_eq_true rfl, Nat.le_of_ble_eq_true rfl⟩ rfl (fun a1 => ?_)
  refine wc_dup 9 hC dX0_init_8 rfl rfl ?_
  refine wc_call 12 hC dX0_init_9 knX4_init rfl liX0_11 (mcX4 E.2.1 hHf a1 _) (Nat.le_of_ble_eq_true rfl) (Nat.le_of_ble_eq_true rfl) (Nat.le_of_ble_eq_true rfl) ⟨Nat.le_of_ble_eq_true rfl, Nat.le_of_ble_eq_true rfl⟩ rfl ?_
  rintro _ ⟨a2, a3, rfl⟩
  refine wc_put (ws' := (a2, .inl (gC G 0, 24, .inl (fun _ => 0))) :: (a3, .inl (gC G 0, 4, .inl (upd (upd (upd (upd (fun _ => 0) (0 : Int32).toNatClampNeg (10 : Int32)) (1 : Int32).toNatClampNeg (0 : Int32)) (2 : Int32).toNatClampNeg (0 : Int32)) (3 : Int32).toNatClampNeg (0 : Int32)))) :: (a1, .inr (4, [.int (1000 : Int32), .int (12 : Int32), .int (50 : Int32), .int (100 : Int32), .int (1 : Int32), .ref a3, .ref a2])) :: (h, .inr (0, [.ref a1, .null, .null, .int 0, .int 0, .int 0, .long 0, .long 0])) :: ws) 15 3 hC dX0_init_12 fcX0_12 hnm rfl rfl rfl (Nat.le_of_ble_eq_true rfl) rfl rfl ?_
  refine wc_aload_n 16 0 hC dX0_init_15 rfl 0 rfl rfl ?_
  refine wc_new 19 hC dX0_init_16 nwX0_18 ⟨Nat.le_of_ble_eq_true rfl, Nat.le_of_ble_eq_true rfl⟩ rfl (fun a4 => ?_)
  refine wc_dup 20 hC dX0_init_19 rfl rfl ?_
  refine wc_call 23 hC dX0_init_20 knX7_init rfl liX0_20 (mcX7 E.2.1 hHf a4 _) (Nat.le_of_ble_eq_true rfl) (Nat.le_of_ble_eq_true rfl) (Nat.le_of_ble_eq_true rfl) ⟨Nat.le_of_ble_eq_true rfl, Nat.le_of_ble_eq_true rfl⟩ rfl ?_
  rintro _ ⟨a5, a6, rfl⟩
  refine wc_put (ws' := (a5, .inl (gC G 0, 240, .inl (fun _ => 0))) :: (a6, .inl (gC G 0, 240, .inl (fun _ => 0))) :: (a4, .inr (7, [.ref a6, .ref a5])) :: (a2, .inl (gC G 0, 24, .inl (fun _ => 0))) :: (a3, .inl (gC G 0, 4, .inl (upd (upd (upd (upd (fun _ => 0) (0 : Int32).toNatClampNeg (10 : Int32)) (1 : Int32).toNatClampNeg (0 : Int32)) (2 : Int32).toNatClampNeg (0 : Int32)) (3 : Int32).toNatClampNeg (0 : Int32)))) :: (a1, .inr (4, [.int (1000 : Int32), .int (12 : Int32), .int (50 : Int32), .int (100 : Int32), .int (1 : Int32), .ref a3, .ref a2])) :: (h, .inr (0, [.ref a1, .ref a4, .null, .int 0, .int 0, .int 0, .long 0, .long 0])) :: ws) 26 6 hC dX0_init_23 fcX0_21 hnm rfl rfl rfl (Nat.le_of_ble_eq_true rfl) rfl rfl ?_
  refine wc_aload_n 27 0 hC dX0_init_26 rfl 0 rfl rfl ?_
  refine wc_bipush 29 hC dX0_init_27 (v := (16 : Int32)) (by decide) rfl ?_
  refine wc_newQ (t := 4) (n := 16) 32 hC dX0_init_29 (inW 228 (by decide +kernel) (by decide +kernel)) hC.2.2.2.2.2.1.2.2.2.2.2.2.2.2.2.1 rfl (by decide) (by decide) (by decide) ⟨Nat.le_of_ble_eq_true rfl, Nat.le_of_ble_eq_true rfl⟩ rfl (fun a7 => ?_)
  refine wc_put (ws' := (a7, .inl (gC G 4, 16, .inr (.inr (.inr (.inr (fun _ => none)))))) :: (a5, .inl (gC G 0, 240, .inl (fun _ => 0))) :: (a6, .inl (gC G 0, 240, .inl (fun _ => 0))) :: (a4, .inr (7, [.ref a6, .ref a5])) :: (a2, .inl (gC G 0, 24, .inl (fun _ => 0))) :: (a3, .inl (gC G 0, 4, .inl (upd (upd (upd (upd (fun _ => 0) (0 : Int32).toNatClampNeg (10 : Int32)) (1 : Int32).toNatClampNeg (0 : Int32)) (2 : Int32).toNatClampNeg (0 : Int32)) (3 : Int32).toNatClampNeg (0 : Int32)))) :: (a1, .inr (4, [.int (1000 : Int32), .int (12 : Int32), .int (50 : Int32), .int (100 : Int32), .int (1 : Int32), .ref a3, .ref a2])) :: (h, .inr (0, [.ref a1, .ref a4, .ref a7, .int 0, .int 0, .int 0, .long 0, .long 0])) :: ws) 35 7 hC dX0_init_32 fcX0_27 hnm rfl rfl rfl (Nat.le_of_ble_eq_true rfl) rfl rfl ?_
  refine wc_iconst 36 hC dX0_init_35 (v := (0 : Int32)) (by decide) rfl ?_
  refine wc_istore_n (lv' := [(1, .int (0 : Int32)), (0, .ref h)]) 37 1 hC dX0_init_36 rfl (by decide) rfl rfl ?_
  refine mcX0_L hHf hC hnm h a7 _ rfl ((a5, .inl (gC G 0, 240, .inl (fun _ => 0))) :: (a6, .inl (gC G 0, 240, .inl (fun _ => 0))) :: (a4, .inr (7, [.ref a6, .ref a5])) :: (a2, .inl (gC G 0, 24, .inl (fun _ => 0))) :: (a3, .inl (gC G 0, 4, .inl (upd (upd (upd (upd (fun _ => 0) (0 : Int32).toNatClampNeg (10 : Int32)) (1 : Int32).toNatClampNeg (0 : Int32)) (2 : Int32).toNatClampNeg (0 : Int32)) (3 : Int32).toNatClampNeg (0 : Int32)))) :: (a1, .inr (4, [.int (1000 : Int32), .int (12 : Int32), .int (50 : Int32), .int (100 : Int32), .int (1 : Int32), .ref a3, .ref a2])) :: (h, .inr (0, [.ref a1, .ref a4, .ref a7, .int 0, .int 0, .int 0, .long 0, .long 0])) :: ws) rfl (fun hs => ?_) 16 0 rfl (fun _ => (0, 0, 0, 0))
  refine wc_perm (ws' := (a7, arrS G hs 16) :: (a5, .inl (gC G 0, 240, .inl (fun _ => 0))) :: (a6, .inl (gC G 0, 240, .inl (fun _ => 0))) :: (a4, .inr (7, [.ref a6, .ref a5])) :: (a2, .inl (gC G 0, 24, .inl (fun _ => 0))) :: (a3, .inl (gC G 0, 4, .inl (upd (upd (upd (upd (fun _ => 0) (0 : Int32).toNatClampNeg (10 : Int32)) (1 : Int32).toNatClampNeg (0 : Int32)) (2 : Int32).toNatClampNeg (0 : Int32)) (3 : Int32).toNatClampNeg (0 : Int32)))) :: (a1, .inr (4, [.int (1000 : Int32), .int (12 : Int32), .int (50 : Int32), .int (100 : Int32), .int (1 : Int32), .ref a3, .ref a2])) :: (h, .inr (0, [.ref a1, .ref a4, .ref a7, .int 0, .int 0, .int 0, .long 0, .long 0])) :: (subsW G hs 16 ++ ws)) (List.perm_append_comm_assoc (subsW G hs 16) [(a7, arrS G hs 16), (a5, .inl (gC G 0, 240, .inl (fun _ => 0))), (a6, .inl (gC G 0, 240, .inl (fun _ => 0))), (a4, .inr (7, [.ref a6, .ref a5])), (a2, .inl (gC G 0, 24, .inl (fun _ => 0))), (a3, .inl (gC G 0, 4, .inl (upd (upd (upd (upd (fun _ => 0) (0 : Int32).toNatClampNeg (10 : Int32)) (1 : Int32).toNatClampNeg (0 : Int32)) (2 : Int32).toNatClampNeg (0 : Int32)) (3 : Int32).toNatClampNeg (0 : Int32)))), (a1, .inr (4, [.int (1000 : Int32), .int (12 : Int32), .int (50 : Int32), .int (100 : Int32), .int (1 : Int32), .ref a3, .ref a2])), (h, .inr (0, [.ref a1, .ref a4, .ref a7, .int 0, .int 0, .int 0, .long 0, .long 0]))] ws) ?_
  exact wc_vret hC hQ ⟨Nat.le_of_ble_eq_true rfl, Nat.le_of_ble_eq_true rfl⟩ ⟨hs, a7, a5, a6, a4, a2, a3, a1, rfl⟩ dX0_init_62
