theorem inX0 : ∀ w ∈ u_ws RX0 TX0 8, w ∈ ALLW := fun w hw => List.mem_filter.mpr ⟨(by decide +kernel : ∀ w ∈ u_ws RX0 TX0 8, w ∈ lw_tbl) w hw, (by decide +kernel : ∀ w ∈ u_ws RX0 TX0 8, goodWord w = true) w hw⟩
theorem inX1 : ∀ w ∈ u_ws RX1 TX1 2, w ∈ ALLW := fun w hw => List.mem_filter.mpr ⟨(by decide +kernel : ∀ w ∈ u_ws RX1 TX1 2, w ∈ lw_tbl) w hw, (by decide +kernel : ∀ w ∈ u_ws RX1 TX1 2, goodWord w = true) w hw⟩
theorem inX2 : ∀ w ∈ u_ws RX2 TX2 2, w ∈ ALLW := fun w hw => List.mem_filter.mpr ⟨(by decide +kernel : ∀ w ∈ u_ws RX2 TX2 2, w ∈ lw_tbl) w hw, (by decide +kernel : ∀ w ∈ u_ws RX2 TX2 2, goodWord w = true) w hw⟩
theorem inX3 : ∀ w ∈ u_ws RX3 TX3 4, w ∈ ALLW := fun w hw => List.mem_filter.mpr ⟨(by decide +kernel : ∀ w ∈ u_ws RX3 TX3 4, w ∈ lw_tbl) w hw, (by decide +kernel : ∀ w ∈ u_ws RX3 TX3 4, goodWord w = true) w hw⟩
theorem inX4 : ∀ w ∈ u_ws RX4 TX4 7, w ∈ ALLW := fun w hw => List.mem_filter.mpr ⟨(by decide +kernel : ∀ w ∈ u_ws RX4 TX4 7, w ∈ lw_tbl) w hw, (by decide +kernel : ∀ w ∈ u_ws RX4 TX4 7, goodWord w = true) w hw⟩
theorem inX5 : ∀ w ∈ u_ws RX5 TX5 6, w ∈ ALLW := fun w hw => List.mem_filter.mpr ⟨(by decide +kernel : ∀ w ∈ u_ws RX5 TX5 6, w ∈ lw_tbl) w hw, (by decide +kernel : ∀ w ∈ u_ws RX5 TX5 6, goodWord w = true) w hw⟩
theorem inX6 : ∀ w ∈ u_ws RX6 TX6 3, w ∈ ALLW := fun w hw => List.mem_filter.mpr ⟨(by decide +kernel : ∀ w ∈ u_ws RX6 TX6 3, w ∈ lw_tbl) w hw, (by decide +kernel : ∀ w ∈ u_ws RX6 TX6 3, goodWord w = true) w hw⟩
theorem inX7 : ∀ w ∈ u_ws RX7 TX7 2, w ∈ ALLW := fun w hw => List.mem_filter.mpr ⟨(by decide +kernel : ∀ w ∈ u_ws RX7 TX7 2, w ∈ lw_tbl) w hw, (by decide +kernel : ∀ w ∈ u_ws RX7 TX7 2, goodWord w = true) w hw⟩
theorem inX8 : ∀ w ∈ u_ws RX8 TX8 10, w ∈ ALLW := fun w hw => List.mem_filter.mpr ⟨(by decide +kernel : ∀ w ∈ u_ws RX8 TX8 10, w ∈ lw_tbl) w hw, (by decide +kernel : ∀ w ∈ u_ws RX8 TX8 10, goodWord w = true) w hw⟩
theorem inX9 : ∀ w ∈ u_ws RX9 TX9 8, w ∈ ALLW := fun w hw => List.mem_filter.mpr ⟨(by decide +kernel : ∀ w ∈ u_ws RX9 TX9 8, w ∈ lw_tbl) w hw, (by decide +kernel : ∀ w ∈ u_ws RX9 TX9 8, goodWord w = true) w hw⟩
theorem inX10 : ∀ w ∈ u_ws RX10 TX10 26, w ∈ ALLW := fun w hw => List.mem_filter.mpr ⟨(by decide +kernel : ∀ w ∈ u_ws RX10 TX10 26, w ∈ lw_tbl) w hw, (by decide +kernel : ∀ w ∈ u_ws RX10 TX10 26, goodWord w = true) w hw⟩
theorem le00 : 0 ≤ 0 ∧ 0 ≤ 0 := ⟨Nat.le_refl 0, Nat.le_refl 0⟩
section VCL
variable {V : Nat → Nat → Prop} {o : Nat}
theorem vc4 (h : VC V) (q : V 0 o) : V 4 o := (h.1 o q).1
theorem vc7 (h : VC V) (q : V 0 o) : V 7 o := (h.1 o q).2.1
theorem vc11 (h : VC V) (q : V 0 o) : V 11 o := (h.1 o q).2.2.1
theorem vc8 {i : Nat} (h : VC V) (q : V 0 o) (hi : i < 16) : V 8 (16 * o + i) := (h.1 o q).2.2.2 i hi
theorem vc18 (h : VC V) (q : V 4 o) : V 18 o := (h.2.1 o q).1
theorem vc19 (h : VC V) (q : V 4 o) : V 19 o := (h.2.1 o q).2
theorem vc22 (h : VC V) (q : V 7 o) : V 22 o := (h.2.2.1 o q).1
theorem vc23 (h : VC V) (q : V 7 o) : V 23 o := (h.2.2.1 o q).2
theorem vc24 (h : VC V) (q : V 8 o) : V 24 o := (h.2.2.2.1 o q).1
theorem vc25 (h : VC V) (q : V 8 o) : V 25 o := (h.2.2.2.1 o q).2.1
theorem vc26 (h : VC V) (q : V 8 o) : V 26 o := (h.2.2.2.1 o q).2.2
theorem vs1 (h : VC V) : V 1 0 := h.s 1 (by omega)
theorem vs2 (h : VC V) : V 2 0 := h.s 2 (by omega)
theorem vs3 (h : VC V) : V 3 0 := h.s 3 (by omega)
theorem vs5 (h : VC V) : V 5 0 := h.s 5 (by omega)
theorem vs6 (h : VC V) : V 6 0 := h.s 6 (by omega)
theorem vs9 (h : VC V) : V 9 0 := h.s 9 (by omega)
theorem vs10 (h : VC V) : V 10 0 := h.s 10 (by omega)
theorem vs12 (h : VC V) : V 12 0 := h.s 12 (by omega)
theorem vs13 (h : VC V) : V 13 0 := h.s 13 (by omega)
theorem vs14 (h : VC V) : V 14 0 := h.s 14 (by omega)
theorem vs15 (h : VC V) : V 15 0 := h.s 15 (by omega)
theorem vs16 (h : VC V) : V 16 0 := h.s 16 (by omega)
theorem vs17 (h : VC V) : V 17 0 := h.s 17 (by omega)
theorem vs20 (h : VC V) : V 20 0 := h.s 20 (by omega)
theorem vs21 (h : VC V) : V 21 0 := h.s 21 (by omega)
theorem vs27 (h : VC V) : V 27 0 := h.s 27 (by omega)
theorem vs28 (h : VC V) : V 28 0 := h.s 28 (by omega)
theorem vs29 (h : VC V) : V 29 0 := h.s 29 (by omega)
theorem vs30 (h : VC V) : V 30 0 := h.s 30 (by omega)
theorem vs31 (h : VC V) : V 31 0 := h.s 31 (by omega)
theorem vs32 (h : VC V) : V 32 0 := h.s 32 (by omega)
theorem vs33 (h : VC V) : V 33 0 := h.s 33 (by omega)
theorem vs34 (h : VC V) : V 34 0 := h.s 34 (by omega)
theorem vs35 (h : VC V) : V 35 0 := h.s 35 (by omega)
theorem vs36 (h : VC V) : V 36 0 := h.s 36 (by omega)
theorem vs37 (h : VC V) : V 37 0 := h.s 37 (by omega)
theorem vs38 (h : VC V) : V 38 0 := h.s 38 (by omega)
theorem vs39 (h : VC V) : V 39 0 := h.s 39 (by omega)
theorem vs40 (h : VC V) : V 40 0 := h.s 40 (by omega)
theorem vs41 (h : VC V) : V 41 0 := h.s 41 (by omega)
end VCL
theorem knJ7_fill_53178 : KN yJ7_fill_53178 cJ7_fill_53178 4 none 2 := ⟨inW 702 (by decide +kernel) (by decide +kernel), inW 145 (by decide +kernel) (by decide +kernel), (by decide +kernel), (by decide +kernel), (by decide +kernel)⟩
theorem knJ7_fill_d0a16 : KN yJ7_fill_d0a16 cJ7_fill_d0a16 5 none 2 := ⟨inW 539 (by decide +kernel) (by decide +kernel), inW 145 (by decide +kernel) (by decide +kernel), (by decide +kernel), (by decide +kernel), (by decide +kernel)⟩
theorem nI_i32 {n : Nat} (h : n < 2 ^ 31) : (nI n).toNatClampNeg = n := nI_clamp h
theorem fI_0 (M : sM) (c o : Nat) (v : Int32) : fI M c o 0 v = M := J_ext (fun c' k o' j => if_neg (fun q => absurd q.2.2.2 (Nat.not_lt_zero j))) (fun _ _ _ _ => rfl)
theorem fL_0 (M : sM) (c o : Nat) (v : Int64) : fL M c o 0 v = M := J_ext (fun _ _ _ _ => rfl) (fun c' k o' j => if_neg (fun q => absurd q.2.2.2 (Nat.not_lt_zero j)))
theorem fI_s (M : sM) (c o n : Nat) (v : Int32) : fI M c o (n + 1) v = wI (fI M c o n v) c 0 o n v := by
  refine J_ext (fun c' k o' j => ?_) (fun _ _ _ _ => rfl)
  simp only [fI, wI]
  by_cases h : c' = c ∧ k = 0 ∧ o' = o
  · obtain ⟨rfl, rfl, rfl⟩ := h
    by_cases h2 : j < n
    · rw [if_pos ⟨rfl, rfl, rfl, by omega⟩, if_neg (by omega), if_pos ⟨rfl, rfl, rfl, h2⟩]
    · by_cases h3 : j = n
      · rw [if_pos ⟨rfl, rfl, rfl, by omega⟩, if_pos ⟨rfl, rfl, rfl, h3⟩]
      · rw [if_neg (by omega), if_neg (by omega), if_neg (by omega)]
  · rw [if_neg (fun q => h ⟨q.1, q.2.1, q.2.2.1⟩), if_neg (fun q => h ⟨q.1, q.2.1, q.2.2.1⟩), if_neg (fun q => h ⟨q.1, q.2.1, q.2.2.1⟩)]
theorem fL_s (M : sM) (c o n : Nat) (v : Int64) : fL M c o (n + 1) v = wL (fL M c o n v) c 0 o n v := by
  refine J_ext (fun _ _ _ _ => rfl) (fun c' k o' j => ?_)
  simp only [fL, wL]
  by_cases h : c' = c ∧ k = 0 ∧ o' = o
  · obtain ⟨rfl, rfl, rfl⟩ := h
    by_cases h2 : j < n
    · rw [if_pos ⟨rfl, rfl, rfl, by omega⟩, if_neg (by omega), if_pos ⟨rfl, rfl, rfl, h2⟩]
    · by_cases h3 : j = n
      · rw [if_pos ⟨rfl, rfl, rfl, by omega⟩, if_pos ⟨rfl, rfl, rfl, h3⟩]
      · rw [if_neg (by omega), if_neg (by omega), if_neg (by omega)]
  · rw [if_neg (fun q => h ⟨q.1, q.2.1, q.2.2.1⟩), if_neg (fun q => h ⟨q.1, q.2.1, q.2.2.1⟩), if_neg (fun q => h ⟨q.1, q.2.1, q.2.2.1⟩)]

theorem w_fillI {E : eU} {G : gU} {ρ : Nat → Nat → Nat} {V : Nat → Nat → Prop} {M : sM} {kc o n : Nat} {v : Int32} (hC : CX E G cJ7_fill_53178 4 RJ7 none 1 0 0) (hV : V kc o) (hk : ¬ kc = 21) (he : aI 0 kc n) (hn : n < 2 ^ 31) (hQ : QX E G ρ V none (fI M kc o n v)) : ∀ (k i : Nat), i + k = n → WA E G ρ V 0 0 (fI M kc o i v) 5 [(0, .ref (ρ kc o)), (1, .int v), (2, .int (nI i)), (3, .int (nI n))] [] := by
  intro k
  induction k with
  | zero =>
    intro i hi
    have hi : i = n := by omega
    subst hi
    refine wa_iload_n 6 2 hC dJ7_fill_53178_5 rfl 2 rfl rfl ?_
    refine wa_iload_n 7 3 hC dJ7_fill_53178_6 rfl 3 rfl rfl ?_
    intro H locs ls hR hO hl
    refine lv_icmp_ge (tgt := 20) hC.1 hC.2.1 dJ7_fill_53178_7 rfl (fun c9 => ?_) (fun c9 => absurd (nI_le (Nat.le_refl _) hn) c9)
    exact wa_vret hC hQ rfl dJ7_fill_53178_20 H locs ls hR hO hl
  | succ k ih =>
    intro i hi
    refine wa_iload_n 6 2 hC dJ7_fill_53178_5 rfl 2 rfl rfl ?_
    refine wa_iload_n 7 3 hC dJ7_fill_53178_6 rfl 3 rfl rfl ?_
    intro H locs ls hR hO hl
    refine lv_icmp_ge (tgt := 20) hC.1 hC.2.1 dJ7_fill_53178_7 rfl (fun c9 => absurd c9 (nI_ge (by omega) hn)) (fun c9 => ?_)
    revert H locs ls
    show WA E G ρ V 0 0 (fI M kc o i v) 10 [(0, .ref (ρ kc o)), (1, .int v), (2, .int (nI i)), (3, .int (nI n))] []
    refine wa_aload_n 11 0 hC dJ7_fill_53178_10 rfl 0 rfl rfl ?_
    refine wa_iload_n 12 2 hC dJ7_fill_53178_11 rfl 2 rfl rfl ?_
    refine wa_iload_n 13 1 hC dJ7_fill_53178_12 rfl 1 rfl rfl ?_
    refine wa_iast0 14 hC hV hk he (show inb (nI i) n = true from decide_eq_true (vp_in_nI (show i < n by omega) hn)) (show fI M kc o (i + 1) v = _ by rw [fI_s, nI_clamp (show i < 2 ^ 31 by omega)]) dJ7_fill_53178_13 rfl ?_
    refine wa_iinc (lv' := [(2, .int (nI (i + 1))), (0, .ref (ρ kc o)), (1, .int v), (3, .int (nI n))]) 17 2 hC dJ7_fill_53178_14 2 rfl (nI_succ i) (by decide) rfl rfl ?_
    refine wa_goto 5 hC dJ7_fill_53178_17 rfl ?_
    refine wa_pick [1, 2, 0, 3] rfl ?_
    exact ih (i + 1) (by omega)
theorem t_fillI (l : Launch) {G : gU} {ρ : Nat → Nat → Nat} {V : Nat → Nat → Prop} {M : sM} {kc o n : Nat} {v : Int32} (hV : V kc o) (hk : ¬ kc = 21) (he : aI 0 kc n) (hn : n < 2 ^ 31) : MT l yJ7_fill_53178 cJ7_fill_53178 4 none 1 G ρ V [.ref (ρ kc o), .int v] M none (fI M kc o n v) := by
  refine vv_enter (lv := [(0, .ref (ρ kc o)), (1, .int v)]) RJ7 rfl (by decide) (Nat.le_of_ble_eq_true rfl) rfl ?_
  intro E hE hC hQ hVC
  refine wa_iconst 1 hC dJ7_fill_53178_0 (show Int32.ofInt 0 = nI 0 from by decide) rfl ?_
  refine wa_istore_n (lv' := [(2, .int (nI 0)), (0, .ref (ρ kc o)), (1, .int v)]) 2 2 hC dJ7_fill_53178_1 rfl rfl (by decide) rfl rfl ?_
  refine wa_aload_n 3 0 hC dJ7_fill_53178_2 rfl 1 rfl rfl ?_
  refine wa_alen 4 hC hV (a := 0) (by decide) (he _ _ _ _ _) (show Int32.ofNat n = nI n from rfl) dJ7_fill_53178_3 rfl ?_
  refine wa_istore_n (lv' := [(3, .int (nI n)), (2, .int (nI 0)), (0, .ref (ρ kc o)), (1, .int v)]) 5 3 hC dJ7_fill_53178_4 rfl rfl (by decide) rfl rfl ?_
  refine wa_pick [2, 3, 1, 0] rfl ?_
  have h := w_fillI hC hV hk he hn hQ n 0 (by omega)
  rw [fI_0] at h
  exact h
section
variable {E : eU} {G : gU} {ρ : Nat → Nat → Nat} {V : Nat → Nat → Prop} {k1 k2 : Nat} {A A1 Z : sM} {pc nL d mc ms : Nat} {lv : List (Nat × Value)} {st : List Value} {cc : ByteArray} {own : String} {ret : Option FieldType}
theorem wa_fillI (q : Nat) (hC : CX E G cc nL own ret d mc ms) {kc o n index : Nat} {v : Int32} (hL : MS own index yJ7_fill_53178) (hV : V kc o) (hk : ¬ kc = 21) (he : aI 0 kc n) (hr : isR kc = false) (hn : n < 2 ^ 31) (e : A1 = fI A kc o n v) (hd : 2 ≤ d) (hst : (st.map fun v => v.category).sum ≤ 8) (hdg : decode cc pc = .ok (.invokestatic index, 3)) (hq : pc + 3 = q) (hf : k1 ≤ mc ∧ k2 ≤ ms)
    (kk : WA E G ρ V k1 k2 (J A1 Z) q lv st) : WA E G ρ V k1 k2 (J A Z) pc lv (.int v :: .ref (ρ kc o) :: st) := by
  rw [jfIc hr e] at kk
  exact wa_callSv q hC [.ref (ρ kc o), .int v] st knJ7_fill_53178 hL (t_fillI E.2.1 hV hk he hn) hd (by omega) rfl hst hdg hq hf rfl kk
end
theorem w_fillJ {E : eU} {G : gU} {ρ : Nat → Nat → Nat} {V : Nat → Nat → Prop} {M : sM} {kc o n : Nat} {v : Int64} (hC : CX E G cJ7_fill_d0a16 5 RJ7 none 1 0 0) (hV : V kc o) (he : aL kc n) (hn : n < 2 ^ 31) (hQ : QX E G ρ V none (fL M kc o n v)) : ∀ (k i : Nat), i + k = n → WA E G ρ V 0 0 (fL M kc o i v) 6 [(0, .ref (ρ kc o)), (1, .long v), (3, .int (nI i)), (4, .int (nI n))] [] := by
  intro k
  induction k with
  | zero =>
    intro i hi
    have hi : i = n := by omega
    subst hi
    refine wa_iload_n 7 3 hC dJ7_fill_d0a16_6 rfl 2 rfl rfl ?_
    refine wa_iload 9 4 hC dJ7_fill_d0a16_7 3 rfl rfl ?_
    intro H locs ls hR hO hl
    refine lv_icmp_ge (tgt := 22) hC.1 hC.2.1 dJ7_fill_d0a16_9 rfl (fun c9 => ?_) (fun c9 => absurd (nI_le (Nat.le_refl _) hn) c9)
    exact wa_vret hC hQ rfl dJ7_fill_d0a16_22 H locs ls hR hO hl
  | succ k ih =>
    intro i hi
    refine wa_iload_n 7 3 hC dJ7_fill_d0a16_6 rfl 2 rfl rfl ?_
    refine wa_iload 9 4 hC dJ7_fill_d0a16_7 3 rfl rfl ?_
    intro H locs ls hR hO hl
    refine lv_icmp_ge (tgt := 22) hC.1 hC.2.1 dJ7_fill_d0a16_9 rfl (fun c9 => absurd c9 (nI_ge (by omega) hn)) (fun c9 => ?_)
    revert H locs ls
    show WA E G ρ V 0 0 (fL M kc o i v) 12 [(0, .ref (ρ kc o)), (1, .long v), (3, .int (nI i)), (4, .int (nI n))] []
    refine wa_aload_n 13 0 hC dJ7_fill_d0a16_12 rfl 0 rfl rfl ?_
    refine wa_iload_n 14 3 hC dJ7_fill_d0a16_13 rfl 2 rfl rfl ?_
    refine wa_lload_n 15 1 hC dJ7_fill_d0a16_14 rfl 1 rfl rfl ?_
    refine wa_last0 16 hC hV he (show inb (nI i) n = true from decide_eq_true (vp_in_nI (show i < n by omega) hn)) (show fL M kc o (i + 1) v = _ by rw [fL_s, nI_clamp (show i < 2 ^ 31 by omega)]) dJ7_fill_d0a16_15 rfl ?_
    refine wa_iinc (lv' := [(3, .int (nI (i + 1))), (0, .ref (ρ kc o)), (1, .long v), (4, .int (nI n))]) 19 3 hC dJ7_fill_d0a16_16 2 rfl (nI_succ i) (by decide) rfl rfl ?_
    refine wa_goto 6 hC dJ7_fill_d0a16_19 rfl ?_
    refine wa_pick [1, 2, 0, 3] rfl ?_
    exact ih (i + 1) (by omega)
theorem t_fillJ (l : Launch) {G : gU} {ρ : Nat → Nat → Nat} {V : Nat → Nat → Prop} {M : sM} {kc o n : Nat} {v : Int64} (hV : V kc o) (he : aL kc n) (hn : n < 2 ^ 31) : MT l yJ7_fill_d0a16 cJ7_fill_d0a16 5 none 1 G ρ V [.ref (ρ kc o), .long v] M none (fL M kc o n v) := by
  refine vv_enter (lv := [(0, .ref (ρ kc o)), (1, .long v)]) RJ7 rfl (by decide) (Nat.le_of_ble_eq_true rfl) rfl ?_
  intro E hE hC hQ hVC
  refine wa_iconst 1 hC dJ7_fill_d0a16_0 (show Int32.ofInt 0 = nI 0 from by decide) rfl ?_
  refine wa_istore_n (lv' := [(3, .int (nI 0)), (0, .ref (ρ kc o)), (1, .long v)]) 2 3 hC dJ7_fill_d0a16_1 rfl rfl (by decide) rfl rfl ?_
  refine wa_aload_n 3 0 hC dJ7_fill_d0a16_2 rfl 1 rfl rfl ?_
  refine wa_alen 4 hC hV (a := 1) (by decide) (he _ _ _ _ _) (show Int32.ofNat n = nI n from rfl) dJ7_fill_d0a16_3 rfl ?_
  refine wa_istore (lv' := [(4, .int (nI n)), (3, .int (nI 0)), (0, .ref (ρ kc o)), (1, .long v)]) 6 4 hC dJ7_fill_d0a16_4 rfl (by decide) rfl rfl ?_
  refine wa_pick [2, 3, 1, 0] rfl ?_
  have h := w_fillJ hC hV he hn hQ n 0 (by omega)
  rw [fL_0] at h
  exact h
section
variable {E : eU} {G : gU} {ρ : Nat → Nat → Nat} {V : Nat → Nat → Prop} {k1 k2 : Nat} {A A1 Z : sM} {pc nL d mc ms : Nat} {lv : List (Nat × Value)} {st : List Value} {cc : ByteArray} {own : String} {ret : Option FieldType}
theorem wa_fillJ (q : Nat) (hC : CX E G cc nL own ret d mc ms) {kc o n index : Nat} {v : Int64} (hL : MS own index yJ7_fill_d0a16) (hV : V kc o) (he : aL kc n) (hr : isR kc = false) (hn : n < 2 ^ 31) (e : A1 = fL A kc o n v) (hd : 2 ≤ d) (hst : (st.map fun v => v.category).sum ≤ 8) (hdg : decode cc pc = .ok (.invokestatic index, 3)) (hq : pc + 3 = q) (hf : k1 ≤ mc ∧ k2 ≤ ms)
    (kk : WA E G ρ V k1 k2 (J A1 Z) q lv st) : WA E G ρ V k1 k2 (J A Z) pc lv (.long v :: .ref (ρ kc o) :: st) := by
  rw [jfLc hr e] at kk
  exact wa_callSv q hC [.ref (ρ kc o), .long v] st knJ7_fill_d0a16 hL (t_fillJ E.2.1 hV he hn) hd (by omega) rfl hst hdg hq hf rfl kk
end
theorem w_acopy : Cond.native arraycopyName ∈ ALLW ∧ Cond.static arraycopyName ∈ ALLW ∧ Cond.initialized "java/lang/System" ∈ ALLW := ⟨inW 505 (by decide +kernel) (by decide +kernel), inW 504 (by decide +kernel) (by decide +kernel), inW 150 (by decide +kernel) (by decide +kernel)⟩
section
variable {E : eU} {G : gU} {ρ : Nat → Nat → Nat} {V : Nat → Nat → Prop} {k1 k2 : Nat} {M A A1 Z : sM} {pc nL d mc ms : Nat} {lv : List (Nat × Value)} {st : List Value} {cc : ByteArray} {own : String} {ret : Option FieldType}
theorem ce_cI_ne (cy : Nat → ClassId) (ρ : Nat → Nat → Nat) (M : sM) {c o2 o n : Nat} {c' o' : Nat} (h : ¬ (c' = c ∧ o' = o)) : ce cy ρ (cI M c o2 o n) c' o' = ce cy ρ M c' o' := by
  have h1 : (fun k' j' => (cI M c o2 o n).1 c' k' o' j') = (fun k' j' => M.1 c' k' o' j') := by
    funext k' j'
    exact if_neg (fun q => h ⟨q.1, q.2.2.1⟩)
  unfold ce
  rw [h1]
  rfl
theorem wa_copyI0 (q : Nat) (hC : CX E G cc nL own ret d mc ms) {kc o2 o n index : Nat} {n9 : Int32} (hL : Cond.methodLink own index arraycopyName ∈ ALLW) (hV2 : V kc o2) (hV : V kc o) (hne : ¬ o2 = o) (hk : ¬ kc = 21) (he : aI 0 kc n) (hn : n9.toNatClampNeg = n) (hn0 : ¬ n9 < 0) (hd : 1 ≤ d) (hst : (st.map fun v => v.category).sum ≤ 8) (hdg : decode cc pc = .ok (.invokestatic index, 3)) (hq : pc + 3 = q)
    (kk : WA E G ρ V k1 k2 (cI M kc o2 o n) q lv st) : WA E G ρ V k1 k2 M pc lv (.int n9 :: .int 0 :: .ref (ρ kc o) :: .int 0 :: .ref (ρ kc o2) :: st) := by
  subst hq
  intro H locs ls hR hO hl T hT X
  obtain ⟨hx, hb, hml, hown, hts, hK, hr, hlk, hRm, -⟩ := hC
  have he2 : ∀ (M : sM) (o : Nat), ce (gC G) ρ M kc o = .inl (gC G 0, n, .inl (fun j => M.1 kc 0 o j)) := fun M o => he (gC G) ρ o (fun k j => M.1 kc k o j) (fun k j => M.2 kc k o j)
  have hc0 : H[ρ kc o2]? = some (vp_cell (gC G 0) (n, .inl (fun j => M.1 kc 0 o2 j))) := by have := (hR.1 kc o2 hV2).1; rw [he2] at this; exact this
  have hc1 : H[ρ kc o]? = some (vp_cell (gC G 0) (n, .inl (fun j => M.1 kc 0 o j))) := by have := (hR.1 kc o hV).1; rw [he2] at this; exact this
  obtain ⟨-, u0, hu0, cm0, hk0⟩ := (hK.1.2 0 _ rfl).1 n (fun j => .int (M.1 kc 0 o2 j))
  obtain ⟨-, u1, hu1, cm1, hk1⟩ := (hK.1.2 0 _ rfl).1 n (fun j => .int (M.1 kc 0 o j))
  have hw : nativeFrameWords "java/lang/System" "arraycopy" 5 ≤ 40 := by decide +kernel
  have hnn : n9.toInt = (n : Int) := by
    have h0 : (0 : Int) ≤ n9.toInt := by have := Int32.not_lt.mp hn0; simpa using Int32.le_iff_toInt_le.mp this
    have h1 : ((n9.toInt.toNat : Nat) : Int) = (n : Int) := congrArg Int.ofNat hn
    omega
  have z0 : (0 : Int32).toNatClampNeg = 0 := rfl
  have z1 : (0 : Int32).toInt = 0 := rfl
  obtain ⟨vm', X', step⟩ := X.arraycopy hx hown (hts _ hL) (hts _ w_acopy.1) (hts _ w_acopy.2.1) (hts _ w_acopy.2.2) (src := ρ kc o2) (dst := ρ kc o) (cs := vp_cell (gC G 0) (n, .inl (fun j => M.1 kc 0 o2 j))) (cd := vp_cell (gC G 0) (n, .inl (fun j => M.1 kc 0 o j))) (srcPos := 0) (destPos := 0) (n := n9) (by rw [hT]; exact hc0) (by rw [hT]; exact hc1)
    (fun _ h => by cases h) (fun _ h => by cases h) (fun h => by cases h) (fun h => by cases h) hu0 hu1 hk0 hk1 (by simp [refKind]) (by decide) (by decide) hn0
    (by rw [z1, hnn]; show ¬ _ > ((arrV (gC G 0) n (fun j => .int (M.1 kc 0 o2 j))).slots.size : Int); rw [arrV_size]; omega)
    (by rw [z1, hnn]; show ¬ _ > ((arrV (gC G 0) n (fun j => .int (M.1 kc 0 o j))).slots.size : Int); rw [arrV_size]; omega)
    (fun vm₁ _ i hi => by
      have e : (vp_cell (gC G 0) (n, .inl (fun j => M.1 kc 0 o2 j))).slots.getD ((0 : Int32).toNatClampNeg + i) .null = .int (M.1 kc 0 o2 ((0 : Int32).toNatClampNeg + i)) := by
        show (arrV (gC G 0) n (fun j => .int (M.1 kc 0 o2 j))).slots.getD _ _ = _
        rw [Array.getD_eq_getD_getElem?, arrV_read _ _ (by rw [z0]; omega)]
        rfl
      rw [e]
      exact ⟨rfl, trivial⟩)
    (g := F0 (eM E) pc ls (.int n9 :: .int 0 :: .ref (ρ kc o) :: .int 0 :: .ref (ρ kc o2) :: st)) rfl hl.1 (rest := st) rfl (by rw [hb]; exact hdg) (Nat.le_trans hd hRm.1) (by show 2 * 0 + (st.map fun v => v.category).sum + (nativeFrameWords "java/lang/System" "arraycopy" 5 + 11) ≤ _; have := hRm.2.1; omega)
  have e1 : copied (vp_cell (gC G 0) (n, .inl (fun j => M.1 kc 0 o2 j))) (vp_cell (gC G 0) (n, .inl (fun j => M.1 kc 0 o j))) 0 0 n9 = vp_cell (gC G 0) (n, .inl (va_cpy (fun j => M.1 kc 0 o2 j) (fun j => M.1 kc 0 o j) (0 : Int32).toNatClampNeg (0 : Int32).toNatClampNeg n9.toNatClampNeg)) := va_copied (fun z => .int z) (gC G 0) (gC G 0) (fun j => M.1 kc 0 o2 j) (fun j => M.1 kc 0 o j) (by rw [z0]; omega)
  have e2 : (va_cpy (fun j => M.1 kc 0 o2 j) (fun j => M.1 kc 0 o j) (0 : Int32).toNatClampNeg (0 : Int32).toNatClampNeg n9.toNatClampNeg) = (fun j => (cI M kc o2 o n).1 kc 0 o j) := by
    funext j
    show (if (0 : Int32).toNatClampNeg ≤ j ∧ j < (0 : Int32).toNatClampNeg + n9.toNatClampNeg then M.1 kc 0 o2 ((0 : Int32).toNatClampNeg + (j - (0 : Int32).toNatClampNeg)) else M.1 kc 0 o j) = if kc = kc ∧ 0 = 0 ∧ o = o ∧ j < n then M.1 kc 0 o2 j else M.1 kc 0 o j
    rw [z0, hn]
    by_cases hj : j < n
    · rw [if_pos (by omega), if_pos ⟨rfl, rfl, rfl, hj⟩, Nat.zero_add, Nat.sub_zero]
    · rw [if_neg (by omega), if_neg (fun q => hj q.2.2.2)]
  rw [e2] at e1
  rw [e1] at X' step
  have hlt : ρ kc o < H.size := (Array.getElem?_eq_some_iff.mp hc1).1
  have hheap : ((T.setVm vm').setCell (ρ kc o) (vp_cell (gC G 0) (n, .inl (fun j => (cI M kc o2 o n).1 kc 0 o j)))).heap = H.setIfInBounds (ρ kc o) (vp_cell (gC G 0) (n, .inl (fun j => (cI M kc o2 o n).1 kc 0 o j))) := by rw [← hT]; rfl
  have oq : ∀ q : Nat, q ≠ ρ kc o → (H.setIfInBounds (ρ kc o) (vp_cell (gC G 0) (n, .inl (fun j => (cI M kc o2 o n).1 kc 0 o j))))[q]? = H[q]? := fun q hq => by simp [Array.getElem?_setIfInBounds, Ne.symm hq]
  have hat : va_at G.1 vwCl (ρ kc o, ce (gC G) ρ (cI M kc o2 o n) kc o) (H.setIfInBounds (ρ kc o) (vp_cell (gC G 0) (n, .inl (fun j => (cI M kc o2 o n).1 kc 0 o j)))) := by
    rw [he2]
    show (H.setIfInBounds (ρ kc o) _)[ρ kc o]? = some _
    simp [Array.getElem?_setIfInBounds, hlt]
  obtain ⟨t, a1, b1⟩ := kk _ _ ls (hR.put hV (by simp) oq hat (fun c' o' h => ce_cI_ne _ ρ M h) (fun i _ => by simp only [cI]; rw [if_neg (fun q => hk q.1.symm)])) (fun q hq => by
      rcases List.mem_append.mp hq with h | h
      · exact hO q h
      · obtain ⟨z, -, hz⟩ := List.mem_map.mp h
        rw [← hz]
        exact (hR.1 kc o hV).2) hl _ hheap X'
  exact ⟨t, step t a1, b1⟩
theorem wa_copyI (q : Nat) (hC : CX E G cc nL own ret d mc ms) {kc o2 o n index : Nat} {n9 : Int32} (hL : Cond.methodLink own index arraycopyName ∈ ALLW) (hV2 : V kc o2) (hV : V kc o) (hne : ¬ o2 = o) (hk : ¬ kc = 21) (he : aI 0 kc n) (hr : isR kc = false) (hn : n9.toNatClampNeg = n) (hn0 : ¬ n9 < 0) (e : A1 = cI A kc o2 o n) (hd : 1 ≤ d) (hst : (st.map fun v => v.category).sum ≤ 8) (hdg : decode cc pc = .ok (.invokestatic index, 3)) (hq : pc + 3 = q)
    (kk : WA E G ρ V k1 k2 (J A1 Z) q lv st) : WA E G ρ V k1 k2 (J A Z) pc lv (.int n9 :: .int 0 :: .ref (ρ kc o) :: .int 0 :: .ref (ρ kc o2) :: st) := by
  rw [jcIc hr e] at kk
  exact wa_copyI0 q hC hL hV2 hV hne hk he hn hn0 hd hst hdg hq kk
end
section
variable {E : eU} {G : gU} {ρ : Nat → Nat → Nat} {V : Nat → Nat → Prop} {k1 k2 : Nat} {M A A1 Z : sM} {pc nL d mc ms : Nat} {lv : List (Nat × Value)} {st : List Value} {cc : ByteArray} {own : String} {ret : Option FieldType}
theorem ce_cL_ne (cy : Nat → ClassId) (ρ : Nat → Nat → Nat) (M : sM) {c o2 o n : Nat} {c' o' : Nat} (h : ¬ (c' = c ∧ o' = o)) : ce cy ρ (cL M c o2 o n) c' o' = ce cy ρ M c' o' := by
  have h1 : (fun k' j' => (cL M c o2 o n).2 c' k' o' j') = (fun k' j' => M.2 c' k' o' j') := by
    funext k' j'
    exact if_neg (fun q => h ⟨q.1, q.2.2.1⟩)
  unfold ce
  rw [h1]
  rfl
theorem wa_copyJ0 (q : Nat) (hC : CX E G cc nL own ret d mc ms) {kc o2 o n index : Nat} {n9 : Int32} (hL : Cond.methodLink own index arraycopyName ∈ ALLW) (hV2 : V kc o2) (hV : V kc o) (hne : ¬ o2 = o) (he : aL kc n) (hn : n9.toNatClampNeg = n) (hn0 : ¬ n9 < 0) (hd : 1 ≤ d) (hst : (st.map fun v => v.category).sum ≤ 8) (hdg : decode cc pc = .ok (.invokestatic index, 3)) (hq : pc + 3 = q)
    (kk : WA E G ρ V k1 k2 (cL M kc o2 o n) q lv st) : WA E G ρ V k1 k2 M pc lv (.int n9 :: .int 0 :: .ref (ρ kc o) :: .int 0 :: .ref (ρ kc o2) :: st) := by
  subst hq
  intro H locs ls hR hO hl T hT X
  obtain ⟨hx, hb, hml, hown, hts, hK, hr, hlk, hRm, -⟩ := hC
  have he2 : ∀ (M : sM) (o : Nat), ce (gC G) ρ M kc o = .inl (gC G 1, n, .inr (.inl (fun j => M.2 kc 0 o j))) := fun M o => he (gC G) ρ o (fun k j => M.1 kc k o j) (fun k j => M.2 kc k o j)
  have hc0 : H[ρ kc o2]? = some (vp_cell (gC G 1) (n, .inr (.inl (fun j => M.2 kc 0 o2 j)))) := by have := (hR.1 kc o2 hV2).1; rw [he2] at this; exact this
  have hc1 : H[ρ kc o]? = some (vp_cell (gC G 1) (n, .inr (.inl (fun j => M.2 kc 0 o j)))) := by have := (hR.1 kc o hV).1; rw [he2] at this; exact this
  obtain ⟨-, u0, hu0, cm0, hk0⟩ := (hK.1.2 1 _ rfl).1 n (fun j => .long (M.2 kc 0 o2 j))
  obtain ⟨-, u1, hu1, cm1, hk1⟩ := (hK.1.2 1 _ rfl).1 n (fun j => .long (M.2 kc 0 o j))
  have hw : nativeFrameWords "java/lang/System" "arraycopy" 5 ≤ 40 := by decide +kernel
  have hnn : n9.toInt = (n : Int) := by
    have h0 : (0 : Int) ≤ n9.toInt := by have := Int32.not_lt.mp hn0; simpa using Int32.le_iff_toInt_le.mp this
    have h1 : ((n9.toInt.toNat : Nat) : Int) = (n : Int) := congrArg Int.ofNat hn
    omega
  have z0 : (0 : Int32).toNatClampNeg = 0 := rfl
  have z1 : (0 : Int32).toInt = 0 := rfl
  obtain ⟨vm', X', step⟩ := X.arraycopy hx hown (hts _ hL) (hts _ w_acopy.1) (hts _ w_acopy.2.1) (hts _ w_acopy.2.2) (src := ρ kc o2) (dst := ρ kc o) (cs := vp_cell (gC G 1) (n, .inr (.inl (fun j => M.2 kc 0 o2 j)))) (cd := vp_cell (gC G 1) (n, .inr (.inl (fun j => M.2 kc 0 o j)))) (srcPos := 0) (destPos := 0) (n := n9) (by rw [hT]; exact hc0) (by rw [hT]; exact hc1)
    (fun _ h => by cases h) (fun _ h => by cases h) (fun h => by cases h) (fun h => by cases h) hu0 hu1 hk0 hk1 (by simp [refKind]) (by decide) (by decide) hn0
    (by rw [z1, hnn]; show ¬ _ > ((arrV (gC G 1) n (fun j => .long (M.2 kc 0 o2 j))).slots.size : Int); rw [arrV_size]; omega)
    (by rw [z1, hnn]; show ¬ _ > ((arrV (gC G 1) n (fun j => .long (M.2 kc 0 o j))).slots.size : Int); rw [arrV_size]; omega)
    (fun vm₁ _ i hi => by
      have e : (vp_cell (gC G 1) (n, .inr (.inl (fun j => M.2 kc 0 o2 j)))).slots.getD ((0 : Int32).toNatClampNeg + i) .null = .long (M.2 kc 0 o2 ((0 : Int32).toNatClampNeg + i)) := by
        show (arrV (gC G 1) n (fun j => .long (M.2 kc 0 o2 j))).slots.getD _ _ = _
        rw [Array.getD_eq_getD_getElem?, arrV_read _ _ (by rw [z0]; omega)]
        rfl
      rw [e]
      exact ⟨rfl, trivial⟩)
    (g := F0 (eM E) pc ls (.int n9 :: .int 0 :: .ref (ρ kc o) :: .int 0 :: .ref (ρ kc o2) :: st)) rfl hl.1 (rest := st) rfl (by rw [hb]; exact hdg) (Nat.le_trans hd hRm.1) (by show 2 * 0 + (st.map fun v => v.category).sum + (nativeFrameWords "java/lang/System" "arraycopy" 5 + 11) ≤ _; have := hRm.2.1; omega)
  have e1 : copied (vp_cell (gC G 1) (n, .inr (.inl (fun j => M.2 kc 0 o2 j)))) (vp_cell (gC G 1) (n, .inr (.inl (fun j => M.2 kc 0 o j)))) 0 0 n9 = vp_cell (gC G 1) (n, .inr (.inl (va_cpy (fun j => M.2 kc 0 o2 j) (fun j => M.2 kc 0 o j) (0 : Int32).toNatClampNeg (0 : Int32).toNatClampNeg n9.toNatClampNeg))) := va_copied (fun z => .long z) (gC G 1) (gC G 1) (fun j => M.2 kc 0 o2 j) (fun j => M.2 kc 0 o j) (by rw [z0]; omega)
  have e2 : (va_cpy (fun j => M.2 kc 0 o2 j) (fun j => M.2 kc 0 o j) (0 : Int32).toNatClampNeg (0 : Int32).toNatClampNeg n9.toNatClampNeg) = (fun j => (cL M kc o2 o n).2 kc 0 o j) := by
    funext j
    show (if (0 : Int32).toNatClampNeg ≤ j ∧ j < (0 : Int32).toNatClampNeg + n9.toNatClampNeg then M.2 kc 0 o2 ((0 : Int32).toNatClampNeg + (j - (0 : Int32).toNatClampNeg)) else M.2 kc 0 o j) = if kc = kc ∧ 0 = 0 ∧ o = o ∧ j < n then M.2 kc 0 o2 j else M.2 kc 0 o j
    rw [z0, hn]
    by_cases hj : j < n
    · rw [if_pos (by omega), if_pos ⟨rfl, rfl, rfl, hj⟩, Nat.zero_add, Nat.sub_zero]
    · rw [if_neg (by omega), if_neg (fun q => hj q.2.2.2)]
  rw [e2] at e1
  rw [e1] at X' step
  have hlt : ρ kc o < H.size := (Array.getElem?_eq_some_iff.mp hc1).1
  have hheap : ((T.setVm vm').setCell (ρ kc o) (vp_cell (gC G 1) (n, .inr (.inl (fun j => (cL M kc o2 o n).2 kc 0 o j))))).heap = H.setIfInBounds (ρ kc o) (vp_cell (gC G 1) (n, .inr (.inl (fun j => (cL M kc o2 o n).2 kc 0 o j)))) := by rw [← hT]; rfl
  have oq : ∀ q : Nat, q ≠ ρ kc o → (H.setIfInBounds (ρ kc o) (vp_cell (gC G 1) (n, .inr (.inl (fun j => (cL M kc o2 o n).2 kc 0 o j)))))[q]? = H[q]? := fun q hq => by simp [Array.getElem?_setIfInBounds, Ne.symm hq]
  have hat : va_at G.1 vwCl (ρ kc o, ce (gC G) ρ (cL M kc o2 o n) kc o) (H.setIfInBounds (ρ kc o) (vp_cell (gC G 1) (n, .inr (.inl (fun j => (cL M kc o2 o n).2 kc 0 o j))))) := by
    rw [he2]
    show (H.setIfInBounds (ρ kc o) _)[ρ kc o]? = some _
    simp [Array.getElem?_setIfInBounds, hlt]
  obtain ⟨t, a1, b1⟩ := kk _ _ ls (hR.put hV (by simp) oq hat (fun c' o' h => ce_cL_ne _ ρ M h) (fun _ _ => rfl)) (fun q hq => by
      rcases List.mem_append.mp hq with h | h
      · exact hO q h
      · obtain ⟨z, -, hz⟩ := List.mem_map.mp h
        rw [← hz]
        exact (hR.1 kc o hV).2) hl _ hheap X'
  exact ⟨t, step t a1, b1⟩
theorem wa_copyJ (q : Nat) (hC : CX E G cc nL own ret d mc ms) {kc o2 o n index : Nat} {n9 : Int32} (hL : Cond.methodLink own index arraycopyName ∈ ALLW) (hV2 : V kc o2) (hV : V kc o) (hne : ¬ o2 = o) (he : aL kc n) (hr : isR kc = false) (hn : n9.toNatClampNeg = n) (hn0 : ¬ n9 < 0) (e : A1 = cL A kc o2 o n) (hd : 1 ≤ d) (hst : (st.map fun v => v.category).sum ≤ 8) (hdg : decode cc pc = .ok (.invokestatic index, 3)) (hq : pc + 3 = q)
    (kk : WA E G ρ V k1 k2 (J A1 Z) q lv st) : WA E G ρ V k1 k2 (J A Z) pc lv (.int n9 :: .int 0 :: .ref (ρ kc o) :: .int 0 :: .ref (ρ kc o2) :: st) := by
  rw [jcLc hr e] at kk
  exact wa_copyJ0 q hC hL hV2 hV hne he hn hn0 hd hst hdg hq kk
end
