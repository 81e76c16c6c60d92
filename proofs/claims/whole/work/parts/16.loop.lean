def R_law : String := "SolarLedgerLaw"
def lw_P (b : Addr) (xs : List Int32) (args : Array Value) (s : State) : Prop := args = #[.ref b] ∧ s.IntsAt b xs ∧ xs.length ≤ 3072 ∧ (Jvm.Cond.and given_1 narrow_1).before args s = true
def lw_Q (_ : Array Value) (s : State) (o : Outcome) (t : State) : Prop := o = .returned (some (.int 1)) ∧ Framed s o t [] 601024 7293034
def lw_Z (below : List Frame) (a : Array Value) (s : State) : State → Prop := fun t => ∃ o, t.status = .running ∧ Ended t below o ∧ lw_Q a s o t
/-- the law's own end, with 1 on the stack, nothing written that was there before, its room as the claim has it -/
theorem lw_ret {p : Program} {l : Launch} {e : Env} {s : State} {m : MethodId} {below : List Frame} {meth : Method} {c : Code} {b : Nat} (hx : p.tables.exec = Jvm.exec) (hb : c.code = code) (hr : meth.sig.returnType = ret) (hlocks : meth.locks = false) {pc : Nat} {H : Heap} {ls : Array Slot} (hdg : decode code pc = .ok (.ireturn, 1)) : W p l e room_1 s m #[Value.ref b] below meth c H [] 601024 7293034 (lw_Z below #[Value.ref b] s) (F0 m pc ls [.int 1]) := by
  intro T hT X
  obtain ⟨fs, hret, hrun, hended, hW, hframe⟩ := X.leave (v := some (.int 1)) (hlocks := hlocks) (fun h => by rw [hr] at h; cases h)
  have hmeth' : T.vm.method? m = some meth := X.method'
  refine ⟨T.setFrames fs, ?_, .returned (some (.int 1)), hrun, hended, rfl, ⟨_, rfl⟩, hW, hframe⟩
  jvm_step X.here [X.here.top, hx, hb, hdg, hmeth', hr, ret, narrow_b1]
  (try refine ⟨rfl, ?_⟩); (try refine ⟨rfl, ?_⟩)
  first | (intro acts; rw [hret _ acts rfl rfl rfl]) | rw [hret _ _ rfl rfl rfl]
  exact Steps.refl _
/-- what holds at the law's entry: the machine, the code, the tables' words (any of lw_tbl by 'hts w (by decide +kernel)'), the script of L ints xs at the cell b, what the Statement gives of the start (any of its parts by flat_of_before) -/
def lw_At (p : Program) (s : State) (m : MethodId) (meth : Method) (c : Code) (b L : Nat) (xs : Nat → Int32) : Prop :=
  p.tables.exec = Jvm.exec ∧ c.code = code ∧ meth.sig.returnType = ret ∧ c.maxLocals = 8 ∧ s.vm.findClass R_law = some m.cls ∧ (∀ w ∈ lw_tbl, w.before #[Value.ref b] s = true) ∧ va_X b L xs s s.heap ∧ b < s.heap.size ∧ meth.locks = false ∧ (Jvm.Cond.and given_1 narrow_1).before #[Value.ref b] s = true

theorem inb_nI {i L : Nat} (h : i < L) (hL : L < 2 ^ 31) : inb (nI i) L = true := decide_eq_true (vp_in_nI h hL)
set_option maxRecDepth 20000 in
theorem law_loop {E : eU} {G : gU} {b L K1 K2 : Nat} {xs : Nat → Int32} (Inv : Nat → sM → sM → Prop) (hstep : StepOK Inv) (hC : CX E G cL_law 8 RL (some .boolean) 1312 601024 7293034) (hl9 : E.2.1.stackTraces = false) (hS : SC E G b L xs) (hL : L ≤ 3072) (hR9 : eR E = room_1) (hA9 : eA E = #[Value.ref b]) (hQ : eQ E = lw_Z (eF E) #[Value.ref b] (eS E)) (hB : gB G = (eS E).heap.size) (hK : K1 + 90 * 512 ≤ 601024 ∧ K2 + 3000 * 512 ≤ 7293034) :
    ∀ (k n i k1 k2 : Nat) (ρ : Nat → Nat → Nat) (V : Nat → Nat → Prop) (A Z : sM), i = 6 * n → L ≤ i + k → i ≤ L → k1 ≤ K1 + 90 * n → k2 ≤ K2 + 3000 * n → Inv n A Z → VC V → WA E G ρ V k1 k2 (J A Z) 23 [(0, .ref b), (1, .ref (ρ 9 0)), (2, .ref (ρ 10 0)), (3, .ref (ρ 41 0)), (4, .int (nI i))] [] := by
  intro k
  induction k using Nat.strongRecOn with
  | _ k ih =>
  intro n i k1 k2 ρ V A Z hi hk hiL hk1 hk2 hInv hVC
  have hsub : (nI L - (6 : Int32)).toInt = (L : Int) - 6 := pk_sub_toInt (a := L) (b := 6) (by omega) (by omega)
  have hti : (nI i).toInt = (i : Int) := nI_toInt (by omega)
  refine wa_iload 25 4 hC dL_law_23 4 rfl rfl ?_
  refine wa_aload_n 26 0 hC dL_law_25 rfl 0 rfl rfl ?_
  refine wl_slen 27 hC hS dL_law_26 rfl ?_
  refine wa_bipush 29 hC dL_law_27 (show (Int8.ofInt 6).toInt32 = (6 : Int32) from by decide) rfl ?_
  refine wa_isub 30 hC dL_law_29 rfl ?_
  by_cases hend : L < i + 6
  · intro H locs ls hR hO hl
    refine lv_icmp_gt (tgt := 2687) hC.1 hC.2.1 dL_law_30 rfl (fun c9 => ?_) (fun c9 => absurd (Int32.lt_iff_toInt_lt.mpr (by rw [hsub, hti]; omega)) c9)
    revert H locs ls
    show WA E G ρ V k1 k2 (J A Z) 2687 _ []
    refine wa_iconst 2688 hC dL_law_2687 (show Int32.ofInt 1 = (1 : Int32) from by decide) rfl ?_
    intro H locs ls hR hO hl
    obtain ⟨p, l, e, R9, s, m, args, below, meth, c, Q9⟩ := E
    have hR8 : R9 = room_1 := hR9
    have hA8 : args = #[Value.ref b] := hA9
    have hQ8 : Q9 = lw_Z below #[Value.ref b] s := hQ
    have hB : gB G = s.heap.size := hB
    show W p l e R9 s m args below meth c H locs k1 k2 Q9 (F0 m 2688 ls [.int 1])
    rw [hR8, hA8, hQ8]
    refine va_forget (fun q hq => by have := hO q hq; rw [hB] at this; exact this) ?_
    refine W.widen (k := 601024) (n := 7293034) (by omega) (by omega) ?_
    exact lw_ret hC.1 hC.2.1 hC.2.2.2.2.2.2.1 hC.2.2.2.2.2.2.2.1 dL_law_2688
  · have hn : n < 512 := by omega
    have hj : ∀ j : Nat, j < 6 → inb (nI (i + j)) L = true := fun j hj => inb_nI (by omega) (by omega)
    have hin : inb (nI i) L = true ∧ inb (nI i + (1 : Int32)) L = true ∧ inb (nI i + (2 : Int32)) L = true ∧ inb (nI i + (3 : Int32)) L = true ∧ inb (nI i + (4 : Int32)) L = true ∧ inb (nI i + (5 : Int32)) L = true := by
      refine ⟨hj 0 (by omega), ?_, ?_, ?_, ?_, ?_⟩
      · have := hj 1 (by omega); rw [← nI_add] at this; exact this
      · have := hj 2 (by omega); rw [← nI_add] at this; exact this
      · have := hj 3 (by omega); rw [← nI_add] at this; exact this
      · have := hj 4 (by omega); rw [← nI_add] at this; exact this
      · have := hj 5 (by omega); rw [← nI_add] at this; exact this
    intro H locs ls hR hO hl
    refine lv_icmp_gt (tgt := 2687) hC.1 hC.2.1 dL_law_30 rfl (fun c9 => absurd (Int32.lt_iff_toInt_lt.mp c9) (by rw [hsub, hti]; omega)) (fun c9 => ?_)
    revert H locs ls
    show WA E G ρ V k1 k2 (J A Z) 33 _ []
    refine wa_aload_n 34 0 hC dL_law_33 rfl 0 rfl rfl ?_
    refine wa_iload 36 4 hC dL_law_34 4 rfl rfl ?_
    refine wl_sld 37 hC hS hin.1 dL_law_36 rfl ?_
    refine wa_bipush 39 hC dL_law_37 (show (Int8.ofInt 63).toInt32 = (63 : Int32) from by decide) rfl ?_
    refine wa_iand 40 hC dL_law_39 rfl ?_
    have next : ∀ (ρ' : Nat → Nat → Nat) (V' : Nat → Nat → Prop) (j1 j2 : Nat) (A' Z' : sM), VC V' → (j1 ≤ k1 + 90 ∧ j2 ≤ k2 + 3000) → Inv (n + 1) A' Z' → WA E G ρ' V' j1 j2 (J A' Z') 2681 [(0, .ref b), (1, .ref (ρ' 9 0)), (2, .ref (ρ' 10 0)), (3, .ref (ρ' 41 0)), (4, .int (nI i))] [] := by
      intro ρ' V' j1 j2 A' Z' hV' hjj hI'
      refine wa_iinc (lv' := [(4, .int (nI (i + 6))), (0, .ref b), (1, .ref (ρ' 9 0)), (2, .ref (ρ' 10 0)), (3, .ref (ρ' 41 0))]) 2684 4 hC dL_law_2681 4 rfl (show nI (i + 6) = nI i + Int32.ofInt 6 by rw [← nI_add]; rfl) (by decide) rfl rfl ?_
      refine wa_goto 23 hC dL_law_2684 rfl ?_
      refine wa_pick [1, 2, 3, 4, 0] rfl ?_
      exact ih (L - (i + 6)) (by omega) (n + 1) (i + 6) j1 j2 ρ' V' A' Z' (by omega) (by omega) (by omega) (by omega) (by omega) hI' hV'
    obtain ⟨c, hc, ec⟩ := pk_andE (xs (nI i).toNatClampNeg) (m := (63 : Int32)) 6 rfl
    obtain ⟨A', Z', hf, hI'⟩ := hstep c n L A Z xs (nI i) hn hInv hin
    have hkk : k1 + 90 ≤ 601024 ∧ k2 + 3000 ≤ 7293034 := ⟨by omega, by omega⟩
    match c, hc, ec, hf with
    | 0, _, ec, hf =>
      refine wa_tsIn 228 hC dL_law_40 (k := (0 : Int32)) ec (by decide) (by decide) rfl rfl ?_
      exact wL_case0 hC hl9 hS hVC Ext.rfl hkk (fun ρ' V' j1 j2 _ hV' hjj => fun e => by rw [e]; exact next ρ' V' j1 j2 A' Z' hV' hjj hI') hf
    | 1, _, ec, hf =>
      refine wa_tsIn 332 hC dL_law_40 (k := (1 : Int32)) ec (by decide) (by decide) rfl rfl ?_
      exact wL_case1 hC hl9 hS hVC Ext.rfl hkk (fun ρ' V' j1 j2 _ hV' hjj => fun e => by rw [e]; exact next ρ' V' j1 j2 A' Z' hV' hjj hI') hf
    | 2, _, ec, hf =>
      refine wa_tsIn 388 hC dL_law_40 (k := (2 : Int32)) ec (by decide) (by decide) rfl rfl ?_
      exact wL_case2 hC hl9 hS hVC Ext.rfl hkk (fun ρ' V' j1 j2 _ hV' hjj => fun e => by rw [e]; exact next ρ' V' j1 j2 A' Z' hV' hjj hI') hf
    | 3, _, ec, hf =>
      refine wa_tsIn 401 hC dL_law_40 (k := (3 : Int32)) ec (by decide) (by decide) rfl rfl ?_
      exact wL_case3 hC hl9 hS hVC Ext.rfl hkk (fun ρ' V' j1 j2 _ hV' hjj => fun e => by rw [e]; exact next ρ' V' j1 j2 A' Z' hV' hjj hI') hf
    | 4, _, ec, hf =>
      refine wa_tsIn 457 hC dL_law_40 (k := (4 : Int32)) ec (by decide) (by decide) rfl rfl ?_
      exact wL_case4 hC hl9 hS hVC Ext.rfl hkk (fun ρ' V' j1 j2 _ hV' hjj => fun e => by rw [e]; exact next ρ' V' j1 j2 A' Z' hV' hjj hI') hf
    | 5, _, ec, hf =>
      refine wa_tsIn 513 hC dL_law_40 (k := (5 : Int32)) ec (by decide) (by decide) rfl rfl ?_
      exact wL_case5 hC hl9 hS hVC Ext.rfl hkk (fun ρ' V' j1 j2 _ hV' hjj => fun e => by rw [e]; exact next ρ' V' j1 j2 A' Z' hV' hjj hI') hf
    | 6, _, ec, hf =>
      refine wa_tsIn 593 hC dL_law_40 (k := (6 : Int32)) ec (by decide) (by decide) rfl rfl ?_
      exact wL_case6 hC hl9 hS hVC Ext.rfl hkk (fun ρ' V' j1 j2 _ hV' hjj => fun e => by rw [e]; exact next ρ' V' j1 j2 A' Z' hV' hjj hI') hf
    | 7, _, ec, hf =>
      refine wa_tsIn 661 hC dL_law_40 (k := (7 : Int32)) ec (by decide) (by decide) rfl rfl ?_
      exact wL_case7 hC hl9 hS hVC Ext.rfl hkk (fun ρ' V' j1 j2 _ hV' hjj => fun e => by rw [e]; exact next ρ' V' j1 j2 A' Z' hV' hjj hI') hf
    | 8, _, ec, hf =>
      refine wa_tsIn 729 hC dL_law_40 (k := (8 : Int32)) ec (by decide) (by decide) rfl rfl ?_
      exact wL_case8 hC hl9 hS hVC Ext.rfl hkk (fun ρ' V' j1 j2 _ hV' hjj => fun e => by rw [e]; exact next ρ' V' j1 j2 A' Z' hV' hjj hI') hf
    | 9, _, ec, hf =>
      refine wa_tsIn 809 hC dL_law_40 (k := (9 : Int32)) ec (by decide) (by decide) rfl rfl ?_
      exact wL_case9 hC hl9 hS hVC Ext.rfl hkk (fun ρ' V' j1 j2 _ hV' hjj => fun e => by rw [e]; exact next ρ' V' j1 j2 A' Z' hV' hjj hI') hf
    | 10, _, ec, hf =>
      refine wa_tsIn 869 hC dL_law_40 (k := (10 : Int32)) ec (by decide) (by decide) rfl rfl ?_
      exact wL_case10 hC hl9 hS hVC Ext.rfl hkk (fun ρ' V' j1 j2 _ hV' hjj => fun e => by rw [e]; exact next ρ' V' j1 j2 A' Z' hV' hjj hI') hf
    | 11, _, ec, hf =>
      refine wa_tsIn 924 hC dL_law_40 (k := (11 : Int32)) ec (by decide) (by decide) rfl rfl ?_
      exact wL_case11 hC hl9 hS hVC Ext.rfl hkk (fun ρ' V' j1 j2 _ hV' hjj => fun e => by rw [e]; exact next ρ' V' j1 j2 A' Z' hV' hjj hI') hf
    | 12, _, ec, hf =>
      refine wa_tsIn 937 hC dL_law_40 (k := (12 : Int32)) ec (by decide) (by decide) rfl rfl ?_
      exact wL_case12 hC hl9 hS hVC Ext.rfl hkk (fun ρ' V' j1 j2 _ hV' hjj => fun e => by rw [e]; exact next ρ' V' j1 j2 A' Z' hV' hjj hI') hf
    | 13, _, ec, hf =>
      refine wa_tsIn 993 hC dL_law_40 (k := (13 : Int32)) ec (by decide) (by decide) rfl rfl ?_
      exact wL_case13 hC hl9 hS hVC Ext.rfl hkk (fun ρ' V' j1 j2 _ hV' hjj => fun e => by rw [e]; exact next ρ' V' j1 j2 A' Z' hV' hjj hI') hf
    | 14, _, ec, hf =>
      refine wa_tsIn 1049 hC dL_law_40 (k := (14 : Int32)) ec (by decide) (by decide) rfl rfl ?_
      exact wL_case14 hC hl9 hS hVC Ext.rfl hkk (fun ρ' V' j1 j2 _ hV' hjj => fun e => by rw [e]; exact next ρ' V' j1 j2 A' Z' hV' hjj hI') hf
    | 15, _, ec, hf =>
      refine wa_tsIn 1062 hC dL_law_40 (k := (15 : Int32)) ec (by decide) (by decide) rfl rfl ?_
      exact wL_case15 hC hl9 hS hVC Ext.rfl hkk (fun ρ' V' j1 j2 _ hV' hjj => fun e => by rw [e]; exact next ρ' V' j1 j2 A' Z' hV' hjj hI') hf
    | 16, _, ec, hf =>
      refine wa_tsIn 1118 hC dL_law_40 (k := (16 : Int32)) ec (by decide) (by decide) rfl rfl ?_
      exact wL_case16 hC hl9 hS hVC Ext.rfl hkk (fun ρ' V' j1 j2 _ hV' hjj => fun e => by rw [e]; exact next ρ' V' j1 j2 A' Z' hV' hjj hI') hf
    | 17, _, ec, hf =>
      refine wa_tsIn 1174 hC dL_law_40 (k := (17 : Int32)) ec (by decide) (by decide) rfl rfl ?_
      exact wL_case17 hC hl9 hS hVC Ext.rfl hkk (fun ρ' V' j1 j2 _ hV' hjj => fun e => by rw [e]; exact next ρ' V' j1 j2 A' Z' hV' hjj hI') hf
    | 18, _, ec, hf =>
      refine wa_tsIn 1242 hC dL_law_40 (k := (18 : Int32)) ec (by decide) (by decide) rfl rfl ?_
      exact wL_case18 hC hl9 hS hVC Ext.rfl hkk (fun ρ' V' j1 j2 _ hV' hjj => fun e => by rw [e]; exact next ρ' V' j1 j2 A' Z' hV' hjj hI') hf
    | 19, _, ec, hf =>
      refine wa_tsIn 1309 hC dL_law_40 (k := (19 : Int32)) ec (by decide) (by decide) rfl rfl ?_
      exact wL_case19 hC hl9 hS hVC Ext.rfl hkk (fun ρ' V' j1 j2 _ hV' hjj => fun e => by rw [e]; exact next ρ' V' j1 j2 A' Z' hV' hjj hI') hf
    | 20, _, ec, hf =>
      refine wa_tsIn 1352 hC dL_law_40 (k := (20 : Int32)) ec (by decide) (by decide) rfl rfl ?_
      exact wL_case20 hC hl9 hS hVC Ext.rfl hkk (fun ρ' V' j1 j2 _ hV' hjj => fun e => by rw [e]; exact next ρ' V' j1 j2 A' Z' hV' hjj hI') hf
    | 21, _, ec, hf =>
      refine wa_tsIn 1365 hC dL_law_40 (k := (21 : Int32)) ec (by decide) (by decide) rfl rfl ?_
      exact wL_case21 hC hl9 hS hVC Ext.rfl hkk (fun ρ' V' j1 j2 _ hV' hjj => fun e => by rw [e]; exact next ρ' V' j1 j2 A' Z' hV' hjj hI') hf
    | 22, _, ec, hf =>
      refine wa_tsIn 1433 hC dL_law_40 (k := (22 : Int32)) ec (by decide) (by decide) rfl rfl ?_
      exact wL_case22 hC hl9 hS hVC Ext.rfl hkk (fun ρ' V' j1 j2 _ hV' hjj => fun e => by rw [e]; exact next ρ' V' j1 j2 A' Z' hV' hjj hI') hf
    | 23, _, ec, hf =>
      refine wa_tsIn 1501 hC dL_law_40 (k := (23 : Int32)) ec (by decide) (by decide) rfl rfl ?_
      exact wL_case23 hC hl9 hS hVC Ext.rfl hkk (fun ρ' V' j1 j2 _ hV' hjj => fun e => by rw [e]; exact next ρ' V' j1 j2 A' Z' hV' hjj hI') hf
    | 24, _, ec, hf =>
      refine wa_tsIn 1556 hC dL_law_40 (k := (24 : Int32)) ec (by decide) (by decide) rfl rfl ?_
      exact wL_case24 hC hl9 hS hVC Ext.rfl hkk (fun ρ' V' j1 j2 _ hV' hjj => fun e => by rw [e]; exact next ρ' V' j1 j2 A' Z' hV' hjj hI') hf
    | 25, _, ec, hf =>
      refine wa_tsIn 1611 hC dL_law_40 (k := (25 : Int32)) ec (by decide) (by decide) rfl rfl ?_
      exact wL_case25 hC hl9 hS hVC Ext.rfl hkk (fun ρ' V' j1 j2 _ hV' hjj => fun e => by rw [e]; exact next ρ' V' j1 j2 A' Z' hV' hjj hI') hf
    | 26, _, ec, hf =>
      refine wa_tsIn 1678 hC dL_law_40 (k := (26 : Int32)) ec (by decide) (by decide) rfl rfl ?_
      exact wL_case26 hC hl9 hS hVC Ext.rfl hkk (fun ρ' V' j1 j2 _ hV' hjj => fun e => by rw [e]; exact next ρ' V' j1 j2 A' Z' hV' hjj hI') hf
    | 27, _, ec, hf =>
      refine wa_tsIn 1790 hC dL_law_40 (k := (27 : Int32)) ec (by decide) (by decide) rfl rfl ?_
      exact wL_case27 hC hl9 hS hVC Ext.rfl hkk (fun ρ' V' j1 j2 _ hV' hjj => fun e => by rw [e]; exact next ρ' V' j1 j2 A' Z' hV' hjj hI') hf
    | 28, _, ec, hf =>
      refine wa_tsIn 1845 hC dL_law_40 (k := (28 : Int32)) ec (by decide) (by decide) rfl rfl ?_
      exact wL_case28 hC hl9 hS hVC Ext.rfl hkk (fun ρ' V' j1 j2 _ hV' hjj => fun e => by rw [e]; exact next ρ' V' j1 j2 A' Z' hV' hjj hI') hf
    | 29, _, ec, hf =>
      refine wa_tsIn 1928 hC dL_law_40 (k := (29 : Int32)) ec (by decide) (by decide) rfl rfl ?_
      exact wL_case29 hC hl9 hS hVC Ext.rfl hkk (fun ρ' V' j1 j2 _ hV' hjj => fun e => by rw [e]; exact next ρ' V' j1 j2 A' Z' hV' hjj hI') hf
    | 30, _, ec, hf =>
      refine wa_tsIn 2016 hC dL_law_40 (k := (30 : Int32)) ec (by decide) (by decide) rfl rfl ?_
      exact wL_case30 hC hl9 hS hVC Ext.rfl hkk (fun ρ' V' j1 j2 _ hV' hjj => fun e => by rw [e]; exact next ρ' V' j1 j2 A' Z' hV' hjj hI') hf
    | 31, _, ec, hf =>
      refine wa_tsIn 2071 hC dL_law_40 (k := (31 : Int32)) ec (by decide) (by decide) rfl rfl ?_
      exact wL_case31 hC hl9 hS hVC Ext.rfl hkk (fun ρ' V' j1 j2 _ hV' hjj => fun e => by rw [e]; exact next ρ' V' j1 j2 A' Z' hV' hjj hI') hf
    | 32, _, ec, hf =>
      refine wa_tsIn 2138 hC dL_law_40 (k := (32 : Int32)) ec (by decide) (by decide) rfl rfl ?_
      exact wL_case32 hC hl9 hS hVC Ext.rfl hkk (fun ρ' V' j1 j2 _ hV' hjj => fun e => by rw [e]; exact next ρ' V' j1 j2 A' Z' hV' hjj hI') hf
    | 33, _, ec, hf =>
      refine wa_tsIn 2205 hC dL_law_40 (k := (33 : Int32)) ec (by decide) (by decide) rfl rfl ?_
      exact wL_case33 hC hl9 hS hVC Ext.rfl hkk (fun ρ' V' j1 j2 _ hV' hjj => fun e => by rw [e]; exact next ρ' V' j1 j2 A' Z' hV' hjj hI') hf
    | 34, _, ec, hf =>
      refine wa_tsIn 2260 hC dL_law_40 (k := (34 : Int32)) ec (by decide) (by decide) rfl rfl ?_
      exact wL_case34 hC hl9 hS hVC Ext.rfl hkk (fun ρ' V' j1 j2 _ hV' hjj => fun e => by rw [e]; exact next ρ' V' j1 j2 A' Z' hV' hjj hI') hf
    | 35, _, ec, hf =>
      refine wa_tsIn 2360 hC dL_law_40 (k := (35 : Int32)) ec (by decide) (by decide) rfl rfl ?_
      exact wL_case35 hC hl9 hS hVC Ext.rfl hkk (fun ρ' V' j1 j2 _ hV' hjj => fun e => by rw [e]; exact next ρ' V' j1 j2 A' Z' hV' hjj hI') hf
    | 36, _, ec, hf =>
      refine wa_tsIn 2374 hC dL_law_40 (k := (36 : Int32)) ec (by decide) (by decide) rfl rfl ?_
      exact wL_case36 hC hl9 hS hVC Ext.rfl hkk (fun ρ' V' j1 j2 _ hV' hjj => fun e => by rw [e]; exact next ρ' V' j1 j2 A' Z' hV' hjj hI') hf
    | 37, _, ec, hf =>
      refine wa_tsIn 2388 hC dL_law_40 (k := (37 : Int32)) ec (by decide) (by decide) rfl rfl ?_
      exact wL_case37 hC hl9 hS hVC Ext.rfl hkk (fun ρ' V' j1 j2 _ hV' hjj => fun e => by rw [e]; exact next ρ' V' j1 j2 A' Z' hV' hjj hI') hf
    | 38, _, ec, hf =>
      refine wa_tsIn 2468 hC dL_law_40 (k := (38 : Int32)) ec (by decide) (by decide) rfl rfl ?_
      exact wL_case38 hC hl9 hS hVC Ext.rfl hkk (fun ρ' V' j1 j2 _ hV' hjj => fun e => by rw [e]; exact next ρ' V' j1 j2 A' Z' hV' hjj hI') hf
    | 39, _, ec, hf =>
      refine wa_tsIn 2482 hC dL_law_40 (k := (39 : Int32)) ec (by decide) (by decide) rfl rfl ?_
      exact wL_case39 hC hl9 hS hVC Ext.rfl hkk (fun ρ' V' j1 j2 _ hV' hjj => fun e => by rw [e]; exact next ρ' V' j1 j2 A' Z' hV' hjj hI') hf
    | 40, _, ec, hf =>
      refine wa_tsIn 2525 hC dL_law_40 (k := (40 : Int32)) ec (by decide) (by decide) rfl rfl ?_
      exact wL_case40 hC hl9 hS hVC Ext.rfl hkk (fun ρ' V' j1 j2 _ hV' hjj => fun e => by rw [e]; exact next ρ' V' j1 j2 A' Z' hV' hjj hI') hf
    | 41, _, ec, hf =>
      refine wa_tsIn 2581 hC dL_law_40 (k := (41 : Int32)) ec (by decide) (by decide) rfl rfl ?_
      exact wL_case41 hC hl9 hS hVC Ext.rfl hkk (fun ρ' V' j1 j2 _ hV' hjj => fun e => by rw [e]; exact next ρ' V' j1 j2 A' Z' hV' hjj hI') hf
    | 42, _, ec, hf =>
      refine wa_tsIn 2637 hC dL_law_40 (k := (42 : Int32)) ec (by decide) (by decide) rfl rfl ?_
      exact wL_case42 hC hl9 hS hVC Ext.rfl hkk (fun ρ' V' j1 j2 _ hV' hjj => fun e => by rw [e]; exact next ρ' V' j1 j2 A' Z' hV' hjj hI') hf
    | c + 43, hc, ec, hf =>
      have e9 : some (A, Z) = some (A', Z') := hf
      have h1 : A = A' := sm1 e9
      have h2 : Z = Z' := sm2 e9
      subst h1
      subst h2
      refine wa_tsOut 2681 hC dL_law_40 (by rw [ec, nI_toInt (by omega)]; omega) rfl ?_
      exact next ρ V k1 k2 A Z hVC ⟨by omega, by omega⟩ hI'
