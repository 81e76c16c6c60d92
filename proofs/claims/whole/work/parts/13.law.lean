/-! The law's own methods: rows. -/
abbrev QcW (G : gU) (ρ : Nat → Nat → Nat) (V : Nat → Nat → Prop) (w : Int32) (M' : sM) : Array Value → State → Outcome → State → Prop := fun _ _ oc t => oc = .returned (some (.int w)) ∧ RPX G ρ V M' t.heap
/-- a method of the law that asks the class and catches what it throws -/
def MW (l : Launch) (y : MethodName) (cc : ByteArray) (maxL : Nat) (hh : List (Nat × Nat × Nat × Nat)) (d mc ms : Nat) (G : gU) (ρ : Nat → Nat → Nat) (V : Nat → Nat → Prop) (av : List Value) (M : sM) (w : Int32) (M' : sM) : Prop :=
  vx_Met l y (.codeWith y cc maxL (some .int) hh :: ALLW) (rmD d mc ms) (PcT G ρ V av M) (QcW G ρ V w M') (fun _ _ _ => False) mc ms (gA G)
def QXW (E : eU) (G : gU) (ρ : Nat → Nat → Nat) (V : Nat → Nat → Prop) (w : Int32) (M' : sM) (mc ms : Nat) : Prop := eQ E = vx_MQ (eF E) (QcW G ρ V w M') (fun _ _ _ => False) (eA E) (eS E) mc ms (gA G)
theorem vx_enterW {l : Launch} {y : MethodName} {cc : ByteArray} {maxL : Nat} {hh : List (Nat × Nat × Nat × Nat)} {d mc ms : Nat} {G : gU} {ρ : Nat → Nat → Nat} {V : Nat → Nat → Prop} {av : List Value} {lv : List (Nat × Value)} {M M' : sM} {w : Int32} (own : String) (ho : y.cls = own) (hy : plainName y.cls = true) (hlen : (lg_sl av).length ≤ maxL) (hlv : lv_args 0 av = lv)
    (body : ∀ E : eU, E.2.1 = l → CX E G cc maxL own (some .int) d mc ms → QXW E G ρ V w M' mc ms → (eC E).exceptionTable.toList = tableOf hh → VC V → WA E G ρ V 0 0 M 0 lv []) :
    MW l y cc maxL hh d mc ms G ρ V av M w M' := by
  subst hlv
  refine vx_ofWH (cc := cc) (maxL := maxL) (ret := some .int) (hh := hh) hy rfl ?_
  intro p e s m args below meth c s₁ Bd hml hv
  obtain ⟨rfl, hR, hK⟩ := hv
  have hts := atoms_spec (ws := .codeWith y cc maxL (some .int) hh :: ALLW) Bd.pre
  have hl := lv_entry av (n := c.maxLocals) (by rw [hml]; exact hlen)
  have htab := vx_table (x := y) Bd (hts _ List.mem_cons_self)
  have h := body (p, l, e, rmD d mc ms, s, m, av.toArray, below, meth, c, vx_MQ below (QcW G ρ V w M') (fun _ _ _ => False) av.toArray s mc ms (gA G)) rfl ⟨Bd.exec, Bd.bytes, hml, by rw [← ho]; exact findClass_of_methodNamed Bd.named, fun w hw => hts w (List.mem_cons_of_mem _ hw), hK, Bd.returns, Bd.notSynchronized, RG.rf, hR.2.2.1⟩ rfl htab hR.vc s.heap [] _ hR (fun _ h => by cases h) hl
  rw [lg_entry_eq, ← hml]
  exact h
theorem xc_some {α β : Type} {c : Option ((Nat ⊕ β) × sM)} {t : Nat → sM → Option α} {k : β → sM → Option α} {r : α} (h : xc c t k = some r) : (∃ v A, c = some (.inr v, A) ∧ k v A = some r) ∨ ∃ e A, c = some (.inl e, A) ∧ t e A = some r := by
  match c, h with
  | some (.inl e, A), h => exact Or.inr ⟨e, A, rfl, h⟩
  | some (.inr v, A), h => exact Or.inl ⟨v, A, rfl, h⟩
section VLW
variable {E : eU} {G : gU} {ρ ρ0 : Nat → Nat → Nat} {V V0 : Nat → Nat → Prop} {k1 k2 : Nat} {M M' : sM} {pc nL d mc ms : Nat} {lv lv' : List (Nat × Value)} {st st' : List Value} {cc : ByteArray} {own : String} {ret : Option FieldType}
theorem wl_iret {v w : Int32} (hC : CX E G cc nL own (some .int) d mc ms) (hQ : QXW E G ρ0 V0 w M' mc ms) (hE : Ext ρ0 V0 ρ V) (hv : v = w) (hM : M = M') (hk : k1 ≤ mc ∧ k2 ≤ ms) (hdg : decode cc pc = .ok (.ireturn, 1)) : WA E G ρ V k1 k2 M pc lv [.int v] := by
  subst hM
  subst hv
  intro H locs ls hR hO hl
  show W _ _ _ _ _ _ _ _ _ _ _ _ _ _ (eQ E) _
  rw [hQ]
  refine vx_ret (W.widen hk.1 hk.2 ?_)
  exact W.iret hC.1 hC.2.1 hC.2.2.2.2.2.2.1 (fun t ht _ => ⟨rfl, ρ, V, hE, by rw [ht]; exact hR⟩) hO hdg hC.2.2.2.2.2.2.2.1
theorem wl_call (q : Nat) (hC : CX E G cc nL own ret d mc ms) {y : MethodName} {bytes : ByteArray} {maxL d' n index kc o mk1 mk2 : Nat} {ret' : Option FieldType} {rv : Option Value} (As : List Value) (st : List Value) (hN : KN y bytes maxL ret' n) (hL : Cond.methodLink own index y ∈ ALLW ∧ Cond.instanceMethod y ∈ ALLW ∧ Cond.selects y.cls y y ∈ ALLW) (hM9 : MX E.2.1 y bytes maxL ret' d' mk1 mk2 G ρ V (.ref (ρ kc o) :: As) M (.inr rv) M') (hV : V kc o) (hc : KC kc y.cls)
    (hd : d' + 1 ≤ d) (hlo : 8 + (maxL + 11) + 64 * d' ≤ 64 * d) (hn : As.length = n) (hst : (st.map fun v => v.category).sum ≤ 8) (hdg : decode cc pc = .ok (.invokevirtual index, 3)) (hq : pc + 3 = q) (hk : k1 + mk1 ≤ mc ∧ k2 + mk2 ≤ ms) (hs : As.reverse ++ .ref (ρ kc o) :: st = st') {st2 : List Value} (hs2 : rv.toList ++ st = st2)
    (kk : ∀ ρ' V', Ext ρ V ρ' V' → VC V' → WA E G ρ' V' (k1 + mk1) (k2 + mk2) M' q lv st2) : WA E G ρ V k1 k2 M pc lv st' := by
  subst hq
  subst hs
  subst hs2
  intro H locs ls hR hO hl T hT X
  obtain ⟨hx, hb, hml, hown, hts, hK, hr, hlk, hRm, hs0⟩ := hC
  obtain ⟨⟨T9, N9, hc⟩, hce⟩ := hc
  obtain ⟨fs, he⟩ := hce (gC G) ρ o (fun k j => M.1 kc k o j) (fun k j => M.2 kc k o j)
  obtain ⟨hlink, hinst, hsel⟩ := hL
  · have hfr : (rmD d' mk1 mk2).frames + 1 ≤ (eR E).frames ∧ 8 + (maxL + 11) + (rmD d' mk1 mk2).locals ≤ (eR E).locals := ⟨Nat.le_trans hd hRm.1, Nat.le_trans hlo hRm.2.1⟩
    rcases vx_runV (Ts := ALLW) (C := y.cls) (n := n) (rest := st) (g := F0 (eM E) pc ls (As.reverse ++ .ref (ρ kc o) :: st)) (cells := k1) (slots := k2) ⟨hx, hb, rfl, hown, hts⟩ hM9 ⟨callB_of n hts hN.good rfl rfl rfl (hts _ hN.2.1) (hts _ hlink) hN.2.2 hfr, hts _ hinst, hts _ hsel⟩ ⟨PcT_blind G ρ V _ M, hR.recv hK hV he hc, fun U hU hW => ⟨rfl, by rw [hU]; exact hR, hK.warm hW⟩⟩ rfl hn hl.1 rfl (lv_room hst) hdg ⟨Nat.le_trans hk.1 hRm.2.2.1, Nat.le_trans hk.2 hRm.2.2.2⟩ T hT X with ⟨v, st₀, t, T', L, h0, X', hL9, e1, e2, ⟨rv9, hv9, hv, ρ', V', hE, hR1⟩, stp⟩ | ⟨q, st₀, t, T', L, E9, ce9, h0, X', hL9, e1, e2, ⟨n9, hv9, -⟩, -⟩
    · cases hv9
      cases hv
      obtain ⟨t2, a1, b1⟩ := kk ρ' V' hE hR1.vc T'.heap (locs ++ L) ls (by rw [e1]; exact hR1) (fun q h => (List.mem_append.mp h).elim (hO q) (hL9 q)) hl T' rfl X'
      exact ⟨t2, stp t2 a1, b1⟩
    · cases hv9
theorem wl_catch {e9 : Nat} (hC : CX E G cc nL own ret d mc ms) {y : MethodName} {bytes : ByteArray} {maxL d' n index kc o mk1 mk2 : Nat} {ret' : Option FieldType} (As : List Value) (st : List Value) (hN : KN y bytes maxL ret' n) (hL : Cond.methodLink own index y ∈ ALLW ∧ Cond.instanceMethod y ∈ ALLW ∧ Cond.selects y.cls y y ∈ ALLW) (hM9 : MX E.2.1 y bytes maxL ret' d' mk1 mk2 G ρ V (.ref (ρ kc o) :: As) M (.inl e9) M') (hV : V kc o) (hc : KC kc y.cls)
    (hd : d' + 1 ≤ d) (hlo : 8 + (maxL + 11) + 64 * d' ≤ 64 * d) (hn : As.length = n) (hst : (st.map fun v => v.category).sum ≤ 8) (hdg : decode cc pc = .ok (.invokevirtual index, 3)) (hk : k1 + mk1 ≤ mc ∧ k2 + mk2 ≤ ms) (hs : As.reverse ++ .ref (ρ kc o) :: st = st')
    {tab : List ExceptionTableEntry} (htab : (eC E).exceptionTable.toList = tab) (pre : List ExceptionTableEntry) (x : ExceptionTableEntry) (suf : List ExceptionTableEntry) (hsplit : tab = pre ++ x :: suf) (hpass : ∀ z ∈ pre, z.catchType ≠ 0 ∧ ∃ nm : String, Cond.classLink own z.catchType nm ∈ ALLW ∧ (XN e9, nm) ∈ NCL) (hx9 : covers x pc = true) (h09 : x.catchType ≠ 0) (hl9 : Cond.classLink own x.catchType (XN e9) ∈ ALLW) (hcast : Cond.castable (XN e9) (XN e9) ∈ NW)
    (kk : ∀ ρ' V' (q9 : Nat), Ext ρ V ρ' V' → VC V' → WA E G ρ' V' (k1 + mk1) (k2 + mk2) M' x.handlerPc lv [.ref q9]) : WA E G ρ V k1 k2 M pc lv st' := by
  subst hs
  intro H locs ls hR hO hl T hT X
  obtain ⟨hx, hb, hml, hown, hts, hK, hr, hlk, hRm, hs0⟩ := hC
  obtain ⟨⟨T9, N9, hc⟩, hce⟩ := hc
  obtain ⟨fs, he⟩ := hce (gC G) ρ o (fun k j => M.1 kc k o j) (fun k j => M.2 kc k o j)
  obtain ⟨hlink, hinst, hsel⟩ := hL
  · have hfr : (rmD d' mk1 mk2).frames + 1 ≤ (eR E).frames ∧ 8 + (maxL + 11) + (rmD d' mk1 mk2).locals ≤ (eR E).locals := ⟨Nat.le_trans hd hRm.1, Nat.le_trans hlo hRm.2.1⟩
    rcases vx_runV (Ts := ALLW) (C := y.cls) (n := n) (rest := st) (g := F0 (eM E) pc ls (As.reverse ++ .ref (ρ kc o) :: st)) (cells := k1) (slots := k2) ⟨hx, hb, rfl, hown, hts⟩ hM9 ⟨callB_of n hts hN.good rfl rfl rfl (hts _ hN.2.1) (hts _ hlink) hN.2.2 hfr, hts _ hinst, hts _ hsel⟩ ⟨PcT_blind G ρ V _ M, hR.recv hK hV he hc, fun U hU hW => ⟨rfl, by rw [hU]; exact hR, hK.warm hW⟩⟩ rfl hn hl.1 rfl (lv_room hst) hdg ⟨Nat.le_trans hk.1 hRm.2.2.1, Nat.le_trans hk.2 hRm.2.2.2⟩ T hT X with ⟨v, st₀, t, T', L, h0, X', hL9, e1, e2, ⟨rv9, hv9, -⟩, -⟩ | ⟨q, st₀, t, T', L, E9, ce9, h0, X', hL9, e1, e2, ⟨n9, hv9, hE9, ρ', V', hE, hR1⟩, hce9, hcv, hcl, stp⟩
    · cases hv9
    · cases hv9
      subst hE9
      rw [← e1] at hR1 hce9
      have key : vx_W E.1 E.2.1 E.2.2.1 (eR E) (eS E) (eM E) (eA E) (eF E) (eT E) (eC E) T'.heap (locs ++ L) (k1 + mk1) (k2 + mk2) (eQ E) (F0 (eM E) pc ls st) q := by
        refine vx_catch (name := XN e9) hown pre x suf (htab.trans hsplit) (fun z hz => ?_) hx9 h09 (hts _ hl9) (va_Nw.use rfl (hK.2.1 _ hcast)) hce9 hcv hcl ?_
        · obtain ⟨z1, nm, z2, z3⟩ := hpass z hz
          exact Or.inr ⟨z1, nm, hts _ z2, hK.2.2.2.2.2.2.2.2.1 _ z3⟩
        · exact kk ρ' V' q hE hR1.vc T'.heap (locs ++ L) ls hR1 (fun q h => (List.mem_append.mp h).elim (hO q) (hL9 q)) hl
      obtain ⟨t2, a1, b1⟩ := key T' rfl X'
      exact ⟨t2, stp.trans a1, b1⟩
/-- the law asks a wrapper -/
theorem wl_wrap (q : Nat) (hC : CX E G cc nL own ret d mc ms) {y : MethodName} {bytes : ByteArray} {maxL d' n index mk1 mk2 : Nat} {hh : List (Nat × Nat × Nat × Nat)} {w : Int32} (As : List Value) (st : List Value) (hN : Cond.codeWith y bytes maxL (some .int) hh ∈ ALLW ∧ Cond.initialized y.cls ∈ ALLW ∧ (y.cls ≠ "java/lang/invoke/MethodHandle" ∧ y.cls ≠ "java/lang/invoke/VarHandle" ∧ (parseMethodDescriptor y.desc).map (fun d => d.parameters.length) = some n) ∧ Cond.methodLink own index y ∈ ALLW ∧ Cond.static y ∈ ALLW) (hM9 : MW E.2.1 y bytes maxL hh d' mk1 mk2 G ρ V As M w M')
    (hd : d' + 1 ≤ d) (hlo : 8 + (maxL + 11) + 64 * d' ≤ 64 * d) (hn : As.length = n) (hst : (st.map fun v => v.category).sum ≤ 8) (hdg : decode cc pc = .ok (.invokestatic index, 3)) (hq : pc + 3 = q) (hk : k1 + mk1 ≤ mc ∧ k2 + mk2 ≤ ms) (hs : As.reverse ++ st = st')
    (kk : ∀ ρ' V', Ext ρ V ρ' V' → VC V' → WA E G ρ' V' (k1 + mk1) (k2 + mk2) M' q lv (.int w :: st)) : WA E G ρ V k1 k2 M pc lv st' := by
  subst hq
  subst hs
  intro H locs ls hR hO hl T hT X
  obtain ⟨hx, hb, hml, hown, hts, hK, hr, hlk, hRm, hs0⟩ := hC
  obtain ⟨w1, w2, w3, w4, w5⟩ := hN
  have hfr : (rmD d' mk1 mk2).frames + 1 ≤ (eR E).frames ∧ 8 + (maxL + 11) + (rmD d' mk1 mk2).locals ≤ (eR E).locals := ⟨Nat.le_trans hd hRm.1, Nat.le_trans hlo hRm.2.1⟩
  have hgood : GoodIn ALLW (.codeWith y bytes maxL (some .int) hh :: ALLW) := ALLW_good _ (fun w hw => by
    rcases List.mem_cons.mp hw with e | e
    · rw [e]; exact w1
    · exact e)
  have hcw : vx_CSW (eR E) (eS E) (eA E) own index y bytes maxL (some .int) hh (.codeWith y bytes maxL (some .int) hh :: ALLW) (rmD d' mk1 mk2) mk1 mk2 n :=
    ⟨⟨rfl, rfl, hfr.1, hfr.2, pay_in hts hgood, List.mem_cons_self⟩, hts _ w1, hts _ w2, ⟨w3.1, w3.2.1⟩, fun sig h => by have h2 := w3.2.2; rw [h] at h2; exact (Option.some.inj h2).symm, hts _ w4, hts _ w5⟩
  rcases vx_runSX (Ts := ALLW) (n := n) (rest := st) (g := F0 (eM E) pc ls (As.reverse ++ st)) (cells := k1) (slots := k2) ⟨hx, hb, rfl, hown, hts⟩ hM9 hcw ⟨PcT_blind G ρ V _ M, fun U hU hW => ⟨rfl, by rw [hU]; exact hR, hK.warm hW⟩⟩ rfl hn hl.1 rfl (lv_room hst) hdg ⟨Nat.le_trans hk.1 hRm.2.2.1, Nat.le_trans hk.2 hRm.2.2.2⟩ T hT X with ⟨v, st₀, t, T', L, h0, X', hL9, e1, e2, ⟨hv, ρ', V', hE, hR1⟩, stp⟩ | ⟨q, st₀, t, T', L, E9, ce9, h0, X', hL9, e1, e2, hf, -⟩
  · cases hv
    obtain ⟨t2, a1, b1⟩ := kk ρ' V' hE hR1.vc T'.heap (locs ++ L) ls (by rw [e1]; exact hR1) (fun q h => (List.mem_append.mp h).elim (hO q) (hL9 q)) hl T' rfl X'
    exact ⟨t2, stp t2 a1, b1⟩
  · exact hf.elim
end VLW
section VLS
variable {E : eU} {G : gU} {ρ : Nat → Nat → Nat} {V : Nat → Nat → Prop} {k1 k2 : Nat} {M : sM} {pc nL d mc ms : Nat} {lv : List (Nat × Value)} {st : List Value} {cc : ByteArray} {own : String} {ret : Option FieldType}
/-- the script, below all that comes -/
def SC (E : eU) (G : gU) (b L : Nat) (xs : Nat → Int32) : Prop := va_X b L xs (eS E) (gH G) ∧ b < gB G
theorem wl_sld (q : Nat) (hC : CX E G cc nL own ret d mc ms) {b L : Nat} {xs : Nat → Int32} {i : Int32} (hS : SC E G b L xs) (hi : inb i L = true) (hdg : decode cc pc = .ok (.iaload, 1)) (hq : pc + 1 = q) (kk : WA E G ρ V k1 k2 M q lv (.int (xs i.toNatClampNeg) :: st)) : WA E G ρ V k1 k2 M pc lv (.int i :: .ref b :: st) := by
  subst hq
  intro H locs ls hR hO hl
  have hX := hS.1.kept (hR.2.2.1.2 b hS.2)
  obtain ⟨scr, h1, h2, h3, h4, h5⟩ := hX
  have hv := inb_in hi
  have hlt := inb_lt hi
  exact W.iald (v := .int (xs i.toNatClampNeg)) hC.1 hC.2.1 h1 h2 h3 (by rw [h4]; exact hv) (h5 _ hlt) rfl rfl hdg (kk H locs ls hR hO hl)
theorem wl_slen (q : Nat) (hC : CX E G cc nL own ret d mc ms) {b L : Nat} {xs : Nat → Int32} (hS : SC E G b L xs) (hdg : decode cc pc = .ok (.arraylength, 1)) (hq : pc + 1 = q) (kk : WA E G ρ V k1 k2 M q lv (.int (nI L) :: st)) : WA E G ρ V k1 k2 M pc lv (.ref b :: st) := by
  subst hq
  intro H locs ls hR hO hl
  have hX := hS.1.kept (hR.2.2.1.2 b hS.2)
  obtain ⟨scr, h1, h2, h3, h4, h5⟩ := hX
  exact W.alen (n := nI L) hC.1 hC.2.1 h1 h2 (by rw [h4]; rfl) rfl rfl hdg (kk H locs ls hR hO hl)
end VLS
