/-! Contracts of methods over the world, returns and calls. -/
abbrev PcT (G : gU) (ρ : Nat → Nat → Nat) (V : Nat → Nat → Prop) (av : List Value) (M : sM) : Array Value → State → Prop := va_Pc av (fun U => RP G ρ V M U.heap ∧ KK G U)
abbrev QcT (G : gU) (ρ : Nat → Nat → Nat) (V : Nat → Nat → Prop) (rv : Option Value) (M' : sM) : Array Value → State → Outcome → State → Prop := fun _ _ oc t => oc = .returned rv ∧ RP G ρ V M' t.heap
/-- the method y, called with av over the memory M, returns rv, the memory is M' then; no object comes -/
def MT (l : Launch) (y : MethodName) (cc : ByteArray) (maxL : Nat) (ret : Option FieldType) (d : Nat) (G : gU) (ρ : Nat → Nat → Nat) (V : Nat → Nat → Prop) (av : List Value) (M : sM) (rv : Option Value) (M' : sM) : Prop :=
  Met l y (.code y cc maxL ret :: ALLW) (rmD d 0 0) (PcT G ρ V av M) (QcT G ρ V rv M') 0 0 (gA G)
/-- what is owed at such a method's end -/
def QX (E : eU) (G : gU) (ρ : Nat → Nat → Nat) (V : Nat → Nat → Prop) (rv : Option Value) (M' : sM) : Prop := eQ E = MQ (eF E) (QcT G ρ V rv M') (eA E) (eS E) 0 0 (gA G)
theorem vv_enter {l : Launch} {y : MethodName} {cc : ByteArray} {maxL : Nat} {ret : Option FieldType} {d : Nat} {G : gU} {ρ : Nat → Nat → Nat} {V : Nat → Nat → Prop} {av : List Value} {lv : List (Nat × Value)} {M M' : sM} {rv : Option Value} (own : String) (ho : y.cls = own) (hy : plainName y.cls = true) (hlen : (lg_sl av).length ≤ maxL) (hlv : lv_args 0 av = lv)
    (body : ∀ E : eU, E.2.1 = l → CX E G cc maxL own ret d 0 0 → QX E G ρ V rv M' → VC V → WA E G ρ V 0 0 M 0 lv []) :
    MT l y cc maxL ret d G ρ V av M rv M' := by
  subst hlv
  refine Met.ofW (cc := cc) (maxL := maxL) (ret := ret) hy rfl ?_
  intro p e s m args below meth c s₁ Bd hml hv
  obtain ⟨rfl, hR, hK⟩ := hv
  have hts := atoms_spec (ws := .code y cc maxL ret :: ALLW) Bd.pre
  have hl := lv_entry av (n := c.maxLocals) (by rw [hml]; exact hlen)
  have h := body (p, l, e, rmD d 0 0, s, m, av.toArray, below, meth, c, MQ below (QcT G ρ V rv M') av.toArray s 0 0 (gA G)) rfl ⟨Bd.exec, Bd.bytes, hml, by rw [← ho]; exact findClass_of_methodNamed Bd.named, fun w hw => hts w (List.mem_cons_of_mem _ hw), hK, Bd.returns, Bd.notSynchronized, RG.rf, hR.2.2.1⟩ rfl hR.vc s.heap [] _ hR (fun _ h => by cases h) hl
  rw [lg_entry_eq, ← hml]
  exact h
theorem sm0 {α : Type} {a b : α} (h : some a = some b) : a = b := Option.some.inj h
theorem sm1 {α β : Type} {a c : α} {b d : β} (h : some (a, b) = some (c, d)) : a = c := (Prod.mk.inj (Option.some.inj h)).1
theorem sm2 {α β : Type} {a c : α} {b d : β} (h : some (a, b) = some (c, d)) : b = d := (Prod.mk.inj (Option.some.inj h)).2
theorem jA {A A1 Z : sM} (h : A = A1) : J A Z = J A1 Z := congrArg (fun a => J a Z) h
theorem jZ {A Z Z1 : sM} (h : Z = Z1) : J A Z = J A Z1 := congrArg (fun a => J A a) h
theorem isZ_n {v : Int32} (h : isZ v = true) : narrow .boolean (.int v) = .int v := by
  rcases of_decide_eq_true h with h | h <;> subst h <;> rfl
section VVD
variable {E : eU} {G : gU} {ρ : Nat → Nat → Nat} {V : Nat → Nat → Prop} {k1 k2 : Nat} {M M' : sM} {pc nL d mc ms : Nat} {lv lv' : List (Nat × Value)} {st st' : List Value} {cc : ByteArray} {own : String} {ret : Option FieldType}

theorem wa_iret {v r : Int32} (hC : CX E G cc nL own (some .int) d mc ms) (hQ : QX E G ρ V (some (.int r)) M') (hv : v = r) (hM : M = M') (hdg : decode cc pc = .ok (.ireturn, 1)) : WA E G ρ V 0 0 M pc lv [.int v] := by
  subst hv
  subst hM
  intro H locs ls hR hO hl
  show W _ _ _ _ _ _ _ _ _ _ _ _ _ _ (eQ E) _
  rw [hQ]
  exact W.iret hC.1 hC.2.1 hC.2.2.2.2.2.2.1 (fun t ht _ => ⟨rfl, by rw [ht]; exact hR⟩) hO hdg hC.2.2.2.2.2.2.2.1
theorem wa_zret {v r : Int32} (hC : CX E G cc nL own (some .boolean) d mc ms) (hQ : QX E G ρ V (some (.int r)) M') (hv : v = r) (hM : M = M') (hn : narrow .boolean (.int v) = .int v) (hdg : decode cc pc = .ok (.ireturn, 1)) : WA E G ρ V 0 0 M pc lv [.int v] := by
  subst hv
  subst hM
  intro H locs ls hR hO hl
  show W _ _ _ _ _ _ _ _ _ _ _ _ _ _ (eQ E) _
  rw [hQ]
  exact W.zret hC.1 hC.2.1 hC.2.2.2.2.2.2.1 hn (fun t ht _ => ⟨rfl, by rw [ht]; exact hR⟩) hO hdg hC.2.2.2.2.2.2.2.1
theorem wa_lret {v r : Int64} (hC : CX E G cc nL own (some .long) d mc ms) (hQ : QX E G ρ V (some (.long r)) M') (hv : v = r) (hM : M = M') (hdg : decode cc pc = .ok (.lreturn, 1)) : WA E G ρ V 0 0 M pc lv [.long v] := by
  subst hv
  subst hM
  intro H locs ls hR hO hl
  show W _ _ _ _ _ _ _ _ _ _ _ _ _ _ (eQ E) _
  rw [hQ]
  exact W.lret hC.1 hC.2.1 hC.2.2.2.2.2.2.1 (fun t ht _ => ⟨rfl, by rw [ht]; exact hR⟩) hO hdg hC.2.2.2.2.2.2.2.1
theorem wa_vret (hC : CX E G cc nL own none d mc ms) (hQ : QX E G ρ V none M') (hM : M = M') (hdg : decode cc pc = .ok (.return_, 1)) : WA E G ρ V 0 0 M pc lv [] := by
  subst hM
  intro H locs ls hR hO hl
  show W _ _ _ _ _ _ _ _ _ _ _ _ _ _ (eQ E) _
  rw [hQ]
  exact W.vret hC.1 hC.2.1 hC.2.2.2.2.2.2.1 (fun t ht _ => ⟨rfl, by rw [ht]; exact hR⟩) hO hdg hC.2.2.2.2.2.2.2.1
theorem vv_ofRun {H : Heap} {locs : List Loc} {ls : Array Slot} {rv : Option Value} {st0 rest : List Value} {a : Array Value} (hO : LO G locs) (hr : va_Run E.1 E.2.1 E.2.2.1 (eR E) (eS E) (eM E) (eA E) (eF E) (eT E) (eC E) H locs k1 k2 0 0 (F0 (eM E) pc ls st0) rest (QcT G ρ V rv M' a) (gA G))
    (kk : ∀ (H1 : Heap) (locs1 : List Loc), RP G ρ V M' H1 → LO G locs1 → WE E H1 locs1 k1 k2 (F0 (eM E) (pc + 3) ls (rv.toList ++ rest))) : WE E H locs k1 k2 (F0 (eM E) pc ls st0) := by
  intro T hT X
  obtain ⟨v, st₀, t, T', L, h0, X', hL, e1, e2, ⟨hv, hq⟩, st⟩ := hr T hT X
  cases hv
  obtain ⟨t2, a1, b1⟩ := kk T'.heap (locs ++ L) (by rw [e1]; exact hq) (fun q h => (List.mem_append.mp h).elim (hO q) (hL q)) T' rfl X'
  exact ⟨t2, st t2 a1, b1⟩
theorem PcT_blind (G : gU) (ρ : Nat → Nat → Nat) (V : Nat → Nat → Prop) (av : List Value) (M : sM) : FrameBlind (PcT G ρ V av M) := by
  intro a U g mk h
  obtain ⟨h1, h2, h3⟩ := h
  exact ⟨h1, h2, KK.same (u := U) (U := U.calling g mk a) rfl (Vm.Alike.refl U.vm) h3⟩
theorem RP.recv {H : Heap} {s : State} (hR : RP G ρ V M H) (hK : KK G s) {kc o N : Nat} {C : String} {T : u_T} {fs : List Value} (hV : V kc o) (he : ce (gC G) ρ M kc o = .inr (kc, fs)) (hc : vwCl[kc]? = some (C, T, N)) : ∃ cell : Cell, H[ρ kc o]? = some cell ∧ cell.vm.isStatics = false ∧ s.vm.findClass C = some cell.cls := by
  obtain ⟨r, h1, cell, q1, q2, q3, q4⟩ := hR.P hV he 0 _ rfl
  have hr : r = (C, T, N) := Option.some.inj (h1.symm.trans hc)
  subst hr
  exact ⟨cell, q1, by rw [q3]; rfl, by rw [q2]; exact (hK.1.1 kc _ hc).2.1⟩
/-- what a caller must know of a callee, whatever the call: by program, once a callee -/
def KN (y : MethodName) (cc : ByteArray) (maxL : Nat) (ret : Option FieldType) (n : Nat) : Prop :=
  Cond.code y cc maxL ret ∈ ALLW ∧ Cond.initialized y.cls ∈ ALLW ∧ (y.cls ≠ "java/lang/invoke/MethodHandle" ∧ y.cls ≠ "java/lang/invoke/VarHandle" ∧ (parseMethodDescriptor y.desc).map (fun d => d.parameters.length) = some n)
theorem KN.good {y : MethodName} {cc : ByteArray} {maxL : Nat} {ret : Option FieldType} {n : Nat} (h : KN y cc maxL ret n) : GoodIn ALLW (.code y cc maxL ret :: ALLW) := ALLW_good _ (fun w hw => by
  rcases List.mem_cons.mp hw with e | e
  · rw [e]; exact h.1
  · exact e)
/-- .. of an instance method that is called by an entry of own's pool; of a static one -/
def MV (own : String) (index : Nat) (y : MethodName) : Prop := (Cond.methodLink own index y ∈ ALLW ∨ ∃ host, Cond.methodLinkNest own index y host ∈ NW) ∧ Cond.instanceMethod y ∈ ALLW ∧ Cond.selects y.cls y y ∈ ALLW
def MS (own : String) (index : Nat) (y : MethodName) : Prop := (Cond.methodLink own index y ∈ ALLW ∨ ∃ host, Cond.methodLinkNest own index y host ∈ NW) ∧ Cond.static y ∈ ALLW
/-- a class of the world by its kind -/
def KC (kc : Nat) (C : String) : Prop := (∃ T N, vwCl[kc]? = some (C, T, N)) ∧ ∀ (cy : Nat → ClassId) (ρ : Nat → Nat → Nat) (o : Nat) (I : Nat → Nat → Int32) (L : Nat → Nat → Int64), ∃ fs, ce0 cy ρ kc o I L = .inr (kc, fs)
theorem wa_callVv (q : Nat) (hC : CX E G cc nL own ret d mc ms) {y : MethodName} {bytes : ByteArray} {maxL d' n index kc o : Nat} {ret' : Option FieldType} (As : List Value) (st : List Value) (hN : KN y bytes maxL ret' n) (hL : MV own index y) (hM : MT E.2.1 y bytes maxL ret' d' G ρ V (.ref (ρ kc o) :: As) M none M') (hV : V kc o) (hc : KC kc y.cls)
    (hd : d' + 1 ≤ d) (hlo : 8 + (maxL + 11) + 64 * d' ≤ 64 * d) (hn : As.length = n) (hst : (st.map fun v => v.category).sum ≤ 8) (hdg : decode cc pc = .ok (.invokevirtual index, 3)) (hq : pc + 3 = q) (hf : k1 ≤ mc ∧ k2 ≤ ms) (hs : As.reverse ++ .ref (ρ kc o) :: st = st')
    (kk : WA E G ρ V k1 k2 M' q lv st) : WA E G ρ V k1 k2 M pc lv st' := by
  subst hq
  subst hs
  intro H locs ls hR hO hl
  obtain ⟨hx, hb, hml, hown, hts, hK, hr, hlk, hRm, -⟩ := hC
  obtain ⟨⟨T, N, hc⟩, hce⟩ := hc
  obtain ⟨fs, he⟩ := hce (gC G) ρ o (fun k j => M.1 kc k o j) (fun k j => M.2 kc k o j)
  have hfr : (rmD d' 0 0).frames + 1 ≤ (eR E).frames ∧ 8 + (maxL + 11) + (rmD d' 0 0).locals ≤ (eR E).locals := ⟨Nat.le_trans hd hRm.1, Nat.le_trans hlo hRm.2.1⟩
  have hf2 : k1 + 0 ≤ (eR E).cells ∧ k2 + 0 ≤ (eR E).slots := ⟨Nat.le_trans hf.1 hRm.2.2.1, Nat.le_trans hf.2 hRm.2.2.2⟩
  rcases hL with ⟨hlink | ⟨host, hlink⟩, hinst, hsel⟩
  · exact vv_ofRun (ρ := ρ) (V := V) hO (va_runV (Ts := ALLW) (C := y.cls) (n := n) ⟨hx, hb, rfl, hown, hts⟩ hM ⟨callB_of n hts hN.good rfl rfl rfl (hts _ hN.2.1) (hts _ hlink) hN.2.2 hfr, hts _ hinst, hts _ hsel⟩ ⟨PcT_blind G ρ V _ M, hR.recv hK hV he hc, fun U hU hW => ⟨rfl, by rw [hU]; exact hR, hK.warm hW⟩⟩ rfl hn hl.1 rfl (lv_room hst) hdg hf2) (fun H1 locs1 a1 a2 => kk H1 locs1 ls a1 a2 hl)
  · exact vv_ofRun (ρ := ρ) (V := V) hO (va_runVN (Ts := ALLW) (C := y.cls) (n := n) ⟨hx, hb, rfl, hown, hts⟩ hM ⟨va_cnB n hts hN.good rfl rfl rfl (hK.2.1 _ hlink) (hts _ hN.2.1) hN.2.2 hfr, hts _ hinst, hts _ hsel⟩ ⟨PcT_blind G ρ V _ M, hR.recv hK hV he hc, fun U hU hW => ⟨rfl, by rw [hU]; exact hR, hK.warm hW⟩⟩ rfl hn hl.1 rfl (lv_room hst) hdg hf2) (fun H1 locs1 a1 a2 => kk H1 locs1 ls a1 a2 hl)
theorem wa_callSv (q : Nat) (hC : CX E G cc nL own ret d mc ms) {y : MethodName} {bytes : ByteArray} {maxL d' n index : Nat} {ret' : Option FieldType} (As : List Value) (st : List Value) (hN : KN y bytes maxL ret' n) (hL : MS own index y) (hM : MT E.2.1 y bytes maxL ret' d' G ρ V As M none M')
    (hd : d' + 1 ≤ d) (hlo : 8 + (maxL + 11) + 64 * d' ≤ 64 * d) (hn : As.length = n) (hst : (st.map fun v => v.category).sum ≤ 8) (hdg : decode cc pc = .ok (.invokestatic index, 3)) (hq : pc + 3 = q) (hf : k1 ≤ mc ∧ k2 ≤ ms) (hs : As.reverse ++ st = st')
    (kk : WA E G ρ V k1 k2 M' q lv st) : WA E G ρ V k1 k2 M pc lv st' := by
  subst hq
  subst hs
  intro H locs ls hR hO hl
  obtain ⟨hx, hb, hml, hown, hts, hK, hr, hlk, hRm, -⟩ := hC
  have hfr : (rmD d' 0 0).frames + 1 ≤ (eR E).frames ∧ 8 + (maxL + 11) + (rmD d' 0 0).locals ≤ (eR E).locals := ⟨Nat.le_trans hd hRm.1, Nat.le_trans hlo hRm.2.1⟩
  have hf2 : k1 + 0 ≤ (eR E).cells ∧ k2 + 0 ≤ (eR E).slots := ⟨Nat.le_trans hf.1 hRm.2.2.1, Nat.le_trans hf.2 hRm.2.2.2⟩
  rcases hL with ⟨hlink | ⟨host, hlink⟩, hstat⟩
  · exact vv_ofRun (ρ := ρ) (V := V) hO (va_runS (Ts := ALLW) (n := n) ⟨hx, hb, rfl, hown, hts⟩ hM ⟨callB_of n hts hN.good rfl rfl rfl (hts _ hN.2.1) (hts _ hlink) hN.2.2 hfr, hts _ hstat⟩ ⟨PcT_blind G ρ V _ M, fun U hU hW => ⟨rfl, by rw [hU]; exact hR, hK.warm hW⟩⟩ rfl hn hl.1 rfl (lv_room hst) hdg hf2) (fun H1 locs1 a1 a2 => kk H1 locs1 ls a1 a2 hl)
  · exact vv_ofRun (ρ := ρ) (V := V) hO (va_runSN (Ts := ALLW) (n := n) ⟨hx, hb, rfl, hown, hts⟩ hM ⟨va_cnB n hts hN.good rfl rfl rfl (hK.2.1 _ hlink) (hts _ hN.2.1) hN.2.2 hfr, hts _ hstat, trivial⟩ ⟨PcT_blind G ρ V _ M, fun U hU hW => ⟨rfl, by rw [hU]; exact hR, hK.warm hW⟩⟩ rfl hn hl.1 rfl (lv_room hst) hdg hf2) (fun H1 locs1 a1 a2 => kk H1 locs1 ls a1 a2 hl)
theorem wa_callVi (q : Nat) (hC : CX E G cc nL own ret d mc ms) {y : MethodName} {bytes : ByteArray} {maxL d' n index kc o : Nat} {ret' : Option FieldType} {w : Int32} (As : List Value) (st : List Value) (hN : KN y bytes maxL ret' n) (hL : MV own index y) (hM : MT E.2.1 y bytes maxL ret' d' G ρ V (.ref (ρ kc o) :: As) M (some (.int w)) M') (hV : V kc o) (hc : KC kc y.cls)
    (hd : d' + 1 ≤ d) (hlo : 8 + (maxL + 11) + 64 * d' ≤ 64 * d) (hn : As.length = n) (hst : (st.map fun v => v.category).sum ≤ 8) (hdg : decode cc pc = .ok (.invokevirtual index, 3)) (hq : pc + 3 = q) (hf : k1 ≤ mc ∧ k2 ≤ ms) (hs : As.reverse ++ .ref (ρ kc o) :: st = st')
    (kk : WA E G ρ V k1 k2 M' q lv (.int w :: st)) : WA E G ρ V k1 k2 M pc lv st' := by
  subst hq
  subst hs
  intro H locs ls hR hO hl
  obtain ⟨hx, hb, hml, hown, hts, hK, hr, hlk, hRm, -⟩ := hC
  obtain ⟨⟨T, N, hc⟩, hce⟩ := hc
  obtain ⟨fs, he⟩ := hce (gC G) ρ o (fun k j => M.1 kc k o j) (fun k j => M.2 kc k o j)
  have hfr : (rmD d' 0 0).frames + 1 ≤ (eR E).frames ∧ 8 + (maxL + 11) + (rmD d' 0 0).locals ≤ (eR E).locals := ⟨Nat.le_trans hd hRm.1, Nat.le_trans hlo hRm.2.1⟩
  have hf2 : k1 + 0 ≤ (eR E).cells ∧ k2 + 0 ≤ (eR E).slots := ⟨Nat.le_trans hf.1 hRm.2.2.1, Nat.le_trans hf.2 hRm.2.2.2⟩
  rcases hL with ⟨hlink | ⟨host, hlink⟩, hinst, hsel⟩
  · exact vv_ofRun (ρ := ρ) (V := V) hO (va_runV (Ts := ALLW) (C := y.cls) (n := n) ⟨hx, hb, rfl, hown, hts⟩ hM ⟨callB_of n hts hN.good rfl rfl rfl (hts _ hN.2.1) (hts _ hlink) hN.2.2 hfr, hts _ hinst, hts _ hsel⟩ ⟨PcT_blind G ρ V _ M, hR.recv hK hV he hc, fun U hU hW => ⟨rfl, by rw [hU]; exact hR, hK.warm hW⟩⟩ rfl hn hl.1 rfl (lv_room hst) hdg hf2) (fun H1 locs1 a1 a2 => kk H1 locs1 ls a1 a2 hl)
  · exact vv_ofRun (ρ := ρ) (V := V) hO (va_runVN (Ts := ALLW) (C := y.cls) (n := n) ⟨hx, hb, rfl, hown, hts⟩ hM ⟨va_cnB n hts hN.good rfl rfl rfl (hK.2.1 _ hlink) (hts _ hN.2.1) hN.2.2 hfr, hts _ hinst, hts _ hsel⟩ ⟨PcT_blind G ρ V _ M, hR.recv hK hV he hc, fun U hU hW => ⟨rfl, by rw [hU]; exact hR, hK.warm hW⟩⟩ rfl hn hl.1 rfl (lv_room hst) hdg hf2) (fun H1 locs1 a1 a2 => kk H1 locs1 ls a1 a2 hl)
theorem wa_callSi (q : Nat) (hC : CX E G cc nL own ret d mc ms) {y : MethodName} {bytes : ByteArray} {maxL d' n index : Nat} {ret' : Option FieldType} {w : Int32} (As : List Value) (st : List Value) (hN : KN y bytes maxL ret' n) (hL : MS own index y) (hM : MT E.2.1 y bytes maxL ret' d' G ρ V As M (some (.int w)) M')
    (hd : d' + 1 ≤ d) (hlo : 8 + (maxL + 11) + 64 * d' ≤ 64 * d) (hn : As.length = n) (hst : (st.map fun v => v.category).sum ≤ 8) (hdg : decode cc pc = .ok (.invokestatic index, 3)) (hq : pc + 3 = q) (hf : k1 ≤ mc ∧ k2 ≤ ms) (hs : As.reverse ++ st = st')
    (kk : WA E G ρ V k1 k2 M' q lv (.int w :: st)) : WA E G ρ V k1 k2 M pc lv st' := by
  subst hq
  subst hs
  intro H locs ls hR hO hl
  obtain ⟨hx, hb, hml, hown, hts, hK, hr, hlk, hRm, -⟩ := hC
  have hfr : (rmD d' 0 0).frames + 1 ≤ (eR E).frames ∧ 8 + (maxL + 11) + (rmD d' 0 0).locals ≤ (eR E).locals := ⟨Nat.le_trans hd hRm.1, Nat.le_trans hlo hRm.2.1⟩
  have hf2 : k1 + 0 ≤ (eR E).cells ∧ k2 + 0 ≤ (eR E).slots := ⟨Nat.le_trans hf.1 hRm.2.2.1, Nat.le_trans hf.2 hRm.2.2.2⟩
  rcases hL with ⟨hlink | ⟨host, hlink⟩, hstat⟩
  · exact vv_ofRun (ρ := ρ) (V := V) hO (va_runS (Ts := ALLW) (n := n) ⟨hx, hb, rfl, hown, hts⟩ hM ⟨callB_of n hts hN.good rfl rfl rfl (hts _ hN.2.1) (hts _ hlink) hN.2.2 hfr, hts _ hstat⟩ ⟨PcT_blind G ρ V _ M, fun U hU hW => ⟨rfl, by rw [hU]; exact hR, hK.warm hW⟩⟩ rfl hn hl.1 rfl (lv_room hst) hdg hf2) (fun H1 locs1 a1 a2 => kk H1 locs1 ls a1 a2 hl)
  · exact vv_ofRun (ρ := ρ) (V := V) hO (va_runSN (Ts := ALLW) (n := n) ⟨hx, hb, rfl, hown, hts⟩ hM ⟨va_cnB n hts hN.good rfl rfl rfl (hK.2.1 _ hlink) (hts _ hN.2.1) hN.2.2 hfr, hts _ hstat, trivial⟩ ⟨PcT_blind G ρ V _ M, fun U hU hW => ⟨rfl, by rw [hU]; exact hR, hK.warm hW⟩⟩ rfl hn hl.1 rfl (lv_room hst) hdg hf2) (fun H1 locs1 a1 a2 => kk H1 locs1 ls a1 a2 hl)
theorem wa_callVl (q : Nat) (hC : CX E G cc nL own ret d mc ms) {y : MethodName} {bytes : ByteArray} {maxL d' n index kc o : Nat} {ret' : Option FieldType} {w : Int64} (As : List Value) (st : List Value) (hN : KN y bytes maxL ret' n) (hL : MV own index y) (hM : MT E.2.1 y bytes maxL ret' d' G ρ V (.ref (ρ kc o) :: As) M (some (.long w)) M') (hV : V kc o) (hc : KC kc y.cls)
    (hd : d' + 1 ≤ d) (hlo : 8 + (maxL + 11) + 64 * d' ≤ 64 * d) (hn : As.length = n) (hst : (st.map fun v => v.category).sum ≤ 8) (hdg : decode cc pc = .ok (.invokevirtual index, 3)) (hq : pc + 3 = q) (hf : k1 ≤ mc ∧ k2 ≤ ms) (hs : As.reverse ++ .ref (ρ kc o) :: st = st')
    (kk : WA E G ρ V k1 k2 M' q lv (.long w :: st)) : WA E G ρ V k1 k2 M pc lv st' := by
  subst hq
  subst hs
  intro H locs ls hR hO hl
  obtain ⟨hx, hb, hml, hown, hts, hK, hr, hlk, hRm, -⟩ := hC
  obtain ⟨⟨T, N, hc⟩, hce⟩ := hc
  obtain ⟨fs, he⟩ := hce (gC G) ρ o (fun k j => M.1 kc k o j) (fun k j => M.2 kc k o j)
  have hfr : (rmD d' 0 0).frames + 1 ≤ (eR E).frames ∧ 8 + (maxL + 11) + (rmD d' 0 0).locals ≤ (eR E).locals := ⟨Nat.le_trans hd hRm.1, Nat.le_trans hlo hRm.2.1⟩
  have hf2 : k1 + 0 ≤ (eR E).cells ∧ k2 + 0 ≤ (eR E).slots := ⟨Nat.le_trans hf.1 hRm.2.2.1, Nat.le_trans hf.2 hRm.2.2.2⟩
  rcases hL with ⟨hlink | ⟨host, hlink⟩, hinst, hsel⟩
  · exact vv_ofRun (ρ := ρ) (V := V) hO (va_runV (Ts := ALLW) (C := y.cls) (n := n) ⟨hx, hb, rfl, hown, hts⟩ hM ⟨callB_of n hts hN.good rfl rfl rfl (hts _ hN.2.1) (hts _ hlink) hN.2.2 hfr, hts _ hinst, hts _ hsel⟩ ⟨PcT_blind G ρ V _ M, hR.recv hK hV he hc, fun U hU hW => ⟨rfl, by rw [hU]; exact hR, hK.warm hW⟩⟩ rfl hn hl.1 rfl (lv_room hst) hdg hf2) (fun H1 locs1 a1 a2 => kk H1 locs1 ls a1 a2 hl)
  · exact vv_ofRun (ρ := ρ) (V := V) hO (va_runVN (Ts := ALLW) (C := y.cls) (n := n) ⟨hx, hb, rfl, hown, hts⟩ hM ⟨va_cnB n hts hN.good rfl rfl rfl (hK.2.1 _ hlink) (hts _ hN.2.1) hN.2.2 hfr, hts _ hinst, hts _ hsel⟩ ⟨PcT_blind G ρ V _ M, hR.recv hK hV he hc, fun U hU hW => ⟨rfl, by rw [hU]; exact hR, hK.warm hW⟩⟩ rfl hn hl.1 rfl (lv_room hst) hdg hf2) (fun H1 locs1 a1 a2 => kk H1 locs1 ls a1 a2 hl)
theorem wa_callSl (q : Nat) (hC : CX E G cc nL own ret d mc ms) {y : MethodName} {bytes : ByteArray} {maxL d' n index : Nat} {ret' : Option FieldType} {w : Int64} (As : List Value) (st : List Value) (hN : KN y bytes maxL ret' n) (hL : MS own index y) (hM : MT E.2.1 y bytes maxL ret' d' G ρ V As M (some (.long w)) M')
    (hd : d' + 1 ≤ d) (hlo : 8 + (maxL + 11) + 64 * d' ≤ 64 * d) (hn : As.length = n) (hst : (st.map fun v => v.category).sum ≤ 8) (hdg : decode cc pc = .ok (.invokestatic index, 3)) (hq : pc + 3 = q) (hf : k1 ≤ mc ∧ k2 ≤ ms) (hs : As.reverse ++ st = st')
    (kk : WA E G ρ V k1 k2 M' q lv (.long w :: st)) : WA E G ρ V k1 k2 M pc lv st' := by
  subst hq
  subst hs
  intro H locs ls hR hO hl
  obtain ⟨hx, hb, hml, hown, hts, hK, hr, hlk, hRm, -⟩ := hC
  have hfr : (rmD d' 0 0).frames + 1 ≤ (eR E).frames ∧ 8 + (maxL + 11) + (rmD d' 0 0).locals ≤ (eR E).locals := ⟨Nat.le_trans hd hRm.1, Nat.le_trans hlo hRm.2.1⟩
  have hf2 : k1 + 0 ≤ (eR E).cells ∧ k2 + 0 ≤ (eR E).slots := ⟨Nat.le_trans hf.1 hRm.2.2.1, Nat.le_trans hf.2 hRm.2.2.2⟩
  rcases hL with ⟨hlink | ⟨host, hlink⟩, hstat⟩
  · exact vv_ofRun (ρ := ρ) (V := V) hO (va_runS (Ts := ALLW) (n := n) ⟨hx, hb, rfl, hown, hts⟩ hM ⟨callB_of n hts hN.good rfl rfl rfl (hts _ hN.2.1) (hts _ hlink) hN.2.2 hfr, hts _ hstat⟩ ⟨PcT_blind G ρ V _ M, fun U hU hW => ⟨rfl, by rw [hU]; exact hR, hK.warm hW⟩⟩ rfl hn hl.1 rfl (lv_room hst) hdg hf2) (fun H1 locs1 a1 a2 => kk H1 locs1 ls a1 a2 hl)
  · exact vv_ofRun (ρ := ρ) (V := V) hO (va_runSN (Ts := ALLW) (n := n) ⟨hx, hb, rfl, hown, hts⟩ hM ⟨va_cnB n hts hN.good rfl rfl rfl (hK.2.1 _ hlink) (hts _ hN.2.1) hN.2.2 hfr, hts _ hstat, trivial⟩ ⟨PcT_blind G ρ V _ M, fun U hU hW => ⟨rfl, by rw [hU]; exact hR, hK.warm hW⟩⟩ rfl hn hl.1 rfl (lv_room hst) hdg hf2) (fun H1 locs1 a1 a2 => kk H1 locs1 ls a1 a2 hl)
theorem w_mmax : Cond.static Lib.Math.max.name ∈ ALLW ∧ Cond.initialized "java/lang/Math" ∈ ALLW ∧ Cond.code Lib.Math.max.name Lib.Math.max.code 2 (some .int) ∈ ALLW := ⟨inW 809 (by decide +kernel) (by decide +kernel), inW 144 (by decide +kernel) (by decide +kernel), inW 810 (by decide +kernel) (by decide +kernel)⟩
theorem wa_mmax (q : Nat) (hC : CX E G cc nL own ret d mc ms) {index : Nat} {x y : Int32} (hL : Cond.methodLink own index Lib.Math.max.name ∈ ALLW) (hd : 1 ≤ d) (hst : (st.map fun v => v.category).sum ≤ 8) (hdg : decode cc pc = .ok (.invokestatic index, 3)) (hq : pc + 3 = q) (hf : k1 ≤ mc ∧ k2 ≤ ms) (kk : WA E G ρ V k1 k2 M q lv (.int (if x < y then y else x) :: st)) : WA E G ρ V k1 k2 M pc lv (.int y :: .int x :: st) := by
  subst hq
  intro H locs ls hR hO hl
  obtain ⟨hx, hb, hml, hown, hts, hK, hr, hlk, hRm, -⟩ := hC
  exact va_mmax hx hb hl.1.symm hown (hts _ hL) (hts _ w_mmax.1) (hts _ w_mmax.2.1) (hts _ w_mmax.2.2) (Nat.le_trans hd hRm.1) (by have := hRm.2.1; omega) (Nat.le_trans hf.1 hRm.2.2.1) (Nat.le_trans hf.2 hRm.2.2.2) hdg (kk H locs ls hR hO hl)
theorem w_mmin : Cond.static Lib.Math.min.name ∈ ALLW ∧ Cond.initialized "java/lang/Math" ∈ ALLW ∧ Cond.code Lib.Math.min.name Lib.Math.min.code 2 (some .int) ∈ ALLW := ⟨inW 517 (by decide +kernel) (by decide +kernel), inW 144 (by decide +kernel) (by decide +kernel), inW 518 (by decide +kernel) (by decide +kernel)⟩
theorem wa_mmin (q : Nat) (hC : CX E G cc nL own ret d mc ms) {index : Nat} {x y : Int32} (hL : Cond.methodLink own index Lib.Math.min.name ∈ ALLW) (hd : 1 ≤ d) (hst : (st.map fun v => v.category).sum ≤ 8) (hdg : decode cc pc = .ok (.invokestatic index, 3)) (hq : pc + 3 = q) (hf : k1 ≤ mc ∧ k2 ≤ ms) (kk : WA E G ρ V k1 k2 M q lv (.int (if y < x then y else x) :: st)) : WA E G ρ V k1 k2 M pc lv (.int y :: .int x :: st) := by
  subst hq
  intro H locs ls hR hO hl
  obtain ⟨hx, hb, hml, hown, hts, hK, hr, hlk, hRm, -⟩ := hC
  exact va_mmin hx hb hl.1.symm hown (hts _ hL) (hts _ w_mmin.1) (hts _ w_mmin.2.1) (hts _ w_mmin.2.2) (Nat.le_trans hd hRm.1) (by have := hRm.2.1; omega) (Nat.le_trans hf.1 hRm.2.2.1) (Nat.le_trans hf.2 hRm.2.2.2) hdg (kk H locs ls hR hO hl)
theorem w_mmax_long : Cond.static Lib.MathLoose.max_long.x ∈ ALLW ∧ Cond.initialized "java/lang/Math" ∈ ALLW ∧ Cond.code Lib.MathLoose.max_long.x Lib.MathLoose.max_long.code 4 (some .long) ∈ ALLW := ⟨inW 1216 (by decide +kernel) (by decide +kernel), inW 144 (by decide +kernel) (by decide +kernel), inW 1217 (by decide +kernel) (by decide +kernel)⟩
theorem wa_mmax_long (q : Nat) (hC : CX E G cc nL own ret d mc ms) {index : Nat} {x y : Int64} (hL : Cond.methodLink own index Lib.MathLoose.max_long.x ∈ ALLW) (hd : 1 ≤ d) (hst : (st.map fun v => v.category).sum ≤ 8) (hdg : decode cc pc = .ok (.invokestatic index, 3)) (hq : pc + 3 = q) (hf : k1 ≤ mc ∧ k2 ≤ ms) (kk : WA E G ρ V k1 k2 M q lv (.long (if y < x then x else y) :: st)) : WA E G ρ V k1 k2 M pc lv (.long y :: .long x :: st) := by
  subst hq
  intro H locs ls hR hO hl
  obtain ⟨hx, hb, hml, hown, hts, hK, hr, hlk, hRm, -⟩ := hC
  exact va_mmax_long hx hb hl.1.symm hown (hts _ hL) (hts _ w_mmax_long.1) (hts _ w_mmax_long.2.1) (hts _ w_mmax_long.2.2) (Nat.le_trans hd hRm.1) (by have := hRm.2.1; omega) (Nat.le_trans hf.1 hRm.2.2.1) (Nat.le_trans hf.2 hRm.2.2.2) hdg (kk H locs ls hR hO hl)
theorem w_mmin_long : Cond.static Lib.MathLoose.min_long.x ∈ ALLW ∧ Cond.initialized "java/lang/Math" ∈ ALLW ∧ Cond.code Lib.MathLoose.min_long.x Lib.MathLoose.min_long.code 4 (some .long) ∈ ALLW := ⟨inW 573 (by decide +kernel) (by decide +kernel), inW 144 (by decide +kernel) (by decide +kernel), inW 574 (by decide +kernel) (by decide +kernel)⟩
theorem wa_mmin_long (q : Nat) (hC : CX E G cc nL own ret d mc ms) {index : Nat} {x y : Int64} (hL : Cond.methodLink own index Lib.MathLoose.min_long.x ∈ ALLW) (hd : 1 ≤ d) (hst : (st.map fun v => v.category).sum ≤ 8) (hdg : decode cc pc = .ok (.invokestatic index, 3)) (hq : pc + 3 = q) (hf : k1 ≤ mc ∧ k2 ≤ ms) (kk : WA E G ρ V k1 k2 M q lv (.long (if y < x then y else x) :: st)) : WA E G ρ V k1 k2 M pc lv (.long y :: .long x :: st) := by
  subst hq
  intro H locs ls hR hO hl
  obtain ⟨hx, hb, hml, hown, hts, hK, hr, hlk, hRm, -⟩ := hC
  exact va_mmin_long hx hb hl.1.symm hown (hts _ hL) (hts _ w_mmin_long.1) (hts _ w_mmin_long.2.1) (hts _ w_mmin_long.2.2) (Nat.le_trans hd hRm.1) (by have := hRm.2.1; omega) (Nat.le_trans hf.1 hRm.2.2.1) (Nat.le_trans hf.2 hRm.2.2.2) hdg (kk H locs ls hR hO hl)
theorem w_mabs_long : Cond.static Lib.MathLoose.abs_long.x ∈ ALLW ∧ Cond.initialized "java/lang/Math" ∈ ALLW ∧ Cond.code Lib.MathLoose.abs_long.x Lib.MathLoose.abs_long.code 2 (some .long) ∈ ALLW := ⟨inW 545 (by decide +kernel) (by decide +kernel), inW 144 (by decide +kernel) (by decide +kernel), inW 546 (by decide +kernel) (by decide +kernel)⟩
theorem wa_mabs_long (q : Nat) (hC : CX E G cc nL own ret d mc ms) {index : Nat} {x : Int64} (hL : Cond.methodLink own index Lib.MathLoose.abs_long.x ∈ ALLW) (hd : 1 ≤ d) (hst : (st.map fun v => v.category).sum ≤ 8) (hdg : decode cc pc = .ok (.invokestatic index, 3)) (hq : pc + 3 = q) (hf : k1 ≤ mc ∧ k2 ≤ ms) (kk : WA E G ρ V k1 k2 M q lv (.long (if 0 < x then x else -x) :: st)) : WA E G ρ V k1 k2 M pc lv (.long x :: st) := by
  subst hq
  intro H locs ls hR hO hl
  obtain ⟨hx, hb, hml, hown, hts, hK, hr, hlk, hRm, -⟩ := hC
  exact va_mabs_long hx hb hl.1.symm hown (hts _ hL) (hts _ w_mabs_long.1) (hts _ w_mabs_long.2.1) (hts _ w_mabs_long.2.2) (Nat.le_trans hd hRm.1) (by have := hRm.2.1; omega) (Nat.le_trans hf.1 hRm.2.2.1) (Nat.le_trans hf.2 hRm.2.2.2) hdg (kk H locs ls hR hO hl)
end VVD
