/-! Methods that return or throw. -/
def XN : Nat → String
  | 0 => "java/lang/IndexOutOfBoundsException"
  | 1 => "java/lang/IllegalArgumentException"
  | 2 => "java/lang/IllegalStateException"
  | _ => "java/util/NoSuchElementException"
/-- more objects may be there, those that were lie where they lay -/
def Ext (ρ : Nat → Nat → Nat) (V : Nat → Nat → Prop) (ρ' : Nat → Nat → Nat) (V' : Nat → Nat → Prop) : Prop := ∀ c o, V c o → V' c o ∧ ρ' c o = ρ c o
theorem Ext.rfl {ρ : Nat → Nat → Nat} {V : Nat → Nat → Prop} : Ext ρ V ρ V := fun _ _ h => ⟨h, Eq.refl _⟩
theorem Ext.trans {ρ ρ1 ρ2 : Nat → Nat → Nat} {V V1 V2 : Nat → Nat → Prop} (h : Ext ρ V ρ1 V1) (g : Ext ρ1 V1 ρ2 V2) : Ext ρ V ρ2 V2 := fun c o q => ⟨(g c o (h c o q).1).1, (g c o (h c o q).1).2.trans (h c o q).2⟩
def RPX (G : gU) (ρ : Nat → Nat → Nat) (V : Nat → Nat → Prop) (M : sM) (H : Heap) : Prop := ∃ ρ' V', Ext ρ V ρ' V' ∧ RP G ρ' V' M H
abbrev QcX (G : gU) (ρ : Nat → Nat → Nat) (V : Nat → Nat → Prop) (ov : Nat ⊕ Option Value) (M' : sM) : Array Value → State → Outcome → State → Prop := fun _ _ oc t => ∃ rv, ov = .inr rv ∧ oc = .returned rv ∧ RPX G ρ V M' t.heap
abbrev XcX (G : gU) (ρ : Nat → Nat → Nat) (V : Nat → Nat → Prop) (ov : Nat ⊕ Option Value) (M' : sM) : String → State → State → Prop := fun E _ t => ∃ e, ov = .inl e ∧ E = XN e ∧ RPX G ρ V M' t.heap
/-- the method y, called with av over the memory M, returns or throws as ov says, the memory is M' then; objects may come -/
def MX (l : Launch) (y : MethodName) (cc : ByteArray) (maxL : Nat) (ret : Option FieldType) (d mc ms : Nat) (G : gU) (ρ : Nat → Nat → Nat) (V : Nat → Nat → Prop) (av : List Value) (M : sM) (ov : Nat ⊕ Option Value) (M' : sM) : Prop :=
  vx_Met l y (.code y cc maxL ret :: ALLW) (rmD d mc ms) (PcT G ρ V av M) (QcX G ρ V ov M') (XcX G ρ V ov M') mc ms (gA G)
def QXX (E : eU) (G : gU) (ρ : Nat → Nat → Nat) (V : Nat → Nat → Prop) (ov : Nat ⊕ Option Value) (M' : sM) (mc ms : Nat) : Prop := eQ E = vx_MQ (eF E) (QcX G ρ V ov M') (XcX G ρ V ov M') (eA E) (eS E) mc ms (gA G)
/-- the method y tests its arguments: it returns, or throws what ov says; nothing changes -/
abbrev QcR (G : gU) (ρ : Nat → Nat → Nat) (V : Nat → Nat → Prop) (ov : Option Nat) (M : sM) : Array Value → State → Outcome → State → Prop := fun _ _ oc t => ov = none ∧ oc = .returned none ∧ RP G ρ V M t.heap
abbrev XcR (G : gU) (ρ : Nat → Nat → Nat) (V : Nat → Nat → Prop) (ov : Option Nat) (M : sM) : String → State → State → Prop := fun E _ t => ∃ e, ov = some e ∧ E = XN e ∧ RP G ρ V M t.heap
def MR (l : Launch) (y : MethodName) (cc : ByteArray) (maxL : Nat) (d : Nat) (G : gU) (ρ : Nat → Nat → Nat) (V : Nat → Nat → Prop) (av : List Value) (M : sM) (ov : Option Nat) : Prop :=
  vx_Met l y (.code y cc maxL none :: ALLW) (rmD d 1 6) (PcT G ρ V av M) (QcR G ρ V ov M) (XcR G ρ V ov M) 1 6 (gA G)
def QXR (E : eU) (G : gU) (ρ : Nat → Nat → Nat) (V : Nat → Nat → Prop) (ov : Option Nat) (M : sM) : Prop := eQ E = vx_MQ (eF E) (QcR G ρ V ov M) (XcR G ρ V ov M) (eA E) (eS E) 1 6 (gA G)
/-- a method by which objects come: it returns -/
abbrev QcK (G : gU) (ρ : Nat → Nat → Nat) (V : Nat → Nat → Prop) (M' : sM) : Array Value → State → Outcome → State → Prop := fun _ _ oc t => oc = .returned none ∧ RPX G ρ V M' t.heap
def MK (l : Launch) (y : MethodName) (cc : ByteArray) (maxL : Nat) (d mc ms : Nat) (G : gU) (ρ : Nat → Nat → Nat) (V : Nat → Nat → Prop) (av : List Value) (M : sM) (M' : sM) : Prop :=
  Met l y (.code y cc maxL none :: ALLW) (rmD d mc ms) (PcT G ρ V av M) (QcK G ρ V M') mc ms (gA G)
def NoT (E : eU) : Prop := ∀ x ∈ (eC E).exceptionTable.toList, False
theorem vx_enter {l : Launch} {y : MethodName} {cc : ByteArray} {maxL : Nat} {ret : Option FieldType} {d mc ms : Nat} {G : gU} {ρ : Nat → Nat → Nat} {V : Nat → Nat → Prop} {av : List Value} {lv : List (Nat × Value)} {M : sM} {Qc : Array Value → State → Outcome → State → Prop} {XC : String → State → State → Prop} (own : String) (ho : y.cls = own) (hy : plainName y.cls = true) (hlen : (lg_sl av).length ≤ maxL) (hlv : lv_args 0 av = lv)
    (body : ∀ E : eU, E.2.1 = l → CX E G cc maxL own ret d mc ms → eQ E = vx_MQ (eF E) Qc XC (eA E) (eS E) mc ms (gA G) → NoT E → VC V → WA E G ρ V 0 0 M 0 lv []) :
    vx_Met l y (.code y cc maxL ret :: ALLW) (rmD d mc ms) (PcT G ρ V av M) Qc XC mc ms (gA G) := by
  subst hlv
  refine vx_ofW (cc := cc) (maxL := maxL) (ret := ret) hy rfl ?_
  intro p e s m args below meth c s₁ Bd hml hnt hv
  obtain ⟨rfl, hR, hK⟩ := hv
  have hts := atoms_spec (ws := .code y cc maxL ret :: ALLW) Bd.pre
  have hl := lv_entry av (n := c.maxLocals) (by rw [hml]; exact hlen)
  have h := body (p, l, e, rmD d mc ms, s, m, av.toArray, below, meth, c, vx_MQ below Qc XC av.toArray s mc ms (gA G)) rfl ⟨Bd.exec, Bd.bytes, hml, by rw [← ho]; exact findClass_of_methodNamed Bd.named, fun w hw => hts w (List.mem_cons_of_mem _ hw), hK, Bd.returns, Bd.notSynchronized, RG.rf, hR.2.2.1⟩ rfl hnt hR.vc s.heap [] _ hR (fun _ h => by cases h) hl
  rw [lg_entry_eq, ← hml]
  exact h
theorem rq_some {α : Type} {c : Option (Option Nat)} {t : Nat → Option α} {k : Option α} {r : α} (h : rq c t k = some r) : (c = some none ∧ k = some r) ∨ ∃ e, c = some (some e) ∧ t e = some r := by
  match c, h with
  | some none, h => exact Or.inl ⟨rfl, h⟩
  | some (some e), h => exact Or.inr ⟨e, rfl, h⟩
section VXR
variable {E : eU} {G : gU} {ρ ρ0 : Nat → Nat → Nat} {V V0 : Nat → Nat → Prop} {k1 k2 : Nat} {M M' : sM} {pc nL d mc ms : Nat} {lv lv' : List (Nat × Value)} {st st' : List Value} {cc : ByteArray} {own : String} {ret : Option FieldType}

theorem wx_iret {v : Int32} {ov : Nat ⊕ Option Value} (hC : CX E G cc nL own (some .int) d mc ms) (hQ : QXX E G ρ0 V0 ov M' mc ms) (hE : Ext ρ0 V0 ρ V) (hv : ov = .inr (some (.int v))) (hM : M = M') (hk : k1 ≤ mc ∧ k2 ≤ ms) (hdg : decode cc pc = .ok (.ireturn, 1)) : WA E G ρ V k1 k2 M pc lv [.int v] := by
  subst hM
  intro H locs ls hR hO hl
  show W _ _ _ _ _ _ _ _ _ _ _ _ _ _ (eQ E) _
  rw [hQ]
  refine vx_ret (W.widen hk.1 hk.2 ?_)
  exact W.iret hC.1 hC.2.1 hC.2.2.2.2.2.2.1 (fun t ht _ => ⟨_, hv, rfl, ρ, V, hE, by rw [ht]; exact hR⟩) hO hdg hC.2.2.2.2.2.2.2.1
theorem wx_lret {v : Int64} {ov : Nat ⊕ Option Value} (hC : CX E G cc nL own (some .long) d mc ms) (hQ : QXX E G ρ0 V0 ov M' mc ms) (hE : Ext ρ0 V0 ρ V) (hv : ov = .inr (some (.long v))) (hM : M = M') (hk : k1 ≤ mc ∧ k2 ≤ ms) (hdg : decode cc pc = .ok (.lreturn, 1)) : WA E G ρ V k1 k2 M pc lv [.long v] := by
  subst hM
  intro H locs ls hR hO hl
  show W _ _ _ _ _ _ _ _ _ _ _ _ _ _ (eQ E) _
  rw [hQ]
  refine vx_ret (W.widen hk.1 hk.2 ?_)
  exact W.lret hC.1 hC.2.1 hC.2.2.2.2.2.2.1 (fun t ht _ => ⟨_, hv, rfl, ρ, V, hE, by rw [ht]; exact hR⟩) hO hdg hC.2.2.2.2.2.2.2.1
theorem wx_vret {ov : Nat ⊕ Option Value} (hC : CX E G cc nL own none d mc ms) (hQ : QXX E G ρ0 V0 ov M' mc ms) (hE : Ext ρ0 V0 ρ V) (hv : ov = .inr none) (hM : M = M') (hk : k1 ≤ mc ∧ k2 ≤ ms) (hdg : decode cc pc = .ok (.return_, 1)) : WA E G ρ V k1 k2 M pc lv [] := by
  subst hM
  intro H locs ls hR hO hl
  show W _ _ _ _ _ _ _ _ _ _ _ _ _ _ (eQ E) _
  rw [hQ]
  refine vx_ret (W.widen hk.1 hk.2 ?_)
  exact W.vret hC.1 hC.2.1 hC.2.2.2.2.2.2.1 (fun t ht _ => ⟨_, hv, rfl, ρ, V, hE, by rw [ht]; exact hR⟩) hO hdg hC.2.2.2.2.2.2.2.1
theorem wr_vret {ov : Option Nat} (hC : CX E G cc nL own none d 1 6) (hQ : QXR E G ρ V ov M) (hv : ov = none) (hk : k1 ≤ 1 ∧ k2 ≤ 6) (hdg : decode cc pc = .ok (.return_, 1)) : WA E G ρ V k1 k2 M pc lv [] := by
  intro H locs ls hR hO hl
  show W _ _ _ _ _ _ _ _ _ _ _ _ _ _ (eQ E) _
  rw [hQ]
  refine vx_ret (W.widen hk.1 hk.2 ?_)
  exact W.vret hC.1 hC.2.1 hC.2.2.2.2.2.2.1 (fun t ht _ => ⟨hv, rfl, by rw [ht]; exact hR⟩) hO hdg hC.2.2.2.2.2.2.2.1
/-- a heap that has grown: the world is the same -/
theorem RP.grow {H H1 : Heap} (hR : RP G ρ V M H) (h1 : H.size ≤ H1.size) (h2 : ∀ q : Nat, q < H.size → H1[q]? = H[q]?) : RP G ρ V M H1 := by
  obtain ⟨a1, a2, a3, a4, a5⟩ := hR
  refine ⟨fun c o hV => ⟨?_, (a1 c o hV).2⟩, a2, ⟨Nat.le_trans a3.1 h1, fun q hq => ?_⟩, a4, a5⟩
  · refine (a1 c o hV).1.kept ?_
    exact h2 _ (a1 c o hV).1.lt
  · rw [h2 q (Nat.lt_of_lt_of_le hq a3.1)]
    exact a3.2 q hq
/-- what a throw of own needs of the tables: by program -/
def XW (own : String) (ik ic : Nat) (cls : String) (names : List String) : Prop :=
  Bundle.fit cls = true ∧ (∀ n ∈ names, Bundle.fit n = true) ∧ Cond.classLink own ik cls ∈ ALLW ∧ Cond.initialized cls ∈ ALLW ∧ (∀ w ∈ vx_atS own ic cls names, w ∈ ALLW ∨ w ∈ NW) ∧ (∀ w ∈ Cond.classLink own ik cls :: Cond.initialized cls :: vx_atS own ic cls names, vx_ot w = true) ∧ names.length = 2
theorem XW.of {own : String} {ik ic : Nat} {cls : String} {names : List String} (h1 : Bundle.fit cls = true) (h2 : ∀ n ∈ names, Bundle.fit n = true) (h3 : Cond.classLink own ik cls ∈ ALLW) (h4 : Cond.initialized cls ∈ ALLW) (h5 : ∀ w ∈ vx_atS own ic cls names, (goodWord w = true ∧ w ∈ lw_tbl) ∨ (isNestW w = true ∧ w ∈ tables_1)) (h6 : ∀ w ∈ Cond.classLink own ik cls :: Cond.initialized cls :: vx_atS own ic cls names, vx_ot w = true) (h7 : names.length = 2) : XW own ik ic cls names :=
  ⟨h1, h2, h3, h4, fun w hw => (h5 w hw).elim (fun q => Or.inl (List.mem_filter.mpr ⟨q.2, q.1⟩)) (fun q => Or.inr (List.mem_filter.mpr ⟨q.2, q.1⟩)), h6, h7⟩
theorem nest_tab {w : Cond} (hw : isNestW w = true) : w.onTables = true := by cases w <;> first | rfl | (simp [isNestW] at hw)

theorem wx_throw {ik is ic ix n9 : Nat} {cls : String} {names : List String} (hC : CX E G cc nL own ret d mc ms) (hl9 : E.2.1.stackTraces = false) (hT9 : NoT E) {ov : Nat ⊕ Option Value} (hQ : QXX E G ρ0 V0 ov M' mc ms) (hE : Ext ρ0 V0 ρ V) (hv : ov = .inl n9) (hM : M = M') (hW : XW own ik ic cls names) (hx9 : XN n9 = cls) (hi : ix < nSt) (ho : sOwn ix = own) (hix : sIdx ix = is) (hd : 8 ≤ d) (hk : k1 + 1 ≤ mc ∧ k2 + 6 ≤ ms) (hst : (st.map fun v => v.category).sum ≤ 8)
    (d0 : decode cc pc = .ok (.new ik, 3)) (d3 : decode cc (pc + 3) = .ok (.dup, 1)) (d4 : decode cc (pc + 4) = .ok (.ldc is, 2)) (d6 : decode cc (pc + 6) = .ok (.invokespecial ic, 3)) (d9 : decode cc (pc + 9) = .ok (.athrow, 1)) : WA E G ρ V k1 k2 M pc lv st := by
  intro H locs ls hR hO hl T hT X
  obtain ⟨hx, hb, hml, hown, hts, hK, hr, hlk, hRm, hs0⟩ := hC
  obtain ⟨w1, w2, w3, w4, w5, w6, w7⟩ := hW
  have hsz : (eS E).heap.size ≤ H.size := by rw [← hT]; exact (vx_frame X.same).1
  have hS : va_S (gA G) (eS E).heap H locs := ⟨hsz, fun q _ h => by rw [hR.2.2.1.2 q (Nat.not_le.mp h), hs0.2 q (Nat.not_le.mp h)], hO⟩
  have hbel : ∀ a : Nat, a < (gH G).size → ¬ gA G a → (eS E).heap[a]? = (gH G)[a]? := fun a _ h => hs0.2 a (Nat.not_le.mp h)
  have hstr := hK.2.2.1 ix hi
  rw [ho, hix] at hstr
  have key : WE E H locs k1 k2 (F0 (eM E) pc ls st) := by
    show W _ _ _ _ _ _ _ _ _ _ _ _ _ _ (eQ E) _
    rw [hQ]
    exact vx_throwS (A := gA G) hx hb hl9 hown w1 w2 (hts _ w3) (hts _ w4) hstr (fun w hw => (w5 w hw).elim (fun q => hts w q) (fun q => va_Nw.use (nest_tab (List.mem_filter.mp q).2) (hK.2.1 w q))) w6 (hK.2.2.2.2.1.kept hbel) (hK.2.2.2.2.2.1.kept hbel) hS hl.1 d0 d3 d4 d6 d9 (fun x h => absurd h (fun h => hT9 x h)) (by rw [w7]; have := hRm.1; omega) (by rw [w7]; have := hRm.2.1; omega) (Nat.le_trans hk.1 hRm.2.2.1) (Nat.le_trans hk.2 hRm.2.2.2) hlk (fun t _ g1 g2 => ⟨n9, hv, hx9.symm, ρ, V, hE, by rw [← hM]; exact hR.grow g1 g2⟩) hO hk.1 hk.2
  exact key T hT X
theorem wr_throw {ik is ic ix n9 : Nat} {cls : String} {names : List String} (hC : CX E G cc nL own ret d 1 6) (hl9 : E.2.1.stackTraces = false) (hT9 : NoT E) {ov : Option Nat} (hQ : QXR E G ρ V ov M) (hv : ov = some n9) (hW : XW own ik ic cls names) (hx9 : XN n9 = cls) (hi : ix < nSt) (ho : sOwn ix = own) (hix : sIdx ix = is) (hd : 8 ≤ d) (hk : k1 + 1 ≤ 1 ∧ k2 + 6 ≤ 6) (hst : (st.map fun v => v.category).sum ≤ 8)
    (d0 : decode cc pc = .ok (.new ik, 3)) (d3 : decode cc (pc + 3) = .ok (.dup, 1)) (d4 : decode cc (pc + 4) = .ok (.ldc is, 2)) (d6 : decode cc (pc + 6) = .ok (.invokespecial ic, 3)) (d9 : decode cc (pc + 9) = .ok (.athrow, 1)) : WA E G ρ V k1 k2 M pc lv st := by
  intro H locs ls hR hO hl T hT X
  obtain ⟨hx, hb, hml, hown, hts, hK, hr, hlk, hRm, hs0⟩ := hC
  obtain ⟨w1, w2, w3, w4, w5, w6, w7⟩ := hW
  have hsz : (eS E).heap.size ≤ H.size := by rw [← hT]; exact (vx_frame X.same).1
  have hS : va_S (gA G) (eS E).heap H locs := ⟨hsz, fun q _ h => by rw [hR.2.2.1.2 q (Nat.not_le.mp h), hs0.2 q (Nat.not_le.mp h)], hO⟩
  have hbel : ∀ a : Nat, a < (gH G).size → ¬ gA G a → (eS E).heap[a]? = (gH G)[a]? := fun a _ h => hs0.2 a (Nat.not_le.mp h)
  have hstr := hK.2.2.1 ix hi
  rw [ho, hix] at hstr
  have key : WE E H locs k1 k2 (F0 (eM E) pc ls st) := by
    show W _ _ _ _ _ _ _ _ _ _ _ _ _ _ (eQ E) _
    rw [hQ]
    exact vx_throwS (A := gA G) hx hb hl9 hown w1 w2 (hts _ w3) (hts _ w4) hstr (fun w hw => (w5 w hw).elim (fun q => hts w q) (fun q => va_Nw.use (nest_tab (List.mem_filter.mp q).2) (hK.2.1 w q))) w6 (hK.2.2.2.2.1.kept hbel) (hK.2.2.2.2.2.1.kept hbel) hS hl.1 d0 d3 d4 d6 d9 (fun x h => absurd h (fun h => hT9 x h)) (by rw [w7]; have := hRm.1; omega) (by rw [w7]; have := hRm.2.1; omega) (Nat.le_trans hk.1 hRm.2.2.1) (Nat.le_trans hk.2 hRm.2.2.2) hlk (fun t _ g1 g2 => ⟨n9, hv, hx9.symm, hR.grow g1 g2⟩) hO hk.1 hk.2
  exact key T hT X
theorem wx_throwW {ik is ic ix n9 : Nat} {cls : String} {names : List String} (hC : CX E G cc nL own ret d mc ms) (hl9 : E.2.1.stackTraces = false) (hT9 : NoT E) {ov : Nat ⊕ Option Value} (hQ : QXX E G ρ0 V0 ov M' mc ms) (hE : Ext ρ0 V0 ρ V) (hv : ov = .inl n9) (hM : M = M') (hW : XW own ik ic cls names) (hx9 : XN n9 = cls) (hi : ix < nSt) (ho : sOwn ix = own) (hix : sIdx ix = is) (hd : 8 ≤ d) (hk : k1 + 1 ≤ mc ∧ k2 + 6 ≤ ms) (hst : (st.map fun v => v.category).sum ≤ 8)
    (d0 : decode cc pc = .ok (.new ik, 3)) (d3 : decode cc (pc + 3) = .ok (.dup, 1)) (d4 : decode cc (pc + 4) = .ok (.ldc_w is, 3)) (d6 : decode cc (pc + 7) = .ok (.invokespecial ic, 3)) (d9 : decode cc (pc + 10) = .ok (.athrow, 1)) : WA E G ρ V k1 k2 M pc lv st := by
  intro H locs ls hR hO hl T hT X
  obtain ⟨hx, hb, hml, hown, hts, hK, hr, hlk, hRm, hs0⟩ := hC
  obtain ⟨w1, w2, w3, w4, w5, w6, w7⟩ := hW
  have hsz : (eS E).heap.size ≤ H.size := by rw [← hT]; exact (vx_frame X.same).1
  have hS : va_S (gA G) (eS E).heap H locs := ⟨hsz, fun q _ h => by rw [hR.2.2.1.2 q (Nat.not_le.mp h), hs0.2 q (Nat.not_le.mp h)], hO⟩
  have hbel : ∀ a : Nat, a < (gH G).size → ¬ gA G a → (eS E).heap[a]? = (gH G)[a]? := fun a _ h => hs0.2 a (Nat.not_le.mp h)
  have hstr := hK.2.2.1 ix hi
  rw [ho, hix] at hstr
  have key : WE E H locs k1 k2 (F0 (eM E) pc ls st) := by
    show W _ _ _ _ _ _ _ _ _ _ _ _ _ _ (eQ E) _
    rw [hQ]
    exact vx_throwSW (A := gA G) hx hb hl9 hown w1 w2 (hts _ w3) (hts _ w4) hstr (fun w hw => (w5 w hw).elim (fun q => hts w q) (fun q => va_Nw.use (nest_tab (List.mem_filter.mp q).2) (hK.2.1 w q))) w6 (hK.2.2.2.2.1.kept hbel) (hK.2.2.2.2.2.1.kept hbel) hS hl.1 d0 d3 d4 d6 d9 (fun x h => absurd h (fun h => hT9 x h)) (by rw [w7]; have := hRm.1; omega) (by rw [w7]; have := hRm.2.1; omega) (Nat.le_trans hk.1 hRm.2.2.1) (Nat.le_trans hk.2 hRm.2.2.2) hlk (fun t _ g1 g2 => ⟨n9, hv, hx9.symm, ρ, V, hE, by rw [← hM]; exact hR.grow g1 g2⟩) hO hk.1 hk.2
  exact key T hT X
theorem wr_throwW {ik is ic ix n9 : Nat} {cls : String} {names : List String} (hC : CX E G cc nL own ret d 1 6) (hl9 : E.2.1.stackTraces = false) (hT9 : NoT E) {ov : Option Nat} (hQ : QXR E G ρ V ov M) (hv : ov = some n9) (hW : XW own ik ic cls names) (hx9 : XN n9 = cls) (hi : ix < nSt) (ho : sOwn ix = own) (hix : sIdx ix = is) (hd : 8 ≤ d) (hk : k1 + 1 ≤ 1 ∧ k2 + 6 ≤ 6) (hst : (st.map fun v => v.category).sum ≤ 8)
    (d0 : decode cc pc = .ok (.new ik, 3)) (d3 : decode cc (pc + 3) = .ok (.dup, 1)) (d4 : decode cc (pc + 4) = .ok (.ldc_w is, 3)) (d6 : decode cc (pc + 7) = .ok (.invokespecial ic, 3)) (d9 : decode cc (pc + 10) = .ok (.athrow, 1)) : WA E G ρ V k1 k2 M pc lv st := by
  intro H locs ls hR hO hl T hT X
  obtain ⟨hx, hb, hml, hown, hts, hK, hr, hlk, hRm, hs0⟩ := hC
  obtain ⟨w1, w2, w3, w4, w5, w6, w7⟩ := hW
  have hsz : (eS E).heap.size ≤ H.size := by rw [← hT]; exact (vx_frame X.same).1
  have hS : va_S (gA G) (eS E).heap H locs := ⟨hsz, fun q _ h => by rw [hR.2.2.1.2 q (Nat.not_le.mp h), hs0.2 q (Nat.not_le.mp h)], hO⟩
  have hbel : ∀ a : Nat, a < (gH G).size → ¬ gA G a → (eS E).heap[a]? = (gH G)[a]? := fun a _ h => hs0.2 a (Nat.not_le.mp h)
  have hstr := hK.2.2.1 ix hi
  rw [ho, hix] at hstr
  have key : WE E H locs k1 k2 (F0 (eM E) pc ls st) := by
    show W _ _ _ _ _ _ _ _ _ _ _ _ _ _ (eQ E) _
    rw [hQ]
    exact vx_throwSW (A := gA G) hx hb hl9 hown w1 w2 (hts _ w3) (hts _ w4) hstr (fun w hw => (w5 w hw).elim (fun q => hts w q) (fun q => va_Nw.use (nest_tab (List.mem_filter.mp q).2) (hK.2.1 w q))) w6 (hK.2.2.2.2.1.kept hbel) (hK.2.2.2.2.2.1.kept hbel) hS hl.1 d0 d3 d4 d6 d9 (fun x h => absurd h (fun h => hT9 x h)) (by rw [w7]; have := hRm.1; omega) (by rw [w7]; have := hRm.2.1; omega) (Nat.le_trans hk.1 hRm.2.2.1) (Nat.le_trans hk.2 hRm.2.2.2) hlk (fun t _ g1 g2 => ⟨n9, hv, hx9.symm, hR.grow g1 g2⟩) hO hk.1 hk.2
  exact key T hT X
theorem wx_reqOK (q : Nat) (hC : CX E G cc nL own ret d mc ms) {y : MethodName} {bytes : ByteArray} {maxL d' n index kc o : Nat} (As : List Value) (st : List Value) (hN : KN y bytes maxL none n) (hL : Cond.methodLink own index y ∈ ALLW ∧ Cond.instanceMethod y ∈ ALLW ∧ Cond.selects y.cls y y ∈ ALLW) (hM9 : MR E.2.1 y bytes maxL d' G ρ V (.ref (ρ kc o) :: As) M none) (hV : V kc o) (hc : KC kc y.cls)
    (hd : d' + 1 ≤ d) (hlo : 8 + (maxL + 11) + 64 * d' ≤ 64 * d) (hn : As.length = n) (hst : (st.map fun v => v.category).sum ≤ 8) (hdg : decode cc pc = .ok (.invokevirtual index, 3)) (hq : pc + 3 = q) (hk : k1 + 1 ≤ mc ∧ k2 + 6 ≤ ms) (hs : As.reverse ++ .ref (ρ kc o) :: st = st') (kk : WA E G ρ V (k1 + 1) (k2 + 6) M q lv st) : WA E G ρ V k1 k2 M pc lv st' := by
  subst hq
  subst hs
  intro H locs ls hR hO hl T hT X
  obtain ⟨hx, hb, hml, hown, hts, hK, hr, hlk, hRm, hs0⟩ := hC
  obtain ⟨⟨T9, N9, hc⟩, hce⟩ := hc
  obtain ⟨fs, he⟩ := hce (gC G) ρ o (fun k j => M.1 kc k o j) (fun k j => M.2 kc k o j)
  obtain ⟨hlink, hinst, hsel⟩ := hL
  have hfr : (rmD d' 1 6).frames + 1 ≤ (eR E).frames ∧ 8 + (maxL + 11) + (rmD d' 1 6).locals ≤ (eR E).locals := ⟨Nat.le_trans hd hRm.1, Nat.le_trans hlo hRm.2.1⟩
  rcases vx_runV (Ts := ALLW) (C := y.cls) (n := n) (rest := st) (g := F0 (eM E) pc ls (As.reverse ++ .ref (ρ kc o) :: st)) (cells := k1) (slots := k2) ⟨hx, hb, rfl, hown, hts⟩ hM9 ⟨callB_of n hts hN.good rfl rfl rfl (hts _ hN.2.1) (hts _ hlink) hN.2.2 hfr, hts _ hinst, hts _ hsel⟩ ⟨PcT_blind G ρ V _ M, hR.recv hK hV he hc, fun U hU hW => ⟨rfl, by rw [hU]; exact hR, hK.warm hW⟩⟩ rfl hn hl.1 rfl (lv_room hst) hdg ⟨Nat.le_trans hk.1 hRm.2.2.1, Nat.le_trans hk.2 hRm.2.2.2⟩ T hT X with ⟨v, st₀, t, T', L, h0, X', hL9, e1, e2, ⟨hv9, hv, hR1⟩, stp⟩ | ⟨q, st₀, t, T', L, E9, ce9, h0, X', hL9, e1, e2, ⟨n9, hv9, -⟩, -⟩
  · cases hv
    obtain ⟨t2, a1, b1⟩ := kk T'.heap (locs ++ L) ls (by rw [e1]; exact hR1) (fun q h => (List.mem_append.mp h).elim (hO q) (hL9 q)) hl T' rfl X'
    exact ⟨t2, stp t2 a1, b1⟩
  · cases hv9
theorem wx_reqThrow {n9 : Nat} (hC : CX E G cc nL own ret d mc ms) {y : MethodName} {bytes : ByteArray} {maxL d' n index kc o : Nat} (As : List Value) (st : List Value) (hN : KN y bytes maxL none n) (hL : Cond.methodLink own index y ∈ ALLW ∧ Cond.instanceMethod y ∈ ALLW ∧ Cond.selects y.cls y y ∈ ALLW) (hM9 : MR E.2.1 y bytes maxL d' G ρ V (.ref (ρ kc o) :: As) M (some n9)) (hV : V kc o) (hc : KC kc y.cls)
    (hd : d' + 1 ≤ d) (hlo : 8 + (maxL + 11) + 64 * d' ≤ 64 * d) (hn : As.length = n) (hst : (st.map fun v => v.category).sum ≤ 8) (hdg : decode cc pc = .ok (.invokevirtual index, 3)) (hT9 : NoT E) {ov : Nat ⊕ Option Value} (hQ : QXX E G ρ0 V0 ov M' mc ms) (hE : Ext ρ0 V0 ρ V) (hv : ov = .inl n9) (hM : M = M') (hk : k1 + 1 ≤ mc ∧ k2 + 6 ≤ ms) (hs : As.reverse ++ .ref (ρ kc o) :: st = st') : WA E G ρ V k1 k2 M pc lv st' := by
  subst hs
  intro H locs ls hR hO hl T hT X
  obtain ⟨hx, hb, hml, hown, hts, hK, hr, hlk, hRm, hs0⟩ := hC
  obtain ⟨⟨T9, N9, hc⟩, hce⟩ := hc
  obtain ⟨fs, he⟩ := hce (gC G) ρ o (fun k j => M.1 kc k o j) (fun k j => M.2 kc k o j)
  obtain ⟨hlink, hinst, hsel⟩ := hL
  have hfr : (rmD d' 1 6).frames + 1 ≤ (eR E).frames ∧ 8 + (maxL + 11) + (rmD d' 1 6).locals ≤ (eR E).locals := ⟨Nat.le_trans hd hRm.1, Nat.le_trans hlo hRm.2.1⟩
  rcases vx_runV (Ts := ALLW) (C := y.cls) (n := n) (rest := st) (g := F0 (eM E) pc ls (As.reverse ++ .ref (ρ kc o) :: st)) (cells := k1) (slots := k2) ⟨hx, hb, rfl, hown, hts⟩ hM9 ⟨callB_of n hts hN.good rfl rfl rfl (hts _ hN.2.1) (hts _ hlink) hN.2.2 hfr, hts _ hinst, hts _ hsel⟩ ⟨PcT_blind G ρ V _ M, hR.recv hK hV he hc, fun U hU hW => ⟨rfl, by rw [hU]; exact hR, hK.warm hW⟩⟩ rfl hn hl.1 rfl (lv_room hst) hdg ⟨Nat.le_trans hk.1 hRm.2.2.1, Nat.le_trans hk.2 hRm.2.2.2⟩ T hT X with ⟨v, st₀, t, T', L, h0, X', hL9, e1, e2, ⟨hv9, -⟩, -⟩ | ⟨q, st₀, t, T', L, E9, ce9, h0, X', hL9, e1, e2, ⟨e9, hv9, hE9, hR1⟩, hce9, hcv, hcl, stp⟩
  · cases hv9
  · cases hv9
    have key : vx_W E.1 E.2.1 E.2.2.1 (eR E) (eS E) (eM E) (eA E) (eF E) (eT E) (eC E) T'.heap (locs ++ L) (k1 + 1) (k2 + 6) (eQ E) (F0 (eM E) pc ls st) q := by
      rw [hQ]
      rw [← e1] at hR1 hce9
      exact vx_out (fun x h => absurd h (fun h => hT9 x h)) hlk hce9 hcv hcl (fun t ht _ => ⟨n9, hv, hE9, ρ, V, hE, by rw [ht, ← hM]; exact hR1⟩) (fun q h => (List.mem_append.mp h).elim (hO q) (hL9 q)) hk.1 hk.2
    obtain ⟨t2, a1, b1⟩ := key T' rfl X'
    exact ⟨t2, stp.trans a1, b1⟩
theorem wr_reqOK (q : Nat) (hC : CX E G cc nL own ret d 1 6) {y : MethodName} {bytes : ByteArray} {maxL d' n index kc o : Nat} (As : List Value) (st : List Value) (hN : KN y bytes maxL none n) (hL : Cond.methodLink own index y ∈ ALLW ∧ Cond.instanceMethod y ∈ ALLW ∧ Cond.selects y.cls y y ∈ ALLW) (hM9 : MR E.2.1 y bytes maxL d' G ρ V (.ref (ρ kc o) :: As) M none) (hV : V kc o) (hc : KC kc y.cls)
    (hd : d' + 1 ≤ d) (hlo : 8 + (maxL + 11) + 64 * d' ≤ 64 * d) (hn : As.length = n) (hst : (st.map fun v => v.category).sum ≤ 8) (hdg : decode cc pc = .ok (.invokevirtual index, 3)) (hq : pc + 3 = q) (hk : k1 + 1 ≤ 1 ∧ k2 + 6 ≤ 6) (hs : As.reverse ++ .ref (ρ kc o) :: st = st') (kk : WA E G ρ V (k1 + 1) (k2 + 6) M q lv st) : WA E G ρ V k1 k2 M pc lv st' := by
  subst hq
  subst hs
  intro H locs ls hR hO hl T hT X
  obtain ⟨hx, hb, hml, hown, hts, hK, hr, hlk, hRm, hs0⟩ := hC
  obtain ⟨⟨T9, N9, hc⟩, hce⟩ := hc
  obtain ⟨fs, he⟩ := hce (gC G) ρ o (fun k j => M.1 kc k o j) (fun k j => M.2 kc k o j)
  obtain ⟨hlink, hinst, hsel⟩ := hL
  have hfr : (rmD d' 1 6).frames + 1 ≤ (eR E).frames ∧ 8 + (maxL + 11) + (rmD d' 1 6).locals ≤ (eR E).locals := ⟨Nat.le_trans hd hRm.1, Nat.le_trans hlo hRm.2.1⟩
  rcases vx_runV (Ts := ALLW) (C := y.cls) (n := n) (rest := st) (g := F0 (eM E) pc ls (As.reverse ++ .ref (ρ kc o) :: st)) (cells := k1) (slots := k2) ⟨hx, hb, rfl, hown, hts⟩ hM9 ⟨callB_of n hts hN.good rfl rfl rfl (hts _ hN.2.1) (hts _ hlink) hN.2.2 hfr, hts _ hinst, hts _ hsel⟩ ⟨PcT_blind G ρ V _ M, hR.recv hK hV he hc, fun U hU hW => ⟨rfl, by rw [hU]; exact hR, hK.warm hW⟩⟩ rfl hn hl.1 rfl (lv_room hst) hdg ⟨Nat.le_trans hk.1 hRm.2.2.1, Nat.le_trans hk.2 hRm.2.2.2⟩ T hT X with ⟨v, st₀, t, T', L, h0, X', hL9, e1, e2, ⟨hv9, hv, hR1⟩, stp⟩ | ⟨q, st₀, t, T', L, E9, ce9, h0, X', hL9, e1, e2, ⟨n9, hv9, -⟩, -⟩
  · cases hv
    obtain ⟨t2, a1, b1⟩ := kk T'.heap (locs ++ L) ls (by rw [e1]; exact hR1) (fun q h => (List.mem_append.mp h).elim (hO q) (hL9 q)) hl T' rfl X'
    exact ⟨t2, stp t2 a1, b1⟩
  · cases hv9
theorem wr_reqThrow {n9 : Nat} (hC : CX E G cc nL own ret d 1 6) {y : MethodName} {bytes : ByteArray} {maxL d' n index kc o : Nat} (As : List Value) (st : List Value) (hN : KN y bytes maxL none n) (hL : Cond.methodLink own index y ∈ ALLW ∧ Cond.instanceMethod y ∈ ALLW ∧ Cond.selects y.cls y y ∈ ALLW) (hM9 : MR E.2.1 y bytes maxL d' G ρ V (.ref (ρ kc o) :: As) M (some n9)) (hV : V kc o) (hc : KC kc y.cls)
    (hd : d' + 1 ≤ d) (hlo : 8 + (maxL + 11) + 64 * d' ≤ 64 * d) (hn : As.length = n) (hst : (st.map fun v => v.category).sum ≤ 8) (hdg : decode cc pc = .ok (.invokevirtual index, 3)) (hT9 : NoT E) {ov : Option Nat} (hQ : QXR E G ρ V ov M) (hv : ov = some n9) (hk : k1 + 1 ≤ 1 ∧ k2 + 6 ≤ 6) (hs : As.reverse ++ .ref (ρ kc o) :: st = st') : WA E G ρ V k1 k2 M pc lv st' := by
  subst hs
  intro H locs ls hR hO hl T hT X
  obtain ⟨hx, hb, hml, hown, hts, hK, hr, hlk, hRm, hs0⟩ := hC
  obtain ⟨⟨T9, N9, hc⟩, hce⟩ := hc
  obtain ⟨fs, he⟩ := hce (gC G) ρ o (fun k j => M.1 kc k o j) (fun k j => M.2 kc k o j)
  obtain ⟨hlink, hinst, hsel⟩ := hL
  have hfr : (rmD d' 1 6).frames + 1 ≤ (eR E).frames ∧ 8 + (maxL + 11) + (rmD d' 1 6).locals ≤ (eR E).locals := ⟨Nat.le_trans hd hRm.1, Nat.le_trans hlo hRm.2.1⟩
  rcases vx_runV (Ts := ALLW) (C := y.cls) (n := n) (rest := st) (g := F0 (eM E) pc ls (As.reverse ++ .ref (ρ kc o) :: st)) (cells := k1) (slots := k2) ⟨hx, hb, rfl, hown, hts⟩ hM9 ⟨callB_of n hts hN.good rfl rfl rfl (hts _ hN.2.1) (hts _ hlink) hN.2.2 hfr, hts _ hinst, hts _ hsel⟩ ⟨PcT_blind G ρ V _ M, hR.recv hK hV he hc, fun U hU hW => ⟨rfl, by rw [hU]; exact hR, hK.warm hW⟩⟩ rfl hn hl.1 rfl (lv_room hst) hdg ⟨Nat.le_trans hk.1 hRm.2.2.1, Nat.le_trans hk.2 hRm.2.2.2⟩ T hT X with ⟨v, st₀, t, T', L, h0, X', hL9, e1, e2, ⟨hv9, -⟩, -⟩ | ⟨q, st₀, t, T', L, E9, ce9, h0, X', hL9, e1, e2, ⟨e9, hv9, hE9, hR1⟩, hce9, hcv, hcl, stp⟩
  · cases hv9
  · cases hv9
    have key : vx_W E.1 E.2.1 E.2.2.1 (eR E) (eS E) (eM E) (eA E) (eF E) (eT E) (eC E) T'.heap (locs ++ L) (k1 + 1) (k2 + 6) (eQ E) (F0 (eM E) pc ls st) q := by
      rw [hQ]
      rw [← e1] at hR1 hce9
      exact vx_out (fun x h => absurd h (fun h => hT9 x h)) hlk hce9 hcv hcl (fun t ht _ => ⟨n9, hv, hE9, by rw [ht]; exact hR1⟩) (fun q h => (List.mem_append.mp h).elim (hO q) (hL9 q)) hk.1 hk.2
    obtain ⟨t2, a1, b1⟩ := key T' rfl X'
    exact ⟨t2, stp.trans a1, b1⟩
theorem wx_keep (q : Nat) (hC : CX E G cc nL own ret d mc ms) {y : MethodName} {bytes : ByteArray} {maxL d' n index kc o mk1 mk2 : Nat} (As : List Value) (st : List Value) (hN : KN y bytes maxL none n) (hL : MV own index y) (hM9 : MK E.2.1 y bytes maxL d' mk1 mk2 G ρ V (.ref (ρ kc o) :: As) M M') (hV : V kc o) (hc : KC kc y.cls)
    (hd : d' + 1 ≤ d) (hlo : 8 + (maxL + 11) + 64 * d' ≤ 64 * d) (hn : As.length = n) (hst : (st.map fun v => v.category).sum ≤ 8) (hdg : decode cc pc = .ok (.invokevirtual index, 3)) (hq : pc + 3 = q) (hk : k1 + mk1 ≤ mc ∧ k2 + mk2 ≤ ms) (hs : As.reverse ++ .ref (ρ kc o) :: st = st')
    (kk : ∀ ρ' V', Ext ρ V ρ' V' → VC V' → WA E G ρ' V' (k1 + mk1) (k2 + mk2) M' q lv st) : WA E G ρ V k1 k2 M pc lv st' := by
  subst hq
  subst hs
  intro H locs ls hR hO hl T hT X
  obtain ⟨hx, hb, hml, hown, hts, hK, hr, hlk, hRm, hs0⟩ := hC
  obtain ⟨⟨T9, N9, hc⟩, hce⟩ := hc
  obtain ⟨fs, he⟩ := hce (gC G) ρ o (fun k j => M.1 kc k o j) (fun k j => M.2 kc k o j)
  have hfr : (rmD d' mk1 mk2).frames + 1 ≤ (eR E).frames ∧ 8 + (maxL + 11) + (rmD d' mk1 mk2).locals ≤ (eR E).locals := ⟨Nat.le_trans hd hRm.1, Nat.le_trans hlo hRm.2.1⟩
  have hrun : va_Run E.1 E.2.1 E.2.2.1 (eR E) (eS E) (eM E) (eA E) (eF E) (eT E) (eC E) H locs k1 k2 mk1 mk2 (F0 (eM E) pc ls (As.reverse ++ .ref (ρ kc o) :: st)) st (QcK G ρ V M' (Value.ref (ρ kc o) :: As).toArray) (gA G) := by
    rcases hL with ⟨hlink | ⟨host, hlink⟩, hinst, hsel⟩
    · exact va_runV (Ts := ALLW) (C := y.cls) (n := n) ⟨hx, hb, rfl, hown, hts⟩ hM9 ⟨callB_of n hts hN.good rfl rfl rfl (hts _ hN.2.1) (hts _ hlink) hN.2.2 hfr, hts _ hinst, hts _ hsel⟩ ⟨PcT_blind G ρ V _ M, hR.recv hK hV he hc, fun U hU hW => ⟨rfl, by rw [hU]; exact hR, hK.warm hW⟩⟩ rfl hn hl.1 rfl (lv_room hst) hdg ⟨Nat.le_trans hk.1 hRm.2.2.1, Nat.le_trans hk.2 hRm.2.2.2⟩
    · exact va_runVN (Ts := ALLW) (C := y.cls) (n := n) ⟨hx, hb, rfl, hown, hts⟩ hM9 ⟨va_cnB n hts hN.good rfl rfl rfl (hK.2.1 _ hlink) (hts _ hN.2.1) hN.2.2 hfr, hts _ hinst, hts _ hsel⟩ ⟨PcT_blind G ρ V _ M, hR.recv hK hV he hc, fun U hU hW => ⟨rfl, by rw [hU]; exact hR, hK.warm hW⟩⟩ rfl hn hl.1 rfl (lv_room hst) hdg ⟨Nat.le_trans hk.1 hRm.2.2.1, Nat.le_trans hk.2 hRm.2.2.2⟩
  obtain ⟨v, st₀, t, T', L, h0, X', hL9, e1, e2, ⟨hv, ρ', V', hE, hR1⟩, stp⟩ := hrun T hT X
  cases hv
  obtain ⟨t2, a1, b1⟩ := kk ρ' V' hE hR1.vc T'.heap (locs ++ L) ls (by rw [e1]; exact hR1) (fun q h => (List.mem_append.mp h).elim (hO q) (hL9 q)) hl T' rfl X'
  exact ⟨t2, stp t2 a1, b1⟩
end VXR
theorem xw_IllegalStateException : XW RX9 66 70 "java/lang/IllegalStateException" ["java/lang/RuntimeException", "java/lang/Exception"] := XW.of (by decide +kernel) (by decide +kernel) (inW 595 (by decide +kernel) (by decide +kernel)) (inW 142 (by decide +kernel) (by decide +kernel)) (by decide +kernel) (by decide +kernel) rfl
theorem xw_IllegalArgumentException : XW RX9 80 84 "java/lang/IllegalArgumentException" ["java/lang/RuntimeException", "java/lang/Exception"] := XW.of (by decide +kernel) (by decide +kernel) (inW 675 (by decide +kernel) (by decide +kernel)) (inW 143 (by decide +kernel) (by decide +kernel)) (by decide +kernel) (by decide +kernel) rfl
theorem xw_IndexOutOfBoundsException : XW RX9 353 357 "java/lang/IndexOutOfBoundsException" ["java/lang/RuntimeException", "java/lang/Exception"] := XW.of (by decide +kernel) (by decide +kernel) (inW 844 (by decide +kernel) (by decide +kernel)) (inW 151 (by decide +kernel) (by decide +kernel)) (by decide +kernel) (by decide +kernel) rfl
