/-! Contracts of methods over the world RP, and calls. -/
def rmD (d mc ms : Nat) : Room := { frames := d, cells := mc, slots := ms, locals := 64 * d }
abbrev PcT (D : va_G) (cy : Nat → ClassId) (ρ : Nat → Nat → Nat) (V : Nat → Nat → Prop) (B : Nat) (H0 : Heap) (av : List Value) (M : sM) : Array Value → State → Prop := va_Pc av (fun U => RP D cy ρ V B H0 M U.heap ∧ KK D cy U)
abbrev QcT (D : va_G) (cy : Nat → ClassId) (ρ : Nat → Nat → Nat) (V : Nat → Nat → Prop) (B : Nat) (H0 : Heap) (rv : Option Value) (M' : sM) : Array Value → State → Outcome → State → Prop := fun _ _ oc t => oc = .returned rv ∧ RP D cy ρ V B H0 M' t.heap
/-- the method y, called with av over the memory M, returns rv, the memory is M' then; no object comes -/
def MT (l : Launch) (y : MethodName) (cc : ByteArray) (maxL : Nat) (ret : Option FieldType) (d : Nat) (D : va_G) (cy : Nat → ClassId) (ρ : Nat → Nat → Nat) (V : Nat → Nat → Prop) (B : Nat) (H0 : Heap) (av : List Value) (M : sM) (rv : Option Value) (M' : sM) : Prop :=
  Met l y (.code y cc maxL ret :: ALLW) (rmD d 0 0) (PcT D cy ρ V B H0 av M) (QcT D cy ρ V B H0 rv M') 0 0 (fun a => B ≤ a)
/-- a method's place pc, with the variables lv and the stack st, over the memory M -/
def WA (p : Program) (l : Launch) (e : Env) (R : Room) (s : State) (m : MethodId) (args : Array Value) (below : List Frame) (meth : Method) (c : Code) (D : va_G) (cy : Nat → ClassId) (ρ : Nat → Nat → Nat) (V : Nat → Nat → Prop) (B : Nat) (H0 : Heap) (nL cells slots : Nat) (Q : State → Prop) (M : sM) (pc : Nat) (lv : List (Nat × Value)) (st : List Value) : Prop :=
  ∀ (H : Heap) (locs : List Loc) (ls : Array Slot), RP D cy ρ V B H0 M H → LO B locs → lv_has ls nL lv → W p l e R s m args below meth c H locs cells slots Q (F0 m pc ls st)
section VVC
variable {l : Launch} {D : va_G} {cy : Nat → ClassId} {ρ : Nat → Nat → Nat} {V : Nat → Nat → Prop} {B : Nat} {H0 : Heap} {M M' : sM}
theorem vv_enter {y : MethodName} {cc : ByteArray} {maxL : Nat} {ret : Option FieldType} {d : Nat} {av : List Value} {rv : Option Value} (hy : plainName y.cls = true) (hlen : (lg_sl av).length ≤ maxL)
    (body : ∀ (p : Program) (e : Env) (s : State) (m : MethodId) (below : List Frame) (meth : Method) (c : Code), CX p s m av.toArray meth c D cy cc maxL y.cls ret → WA p l e (rmD d 0 0) s m av.toArray below meth c D cy ρ V B H0 maxL 0 0 (MQ below (QcT D cy ρ V B H0 rv M') av.toArray s 0 0 (fun a => B ≤ a)) M 0 (lv_args 0 av) []) :
    MT l y cc maxL ret d D cy ρ V B H0 av M rv M' := by
  refine Met.ofW (cc := cc) (maxL := maxL) (ret := ret) hy rfl ?_
  intro p e s m args below meth c s₁ Bd hml hv
  obtain ⟨rfl, hR, hK⟩ := hv
  have hts := atoms_spec (ws := .code y cc maxL ret :: ALLW) Bd.pre
  have hl := lv_entry av (n := maxL) hlen
  rw [lg_entry_eq]
  exact body p e s m below meth c ⟨Bd.exec, Bd.bytes, hml, findClass_of_methodNamed Bd.named, fun w hw => hts w (List.mem_cons_of_mem _ hw), hK, Bd.returns, Bd.notSynchronized⟩ s.heap [] _ hR (fun _ h => by cases h) hl
end VVC
section VVD
variable {p : Program} {l : Launch} {e : Env} {R : Room} {s : State} {m : MethodId} {args : Array Value} {below : List Frame} {meth : Method} {c : Code} {H : Heap} {locs : List Loc} {cells slots : Nat} {Q : State → Prop}
variable {cc : ByteArray} {pc nL : Nat} {ls : Array Slot} {rest : List Value} {D : va_G} {cy : Nat → ClassId} {ρ : Nat → Nat → Nat} {V : Nat → Nat → Prop} {B : Nat} {H0 : Heap} {M M' : sM} {own : String} {ret : Option FieldType}
theorem vv_iret {v r : Int32} (hC : CX p s m args meth c D cy cc nL own (some .int)) (hR : RP D cy ρ V B H0 M H) (hO : LO B locs) (h : some (v, M) = some (r, M')) (hdg : decode cc pc = .ok (.ireturn, 1)) :
    W p l e R s m args below meth c H locs cells slots (MQ below (QcT D cy ρ V B H0 (some (.int r)) M') args s cells slots (fun a => B ≤ a)) (F0 m pc ls [.int v]) := by
  cases h
  exact W.iret hC.1 hC.2.1 hC.2.2.2.2.2.2.1 (fun t ht _ => ⟨rfl, by rw [ht]; exact hR⟩) hO hdg hC.2.2.2.2.2.2.2
theorem vv_zret {v r : Int32} (hC : CX p s m args meth c D cy cc nL own (some .boolean)) (hR : RP D cy ρ V B H0 M H) (hO : LO B locs) (h : some (v, M) = some (r, M')) (hn : narrow .boolean (.int v) = .int v) (hdg : decode cc pc = .ok (.ireturn, 1)) :
    W p l e R s m args below meth c H locs cells slots (MQ below (QcT D cy ρ V B H0 (some (.int r)) M') args s cells slots (fun a => B ≤ a)) (F0 m pc ls [.int v]) := by
  cases h
  exact W.zret hC.1 hC.2.1 hC.2.2.2.2.2.2.1 hn (fun t ht _ => ⟨rfl, by rw [ht]; exact hR⟩) hO hdg hC.2.2.2.2.2.2.2
theorem vv_lret {v r : Int64} (hC : CX p s m args meth c D cy cc nL own (some .long)) (hR : RP D cy ρ V B H0 M H) (hO : LO B locs) (h : some (v, M) = some (r, M')) (hdg : decode cc pc = .ok (.lreturn, 1)) :
    W p l e R s m args below meth c H locs cells slots (MQ below (QcT D cy ρ V B H0 (some (.long r)) M') args s cells slots (fun a => B ≤ a)) (F0 m pc ls [.long v]) := by
  cases h
  exact W.lret hC.1 hC.2.1 hC.2.2.2.2.2.2.1 (fun t ht _ => ⟨rfl, by rw [ht]; exact hR⟩) hO hdg hC.2.2.2.2.2.2.2
theorem vv_vret {r : Unit} (hC : CX p s m args meth c D cy cc nL own none) (hR : RP D cy ρ V B H0 M H) (hO : LO B locs) (h : some ((), M) = some (r, M')) (hdg : decode cc pc = .ok (.return_, 1)) :
    W p l e R s m args below meth c H locs cells slots (MQ below (QcT D cy ρ V B H0 none M') args s cells slots (fun a => B ≤ a)) (F0 m pc ls []) := by
  cases h
  exact W.vret hC.1 hC.2.1 hC.2.2.2.2.2.2.1 (fun t ht _ => ⟨rfl, by rw [ht]; exact hR⟩) hO hdg hC.2.2.2.2.2.2.2
theorem vv_ofRun {rv : Option Value} {st0 : List Value} {a : Array Value} (hO : LO B locs) (hr : va_Run p l e R s m args below meth c H locs cells slots 0 0 (F0 m pc ls st0) rest (QcT D cy ρ V B H0 rv M' a) (fun a => B ≤ a))
    (kk : ∀ (H1 : Heap) (locs1 : List Loc), RP D cy ρ V B H0 M' H1 → LO B locs1 → W p l e R s m args below meth c H1 locs1 cells slots Q (F0 m (pc + 3) ls (rv.toList ++ rest))) : W p l e R s m args below meth c H locs cells slots Q (F0 m pc ls st0) := by
  intro T hT X
  obtain ⟨v, st₀, t, T', L, h0, X', hL, e1, e2, ⟨hv, hq⟩, st⟩ := hr T hT X
  cases hv
  obtain ⟨t2, a1, b1⟩ := kk T'.heap (locs ++ L) (by rw [e1]; exact hq) (fun q h => (List.mem_append.mp h).elim (hO q) (hL q)) T' rfl X'
  exact ⟨t2, st t2 a1, b1⟩
theorem PcT_blind (D : va_G) (cy : Nat → ClassId) (ρ : Nat → Nat → Nat) (V : Nat → Nat → Prop) (B : Nat) (H0 : Heap) (av : List Value) (M : sM) : FrameBlind (PcT D cy ρ V B H0 av M) := by
  intro a U g mk h
  obtain ⟨h1, h2, h3, h4⟩ := h
  refine ⟨h1, h2, va_K.moved (u := U) (U := U.calling g mk a) (Vm.Alike.refl U.vm) h3, fun w hw => ?_⟩
  have hw2 := (List.mem_filter.mp hw).2
  exact va_Nw.same (u := U) (U := U.calling g mk a) (by cases w <;> first | rfl | (simp [isNestW] at hw2)) rfl (h4 w hw)
theorem RP.recv (hR : RP D cy ρ V B H0 M H) (hK : KK D cy s) {kc o ci N : Nat} {C : String} {T : u_T} {fs : List Value} (hV : V kc o) (he : ce cy ρ M kc o = .inr (ci, fs)) (hc : vwCl[ci]? = some (C, T, N)) : ∃ cell : Cell, H[ρ kc o]? = some cell ∧ cell.vm.isStatics = false ∧ s.vm.findClass C = some cell.cls := by
  obtain ⟨r, h1, cell, q1, q2, q3, q4⟩ := hR.P hV he 0 _ rfl
  have hr : r = (C, T, N) := Option.some.inj (h1.symm.trans hc)
  subst hr
  exact ⟨cell, q1, by rw [q3]; rfl, by rw [q2]; exact (hK.1.1 ci _ hc).2.1⟩
/-- what a caller must know of a callee, whatever the call: by program, once a callee -/
def KN (y : MethodName) (cc : ByteArray) (maxL : Nat) (ret : Option FieldType) (n : Nat) : Prop :=
  Cond.code y cc maxL ret ∈ ALLW ∧ Cond.initialized y.cls ∈ ALLW ∧ (y.cls ≠ "java/lang/invoke/MethodHandle" ∧ y.cls ≠ "java/lang/invoke/VarHandle" ∧ (parseMethodDescriptor y.desc).map (fun d => d.parameters.length) = some n)
theorem KN.good {y : MethodName} {cc : ByteArray} {maxL : Nat} {ret : Option FieldType} {n : Nat} (h : KN y cc maxL ret n) : GoodIn ALLW (.code y cc maxL ret :: ALLW) := ALLW_good _ (fun w hw => by
  rcases List.mem_cons.mp hw with e | e
  · rw [e]; exact h.1
  · exact e)
theorem vv_callV {y : MethodName} {bytes : ByteArray} {maxL d n index : Nat} {ret' : Option FieldType} {As : List Value} {rv : Option Value} {kc o ci N : Nat} {T : u_T} {fs : List Value} (hC : CX p s m args meth c D cy cc nL own ret) (hR : RP D cy ρ V B H0 M H) (hO : LO B locs) (hls : ls.size = nL)
    (hN : KN y bytes maxL ret' n) (hlink : Cond.methodLink own index y ∈ ALLW) (hinst : Cond.instanceMethod y ∈ ALLW) (hsel : Cond.selects y.cls y y ∈ ALLW) (hM : MT l y bytes maxL ret' d D cy ρ V B H0 (.ref (ρ kc o) :: As) M rv M') (hV : V kc o) (he : ce cy ρ M kc o = .inr (ci, fs)) (hc : vwCl[ci]? = some (y.cls, T, N))
    (hfr : d + 1 ≤ R.frames) (hlo : 8 + (maxL + 11) + 64 * d ≤ R.locals) (hn : As.length = n) (hst : (rest.map fun v => v.category).sum ≤ 8) (hdg : decode cc pc = .ok (.invokevirtual index, 3)) (hf : cells ≤ R.cells ∧ slots ≤ R.slots)
    (kk : ∀ (H1 : Heap) (locs1 : List Loc), RP D cy ρ V B H0 M' H1 → LO B locs1 → W p l e R s m args below meth c H1 locs1 cells slots Q (F0 m (pc + 3) ls (rv.toList ++ rest))) : W p l e R s m args below meth c H locs cells slots Q (F0 m pc ls (As.reverse ++ .ref (ρ kc o) :: rest)) := by
  obtain ⟨hx, hb, hml, hown, hts, hK, hr, hlk⟩ := hC
  refine vv_ofRun hO (va_runV (Ts := ALLW) (C := y.cls) (n := n) ⟨hx, hb, hml, hown, hts⟩ hM ⟨callB_of n hts hN.good rfl rfl rfl (hts _ hN.2.1) (hts _ hlink) hN.2.2 ⟨hfr, hlo⟩, hts _ hinst, hts _ hsel⟩ ⟨PcT_blind D cy ρ V B H0 _ M, hR.recv hK hV he hc, fun U hU hW => ⟨rfl, by rw [hU]; exact hR, hK.warm hW⟩⟩ rfl hn hls rfl (lv_room hst) hdg hf) kk
theorem vv_callVN {y : MethodName} {bytes : ByteArray} {maxL d n index : Nat} {ret' : Option FieldType} {As : List Value} {rv : Option Value} {kc o ci N : Nat} {T : u_T} {fs : List Value} {host : String} (hC : CX p s m args meth c D cy cc nL own ret) (hR : RP D cy ρ V B H0 M H) (hO : LO B locs) (hls : ls.size = nL)
    (hN : KN y bytes maxL ret' n) (hlink : Cond.methodLinkNest own index y host ∈ NW) (hinst : Cond.instanceMethod y ∈ ALLW) (hsel : Cond.selects y.cls y y ∈ ALLW) (hM : MT l y bytes maxL ret' d D cy ρ V B H0 (.ref (ρ kc o) :: As) M rv M') (hV : V kc o) (he : ce cy ρ M kc o = .inr (ci, fs)) (hc : vwCl[ci]? = some (y.cls, T, N))
    (hfr : d + 1 ≤ R.frames) (hlo : 8 + (maxL + 11) + 64 * d ≤ R.locals) (hn : As.length = n) (hst : (rest.map fun v => v.category).sum ≤ 8) (hdg : decode cc pc = .ok (.invokevirtual index, 3)) (hf : cells ≤ R.cells ∧ slots ≤ R.slots)
    (kk : ∀ (H1 : Heap) (locs1 : List Loc), RP D cy ρ V B H0 M' H1 → LO B locs1 → W p l e R s m args below meth c H1 locs1 cells slots Q (F0 m (pc + 3) ls (rv.toList ++ rest))) : W p l e R s m args below meth c H locs cells slots Q (F0 m pc ls (As.reverse ++ .ref (ρ kc o) :: rest)) := by
  obtain ⟨hx, hb, hml, hown, hts, hK, hr, hlk⟩ := hC
  refine vv_ofRun hO (va_runVN (Ts := ALLW) (C := y.cls) (n := n) ⟨hx, hb, hml, hown, hts⟩ hM ⟨va_cnB n hts hN.good rfl rfl rfl (hK.2 _ hlink) (hts _ hN.2.1) hN.2.2 ⟨hfr, hlo⟩, hts _ hinst, hts _ hsel⟩ ⟨PcT_blind D cy ρ V B H0 _ M, hR.recv hK hV he hc, fun U hU hW => ⟨rfl, by rw [hU]; exact hR, hK.warm hW⟩⟩ rfl hn hls rfl (lv_room hst) hdg hf) kk
theorem vv_callS {y : MethodName} {bytes : ByteArray} {maxL d n index : Nat} {ret' : Option FieldType} {As : List Value} {rv : Option Value} (hC : CX p s m args meth c D cy cc nL own ret) (hR : RP D cy ρ V B H0 M H) (hO : LO B locs) (hls : ls.size = nL)
    (hN : KN y bytes maxL ret' n) (hlink : Cond.methodLink own index y ∈ ALLW) (hstat : Cond.static y ∈ ALLW) (hM : MT l y bytes maxL ret' d D cy ρ V B H0 As M rv M')
    (hfr : d + 1 ≤ R.frames) (hlo : 8 + (maxL + 11) + 64 * d ≤ R.locals) (hn : As.length = n) (hst : (rest.map fun v => v.category).sum ≤ 8) (hdg : decode cc pc = .ok (.invokestatic index, 3)) (hf : cells ≤ R.cells ∧ slots ≤ R.slots)
    (kk : ∀ (H1 : Heap) (locs1 : List Loc), RP D cy ρ V B H0 M' H1 → LO B locs1 → W p l e R s m args below meth c H1 locs1 cells slots Q (F0 m (pc + 3) ls (rv.toList ++ rest))) : W p l e R s m args below meth c H locs cells slots Q (F0 m pc ls (As.reverse ++ rest)) := by
  obtain ⟨hx, hb, hml, hown, hts, hK, hr, hlk⟩ := hC
  refine vv_ofRun hO (va_runS (Ts := ALLW) (n := n) ⟨hx, hb, hml, hown, hts⟩ hM ⟨callB_of n hts hN.good rfl rfl rfl (hts _ hN.2.1) (hts _ hlink) hN.2.2 ⟨hfr, hlo⟩, hts _ hstat⟩ ⟨PcT_blind D cy ρ V B H0 _ M, fun U hU hW => ⟨rfl, by rw [hU]; exact hR, hK.warm hW⟩⟩ rfl hn hls rfl (lv_room hst) hdg hf) kk
theorem vv_callSN {y : MethodName} {bytes : ByteArray} {maxL d n index : Nat} {ret' : Option FieldType} {As : List Value} {rv : Option Value} {host : String} (hC : CX p s m args meth c D cy cc nL own ret) (hR : RP D cy ρ V B H0 M H) (hO : LO B locs) (hls : ls.size = nL)
    (hN : KN y bytes maxL ret' n) (hlink : Cond.methodLinkNest own index y host ∈ NW) (hstat : Cond.static y ∈ ALLW) (hM : MT l y bytes maxL ret' d D cy ρ V B H0 As M rv M')
    (hfr : d + 1 ≤ R.frames) (hlo : 8 + (maxL + 11) + 64 * d ≤ R.locals) (hn : As.length = n) (hst : (rest.map fun v => v.category).sum ≤ 8) (hdg : decode cc pc = .ok (.invokestatic index, 3)) (hf : cells ≤ R.cells ∧ slots ≤ R.slots)
    (kk : ∀ (H1 : Heap) (locs1 : List Loc), RP D cy ρ V B H0 M' H1 → LO B locs1 → W p l e R s m args below meth c H1 locs1 cells slots Q (F0 m (pc + 3) ls (rv.toList ++ rest))) : W p l e R s m args below meth c H locs cells slots Q (F0 m pc ls (As.reverse ++ rest)) := by
  obtain ⟨hx, hb, hml, hown, hts, hK, hr, hlk⟩ := hC
  refine vv_ofRun hO (va_runSN (Ts := ALLW) (n := n) ⟨hx, hb, hml, hown, hts⟩ hM ⟨va_cnB n hts hN.good rfl rfl rfl (hK.2 _ hlink) (hts _ hN.2.1) hN.2.2 ⟨hfr, hlo⟩, hts _ hstat, trivial⟩ ⟨PcT_blind D cy ρ V B H0 _ M, fun U hU hW => ⟨rfl, by rw [hU]; exact hR, hK.warm hW⟩⟩ rfl hn hls rfl (lv_room hst) hdg hf) kk
end VVD
/-! Small rows by which a function's text is taken apart. -/
def gd {α : Type} (b : Bool) (k : Option α) : Option α := match b with
  | true => k
  | false => none
theorem gd_some {α : Type} {b : Bool} {k : Option α} {r : α} (h : gd b k = some r) : b = true ∧ k = some r := by
  cases b
  · cases h
  · exact ⟨rfl, h⟩
def ltb {α β : Type} (v : α) (k : α → β) : β := k v
theorem ltb_some {α β : Type} {v : α} {k : α → β} {r : β} (h : ltb v k = r) : ∃ x, x = v ∧ k x = r := ⟨v, rfl, h⟩
theorem bd_some {α β : Type} {f : Option α} {k : α → Option β} {r : β} (h : f.bind k = some r) : ∃ a, f = some a ∧ k a = some r := by
  cases f with
  | none => cases h
  | some a => exact ⟨a, rfl, h⟩
theorem ite_some {c : Prop} [Decidable c] {α : Type} {a b : Option α} {r : α} (h : (if c then a else b) = some r) : (c → a = some r) ∧ (¬ c → b = some r) := by
  constructor
  · intro hc
    rw [if_pos hc] at h
    exact h
  · intro hc
    rw [if_neg hc] at h
    exact h
