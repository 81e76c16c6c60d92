/-! Rows over the world RP: fields and arrays. -/
/-- what holds in a method's body -/
def CX (p : Program) (s : State) (m : MethodId) (args : Array Value) (meth : Method) (c : Code) (D : va_G) (cy : Nat → ClassId) (cc : ByteArray) (nL : Nat) (own : String) (ret : Option FieldType) : Prop :=
  p.tables.exec = Jvm.exec ∧ c.code = cc ∧ c.maxLocals = nL ∧ s.vm.findClass own = some m.cls ∧ (∀ w ∈ ALLW, w.before args s = true) ∧ KK D cy s ∧ meth.sig.returnType = ret ∧ meth.locks = false
section VVR
variable {p : Program} {l : Launch} {e : Env} {R : Room} {s : State} {m : MethodId} {args : Array Value} {below : List Frame} {meth : Method} {c : Code} {H : Heap} {locs : List Loc} {cells slots : Nat} {Q : State → Prop}
variable {cc : ByteArray} {pc nL : Nat} {ls : Array Slot} {rest : List Value} {D : va_G} {cy : Nat → ClassId} {ρ : Nat → Nat → Nat} {V : Nat → Nat → Prop} {B : Nat} {H0 : Heap} {M : sM} {own : String} {ret : Option FieldType}
theorem RP.P (hR : RP D cy ρ V B H0 M H) {kc o : Nat} (hV : V kc o) {x : va_E} (he : ce cy ρ M kc o = x) : va_P D vwCl [(ρ kc o, x)] H := by
  intro k q hq
  match k, hq with
  | 0, hq =>
    cases hq
    rw [← he]
    exact (hR.1 kc o hV).1
  | k + 1, hq => simp at hq
theorem vv_get (hC : CX p s m args meth c D cy cc nL own ret) (hR : RP D cy ρ V B H0 M H) {kc o ci N index k : Nat} {C ref : String} {T : u_T} {fs : List Value} {v : Value} (hV : V kc o) (he : ce cy ρ M kc o = .inr (ci, fs)) (hc : vwCl[ci]? = some (C, T, N)) (hin : ∀ w ∈ u_ws C T N, w ∈ ALLW) (hk : k < N) (hlink : Cond.fieldLink own index ref (T k).2.1 (T k).2.2.1 ∈ ALLW) (href : (T k).1 = ref) (hv : fs[k]? = some v) (hdg : decode cc pc = .ok (.getfield index, 3))
    (kk : W p l e R s m args below meth c H locs cells slots Q (F0 m (pc + 3) ls (v :: rest))) : W p l e R s m args below meth c H locs cells slots Q (F0 m pc ls (.ref (ρ kc o) :: rest)) := by
  obtain ⟨hx, hb, hml, hown, hts, hK, hr, hlk⟩ := hC
  exact va_get hx hb hts hin hown hK.1 (hR.P hV he) 0 rfl hc k hk (hts _ hlink) (fun x hx => by rw [← href]; exact hx) hv hdg kk
theorem vv_getN (hC : CX p s m args meth c D cy cc nL own ret) (hR : RP D cy ρ V B H0 M H) {kc o ci N index k : Nat} {C ref host : String} {T : u_T} {fs : List Value} {v : Value} (hV : V kc o) (he : ce cy ρ M kc o = .inr (ci, fs)) (hc : vwCl[ci]? = some (C, T, N)) (hin : ∀ w ∈ u_ws C T N, w ∈ ALLW) (hk : k < N) (hlink : Cond.fieldLinkNest own index ref (T k).2.1 (T k).2.2.1 host ∈ NW) (href : (T k).1 = ref) (hv : fs[k]? = some v) (hdg : decode cc pc = .ok (.getfield index, 3))
    (kk : W p l e R s m args below meth c H locs cells slots Q (F0 m (pc + 3) ls (v :: rest))) : W p l e R s m args below meth c H locs cells slots Q (F0 m pc ls (.ref (ρ kc o) :: rest)) := by
  obtain ⟨hx, hb, hml, hown, hts, hK, hr, hlk⟩ := hC
  exact va_getN hx hb hts hin hown hK.1 (hR.P hV he) 0 rfl hc k hk (va_Nw.use rfl (hK.2 _ hlink)) (fun x hx => by rw [← href]; exact hx) hv hdg kk
/-- a store into a field, the world told by its new memory -/
theorem vv_put (hC : CX p s m args meth c D cy cc nL own ret) (hR : RP D cy ρ V B H0 M H) (hO : LO B locs) {M' : sM} {kc o ci N index k : Nat} {C ref : String} {T : u_T} {fs : List Value} {v : Value} (hV : V kc o) (he : ce cy ρ M kc o = .inr (ci, fs)) (he' : ce cy ρ M' kc o = .inr (ci, fs.set k v)) (hne : ∀ c' o', ¬ (c' = kc ∧ o' = o) → ce cy ρ M' c' o' = ce cy ρ M c' o') (hrg : ∀ j, j < 6 → ¬ M'.1 21 0 0 j = 0 → ¬ M.1 21 0 0 j = 0)
    (hc : vwCl[ci]? = some (C, T, N)) (hin : ∀ w ∈ u_ws C T N, w ∈ ALLW) (ty0 : Nat → FieldType) (hty : ∀ k, k < N → parseFieldDescriptor (T k).2.2.1 = some (ty0 k)) (hnm : ∀ a, a < N → ∀ b, b < N → a ≠ b → (T a).2.1 ≠ (T b).2.1) (hk : k < N) (hlink : Cond.fieldLink own index ref (T k).2.1 (T k).2.2.1 ∈ ALLW) (href : (T k).1 = ref) (hfin : (T k).2.2.2 = false) {ty : FieldType} (hd : parseFieldDescriptor (T k).2.2.1 = some ty) (hn : narrow ty v = v) (hfit : fits ty v = true) (hl : k < fs.length)
    (hdg : decode cc pc = .ok (.putfield index, 3)) (kk : ∀ (H1 : Heap) (locs1 : List Loc), RP D cy ρ V B H0 M' H1 → LO B locs1 → W p l e R s m args below meth c H1 locs1 cells slots Q (F0 m (pc + 3) ls rest)) : W p l e R s m args below meth c H locs cells slots Q (F0 m pc ls (v :: .ref (ρ kc o) :: rest)) := by
  obtain ⟨hx, hb, hml, hown, hts, hK, hr, hlk⟩ := hC
  have hP := hR.P hV he
  have hap := va_apart (own := own) hts hin ty0 hty hnm hK.1 hc
  obtain ⟨r, h1, cell, q1, q2, q3, q4⟩ := hP 0 _ rfl
  have hr : r = (C, T, N) := Option.some.inj (h1.symm.trans hc)
  subst hr
  obtain ⟨hS, hfc, kC, hkC, hkind⟩ := hK.1.1 ci _ hc
  obtain ⟨cf, kf, fi, f, hi, hsl⟩ := hS k hk
  have hlay := hts _ (hin _ (u_in_lay hk))
  unfold u_lay at hlay
  rw [if_neg (by rw [hfin]; decide)] at hlay
  have hst := (u_facts hfc hkC (u_lays hts hin hk) hi).1
  have h6 := u_store hfc hkC hkind hlay hi hd hn hfit
  refine W.putK hx hb (f := f) ⟨hown, hts _ hlink, ⟨_, _, _, by rw [← href]; exact hi⟩, hst⟩ (by rw [q2]; exact h6) q1 q3 (by rw [hsl]; exact k2_hasslot (q4 k hk)) rfl rfl hdg fun H' e1 e2 e3 => ?_
  rw [hsl] at e1 ⊢
  refine kk H' _ (hR.put hV e2 e3 ?_ hne hrg) (fun q hq => ?_)
  · rw [he']
    exact ⟨_, hc, t_OB.to (V := updV (vp_V fs) k v) ⟨_, e1, q2, q3, t_set q4 hap hk v⟩ (fun j _ => vp_updV_set hl v j)⟩
  · rcases List.mem_append.mp hq with h | h
    · exact hO q h
    · rw [List.mem_singleton.mp h]
      exact (hR.1 kc o hV).2
theorem vv_putN (hC : CX p s m args meth c D cy cc nL own ret) (hR : RP D cy ρ V B H0 M H) (hO : LO B locs) {M' : sM} {kc o ci N index k : Nat} {C ref host : String} {T : u_T} {fs : List Value} {v : Value} (hV : V kc o) (he : ce cy ρ M kc o = .inr (ci, fs)) (he' : ce cy ρ M' kc o = .inr (ci, fs.set k v)) (hne : ∀ c' o', ¬ (c' = kc ∧ o' = o) → ce cy ρ M' c' o' = ce cy ρ M c' o') (hrg : ∀ j, j < 6 → ¬ M'.1 21 0 0 j = 0 → ¬ M.1 21 0 0 j = 0)
    (hc : vwCl[ci]? = some (C, T, N)) (hin : ∀ w ∈ u_ws C T N, w ∈ ALLW) (ty0 : Nat → FieldType) (hty : ∀ k, k < N → parseFieldDescriptor (T k).2.2.1 = some (ty0 k)) (hnm : ∀ a, a < N → ∀ b, b < N → a ≠ b → (T a).2.1 ≠ (T b).2.1) (hk : k < N) (hlink : Cond.fieldLinkNest own index ref (T k).2.1 (T k).2.2.1 host ∈ NW) (href : (T k).1 = ref) (hfin : (T k).2.2.2 = false) {ty : FieldType} (hd : parseFieldDescriptor (T k).2.2.1 = some ty) (hn : narrow ty v = v) (hfit : fits ty v = true) (hl : k < fs.length)
    (hdg : decode cc pc = .ok (.putfield index, 3)) (kk : ∀ (H1 : Heap) (locs1 : List Loc), RP D cy ρ V B H0 M' H1 → LO B locs1 → W p l e R s m args below meth c H1 locs1 cells slots Q (F0 m (pc + 3) ls rest)) : W p l e R s m args below meth c H locs cells slots Q (F0 m pc ls (v :: .ref (ρ kc o) :: rest)) := by
  obtain ⟨hx, hb, hml, hown, hts, hK, hr, hlk⟩ := hC
  have hP := hR.P hV he
  have hap := va_apart (own := own) hts hin ty0 hty hnm hK.1 hc
  obtain ⟨r, h1, cell, q1, q2, q3, q4⟩ := hP 0 _ rfl
  have hr : r = (C, T, N) := Option.some.inj (h1.symm.trans hc)
  subst hr
  obtain ⟨hS, hfc, kC, hkC, hkind⟩ := hK.1.1 ci _ hc
  obtain ⟨cf, kf, fi, f, hi, hsl⟩ := hS k hk
  have hlay := hts _ (hin _ (u_in_lay hk))
  unfold u_lay at hlay
  rw [if_neg (by rw [hfin]; decide)] at hlay
  have hst := (u_facts hfc hkC (u_lays hts hin hk) hi).1
  have h6 := u_store hfc hkC hkind hlay hi hd hn hfit
  refine va_WputK hx hb (f := f) hown (va_Nw.use rfl (hK.2 _ hlink)) (by rw [← href]; exact hi) hst (by rw [q2]; exact h6) q1 q3 (by rw [hsl]; exact k2_hasslot (q4 k hk)) rfl rfl hdg fun H' e1 e2 e3 => ?_
  rw [hsl] at e1 ⊢
  refine kk H' _ (hR.put hV e2 e3 ?_ hne hrg) (fun q hq => ?_)
  · rw [he']
    exact ⟨_, hc, t_OB.to (V := updV (vp_V fs) k v) ⟨_, e1, q2, q3, t_set q4 hap hk v⟩ (fun j _ => vp_updV_set hl v j)⟩
  · rcases List.mem_append.mp hq with h | h
    · exact hO q h
    · rw [List.mem_singleton.mp h]
      exact (hR.1 kc o hV).2
/-- an index within, as the functions test it -/
def inb (i : Int32) (n : Nat) : Bool := decide (¬ (i < 0 ∨ n ≤ i.toNatClampNeg))
theorem inb_in {i : Int32} {n : Nat} (h : inb i n = true) : vp_in i n := of_decide_eq_true (p := ¬ (i < 0 ∨ n ≤ i.toNatClampNeg)) h
theorem vv_iald (hC : CX p s m args meth c D cy cc nL own ret) (hR : RP D cy ρ V B H0 M H) {kc o n : Nat} {f : Nat → Int32} {i : Int32} (hV : V kc o) (he : ce cy ρ M kc o = .inl (cy 0, n, .inl f)) (hi : inb i n = true) (hdg : decode cc pc = .ok (.iaload, 1))
    (kk : W p l e R s m args below meth c H locs cells slots Q (F0 m (pc + 1) ls (.int (f i.toNatClampNeg) :: rest))) : W p l e R s m args below meth c H locs cells slots Q (F0 m pc ls (.int i :: .ref (ρ kc o) :: rest)) := by
  obtain ⟨hx, hb, hml, hown, hts, hK, hr, hlk⟩ := hC
  exact va_iald hx hb hK.1 (hR.P hV he) 0 0 rfl rfl (inb_in hi) hdg kk
theorem vv_lald (hC : CX p s m args meth c D cy cc nL own ret) (hR : RP D cy ρ V B H0 M H) {kc o n : Nat} {f : Nat → Int64} {i : Int32} (hV : V kc o) (he : ce cy ρ M kc o = .inl (cy 1, n, .inr (.inl f))) (hi : inb i n = true) (hdg : decode cc pc = .ok (.laload, 1))
    (kk : W p l e R s m args below meth c H locs cells slots Q (F0 m (pc + 1) ls (.long (f i.toNatClampNeg) :: rest))) : W p l e R s m args below meth c H locs cells slots Q (F0 m pc ls (.int i :: .ref (ρ kc o) :: rest)) := by
  obtain ⟨hx, hb, hml, hown, hts, hK, hr, hlk⟩ := hC
  exact va_lald hx hb hK.1 (hR.P hV he) 0 1 rfl rfl (inb_in hi) hdg kk
theorem vv_bald (hC : CX p s m args meth c D cy cc nL own ret) (hR : RP D cy ρ V B H0 M H) {kc o n : Nat} {f : Nat → Int32} {i : Int32} (hV : V kc o) (he : ce cy ρ M kc o = .inl (cy 2, n, .inl f)) (hi : inb i n = true) (hdg : decode cc pc = .ok (.baload, 1))
    (kk : W p l e R s m args below meth c H locs cells slots Q (F0 m (pc + 1) ls (.int (f i.toNatClampNeg) :: rest))) : W p l e R s m args below meth c H locs cells slots Q (F0 m pc ls (.int i :: .ref (ρ kc o) :: rest)) := by
  obtain ⟨hx, hb, hml, hown, hts, hK, hr, hlk⟩ := hC
  exact va_bald hx hb hK.1 (hR.P hV he) 0 2 rfl rfl (inb_in hi) hdg kk
theorem vv_zald (hC : CX p s m args meth c D cy cc nL own ret) (hR : RP D cy ρ V B H0 M H) {kc o n : Nat} {f : Nat → Int32} {i : Int32} (hV : V kc o) (he : ce cy ρ M kc o = .inl (cy 3, n, .inl f)) (hi : inb i n = true) (hdg : decode cc pc = .ok (.baload, 1))
    (kk : W p l e R s m args below meth c H locs cells slots Q (F0 m (pc + 1) ls (.int (f i.toNatClampNeg) :: rest))) : W p l e R s m args below meth c H locs cells slots Q (F0 m pc ls (.int i :: .ref (ρ kc o) :: rest)) := by
  obtain ⟨hx, hb, hml, hown, hts, hK, hr, hlk⟩ := hC
  exact va_zald hx hb hK.1 (hR.P hV he) 0 3 rfl rfl (inb_in hi) hdg kk
theorem vv_aald (hC : CX p s m args meth c D cy cc nL own ret) (hR : RP D cy ρ V B H0 M H) {kc o n : Nat} {f : Nat → Option Nat} {i : Int32} {v : Value} (hV : V kc o) (he : ce cy ρ M kc o = .inl (cy 4, n, .inr (.inr (.inr (.inr f))))) (hi : inb i n = true) (hv : va_rf (f i.toNatClampNeg) = v) (hdg : decode cc pc = .ok (.aaload, 1))
    (kk : W p l e R s m args below meth c H locs cells slots Q (F0 m (pc + 1) ls (v :: rest))) : W p l e R s m args below meth c H locs cells slots Q (F0 m pc ls (.int i :: .ref (ρ kc o) :: rest)) := by
  obtain ⟨hx, hb, hml, hown, hts, hK, hr, hlk⟩ := hC
  subst hv
  exact va_aldq hx hb hK.1 (hR.P hV he) 0 4 rfl rfl (inb_in hi) hdg kk
theorem vv_alen (hC : CX p s m args meth c D cy cc nL own ret) (hR : RP D cy ρ V B H0 M H) {kc o : Nat} {a : Nat} {x : vp_A} {v : Int32} (hV : V kc o) (ha : a < 6) (he : ce cy ρ M kc o = .inl (cy a, x)) (hv : Int32.ofNat x.1 = v) (hdg : decode cc pc = .ok (.arraylength, 1))
    (kk : W p l e R s m args below meth c H locs cells slots Q (F0 m (pc + 1) ls (.int v :: rest))) : W p l e R s m args below meth c H locs cells slots Q (F0 m pc ls (.ref (ρ kc o) :: rest)) := by
  obtain ⟨hx, hb, hml, hown, hts, hK, hr, hlk⟩ := hC
  match a, ha, he with
  | 0, _, he => exact va_alen hx hb hK.1 (hR.P hV he) 0 0 rfl rfl hv hdg kk
  | 1, _, he => exact va_alen hx hb hK.1 (hR.P hV he) 0 1 rfl rfl hv hdg kk
  | 2, _, he => exact va_alen hx hb hK.1 (hR.P hV he) 0 2 rfl rfl hv hdg kk
  | 3, _, he => exact va_alen hx hb hK.1 (hR.P hV he) 0 3 rfl rfl hv hdg kk
  | 4, _, he => exact va_alen hx hb hK.1 (hR.P hV he) 0 4 rfl rfl hv hdg kk
  | 5, _, he => exact va_alen hx hb hK.1 (hR.P hV he) 0 5 rfl rfl hv hdg kk
theorem vv_lo (hR : RP D cy ρ V B H0 M H) (hO : LO B locs) {kc o k : Nat} (hV : V kc o) : LO B (locs ++ [⟨ρ kc o, k⟩]) := by
  intro q hq
  rcases List.mem_append.mp hq with h | h
  · exact hO q h
  · rw [List.mem_singleton.mp h]
    exact (hR.1 kc o hV).2
theorem wI_ring (M : sM) {kc k o j : Nat} {v : Int32} (h : ¬ kc = 21) : ∀ i, i < 6 → ¬ (wI M kc k o j v).1 21 0 0 i = 0 → ¬ M.1 21 0 0 i = 0 := by
  intro i _ hz
  simp only [wI] at hz
  rw [if_neg (fun q => h q.1.symm)] at hz
  exact hz
theorem vv_iast (hC : CX p s m args meth c D cy cc nL own ret) (hR : RP D cy ρ V B H0 M H) (hO : LO B locs) {kc o n : Nat} {i x : Int32} (hV : V kc o) (hk : ¬ kc = 21) (he : ∀ M : sM, ce cy ρ M kc o = .inl (cy 0, n, .inl (fun j => M.1 kc 0 o j))) (hi : inb i n = true) (hdg : decode cc pc = .ok (.iastore, 1))
    (kk : ∀ (H1 : Heap) (locs1 : List Loc), RP D cy ρ V B H0 (wI M kc 0 o i.toNatClampNeg x) H1 → LO B locs1 → W p l e R s m args below meth c H1 locs1 cells slots Q (F0 m (pc + 1) ls rest)) : W p l e R s m args below meth c H locs cells slots Q (F0 m pc ls (.int x :: .int i :: .ref (ρ kc o) :: rest)) := by
  obtain ⟨hx, hb, hml, hown, hts, hK, hr, hlk⟩ := hC
  refine W.iast hx hb (hR.P hV (he M) 0 _ rfl) ((hK.1.2 0 _ rfl).1 n (fun j => .int (M.1 kc 0 o j))) (fun q => by cases q) (by show ¬ (i < 0 ∨ (arrV _ _ _).slots.size ≤ _); rw [arrV_size]; exact inb_in hi) rfl rfl hdg fun H1 e z oq => ?_
  refine kk H1 _ (hR.put hV z oq ?_ (fun c' o' h => ce_wI_ne cy ρ M h) (wI_ring M hk)) (vv_lo hR hO hV)
  rw [he]
  show H1[_]? = some (vp_cell _ _)
  rw [e]
  rw [vp_cell_i, vp_cell_i, arrV_store]
  congr 2
  funext q
  by_cases hq : q = i.toNatClampNeg
  · subst hq
    simp [updV, wI]
  · simp [updV, wI, hq]
theorem vv_last (hC : CX p s m args meth c D cy cc nL own ret) (hR : RP D cy ρ V B H0 M H) (hO : LO B locs) {kc o n : Nat} {i : Int32} {x : Int64} (hV : V kc o) (he : ∀ M : sM, ce cy ρ M kc o = .inl (cy 1, n, .inr (.inl (fun j => M.2 kc 0 o j)))) (hi : inb i n = true) (hdg : decode cc pc = .ok (.lastore, 1))
    (kk : ∀ (H1 : Heap) (locs1 : List Loc), RP D cy ρ V B H0 (wL M kc 0 o i.toNatClampNeg x) H1 → LO B locs1 → W p l e R s m args below meth c H1 locs1 cells slots Q (F0 m (pc + 1) ls rest)) : W p l e R s m args below meth c H locs cells slots Q (F0 m pc ls (.long x :: .int i :: .ref (ρ kc o) :: rest)) := by
  obtain ⟨hx, hb, hml, hown, hts, hK, hr, hlk⟩ := hC
  refine W.last hx hb (hR.P hV (he M) 0 _ rfl) ((hK.1.2 1 _ rfl).1 n (fun j => .long (M.2 kc 0 o j))) (fun q => by cases q) (by show ¬ (i < 0 ∨ (arrV _ _ _).slots.size ≤ _); rw [arrV_size]; exact inb_in hi) rfl rfl hdg fun H1 e z oq => ?_
  refine kk H1 _ (hR.put hV z oq ?_ (fun c' o' h => ce_wL_ne cy ρ M h) (fun j _ h => h)) (vv_lo hR hO hV)
  rw [he]
  show H1[_]? = some (vp_cell _ _)
  rw [e]
  rw [vp_cell_l, vp_cell_l, arrV_store]
  congr 2
  funext q
  by_cases hq : q = i.toNatClampNeg
  · subst hq
    simp [updV, wL]
  · simp [updV, wL, hq]
theorem vv_bast (hC : CX p s m args meth c D cy cc nL own ret) (hR : RP D cy ρ V B H0 M H) (hO : LO B locs) {kc o n : Nat} {i x : Int32} (hV : V kc o) (hk : ¬ kc = 21) (he : ∀ M : sM, ce cy ρ M kc o = .inl (cy 2, n, .inl (fun j => M.1 kc 0 o j))) (hi : inb i n = true) (hdg : decode cc pc = .ok (.bastore, 1))
    (kk : ∀ (H1 : Heap) (locs1 : List Loc), RP D cy ρ V B H0 (wI M kc 0 o i.toNatClampNeg x.toInt8.toInt32) H1 → LO B locs1 → W p l e R s m args below meth c H1 locs1 cells slots Q (F0 m (pc + 1) ls rest)) : W p l e R s m args below meth c H locs cells slots Q (F0 m pc ls (.int x :: .int i :: .ref (ρ kc o) :: rest)) := by
  obtain ⟨hx, hb, hml, hown, hts, hK, hr, hlk⟩ := hC
  refine W.bast hx hb (hR.P hV (he M) 0 _ rfl) ((hK.1.2 2 _ rfl).1 n (fun j => .int (M.1 kc 0 o j))) (fun q => by cases q) (by show ¬ (i < 0 ∨ (arrV _ _ _).slots.size ≤ _); rw [arrV_size]; exact inb_in hi) rfl rfl hdg fun H1 e z oq => ?_
  refine kk H1 _ (hR.put hV z oq ?_ (fun c' o' h => ce_wI_ne cy ρ M h) (wI_ring M hk)) (vv_lo hR hO hV)
  rw [he]
  show H1[_]? = some (vp_cell _ _)
  rw [e]
  rw [vp_cell_i, vp_cell_i, arrV_store]
  congr 2
  funext q
  by_cases hq : q = i.toNatClampNeg
  · subst hq
    simp [updV, wI, narrow]
  · simp [updV, wI, hq]
theorem vv_zast (hC : CX p s m args meth c D cy cc nL own ret) (hR : RP D cy ρ V B H0 M H) (hO : LO B locs) {kc o n : Nat} {i x : Int32} (hV : V kc o) (hk : ¬ kc = 21) (he : ∀ M : sM, ce cy ρ M kc o = .inl (cy 3, n, .inl (fun j => M.1 kc 0 o j))) (hi : inb i n = true) (hn : narrow .boolean (.int x) = .int x) (hdg : decode cc pc = .ok (.bastore, 1))
    (kk : ∀ (H1 : Heap) (locs1 : List Loc), RP D cy ρ V B H0 (wI M kc 0 o i.toNatClampNeg x) H1 → LO B locs1 → W p l e R s m args below meth c H1 locs1 cells slots Q (F0 m (pc + 1) ls rest)) : W p l e R s m args below meth c H locs cells slots Q (F0 m pc ls (.int x :: .int i :: .ref (ρ kc o) :: rest)) := by
  obtain ⟨hx, hb, hml, hown, hts, hK, hr, hlk⟩ := hC
  refine W.zast hx hb (hR.P hV (he M) 0 _ rfl) ((hK.1.2 3 _ rfl).1 n (fun j => .int (M.1 kc 0 o j))) (fun q => by cases q) (by show ¬ (i < 0 ∨ (arrV _ _ _).slots.size ≤ _); rw [arrV_size]; exact inb_in hi) rfl rfl hdg fun H1 e z oq => ?_
  refine kk H1 _ (hR.put hV z oq ?_ (fun c' o' h => ce_wI_ne cy ρ M h) (wI_ring M hk)) (vv_lo hR hO hV)
  rw [he]
  show H1[_]? = some (vp_cell _ _)
  rw [e]
  rw [vp_cell_i, vp_cell_i, arrV_store]
  congr 2
  funext q
  by_cases hq : q = i.toNatClampNeg
  · subst hq
    simp [updV, wI, hn]
  · simp [updV, wI, hq]
end VVR
