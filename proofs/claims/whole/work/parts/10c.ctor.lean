/-! Constructors: over a list of cells that have come since the heap Hf. -/
theorem va_P.rot {D : va_G} {cl : List vw_C} {ws : va_W} {x : Nat × va_E} {H : Heap} (h : va_P D cl (ws ++ [x]) H) : va_P D cl (x :: ws) H := by
  intro k q hq
  match k, hq with
  | 0, hq => exact h ws.length q (by simpa using hq)
  | k + 1, hq =>
    have h2 : ws[k]? = some q := hq
    exact h k q (by rw [List.getElem?_append_left (List.getElem?_eq_some_iff.mp h2).1]; exact h2)
theorem va_D.rot {A : Nat → Prop} {ws : va_W} {x : Nat × va_E} (h : va_D A (ws ++ [x])) : va_D A (x :: ws) := by
  have key : ∀ (k : Nat) (q : Nat × va_E), (x :: ws)[k]? = some q → ∃ k', (ws ++ [x])[k']? = some q ∧ ((k = 0 ∧ k' = ws.length) ∨ (0 < k ∧ k' + 1 = k ∧ k' < ws.length)) := by
    intro k q hq
    match k, hq with
    | 0, hq => exact ⟨ws.length, by simpa using hq, Or.inl ⟨rfl, rfl⟩⟩
    | k + 1, hq =>
      have h2 : ws[k]? = some q := hq
      have h3 := (List.getElem?_eq_some_iff.mp h2).1
      exact ⟨k, by rw [List.getElem?_append_left h3]; exact h2, Or.inr ⟨by omega, rfl, h3⟩⟩
  refine ⟨fun i j p q hi hj e => ?_, fun k q hq => ?_⟩
  · obtain ⟨i', hi', a⟩ := key i p hi
    obtain ⟨j', hj', b⟩ := key j q hj
    have := h.1 i' j' p q hi' hj' e
    omega
  · obtain ⟨k', hk', -⟩ := key k q hq
    exact h.2 k' q hk'
def CP (G : gU) (Hf : Heap) (ws : va_W) (H : Heap) : Prop := va_P G.1 vwCl ws H ∧ va_D (fun q => Hf.size ≤ q) ws ∧ Hf.size ≤ H.size ∧ ∀ q, q < Hf.size → H[q]? = Hf[q]?
def HB (G : gU) (Hf : Heap) : Prop := gB G ≤ Hf.size ∧ ∀ q, q < gB G → Hf[q]? = (gH G)[q]?
def WC (E : eU) (G : gU) (Hf : Heap) (k1 k2 : Nat) (ws : va_W) (pc : Nat) (lv : List (Nat × Value)) (st : List Value) : Prop :=
  ∀ (H : Heap) (locs : List Loc) (ls : Array Slot), CP G Hf ws H → (∀ z ∈ locs, Hf.size ≤ z.base) → lv_has ls (eC E).maxLocals lv → WE E H locs k1 k2 (F0 (eM E) pc ls st)
abbrev QcC (G : gU) (Hf : Heap) (P : va_W → Prop) : Array Value → State → Outcome → State → Prop := fun _ _ oc t => oc = .returned none ∧ ∃ ws, P ws ∧ CP G Hf ws t.heap
/-- the constructor y, called on a new object, returns; the cells that have come since Hf are then as P says -/
def MC (l : Launch) (y : MethodName) (cc : ByteArray) (maxL d mc ms : Nat) (G : gU) (Hf : Heap) (av : List Value) (ws : va_W) (P : va_W → Prop) : Prop :=
  Met l y (.code y cc maxL none :: ALLW) (rmD d mc ms) (va_Pc av (fun U => CP G Hf ws U.heap ∧ KK G U)) (QcC G Hf P) mc ms (fun q => Hf.size ≤ q)
def QXC (E : eU) (G : gU) (Hf : Heap) (P : va_W → Prop) (mc ms : Nat) : Prop := eQ E = MQ (eF E) (QcC G Hf P) (eA E) (eS E) mc ms (fun q => Hf.size ≤ q)
theorem vc_enter {l : Launch} {y : MethodName} {cc : ByteArray} {maxL d mc ms : Nat} {G : gU} {Hf : Heap} {av : List Value} {lv : List (Nat × Value)} {ws : va_W} {P : va_W → Prop} (own : String) (ho : y.cls = own) (hy : plainName y.cls = true) (hn : y.name = "<init>") (hlen : (lg_sl av).length ≤ maxL) (hlv : lv_args 0 av = lv) (hHf : HB G Hf)
    (body : ∀ E : eU, E.2.1 = l → CX E G cc maxL own none d mc ms → QXC E G Hf P mc ms → (eT E).name = "<init>" → WC E G Hf 0 0 ws 0 lv []) : MC l y cc maxL d mc ms G Hf av ws P := by
  subst hlv
  refine Met.ofW (cc := cc) (maxL := maxL) (ret := none) hy rfl ?_
  intro p e s m args below meth c s₁ Bd hml hv
  obtain ⟨rfl, hR, hK⟩ := hv
  have hts := atoms_spec (ws := .code y cc maxL none :: ALLW) Bd.pre
  have hl := lv_entry av (n := c.maxLocals) (by rw [hml]; exact hlen)
  have hnm : meth.name = "<init>" := by rw [← hn]; exact (name_of_methodNamed Bd.named Bd.method).1
  have h := body (p, l, e, rmD d mc ms, s, m, av.toArray, below, meth, c, MQ below (QcC G Hf P) av.toArray s mc ms (fun q => Hf.size ≤ q)) rfl ⟨Bd.exec, Bd.bytes, hml, by rw [← ho]; exact findClass_of_methodNamed Bd.named, fun w hw => hts w (List.mem_cons_of_mem _ hw), hK, Bd.returns, Bd.notSynchronized, RG.rf, ⟨Nat.le_trans hHf.1 hR.2.2.1, fun q hq => by rw [hR.2.2.2 q (Nat.lt_of_lt_of_le hq hHf.1)]; exact hHf.2 q hq⟩⟩ rfl hnm s.heap [] _ hR (fun _ h => by cases h) hl
  rw [lg_entry_eq, ← hml]
  exact h
section VWC
variable {E : eU} {G : gU} {Hf : Heap} {k1 k2 : Nat} {ws : va_W} {pc nL d mc ms : Nat} {lv lv' : List (Nat × Value)} {st st' : List Value} {cc : ByteArray} {own : String} {ret : Option FieldType}
theorem CP.S {H : Heap} {locs : List Loc} (h : CP G Hf ws H) (hO : ∀ z ∈ locs, Hf.size ≤ z.base) : va_S (fun q => Hf.size ≤ q) Hf H locs := ⟨h.2.2.1, fun q h1 _ => h.2.2.2 q h1, hO⟩
theorem CP.of {H : Heap} {locs : List Loc} (h1 : va_P G.1 vwCl ws H) (h2 : va_D (fun q => Hf.size ≤ q) ws) (h3 : va_S (fun q => Hf.size ≤ q) Hf H locs) : CP G Hf ws H := ⟨h1, h2, h3.1, fun q h => h3.2.1 q h (Nat.not_le.mpr h)⟩
theorem wc_iconst (q : Nat) (hC : CX E G cc nL own ret d mc ms) {n : Int} {v : Int32} (hdg : decode cc pc = .ok (.iconst n, 1)) (hv : Int32.ofInt n = v) (hq : pc + 1 = q) (kk : WC E G Hf k1 k2 ws q lv (.int v :: st)) : WC E G Hf k1 k2 ws pc lv (st) := by
  subst hq
  intro H locs ls hP hO hl
  exact lv_iconst hC.1 hC.2.1 hdg hv (kk H locs ls hP hO hl)
theorem wc_bipush (q : Nat) (hC : CX E G cc nL own ret d mc ms) {n : Int} {v : Int32} (hdg : decode cc pc = .ok (.bipush n, 2)) (hv : (Int8.ofInt n).toInt32 = v) (hq : pc + 2 = q) (kk : WC E G Hf k1 k2 ws q lv (.int v :: st)) : WC E G Hf k1 k2 ws pc lv (st) := by
  subst hq
  intro H locs ls hP hO hl
  exact lv_bipush hC.1 hC.2.1 hdg hv (kk H locs ls hP hO hl)
theorem wc_sipush (q : Nat) (hC : CX E G cc nL own ret d mc ms) {n : Int} {v : Int32} (hdg : decode cc pc = .ok (.sipush n, 3)) (hv : (Int16.ofInt n).toInt32 = v) (hq : pc + 3 = q) (kk : WC E G Hf k1 k2 ws q lv (.int v :: st)) : WC E G Hf k1 k2 ws pc lv (st) := by
  subst hq
  intro H locs ls hP hO hl
  exact lv_sipush hC.1 hC.2.1 hdg hv (kk H locs ls hP hO hl)
theorem wc_aload_n (q i : Nat) (hC : CX E G cc nL own ret d mc ms) {j : Fin 4} {x : Nat} (hdg : decode cc pc = .ok (.aload_n j, 1)) (hi : (j : Nat) = i) (k : Nat) (hk : lv[k]? = some (i, .ref x)) (hq : pc + 1 = q) (kk : WC E G Hf k1 k2 ws q lv (.ref x :: st)) : WC E G Hf k1 k2 ws pc lv (st) := by
  subst hq
  intro H locs ls hP hO hl
  exact lv_aload_n hC.1 hC.2.1 hdg hi (lv_at hl k hk) (kk H locs ls hP hO hl)
theorem wc_iload_n (q i : Nat) (hC : CX E G cc nL own ret d mc ms) {j : Fin 4} {x : Int32} (hdg : decode cc pc = .ok (.iload_n j, 1)) (hi : (j : Nat) = i) (k : Nat) (hk : lv[k]? = some (i, .int x)) (hq : pc + 1 = q) (kk : WC E G Hf k1 k2 ws q lv (.int x :: st)) : WC E G Hf k1 k2 ws pc lv (st) := by
  subst hq
  intro H locs ls hP hO hl
  exact lv_iload_n hC.1 hC.2.1 hdg hi (lv_at hl k hk) (kk H locs ls hP hO hl)
theorem wc_istore_n (q i : Nat) (hC : CX E G cc nL own ret d mc ms) {lv' : List (Nat × Value)} {j : Fin 4} {x : Int32} (hdg : decode cc pc = .ok (.istore_n j, 1)) (hi : (j : Nat) = i) (hn : i < nL) (hl9 : (i, Value.int x) :: lv.filter (fun q => !(q.1 == i) && !(q.1 + 1 == i && q.2.category == 2)) = lv') (hq : pc + 1 = q) (kk : WC E G Hf k1 k2 ws q lv' (st)) : WC E G Hf k1 k2 ws pc lv (.int x :: st) := by
  subst hq
  intro H locs ls hP hO hl
  exact lv_istore_n hC.1 hC.2.1 hdg hi hl (by rw [hC.2.2.1]; exact hn) hl9 (fun ls' hl' => kk H locs ls' hP hO hl')
theorem wc_iinc (q i : Nat) (hC : CX E G cc nL own ret d mc ms) {lv' : List (Nat × Value)} {n : Int} {x x' : Int32} (hdg : decode cc pc = .ok (.iinc i n, 3)) (k : Nat) (hk : lv[k]? = some (i, .int x)) (ex : x + Int32.ofInt n = x') (hn : i < nL) (hl9 : (i, Value.int x') :: lv.filter (fun q => !(q.1 == i) && !(q.1 + 1 == i && q.2.category == 2)) = lv') (hq : pc + 3 = q) (kk : WC E G Hf k1 k2 ws q lv' (st)) : WC E G Hf k1 k2 ws pc lv (st) := by
  subst hq
  intro H locs ls hP hO hl
  exact lv_iinc hC.1 hC.2.1 hdg hl hk ex (by rw [hC.2.2.1]; exact hn) hl9 (fun ls' hl' => kk H locs ls' hP hO hl')
theorem wc_dup (q : Nat) (hC : CX E G cc nL own ret d mc ms) {va : Value} (hdg : decode cc pc = .ok (.dup, 1)) (hva : va.category = 1) (hq : pc + 1 = q) (kk : WC E G Hf k1 k2 ws q lv (va :: va :: st)) : WC E G Hf k1 k2 ws pc lv (va :: st) := by
  subst hq
  intro H locs ls hP hO hl
  exact lv_dup hC.1 hC.2.1 hdg hva (kk H locs ls hP hO hl)
theorem wc_goto (t : Nat) (hC : CX E G cc nL own ret d mc ms) {off : Int} (hdg : decode cc pc = .ok (.goto off, 3)) (ht : (pc : Int) + off = (t : Int)) (kk : WC E G Hf k1 k2 ws t lv st) : WC E G Hf k1 k2 ws pc lv st := by
  intro H locs ls hP hO hl
  exact lv_goto hC.1 hC.2.1 hdg ht (kk H locs ls hP hO hl)
theorem wc_geT (t : Nat) (hC : CX E G cc nL own ret d mc ms) {x y : Int32} {off : Int} (hdg : decode cc pc = .ok (.if_icmp .ge off, 3)) (ht : (pc : Int) + off = (t : Int)) (h : y ≤ x) (kk : WC E G Hf k1 k2 ws t lv st) : WC E G Hf k1 k2 ws pc lv (.int y :: .int x :: st) := by
  intro H locs ls hP hO hl
  exact lv_icmp_ge (tgt := t) hC.1 hC.2.1 hdg ht (fun _ => (kk H locs ls hP hO hl)) (fun c9 => absurd h c9)
theorem wc_geF (q t : Nat) (hC : CX E G cc nL own ret d mc ms) {x y : Int32} {off : Int} (hdg : decode cc pc = .ok (.if_icmp .ge off, 3)) (ht : (pc : Int) + off = (t : Int)) (hq : pc + 3 = q) (h : ¬ y ≤ x) (kk : WC E G Hf k1 k2 ws q lv st) : WC E G Hf k1 k2 ws pc lv (.int y :: .int x :: st) := by
  subst hq
  intro H locs ls hP hO hl
  exact lv_icmp_ge (tgt := t) hC.1 hC.2.1 hdg ht (fun c9 => absurd c9 h) (fun _ => (kk H locs ls hP hO hl))
theorem wc_vret {P : va_W → Prop} (hC : CX E G cc nL own none d mc ms) (hQ : QXC E G Hf P mc ms) (hk : k1 ≤ mc ∧ k2 ≤ ms) (hp : P ws) (hdg : decode cc pc = .ok (.return_, 1)) : WC E G Hf k1 k2 ws pc lv [] := by
  intro H locs ls hP hO hl
  show W _ _ _ _ _ _ _ _ _ _ _ _ _ _ (eQ E) _
  rw [hQ]
  refine W.widen hk.1 hk.2 ?_
  exact W.vret hC.1 hC.2.1 hC.2.2.2.2.2.2.1 (fun t ht _ => ⟨rfl, ws, hp, by rw [ht]; exact hP⟩) hO hdg hC.2.2.2.2.2.2.2.1
theorem wc_objInit (q : Nat) (hC : CX E G cc nL own ret d mc ms) {idx a : Nat} (hdg : decode cc pc = .ok (.invokespecial idx, 3)) (hw : Cond.methodLink own idx Lib.objectInit ∈ ALLW ∧ Cond.instanceMethod Lib.objectInit ∈ ALLW ∧ Cond.code Lib.objectInit ⟨#[0xb1]⟩ 1 none ∈ ALLW) (hd : 1 ≤ d) (hst : (st.map fun v => v.category).sum ≤ 8) (hq : pc + 3 = q) (kk : WC E G Hf k1 k2 ws q lv st) : WC E G Hf k1 k2 ws pc lv (.ref a :: st) := by
  subst hq
  intro H locs ls hP hO hl
  obtain ⟨hx, hb, hml, hown, hts, hK, hr, hlk, hRm, -⟩ := hC
  exact W.objInit hx hb hown (hts _ hw.1) (hts _ hw.2.1) (hts _ hw.2.2) rfl hl.1 rfl hdg (Nat.le_trans hd hRm.1) (by show 2 * 0 + (st.map fun v => v.category).sum + 12 ≤ _; have := hRm.2.1; omega) (kk H locs ls hP hO hl)
/-- a class that own makes objects of -/
def NWc (own : String) (index kc N : Nat) (fs : List Value) : Prop := ∃ (C : String) (T : u_T) (ty : Nat → FieldType), vwCl[kc]? = some (C, T, N) ∧ (∀ w ∈ u_ws C T N, w ∈ ALLW) ∧ (∀ k, k < N → parseFieldDescriptor (T k).2.2.1 = some (ty k)) ∧ Cond.classLink own index C ∈ ALLW ∧ Cond.instantiable C N ∈ ALLW ∧ Cond.initialized C ∈ ALLW ∧ ∀ j, j < N → defaultValue (ty j) = vp_V fs j
theorem wc_new (q : Nat) (hC : CX E G cc nL own ret d mc ms) {index kc N : Nat} {fs : List Value} (hdg : decode cc pc = .ok (.new index, 3)) (hw : NWc own index kc N fs) (hk : k1 + 1 ≤ mc ∧ k2 + N ≤ ms) (hq : pc + 3 = q) (kk : ∀ a : Nat, WC E G Hf (k1 + 1) (k2 + N) ((a, .inr (kc, fs)) :: ws) q lv (.ref a :: st)) : WC E G Hf k1 k2 ws pc lv st := by
  subst hq
  intro H locs ls hP hO hl
  obtain ⟨hx, hb, hml, hown, hts, hK, hr, hlk, hRm, -⟩ := hC
  obtain ⟨C, T, ty, w1, w2, w3, w4, w5, w6, w7⟩ := hw
  refine va_new hx hb hts w2 ty w3 hown (hts _ w4) (hts _ w5) (hts _ w6) hK.1 hP.1 hP.2.1 (hP.S hO) (fun q h => h) w1 w7 (Nat.le_trans hk.1 hRm.2.2.1) (Nat.le_trans hk.2 hRm.2.2.2) hdg (fun a H1 a1 a2 a3 => ?_)
  exact kk a H1 locs ls (CP.of a1.rot a2.rot a3) hO hl
theorem wc_newA (q : Nat) (hC : CX E G cc nL own ret d mc ms) {t n : Nat} {n9 : Int32} {atype : ArrayType} {ty : FieldType} {a0 : vp_A} (hdg : decode cc pc = .ok (.newarray atype, 2)) (hw : Cond.arrayClass (newarray.typeOf atype) ∈ ALLW) (hty : newarray.typeOf atype = ty) (ht : (tyL (gC G))[t]? = some (gC G t, ty)) (hra : ∀ cA cB : ClassId, va_RA (eS E) cA ty → va_RA (eS E) cB ty → cA = cB) (ha : ∀ cA : ClassId, vp_cell cA a0 = arrV cA n (fun _ => defaultValue ty)) (hn : ¬ n9 < 0) (hN : n9.toNatClampNeg = n) (hby : n * componentBytes ty ≤ 536870912) (hk : k1 + 1 ≤ mc ∧ k2 + n ≤ ms) (hq : pc + 2 = q) (kk : ∀ a : Nat, WC E G Hf (k1 + 1) (k2 + n) ((a, .inl (gC G t, a0)) :: ws) q lv (.ref a :: st)) : WC E G Hf k1 k2 ws pc lv (.int n9 :: st) := by
  subst hq
  intro H locs ls hP hO hl
  obtain ⟨hx, hb, hml, hown, hts, hK, hr, hlk, hRm, -⟩ := hC
  refine va_newa hx hb (hts _ hw) hty hK.1 hP.1 hP.2.1 (hP.S hO) (fun q h => h) ha hn hN hby (Nat.le_trans hk.1 hRm.2.2.1) (Nat.le_trans hk.2 hRm.2.2.2) hdg (fun a cA H1 b1 a1 a2 a3 => ?_)
  have e1 : va_RA (eS E) cA ty := (b1.2 (tyL (gC G)).length (cA, ty) (by simp)).2
  have e2 : va_RA (eS E) (gC G t) ty := (hK.1.2 t _ ht).2
  have e3 := hra _ _ e1 e2
  subst e3
  exact kk a H1 locs ls (CP.of a1.rot a2.rot a3) hO hl
theorem wc_newQ (q : Nat) (hC : CX E G cc nL own ret d mc ms) {t n index : Nat} {n9 : Int32} {C : String} (hdg : decode cc pc = .ok (.anewarray index, 3)) (hw : Cond.classLink own index C ∈ ALLW) (hao : va_AO C (eS E)) (ht : (tyL (gC G))[t]? = some (gC G t, .object C)) (hn : ¬ n9 < 0) (hN : n9.toNatClampNeg = n) (hby : n * 4 ≤ 536870912) (hk : k1 + 1 ≤ mc ∧ k2 + n ≤ ms) (hq : pc + 3 = q) (kk : ∀ a : Nat, WC E G Hf (k1 + 1) (k2 + n) ((a, .inl (gC G t, n, .inr (.inr (.inr (.inr (fun _ => none)))))) :: ws) q lv (.ref a :: st)) : WC E G Hf k1 k2 ws pc lv (.int n9 :: st) := by
  subst hq
  intro H locs ls hP hO hl
  obtain ⟨hx, hb, hml, hown, hts, hK, hr, hlk, hRm, -⟩ := hC
  refine va_newq hx hb hown (hts _ hw) hao hK.1 hP.1 hP.2.1 (hP.S hO) (fun q h => h) hn hN hby (Nat.le_trans hk.1 hRm.2.2.1) (Nat.le_trans hk.2 hRm.2.2.2) hdg (fun a cA H1 b1 a1 a2 a3 => ?_)
  have e1 : va_RA (eS E) cA (.object C) := (b1.2 (tyL (gC G)).length (cA, .object C) (by simp)).2
  have e2 : va_RA (eS E) (gC G t) (.object C) := (hK.1.2 t _ ht).2
  obtain ⟨-, -, -, -, -, f1⟩ := e1
  obtain ⟨-, -, -, -, -, f2⟩ := e2
  have e3 : cA = gC G t := Option.some.inj (f1.symm.trans f2)
  subst e3
  exact kk a H1 locs ls (CP.of a1.rot a2.rot a3) hO hl
/-- a field that a constructor of own writes -/
def FC (own : String) (index kc k : Nat) (ty : FieldType) (fin : Bool) : Prop := ∃ (C : String) (T : u_T) (N : Nat) (ty0 : Nat → FieldType), vwCl[kc]? = some (C, T, N) ∧ (∀ w ∈ u_ws C T N, w ∈ ALLW) ∧ (∀ k, k < N → parseFieldDescriptor (T k).2.2.1 = some (ty0 k)) ∧ (∀ a, a < N → ∀ b, b < N → a ≠ b → (T a).2.1 ≠ (T b).2.1) ∧ k < N ∧ Cond.fieldLink own index (T k).1 (T k).2.1 (T k).2.2.1 ∈ ALLW ∧ (T k).1 = own ∧ (T k).2.2.2 = fin ∧ parseFieldDescriptor (T k).2.2.1 = some ty
theorem wc_put (q q0 : Nat) (hC : CX E G cc nL own ret d mc ms) {index kc k a : Nat} {fs : List Value} {v : Value} {ty : FieldType} {fin : Bool} (hdg : decode cc pc = .ok (.putfield index, 3)) (hF : FC own index kc k ty fin) (hnm : (eT E).name = "<init>") (he : ws[q0]? = some (a, .inr (kc, fs))) (hn : narrow ty v = v) (hfit : fits ty v = true) (hl9 : k < fs.length) (hq : pc + 3 = q) {ws' : va_W} (hw9 : ws.set q0 (a, .inr (kc, fs.set k v)) = ws') (kk : WC E G Hf k1 k2 ws' q lv st) : WC E G Hf k1 k2 ws pc lv (v :: .ref a :: st) := by
  subst hq
  subst hw9
  intro H locs ls hP hO hl
  obtain ⟨hx, hb, hml, hown, hts, hK, hr, hlk, hRm, -⟩ := hC
  obtain ⟨C, T, N, ty0, w1, w2, w3, w4, w5, w6, w7, w8, w9⟩ := hF
  cases fin with
  | false => exact va_put hx hb hts w2 ty0 w3 w4 hown hK.1 hP.1 hP.2.1 (hP.S hO) q0 he w1 k w5 (hts _ w6) (fun x h => h) w8 w9 hn hfit hl9 hdg (fun H1 locs1 a1 a2 a3 => kk H1 locs1 ls (CP.of a1 a2 a3) a3.2.2 hl)
  | true => exact va_putF hx hb hts w2 ty0 w3 w4 hown hK.1 hP.1 hP.2.1 (hP.S hO) q0 he w1 k w5 (hts _ w6) (fun x h => h) w8 hnm w7 w9 hn hfit hl9 hdg (fun H1 locs1 a1 a2 a3 => kk H1 locs1 ls (CP.of a1 a2 a3) a3.2.2 hl)
theorem wc_getR (q q0 : Nat) (hC : CX E G cc nL own ret d mc ms) {index kc k a : Nat} {fs : List Value} {v : Value} {ty : FieldType} {fin : Bool} (hdg : decode cc pc = .ok (.getfield index, 3)) (hF : FC own index kc k ty fin) (he : ws[q0]? = some (a, .inr (kc, fs))) (hv : fs[k]? = some v) (hq : pc + 3 = q) (kk : WC E G Hf k1 k2 ws q lv (v :: st)) : WC E G Hf k1 k2 ws pc lv (.ref a :: st) := by
  subst hq
  intro H locs ls hP hO hl
  obtain ⟨hx, hb, hml, hown, hts, hK, hr, hlk, hRm, -⟩ := hC
  obtain ⟨C, T, N, ty0, w1, w2, w3, w4, w5, w6, w7, w8, w9⟩ := hF
  exact va_get hx hb hts w2 hown hK.1 hP.1 q0 he w1 k w5 (hts _ w6) (fun x h => h) hv hdg (kk H locs ls hP hO hl)
theorem wc_iast (q q0 : Nat) (hC : CX E G cc nL own ret d mc ms) {a n : Nat} {f : Nat → Int32} {i x : Int32} (hdg : decode cc pc = .ok (.iastore, 1)) (he : ws[q0]? = some (a, .inl (gC G 0, n, .inl f))) (hin : inb i n = true) (hq : pc + 1 = q) {ws' : va_W} (hw9 : ws.set q0 (a, .inl (gC G 0, n, .inl (upd f i.toNatClampNeg x))) = ws') (kk : WC E G Hf k1 k2 ws' q lv st) : WC E G Hf k1 k2 ws pc lv (.int x :: .int i :: .ref a :: st) := by
  subst hq
  subst hw9
  intro H locs ls hP hO hl
  obtain ⟨hx, hb, hml, hown, hts, hK, hr, hlk, hRm, -⟩ := hC
  exact va_iast hx hb hK.1 hP.1 hP.2.1 (hP.S hO) q0 0 he rfl (inb_in hin) hdg (fun H1 locs1 a1 a2 a3 => kk H1 locs1 ls (CP.of a1 a2 a3) a3.2.2 hl)
theorem wc_astq (q q0 qk t : Nat) (hC : CX E G cc nL own ret d mc ms) {a n v kc : Nat} {vs : List Value} {r : vw_C} {f : Nat → Option Nat} {i : Int32} (hdg : decode cc pc = .ok (.aastore, 1)) (he : ws[q0]? = some (a, .inl (gC G t, n, .inr (.inr (.inr (.inr f)))))) (ht : (tyL (gC G))[t]? = some (gC G t, .object r.1)) (hv : ws[qk]? = some (v, .inr (kc, vs))) (hc : vwCl[kc]? = some r) (hin : inb i n = true) (hq : pc + 1 = q) {ws' : va_W} (hw9 : ws.set q0 (a, .inl (gC G t, n, .inr (.inr (.inr (.inr (va_up f i.toNatClampNeg (some v))))))) = ws') (kk : WC E G Hf k1 k2 ws' q lv st) : WC E G Hf k1 k2 ws pc lv (.ref v :: .int i :: .ref a :: st) := by
  subst hq
  subst hw9
  intro H locs ls hP hO hl
  obtain ⟨hx, hb, hml, hown, hts, hK, hr, hlk, hRm, -⟩ := hC
  exact va_astq hx hb hK.1 hP.1 hP.2.1 (hP.S hO) q0 t qk kc he ht hv hc (inb_in hin) hdg (fun H1 locs1 a1 a2 a3 => kk H1 locs1 ls (CP.of a1 a2 a3) a3.2.2 hl)
theorem wc_call (q : Nat) (hC : CX E G cc nL own ret d mc ms) {y : MethodName} {bytes : ByteArray} {maxL d' index a mk1 mk2 : Nat} {P : va_W → Prop} (hdg : decode cc pc = .ok (.invokespecial index, 3)) (hN : KN y bytes maxL none 0) (hi : y.name = "<init>") (hL : (Cond.methodLink own index y ∈ ALLW ∨ ∃ host, Cond.methodLinkNest own index y host ∈ NW) ∧ Cond.instanceMethod y ∈ ALLW) (hM : MC E.2.1 y bytes maxL d' mk1 mk2 G Hf [.ref a] ws P)
    (hd : d' + 1 ≤ d) (hlo : 8 + (maxL + 11) + 64 * d' ≤ 64 * d) (hst : (st.map fun v => v.category).sum ≤ 8) (hk : k1 + mk1 ≤ mc ∧ k2 + mk2 ≤ ms) (hq : pc + 3 = q) (kk : ∀ ws', P ws' → WC E G Hf (k1 + mk1) (k2 + mk2) ws' q lv st) : WC E G Hf k1 k2 ws pc lv (.ref a :: st) := by
  subst hq
  intro H locs ls hP hO hl T hT X
  obtain ⟨hx, hb, hml, hown, hts, hK, hr, hlk, hRm, -⟩ := hC
  have hfr : (rmD d' mk1 mk2).frames + 1 ≤ (eR E).frames ∧ 8 + (maxL + 11) + (rmD d' mk1 mk2).locals ≤ (eR E).locals := ⟨Nat.le_trans hd hRm.1, Nat.le_trans hlo hRm.2.1⟩
  have hf2 : k1 + mk1 ≤ (eR E).cells ∧ k2 + mk2 ≤ (eR E).slots := ⟨Nat.le_trans hk.1 hRm.2.2.1, Nat.le_trans hk.2 hRm.2.2.2⟩
  have hbl : FrameBlind (va_Pc [.ref a] (fun U => CP G Hf ws U.heap ∧ KK G U)) := by
    intro a9 U g mk h
    obtain ⟨h1, h2, h3⟩ := h
    exact ⟨h1, h2, KK.same (u := U) (U := U.calling g mk a9) rfl (Vm.Alike.refl U.vm) h3⟩
  have hpre : PreS (eS E) H (va_Pc [.ref a] (fun U => CP G Hf ws U.heap ∧ KK G U)) (.ref a :: []) := ⟨hbl, fun U hU hW => ⟨rfl, by rw [hU]; exact hP, hK.warm hW⟩⟩
  have hrun : va_Run E.1 E.2.1 E.2.2.1 (eR E) (eS E) (eM E) (eA E) (eF E) (eT E) (eC E) H locs k1 k2 mk1 mk2 (F0 (eM E) pc ls (.ref a :: st)) st (QcC G Hf P (Value.ref a :: []).toArray) (fun q => Hf.size ≤ q) := by
    rcases hL with ⟨hlink | ⟨host, hlink⟩, hinst⟩
    · exact va_runI (Ts := ALLW) (n := 0) (As := []) ⟨hx, hb, rfl, hown, hts⟩ hM ⟨callB_of 0 hts hN.good rfl rfl rfl (hts _ hN.2.1) (hts _ hlink) hN.2.2 hfr, hi, hts _ hinst⟩ hpre rfl rfl hl.1 rfl (lv_room hst) hdg hf2
    · exact va_runIN (Ts := ALLW) (n := 0) (As := []) ⟨hx, hb, rfl, hown, hts⟩ hM ⟨va_cnB 0 hts hN.good rfl rfl rfl (hK.2.1 _ hlink) (hts _ hN.2.1) hN.2.2 hfr, hi, hts _ hinst⟩ hpre rfl rfl hl.1 rfl (lv_room hst) hdg hf2
  obtain ⟨v, st₀, t, T', L, h0, X', hL9, e1, e2, ⟨hv, ws', hp, hq9⟩, stp⟩ := hrun T hT X
  cases hv
  obtain ⟨t2, a1, b1⟩ := kk ws' hp T'.heap (locs ++ L) ls (by rw [e1]; exact hq9) (fun q h => (List.mem_append.mp h).elim (hO q) (hL9 q)) hl T' rfl X'
  exact ⟨t2, stp t2 a1, b1⟩
theorem ra_prim {s : State} {ty : FieldType} (h : ∀ cA : ClassId, va_RA s cA ty → s.vm.findClass ("[" ++ ty.toString) = some cA) (cA cB : ClassId) (h1 : va_RA s cA ty) (h2 : va_RA s cB ty) : cA = cB := Option.some.inj ((h cA h1).symm.trans (h cB h2))
end VWC
