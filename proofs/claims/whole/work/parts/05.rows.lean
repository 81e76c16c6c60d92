/-! A method's body over the world: rows, an instruction each. -/
/-- the machine at a method's body: program, launch, environment, room, start, method, arguments, what lies below, what is owed at the end -/
abbrev eU : Type := Program × Launch × Env × Room × State × MethodId × Array Value × List Frame × Method × Code × (State → Prop)
abbrev eR (E : eU) : Room := E.2.2.2.1
abbrev eS (E : eU) : State := E.2.2.2.2.1
abbrev eM (E : eU) : MethodId := E.2.2.2.2.2.1
abbrev eA (E : eU) : Array Value := E.2.2.2.2.2.2.1
abbrev eF (E : eU) : List Frame := E.2.2.2.2.2.2.2.1
abbrev eT (E : eU) : Method := E.2.2.2.2.2.2.2.2.1
abbrev eC (E : eU) : Code := E.2.2.2.2.2.2.2.2.2.1
abbrev eQ (E : eU) : State → Prop := E.2.2.2.2.2.2.2.2.2.2
abbrev WE (E : eU) (H : Heap) (locs : List Loc) (k1 k2 : Nat) (g : JFrame) : Prop := W E.1 E.2.1 E.2.2.1 (eR E) (eS E) (eM E) (eA E) (eF E) (eT E) (eC E) H locs k1 k2 (eQ E) g
def rmD (d mc ms : Nat) : Room := { frames := d, cells := mc, slots := ms, locals := 64 * d }
/-- a room holds so many frames, cells and slots -/
def RG (R : Room) (d mc ms : Nat) : Prop := d ≤ R.frames ∧ 64 * d ≤ R.locals ∧ mc ≤ R.cells ∧ ms ≤ R.slots
theorem RG.rf {d mc ms : Nat} : RG (rmD d mc ms) d mc ms := ⟨Nat.le_refl _, Nat.le_refl _, Nat.le_refl _, Nat.le_refl _⟩
/-- a method's place pc, with the variables lv and the stack st, over the memory M -/
def WA (E : eU) (G : gU) (ρ : Nat → Nat → Nat) (V : Nat → Nat → Prop) (k1 k2 : Nat) (M : sM) (pc : Nat) (lv : List (Nat × Value)) (st : List Value) : Prop :=
  ∀ (H : Heap) (locs : List Loc) (ls : Array Slot), RP G ρ V M H → LO G locs → lv_has ls (eC E).maxLocals lv → WE E H locs k1 k2 (F0 (eM E) pc ls st)
/-- what holds in a method's body -/
def CX (E : eU) (G : gU) (cc : ByteArray) (nL : Nat) (own : String) (ret : Option FieldType) (d mc ms : Nat) : Prop :=
  E.1.tables.exec = Jvm.exec ∧ (eC E).code = cc ∧ (eC E).maxLocals = nL ∧ (eS E).vm.findClass own = some (eM E).cls ∧ (∀ w ∈ ALLW, w.before (eA E) (eS E) = true) ∧ KK G (eS E) ∧ (eT E).sig.returnType = ret ∧ (eT E).locks = false ∧ RG (eR E) d mc ms ∧ (gB G ≤ (eS E).heap.size ∧ ∀ q, q < gB G → (eS E).heap[q]? = (gH G)[q]?)
/-- a field of the objects of a kind, as an instruction of own names it -/
def FL (own : String) (index kc k : Nat) : Prop := ∃ (C ref : String) (T : u_T) (N : Nat), vwCl[kc]? = some (C, T, N) ∧ (∀ w ∈ u_ws C T N, w ∈ ALLW) ∧ k < N ∧ (Cond.fieldLink own index ref (T k).2.1 (T k).2.2.1 ∈ ALLW ∨ ∃ host, Cond.fieldLinkNest own index ref (T k).2.1 (T k).2.2.1 host ∈ NW) ∧ (T k).1 = ref
/-- .. and it may be written -/
def FP (own : String) (index kc k : Nat) (ty : FieldType) : Prop := ∃ (C ref : String) (T : u_T) (N : Nat) (ty0 : Nat → FieldType), vwCl[kc]? = some (C, T, N) ∧ (∀ w ∈ u_ws C T N, w ∈ ALLW) ∧ (∀ k, k < N → parseFieldDescriptor (T k).2.2.1 = some (ty0 k)) ∧ (∀ a, a < N → ∀ b, b < N → a ≠ b → (T a).2.1 ≠ (T b).2.1) ∧ k < N ∧ (Cond.fieldLink own index ref (T k).2.1 (T k).2.2.1 ∈ ALLW ∨ ∃ host, Cond.fieldLinkNest own index ref (T k).2.1 (T k).2.2.1 host ∈ NW) ∧ (T k).1 = ref ∧ (T k).2.2.2 = false ∧ parseFieldDescriptor (T k).2.2.1 = some ty
/-- what kinds hold: an int field, a long field, a reference field, an array of ints (t: its type's place), of longs -/
abbrev sI (kc k : Nat) : Prop := ∀ (cy : Nat → ClassId) (ρ : Nat → Nat → Nat) (o : Nat) (I : Nat → Nat → Int32) (L : Nat → Nat → Int64) (v : Int32), ∃ fs, ce0 cy ρ kc o I L = .inr (kc, fs) ∧ fs[k]? = some (.int (I k 0)) ∧ ce0 cy ρ kc o (upI I k 0 v) L = .inr (kc, fs.set k (.int v)) ∧ k < fs.length
abbrev sL (kc k : Nat) : Prop := ∀ (cy : Nat → ClassId) (ρ : Nat → Nat → Nat) (o : Nat) (I : Nat → Nat → Int32) (L : Nat → Nat → Int64) (v : Int64), ∃ fs, ce0 cy ρ kc o I L = .inr (kc, fs) ∧ fs[k]? = some (.long (L k 0)) ∧ ce0 cy ρ kc o I (upL L k 0 v) = .inr (kc, fs.set k (.long v)) ∧ k < fs.length
abbrev sR (kc k o kc' o' : Nat) : Prop := ∀ (cy : Nat → ClassId) (ρ : Nat → Nat → Nat) (I : Nat → Nat → Int32) (L : Nat → Nat → Int64), ∃ fs, ce0 cy ρ kc o I L = .inr (kc, fs) ∧ fs[k]? = some (.ref (ρ kc' o'))
abbrev aI (t kc n : Nat) : Prop := ∀ (cy : Nat → ClassId) (ρ : Nat → Nat → Nat) (o : Nat) (I : Nat → Nat → Int32) (L : Nat → Nat → Int64), ce0 cy ρ kc o I L = .inl (cy t, n, .inl (fun j => I 0 j))
abbrev aL (kc n : Nat) : Prop := ∀ (cy : Nat → ClassId) (ρ : Nat → Nat → Nat) (o : Nat) (I : Nat → Nat → Int32) (L : Nat → Nat → Int64), ce0 cy ρ kc o I L = .inl (cy 1, n, .inr (.inl (fun j => L 0 j)))
theorem inb_in {i : Int32} {n : Nat} (h : inb i n = true) : vp_in i n := of_decide_eq_true (p := ¬ (i < 0 ∨ n ≤ i.toNatClampNeg)) h
theorem inb_lt {i : Int32} {n : Nat} (h : inb i n = true) : i.toNatClampNeg < n := by
  have := inb_in h
  unfold vp_in at this
  omega
/-! Small rows by which a function's text is taken apart. -/
theorem gd_some {α : Type} {b : Bool} {k : Option α} {r : α} (h : gd b k = some r) : b = true ∧ k = some r := by
  cases b
  · cases h
  · exact ⟨rfl, h⟩
theorem ltb_some {α β : Type} {v : α} {k : α → β} {r : β} (h : ltb v k = r) : ∃ x, x = v ∧ k x = r := ⟨v, rfl, h⟩
theorem bd_some {α β : Type} {f : Option α} {k : α → Option β} {r : β} (h : f.bind k = some r) : ∃ a, f = some a ∧ k a = some r := by
  cases f with
  | none => cases h
  | some a => exact ⟨a, rfl, h⟩
theorem bd2_some {α β γ : Type} {f : Option (α × β)} {k : α → β → Option γ} {r : γ} (h : bd2 f k = some r) : ∃ a b, f = some (a, b) ∧ k a b = some r := by
  cases f with
  | none => cases h
  | some q => obtain ⟨a, b⟩ := q; exact ⟨a, b, rfl, h⟩
theorem ltb_k1 {α γ δ : Type} {v : α → δ} {k : (α → δ) → γ} {r : γ} (h : ltb v k = r) : ∃ x : α → δ, (∀ a, x a = v a) ∧ k x = r := ⟨v, fun _ => rfl, h⟩
theorem ltb_k2 {α β γ δ : Type} {v : α → β → δ} {k : (α → β → δ) → γ} {r : γ} (h : ltb v k = r) : ∃ x : α → β → δ, (∀ a b, x a b = v a b) ∧ k x = r := ⟨v, fun _ _ => rfl, h⟩
theorem ltb_k3 {α1 α2 α3 γ δ : Type} {v : α1 → α2 → α3 → δ} {k : (α1 → α2 → α3 → δ) → γ} {r : γ} (h : ltb v k = r) : ∃ x : α1 → α2 → α3 → δ, (∀ a b c, x a b c = v a b c) ∧ k x = r := ⟨v, fun _ _ _ => rfl, h⟩
theorem ltb_k4 {α1 α2 α3 α4 γ δ : Type} {v : α1 → α2 → α3 → α4 → δ} {k : (α1 → α2 → α3 → α4 → δ) → γ} {r : γ} (h : ltb v k = r) : ∃ x : α1 → α2 → α3 → α4 → δ, (∀ a b c d, x a b c d = v a b c d) ∧ k x = r := ⟨v, fun _ _ _ _ => rfl, h⟩
theorem lcmp_eq (x y : Int64) : lg_cmp x y = 0 ↔ x = y := by
  unfold lg_cmp
  by_cases h : x > y
  · rw [if_pos h]
    constructor
    · intro z; exact absurd z (by decide)
    · intro z; subst z; exact absurd h (Int64.lt_irrefl)
  · rw [if_neg h]
    by_cases h2 : x = y
    · rw [if_pos h2]; exact ⟨fun _ => h2, fun _ => rfl⟩
    · rw [if_neg h2]; exact ⟨fun z => absurd z (by decide), fun z => absurd z h2⟩
theorem lcmp_lt (x y : Int64) : lg_cmp x y < 0 ↔ x < y := by
  have h := lg_cmp_ge x y
  constructor
  · intro z
    exact Int64.not_le.mp (fun q => absurd z (Int32.not_lt.mpr (h.mpr q)))
  · intro z
    exact Int32.not_le.mp (fun q => absurd z (Int64.not_lt.mpr (h.mp q)))
theorem lcmp_gt (x y : Int64) : 0 < lg_cmp x y ↔ y < x := by
  unfold lg_cmp
  by_cases h : x > y
  · rw [if_pos h]; exact ⟨fun _ => h, fun _ => by decide⟩
  · rw [if_neg h]
    by_cases h2 : x = y
    · rw [if_pos h2]; exact ⟨fun z => absurd z (by decide), fun z => absurd z h⟩
    · rw [if_neg h2]; exact ⟨fun z => absurd z (by decide), fun z => absurd z h⟩
theorem lcmp_le (x y : Int64) : lg_cmp x y ≤ 0 ↔ x ≤ y := by
  have h := lcmp_gt x y
  constructor
  · intro z
    exact Int64.not_lt.mp (fun q => absurd z (Int32.not_le.mpr (h.mpr q)))
  · intro z
    exact Int32.not_lt.mp (fun q => absurd z (Int64.not_le.mpr (h.mp q)))
section VWA
variable {E : eU} {G : gU} {ρ : Nat → Nat → Nat} {V : Nat → Nat → Prop} {k1 k2 : Nat} {M M1 A A1 Z Z1 : sM} {pc nL d mc ms : Nat} {lv lv' : List (Nat × Value)} {st : List Value} {cc : ByteArray} {own : String} {ret : Option FieldType}

theorem wa_iconst (q : Nat) (hC : CX E G cc nL own ret d mc ms) {n : Int} {v : Int32} (hdg : decode cc pc = .ok (.iconst n, 1)) (hv : Int32.ofInt n = v) (hq : pc + 1 = q) (kk : WA E G ρ V k1 k2 M q lv (.int v :: st)) : WA E G ρ V k1 k2 M pc lv st := by
  subst hq
  intro H locs ls hR hO hl
  exact lv_iconst hC.1 hC.2.1 hdg hv (kk H locs ls hR hO hl)
theorem wa_bipush (q : Nat) (hC : CX E G cc nL own ret d mc ms) {n : Int} {v : Int32} (hdg : decode cc pc = .ok (.bipush n, 2)) (hv : (Int8.ofInt n).toInt32 = v) (hq : pc + 2 = q) (kk : WA E G ρ V k1 k2 M q lv (.int v :: st)) : WA E G ρ V k1 k2 M pc lv st := by
  subst hq
  intro H locs ls hR hO hl
  exact lv_bipush hC.1 hC.2.1 hdg hv (kk H locs ls hR hO hl)
theorem wa_sipush (q : Nat) (hC : CX E G cc nL own ret d mc ms) {n : Int} {v : Int32} (hdg : decode cc pc = .ok (.sipush n, 3)) (hv : (Int16.ofInt n).toInt32 = v) (hq : pc + 3 = q) (kk : WA E G ρ V k1 k2 M q lv (.int v :: st)) : WA E G ρ V k1 k2 M pc lv st := by
  subst hq
  intro H locs ls hR hO hl
  exact lv_sipush hC.1 hC.2.1 hdg hv (kk H locs ls hR hO hl)
theorem wa_lconst (q : Nat) (hC : CX E G cc nL own ret d mc ms) {n : Fin 2} {v : Int64} (hdg : decode cc pc = .ok (.lconst n, 1)) (hv : Int64.ofNat (n : Nat) = v) (hq : pc + 1 = q) (kk : WA E G ρ V k1 k2 M q lv (.long v :: st)) : WA E G ρ V k1 k2 M pc lv st := by
  subst hq
  intro H locs ls hR hO hl
  exact lv_lconst hC.1 hC.2.1 hdg hv (kk H locs ls hR hO hl)
theorem wa_iload_n (q i : Nat) (hC : CX E G cc nL own ret d mc ms) {j : Fin 4}  {x : Int32} (hdg : decode cc pc = .ok (.iload_n j, 1)) (hi : (j : Nat) = i) (k : Nat) (hk : lv[k]? = some (i, .int x)) (hq : pc + 1 = q) (kk : WA E G ρ V k1 k2 M q lv (.int x :: st)) : WA E G ρ V k1 k2 M pc lv st := by
  subst hq
  intro H locs ls hR hO hl
  exact lv_iload_n hC.1 hC.2.1 hdg hi (lv_at hl k hk) (kk H locs ls hR hO hl)
theorem wa_iload (q i : Nat) (hC : CX E G cc nL own ret d mc ms)  {x : Int32} (hdg : decode cc pc = .ok (.iload i, 2)) (k : Nat) (hk : lv[k]? = some (i, .int x)) (hq : pc + 2 = q) (kk : WA E G ρ V k1 k2 M q lv (.int x :: st)) : WA E G ρ V k1 k2 M pc lv st := by
  subst hq
  intro H locs ls hR hO hl
  exact lv_iload hC.1 hC.2.1 hdg (lv_at hl k hk) (kk H locs ls hR hO hl)
theorem wa_istore_n (q i : Nat) (hC : CX E G cc nL own ret d mc ms) {lv' : List (Nat × Value)} {j : Fin 4}  {x x' : Int32} (hdg : decode cc pc = .ok (.istore_n j, 1)) (hi : (j : Nat) = i) (ex : x' = x) (hn : i < nL) (hl9 : (i, Value.int x') :: lv.filter (fun q => !(q.1 == i) && !(q.1 + 1 == i && q.2.category == 2)) = lv') (hq : pc + 1 = q) (kk : WA E G ρ V k1 k2 M q lv' st) : WA E G ρ V k1 k2 M pc lv (.int x :: st) := by
  subst hq
  intro H locs ls hR hO hl
  exact by
    subst ex
    exact lv_istore_n hC.1 hC.2.1 hdg hi hl (by rw [hC.2.2.1]; exact hn) hl9 (fun ls' hl' => kk H locs ls' hR hO hl')
theorem wa_istore (q i : Nat) (hC : CX E G cc nL own ret d mc ms) {lv' : List (Nat × Value)}  {x x' : Int32} (hdg : decode cc pc = .ok (.istore i, 2)) (ex : x' = x) (hn : i < nL) (hl9 : (i, Value.int x') :: lv.filter (fun q => !(q.1 == i) && !(q.1 + 1 == i && q.2.category == 2)) = lv') (hq : pc + 2 = q) (kk : WA E G ρ V k1 k2 M q lv' st) : WA E G ρ V k1 k2 M pc lv (.int x :: st) := by
  subst hq
  intro H locs ls hR hO hl
  exact by
    subst ex
    exact lv_istore hC.1 hC.2.1 hdg hl (by rw [hC.2.2.1]; exact hn) hl9 (fun ls' hl' => kk H locs ls' hR hO hl')
theorem wa_lload_n (q i : Nat) (hC : CX E G cc nL own ret d mc ms) {j : Fin 4}  {x : Int64} (hdg : decode cc pc = .ok (.lload_n j, 1)) (hi : (j : Nat) = i) (k : Nat) (hk : lv[k]? = some (i, .long x)) (hq : pc + 1 = q) (kk : WA E G ρ V k1 k2 M q lv (.long x :: st)) : WA E G ρ V k1 k2 M pc lv st := by
  subst hq
  intro H locs ls hR hO hl
  exact lv_lload_n hC.1 hC.2.1 hdg hi (lv_at hl k hk) (kk H locs ls hR hO hl)
theorem wa_lload (q i : Nat) (hC : CX E G cc nL own ret d mc ms)  {x : Int64} (hdg : decode cc pc = .ok (.lload i, 2)) (k : Nat) (hk : lv[k]? = some (i, .long x)) (hq : pc + 2 = q) (kk : WA E G ρ V k1 k2 M q lv (.long x :: st)) : WA E G ρ V k1 k2 M pc lv st := by
  subst hq
  intro H locs ls hR hO hl
  exact lv_lload hC.1 hC.2.1 hdg (lv_at hl k hk) (kk H locs ls hR hO hl)
theorem wa_lstore_n (q i : Nat) (hC : CX E G cc nL own ret d mc ms) {lv' : List (Nat × Value)} {j : Fin 4}  {x x' : Int64} (hdg : decode cc pc = .ok (.lstore_n j, 1)) (hi : (j : Nat) = i) (ex : x' = x) (hn : i + 1 < nL) (hl9 : (i, Value.long x') :: lv.filter (fun q => !(q.1 == i) && (!(q.1 == i + 1) && !(q.1 + 1 == i && q.2.category == 2))) = lv') (hq : pc + 1 = q) (kk : WA E G ρ V k1 k2 M q lv' st) : WA E G ρ V k1 k2 M pc lv (.long x :: st) := by
  subst hq
  intro H locs ls hR hO hl
  exact by
    subst ex
    exact lv_lstore_n hC.1 hC.2.1 hdg hi hl (by rw [hC.2.2.1]; exact hn) hl9 (fun ls' hl' => kk H locs ls' hR hO hl')
theorem wa_lstore (q i : Nat) (hC : CX E G cc nL own ret d mc ms) {lv' : List (Nat × Value)}  {x x' : Int64} (hdg : decode cc pc = .ok (.lstore i, 2)) (ex : x' = x) (hn : i + 1 < nL) (hl9 : (i, Value.long x') :: lv.filter (fun q => !(q.1 == i) && (!(q.1 == i + 1) && !(q.1 + 1 == i && q.2.category == 2))) = lv') (hq : pc + 2 = q) (kk : WA E G ρ V k1 k2 M q lv' st) : WA E G ρ V k1 k2 M pc lv (.long x :: st) := by
  subst hq
  intro H locs ls hR hO hl
  exact by
    subst ex
    exact lv_lstore hC.1 hC.2.1 hdg hl (by rw [hC.2.2.1]; exact hn) hl9 (fun ls' hl' => kk H locs ls' hR hO hl')
theorem wa_aload_n (q i : Nat) (hC : CX E G cc nL own ret d mc ms) {j : Fin 4}  {x : Nat} (hdg : decode cc pc = .ok (.aload_n j, 1)) (hi : (j : Nat) = i) (k : Nat) (hk : lv[k]? = some (i, .ref x)) (hq : pc + 1 = q) (kk : WA E G ρ V k1 k2 M q lv (.ref x :: st)) : WA E G ρ V k1 k2 M pc lv st := by
  subst hq
  intro H locs ls hR hO hl
  exact lv_aload_n hC.1 hC.2.1 hdg hi (lv_at hl k hk) (kk H locs ls hR hO hl)
theorem wa_aload (q i : Nat) (hC : CX E G cc nL own ret d mc ms)  {x : Nat} (hdg : decode cc pc = .ok (.aload i, 2)) (k : Nat) (hk : lv[k]? = some (i, .ref x)) (hq : pc + 2 = q) (kk : WA E G ρ V k1 k2 M q lv (.ref x :: st)) : WA E G ρ V k1 k2 M pc lv st := by
  subst hq
  intro H locs ls hR hO hl
  exact lv_aload hC.1 hC.2.1 hdg (lv_at hl k hk) (kk H locs ls hR hO hl)
theorem wa_astore_n (q i : Nat) (hC : CX E G cc nL own ret d mc ms) {lv' : List (Nat × Value)} {j : Fin 4}  {x x' : Nat} (hdg : decode cc pc = .ok (.astore_n j, 1)) (hi : (j : Nat) = i) (ex : x' = x) (hn : i < nL) (hl9 : (i, Value.ref x') :: lv.filter (fun q => !(q.1 == i) && !(q.1 + 1 == i && q.2.category == 2)) = lv') (hq : pc + 1 = q) (kk : WA E G ρ V k1 k2 M q lv' st) : WA E G ρ V k1 k2 M pc lv (.ref x :: st) := by
  subst hq
  intro H locs ls hR hO hl
  exact by
    subst ex
    exact lv_astore_n hC.1 hC.2.1 hdg hi hl (by rw [hC.2.2.1]; exact hn) hl9 (fun ls' hl' => kk H locs ls' hR hO hl')
theorem wa_astore (q i : Nat) (hC : CX E G cc nL own ret d mc ms) {lv' : List (Nat × Value)}  {x x' : Nat} (hdg : decode cc pc = .ok (.astore i, 2)) (ex : x' = x) (hn : i < nL) (hl9 : (i, Value.ref x') :: lv.filter (fun q => !(q.1 == i) && !(q.1 + 1 == i && q.2.category == 2)) = lv') (hq : pc + 2 = q) (kk : WA E G ρ V k1 k2 M q lv' st) : WA E G ρ V k1 k2 M pc lv (.ref x :: st) := by
  subst hq
  intro H locs ls hR hO hl
  exact by
    subst ex
    exact lv_astore hC.1 hC.2.1 hdg hl (by rw [hC.2.2.1]; exact hn) hl9 (fun ls' hl' => kk H locs ls' hR hO hl')
theorem wa_iinc (q i : Nat) (hC : CX E G cc nL own ret d mc ms) {lv' : List (Nat × Value)}  {n : Int} {x x' : Int32} (hdg : decode cc pc = .ok (.iinc i n, 3)) (k : Nat) (hk : lv[k]? = some (i, .int x)) (ex : x' = x + Int32.ofInt n) (hn : i < nL) (hl9 : (i, Value.int x') :: lv.filter (fun q => !(q.1 == i) && !(q.1 + 1 == i && q.2.category == 2)) = lv') (hq : pc + 3 = q) (kk : WA E G ρ V k1 k2 M q lv' st) : WA E G ρ V k1 k2 M pc lv st := by
  subst hq
  intro H locs ls hR hO hl
  exact lv_iinc hC.1 hC.2.1 hdg hl hk ex.symm (by rw [hC.2.2.1]; exact hn) hl9 (fun ls' hl' => kk H locs ls' hR hO hl')
theorem wa_iadd (q : Nat) (hC : CX E G cc nL own ret d mc ms) {x y : Int32} (hdg : decode cc pc = .ok (.iadd, 1))  (hq : pc + 1 = q) (kk : WA E G ρ V k1 k2 M q lv (.int (x + y) :: st)) : WA E G ρ V k1 k2 M pc lv (.int y :: .int x :: st) := by
  subst hq
  intro H locs ls hR hO hl
  exact lv_iadd hC.1 hC.2.1 hdg (kk H locs ls hR hO hl)
theorem wa_isub (q : Nat) (hC : CX E G cc nL own ret d mc ms) {x y : Int32} (hdg : decode cc pc = .ok (.isub, 1))  (hq : pc + 1 = q) (kk : WA E G ρ V k1 k2 M q lv (.int (x - y) :: st)) : WA E G ρ V k1 k2 M pc lv (.int y :: .int x :: st) := by
  subst hq
  intro H locs ls hR hO hl
  exact lv_isub hC.1 hC.2.1 hdg (kk H locs ls hR hO hl)
theorem wa_imul (q : Nat) (hC : CX E G cc nL own ret d mc ms) {x y : Int32} (hdg : decode cc pc = .ok (.imul, 1))  (hq : pc + 1 = q) (kk : WA E G ρ V k1 k2 M q lv (.int (x * y) :: st)) : WA E G ρ V k1 k2 M pc lv (.int y :: .int x :: st) := by
  subst hq
  intro H locs ls hR hO hl
  exact lv_imul hC.1 hC.2.1 hdg (kk H locs ls hR hO hl)
theorem wa_iand (q : Nat) (hC : CX E G cc nL own ret d mc ms) {x y : Int32} (hdg : decode cc pc = .ok (.iand, 1))  (hq : pc + 1 = q) (kk : WA E G ρ V k1 k2 M q lv (.int (x &&& y) :: st)) : WA E G ρ V k1 k2 M pc lv (.int y :: .int x :: st) := by
  subst hq
  intro H locs ls hR hO hl
  exact lv_iand hC.1 hC.2.1 hdg (kk H locs ls hR hO hl)
theorem wa_ior (q : Nat) (hC : CX E G cc nL own ret d mc ms) {x y : Int32} (hdg : decode cc pc = .ok (.ior, 1))  (hq : pc + 1 = q) (kk : WA E G ρ V k1 k2 M q lv (.int (x ||| y) :: st)) : WA E G ρ V k1 k2 M pc lv (.int y :: .int x :: st) := by
  subst hq
  intro H locs ls hR hO hl
  exact lv_ior hC.1 hC.2.1 hdg (kk H locs ls hR hO hl)
theorem wa_ishl (q : Nat) (hC : CX E G cc nL own ret d mc ms) {x y : Int32} (hdg : decode cc pc = .ok (.ishl, 1))  (hq : pc + 1 = q) (kk : WA E G ρ V k1 k2 M q lv (.int (x <<< (y &&& 31)) :: st)) : WA E G ρ V k1 k2 M pc lv (.int y :: .int x :: st) := by
  subst hq
  intro H locs ls hR hO hl
  exact lv_ishl hC.1 hC.2.1 hdg (kk H locs ls hR hO hl)
theorem wa_ishr (q : Nat) (hC : CX E G cc nL own ret d mc ms) {x y : Int32} (hdg : decode cc pc = .ok (.ishr, 1))  (hq : pc + 1 = q) (kk : WA E G ρ V k1 k2 M q lv (.int (x >>> (y &&& 31)) :: st)) : WA E G ρ V k1 k2 M pc lv (.int y :: .int x :: st) := by
  subst hq
  intro H locs ls hR hO hl
  exact lv_ishr hC.1 hC.2.1 hdg (kk H locs ls hR hO hl)
theorem wa_idiv (q : Nat) (hC : CX E G cc nL own ret d mc ms) {x y : Int32} (hdg : decode cc pc = .ok (.idiv, 1)) (hne : nzI y = true) (hq : pc + 1 = q) (kk : WA E G ρ V k1 k2 M q lv (.int (x / y) :: st)) : WA E G ρ V k1 k2 M pc lv (.int y :: .int x :: st) := by
  subst hq
  intro H locs ls hR hO hl
  exact lv_idiv hC.1 hC.2.1 hdg (of_decide_eq_true hne) (kk H locs ls hR hO hl)
theorem wa_irem (q : Nat) (hC : CX E G cc nL own ret d mc ms) {x y : Int32} (hdg : decode cc pc = .ok (.irem, 1)) (hne : nzI y = true) (hq : pc + 1 = q) (kk : WA E G ρ V k1 k2 M q lv (.int (x - x / y * y) :: st)) : WA E G ρ V k1 k2 M pc lv (.int y :: .int x :: st) := by
  subst hq
  intro H locs ls hR hO hl
  exact lv_irem hC.1 hC.2.1 hdg (of_decide_eq_true hne) (kk H locs ls hR hO hl)
theorem wa_ladd (q : Nat) (hC : CX E G cc nL own ret d mc ms) {x y : Int64} (hdg : decode cc pc = .ok (.ladd, 1))  (hq : pc + 1 = q) (kk : WA E G ρ V k1 k2 M q lv (.long (x + y) :: st)) : WA E G ρ V k1 k2 M pc lv (.long y :: .long x :: st) := by
  subst hq
  intro H locs ls hR hO hl
  exact lv_ladd hC.1 hC.2.1 hdg (kk H locs ls hR hO hl)
theorem wa_lsub (q : Nat) (hC : CX E G cc nL own ret d mc ms) {x y : Int64} (hdg : decode cc pc = .ok (.lsub, 1))  (hq : pc + 1 = q) (kk : WA E G ρ V k1 k2 M q lv (.long (x - y) :: st)) : WA E G ρ V k1 k2 M pc lv (.long y :: .long x :: st) := by
  subst hq
  intro H locs ls hR hO hl
  exact lv_lsub hC.1 hC.2.1 hdg (kk H locs ls hR hO hl)
theorem wa_lmul (q : Nat) (hC : CX E G cc nL own ret d mc ms) {x y : Int64} (hdg : decode cc pc = .ok (.lmul, 1))  (hq : pc + 1 = q) (kk : WA E G ρ V k1 k2 M q lv (.long (x * y) :: st)) : WA E G ρ V k1 k2 M pc lv (.long y :: .long x :: st) := by
  subst hq
  intro H locs ls hR hO hl
  exact lv_lmul hC.1 hC.2.1 hdg (kk H locs ls hR hO hl)
theorem wa_land (q : Nat) (hC : CX E G cc nL own ret d mc ms) {x y : Int64} (hdg : decode cc pc = .ok (.land, 1))  (hq : pc + 1 = q) (kk : WA E G ρ V k1 k2 M q lv (.long (x &&& y) :: st)) : WA E G ρ V k1 k2 M pc lv (.long y :: .long x :: st) := by
  subst hq
  intro H locs ls hR hO hl
  exact lv_land hC.1 hC.2.1 hdg (kk H locs ls hR hO hl)
theorem wa_lor (q : Nat) (hC : CX E G cc nL own ret d mc ms) {x y : Int64} (hdg : decode cc pc = .ok (.lor, 1))  (hq : pc + 1 = q) (kk : WA E G ρ V k1 k2 M q lv (.long (x ||| y) :: st)) : WA E G ρ V k1 k2 M pc lv (.long y :: .long x :: st) := by
  subst hq
  intro H locs ls hR hO hl
  exact lv_lor hC.1 hC.2.1 hdg (kk H locs ls hR hO hl)
theorem wa_ldiv (q : Nat) (hC : CX E G cc nL own ret d mc ms) {x y : Int64} (hdg : decode cc pc = .ok (.ldiv, 1)) (hne : nzL y = true) (hq : pc + 1 = q) (kk : WA E G ρ V k1 k2 M q lv (.long (x / y) :: st)) : WA E G ρ V k1 k2 M pc lv (.long y :: .long x :: st) := by
  subst hq
  intro H locs ls hR hO hl
  exact lv_ldiv hC.1 hC.2.1 hdg (of_decide_eq_true hne) (kk H locs ls hR hO hl)
theorem wa_lrem (q : Nat) (hC : CX E G cc nL own ret d mc ms) {x y : Int64} (hdg : decode cc pc = .ok (.lrem, 1)) (hne : nzL y = true) (hq : pc + 1 = q) (kk : WA E G ρ V k1 k2 M q lv (.long (x - x / y * y) :: st)) : WA E G ρ V k1 k2 M pc lv (.long y :: .long x :: st) := by
  subst hq
  intro H locs ls hR hO hl
  exact lv_lrem hC.1 hC.2.1 hdg (of_decide_eq_true hne) (kk H locs ls hR hO hl)
theorem wa_lneg (q : Nat) (hC : CX E G cc nL own ret d mc ms) {x : Int64} (hdg : decode cc pc = .ok (.lneg, 1))  (hq : pc + 1 = q) (kk : WA E G ρ V k1 k2 M q lv (.long (-x) :: st)) : WA E G ρ V k1 k2 M pc lv (.long x :: st) := by
  subst hq
  intro H locs ls hR hO hl
  exact lv_lneg hC.1 hC.2.1 hdg (kk H locs ls hR hO hl)
theorem wa_i2l (q : Nat) (hC : CX E G cc nL own ret d mc ms) {x : Int32} (hdg : decode cc pc = .ok (.i2l, 1))  (hq : pc + 1 = q) (kk : WA E G ρ V k1 k2 M q lv (.long x.toInt64 :: st)) : WA E G ρ V k1 k2 M pc lv (.int x :: st) := by
  subst hq
  intro H locs ls hR hO hl
  exact lv_i2l hC.1 hC.2.1 hdg rfl (kk H locs ls hR hO hl)
theorem wa_l2i (q : Nat) (hC : CX E G cc nL own ret d mc ms) {x : Int64} (hdg : decode cc pc = .ok (.l2i, 1))  (hq : pc + 1 = q) (kk : WA E G ρ V k1 k2 M q lv (.int x.toInt32 :: st)) : WA E G ρ V k1 k2 M pc lv (.long x :: st) := by
  subst hq
  intro H locs ls hR hO hl
  exact lv_l2i hC.1 hC.2.1 hdg rfl (kk H locs ls hR hO hl)
theorem wa_i2b (q : Nat) (hC : CX E G cc nL own ret d mc ms) {x : Int32} (hdg : decode cc pc = .ok (.i2b, 1))  (hq : pc + 1 = q) (kk : WA E G ρ V k1 k2 M q lv (.int x.toInt8.toInt32 :: st)) : WA E G ρ V k1 k2 M pc lv (.int x :: st) := by
  subst hq
  intro H locs ls hR hO hl
  exact lv_i2b hC.1 hC.2.1 hdg rfl (kk H locs ls hR hO hl)
theorem wa_iushr (q : Nat) (hC : CX E G cc nL own ret d mc ms) {x y : Int32} (hdg : decode cc pc = .ok (.iushr, 1))  (hq : pc + 1 = q) (kk : WA E G ρ V k1 k2 M q lv (.int (x.toUInt32 >>> (y.toUInt32 &&& Int32.toUInt32 31)).toInt32 :: st)) : WA E G ρ V k1 k2 M pc lv (.int y :: .int x :: st) := by
  subst hq
  intro H locs ls hR hO hl
  exact lv_iushr hC.1 hC.2.1 hdg rfl (kk H locs ls hR hO hl)
theorem wa_lshl (q : Nat) (hC : CX E G cc nL own ret d mc ms) {x : Int64} {y : Int32} (hdg : decode cc pc = .ok (.lshl, 1))  (hq : pc + 1 = q) (kk : WA E G ρ V k1 k2 M q lv (.long (x <<< (y.toInt64 &&& 63)) :: st)) : WA E G ρ V k1 k2 M pc lv (.int y :: .long x :: st) := by
  subst hq
  intro H locs ls hR hO hl
  exact lv_lshl hC.1 hC.2.1 hdg rfl (kk H locs ls hR hO hl)
theorem wa_dup (q : Nat) (hC : CX E G cc nL own ret d mc ms) {va : Value} (hdg : decode cc pc = .ok (.dup, 1)) (hva : va.category = 1) (hq : pc + 1 = q) (kk : WA E G ρ V k1 k2 M q lv (va :: va :: st)) : WA E G ρ V k1 k2 M pc lv (va :: st) := by
  subst hq
  intro H locs ls hR hO hl
  exact lv_dup hC.1 hC.2.1 hdg hva (kk H locs ls hR hO hl)
theorem wa_pop (q : Nat) (hC : CX E G cc nL own ret d mc ms) {va : Value} (hdg : decode cc pc = .ok (.pop, 1)) (hva : va.category = 1) (hq : pc + 1 = q) (kk : WA E G ρ V k1 k2 M q lv st) : WA E G ρ V k1 k2 M pc lv (va :: st) := by
  subst hq
  intro H locs ls hR hO hl
  exact lv_pop hC.1 hC.2.1 hdg hva (kk H locs ls hR hO hl)
theorem wa_pop2 (q : Nat) (hC : CX E G cc nL own ret d mc ms) {va : Value} (hdg : decode cc pc = .ok (.pop2, 1)) (hva : va.category = 2) (hq : pc + 1 = q) (kk : WA E G ρ V k1 k2 M q lv st) : WA E G ρ V k1 k2 M pc lv (va :: st) := by
  subst hq
  intro H locs ls hR hO hl
  exact lv_pop2_2 hC.1 hC.2.1 hdg hva (kk H locs ls hR hO hl)
theorem wa_dup2 (q : Nat) (hC : CX E G cc nL own ret d mc ms) {va vb : Value} (hdg : decode cc pc = .ok (.dup2, 1)) (hva : va.category = 1) (hvb : vb.category = 1) (hq : pc + 1 = q) (kk : WA E G ρ V k1 k2 M q lv (va :: vb :: va :: vb :: st)) : WA E G ρ V k1 k2 M pc lv (va :: vb :: st) := by
  subst hq
  intro H locs ls hR hO hl
  exact lv_dup2_11 hC.1 hC.2.1 hdg hva hvb (kk H locs ls hR hO hl)
theorem wa_dup2L (q : Nat) (hC : CX E G cc nL own ret d mc ms) {va : Value} (hdg : decode cc pc = .ok (.dup2, 1)) (hva : va.category = 2) (hq : pc + 1 = q) (kk : WA E G ρ V k1 k2 M q lv (va :: va :: st)) : WA E G ρ V k1 k2 M pc lv (va :: st) := by
  subst hq
  intro H locs ls hR hO hl
  exact lv_dup2_2 hC.1 hC.2.1 hdg hva (kk H locs ls hR hO hl)
theorem wa_dup_x1 (q : Nat) (hC : CX E G cc nL own ret d mc ms) {va vb : Value} (hdg : decode cc pc = .ok (.dup_x1, 1)) (hva : va.category = 1) (hvb : vb.category = 1) (hq : pc + 1 = q) (kk : WA E G ρ V k1 k2 M q lv (va :: vb :: va :: st)) : WA E G ρ V k1 k2 M pc lv (va :: vb :: st) := by
  subst hq
  intro H locs ls hR hO hl
  exact lv_dup_x1 hC.1 hC.2.1 hdg hva hvb (kk H locs ls hR hO hl)
theorem wa_ldc (q : Nat) (hC : CX E G cc nL own ret d mc ms) {index : Nat} {v : Int32} (hdg : decode cc pc = .ok (.ldc index, 2)) (hw : Cond.constant own index v ∈ ALLW) (hq : pc + 2 = q) (kk : WA E G ρ V k1 k2 M q lv (.int v :: st)) : WA E G ρ V k1 k2 M pc lv st := by
  subst hq
  intro H locs ls hR hO hl
  exact lv_ldc hC.1 hC.2.1 hC.2.2.2.1 (hC.2.2.2.2.1 _ hw) hdg (kk H locs ls hR hO hl)
theorem wa_ldcw (q : Nat) (hC : CX E G cc nL own ret d mc ms) {index : Nat} {v : Int32} (hdg : decode cc pc = .ok (.ldc_w index, 3)) (hw : Cond.constant own index v ∈ ALLW) (hq : pc + 3 = q) (kk : WA E G ρ V k1 k2 M q lv (.int v :: st)) : WA E G ρ V k1 k2 M pc lv st := by
  subst hq
  intro H locs ls hR hO hl
  exact lv_ldcw hC.1 hC.2.1 hC.2.2.2.1 (hC.2.2.2.2.1 _ hw) hdg (kk H locs ls hR hO hl)
theorem wa_ldc2 (q : Nat) (hC : CX E G cc nL own ret d mc ms) {index : Nat} {v : Int64} (hdg : decode cc pc = .ok (.ldc2_w index, 3)) (hw : Cond.constantLong own index v ∈ ALLW) (hq : pc + 3 = q) (kk : WA E G ρ V k1 k2 M q lv (.long v :: st)) : WA E G ρ V k1 k2 M pc lv st := by
  subst hq
  intro H locs ls hR hO hl
  exact lv_ldc2 hC.1 hC.2.1 hC.2.2.2.1 (hC.2.2.2.2.1 _ hw) hdg (kk H locs ls hR hO hl)
theorem wa_goto (t : Nat) (hC : CX E G cc nL own ret d mc ms) {off : Int} (hdg : decode cc pc = .ok (.goto off, 3)) (ht : (pc : Int) + off = (t : Int)) (kk : WA E G ρ V k1 k2 M t lv st) : WA E G ρ V k1 k2 M pc lv st := by
  intro H locs ls hR hO hl
  exact lv_goto hC.1 hC.2.1 hdg ht (kk H locs ls hR hO hl)
theorem wa_pick (ks : List Nat) (hl9 : lv_pick lv ks = lv') (kk : WA E G ρ V k1 k2 M pc lv' st) : WA E G ρ V k1 k2 M pc lv st := by
  intro H locs ls hR hO hl
  exact kk H locs ls hR hO (lv_sub hl ks hl9)
theorem wa_icmp_eq (q t : Nat) (hC : CX E G cc nL own ret d mc ms) {α : Type} {T F : Option α} {r : α} {x y : Int32} {off : Int} (hdg : decode cc pc = .ok (.if_icmp .eq off, 3)) (ht : (pc : Int) + off = (t : Int)) (hq : pc + 3 = q) (h : (if x = y then T else F) = some r) (kt : T = some r → WA E G ρ V k1 k2 M t lv st) (kf : F = some r → WA E G ρ V k1 k2 M q lv st) : WA E G ρ V k1 k2 M pc lv (.int y :: .int x :: st) := by
  subst hq
  intro H locs ls hR hO hl
  exact lv_icmp_eq hC.1 hC.2.1 hdg ht (fun c9 => kt (by rw [if_pos c9] at h; exact h) H locs ls hR hO hl) (fun c9 => kf (by rw [if_neg c9] at h; exact h) H locs ls hR hO hl)
theorem wa_if_eq (q t : Nat) (hC : CX E G cc nL own ret d mc ms) {α : Type} {T F : Option α} {r : α} {x : Int32} {off : Int} (hdg : decode cc pc = .ok (.ifCond .eq off, 3)) (ht : (pc : Int) + off = (t : Int)) (hq : pc + 3 = q) (h : (if x = 0 then T else F) = some r) (kt : T = some r → WA E G ρ V k1 k2 M t lv st) (kf : F = some r → WA E G ρ V k1 k2 M q lv st) : WA E G ρ V k1 k2 M pc lv (.int x :: st) := by
  subst hq
  intro H locs ls hR hO hl
  exact lv_if_eq hC.1 hC.2.1 hdg ht (fun c9 => kt (by rw [if_pos c9] at h; exact h) H locs ls hR hO hl) (fun c9 => kf (by rw [if_neg c9] at h; exact h) H locs ls hR hO hl)
theorem wa_lcmp_eq (q t : Nat) (hC : CX E G cc nL own ret d mc ms) {α : Type} {T F : Option α} {r : α} {x y : Int64} {off : Int} (hdg : decode cc pc = .ok (.ifCond .eq off, 3)) (ht : (pc : Int) + off = (t : Int)) (hq : pc + 3 = q) (h : (if x = y then T else F) = some r) (kt : T = some r → WA E G ρ V k1 k2 M t lv st) (kf : F = some r → WA E G ρ V k1 k2 M q lv st) : WA E G ρ V k1 k2 M pc lv (.int (lg_cmp x y) :: st) := by
  subst hq
  intro H locs ls hR hO hl
  exact lv_if_eq hC.1 hC.2.1 hdg ht (fun c9 => kt (by have c9 := (lcmp_eq x y).mp c9; rw [if_pos c9] at h; exact h) H locs ls hR hO hl) (fun c9 => kf (by have c9 := (not_congr (lcmp_eq x y)).mp c9; rw [if_neg c9] at h; exact h) H locs ls hR hO hl)
theorem wa_icmp_ne (q t : Nat) (hC : CX E G cc nL own ret d mc ms) {α : Type} {T F : Option α} {r : α} {x y : Int32} {off : Int} (hdg : decode cc pc = .ok (.if_icmp .ne off, 3)) (ht : (pc : Int) + off = (t : Int)) (hq : pc + 3 = q) (h : (if x = y then F else T) = some r) (kt : T = some r → WA E G ρ V k1 k2 M t lv st) (kf : F = some r → WA E G ρ V k1 k2 M q lv st) : WA E G ρ V k1 k2 M pc lv (.int y :: .int x :: st) := by
  subst hq
  intro H locs ls hR hO hl
  exact lv_icmp_ne hC.1 hC.2.1 hdg ht (fun c9 => kt (by rw [if_neg c9] at h; exact h) H locs ls hR hO hl) (fun c9 => kf (by rw [if_pos c9] at h; exact h) H locs ls hR hO hl)
theorem wa_if_ne (q t : Nat) (hC : CX E G cc nL own ret d mc ms) {α : Type} {T F : Option α} {r : α} {x : Int32} {off : Int} (hdg : decode cc pc = .ok (.ifCond .ne off, 3)) (ht : (pc : Int) + off = (t : Int)) (hq : pc + 3 = q) (h : (if x = 0 then F else T) = some r) (kt : T = some r → WA E G ρ V k1 k2 M t lv st) (kf : F = some r → WA E G ρ V k1 k2 M q lv st) : WA E G ρ V k1 k2 M pc lv (.int x :: st) := by
  subst hq
  intro H locs ls hR hO hl
  exact lv_if_ne hC.1 hC.2.1 hdg ht (fun c9 => kt (by rw [if_neg c9] at h; exact h) H locs ls hR hO hl) (fun c9 => kf (by rw [if_pos c9] at h; exact h) H locs ls hR hO hl)
theorem wa_lcmp_ne (q t : Nat) (hC : CX E G cc nL own ret d mc ms) {α : Type} {T F : Option α} {r : α} {x y : Int64} {off : Int} (hdg : decode cc pc = .ok (.ifCond .ne off, 3)) (ht : (pc : Int) + off = (t : Int)) (hq : pc + 3 = q) (h : (if x = y then F else T) = some r) (kt : T = some r → WA E G ρ V k1 k2 M t lv st) (kf : F = some r → WA E G ρ V k1 k2 M q lv st) : WA E G ρ V k1 k2 M pc lv (.int (lg_cmp x y) :: st) := by
  subst hq
  intro H locs ls hR hO hl
  exact lv_if_ne hC.1 hC.2.1 hdg ht (fun c9 => kt (by have c9 := (not_congr (lcmp_eq x y)).mp c9; rw [if_neg c9] at h; exact h) H locs ls hR hO hl) (fun c9 => kf (by have c9 := (lcmp_eq x y).mp c9; rw [if_pos c9] at h; exact h) H locs ls hR hO hl)
theorem wa_icmp_lt (q t : Nat) (hC : CX E G cc nL own ret d mc ms) {α : Type} {T F : Option α} {r : α} {x y : Int32} {off : Int} (hdg : decode cc pc = .ok (.if_icmp .lt off, 3)) (ht : (pc : Int) + off = (t : Int)) (hq : pc + 3 = q) (h : (if x < y then T else F) = some r) (kt : T = some r → WA E G ρ V k1 k2 M t lv st) (kf : F = some r → WA E G ρ V k1 k2 M q lv st) : WA E G ρ V k1 k2 M pc lv (.int y :: .int x :: st) := by
  subst hq
  intro H locs ls hR hO hl
  exact lv_icmp_lt hC.1 hC.2.1 hdg ht (fun c9 => kt (by rw [if_pos c9] at h; exact h) H locs ls hR hO hl) (fun c9 => kf (by rw [if_neg c9] at h; exact h) H locs ls hR hO hl)
theorem wa_if_lt (q t : Nat) (hC : CX E G cc nL own ret d mc ms) {α : Type} {T F : Option α} {r : α} {x : Int32} {off : Int} (hdg : decode cc pc = .ok (.ifCond .lt off, 3)) (ht : (pc : Int) + off = (t : Int)) (hq : pc + 3 = q) (h : (if x < 0 then T else F) = some r) (kt : T = some r → WA E G ρ V k1 k2 M t lv st) (kf : F = some r → WA E G ρ V k1 k2 M q lv st) : WA E G ρ V k1 k2 M pc lv (.int x :: st) := by
  subst hq
  intro H locs ls hR hO hl
  exact lv_if_lt hC.1 hC.2.1 hdg ht (fun c9 => kt (by rw [if_pos c9] at h; exact h) H locs ls hR hO hl) (fun c9 => kf (by rw [if_neg c9] at h; exact h) H locs ls hR hO hl)
theorem wa_lcmp_lt (q t : Nat) (hC : CX E G cc nL own ret d mc ms) {α : Type} {T F : Option α} {r : α} {x y : Int64} {off : Int} (hdg : decode cc pc = .ok (.ifCond .lt off, 3)) (ht : (pc : Int) + off = (t : Int)) (hq : pc + 3 = q) (h : (if x < y then T else F) = some r) (kt : T = some r → WA E G ρ V k1 k2 M t lv st) (kf : F = some r → WA E G ρ V k1 k2 M q lv st) : WA E G ρ V k1 k2 M pc lv (.int (lg_cmp x y) :: st) := by
  subst hq
  intro H locs ls hR hO hl
  exact lv_if_lt hC.1 hC.2.1 hdg ht (fun c9 => kt (by have c9 := (lcmp_lt x y).mp c9; rw [if_pos c9] at h; exact h) H locs ls hR hO hl) (fun c9 => kf (by have c9 := (not_congr (lcmp_lt x y)).mp c9; rw [if_neg c9] at h; exact h) H locs ls hR hO hl)
theorem wa_icmp_ge (q t : Nat) (hC : CX E G cc nL own ret d mc ms) {α : Type} {T F : Option α} {r : α} {x y : Int32} {off : Int} (hdg : decode cc pc = .ok (.if_icmp .ge off, 3)) (ht : (pc : Int) + off = (t : Int)) (hq : pc + 3 = q) (h : (if y ≤ x then T else F) = some r) (kt : T = some r → WA E G ρ V k1 k2 M t lv st) (kf : F = some r → WA E G ρ V k1 k2 M q lv st) : WA E G ρ V k1 k2 M pc lv (.int y :: .int x :: st) := by
  subst hq
  intro H locs ls hR hO hl
  exact lv_icmp_ge hC.1 hC.2.1 hdg ht (fun c9 => kt (by rw [if_pos c9] at h; exact h) H locs ls hR hO hl) (fun c9 => kf (by rw [if_neg c9] at h; exact h) H locs ls hR hO hl)
theorem wa_if_ge (q t : Nat) (hC : CX E G cc nL own ret d mc ms) {α : Type} {T F : Option α} {r : α} {x : Int32} {off : Int} (hdg : decode cc pc = .ok (.ifCond .ge off, 3)) (ht : (pc : Int) + off = (t : Int)) (hq : pc + 3 = q) (h : (if 0 ≤ x then T else F) = some r) (kt : T = some r → WA E G ρ V k1 k2 M t lv st) (kf : F = some r → WA E G ρ V k1 k2 M q lv st) : WA E G ρ V k1 k2 M pc lv (.int x :: st) := by
  subst hq
  intro H locs ls hR hO hl
  exact lv_if_ge hC.1 hC.2.1 hdg ht (fun c9 => kt (by rw [if_pos c9] at h; exact h) H locs ls hR hO hl) (fun c9 => kf (by rw [if_neg c9] at h; exact h) H locs ls hR hO hl)
theorem wa_lcmp_ge (q t : Nat) (hC : CX E G cc nL own ret d mc ms) {α : Type} {T F : Option α} {r : α} {x y : Int64} {off : Int} (hdg : decode cc pc = .ok (.ifCond .ge off, 3)) (ht : (pc : Int) + off = (t : Int)) (hq : pc + 3 = q) (h : (if y ≤ x then T else F) = some r) (kt : T = some r → WA E G ρ V k1 k2 M t lv st) (kf : F = some r → WA E G ρ V k1 k2 M q lv st) : WA E G ρ V k1 k2 M pc lv (.int (lg_cmp x y) :: st) := by
  subst hq
  intro H locs ls hR hO hl
  exact lv_if_ge hC.1 hC.2.1 hdg ht (fun c9 => kt (by have c9 := (lg_cmp_ge x y).mp c9; rw [if_pos c9] at h; exact h) H locs ls hR hO hl) (fun c9 => kf (by have c9 := (not_congr (lg_cmp_ge x y)).mp c9; rw [if_neg c9] at h; exact h) H locs ls hR hO hl)
theorem wa_icmp_gt (q t : Nat) (hC : CX E G cc nL own ret d mc ms) {α : Type} {T F : Option α} {r : α} {x y : Int32} {off : Int} (hdg : decode cc pc = .ok (.if_icmp .gt off, 3)) (ht : (pc : Int) + off = (t : Int)) (hq : pc + 3 = q) (h : (if y < x then T else F) = some r) (kt : T = some r → WA E G ρ V k1 k2 M t lv st) (kf : F = some r → WA E G ρ V k1 k2 M q lv st) : WA E G ρ V k1 k2 M pc lv (.int y :: .int x :: st) := by
  subst hq
  intro H locs ls hR hO hl
  exact lv_icmp_gt hC.1 hC.2.1 hdg ht (fun c9 => kt (by rw [if_pos c9] at h; exact h) H locs ls hR hO hl) (fun c9 => kf (by rw [if_neg c9] at h; exact h) H locs ls hR hO hl)
theorem wa_if_gt (q t : Nat) (hC : CX E G cc nL own ret d mc ms) {α : Type} {T F : Option α} {r : α} {x : Int32} {off : Int} (hdg : decode cc pc = .ok (.ifCond .gt off, 3)) (ht : (pc : Int) + off = (t : Int)) (hq : pc + 3 = q) (h : (if 0 < x then T else F) = some r) (kt : T = some r → WA E G ρ V k1 k2 M t lv st) (kf : F = some r → WA E G ρ V k1 k2 M q lv st) : WA E G ρ V k1 k2 M pc lv (.int x :: st) := by
  subst hq
  intro H locs ls hR hO hl
  exact lv_if_gt hC.1 hC.2.1 hdg ht (fun c9 => kt (by rw [if_pos c9] at h; exact h) H locs ls hR hO hl) (fun c9 => kf (by rw [if_neg c9] at h; exact h) H locs ls hR hO hl)
theorem wa_lcmp_gt (q t : Nat) (hC : CX E G cc nL own ret d mc ms) {α : Type} {T F : Option α} {r : α} {x y : Int64} {off : Int} (hdg : decode cc pc = .ok (.ifCond .gt off, 3)) (ht : (pc : Int) + off = (t : Int)) (hq : pc + 3 = q) (h : (if y < x then T else F) = some r) (kt : T = some r → WA E G ρ V k1 k2 M t lv st) (kf : F = some r → WA E G ρ V k1 k2 M q lv st) : WA E G ρ V k1 k2 M pc lv (.int (lg_cmp x y) :: st) := by
  subst hq
  intro H locs ls hR hO hl
  exact lv_if_gt hC.1 hC.2.1 hdg ht (fun c9 => kt (by have c9 := (lcmp_gt x y).mp c9; rw [if_pos c9] at h; exact h) H locs ls hR hO hl) (fun c9 => kf (by have c9 := (not_congr (lcmp_gt x y)).mp c9; rw [if_neg c9] at h; exact h) H locs ls hR hO hl)
theorem wa_icmp_le (q t : Nat) (hC : CX E G cc nL own ret d mc ms) {α : Type} {T F : Option α} {r : α} {x y : Int32} {off : Int} (hdg : decode cc pc = .ok (.if_icmp .le off, 3)) (ht : (pc : Int) + off = (t : Int)) (hq : pc + 3 = q) (h : (if x ≤ y then T else F) = some r) (kt : T = some r → WA E G ρ V k1 k2 M t lv st) (kf : F = some r → WA E G ρ V k1 k2 M q lv st) : WA E G ρ V k1 k2 M pc lv (.int y :: .int x :: st) := by
  subst hq
  intro H locs ls hR hO hl
  exact lv_icmp_le hC.1 hC.2.1 hdg ht (fun c9 => kt (by rw [if_pos c9] at h; exact h) H locs ls hR hO hl) (fun c9 => kf (by rw [if_neg c9] at h; exact h) H locs ls hR hO hl)
theorem wa_if_le (q t : Nat) (hC : CX E G cc nL own ret d mc ms) {α : Type} {T F : Option α} {r : α} {x : Int32} {off : Int} (hdg : decode cc pc = .ok (.ifCond .le off, 3)) (ht : (pc : Int) + off = (t : Int)) (hq : pc + 3 = q) (h : (if x ≤ 0 then T else F) = some r) (kt : T = some r → WA E G ρ V k1 k2 M t lv st) (kf : F = some r → WA E G ρ V k1 k2 M q lv st) : WA E G ρ V k1 k2 M pc lv (.int x :: st) := by
  subst hq
  intro H locs ls hR hO hl
  exact lv_if_le hC.1 hC.2.1 hdg ht (fun c9 => kt (by rw [if_pos c9] at h; exact h) H locs ls hR hO hl) (fun c9 => kf (by rw [if_neg c9] at h; exact h) H locs ls hR hO hl)
theorem wa_lcmp_le (q t : Nat) (hC : CX E G cc nL own ret d mc ms) {α : Type} {T F : Option α} {r : α} {x y : Int64} {off : Int} (hdg : decode cc pc = .ok (.ifCond .le off, 3)) (ht : (pc : Int) + off = (t : Int)) (hq : pc + 3 = q) (h : (if x ≤ y then T else F) = some r) (kt : T = some r → WA E G ρ V k1 k2 M t lv st) (kf : F = some r → WA E G ρ V k1 k2 M q lv st) : WA E G ρ V k1 k2 M pc lv (.int (lg_cmp x y) :: st) := by
  subst hq
  intro H locs ls hR hO hl
  exact lv_if_le hC.1 hC.2.1 hdg ht (fun c9 => kt (by have c9 := (lcmp_le x y).mp c9; rw [if_pos c9] at h; exact h) H locs ls hR hO hl) (fun c9 => kf (by have c9 := (not_congr (lcmp_le x y)).mp c9; rw [if_neg c9] at h; exact h) H locs ls hR hO hl)
theorem wa_lcmp (q : Nat) (hC : CX E G cc nL own ret d mc ms) {x y : Int64} (hdg : decode cc pc = .ok (.lcmp, 1))  (hq : pc + 1 = q) (kk : WA E G ρ V k1 k2 M q lv (.int (lg_cmp x y) :: st)) : WA E G ρ V k1 k2 M pc lv (.long y :: .long x :: st) := by
  subst hq
  intro H locs ls hR hO hl
  exact W.lcmp hC.1 hC.2.1 hdg (kk H locs ls hR hO hl)
theorem wa_get0 (q : Nat) (hC : CX E G cc nL own ret d mc ms) {kc o index k : Nat} {fs : List Value} {v : Value} (hV : V kc o) (he : ce (gC G) ρ M kc o = .inr (kc, fs)) (hF : FL own index kc k) (hv : fs[k]? = some v) (hdg : decode cc pc = .ok (.getfield index, 3)) (hq : pc + 3 = q)
    (kk : WA E G ρ V k1 k2 M q lv (v :: st)) : WA E G ρ V k1 k2 M pc lv (.ref (ρ kc o) :: st) := by
  subst hq
  intro H locs ls hR hO hl
  obtain ⟨hx, hb, hml, hown, hts, hK, -⟩ := hC
  obtain ⟨C, ref, T, N, hc, hin, hk, hlink, href⟩ := hF
  rcases hlink with hlink | ⟨host, hlink⟩
  · exact va_get hx hb hts hin hown hK.1 (hR.P hV he) 0 rfl hc k hk (hts _ hlink) (fun x hx => by rw [← href]; exact hx) hv hdg (kk H locs ls hR hO hl)
  · exact va_getN hx hb hts hin hown hK.1 (hR.P hV he) 0 rfl hc k hk (va_Nw.use rfl (hK.2.1 _ hlink)) (fun x hx => by rw [← href]; exact hx) hv hdg (kk H locs ls hR hO hl)
theorem wa_getI0 (q : Nat) (hC : CX E G cc nL own ret d mc ms) {kc o index k : Nat} {x : Int32} (hV : V kc o) (hs : sI kc k) (hF : FL own index kc k) (hx9 : M.1 kc k o 0 = x) (hdg : decode cc pc = .ok (.getfield index, 3)) (hq : pc + 3 = q)
    (kk : WA E G ρ V k1 k2 M q lv (.int x :: st)) : WA E G ρ V k1 k2 M pc lv (.ref (ρ kc o) :: st) := by
  obtain ⟨fs, h1, h2, -⟩ := hs (gC G) ρ o (fun k j => M.1 kc k o j) (fun k j => M.2 kc k o j) 0
  exact wa_get0 q hC hV h1 hF (by rw [h2, hx9]) hdg hq kk
theorem wa_getL0 (q : Nat) (hC : CX E G cc nL own ret d mc ms) {kc o index k : Nat} {x : Int64} (hV : V kc o) (hs : sL kc k) (hF : FL own index kc k) (hx9 : M.2 kc k o 0 = x) (hdg : decode cc pc = .ok (.getfield index, 3)) (hq : pc + 3 = q)
    (kk : WA E G ρ V k1 k2 M q lv (.long x :: st)) : WA E G ρ V k1 k2 M pc lv (.ref (ρ kc o) :: st) := by
  obtain ⟨fs, h1, h2, -⟩ := hs (gC G) ρ o (fun k j => M.1 kc k o j) (fun k j => M.2 kc k o j) 0
  exact wa_get0 q hC hV h1 hF (by rw [h2, hx9]) hdg hq kk
theorem wa_getR (q : Nat) (hC : CX E G cc nL own ret d mc ms) {kc o index k kc' o' : Nat} (hV : V kc o) (hs : sR kc k o kc' o') (hF : FL own index kc k) (hdg : decode cc pc = .ok (.getfield index, 3)) (hq : pc + 3 = q)
    (kk : WA E G ρ V k1 k2 M q lv (.ref (ρ kc' o') :: st)) : WA E G ρ V k1 k2 M pc lv (.ref (ρ kc o) :: st) := by
  obtain ⟨fs, h1, h2⟩ := hs (gC G) ρ (fun k j => M.1 kc k o j) (fun k j => M.2 kc k o j)
  exact wa_get0 q hC hV h1 hF h2 hdg hq kk
theorem vv_put (hC : CX E G cc nL own ret d mc ms) {H : Heap} {locs : List Loc} {ls : Array Slot} (hR : RP G ρ V M H) (hO : LO G locs) {kc o index k : Nat} {fs : List Value} {v : Value} {ty : FieldType} (hV : V kc o) (he : ce (gC G) ρ M kc o = .inr (kc, fs)) (he' : ce (gC G) ρ M1 kc o = .inr (kc, fs.set k v)) (hne : ∀ c' o', ¬ (c' = kc ∧ o' = o) → ce (gC G) ρ M1 c' o' = ce (gC G) ρ M c' o') (hrg : ∀ j, j < 6 → M1.1 21 0 0 j = M.1 21 0 0 j)
    (hF : FP own index kc k ty) (hn : narrow ty v = v) (hfit : fits ty v = true) (hl : k < fs.length)
    (hdg : decode cc pc = .ok (.putfield index, 3)) (kk : ∀ (H1 : Heap) (locs1 : List Loc), RP G ρ V M1 H1 → LO G locs1 → WE E H1 locs1 k1 k2 (F0 (eM E) (pc + 3) ls st)) : WE E H locs k1 k2 (F0 (eM E) pc ls (v :: .ref (ρ kc o) :: st)) := by
  obtain ⟨hx, hb, hml, hown, hts, hK, hr, hlk⟩ := hC
  obtain ⟨C, ref, T, N, ty0, hc, hin, hty, hnm, hk, hlink, href, hfin, hd⟩ := hF
  have hP := hR.P hV he
  have hap := va_apart (own := own) hts hin ty0 hty hnm hK.1 hc
  obtain ⟨r, h1, cell, q1, q2, q3, q4⟩ := hP 0 _ rfl
  have hr : r = (C, T, N) := Option.some.inj (h1.symm.trans hc)
  subst hr
  obtain ⟨hS, hfc, kC, hkC, hkind⟩ := hK.1.1 kc _ hc
  obtain ⟨cf, kf, fi, f, hi, hsl⟩ := hS k hk
  have hlay := hts _ (hin _ (u_in_lay hk))
  unfold u_lay at hlay
  rw [if_neg (by rw [hfin]; decide)] at hlay
  have hst := (u_facts hfc hkC (u_lays hts hin hk) hi).1
  have h6 := u_store hfc hkC hkind hlay hi hd hn hfit
  have fin : ∀ H' : Heap, H'[ρ kc o]? = some (cell.setSlot (G.1.2 kc k) v) → H'.size = H.size → (∀ q, q ≠ ρ kc o → H'[q]? = H[q]?) → RP G ρ V M1 H' ∧ LO G (locs ++ [⟨ρ kc o, G.1.2 kc k⟩]) := by
    intro H' e1 e2 e3
    refine ⟨hR.put hV e2 e3 ?_ hne hrg, fun q hq => ?_⟩
    · rw [he']
      exact ⟨_, hc, t_OB.to (V := updV (vp_V fs) k v) ⟨_, e1, q2, q3, t_set q4 hap hk v⟩ (fun j _ => vp_updV_set hl v j)⟩
    · rcases List.mem_append.mp hq with h | h
      · exact hO q h
      · rw [List.mem_singleton.mp h]
        exact (hR.1 kc o hV).2
  rcases hlink with hlink | ⟨host, hlink⟩
  · refine W.putK hx hb (f := f) ⟨hown, hts _ hlink, ⟨_, _, _, by rw [← href]; exact hi⟩, hst⟩ (by rw [q2]; exact h6) q1 q3 (by rw [hsl]; exact k2_hasslot (q4 k hk)) rfl rfl hdg fun H' e1 e2 e3 => ?_
    rw [hsl] at e1 ⊢
    obtain ⟨a1, a2⟩ := fin H' e1 e2 e3
    exact kk H' _ a1 a2
  · refine va_WputK hx hb (f := f) hown (va_Nw.use rfl (hK.2.1 _ hlink)) (by rw [← href]; exact hi) hst (by rw [q2]; exact h6) q1 q3 (by rw [hsl]; exact k2_hasslot (q4 k hk)) rfl rfl hdg fun H' e1 e2 e3 => ?_
    rw [hsl] at e1 ⊢
    obtain ⟨a1, a2⟩ := fin H' e1 e2 e3
    exact kk H' _ a1 a2
theorem wI_ring (M : sM) {kc k o j : Nat} {v : Int32} (h : ¬ kc = 21) : ∀ i, i < 6 → (wI M kc k o j v).1 21 0 0 i = M.1 21 0 0 i := by
  intro i _
  simp only [wI]
  rw [if_neg (fun q => h q.1.symm)]
theorem wa_putI0 (q : Nat) (hC : CX E G cc nL own ret d mc ms) {kc o index k : Nat} {x : Int32} (hV : V kc o) (hk : ¬ kc = 21) (e : M1 = wI M kc k o 0 x) (hs : sI kc k) (hF : FP own index kc k .int) (hdg : decode cc pc = .ok (.putfield index, 3)) (hq : pc + 3 = q)
    (kk : WA E G ρ V k1 k2 M1 q lv st) : WA E G ρ V k1 k2 M pc lv (.int x :: .ref (ρ kc o) :: st) := by
  subst hq
  subst e
  intro H locs ls hR hO hl
  obtain ⟨fs, h1, h2, h3, h4⟩ := hs (gC G) ρ o (fun k j => M.1 kc k o j) (fun k j => M.2 kc k o j) x
  exact vv_put hC hR hO hV h1 (by rw [ce_wI]; exact h3) (fun c' o' h => ce_wI_ne _ ρ M h) (wI_ring M hk) hF rfl rfl h4 hdg (fun H1 locs1 a1 a2 => kk H1 locs1 ls a1 a2 hl)
theorem wa_putL0 (q : Nat) (hC : CX E G cc nL own ret d mc ms) {kc o index k : Nat} {x : Int64} (hV : V kc o) (e : M1 = wL M kc k o 0 x) (hs : sL kc k) (hF : FP own index kc k .long) (hdg : decode cc pc = .ok (.putfield index, 3)) (hq : pc + 3 = q)
    (kk : WA E G ρ V k1 k2 M1 q lv st) : WA E G ρ V k1 k2 M pc lv (.long x :: .ref (ρ kc o) :: st) := by
  subst hq
  subst e
  intro H locs ls hR hO hl
  obtain ⟨fs, h1, h2, h3, h4⟩ := hs (gC G) ρ o (fun k j => M.1 kc k o j) (fun k j => M.2 kc k o j) x
  exact vv_put hC hR hO hV h1 (by rw [ce_wL]; exact h3) (fun c' o' h => ce_wL_ne _ ρ M h) (fun _ _ => rfl) hF rfl rfl h4 hdg (fun H1 locs1 a1 a2 => kk H1 locs1 ls a1 a2 hl)
theorem vv_lo {H : Heap} {locs : List Loc} (hR : RP G ρ V M H) (hO : LO G locs) {kc o k : Nat} (hV : V kc o) : LO G (locs ++ [⟨ρ kc o, k⟩]) := by
  intro q hq
  rcases List.mem_append.mp hq with h | h
  · exact hO q h
  · rw [List.mem_singleton.mp h]
    exact (hR.1 kc o hV).2
theorem wa_alen (q : Nat) (hC : CX E G cc nL own ret d mc ms) {kc o a : Nat} {x : vp_A} {v : Int32} (hV : V kc o) (ha : a < 6) (he : ce (gC G) ρ M kc o = .inl (gC G a, x)) (hv : Int32.ofNat x.1 = v) (hdg : decode cc pc = .ok (.arraylength, 1)) (hq : pc + 1 = q)
    (kk : WA E G ρ V k1 k2 M q lv (.int v :: st)) : WA E G ρ V k1 k2 M pc lv (.ref (ρ kc o) :: st) := by
  subst hq
  intro H locs ls hR hO hl
  obtain ⟨hx, hb, hml, hown, hts, hK, -⟩ := hC
  match a, ha, he with
  | 0, _, he => exact va_alen hx hb hK.1 (hR.P hV he) 0 0 rfl rfl hv hdg (kk H locs ls hR hO hl)
  | 1, _, he => exact va_alen hx hb hK.1 (hR.P hV he) 0 1 rfl rfl hv hdg (kk H locs ls hR hO hl)
  | 2, _, he => exact va_alen hx hb hK.1 (hR.P hV he) 0 2 rfl rfl hv hdg (kk H locs ls hR hO hl)
  | 3, _, he => exact va_alen hx hb hK.1 (hR.P hV he) 0 3 rfl rfl hv hdg (kk H locs ls hR hO hl)
  | 4, _, he => exact va_alen hx hb hK.1 (hR.P hV he) 0 4 rfl rfl hv hdg (kk H locs ls hR hO hl)
  | 5, _, he => exact va_alen hx hb hK.1 (hR.P hV he) 0 5 rfl rfl hv hdg (kk H locs ls hR hO hl)
theorem wa_aald (q : Nat) (hC : CX E G cc nL own ret d mc ms) {o : Nat} {i : Int32} (hV : V 11 o) (hi : inb i 16 = true) (hdg : decode cc pc = .ok (.aaload, 1)) (hq : pc + 1 = q)
    (kk : WA E G ρ V k1 k2 M q lv (.ref (ρ 8 (16 * o + i.toNatClampNeg)) :: st)) : WA E G ρ V k1 k2 M pc lv (.int i :: .ref (ρ 11 o) :: st) := by
  subst hq
  intro H locs ls hR hO hl
  obtain ⟨hx, hb, hml, hown, hts, hK, -⟩ := hC
  exact va_aldq hx hb hK.1 (hR.P hV (show ce (gC G) ρ M 11 o = _ from rfl)) 0 4 rfl rfl (inb_in hi) hdg (kk H locs ls hR hO hl)
theorem wa_iald0 (q : Nat) (hC : CX E G cc nL own ret d mc ms) {kc o n : Nat} {i x : Int32} (hV : V kc o) (he : aI 0 kc n) (hi : inb i n = true) (hx9 : M.1 kc 0 o i.toNatClampNeg = x) (hdg : decode cc pc = .ok (.iaload, 1)) (hq : pc + 1 = q)
    (kk : WA E G ρ V k1 k2 M q lv (.int x :: st)) : WA E G ρ V k1 k2 M pc lv (.int i :: .ref (ρ kc o) :: st) := by
  subst hq
  subst hx9
  intro H locs ls hR hO hl
  obtain ⟨hx, hb, hml, hown, hts, hK, -⟩ := hC
  exact va_iald hx hb hK.1 (hR.P hV (he (gC G) ρ o (fun k j => M.1 kc k o j) (fun k j => M.2 kc k o j))) 0 0 rfl rfl (inb_in hi) hdg (kk H locs ls hR hO hl)
theorem wa_bald0 (q : Nat) (hC : CX E G cc nL own ret d mc ms) {kc o n : Nat} {i x : Int32} (hV : V kc o) (he : aI 2 kc n) (hi : inb i n = true) (hx9 : M.1 kc 0 o i.toNatClampNeg = x) (hdg : decode cc pc = .ok (.baload, 1)) (hq : pc + 1 = q)
    (kk : WA E G ρ V k1 k2 M q lv (.int x :: st)) : WA E G ρ V k1 k2 M pc lv (.int i :: .ref (ρ kc o) :: st) := by
  subst hq
  subst hx9
  intro H locs ls hR hO hl
  obtain ⟨hx, hb, hml, hown, hts, hK, -⟩ := hC
  exact va_bald hx hb hK.1 (hR.P hV (he (gC G) ρ o (fun k j => M.1 kc k o j) (fun k j => M.2 kc k o j))) 0 2 rfl rfl (inb_in hi) hdg (kk H locs ls hR hO hl)
theorem wa_zald0 (q : Nat) (hC : CX E G cc nL own ret d mc ms) {kc o n : Nat} {i x : Int32} (hV : V kc o) (he : aI 3 kc n) (hi : inb i n = true) (hx9 : M.1 kc 0 o i.toNatClampNeg = x) (hdg : decode cc pc = .ok (.baload, 1)) (hq : pc + 1 = q)
    (kk : WA E G ρ V k1 k2 M q lv (.int x :: st)) : WA E G ρ V k1 k2 M pc lv (.int i :: .ref (ρ kc o) :: st) := by
  subst hq
  subst hx9
  intro H locs ls hR hO hl
  obtain ⟨hx, hb, hml, hown, hts, hK, -⟩ := hC
  exact va_zald hx hb hK.1 (hR.P hV (he (gC G) ρ o (fun k j => M.1 kc k o j) (fun k j => M.2 kc k o j))) 0 3 rfl rfl (inb_in hi) hdg (kk H locs ls hR hO hl)
theorem wa_lald0 (q : Nat) (hC : CX E G cc nL own ret d mc ms) {kc o n : Nat} {i : Int32} {x : Int64} (hV : V kc o) (he : aL kc n) (hi : inb i n = true) (hx9 : M.2 kc 0 o i.toNatClampNeg = x) (hdg : decode cc pc = .ok (.laload, 1)) (hq : pc + 1 = q)
    (kk : WA E G ρ V k1 k2 M q lv (.long x :: st)) : WA E G ρ V k1 k2 M pc lv (.int i :: .ref (ρ kc o) :: st) := by
  subst hq
  subst hx9
  intro H locs ls hR hO hl
  obtain ⟨hx, hb, hml, hown, hts, hK, -⟩ := hC
  exact va_lald hx hb hK.1 (hR.P hV (he (gC G) ρ o (fun k j => M.1 kc k o j) (fun k j => M.2 kc k o j))) 0 1 rfl rfl (inb_in hi) hdg (kk H locs ls hR hO hl)
theorem wa_iast0 (q : Nat) (hC : CX E G cc nL own ret d mc ms) {kc o n : Nat} {i x : Int32} (hV : V kc o) (hk : ¬ kc = 21) (he : aI 0 kc n) (hi : inb i n = true) (e9 : M1 = wI M kc 0 o i.toNatClampNeg x) (hdg : decode cc pc = .ok (.iastore, 1)) (hq : pc + 1 = q)
    (kk : WA E G ρ V k1 k2 M1 q lv st) : WA E G ρ V k1 k2 M pc lv (.int x :: .int i :: .ref (ρ kc o) :: st) := by
  subst hq
  subst e9
  intro H locs ls hR hO hl
  obtain ⟨hx, hb, hml, hown, hts, hK, -⟩ := hC
  have he2 : ∀ M : sM, ce (gC G) ρ M kc o = .inl (gC G 0, n, .inl (fun j => M.1 kc 0 o j)) := fun M => he (gC G) ρ o (fun k j => M.1 kc k o j) (fun k j => M.2 kc k o j)
  refine W.iast hx hb (hR.P hV (he2 M) 0 _ rfl) ((hK.1.2 0 _ rfl).1 n (fun j => .int (M.1 kc 0 o j))) (fun q => by cases q) (by show ¬ (i < 0 ∨ (arrV _ _ _).slots.size ≤ _); rw [arrV_size]; exact inb_in hi) rfl rfl hdg fun H1 e z oq => ?_
  refine kk H1 _ ls (hR.put hV z oq ?_ (fun c' o' h => ce_wI_ne _ ρ M h) (wI_ring M hk)) (vv_lo hR hO hV) hl
  rw [he2]
  show H1[_]? = some (vp_cell _ _)
  rw [e]
  rw [vp_cell_i, vp_cell_i, arrV_store]
  congr 2
  funext q
  by_cases hq : q = i.toNatClampNeg
  · subst hq
    simp [updV, wI]
  · simp [updV, wI, hq]
theorem wa_bast0 (q : Nat) (hC : CX E G cc nL own ret d mc ms) {kc o n : Nat} {i x : Int32} (hV : V kc o) (hk : ¬ kc = 21) (he : aI 2 kc n) (hi : inb i n = true) (hn : narrow .byte (.int x) = .int x) (e9 : M1 = wI M kc 0 o i.toNatClampNeg x) (hdg : decode cc pc = .ok (.bastore, 1)) (hq : pc + 1 = q)
    (kk : WA E G ρ V k1 k2 M1 q lv st) : WA E G ρ V k1 k2 M pc lv (.int x :: .int i :: .ref (ρ kc o) :: st) := by
  subst hq
  subst e9
  intro H locs ls hR hO hl
  obtain ⟨hx, hb, hml, hown, hts, hK, -⟩ := hC
  have he2 : ∀ M : sM, ce (gC G) ρ M kc o = .inl (gC G 2, n, .inl (fun j => M.1 kc 0 o j)) := fun M => he (gC G) ρ o (fun k j => M.1 kc k o j) (fun k j => M.2 kc k o j)
  refine W.bast hx hb (hR.P hV (he2 M) 0 _ rfl) ((hK.1.2 2 _ rfl).1 n (fun j => .int (M.1 kc 0 o j))) (fun q => by cases q) (by show ¬ (i < 0 ∨ (arrV _ _ _).slots.size ≤ _); rw [arrV_size]; exact inb_in hi) rfl rfl hdg fun H1 e z oq => ?_
  refine kk H1 _ ls (hR.put hV z oq ?_ (fun c' o' h => ce_wI_ne _ ρ M h) (wI_ring M hk)) (vv_lo hR hO hV) hl
  rw [he2]
  show H1[_]? = some (vp_cell _ _)
  rw [e]
  rw [vp_cell_i, vp_cell_i, arrV_store]
  congr 2
  funext q
  by_cases hq : q = i.toNatClampNeg
  · subst hq
    simp [updV, wI, hn]
  · simp [updV, wI, hq]
theorem wa_zast0 (q : Nat) (hC : CX E G cc nL own ret d mc ms) {kc o n : Nat} {i x : Int32} (hV : V kc o) (hk : ¬ kc = 21) (he : aI 3 kc n) (hi : inb i n = true) (hn : narrow .boolean (.int x) = .int x) (e9 : M1 = wI M kc 0 o i.toNatClampNeg x) (hdg : decode cc pc = .ok (.bastore, 1)) (hq : pc + 1 = q)
    (kk : WA E G ρ V k1 k2 M1 q lv st) : WA E G ρ V k1 k2 M pc lv (.int x :: .int i :: .ref (ρ kc o) :: st) := by
  subst hq
  subst e9
  intro H locs ls hR hO hl
  obtain ⟨hx, hb, hml, hown, hts, hK, -⟩ := hC
  have he2 : ∀ M : sM, ce (gC G) ρ M kc o = .inl (gC G 3, n, .inl (fun j => M.1 kc 0 o j)) := fun M => he (gC G) ρ o (fun k j => M.1 kc k o j) (fun k j => M.2 kc k o j)
  refine W.zast hx hb (hR.P hV (he2 M) 0 _ rfl) ((hK.1.2 3 _ rfl).1 n (fun j => .int (M.1 kc 0 o j))) (fun q => by cases q) (by show ¬ (i < 0 ∨ (arrV _ _ _).slots.size ≤ _); rw [arrV_size]; exact inb_in hi) rfl rfl hdg fun H1 e z oq => ?_
  refine kk H1 _ ls (hR.put hV z oq ?_ (fun c' o' h => ce_wI_ne _ ρ M h) (wI_ring M hk)) (vv_lo hR hO hV) hl
  rw [he2]
  show H1[_]? = some (vp_cell _ _)
  rw [e]
  rw [vp_cell_i, vp_cell_i, arrV_store]
  congr 2
  funext q
  by_cases hq : q = i.toNatClampNeg
  · subst hq
    simp [updV, wI, hn]
  · simp [updV, wI, hq]
theorem wa_last0 (q : Nat) (hC : CX E G cc nL own ret d mc ms) {kc o n : Nat} {i : Int32} {x : Int64} (hV : V kc o) (he : aL kc n) (hi : inb i n = true) (e9 : M1 = wL M kc 0 o i.toNatClampNeg x) (hdg : decode cc pc = .ok (.lastore, 1)) (hq : pc + 1 = q)
    (kk : WA E G ρ V k1 k2 M1 q lv st) : WA E G ρ V k1 k2 M pc lv (.long x :: .int i :: .ref (ρ kc o) :: st) := by
  subst hq
  subst e9
  intro H locs ls hR hO hl
  obtain ⟨hx, hb, hml, hown, hts, hK, -⟩ := hC
  have he2 : ∀ M : sM, ce (gC G) ρ M kc o = .inl (gC G 1, n, .inr (.inl (fun j => M.2 kc 0 o j))) := fun M => he (gC G) ρ o (fun k j => M.1 kc k o j) (fun k j => M.2 kc k o j)
  refine W.last hx hb (hR.P hV (he2 M) 0 _ rfl) ((hK.1.2 1 _ rfl).1 n (fun j => .long (M.2 kc 0 o j))) (fun q => by cases q) (by show ¬ (i < 0 ∨ (arrV _ _ _).slots.size ≤ _); rw [arrV_size]; exact inb_in hi) rfl rfl hdg fun H1 e z oq => ?_
  refine kk H1 _ ls (hR.put hV z oq ?_ (fun c' o' h => ce_wL_ne _ ρ M h) (fun _ _ => rfl)) (vv_lo hR hO hV) hl
  rw [he2]
  show H1[_]? = some (vp_cell _ _)
  rw [e]
  rw [vp_cell_l, vp_cell_l, arrV_store]
  congr 2
  funext q
  by_cases hq : q = i.toNatClampNeg
  · subst hq
    simp [updV, wL]
  · simp [updV, wL, hq]
theorem wa_getIc (q : Nat) (hC : CX E G cc nL own ret d mc ms) {kc o index k : Nat} (hV : V kc o) (hs : sI kc k) (hr : isR kc = false) (hF : FL own index kc k) (hdg : decode cc pc = .ok (.getfield index, 3)) (hq : pc + 3 = q) (kk : WA E G ρ V k1 k2 (J A Z) q lv (.int (A.1 kc k o 0) :: st)) : WA E G ρ V k1 k2 (J A Z) pc lv (.ref (ρ kc o) :: st) := wa_getI0 q hC hV hs hF (by rw [J1c hr]) hdg hq kk
theorem wa_getLc (q : Nat) (hC : CX E G cc nL own ret d mc ms) {kc o index k : Nat} (hV : V kc o) (hs : sL kc k) (hr : isR kc = false) (hF : FL own index kc k) (hdg : decode cc pc = .ok (.getfield index, 3)) (hq : pc + 3 = q) (kk : WA E G ρ V k1 k2 (J A Z) q lv (.long (A.2 kc k o 0) :: st)) : WA E G ρ V k1 k2 (J A Z) pc lv (.ref (ρ kc o) :: st) := wa_getL0 q hC hV hs hF (by rw [J2c hr]) hdg hq kk
theorem wa_putIc (q : Nat) (hC : CX E G cc nL own ret d mc ms) {kc o index k : Nat} {x : Int32} (hV : V kc o) (hk : ¬ kc = 21) (e : A1 = wI A kc k o 0 x) (hs : sI kc k) (hr : isR kc = false) (hF : FP own index kc k .int) (hdg : decode cc pc = .ok (.putfield index, 3)) (hq : pc + 3 = q) (kk : WA E G ρ V k1 k2 (J A1 Z) q lv st) : WA E G ρ V k1 k2 (J A Z) pc lv (.int x :: .ref (ρ kc o) :: st) := wa_putI0 q hC hV hk (jwIc hr e) hs hF hdg hq kk
theorem wa_putLc (q : Nat) (hC : CX E G cc nL own ret d mc ms) {kc o index k : Nat} {x : Int64} (hV : V kc o) (e : A1 = wL A kc k o 0 x) (hs : sL kc k) (hr : isR kc = false) (hF : FP own index kc k .long) (hdg : decode cc pc = .ok (.putfield index, 3)) (hq : pc + 3 = q) (kk : WA E G ρ V k1 k2 (J A1 Z) q lv st) : WA E G ρ V k1 k2 (J A Z) pc lv (.long x :: .ref (ρ kc o) :: st) := wa_putL0 q hC hV (jwLc hr e) hs hF hdg hq kk
theorem wa_laldc (q : Nat) (hC : CX E G cc nL own ret d mc ms) {kc o n : Nat} {i : Int32} (hV : V kc o) (he : aL kc n) (hr : isR kc = false) (hi : inb i n = true) (hdg : decode cc pc = .ok (.laload, 1)) (hq : pc + 1 = q) (kk : WA E G ρ V k1 k2 (J A Z) q lv (.long (A.2 kc 0 o i.toNatClampNeg) :: st)) : WA E G ρ V k1 k2 (J A Z) pc lv (.int i :: .ref (ρ kc o) :: st) := wa_lald0 q hC hV he hi (by rw [J2c hr]) hdg hq kk
theorem wa_lastc (q : Nat) (hC : CX E G cc nL own ret d mc ms) {kc o n : Nat} {i : Int32} {x : Int64} (hV : V kc o) (he : aL kc n) (hr : isR kc = false) (hi : inb i n = true) (e : A1 = wL A kc 0 o i.toNatClampNeg x) (hdg : decode cc pc = .ok (.lastore, 1)) (hq : pc + 1 = q) (kk : WA E G ρ V k1 k2 (J A1 Z) q lv st) : WA E G ρ V k1 k2 (J A Z) pc lv (.long x :: .int i :: .ref (ρ kc o) :: st) := wa_last0 q hC hV he hi (jwLc hr e) hdg hq kk
theorem wa_ialdc (q : Nat) (hC : CX E G cc nL own ret d mc ms) {kc o n : Nat} {i : Int32} (hV : V kc o) (he : aI 0 kc n) (hr : isR kc = false) (hi : inb i n = true) (hdg : decode cc pc = .ok (.iaload, 1)) (hq : pc + 1 = q) (kk : WA E G ρ V k1 k2 (J A Z) q lv (.int (A.1 kc 0 o i.toNatClampNeg) :: st)) : WA E G ρ V k1 k2 (J A Z) pc lv (.int i :: .ref (ρ kc o) :: st) := wa_iald0 q hC hV he hi (by rw [J1c hr]) hdg hq kk
theorem wa_baldc (q : Nat) (hC : CX E G cc nL own ret d mc ms) {kc o n : Nat} {i : Int32} (hV : V kc o) (he : aI 2 kc n) (hr : isR kc = false) (hi : inb i n = true) (hdg : decode cc pc = .ok (.baload, 1)) (hq : pc + 1 = q) (kk : WA E G ρ V k1 k2 (J A Z) q lv (.int (A.1 kc 0 o i.toNatClampNeg) :: st)) : WA E G ρ V k1 k2 (J A Z) pc lv (.int i :: .ref (ρ kc o) :: st) := wa_bald0 q hC hV he hi (by rw [J1c hr]) hdg hq kk
theorem wa_zaldc (q : Nat) (hC : CX E G cc nL own ret d mc ms) {kc o n : Nat} {i : Int32} (hV : V kc o) (he : aI 3 kc n) (hr : isR kc = false) (hi : inb i n = true) (hdg : decode cc pc = .ok (.baload, 1)) (hq : pc + 1 = q) (kk : WA E G ρ V k1 k2 (J A Z) q lv (.int (A.1 kc 0 o i.toNatClampNeg) :: st)) : WA E G ρ V k1 k2 (J A Z) pc lv (.int i :: .ref (ρ kc o) :: st) := wa_zald0 q hC hV he hi (by rw [J1c hr]) hdg hq kk
theorem wa_iastc (q : Nat) (hC : CX E G cc nL own ret d mc ms) {kc o n : Nat} {i x : Int32} (hV : V kc o) (hk : ¬ kc = 21) (he : aI 0 kc n) (hr : isR kc = false) (hi : inb i n = true) (e : A1 = wI A kc 0 o i.toNatClampNeg x) (hdg : decode cc pc = .ok (.iastore, 1)) (hq : pc + 1 = q) (kk : WA E G ρ V k1 k2 (J A1 Z) q lv st) : WA E G ρ V k1 k2 (J A Z) pc lv (.int x :: .int i :: .ref (ρ kc o) :: st) := wa_iast0 q hC hV hk he hi (jwIc hr e) hdg hq kk
theorem wa_bastc (q : Nat) (hC : CX E G cc nL own ret d mc ms) {kc o n : Nat} {i x : Int32} (hV : V kc o) (hk : ¬ kc = 21) (he : aI 2 kc n) (hr : isR kc = false) (hi : inb i n = true) (hn : narrow .byte (.int x) = .int x) (e : A1 = wI A kc 0 o i.toNatClampNeg x) (hdg : decode cc pc = .ok (.bastore, 1)) (hq : pc + 1 = q) (kk : WA E G ρ V k1 k2 (J A1 Z) q lv st) : WA E G ρ V k1 k2 (J A Z) pc lv (.int x :: .int i :: .ref (ρ kc o) :: st) := wa_bast0 q hC hV hk he hi hn (jwIc hr e) hdg hq kk
theorem wa_zastc (q : Nat) (hC : CX E G cc nL own ret d mc ms) {kc o n : Nat} {i x : Int32} (hV : V kc o) (hk : ¬ kc = 21) (he : aI 3 kc n) (hr : isR kc = false) (hi : inb i n = true) (hn : narrow .boolean (.int x) = .int x) (e : A1 = wI A kc 0 o i.toNatClampNeg x) (hdg : decode cc pc = .ok (.bastore, 1)) (hq : pc + 1 = q) (kk : WA E G ρ V k1 k2 (J A1 Z) q lv st) : WA E G ρ V k1 k2 (J A Z) pc lv (.int x :: .int i :: .ref (ρ kc o) :: st) := wa_zast0 q hC hV hk he hi hn (jwIc hr e) hdg hq kk
theorem wa_getIr (q : Nat) (hC : CX E G cc nL own ret d mc ms) {kc o index k : Nat} (hV : V kc o) (hs : sI kc k) (hr : isR kc = true) (hF : FL own index kc k) (hdg : decode cc pc = .ok (.getfield index, 3)) (hq : pc + 3 = q) (kk : WA E G ρ V k1 k2 (J A Z) q lv (.int (Z.1 kc k o 0) :: st)) : WA E G ρ V k1 k2 (J A Z) pc lv (.ref (ρ kc o) :: st) := wa_getI0 q hC hV hs hF (by rw [J1r hr]) hdg hq kk
theorem wa_getLr (q : Nat) (hC : CX E G cc nL own ret d mc ms) {kc o index k : Nat} (hV : V kc o) (hs : sL kc k) (hr : isR kc = true) (hF : FL own index kc k) (hdg : decode cc pc = .ok (.getfield index, 3)) (hq : pc + 3 = q) (kk : WA E G ρ V k1 k2 (J A Z) q lv (.long (Z.2 kc k o 0) :: st)) : WA E G ρ V k1 k2 (J A Z) pc lv (.ref (ρ kc o) :: st) := wa_getL0 q hC hV hs hF (by rw [J2r hr]) hdg hq kk
theorem wa_putIr (q : Nat) (hC : CX E G cc nL own ret d mc ms) {kc o index k : Nat} {x : Int32} (hV : V kc o) (hk : ¬ kc = 21) (e : Z1 = wI Z kc k o 0 x) (hs : sI kc k) (hr : isR kc = true) (hF : FP own index kc k .int) (hdg : decode cc pc = .ok (.putfield index, 3)) (hq : pc + 3 = q) (kk : WA E G ρ V k1 k2 (J A Z1) q lv st) : WA E G ρ V k1 k2 (J A Z) pc lv (.int x :: .ref (ρ kc o) :: st) := wa_putI0 q hC hV hk (jwIr hr e) hs hF hdg hq kk
theorem wa_putLr (q : Nat) (hC : CX E G cc nL own ret d mc ms) {kc o index k : Nat} {x : Int64} (hV : V kc o) (e : Z1 = wL Z kc k o 0 x) (hs : sL kc k) (hr : isR kc = true) (hF : FP own index kc k .long) (hdg : decode cc pc = .ok (.putfield index, 3)) (hq : pc + 3 = q) (kk : WA E G ρ V k1 k2 (J A Z1) q lv st) : WA E G ρ V k1 k2 (J A Z) pc lv (.long x :: .ref (ρ kc o) :: st) := wa_putL0 q hC hV (jwLr hr e) hs hF hdg hq kk
theorem wa_laldr (q : Nat) (hC : CX E G cc nL own ret d mc ms) {kc o n : Nat} {i : Int32} (hV : V kc o) (he : aL kc n) (hr : isR kc = true) (hi : inb i n = true) (hdg : decode cc pc = .ok (.laload, 1)) (hq : pc + 1 = q) (kk : WA E G ρ V k1 k2 (J A Z) q lv (.long (Z.2 kc 0 o i.toNatClampNeg) :: st)) : WA E G ρ V k1 k2 (J A Z) pc lv (.int i :: .ref (ρ kc o) :: st) := wa_lald0 q hC hV he hi (by rw [J2r hr]) hdg hq kk
theorem wa_lastr (q : Nat) (hC : CX E G cc nL own ret d mc ms) {kc o n : Nat} {i : Int32} {x : Int64} (hV : V kc o) (he : aL kc n) (hr : isR kc = true) (hi : inb i n = true) (e : Z1 = wL Z kc 0 o i.toNatClampNeg x) (hdg : decode cc pc = .ok (.lastore, 1)) (hq : pc + 1 = q) (kk : WA E G ρ V k1 k2 (J A Z1) q lv st) : WA E G ρ V k1 k2 (J A Z) pc lv (.long x :: .int i :: .ref (ρ kc o) :: st) := wa_last0 q hC hV he hi (jwLr hr e) hdg hq kk
theorem wa_ialdr (q : Nat) (hC : CX E G cc nL own ret d mc ms) {kc o n : Nat} {i : Int32} (hV : V kc o) (he : aI 0 kc n) (hr : isR kc = true) (hi : inb i n = true) (hdg : decode cc pc = .ok (.iaload, 1)) (hq : pc + 1 = q) (kk : WA E G ρ V k1 k2 (J A Z) q lv (.int (Z.1 kc 0 o i.toNatClampNeg) :: st)) : WA E G ρ V k1 k2 (J A Z) pc lv (.int i :: .ref (ρ kc o) :: st) := wa_iald0 q hC hV he hi (by rw [J1r hr]) hdg hq kk
theorem wa_baldr (q : Nat) (hC : CX E G cc nL own ret d mc ms) {kc o n : Nat} {i : Int32} (hV : V kc o) (he : aI 2 kc n) (hr : isR kc = true) (hi : inb i n = true) (hdg : decode cc pc = .ok (.baload, 1)) (hq : pc + 1 = q) (kk : WA E G ρ V k1 k2 (J A Z) q lv (.int (Z.1 kc 0 o i.toNatClampNeg) :: st)) : WA E G ρ V k1 k2 (J A Z) pc lv (.int i :: .ref (ρ kc o) :: st) := wa_bald0 q hC hV he hi (by rw [J1r hr]) hdg hq kk
theorem wa_zaldr (q : Nat) (hC : CX E G cc nL own ret d mc ms) {kc o n : Nat} {i : Int32} (hV : V kc o) (he : aI 3 kc n) (hr : isR kc = true) (hi : inb i n = true) (hdg : decode cc pc = .ok (.baload, 1)) (hq : pc + 1 = q) (kk : WA E G ρ V k1 k2 (J A Z) q lv (.int (Z.1 kc 0 o i.toNatClampNeg) :: st)) : WA E G ρ V k1 k2 (J A Z) pc lv (.int i :: .ref (ρ kc o) :: st) := wa_zald0 q hC hV he hi (by rw [J1r hr]) hdg hq kk
theorem wa_iastr (q : Nat) (hC : CX E G cc nL own ret d mc ms) {kc o n : Nat} {i x : Int32} (hV : V kc o) (hk : ¬ kc = 21) (he : aI 0 kc n) (hr : isR kc = true) (hi : inb i n = true) (e : Z1 = wI Z kc 0 o i.toNatClampNeg x) (hdg : decode cc pc = .ok (.iastore, 1)) (hq : pc + 1 = q) (kk : WA E G ρ V k1 k2 (J A Z1) q lv st) : WA E G ρ V k1 k2 (J A Z) pc lv (.int x :: .int i :: .ref (ρ kc o) :: st) := wa_iast0 q hC hV hk he hi (jwIr hr e) hdg hq kk
theorem wa_bastr (q : Nat) (hC : CX E G cc nL own ret d mc ms) {kc o n : Nat} {i x : Int32} (hV : V kc o) (hk : ¬ kc = 21) (he : aI 2 kc n) (hr : isR kc = true) (hi : inb i n = true) (hn : narrow .byte (.int x) = .int x) (e : Z1 = wI Z kc 0 o i.toNatClampNeg x) (hdg : decode cc pc = .ok (.bastore, 1)) (hq : pc + 1 = q) (kk : WA E G ρ V k1 k2 (J A Z1) q lv st) : WA E G ρ V k1 k2 (J A Z) pc lv (.int x :: .int i :: .ref (ρ kc o) :: st) := wa_bast0 q hC hV hk he hi hn (jwIr hr e) hdg hq kk
theorem wa_zastr (q : Nat) (hC : CX E G cc nL own ret d mc ms) {kc o n : Nat} {i x : Int32} (hV : V kc o) (hk : ¬ kc = 21) (he : aI 3 kc n) (hr : isR kc = true) (hi : inb i n = true) (hn : narrow .boolean (.int x) = .int x) (e : Z1 = wI Z kc 0 o i.toNatClampNeg x) (hdg : decode cc pc = .ok (.bastore, 1)) (hq : pc + 1 = q) (kk : WA E G ρ V k1 k2 (J A Z1) q lv st) : WA E G ρ V k1 k2 (J A Z) pc lv (.int x :: .int i :: .ref (ρ kc o) :: st) := wa_zast0 q hC hV hk he hi hn (jwIr hr e) hdg hq kk
end VWA
