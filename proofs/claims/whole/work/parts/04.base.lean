/-! The memory: what each object and array holds, by its kind, its field, its number, its place. -/
abbrev sM : Type := (Nat → Nat → Nat → Nat → Int32) × (Nat → Nat → Nat → Nat → Int64)
def wI (M : sM) (c k o j : Nat) (v : Int32) : sM := (fun c' k' o' j' => if c' = c ∧ k' = k ∧ o' = o ∧ j' = j then v else M.1 c' k' o' j', M.2)
def wL (M : sM) (c k o j : Nat) (v : Int64) : sM := (M.1, fun c' k' o' j' => if c' = c ∧ k' = k ∧ o' = o ∧ j' = j then v else M.2 c' k' o' j')
def upI (I : Nat → Nat → Int32) (k j : Nat) (v : Int32) : Nat → Nat → Int32 := fun k' j' => if k' = k ∧ j' = j then v else I k' j'
def upL (I : Nat → Nat → Int64) (k j : Nat) (v : Int64) : Nat → Nat → Int64 := fun k' j' => if k' = k ∧ j' = j then v else I k' j'
/-- a cell by its kind: the objects of class c have kind c, each array field has a kind of its own -/
def ce0 (cy : Nat → ClassId) (ρ : Nat → Nat → Nat) (c o : Nat) (I : Nat → Nat → Int32) (L : Nat → Nat → Int64) : va_E := match c with
  | 0 => .inr (0, [.ref (ρ 4 o), .ref (ρ 7 o), .ref (ρ 11 o), .int (I 3 0), .int (I 4 0), .int (I 5 0), .long (L 6 0), .long (L 7 0)])
  | 1 => .inr (1, [.ref (ρ 12 o), .ref (ρ 13 o)])
  | 2 => .inr (2, [.ref (ρ 14 o), .int (I 1 0)])
  | 3 => .inr (3, [.ref (ρ 15 o), .long (L 1 0), .ref (ρ 16 o), .ref (ρ 17 o)])
  | 4 => .inr (4, [.int (I 0 0), .int (I 1 0), .int (I 2 0), .int (I 3 0), .int (I 4 0), .ref (ρ 18 o), .ref (ρ 19 o)])
  | 5 => .inr (5, [.ref (ρ 20 o), .int (I 1 0), .int (I 2 0), .int (I 3 0), .int (I 4 0), .ref (ρ 4 7)])
  | 6 => .inr (6, [.ref (ρ 21 o), .int (I 1 0), .int (I 2 0)])
  | 7 => .inr (7, [.ref (ρ 22 o), .ref (ρ 23 o)])
  | 8 => .inr (8, [.int (I 0 0), .int (I 1 0), .int (I 2 0), .int (I 3 0), .int (I 4 0), .int (I 5 0), .int (I 6 0), .ref (ρ 24 o), .ref (ρ 25 o), .ref (ρ 26 o)])
  | 9 => .inr (9, [.ref (ρ 0 0), .ref (ρ 6 0), .ref (ρ 5 0), .ref (ρ 2 0), .ref (ρ 3 0), .ref (ρ 1 0), .ref (ρ 8 112), .int (I 7 0)])
  | 10 => .inr (10, [.ref (ρ 27 o), .ref (ρ 28 o), .ref (ρ 29 o), .ref (ρ 30 o), .ref (ρ 31 o), .int (I 5 0), .int (I 6 0), .ref (ρ 32 o), .int (I 8 0), .int (I 9 0), .int (I 10 0), .int (I 11 0), .int (I 12 0), .int (I 13 0), .int (I 14 0), .int (I 15 0), .long (L 16 0), .ref (ρ 33 o), .ref (ρ 34 o), .ref (ρ 35 o), .ref (ρ 36 o), .ref (ρ 37 o), .ref (ρ 38 o), .ref (ρ 39 o), .ref (ρ 40 o), .int (I 25 0)])
  | 11 => .inl (cy 4, 16, .inr (.inr (.inr (.inr (fun j => some (ρ 8 (16 * o + j)))))))
  | 12 => .inl (cy 0, 16, .inl (fun j => I 0 j))
  | 13 => .inl (cy 1, 16, .inr (.inl (fun j => L 0 j)))
  | 14 => .inl (cy 2, 80, .inl (fun j => I 0 j))
  | 15 => .inl (cy 1, 17, .inr (.inl (fun j => L 0 j)))
  | 16 => .inl (cy 1, 17, .inr (.inl (fun j => L 0 j)))
  | 17 => .inl (cy 1, 17, .inr (.inl (fun j => L 0 j)))
  | 18 => .inl (cy 0, 4, .inl (fun j => I 0 j))
  | 19 => .inl (cy 0, 24, .inl (fun j => I 0 j))
  | 20 => .inl (cy 2, 300, .inl (fun j => I 0 j))
  | 21 => .inl (cy 5, 6, .inr (.inr (.inr (.inr (fun j => if I 0 j = 0 then none else some (ρ 0 (j + 1)))))))
  | 22 => .inl (cy 0, 240, .inl (fun j => I 0 j))
  | 23 => .inl (cy 0, 240, .inl (fun j => I 0 j))
  | 24 => .inl (cy 0, 60, .inl (fun j => I 0 j))
  | 25 => .inl (cy 1, 72, .inr (.inl (fun j => L 0 j)))
  | 26 => .inl (cy 1, 6, .inr (.inl (fun j => L 0 j)))
  | 27 => .inl (cy 0, 1588, .inl (fun j => I 0 j))
  | 28 => .inl (cy 0, 1588, .inl (fun j => I 0 j))
  | 29 => .inl (cy 0, 9528, .inl (fun j => I 0 j))
  | 30 => .inl (cy 1, 1058, .inr (.inl (fun j => L 0 j)))
  | 31 => .inl (cy 1, 6348, .inr (.inl (fun j => L 0 j)))
  | 32 => .inl (cy 0, 300, .inl (fun j => I 0 j))
  | 33 => .inl (cy 1, 17, .inr (.inl (fun j => L 0 j)))
  | 34 => .inl (cy 1, 17, .inr (.inl (fun j => L 0 j)))
  | 35 => .inl (cy 1, 17, .inr (.inl (fun j => L 0 j)))
  | 36 => .inl (cy 3, 17, .inl (fun j => I 0 j))
  | 37 => .inl (cy 1, 16, .inr (.inl (fun j => L 0 j)))
  | 38 => .inl (cy 3, 16, .inl (fun j => I 0 j))
  | 39 => .inl (cy 1, 84, .inr (.inl (fun j => L 0 j)))
  | 40 => .inl (cy 2, 100, .inl (fun j => I 0 j))
  | 41 => .inl (cy 1, 1, .inr (.inl (fun j => L 0 j)))
  | _ => .inl (cy 0, 0, .inl (fun _ => 0))
def ce (cy : Nat → ClassId) (ρ : Nat → Nat → Nat) (M : sM) (c o : Nat) : va_E := ce0 cy ρ c o (fun k j => M.1 c k o j) (fun k j => M.2 c k o j)
theorem ce_wI_ne (cy : Nat → ClassId) (ρ : Nat → Nat → Nat) (M : sM) {c k o j : Nat} {v : Int32} {c' o' : Nat} (h : ¬ (c' = c ∧ o' = o)) : ce cy ρ (wI M c k o j v) c' o' = ce cy ρ M c' o' := by
  have h1 : (fun k' j' => (wI M c k o j v).1 c' k' o' j') = (fun k' j' => M.1 c' k' o' j') := by
    funext k' j'
    simp only [wI]
    rw [if_neg (fun q => h ⟨q.1, q.2.2.1⟩)]
  unfold ce
  rw [h1]
  rfl
theorem ce_wL_ne (cy : Nat → ClassId) (ρ : Nat → Nat → Nat) (M : sM) {c k o j : Nat} {v : Int64} {c' o' : Nat} (h : ¬ (c' = c ∧ o' = o)) : ce cy ρ (wL M c k o j v) c' o' = ce cy ρ M c' o' := by
  have h1 : (fun k' j' => (wL M c k o j v).2 c' k' o' j') = (fun k' j' => M.2 c' k' o' j') := by
    funext k' j'
    simp only [wL]
    rw [if_neg (fun q => h ⟨q.1, q.2.2.1⟩)]
  unfold ce
  rw [h1]
  rfl
theorem ce_wI (cy : Nat → ClassId) (ρ : Nat → Nat → Nat) (M : sM) (c k o j : Nat) (v : Int32) : ce cy ρ (wI M c k o j v) c o = ce0 cy ρ c o (upI (fun k j => M.1 c k o j) k j v) (fun k j => M.2 c k o j) := by
  have h1 : (fun k' j' => (wI M c k o j v).1 c k' o j') = upI (fun k j => M.1 c k o j) k j v := by
    funext k' j'
    simp [wI, upI]
  unfold ce
  rw [h1]
  rfl
theorem ce_wL (cy : Nat → ClassId) (ρ : Nat → Nat → Nat) (M : sM) (c k o j : Nat) (v : Int64) : ce cy ρ (wL M c k o j v) c o = ce0 cy ρ c o (fun k j => M.1 c k o j) (upL (fun k j => M.2 c k o j) k j v) := by
  have h1 : (fun k' j' => (wL M c k o j v).2 c k' o j') = upL (fun k j => M.2 c k o j) k j v := by
    funext k' j'
    simp [wL, upL]
  unfold ce
  rw [h1]
  rfl
abbrev tyL (cy : Nat → ClassId) : List (ClassId × FieldType) := [(cy 0, .int), (cy 1, .long), (cy 2, .byte), (cy 3, .boolean), (cy 4, .object "SolarLedger$Subscriber"), (cy 5, .object "SolarLedger$Books")]
/-! The tables' words: those that stay as the tables warm, and those of nest mates. -/
def ALLW : List Cond := lw_tbl.filter goodWord
theorem ALLW_good (ws : List Cond) (h : ∀ w ∈ ws, w ∈ ALLW) : GoodIn ALLW ws := fun w hw => ⟨h w hw, good_of_word (List.mem_filter.mp (h w hw)).2⟩
theorem inW {w : Cond} (i : Nat) (h : lw_tbl[i]? = some w) (hg : goodWord w = true) : w ∈ ALLW := List.mem_filter.mpr ⟨List.mem_of_getElem? h, hg⟩
def isNestW : Cond → Bool
  | .fieldLinkNest _ _ _ _ _ _ => true
  | .methodLinkNest _ _ _ _ => true
  | _ => false
def NW : List Cond := tables_1.filter isNestW
theorem inN {w : Cond} (i : Nat) (h : tables_1[i]? = some w) (hg : isNestW w = true) : w ∈ NW := List.mem_filter.mpr ⟨List.mem_of_getElem? h, hg⟩
theorem nest_warm {w : Cond} (hw : isNestW w = true) {s U : State} (hW : s.WarmedH U.vm) (h : va_Nw w s) : va_Nw w U := by
  cases w <;> first | exact va_Nw.warmF hW h | exact va_Nw.warmM hW h | (simp [isNestW] at hw)
def KK (D : va_G) (cy : Nat → ClassId) (U : State) : Prop := va_K D vwCl (tyL cy) U ∧ ∀ w ∈ NW, va_Nw w U
theorem KK.warm {D : va_G} {cy : Nat → ClassId} {s U : State} (hW : s.WarmedH U.vm) (h : KK D cy s) : KK D cy U :=
  ⟨va_K.moved hW.alike h.1, fun w hw => nest_warm (List.mem_filter.mp hw).2 hW (h.2 w hw)⟩
/-- which objects are there, closed under the references that objects hold -/
def VC (V : Nat → Nat → Prop) : Prop :=
  (∀ o, V 0 o → V 4 o ∧ V 7 o ∧ V 11 o ∧ ∀ i, i < 16 → V 8 (16 * o + i)) ∧ (∀ o, V 4 o → V 18 o ∧ V 19 o) ∧ (∀ o, V 7 o → V 22 o ∧ V 23 o) ∧ (∀ o, V 8 o → V 24 o ∧ V 25 o ∧ V 26 o) ∧
  (∀ c, c = 1 ∨ c = 2 ∨ c = 3 ∨ c = 5 ∨ c = 6 ∨ c = 9 ∨ c = 10 ∨ (12 ≤ c ∧ c ≤ 17) ∨ c = 20 ∨ c = 21 ∨ (27 ≤ c ∧ c ≤ 41) → V c 0) ∧ V 0 0 ∧ V 4 7 ∧ V 8 112
/-- the world: each object that is there lies at its address as the memory has it; the addresses are apart, from B on; below B nothing has changed -/
def RP (D : va_G) (cy : Nat → ClassId) (ρ : Nat → Nat → Nat) (V : Nat → Nat → Prop) (B : Nat) (H0 : Heap) (M : sM) (H : Heap) : Prop :=
  (∀ c o, V c o → va_at D vwCl (ρ c o, ce cy ρ M c o) H ∧ B ≤ ρ c o) ∧ (∀ c o c' o', V c o → V c' o' → ρ c o = ρ c' o' → c = c' ∧ o = o') ∧ (B ≤ H.size ∧ ∀ q, q < B → H[q]? = H0[q]?) ∧ VC V ∧ (∀ j, j < 6 → ¬ M.1 21 0 0 j = 0 → V 0 (j + 1))
abbrev LO (B : Nat) (locs : List Loc) : Prop := ∀ q ∈ locs, B ≤ q.base
theorem RP.vc {D : va_G} {cy : Nat → ClassId} {ρ : Nat → Nat → Nat} {V : Nat → Nat → Prop} {B : Nat} {H0 : Heap} {M : sM} {H : Heap} (h : RP D cy ρ V B H0 M H) : VC V := h.2.2.2.1
theorem RP.put {D : va_G} {cy : Nat → ClassId} {ρ : Nat → Nat → Nat} {V : Nat → Nat → Prop} {B : Nat} {H0 : Heap} {M M' : sM} {H H' : Heap} (h : RP D cy ρ V B H0 M H) {c o : Nat} (hV : V c o) (e2 : H'.size = H.size) (e3 : ∀ q, q ≠ ρ c o → H'[q]? = H[q]?)
    (hc : va_at D vwCl (ρ c o, ce cy ρ M' c o) H') (hne : ∀ c' o', ¬ (c' = c ∧ o' = o) → ce cy ρ M' c' o' = ce cy ρ M c' o') (hr : ∀ j, j < 6 → ¬ M'.1 21 0 0 j = 0 → ¬ M.1 21 0 0 j = 0) : RP D cy ρ V B H0 M' H' := by
  obtain ⟨h1, h2, h3, h4, h5⟩ := h
  refine ⟨fun c' o' hV' => ?_, h2, ⟨by rw [e2]; exact h3.1, fun q hq => ?_⟩, h4, fun j hj hz => h5 j hj (hr j hj hz)⟩
  · refine ⟨?_, (h1 c' o' hV').2⟩
    by_cases hq : c' = c ∧ o' = o
    · obtain ⟨rfl, rfl⟩ := hq
      exact hc
    · rw [hne c' o' hq]
      refine (h1 c' o' hV').1.kept ?_
      exact e3 _ (fun z => hq (h2 c' o' c o hV' hV z))
  · rw [e3 q (fun z => by have := (h1 c o hV).2; omega)]
    exact h3.2 q hq
