/-! The memory: what each object and array holds, by its kind, its field, its number, its place. -/
def upI (I : Nat → Nat → Int32) (k j : Nat) (v : Int32) : Nat → Nat → Int32 := fun k' j' => if k' = k ∧ j' = j then v else I k' j'
def upL (I : Nat → Nat → Int64) (k j : Nat) (v : Int64) : Nat → Nat → Int64 := fun k' j' => if k' = k ∧ j' = j then v else I k' j'
/-! Two memories beside each other: the system's (with the law's array) and the reference's. -/
def isR : Nat → Bool
  | 10 => true
  | 27 => true
  | 28 => true
  | 29 => true
  | 30 => true
  | 31 => true
  | 32 => true
  | 33 => true
  | 34 => true
  | 35 => true
  | 36 => true
  | 37 => true
  | 38 => true
  | 39 => true
  | 40 => true
  | _ => false
def jn {α : Type} (b : Bool) (x y : α) : α := match b with
  | true => x
  | false => y
def J (A Z : sM) : sM := (fun c => jn (isR c) (Z.1 c) (A.1 c), fun c => jn (isR c) (Z.2 c) (A.2 c))
theorem J1c {A Z : sM} {c : Nat} (h : isR c = false) : (J A Z).1 c = A.1 c := by simp only [J, h, jn]
theorem J2c {A Z : sM} {c : Nat} (h : isR c = false) : (J A Z).2 c = A.2 c := by simp only [J, h, jn]
theorem J1r {A Z : sM} {c : Nat} (h : isR c = true) : (J A Z).1 c = Z.1 c := by simp only [J, h, jn]
theorem J2r {A Z : sM} {c : Nat} (h : isR c = true) : (J A Z).2 c = Z.2 c := by simp only [J, h, jn]
theorem J_ext {M M' : sM} (h1 : ∀ c k o j, M.1 c k o j = M'.1 c k o j) (h2 : ∀ c k o j, M.2 c k o j = M'.2 c k o j) : M = M' :=
  Prod.ext (by funext c k o j; exact h1 c k o j) (by funext c k o j; exact h2 c k o j)
theorem J_at {A Z : sM} (c : Nat) : (isR c = true ∧ (J A Z).1 c = Z.1 c ∧ (J A Z).2 c = Z.2 c) ∨ (isR c = false ∧ (J A Z).1 c = A.1 c ∧ (J A Z).2 c = A.2 c) := by
  cases h : isR c
  · exact Or.inr ⟨rfl, J1c h, J2c h⟩
  · exact Or.inl ⟨rfl, J1r h, J2r h⟩
/-- a memory that differs from another one in the places of one kind alone -/
theorem J_oneC {A A' Z M' : sM} {c : Nat} (hc : isR c = false) (h1 : ∀ c', ¬ c' = c → A'.1 c' = A.1 c') (h2 : ∀ c', ¬ c' = c → A'.2 c' = A.2 c') (g1 : ∀ c', ¬ c' = c → M'.1 c' = (J A Z).1 c') (g2 : ∀ c', ¬ c' = c → M'.2 c' = (J A Z).2 c') (e1 : M'.1 c = A'.1 c) (e2 : M'.2 c = A'.2 c) : J A' Z = M' := by
  refine J_ext (fun c' k o j => ?_) (fun c' k o j => ?_)
  · by_cases h : c' = c
    · subst h; rw [J1c hc, e1]
    · rw [g1 c' h]
      rcases J_at (A := A) (Z := Z) c' with ⟨q, a, -⟩ | ⟨q, a, -⟩
      · rw [a, J1r q]
      · rw [a, J1c q, h1 c' h]
  · by_cases h : c' = c
    · subst h; rw [J2c hc, e2]
    · rw [g2 c' h]
      rcases J_at (A := A) (Z := Z) c' with ⟨q, -, a⟩ | ⟨q, -, a⟩
      · rw [a, J2r q]
      · rw [a, J2c q, h2 c' h]
theorem J_oneR {A Z Z' M' : sM} {c : Nat} (hc : isR c = true) (h1 : ∀ c', ¬ c' = c → Z'.1 c' = Z.1 c') (h2 : ∀ c', ¬ c' = c → Z'.2 c' = Z.2 c') (g1 : ∀ c', ¬ c' = c → M'.1 c' = (J A Z).1 c') (g2 : ∀ c', ¬ c' = c → M'.2 c' = (J A Z).2 c') (e1 : M'.1 c = Z'.1 c) (e2 : M'.2 c = Z'.2 c) : J A Z' = M' := by
  refine J_ext (fun c' k o j => ?_) (fun c' k o j => ?_)
  · by_cases h : c' = c
    · subst h; rw [J1r hc, e1]
    · rw [g1 c' h]
      rcases J_at (A := A) (Z := Z) c' with ⟨q, a, -⟩ | ⟨q, a, -⟩
      · rw [a, J1r q, h1 c' h]
      · rw [a, J1c q]
  · by_cases h : c' = c
    · subst h; rw [J2r hc, e2]
    · rw [g2 c' h]
      rcases J_at (A := A) (Z := Z) c' with ⟨q, -, a⟩ | ⟨q, -, a⟩
      · rw [a, J2r q, h2 c' h]
      · rw [a, J2c q]
theorem wI_o {M : sM} {c k o j : Nat} {v : Int32} {c' : Nat} (h : ¬ c' = c) : (wI M c k o j v).1 c' = M.1 c' := by
  funext k' o' j'
  exact if_neg (fun q => h q.1)
theorem wL_o {M : sM} {c k o j : Nat} {v : Int64} {c' : Nat} (h : ¬ c' = c) : (wL M c k o j v).2 c' = M.2 c' := by
  funext k' o' j'
  exact if_neg (fun q => h q.1)
theorem fI_o {M : sM} {c o n : Nat} {v : Int32} {c' : Nat} (h : ¬ c' = c) : (fI M c o n v).1 c' = M.1 c' := by
  funext k' o' j'
  exact if_neg (fun q => h q.1)
theorem fL_o {M : sM} {c o n : Nat} {v : Int64} {c' : Nat} (h : ¬ c' = c) : (fL M c o n v).2 c' = M.2 c' := by
  funext k' o' j'
  exact if_neg (fun q => h q.1)
theorem cI_o {M : sM} {c o2 o n : Nat} {c' : Nat} (h : ¬ c' = c) : (cI M c o2 o n).1 c' = M.1 c' := by
  funext k' o' j'
  exact if_neg (fun q => h q.1)
theorem cL_o {M : sM} {c o2 o n : Nat} {c' : Nat} (h : ¬ c' = c) : (cL M c o2 o n).2 c' = M.2 c' := by
  funext k' o' j'
  exact if_neg (fun q => h q.1)
theorem jwIc {A A1 Z : sM} {c k o j : Nat} {v : Int32} (hc : isR c = false) (e : A1 = wI A c k o j v) : J A1 Z = wI (J A Z) c k o j v := by
  subst e
  exact J_oneC (A := A) hc (fun _ h => wI_o h) (fun _ _ => rfl) (fun _ h => wI_o h) (fun _ _ => rfl) (by simp only [wI, J1c hc]) (by simp only [wI, J2c hc])
theorem jwLc {A A1 Z : sM} {c k o j : Nat} {v : Int64} (hc : isR c = false) (e : A1 = wL A c k o j v) : J A1 Z = wL (J A Z) c k o j v := by
  subst e
  exact J_oneC (A := A) hc (fun _ _ => rfl) (fun _ h => wL_o h) (fun _ _ => rfl) (fun _ h => wL_o h) (by simp only [wL, J1c hc]) (by simp only [wL, J2c hc])
theorem jwIr {A Z Z1 : sM} {c k o j : Nat} {v : Int32} (hc : isR c = true) (e : Z1 = wI Z c k o j v) : J A Z1 = wI (J A Z) c k o j v := by
  subst e
  exact J_oneR (Z := Z) hc (fun _ h => wI_o h) (fun _ _ => rfl) (fun _ h => wI_o h) (fun _ _ => rfl) (by simp only [wI, J1r hc]) (by simp only [wI, J2r hc])
theorem jwLr {A Z Z1 : sM} {c k o j : Nat} {v : Int64} (hc : isR c = true) (e : Z1 = wL Z c k o j v) : J A Z1 = wL (J A Z) c k o j v := by
  subst e
  exact J_oneR (Z := Z) hc (fun _ _ => rfl) (fun _ h => wL_o h) (fun _ _ => rfl) (fun _ h => wL_o h) (by simp only [wL, J1r hc]) (by simp only [wL, J2r hc])
theorem jfIc {A A1 Z : sM} {c o n : Nat} {v : Int32} (hc : isR c = false) (e : A1 = fI A c o n v) : J A1 Z = fI (J A Z) c o n v := by
  subst e
  exact J_oneC (A := A) hc (fun _ h => fI_o h) (fun _ _ => rfl) (fun _ h => fI_o h) (fun _ _ => rfl) (by simp only [fI, J1c hc]) (by simp only [fI, J2c hc])
theorem jfLc {A A1 Z : sM} {c o n : Nat} {v : Int64} (hc : isR c = false) (e : A1 = fL A c o n v) : J A1 Z = fL (J A Z) c o n v := by
  subst e
  exact J_oneC (A := A) hc (fun _ _ => rfl) (fun _ h => fL_o h) (fun _ _ => rfl) (fun _ h => fL_o h) (by simp only [fL, J1c hc]) (by simp only [fL, J2c hc])
theorem jcIc {A A1 Z : sM} {c o2 o n : Nat} (hc : isR c = false) (e : A1 = cI A c o2 o n) : J A1 Z = cI (J A Z) c o2 o n := by
  subst e
  exact J_oneC (A := A) hc (fun _ h => cI_o h) (fun _ _ => rfl) (fun _ h => cI_o h) (fun _ _ => rfl) (by simp only [cI, J1c hc]) (by simp only [cI, J2c hc])
theorem jcLc {A A1 Z : sM} {c o2 o n : Nat} (hc : isR c = false) (e : A1 = cL A c o2 o n) : J A1 Z = cL (J A Z) c o2 o n := by
  subst e
  exact J_oneC (A := A) hc (fun _ _ => rfl) (fun _ h => cL_o h) (fun _ _ => rfl) (fun _ h => cL_o h) (by simp only [cL, J1c hc]) (by simp only [cL, J2c hc])
/-- a cell by its kind: the objects of class c have kind c, each array field has a kind of its own -/
def ce0 (cy : Nat → ClassId) (ρ : Nat → Nat → Nat) (c o : Nat) (I : Nat → Nat → Int32) (L : Nat → Nat → Int64) : va_E := match c with
  | 0 => .inr (0, [.ref (ρ 4 o), .ref (ρ 7 o), .ref (ρ 11 o), .int (I 3 0), .int (I 4 0), .int (I 5 0), .long (L 6 0), .long (L 7 0)])
  | 1 => .inr (1, [.ref (ρ 12 o), .ref (ρ 13 o)])
  | 2 => .inr (2, [.ref (ρ 14 o), .int (I 1 0)])
  | 3 => .inr (3, [.ref (ρ 15 o), .long (L 1 0), .ref (ρ 16 o), .ref (ρ 17 o)])
  | 4 => .inr (4, [.int (I 0 0), .int (I 1 0), .int (I 2 0), .int (I 3 0), .int (I 4 0), .ref (ρ 18 o), .ref (ρ 19 o)])
  | 5 => .inr (5, [.ref (ρ 20 o), .int (I 1 0), .int (I 2 0), .int (I 3 0), .int (I 4 0), .ref (ρ 4 7)])
  | 6 => .inr (6, [.ref (ρ 21 o), .int (I 1 0), .int (I 2 0)])
  | 7 => .inr (7, [.ref (ρ 22 o), .ref (ρ 23 o)])
  | 8 => .inr (8, [.int (I 0 0), .int (I 1 0), .int (I 2 0), .int (I 3 0), .int (I 4 0), .int (I 5 0), .int (I 6 0), .ref (ρ 24 o), .ref (ρ 25 o), .ref (ρ 26 o)])
  | 9 => .inr (9, [.ref (ρ 0 0), .ref (ρ 6 0), .ref (ρ 5 0), .ref (ρ 2 0), .ref (ρ 3 0), .ref (ρ 1 0), .ref (ρ 8 112), .int (I 7 0)])
  | 10 => .inr (10, [.ref (ρ 27 o), .ref (ρ 28 o), .ref (ρ 29 o), .ref (ρ 30 o), .ref (ρ 31 o), .int (I 5 0), .int (I 6 0), .ref (ρ 32 o), .int (I 8 0), .int (I 9 0), .int (I 10 0), .int (I 11 0), .int (I 12 0), .int (I 13 0), .int (I 14 0), .int (I 15 0), .long (L 16 0), .ref (ρ 33 o), .ref (ρ 34 o), .ref (ρ 35 o), .ref (ρ 36 o), .ref (ρ 37 o), .ref (ρ 38 o), .ref (ρ 39 o), .ref (ρ 40 o), .int (I 25 0)])
  | 11 => .inl (cy 4, 16, .inr (.inr (.inr (.inr (fun j => some (ρ 8 (16 * o + j)))))))
  | 12 => .inl (cy 0, 16, .inl (fun j => I 0 j))
  | 13 => .inl (cy 1, 16, .inr (.inl (fun j => L 0 j)))
  | 14 => .inl (cy 2, 80, .inl (fun j => I 0 j))
  | 15 => .inl (cy 1, 17, .inr (.inl (fun j => L 0 j)))
  | 16 => .inl (cy 1, 17, .inr (.inl (fun j => L 0 j)))
  | 17 => .inl (cy 1, 17, .inr (.inl (fun j => L 0 j)))
  | 18 => .inl (cy 0, 4, .inl (fun j => I 0 j))
  | 19 => .inl (cy 0, 24, .inl (fun j => I 0 j))
  | 20 => .inl (cy 2, 300, .inl (fun j => I 0 j))
  | 21 => .inl (cy 5, 6, .inr (.inr (.inr (.inr (fun j => if I 0 j = 0 then none else some (ρ 0 (j + 1)))))))
  | 22 => .inl (cy 0, 240, .inl (fun j => I 0 j))
  | 23 => .inl (cy 0, 240, .inl (fun j => I 0 j))
  | 24 => .inl (cy 0, 60, .inl (fun j => I 0 j))
  | 25 => .inl (cy 1, 72, .inr (.inl (fun j => L 0 j)))
  | 26 => .inl (cy 1, 6, .inr (.inl (fun j => L 0 j)))
  | 27 => .inl (cy 0, 1588, .inl (fun j => I 0 j))
  | 28 => .inl (cy 0, 1588, .inl (fun j => I 0 j))
  | 29 => .inl (cy 0, 9528, .inl (fun j => I 0 j))
  | 30 => .inl (cy 1, 1058, .inr (.inl (fun j => L 0 j)))
  | 31 => .inl (cy 1, 6348, .inr (.inl (fun j => L 0 j)))
  | 32 => .inl (cy 0, 300, .inl (fun j => I 0 j))
  | 33 => .inl (cy 1, 17, .inr (.inl (fun j => L 0 j)))
  | 34 => .inl (cy 1, 17, .inr (.inl (fun j => L 0 j)))
  | 35 => .inl (cy 1, 17, .inr (.inl (fun j => L 0 j)))
  | 36 => .inl (cy 3, 17, .inl (fun j => I 0 j))
  | 37 => .inl (cy 1, 16, .inr (.inl (fun j => L 0 j)))
  | 38 => .inl (cy 3, 16, .inl (fun j => I 0 j))
  | 39 => .inl (cy 1, 84, .inr (.inl (fun j => L 0 j)))
  | 40 => .inl (cy 2, 100, .inl (fun j => I 0 j))
  | 41 => .inl (cy 1, 1, .inr (.inl (fun j => L 0 j)))
  | _ => .inl (cy 0, 0, .inl (fun _ => 0))
def ce (cy : Nat → ClassId) (ρ : Nat → Nat → Nat) (M : sM) (c o : Nat) : va_E := ce0 cy ρ c o (fun k j => M.1 c k o j) (fun k j => M.2 c k o j)
theorem ce_wI_ne (cy : Nat → ClassId) (ρ : Nat → Nat → Nat) (M : sM) {c k o j : Nat} {v : Int32} {c' o' : Nat} (h : ¬ (c' = c ∧ o' = o)) : ce cy ρ (wI M c k o j v) c' o' = ce cy ρ M c' o' := by
  have h1 : (fun k' j' => (wI M c k o j v).1 c' k' o' j') = (fun k' j' => M.1 c' k' o' j') := by
    funext k' j'
    simp only [wI]
    rw [if_neg (fun q => h ⟨q.1, q.2.2.1⟩)]
  unfold ce
  rw [h1]
  rfl
theorem ce_wL_ne (cy : Nat → ClassId) (ρ : Nat → Nat → Nat) (M : sM) {c k o j : Nat} {v : Int64} {c' o' : Nat} (h : ¬ (c' = c ∧ o' = o)) : ce cy ρ (wL M c k o j v) c' o' = ce cy ρ M c' o' := by
  have h1 : (fun k' j' => (wL M c k o j v).2 c' k' o' j') = (fun k' j' => M.2 c' k' o' j') := by
    funext k' j'
    simp only [wL]
    rw [if_neg (fun q => h ⟨q.1, q.2.2.1⟩)]
  unfold ce
  rw [h1]
  rfl
theorem ce_wI (cy : Nat → ClassId) (ρ : Nat → Nat → Nat) (M : sM) (c k o j : Nat) (v : Int32) : ce cy ρ (wI M c k o j v) c o = ce0 cy ρ c o (upI (fun k j => M.1 c k o j) k j v) (fun k j => M.2 c k o j) := by
  have h1 : (fun k' j' => (wI M c k o j v).1 c k' o j') = upI (fun k j => M.1 c k o j) k j v := by
    funext k' j'
    simp [wI, upI]
  unfold ce
  rw [h1]
  rfl
theorem ce_wL (cy : Nat → ClassId) (ρ : Nat → Nat → Nat) (M : sM) (c k o j : Nat) (v : Int64) : ce cy ρ (wL M c k o j v) c o = ce0 cy ρ c o (fun k j => M.1 c k o j) (upL (fun k j => M.2 c k o j) k j v) := by
  have h1 : (fun k' j' => (wL M c k o j v).2 c k' o j') = upL (fun k j => M.2 c k o j) k j v := by
    funext k' j'
    simp [wL, upL]
  unfold ce
  rw [h1]
  rfl
abbrev tyL (cy : Nat → ClassId) : List (ClassId × FieldType) := [(cy 0, .int), (cy 1, .long), (cy 2, .byte), (cy 3, .boolean), (cy 4, .object "SolarLedger$Subscriber"), (cy 5, .object "SolarLedger$Books")]
/-! The tables' words: those that stay as the tables warm, and those of nest mates. -/
def ALLW : List Cond := lw_tbl.filter goodWord
theorem ALLW_good (ws : List Cond) (h : ∀ w ∈ ws, w ∈ ALLW) : GoodIn ALLW ws := fun w hw => ⟨h w hw, good_of_word (List.mem_filter.mp (h w hw)).2⟩
theorem inW {w : Cond} (i : Nat) (h : lw_tbl[i]? = some w) (hg : goodWord w = true) : w ∈ ALLW := List.mem_filter.mpr ⟨List.mem_of_getElem? h, hg⟩
def isNestW : Cond → Bool
  | .fieldLinkNest _ _ _ _ _ _ => true
  | .methodLinkNest _ _ _ _ => true
  | .declares _ => true
  | .castable _ _ => true
  | _ => false
def NW : List Cond := tables_1.filter isNestW
theorem inN {w : Cond} (i : Nat) (h : tables_1[i]? = some w) (hg : isNestW w = true) : w ∈ NW := List.mem_filter.mpr ⟨List.mem_of_getElem? h, hg⟩
theorem nest_warm {w : Cond} (hw : isNestW w = true) {s U : State} (hW : s.WarmedH U.vm) (h : va_Nw w s) : va_Nw w U := by
  cases w <;> first | exact va_Nw.warmF hW h | exact va_Nw.warmM hW h | exact va_Nw.warmD hW h | exact va_Nw.warmC hW h | (simp [isNestW] at hw)
/-! String constants by their places. -/
def sOwn (i : Nat) : String := (["SolarLedger", "SolarLedger", "SolarLedger$GardenText", "SolarLedger$GardenText", "SolarLedger$GardenText", "SolarLedger", "SolarLedger", "SolarLedger", "SolarLedger", "SolarLedger", "SolarLedger", "SolarLedger", "SolarLedger", "SolarLedger", "SolarLedger", "SolarLedger", "SolarLedger", "SolarLedger", "SolarLedger", "SolarLedger", "SolarLedger", "SolarLedger", "SolarLedger", "SolarLedger", "SolarLedger", "SolarLedger", "SolarLedger", "SolarLedger", "SolarLedger", "SolarLedger", "SolarLedger", "SolarLedger", "SolarLedger", "SolarLedger", "SolarLedger", "SolarLedger", "SolarLedger", "SolarLedger", "SolarLedger", "SolarLedger", "SolarLedger$Description", "SolarLedger$Description", "SolarLedger$Description", "SolarLedger$Description", "SolarLedger$Description", "SolarLedger$Description", "SolarLedger$Description", "SolarLedger$Description", "SolarLedger", "SolarLedger", "SolarLedgerModel", "SolarLedgerModel"] : List String).getD i ""
def sIdx (i : Nat) : Nat := ([68, 82, 53, 77, 83, 126, 416, 135, 137, 139, 144, 410, 418, 426, 166, 430, 428, 420, 185, 191, 199, 211, 216, 222, 240, 242, 246, 248, 250, 412, 414, 299, 318, 328, 330, 335, 344, 355, 377, 382, 29, 40, 46, 51, 98, 76, 81, 67, 396, 405, 75, 286] : List Nat).getD i 0
def sTxt (i : Nat) : String := (["the text would be longer than 300 bytes", "the text buffer has no such length", "garden", "period", "hours", "there is no such setting", "there is no such hour", "the wanted shares are out of range", "the minimum is out of range", "the priority is out of range", "there are already 16 subscribers", "there is no such subscriber", "the number of shares is less than 1", "the subscriber is not active", "fewer shares are free", "the subscriber would hold more shares than allowed", "the subscriber would keep no share", "both subscribers are the same", "the percentage is out of range", "the credits would come back", "the subscriber has left already", "the number of days is out of range", "a month has 30 days", "the generation is out of range", "the sum of the period would exceed its limit", "the amount is out of range", "the bill would exceed its limit", "the month has not passed", "it is the last month", "there is no such month", "there is no such period", "the number of ends is out of range", "there is no such rate", "the amount is negative", "there is no such number of shares", "there is no such account", "the amount is less than 1", "that is no past month", "the fund is not positive", "no subscriber is active", ":", "waiting ", " ", "active ", ".", " ->", "%", "left ", "the description is not so long", "there is no change to undo", " garden period hours ", "waitingactiveleft"] : List String).getD i ""
/-- what stays the same through the whole run: where classes' fields lie, the array classes, the addresses of the String constants (2 i: the object, 2 i + 1: its bytes), from where on the run's own cells lie, the heap at the law's start -/
abbrev gU : Type := va_G × (Nat → ClassId) × (Nat → Nat) × Nat × Heap
abbrev gC (G : gU) : Nat → ClassId := G.2.1
abbrev gS (G : gU) : Nat → Nat := G.2.2.1
abbrev gB (G : gU) : Nat := G.2.2.2.1
abbrev gH (G : gU) : Heap := G.2.2.2.2
abbrev gA (G : gU) : Nat → Prop := fun q => gB G ≤ q
/-- classes of exceptions that aren't of a kind -/
def NCL : List (String × String) := [("java/lang/IllegalStateException", "java/lang/IndexOutOfBoundsException"), ("java/lang/IllegalStateException", "java/lang/IllegalArgumentException"), ("java/lang/IllegalArgumentException", "java/lang/IndexOutOfBoundsException"), ("java/util/NoSuchElementException", "java/lang/IndexOutOfBoundsException"), ("java/util/NoSuchElementException", "java/lang/IllegalArgumentException")]
/-- the String constants, the JDK's statics -/
def KX (G : gU) (U : State) : Prop :=
  (∀ i, i < nSt → vk_R (sOwn i) (sIdx i) (sTxt i) (gS G (2 * i)) U) ∧
  (∀ i, i < nSt → va_O "java/lang/String" (gS G (2 * i)) (gA G) U (gH G) ∧ va_OF "java/lang/String" "coder" "B" (.int 0) (gS G (2 * i)) (gA G) U (gH G) ∧ va_OF "java/lang/String" "value" "[B" (.ref (gS G (2 * i + 1))) (gS G (2 * i)) (gA G) U (gH G) ∧ va_T .byte (gS G (2 * i + 1)) (sLen.getD i 0) (fun j => .int ((sByt.getD i []).getD j 0)) (gA G) U (gH G)) ∧
  vx_Zq Bundle.tN "UNASSIGNED_STACK" Bundle.steD (gA G) U (gH G) ∧ vx_Zq Bundle.tN "SUPPRESSED_SENTINEL" Bundle.listD (gA G) U (gH G) ∧
  va_Z "java/lang/String" "COMPACT_STRINGS" "Z" (.int 1) (gA G) U (gH G) ∧ va_Zq "jdk/internal/util/Preconditions" "SIOOBE_FORMATTER" "Ljava/util/function/BiFunction;" (gA G) U (gH G) ∧ (∀ q ∈ NCL, va_Nc q.1 q.2 U) ∧ va_AO "SolarLedger$Subscriber" U ∧ va_AO "SolarLedger$Books" U
theorem KX.moved {G : gU} {u U : State} (hr : ∀ i, i < nSt → vk_R (sOwn i) (sIdx i) (sTxt i) (gS G (2 * i)) U) (hvm : u.vm.Alike U.vm) (h : KX G u) : KX G U :=
  ⟨hr, fun i hi => ⟨va_O.moved hvm (h.2.1 i hi).1, va_OF.moved hvm (h.2.1 i hi).2.1, va_OF.moved hvm (h.2.1 i hi).2.2.1, va_T.moved hvm (h.2.1 i hi).2.2.2⟩, vx_Zq.moved hvm h.2.2.1, vx_Zq.moved hvm h.2.2.2.1, va_Z.moved hvm h.2.2.2.2.1, va_Zq.moved hvm h.2.2.2.2.2.1, fun q hq => va_Nc.moved hvm (h.2.2.2.2.2.2.1 q hq), va_AO.moved hvm h.2.2.2.2.2.2.2.1, va_AO.moved hvm h.2.2.2.2.2.2.2.2⟩
def KK (G : gU) (U : State) : Prop := va_K G.1 vwCl (tyL (gC G)) U ∧ (∀ w ∈ NW, va_Nw w U) ∧ KX G U
theorem KK.warm {G : gU} {s U : State} (hW : s.WarmedH U.vm) (h : KK G s) : KK G U :=
  ⟨va_K.moved hW.alike h.1, fun w hw => nest_warm (List.mem_filter.mp hw).2 hW (h.2.1 w hw), KX.moved (fun i hi => vk_R.warm hW (h.2.2.1 i hi)) hW.alike h.2.2⟩
theorem KK.same {G : gU} {u U : State} (hv : U.vm = u.vm) (ha : u.vm.Alike U.vm) (h : KK G u) : KK G U :=
  ⟨va_K.moved ha h.1, fun w hw => va_Nw.same (u := u) (U := U) (by have hw2 := (List.mem_filter.mp hw).2; cases w <;> first | rfl | (simp [isNestW] at hw2)) hv.symm (h.2.1 w hw), KX.moved (fun i hi => vk_R.same hv (h.2.2.1 i hi)) ha h.2.2⟩
/-- which objects are there, closed under the references that objects hold -/
def VC (V : Nat → Nat → Prop) : Prop :=
  (∀ o, V 0 o → V 4 o ∧ V 7 o ∧ V 11 o ∧ ∀ i, i < 16 → V 8 (16 * o + i)) ∧ (∀ o, V 4 o → V 18 o ∧ V 19 o) ∧ (∀ o, V 7 o → V 22 o ∧ V 23 o) ∧ (∀ o, V 8 o → V 24 o ∧ V 25 o ∧ V 26 o) ∧
  (∀ c, c = 1 ∨ c = 2 ∨ c = 3 ∨ c = 5 ∨ c = 6 ∨ c = 9 ∨ c = 10 ∨ (12 ≤ c ∧ c ≤ 17) ∨ c = 20 ∨ c = 21 ∨ (27 ≤ c ∧ c ≤ 41) → V c 0) ∧ V 0 0 ∧ V 4 7 ∧ V 8 112
theorem VC.s {V : Nat → Nat → Prop} (h : VC V) (c : Nat) (hc : c = 1 ∨ c = 2 ∨ c = 3 ∨ c = 5 ∨ c = 6 ∨ c = 9 ∨ c = 10 ∨ (12 ≤ c ∧ c ≤ 17) ∨ c = 20 ∨ c = 21 ∨ (27 ≤ c ∧ c ≤ 41)) : V c 0 := h.2.2.2.2.1 c hc
/-- .. and nothing else is there -/
def VD (V : Nat → Nat → Prop) : Prop :=
  (∀ o, V 0 o → o ≤ 6) ∧ (∀ o, V 4 o → V 0 o ∨ o = 7) ∧ (∀ o, V 7 o → V 0 o) ∧ (∀ o, V 11 o → V 0 o) ∧ (∀ o, V 8 o → V 0 (o / 16) ∨ o = 112) ∧ (∀ o, V 18 o → V 4 o) ∧ (∀ o, V 19 o → V 4 o) ∧ (∀ o, V 22 o → V 7 o) ∧ (∀ o, V 23 o → V 7 o) ∧ (∀ o, V 24 o → V 8 o) ∧ (∀ o, V 25 o → V 8 o) ∧ (∀ o, V 26 o → V 8 o) ∧ (∀ o, V 21 o → o = 0)
/-- the world: each object that is there lies at its address as the memory has it; the addresses are apart, from B on; below B nothing has changed -/
def RP (G : gU) (ρ : Nat → Nat → Nat) (V : Nat → Nat → Prop) (M : sM) (H : Heap) : Prop :=
  (∀ c o, V c o → va_at G.1 vwCl (ρ c o, ce (gC G) ρ M c o) H ∧ gB G ≤ ρ c o) ∧ (∀ c o c' o', V c o → V c' o' → ρ c o = ρ c' o' → c = c' ∧ o = o') ∧ (gB G ≤ H.size ∧ ∀ q, q < gB G → H[q]? = (gH G)[q]?) ∧ VC V ∧ (∀ j, j < 6 → (¬ M.1 21 0 0 j = 0 ↔ V 0 (j + 1))) ∧ VD V
abbrev LO (G : gU) (locs : List Loc) : Prop := ∀ q ∈ locs, gB G ≤ q.base
theorem RP.vc {G : gU} {ρ : Nat → Nat → Nat} {V : Nat → Nat → Prop} {M : sM} {H : Heap} (h : RP G ρ V M H) : VC V := h.2.2.2.1
theorem RP.put {G : gU} {ρ : Nat → Nat → Nat} {V : Nat → Nat → Prop} {M M' : sM} {H H' : Heap} (h : RP G ρ V M H) {c o : Nat} (hV : V c o) (e2 : H'.size = H.size) (e3 : ∀ q, q ≠ ρ c o → H'[q]? = H[q]?)
    (hc : va_at G.1 vwCl (ρ c o, ce (gC G) ρ M' c o) H') (hne : ∀ c' o', ¬ (c' = c ∧ o' = o) → ce (gC G) ρ M' c' o' = ce (gC G) ρ M c' o') (hr : ∀ j, j < 6 → M'.1 21 0 0 j = M.1 21 0 0 j) : RP G ρ V M' H' := by
  obtain ⟨h1, h2, h3, h4, h5⟩ := h
  refine ⟨fun c' o' hV' => ?_, h2, ⟨by rw [e2]; exact h3.1, fun q hq => ?_⟩, h4, fun j hj => by rw [hr j hj]; exact h5.1 j hj, h5.2⟩
  · refine ⟨?_, (h1 c' o' hV').2⟩
    by_cases hq : c' = c ∧ o' = o
    · obtain ⟨rfl, rfl⟩ := hq
      exact hc
    · rw [hne c' o' hq]
      refine (h1 c' o' hV').1.kept ?_
      exact e3 _ (fun z => hq (h2 c' o' c o hV' hV z))
  · rw [e3 q (fun z => by have := (h1 c o hV).2; omega)]
    exact h3.2 q hq
theorem RP.P {G : gU} {ρ : Nat → Nat → Nat} {V : Nat → Nat → Prop} {M : sM} {H : Heap} (hR : RP G ρ V M H) {kc o : Nat} (hV : V kc o) {x : va_E} (he : ce (gC G) ρ M kc o = x) : va_P G.1 vwCl [(ρ kc o, x)] H := by
  intro k q hq
  match k, hq with
  | 0, hq =>
    cases hq
    rw [← he]
    exact (hR.1 kc o hV).1
  | k + 1, hq => simp at hq
