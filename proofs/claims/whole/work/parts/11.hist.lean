def rI (r : Nat ⊕ Int32) : Nat ⊕ Option Value := match r with
  | .inl e => .inl e
  | .inr v => .inr (some (.int v))
def rL (r : Nat ⊕ Int64) : Nat ⊕ Option Value := match r with
  | .inl e => .inl e
  | .inr v => .inr (some (.long v))
def rU (r : Nat ⊕ Unit) : Nat ⊕ Option Value := match r with
  | .inl e => .inl e
  | .inr _ => .inr none
theorem xI {v : Int32} {A A' : sM} {r : Nat ⊕ Int32} (h : some (Sum.inr v, A) = some (r, A')) : rI r = .inr (some (.int v)) := by rw [← sm1 h]; rfl
theorem xL {v : Int64} {A A' : sM} {r : Nat ⊕ Int64} (h : some (Sum.inr v, A) = some (r, A')) : rL r = .inr (some (.long v)) := by rw [← sm1 h]; rfl
theorem xU {A A' : sM} {r : Nat ⊕ Unit} (h : some (Sum.inr (), A) = some (r, A')) : rU r = .inr none := by rw [← sm1 h]; rfl
theorem xTI {n : Nat} {A A' : sM} {r : Nat ⊕ Int32} (h : some (Sum.inl n, A) = some (r, A')) : rI r = .inl n := by rw [← sm1 h]; rfl
theorem xTL {n : Nat} {A A' : sM} {r : Nat ⊕ Int64} (h : some (Sum.inl n, A) = some (r, A')) : rL r = .inl n := by rw [← sm1 h]; rfl
theorem xTU {n : Nat} {A A' : sM} {r : Nat ⊕ Unit} (h : some (Sum.inl n, A) = some (r, A')) : rU r = .inl n := by rw [← sm1 h]; rfl
section
variable {E : eU} {G : gU} {ρ ρ0 : Nat → Nat → Nat} {V V0 : Nat → Nat → Prop} {k1 k2 : Nat} {M M' : sM} {pc nL d mc ms : Nat} {lv lv' : List (Nat × Value)} {st st' : List Value} {cc : ByteArray} {own : String} {ret : Option FieldType}
theorem wa_tsIn (t : Nat) (hC : CX E G cc nL own ret d mc ms) {dflt lo hi : Int} {offs : Array Int} {len : Nat} {x k : Int32} {off : Int} (hdg : decode cc pc = .ok (.tableswitch dflt lo hi offs, len)) (hx : x = k) (h1 : ¬ k.toInt < lo) (h2 : ¬ hi < k.toInt) (ho : offs[(k.toInt - lo).toNat]? = some off) (ht : (pc : Int) + off = (t : Int)) (kk : WA E G ρ V k1 k2 M t lv st) : WA E G ρ V k1 k2 M pc lv (.int x :: st) := by
  subst hx
  intro H locs ls hR hO hl
  exact lv_tableIn hC.1 hC.2.1 hdg h1 h2 ho ht (kk H locs ls hR hO hl)
theorem wa_tsOut (t : Nat) (hC : CX E G cc nL own ret d mc ms) {dflt lo hi : Int} {offs : Array Int} {len : Nat} {x : Int32} (hdg : decode cc pc = .ok (.tableswitch dflt lo hi offs, len)) (h : x.toInt < lo ∨ hi < x.toInt) (ht : (pc : Int) + dflt = (t : Int)) (kk : WA E G ρ V k1 k2 M t lv st) : WA E G ρ V k1 k2 M pc lv (.int x :: st) := by
  intro H locs ls hR hO hl
  exact lv_tableOut hC.1 hC.2.1 hdg h ht (kk H locs ls hR hO hl)
theorem ts_out6 {x : Int32} (c0 : ¬ x = 0) (c1 : ¬ x = 1) (c2 : ¬ x = 2) (c3 : ¬ x = 3) (c4 : ¬ x = 4) (c5 : ¬ x = 5) : x.toInt < 0 ∨ 5 < x.toInt := by
  have h0 := lv_neT c0 (a := 0) rfl
  have h1 := lv_neT c1 (a := 1) rfl
  have h2 := lv_neT c2 (a := 2) rfl
  have h3 := lv_neT c3 (a := 3) rfl
  have h4 := lv_neT c4 (a := 4) rfl
  have h5 := lv_neT c5 (a := 5) rfl
  omega
theorem wa_ring {j : Nat} (q : Nat) (hC : CX E G cc nL own ret d mc ms) {i : Int32} (hV : V 21 0) (hi : inb i 6 = true) (hj : i.toNatClampNeg = j) (hdg : decode cc pc = .ok (.aaload, 1)) (hq : pc + 1 = q)
    (k0 : M.1 21 0 0 j = 0 → WA E G ρ V k1 k2 M q lv (.null :: st)) (k9 : ¬ M.1 21 0 0 j = 0 → V 0 (j + 1) → WA E G ρ V k1 k2 M q lv (.ref (ρ 0 (j + 1)) :: st)) : WA E G ρ V k1 k2 M pc lv (.int i :: .ref (ρ 21 0) :: st) := by
  subst hq
  subst hj
  intro H locs ls hR hO hl
  obtain ⟨hx, hb, hml, hown, hts, hK, -⟩ := hC
  have hP := hR.P hV (show ce (gC G) ρ M 21 0 = .inl (gC G 5, 6, .inr (.inr (.inr (.inr (fun j => if M.1 21 0 0 j = 0 then none else some (ρ 0 (j + 1))))))) from rfl)
  refine va_aldq hx hb hK.1 hP 0 5 rfl rfl (inb_in hi) hdg ?_
  by_cases hz : M.1 21 0 0 i.toNatClampNeg = 0
  · have e : va_rf (if M.1 21 0 0 i.toNatClampNeg = 0 then none else some (ρ 0 (i.toNatClampNeg + 1))) = .null := by rw [if_pos hz]; rfl
    show WE E H locs k1 k2 (F0 (eM E) (pc + 1) ls (va_rf (if M.1 21 0 0 i.toNatClampNeg = 0 then none else some (ρ 0 (i.toNatClampNeg + 1))) :: st))
    rw [e]
    exact k0 hz H locs ls hR hO hl
  · have e : va_rf (if M.1 21 0 0 i.toNatClampNeg = 0 then none else some (ρ 0 (i.toNatClampNeg + 1))) = .ref (ρ 0 (i.toNatClampNeg + 1)) := by rw [if_neg hz]; rfl
    show WE E H locs k1 k2 (F0 (eM E) (pc + 1) ls (va_rf (if M.1 21 0 0 i.toNatClampNeg = 0 then none else some (ρ 0 (i.toNatClampNeg + 1))) :: st))
    rw [e]
    exact k9 hz ((hR.2.2.2.2.1 _ (inb_lt hi)).mp hz) H locs ls hR hO hl
theorem wa_astoreN (q i : Nat) (hC : CX E G cc nL own ret d mc ms) {lv' : List (Nat × Value)} {j : Fin 4} (hdg : decode cc pc = .ok (.astore_n j, 1)) (hi : (j : Nat) = i) (hn : i < nL) (hl9 : (i, Value.null) :: lv.filter (fun q => !(q.1 == i) && !(q.1 + 1 == i && q.2.category == 2)) = lv') (hq : pc + 1 = q) (kk : WA E G ρ V k1 k2 M q lv' st) : WA E G ρ V k1 k2 M pc lv (.null :: st) := by
  subst hq
  intro H locs ls hR hO hl
  exact lv_astore_nN hC.1 hC.2.1 hdg hi hl (by rw [hC.2.2.1]; exact hn) hl9 (fun ls' hl' => kk H locs ls' hR hO hl')
theorem wa_aloadN (q i : Nat) (hC : CX E G cc nL own ret d mc ms) {j : Fin 4} (hdg : decode cc pc = .ok (.aload_n j, 1)) (hi : (j : Nat) = i) (k : Nat) (hk : lv[k]? = some (i, .null)) (hq : pc + 1 = q) (kk : WA E G ρ V k1 k2 M q lv (.null :: st)) : WA E G ρ V k1 k2 M pc lv st := by
  subst hq
  intro H locs ls hR hO hl
  exact lv_aload_nN hC.1 hC.2.1 hdg hi (lv_at hl k hk) (kk H locs ls hR hO hl)
theorem wa_ifnullR (q : Nat) (hC : CX E G cc nL own ret d mc ms) {x : Nat} {off : Int} (hdg : decode cc pc = .ok (.ifnull off, 3)) (hq : pc + 3 = q) (kk : WA E G ρ V k1 k2 M q lv st) : WA E G ρ V k1 k2 M pc lv (.ref x :: st) := by
  subst hq
  intro H locs ls hR hO hl
  exact lv_ifnull hC.1 hC.2.1 hdg (kk H locs ls hR hO hl)
theorem wa_ifnullN (t : Nat) (hC : CX E G cc nL own ret d mc ms) {off : Int} (hdg : decode cc pc = .ok (.ifnull off, 3)) (ht : (pc : Int) + off = (t : Int)) (kk : WA E G ρ V k1 k2 M t lv st) : WA E G ρ V k1 k2 M pc lv (.null :: st) := by
  intro H locs ls hR hO hl
  exact lv_ifnullN hC.1 hC.2.1 hdg ht (kk H locs ls hR hO hl)
theorem wa_ifnonnullR (t : Nat) (hC : CX E G cc nL own ret d mc ms) {x : Nat} {off : Int} (hdg : decode cc pc = .ok (.ifnonnull off, 3)) (ht : (pc : Int) + off = (t : Int)) (kk : WA E G ρ V k1 k2 M t lv st) : WA E G ρ V k1 k2 M pc lv (.ref x :: st) := by
  intro H locs ls hR hO hl
  exact lv_ifnonnull hC.1 hC.2.1 hdg ht (kk H locs ls hR hO hl)
theorem wa_ifnonnullN (q : Nat) (hC : CX E G cc nL own ret d mc ms) {off : Int} (hdg : decode cc pc = .ok (.ifnonnull off, 3)) (hq : pc + 3 = q) (kk : WA E G ρ V k1 k2 M q lv st) : WA E G ρ V k1 k2 M pc lv (.null :: st) := by
  subst hq
  intro H locs ls hR hO hl
  exact lv_ifnonnullN hC.1 hC.2.1 hdg (kk H locs ls hR hO hl)
end
/-- books as they are made -/
def nB (A : sM) (b : Nat) : sM :=
  (fun c k o j =>
    if c = 0 ∧ o = b then 0
    else if c = 4 ∧ o = b then (match k with | 0 => 1000 | 1 => 12 | 2 => 50 | 3 => 100 | 4 => 1 | _ => 0)
    else if c = 18 ∧ o = b then (if j = 0 then 10 else 0)
    else if (c = 19 ∨ c = 22 ∨ c = 23) ∧ o = b then 0
    else if c = 8 ∧ o / 16 = b then (if k = 5 then -1 else 0)
    else if c = 24 ∧ o / 16 = b then 0
    else A.1 c k o j,
   fun c k o j =>
    if c = 0 ∧ o = b then 0
    else if (c = 25 ∨ c = 26) ∧ o / 16 = b then 0
    else A.2 c k o j)
def fX6_keep (A : sM) : Option sM :=
  gd (inb (A.1 6 1 0 0) 6) (
    ltb (if A.1 21 0 0 (A.1 6 1 0 0).toNatClampNeg = 0 then wI (nB A ((A.1 6 1 0 0).toNatClampNeg + 1)) 21 0 0 (A.1 6 1 0 0).toNatClampNeg 1 else A) fun A1 =>
    Option.bind (fX0_copyFrom ((A.1 6 1 0 0).toNatClampNeg + 1) 0 A1) fun A2 =>
    ltb (wI A2 6 1 0 0 ((A2.1 6 1 0 0 + 1) - (A2.1 6 1 0 0 + 1) / 6 * 6)) fun A3 =>
    ltb (wI A3 6 2 0 0 (if (6 : Int32) < A3.1 6 2 0 0 + 1 then 6 else A3.1 6 2 0 0 + 1)) fun A4 =>
    some A4)
def fX6_restore (A : sM) : Option sM :=
  ltb (wI A 6 1 0 0 ((A.1 6 1 0 0 + 6 - 1) - (A.1 6 1 0 0 + 6 - 1) / 6 * 6)) fun A1 =>
  ltb (wI A1 6 2 0 0 (if A1.1 6 2 0 0 - 1 < (0 : Int32) then 0 else A1.1 6 2 0 0 - 1)) fun A2 =>
  gd (inb (A2.1 6 1 0 0) 6) (
    if A2.1 21 0 0 (A2.1 6 1 0 0).toNatClampNeg = 0 then some A2
    else fX0_copyFrom 0 ((A2.1 6 1 0 0).toNatClampNeg + 1) A2)
theorem tX6_restore (l : Launch) {G : gU} {ρ : Nat → Nat → Nat} {V : Nat → Nat → Prop} {Z : sM} (A : sM) (_ : VC V) {A' : sM} (h : fX6_restore A = some A') : MT l yX6_restore cX6_restore 3 none 4 G ρ V [.ref (ρ 6 0), .ref (ρ 0 0)] (J A Z) none (J A' Z) := by
  refine vv_enter (lv := [(0, .ref (ρ 6 0)), (1, .ref (ρ 0 0))]) RX6 rfl (by decide) (Nat.le_of_ble_eq_true rfl) rfl ?_
  intro E hE hC hQ hVC
  subst hE
  rw [fX6_restore] at h
  refine wa_aload_n 1 0 hC dX6_restore_0 rfl 0 rfl rfl ?_
  refine wa_aload_n 2 0 hC dX6_restore_1 rfl 0 rfl rfl ?_
  refine wa_getIc 5 hC (vs6 hVC) sh6_1 rfl flX6_17 dX6_restore_2 rfl ?_
  refine wa_bipush 7 hC dX6_restore_5 kb_6 rfl ?_
  refine wa_iadd 8 hC dX6_restore_7 rfl ?_
  refine wa_iconst 9 hC dX6_restore_8 kc_1 rfl ?_
  refine wa_isub 10 hC dX6_restore_9 rfl ?_
  refine wa_bipush 12 hC dX6_restore_10 kb_6 rfl ?_
  refine wa_irem 13 hC dX6_restore_12 (by decide) rfl ?_
  obtain ⟨A1, e1, h⟩ := ltb_some h
  refine wa_putIc 16 hC (vs6 hVC) nk6 e1 sh6_1 rfl fpX6_17 dX6_restore_13 rfl ?_
  refine wa_aload_n 17 0 hC dX6_restore_16 rfl 0 rfl rfl ?_
  refine wa_aload_n 18 0 hC dX6_restore_17 rfl 0 rfl rfl ?_
  refine wa_getIc 21 hC (vs6 hVC) sh6_2 rfl flX6_26 dX6_restore_18 rfl ?_
  refine wa_iconst 22 hC dX6_restore_21 kc_1 rfl ?_
  refine wa_isub 23 hC dX6_restore_22 rfl ?_
  refine wa_iconst 24 hC dX6_restore_23 kc_0 rfl ?_
  refine wa_mmax 27 hC maX6_35 (by decide) (Nat.le_of_ble_eq_true rfl) dX6_restore_24 rfl le00 ?_
  obtain ⟨A2, e2, h⟩ := ltb_some h
  refine wa_putIc 30 hC (vs6 hVC) nk6 e2 sh6_2 rfl fpX6_26 dX6_restore_27 rfl ?_
  refine wa_aload_n 31 0 hC dX6_restore_30 rfl 0 rfl rfl ?_
  refine wa_getR 34 hC (vs6 hVC) (sr6_0 _) flX6_11 dX6_restore_31 rfl ?_
  refine wa_aload_n 35 0 hC dX6_restore_34 rfl 0 rfl rfl ?_
  refine wa_getIc 38 hC (vs6 hVC) sh6_1 rfl flX6_17 dX6_restore_35 rfl ?_
  obtain ⟨g, h⟩ := gd_some h
  have e21 : (J A2 Z).1 21 = A2.1 21 := J1c rfl
  refine wa_ring 39 hC (vs21 hVC) g rfl dX6_restore_38 rfl (fun hz => ?_) (fun hz hV9 => ?_)
  · rw [e21] at hz
    rw [if_pos hz] at h
    refine wa_astoreN (lv' := [(2, .null), (0, .ref (ρ 6 0)), (1, .ref (ρ 0 0))]) 40 2 hC dX6_restore_39 rfl (by decide) rfl rfl ?_
    refine wa_aloadN 41 2 hC dX6_restore_40 rfl 0 rfl rfl ?_
    refine wa_ifnullN 49 hC dX6_restore_41 rfl ?_
    exact wa_vret hC hQ (jA (sm0 h)) dX6_restore_49
  · rw [e21] at hz
    rw [if_neg hz] at h
    refine wa_astore_n (lv' := [(2, .ref (ρ 0 ((A2.1 6 1 0 0).toNatClampNeg + 1))), (0, .ref (ρ 6 0)), (1, .ref (ρ 0 0))]) 40 2 hC dX6_restore_39 rfl rfl (by decide) rfl rfl ?_
    refine wa_aload_n 41 2 hC dX6_restore_40 rfl 0 rfl rfl ?_
    refine wa_ifnullR 44 hC dX6_restore_41 rfl ?_
    refine wa_aload_n 45 1 hC dX6_restore_44 rfl 2 rfl rfl ?_
    refine wa_aload_n 46 2 hC dX6_restore_45 rfl 0 rfl rfl ?_
    refine wa_callVv 49 hC [.ref (ρ 0 ((A2.1 6 1 0 0).toNatClampNeg + 1))] [] knX0_copyFrom mvX6_22 (tX0_copyFrom E.2.1 0 ((A2.1 6 1 0 0).toNatClampNeg + 1) A2 hVC hVC.2.2.2.2.2.1 hV9 h) hVC.2.2.2.2.2.1 kc0 (Nat.le_of_ble_eq_true rfl) (Nat.le_of_ble_eq_true rfl) rfl (Nat.le_of_ble_eq_true rfl) dX6_restore_46 rfl le00 rfl ?_
    exact wa_vret hC hQ rfl dX6_restore_49
/-- the objects of the books b -/
def nbB (b c o : Nat) : Bool := match c with
  | 0 => o == b
  | 4 => o == b
  | 7 => o == b
  | 11 => o == b
  | 18 => o == b
  | 19 => o == b
  | 22 => o == b
  | 23 => o == b
  | 8 => o / 16 == b
  | 24 => o / 16 == b
  | 25 => o / 16 == b
  | 26 => o / 16 == b
  | _ => false
def adB (h a7 a5 a6 a4 a2 a3 a1 : Nat) (hs : Nat → Nat × Nat × Nat × Nat) (c o : Nat) : Nat := match c with
  | 0 => h
  | 4 => a1
  | 7 => a4
  | 11 => a7
  | 18 => a3
  | 19 => a2
  | 22 => a6
  | 23 => a5
  | 8 => (hs (o % 16)).1
  | 24 => (hs (o % 16)).2.1
  | 25 => (hs (o % 16)).2.2.1
  | 26 => (hs (o % 16)).2.2.2
  | _ => 0
def ixB (c o : Nat) : Nat := match c with
  | 11 => 0
  | 23 => 1
  | 22 => 2
  | 7 => 3
  | 19 => 4
  | 18 => 5
  | 4 => 6
  | 0 => 7
  | 26 => 8 + (4 * (15 - o % 16) + 0)
  | 25 => 8 + (4 * (15 - o % 16) + 1)
  | 24 => 8 + (4 * (15 - o % 16) + 2)
  | _ => 8 + (4 * (15 - o % 16) + 3)
def rN (ad ρ : Nat → Nat → Nat) (b : Nat) : Nat → Nat → Nat := fun c o => jn (nbB b c o) (ad c o) (ρ c o)
theorem rN_t {ad ρ : Nat → Nat → Nat} {b c o : Nat} (h : nbB b c o = true) : rN ad ρ b c o = ad c o := by rw [rN, h]; rfl
theorem rN_f {ad ρ : Nat → Nat → Nat} {b c o : Nat} (h : nbB b c o = false) : rN ad ρ b c o = ρ c o := by rw [rN, h]; rfl
theorem nbB_cases {b c o : Nat} (h : nbB b c o = true) : ((c = 0 ∨ c = 4 ∨ c = 7 ∨ c = 11 ∨ c = 18 ∨ c = 19 ∨ c = 22 ∨ c = 23) ∧ o = b) ∨ ((c = 8 ∨ c = 24 ∨ c = 25 ∨ c = 26) ∧ o / 16 = b) := by
  unfold nbB at h
  split at h
  all_goals first
    | (have h2 := eq_of_beq h; omega)
    | cases h
theorem ixB_inj {b c o c' o' : Nat} (h : nbB b c o = true) (h' : nbB b c' o' = true) (e : ixB c o = ixB c' o') : c = c' ∧ o = o' := by
  rcases nbB_cases h with ⟨h1, h2⟩ | ⟨h1, h2⟩ <;> rcases nbB_cases h' with ⟨h3, h4⟩ | ⟨h3, h4⟩
  · rcases h1 with h1 | h1 | h1 | h1 | h1 | h1 | h1 | h1 <;> subst h1 <;> rcases h3 with h3 | h3 | h3 | h3 | h3 | h3 | h3 | h3 <;> subst h3 <;> simp only [ixB] at e <;> omega
  · rcases h1 with h1 | h1 | h1 | h1 | h1 | h1 | h1 | h1 <;> subst h1 <;> rcases h3 with h3 | h3 | h3 | h3 <;> subst h3 <;> simp only [ixB] at e <;> omega
  · rcases h1 with h1 | h1 | h1 | h1 <;> subst h1 <;> rcases h3 with h3 | h3 | h3 | h3 | h3 | h3 | h3 | h3 <;> subst h3 <;> simp only [ixB] at e <;> omega
  · rcases h1 with h1 | h1 | h1 | h1 <;> subst h1 <;> rcases h3 with h3 | h3 | h3 | h3 <;> subst h3 <;> simp only [ixB] at e <;> omega
theorem subsW_get (G : gU) (hs : Nat → Nat × Nat × Nat × Nat) (t : Nat) (ht : t < 4) : ∀ n j, j < n → (subsW G hs n)[4 * (n - 1 - j) + t]? = (sub4 G (hs j))[t]? := by
  intro n
  induction n with
  | zero => intro j hj; omega
  | succ n ih =>
    intro j hj
    rw [subsW]
    by_cases hn : j = n
    · subst hn
      rw [List.getElem?_append_left (by simp only [sub4, List.length_cons, List.length_nil]; omega)]
      congr 1
      omega
    · rw [List.getElem?_append_right (by simp only [sub4, List.length_cons, List.length_nil]; omega), ← ih j (by omega)]
      congr 1
      simp only [sub4, List.length_cons, List.length_nil]
      omega
abbrev wsB (G : gU) (h a7 a5 a6 a4 a2 a3 a1 : Nat) (hs : Nat → Nat × Nat × Nat × Nat) : va_W := (a7, arrS G hs 16) :: (a5, .inl (gC G 0, 240, .inl (fun _ => 0))) :: (a6, .inl (gC G 0, 240, .inl (fun _ => 0))) :: (a4, .inr (7, [.ref a6, .ref a5])) :: (a2, .inl (gC G 0, 24, .inl (fun _ => 0))) :: (a3, .inl (gC G 0, 4, .inl (upd (upd (upd (upd (fun _ => 0) (0 : Int32).toNatClampNeg (10 : Int32)) (1 : Int32).toNatClampNeg (0 : Int32)) (2 : Int32).toNatClampNeg (0 : Int32)) (3 : Int32).toNatClampNeg (0 : Int32)))) :: (a1, .inr (4, [.int (1000 : Int32), .int (12 : Int32), .int (50 : Int32), .int (100 : Int32), .int (1 : Int32), .ref a3, .ref a2])) :: (h, .inr (0, [.ref a1, .ref a4, .ref a7, .int 0, .int 0, .int 0, .long 0, .long 0])) :: (subsW G hs 16 ++ [])
theorem upd10 : upd (upd (upd (upd (fun _ => 0) (0 : Int32).toNatClampNeg (10 : Int32)) (1 : Int32).toNatClampNeg (0 : Int32)) (2 : Int32).toNatClampNeg (0 : Int32)) (3 : Int32).toNatClampNeg (0 : Int32) = fun j => if j = 0 then (10 : Int32) else 0 := by
  have e0 : (0 : Int32).toNatClampNeg = 0 := by decide
  have e1 : (1 : Int32).toNatClampNeg = 1 := by decide
  have e2 : (2 : Int32).toNatClampNeg = 2 := by decide
  have e3 : (3 : Int32).toNatClampNeg = 3 := by decide
  rw [e0, e1, e2, e3]
  funext j
  simp only [upd]
  by_cases h3 : j = 3
  · subst h3; rfl
  · by_cases h2 : j = 2
    · subst h2; rfl
    · by_cases h1 : j = 1
      · subst h1; rfl
      · by_cases h0 : j = 0
        · subst h0; rfl
        · simp [h0, h1, h2, h3]
theorem arrV_cg {cA : ClassId} {n : Nat} {f g : Nat → Value} (e : ∀ j, j < n → f j = g j) : arrV cA n f = arrV cA n g := by
  have h : (fun j : Fin n => f j.val) = fun j : Fin n => g j.val := funext fun j => e j.val j.isLt
  unfold arrV
  rw [h]
theorem va_at.arrq {D : va_G} {cl : List vw_C} {q n : Nat} {cA : ClassId} {f g : Nat → Option Nat} {H : Heap} (h : va_at D cl (q, .inl (cA, n, .inr (.inr (.inr (.inr f))))) H) (e : ∀ j, j < n → f j = g j) : va_at D cl (q, .inl (cA, n, .inr (.inr (.inr (.inr g))))) H := by
  have h2 : H[q]? = some (vp_cell cA (n, .inr (.inr (.inr (.inr f))))) := h
  show H[q]? = some (vp_cell cA (n, .inr (.inr (.inr (.inr g)))))
  rw [h2, vp_cell_q, vp_cell_q]
  exact congrArg some (arrV_cg (fun j hj => by rw [e j hj]))
/-- the objects that were there hold what they held -/
theorem ce_books {D : va_G} {cl : List vw_C} {cy : Nat → ClassId} {ρ ad : Nat → Nat → Nat} {M : sM} {b j9 q : Nat} {v9 : Int32} {H : Heap} (hb : 1 ≤ b ∧ b ≤ 6) (c o : Nat) (hn : nbB b c o = false) (hc : ¬ c = 21) (h : va_at D cl (q, ce cy ρ M c o) H) : va_at D cl (q, ce cy (rN ad ρ b) (wI (nB M b) 21 0 0 j9 v9) c o) H := by
  have k0 : ∀ c', nbB b c' o = true → ¬ c = c' := fun c' h1 h2 => by subst h2; rw [hn] at h1; cases h1
  have e1 : (fun k j => (wI (nB M b) 21 0 0 j9 v9).1 c k o j) = fun k j => M.1 c k o j := by
    funext k j
    simp only [wI]
    rw [if_neg (fun z => hc z.1)]
    simp only [nB]
    rw [if_neg (fun z => k0 0 (by rw [z.2]; exact beq_self_eq_true b) z.1), if_neg (fun z => k0 4 (by rw [z.2]; exact beq_self_eq_true b) z.1), if_neg (fun z => k0 18 (by rw [z.2]; exact beq_self_eq_true b) z.1), if_neg, if_neg (fun z => k0 8 (by show (o / 16 == b) = true; rw [z.2]; exact beq_self_eq_true b) z.1), if_neg (fun z => k0 24 (by show (o / 16 == b) = true; rw [z.2]; exact beq_self_eq_true b) z.1)]
    rintro ⟨z | z | z, z2⟩
    · exact k0 19 (by rw [z2]; exact beq_self_eq_true b) z
    · exact k0 22 (by rw [z2]; exact beq_self_eq_true b) z
    · exact k0 23 (by rw [z2]; exact beq_self_eq_true b) z
  have e2 : (fun k j => (wI (nB M b) 21 0 0 j9 v9).2 c k o j) = fun k j => M.2 c k o j := by
    funext k j
    simp only [wI, nB]
    rw [if_neg (fun z => k0 0 (by rw [z.2]; exact beq_self_eq_true b) z.1), if_neg]
    rintro ⟨z | z, z2⟩
    · exact k0 25 (by show (o / 16 == b) = true; rw [z2]; exact beq_self_eq_true b) z
    · exact k0 26 (by show (o / 16 == b) = true; rw [z2]; exact beq_self_eq_true b) z
  rw [ce, e1, e2]
  rw [ce] at h
  have ob : nbB b 0 o = false → ¬ o = b := fun z z2 => by subst z2; exact absurd z (by show ¬ (o == o) = false; simp)
  have r1 : ∀ c', nbB b c' o = false → rN ad ρ b c' o = ρ c' o := fun c' z => rN_f z
  match c, hn, hc, h with
  | 0, hn, _, h =>
    simp only [ce0, r1 4 hn, r1 7 hn, r1 11 hn]
    exact h
  | 1, hn, _, h => exact h
  | 2, hn, _, h => exact h
  | 3, hn, _, h => exact h
  | 4, hn, _, h =>
    simp only [ce0, r1 18 hn, r1 19 hn]
    exact h
  | 5, hn, _, h =>
    have z : nbB b 4 7 = false := by show (7 == b) = false; simp; omega
    simp only [ce0, rN_f z]
    exact h
  | 6, hn, _, h => exact h
  | 7, hn, _, h =>
    simp only [ce0, r1 22 hn, r1 23 hn]
    exact h
  | 8, hn, _, h =>
    simp only [ce0, r1 24 hn, r1 25 hn, r1 26 hn]
    exact h
  | 9, hn, _, h =>
    have z : nbB b 0 0 = false := by show (0 == b) = false; simp; omega
    have z2 : nbB b 8 112 = false := by show (112 / 16 == b) = false; simp; omega
    simp only [ce0, rN_f z, rN_f z2]
    exact h
  | 10, hn, _, h => exact h
  | 11, hn, _, h =>
    refine va_at.arrq h (fun j hj => ?_)
    have z : ¬ o = b := by intro z; subst z; exact absurd hn (by show ¬ (o == o) = false; simp)
    have z2 : nbB b 8 (16 * o + j) = false := by show ((16 * o + j) / 16 == b) = false; simp; omega
    rw [rN_f z2]
  | 12, hn, _, h => exact h
  | 13, hn, _, h => exact h
  | 14, hn, _, h => exact h
  | 15, hn, _, h => exact h
  | 16, hn, _, h => exact h
  | 17, hn, _, h => exact h
  | 18, hn, _, h => exact h
  | 19, hn, _, h => exact h
  | 20, hn, _, h => exact h
  | 22, hn, _, h => exact h
  | 23, hn, _, h => exact h
  | 24, hn, _, h => exact h
  | 25, hn, _, h => exact h
  | 26, hn, _, h => exact h
  | 27, hn, _, h => exact h
  | 28, hn, _, h => exact h
  | 29, hn, _, h => exact h
  | 30, hn, _, h => exact h
  | 31, hn, _, h => exact h
  | 32, hn, _, h => exact h
  | 33, hn, _, h => exact h
  | 34, hn, _, h => exact h
  | 35, hn, _, h => exact h
  | 36, hn, _, h => exact h
  | 37, hn, _, h => exact h
  | 38, hn, _, h => exact h
  | 39, hn, _, h => exact h
  | 40, hn, _, h => exact h
  | 41, hn, _, h => exact h
  | 21, hn, hc, h => exact absurd rfl hc
  | n + 42, hn, _, h => exact h

theorem tX6_keep (l : Launch) {G : gU} {ρ : Nat → Nat → Nat} {V : Nat → Nat → Prop} {Z : sM} (A : sM) (_ : VC V) {A' : sM} (h : fX6_keep A = some A') : MK l yX6_keep cX6_keep 3 6 72 2909 G ρ V [.ref (ρ 6 0), .ref (ρ 0 0)] (J A Z) (J A' Z) := sorry

theorem wx_throwN {E : eU} {G : gU} {ρ ρ0 : Nat → Nat → Nat} {V V0 : Nat → Nat → Prop} {k1 k2 : Nat} {M M' : sM} {pc nL d mc ms : Nat} {lv : List (Nat × Value)} {st : List Value} {cc : ByteArray} {ret : Option FieldType} {ix n9 is : Nat} (hC : CX E G cc nL RX9 ret d mc ms) (hl9 : E.2.1.stackTraces = false) (hT9 : NoT E) {ov : Nat ⊕ Option Value} (hQ : QXX E G ρ0 V0 ov M' mc ms) (hE : Ext ρ0 V0 ρ V) (hv : ov = .inl n9) (hM : M = M') (_ : True) (hx9 : XN n9 = "java/util/NoSuchElementException") (hi : ix < nSt) (ho : sOwn ix = RX9) (hix : sIdx ix = is) (hd : 8 ≤ d) (hk : k1 + 1 ≤ mc ∧ k2 + 6 ≤ ms) (hst : (st.map fun v => v.category).sum ≤ 8)
    (d0 : decode cc pc = .ok (.new 316, 3)) (d3 : decode cc (pc + 3) = .ok (.dup, 1)) (d4 : decode cc (pc + 4) = .ok (.ldc_w is, 3)) (d6 : decode cc (pc + 7) = .ok (.invokespecial 320, 3)) (d9 : decode cc (pc + 10) = .ok (.athrow, 1)) : WA E G ρ V k1 k2 M pc lv st := sorry
