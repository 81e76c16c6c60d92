def rI (r : Nat ⊕ Int32) : Nat ⊕ Option Value := match r with
  | .inl e => .inl e
  | .inr v => .inr (some (.int v))
def rL (r : Nat ⊕ Int64) : Nat ⊕ Option Value := match r with
  | .inl e => .inl e
  | .inr v => .inr (some (.long v))
def rU (r : Nat ⊕ Unit) : Nat ⊕ Option Value := match r with
  | .inl e => .inl e
  | .inr _ => .inr none
theorem xI {v : Int32} {A A' : sM} {r : Nat ⊕ Int32} (h : some (Sum.inr v, A) = some (r, A')) : rI r = .inr (some (.int v)) := by rw [← sm1 h]; rfl
theorem xL {v : Int64} {A A' : sM} {r : Nat ⊕ Int64} (h : some (Sum.inr v, A) = some (r, A')) : rL r = .inr (some (.long v)) := by rw [← sm1 h]; rfl
theorem xU {A A' : sM} {r : Nat ⊕ Unit} (h : some (Sum.inr (), A) = some (r, A')) : rU r = .inr none := by rw [← sm1 h]; rfl
theorem xTI {n : Nat} {A A' : sM} {r : Nat ⊕ Int32} (h : some (Sum.inl n, A) = some (r, A')) : rI r = .inl n := by rw [← sm1 h]; rfl
theorem xTL {n : Nat} {A A' : sM} {r : Nat ⊕ Int64} (h : some (Sum.inl n, A) = some (r, A')) : rL r = .inl n := by rw [← sm1 h]; rfl
theorem xTU {n : Nat} {A A' : sM} {r : Nat ⊕ Unit} (h : some (Sum.inl n, A) = some (r, A')) : rU r = .inl n := by rw [← sm1 h]; rfl
section
variable {E : eU} {G : gU} {ρ ρ0 : Nat → Nat → Nat} {V V0 : Nat → Nat → Prop} {k1 k2 : Nat} {M M' : sM} {pc nL d mc ms : Nat} {lv lv' : List (Nat × Value)} {st st' : List Value} {cc : ByteArray} {own : String} {ret : Option FieldType}
theorem wa_tsIn (t : Nat) (hC : CX E G cc nL own ret d mc ms) {dflt lo hi : Int} {offs : Array Int} {len : Nat} {x k : Int32} {off : Int} (hdg : decode cc pc = .ok (.tableswitch dflt lo hi offs, len)) (hx : x = k) (h1 : ¬ k.toInt < lo) (h2 : ¬ hi < k.toInt) (ho : offs[(k.toInt - lo).toNat]? = some off) (ht : (pc : Int) + off = (t : Int)) (kk : WA E G ρ V k1 k2 M t lv st) : WA E G ρ V k1 k2 M pc lv (.int x :: st) := by
  subst hx
  intro H locs ls hR hO hl
  exact lv_tableIn hC.1 hC.2.1 hdg h1 h2 ho ht (kk H locs ls hR hO hl)
theorem wa_tsOut (t : Nat) (hC : CX E G cc nL own ret d mc ms) {dflt lo hi : Int} {offs : Array Int} {len : Nat} {x : Int32} (hdg : decode cc pc = .ok (.tableswitch dflt lo hi offs, len)) (h : x.toInt < lo ∨ hi < x.toInt) (ht : (pc : Int) + dflt = (t : Int)) (kk : WA E G ρ V k1 k2 M t lv st) : WA E G ρ V k1 k2 M pc lv (.int x :: st) := by
  intro H locs ls hR hO hl
  exact lv_tableOut hC.1 hC.2.1 hdg h ht (kk H locs ls hR hO hl)
theorem ts_out6 {x : Int32} (c0 : ¬ x = 0) (c1 : ¬ x = 1) (c2 : ¬ x = 2) (c3 : ¬ x = 3) (c4 : ¬ x = 4) (c5 : ¬ x = 5) : x.toInt < 0 ∨ 5 < x.toInt := by
  have h0 := lv_neT c0 (a := 0) rfl
  have h1 := lv_neT c1 (a := 1) rfl
  have h2 := lv_neT c2 (a := 2) rfl
  have h3 := lv_neT c3 (a := 3) rfl
  have h4 := lv_neT c4 (a := 4) rfl
  have h5 := lv_neT c5 (a := 5) rfl
  omega
theorem wa_ring {j : Nat} (q : Nat) (hC : CX E G cc nL own ret d mc ms) {i : Int32} (hV : V 21 0) (hi : inb i 6 = true) (hj : i.toNatClampNeg = j) (hdg : decode cc pc = .ok (.aaload, 1)) (hq : pc + 1 = q)
    (k0 : M.1 21 0 0 j = 0 → WA E G ρ V k1 k2 M q lv (.null :: st)) (k9 : ¬ M.1 21 0 0 j = 0 → V 0 (j + 1) → WA E G ρ V k1 k2 M q lv (.ref (ρ 0 (j + 1)) :: st)) : WA E G ρ V k1 k2 M pc lv (.int i :: .ref (ρ 21 0) :: st) := by
  subst hq
  subst hj
  intro H locs ls hR hO hl
  obtain ⟨hx, hb, hml, hown, hts, hK, -⟩ := hC
  have hP := hR.P hV (show ce (gC G) ρ M 21 0 = .inl (gC G 5, 6, .inr (.inr (.inr (.inr (fun j => if M.1 21 0 0 j = 0 then none else some (ρ 0 (j + 1))))))) from rfl)
  refine va_aldq hx hb hK.1 hP 0 5 rfl rfl (inb_in hi) hdg ?_
  by_cases hz : M.1 21 0 0 i.toNatClampNeg = 0
  · have e : va_rf (if M.1 21 0 0 i.toNatClampNeg = 0 then none else some (ρ 0 (i.toNatClampNeg + 1))) = .null := by rw [if_pos hz]; rfl
    show WE E H locs k1 k2 (F0 (eM E) (pc + 1) ls (va_rf (if M.1 21 0 0 i.toNatClampNeg = 0 then none else some (ρ 0 (i.toNatClampNeg + 1))) :: st))
    rw [e]
    exact k0 hz H locs ls hR hO hl
  · have e : va_rf (if M.1 21 0 0 i.toNatClampNeg = 0 then none else some (ρ 0 (i.toNatClampNeg + 1))) = .ref (ρ 0 (i.toNatClampNeg + 1)) := by rw [if_neg hz]; rfl
    show WE E H locs k1 k2 (F0 (eM E) (pc + 1) ls (va_rf (if M.1 21 0 0 i.toNatClampNeg = 0 then none else some (ρ 0 (i.toNatClampNeg + 1))) :: st))
    rw [e]
    exact k9 hz ((hR.2.2.2.2.1 _ (inb_lt hi)).mp hz) H locs ls hR hO hl
theorem wa_astoreN (q i : Nat) (hC : CX E G cc nL own ret d mc ms) {lv' : List (Nat × Value)} {j : Fin 4} (hdg : decode cc pc = .ok (.astore_n j, 1)) (hi : (j : Nat) = i) (hn : i < nL) (hl9 : (i, Value.null) :: lv.filter (fun q => !(q.1 == i) && !(q.1 + 1 == i && q.2.category == 2)) = lv') (hq : pc + 1 = q) (kk : WA E G ρ V k1 k2 M q lv' st) : WA E G ρ V k1 k2 M pc lv (.null :: st) := by
  subst hq
  intro H locs ls hR hO hl
  exact lv_astore_nN hC.1 hC.2.1 hdg hi hl (by rw [hC.2.2.1]; exact hn) hl9 (fun ls' hl' => kk H locs ls' hR hO hl')
theorem wa_aloadN (q i : Nat) (hC : CX E G cc nL own ret d mc ms) {j : Fin 4} (hdg : decode cc pc = .ok (.aload_n j, 1)) (hi : (j : Nat) = i) (k : Nat) (hk : lv[k]? = some (i, .null)) (hq : pc + 1 = q) (kk : WA E G ρ V k1 k2 M q lv (.null :: st)) : WA E G ρ V k1 k2 M pc lv st := by
  subst hq
  intro H locs ls hR hO hl
  exact lv_aload_nN hC.1 hC.2.1 hdg hi (lv_at hl k hk) (kk H locs ls hR hO hl)
theorem wa_ifnullR (q : Nat) (hC : CX E G cc nL own ret d mc ms) {x : Nat} {off : Int} (hdg : decode cc pc = .ok (.ifnull off, 3)) (hq : pc + 3 = q) (kk : WA E G ρ V k1 k2 M q lv st) : WA E G ρ V k1 k2 M pc lv (.ref x :: st) := by
  subst hq
  intro H locs ls hR hO hl
  exact lv_ifnull hC.1 hC.2.1 hdg (kk H locs ls hR hO hl)
theorem wa_ifnullN (t : Nat) (hC : CX E G cc nL own ret d mc ms) {off : Int} (hdg : decode cc pc = .ok (.ifnull off, 3)) (ht : (pc : Int) + off = (t : Int)) (kk : WA E G ρ V k1 k2 M t lv st) : WA E G ρ V k1 k2 M pc lv (.null :: st) := by
  intro H locs ls hR hO hl
  exact lv_ifnullN hC.1 hC.2.1 hdg ht (kk H locs ls hR hO hl)
theorem wa_ifnonnullR (t : Nat) (hC : CX E G cc nL own ret d mc ms) {x : Nat} {off : Int} (hdg : decode cc pc = .ok (.ifnonnull off, 3)) (ht : (pc : Int) + off = (t : Int)) (kk : WA E G ρ V k1 k2 M t lv st) : WA E G ρ V k1 k2 M pc lv (.ref x :: st) := by
  intro H locs ls hR hO hl
  exact lv_ifnonnull hC.1 hC.2.1 hdg ht (kk H locs ls hR hO hl)
theorem wa_ifnonnullN (q : Nat) (hC : CX E G cc nL own ret d mc ms) {off : Int} (hdg : decode cc pc = .ok (.ifnonnull off, 3)) (hq : pc + 3 = q) (kk : WA E G ρ V k1 k2 M q lv st) : WA E G ρ V k1 k2 M pc lv (.null :: st) := by
  subst hq
  intro H locs ls hR hO hl
  exact lv_ifnonnullN hC.1 hC.2.1 hdg (kk H locs ls hR hO hl)
end
theorem tX6_restore (l : Launch) {G : gU} {ρ : Nat → Nat → Nat} {V : Nat → Nat → Prop} {Z : sM} (A : sM) (_ : VC V) {A' : sM} (h : fX6_restore A = some A') : MT l yX6_restore cX6_restore 3 none 4 G ρ V [.ref (ρ 6 0), .ref (ρ 0 0)] (J A Z) none (J A' Z) := by
  refine vv_enter (lv := [(0, .ref (ρ 6 0)), (1, .ref (ρ 0 0))]) RX6 rfl (by decide) (Nat.le_of_ble_eq_true rfl) rfl ?_
  intro E hE hC hQ hVC
  subst hE
  rw [fX6_restore] at h
  refine wa_aload_n 1 0 hC dX6_restore_0 rfl 0 rfl rfl ?_
  refine wa_aload_n 2 0 hC dX6_restore_1 rfl 0 rfl rfl ?_
  refine wa_getIc 5 hC (vs6 hVC) sh6_1 rfl flX6_17 dX6_restore_2 rfl ?_
  refine wa_bipush 7 hC dX6_restore_5 kb_6 rfl ?_
  refine wa_iadd 8 hC dX6_restore_7 rfl ?_
  refine wa_iconst 9 hC dX6_restore_8 kc_1 rfl ?_
  refine wa_isub 10 hC dX6_restore_9 rfl ?_
  refine wa_bipush 12 hC dX6_restore_10 kb_6 rfl ?_
  refine wa_irem 13 hC dX6_restore_12 (by decide) rfl ?_
  obtain ⟨A1, e1, h⟩ := ltb_some h
  refine wa_putIc 16 hC (vs6 hVC) nk6 e1 sh6_1 rfl fpX6_17 dX6_restore_13 rfl ?_
  refine wa_aload_n 17 0 hC dX6_restore_16 rfl 0 rfl rfl ?_
  refine wa_aload_n 18 0 hC dX6_restore_17 rfl 0 rfl rfl ?_
  refine wa_getIc 21 hC (vs6 hVC) sh6_2 rfl flX6_26 dX6_restore_18 rfl ?_
  refine wa_iconst 22 hC dX6_restore_21 kc_1 rfl ?_
  refine wa_isub 23 hC dX6_restore_22 rfl ?_
  refine wa_iconst 24 hC dX6_restore_23 kc_0 rfl ?_
  refine wa_mmax 27 hC maX6_35 (by decide) (Nat.le_of_ble_eq_true rfl) dX6_restore_24 rfl le00 ?_
  obtain ⟨A2, e2, h⟩ := ltb_some h
  refine wa_putIc 30 hC (vs6 hVC) nk6 e2 sh6_2 rfl fpX6_26 dX6_restore_27 rfl ?_
  refine wa_aload_n 31 0 hC dX6_restore_30 rfl 0 rfl rfl ?_
  refine wa_getR 34 hC (vs6 hVC) (sr6_0 _) flX6_11 dX6_restore_31 rfl ?_
  refine wa_aload_n 35 0 hC dX6_restore_34 rfl 0 rfl rfl ?_
  refine wa_getIc 38 hC (vs6 hVC) sh6_1 rfl flX6_17 dX6_restore_35 rfl ?_
  obtain ⟨g, h⟩ := gd_some h
  have e21 : (J A2 Z).1 21 = A2.1 21 := J1c rfl
  refine wa_ring 39 hC (vs21 hVC) g rfl dX6_restore_38 rfl (fun hz => ?_) (fun hz hV9 => ?_)
  · rw [e21] at hz
    rw [if_pos hz] at h
    refine wa_astoreN (lv' := [(2, .null), (0, .ref (ρ 6 0)), (1, .ref (ρ 0 0))]) 40 2 hC dX6_restore_39 rfl (by decide) rfl rfl ?_
    refine wa_aloadN 41 2 hC dX6_restore_40 rfl 0 rfl rfl ?_
    refine wa_ifnullN 49 hC dX6_restore_41 rfl ?_
    exact wa_vret hC hQ (jA (sm0 h)) dX6_restore_49
  · rw [e21] at hz
    rw [if_neg hz] at h
    refine wa_astore_n (lv' := [(2, .ref (ρ 0 ((A2.1 6 1 0 0).toNatClampNeg + 1))), (0, .ref (ρ 6 0)), (1, .ref (ρ 0 0))]) 40 2 hC dX6_restore_39 rfl rfl (by decide) rfl rfl ?_
    refine wa_aload_n 41 2 hC dX6_restore_40 rfl 0 rfl rfl ?_
    refine wa_ifnullR 44 hC dX6_restore_41 rfl ?_
    refine wa_aload_n 45 1 hC dX6_restore_44 rfl 2 rfl rfl ?_
    refine wa_aload_n 46 2 hC dX6_restore_45 rfl 0 rfl rfl ?_
    refine wa_callVv 49 hC [.ref (ρ 0 ((A2.1 6 1 0 0).toNatClampNeg + 1))] [] knX0_copyFrom mvX6_22 (tX0_copyFrom E.2.1 0 ((A2.1 6 1 0 0).toNatClampNeg + 1) A2 hVC hVC.2.2.2.2.2.1 hV9 h) hVC.2.2.2.2.2.1 kc0 (Nat.le_of_ble_eq_true rfl) (Nat.le_of_ble_eq_true rfl) rfl (Nat.le_of_ble_eq_true rfl) dX6_restore_46 rfl le00 rfl ?_
    exact wa_vret hC hQ rfl dX6_restore_49
/-- the objects of the books b -/
def nbB (b c o : Nat) : Bool := match c with
  | 0 => o == b
  | 4 => o == b
  | 7 => o == b
  | 11 => o == b
  | 18 => o == b
  | 19 => o == b
  | 22 => o == b
  | 23 => o == b
  | 8 => o / 16 == b
  | 24 => o / 16 == b
  | 25 => o / 16 == b
  | 26 => o / 16 == b
  | _ => false
def adB (h a7 a5 a6 a4 a2 a3 a1 : Nat) (hs : Nat → Nat × Nat × Nat × Nat) (c o : Nat) : Nat := match c with
  | 0 => h
  | 4 => a1
  | 7 => a4
  | 11 => a7
  | 18 => a3
  | 19 => a2
  | 22 => a6
  | 23 => a5
  | 8 => (hs (o % 16)).1
  | 24 => (hs (o % 16)).2.1
  | 25 => (hs (o % 16)).2.2.1
  | 26 => (hs (o % 16)).2.2.2
  | _ => 0
def ixB (c o : Nat) : Nat := match c with
  | 11 => 0
  | 23 => 1
  | 22 => 2
  | 7 => 3
  | 19 => 4
  | 18 => 5
  | 4 => 6
  | 0 => 7
  | 26 => 8 + (4 * (15 - o % 16) + 0)
  | 25 => 8 + (4 * (15 - o % 16) + 1)
  | 24 => 8 + (4 * (15 - o % 16) + 2)
  | _ => 8 + (4 * (15 - o % 16) + 3)
def rN (ad ρ : Nat → Nat → Nat) (b : Nat) : Nat → Nat → Nat := fun c o => jn (nbB b c o) (ad c o) (ρ c o)
theorem rN_t {ad ρ : Nat → Nat → Nat} {b c o : Nat} (h : nbB b c o = true) : rN ad ρ b c o = ad c o := by rw [rN, h]; rfl
theorem rN_f {ad ρ : Nat → Nat → Nat} {b c o : Nat} (h : nbB b c o = false) : rN ad ρ b c o = ρ c o := by rw [rN, h]; rfl
theorem nbB_cases {b c o : Nat} (h : nbB b c o = true) : ((c = 0 ∨ c = 4 ∨ c = 7 ∨ c = 11 ∨ c = 18 ∨ c = 19 ∨ c = 22 ∨ c = 23) ∧ o = b) ∨ ((c = 8 ∨ c = 24 ∨ c = 25 ∨ c = 26) ∧ o / 16 = b) := by
  unfold nbB at h
  split at h
  all_goals first
    | (have h2 := eq_of_beq h; omega)
    | cases h
theorem ixB_inj {b c o c' o' : Nat} (h : nbB b c o = true) (h' : nbB b c' o' = true) (e : ixB c o = ixB c' o') : c = c' ∧ o = o' := by
  rcases nbB_cases h with ⟨h1, h2⟩ | ⟨h1, h2⟩ <;> rcases nbB_cases h' with ⟨h3, h4⟩ | ⟨h3, h4⟩
  · rcases h1 with h1 | h1 | h1 | h1 | h1 | h1 | h1 | h1 <;> subst h1 <;> rcases h3 with h3 | h3 | h3 | h3 | h3 | h3 | h3 | h3 <;> subst h3 <;> simp only [ixB] at e <;> omega
  · rcases h1 with h1 | h1 | h1 | h1 | h1 | h1 | h1 | h1 <;> subst h1 <;> rcases h3 with h3 | h3 | h3 | h3 <;> subst h3 <;> simp only [ixB] at e <;> omega
  · rcases h1 with h1 | h1 | h1 | h1 <;> subst h1 <;> rcases h3 with h3 | h3 | h3 | h3 | h3 | h3 | h3 | h3 <;> subst h3 <;> simp only [ixB] at e <;> omega
  · rcases h1 with h1 | h1 | h1 | h1 <;> subst h1 <;> rcases h3 with h3 | h3 | h3 | h3 <;> subst h3 <;> simp only [ixB] at e <;> omega
theorem subsW_get (G : gU) (hs : Nat → Nat × Nat × Nat × Nat) (t : Nat) (ht : t < 4) : ∀ n j, j < n → (subsW G hs n)[4 * (n - 1 - j) + t]? = (sub4 G (hs j))[t]? := by
  intro n
  induction n with
  | zero => intro j hj; omega
  | succ n ih =>
    intro j hj
    rw [subsW]
    by_cases hn : j = n
    · subst hn
      rw [List.getElem?_append_left (by simp only [sub4, List.length_cons, List.length_nil]; omega)]
      congr 1
      omega
    · rw [List.getElem?_append_right (by simp only [sub4, List.length_cons, List.length_nil]; omega), ← ih j (by omega)]
      congr 1
      simp only [sub4, List.length_cons, List.length_nil]
      omega
abbrev wsB (G : gU) (h a7 a5 a6 a4 a2 a3 a1 : Nat) (hs : Nat → Nat × Nat × Nat × Nat) : va_W := (a7, arrS G hs 16) :: (a5, .inl (gC G 0, 240, .inl (fun _ => 0))) :: (a6, .inl (gC G 0, 240, .inl (fun _ => 0))) :: (a4, .inr (7, [.ref a6, .ref a5])) :: (a2, .inl (gC G 0, 24, .inl (fun _ => 0))) :: (a3, .inl (gC G 0, 4, .inl (upd (upd (upd (upd (fun _ => 0) (0 : Int32).toNatClampNeg (10 : Int32)) (1 : Int32).toNatClampNeg (0 : Int32)) (2 : Int32).toNatClampNeg (0 : Int32)) (3 : Int32).toNatClampNeg (0 : Int32)))) :: (a1, .inr (4, [.int (1000 : Int32), .int (12 : Int32), .int (50 : Int32), .int (100 : Int32), .int (1 : Int32), .ref a3, .ref a2])) :: (h, .inr (0, [.ref a1, .ref a4, .ref a7, .int 0, .int 0, .int 0, .long 0, .long 0])) :: (subsW G hs 16 ++ [])
theorem upd10 : upd (upd (upd (upd (fun _ => 0) (0 : Int32).toNatClampNeg (10 : Int32)) (1 : Int32).toNatClampNeg (0 : Int32)) (2 : Int32).toNatClampNeg (0 : Int32)) (3 : Int32).toNatClampNeg (0 : Int32) = fun j => if j = 0 then (10 : Int32) else 0 := by
  have e0 : (0 : Int32).toNatClampNeg = 0 := by decide
  have e1 : (1 : Int32).toNatClampNeg = 1 := by decide
  have e2 : (2 : Int32).toNatClampNeg = 2 := by decide
  have e3 : (3 : Int32).toNatClampNeg = 3 := by decide
  rw [e0, e1, e2, e3]
  funext j
  simp only [upd]
  by_cases h3 : j = 3
  · subst h3; rfl
  · by_cases h2 : j = 2
    · subst h2; rfl
    · by_cases h1 : j = 1
      · subst h1; rfl
      · by_cases h0 : j = 0
        · subst h0; rfl
        · simp [h0, h1, h2, h3]
theorem arrV_cg {cA : ClassId} {n : Nat} {f g : Nat → Value} (e : ∀ j, j < n → f j = g j) : arrV cA n f = arrV cA n g := by
  have h : (fun j : Fin n => f j.val) = fun j : Fin n => g j.val := funext fun j => e j.val j.isLt
  unfold arrV
  rw [h]
theorem va_at.arrq {D : va_G} {cl : List vw_C} {q n : Nat} {cA : ClassId} {f g : Nat → Option Nat} {H : Heap} (h : va_at D cl (q, .inl (cA, n, .inr (.inr (.inr (.inr f))))) H) (e : ∀ j, j < n → f j = g j) : va_at D cl (q, .inl (cA, n, .inr (.inr (.inr (.inr g))))) H := by
  have h2 : H[q]? = some (vp_cell cA (n, .inr (.inr (.inr (.inr f))))) := h
  show H[q]? = some (vp_cell cA (n, .inr (.inr (.inr (.inr g)))))
  rw [h2, vp_cell_q, vp_cell_q]
  exact congrArg some (arrV_cg (fun j hj => by rw [e j hj]))
/-- the objects that were there hold what they held -/
theorem ce_books {D : va_G} {cl : List vw_C} {cy : Nat → ClassId} {ρ ad : Nat → Nat → Nat} {M : sM} {b j9 q : Nat} {v9 : Int32} {H : Heap} (hb : 1 ≤ b ∧ b ≤ 6) (c o : Nat) (hn : nbB b c o = false) (hc : ¬ c = 21) (h : va_at D cl (q, ce cy ρ M c o) H) : va_at D cl (q, ce cy (rN ad ρ b) (wI (nB M b) 21 0 0 j9 v9) c o) H := by
  have k0 : ∀ c', nbB b c' o = true → ¬ c = c' := fun c' h1 h2 => by subst h2; rw [hn] at h1; cases h1
  have e1 : (fun k j => (wI (nB M b) 21 0 0 j9 v9).1 c k o j) = fun k j => M.1 c k o j := by
    funext k j
    simp only [wI]
    rw [if_neg (fun z => hc z.1)]
    simp only [nB]
    rw [if_neg (fun z => k0 0 (by rw [z.2]; exact beq_self_eq_true b) z.1), if_neg (fun z => k0 4 (by rw [z.2]; exact beq_self_eq_true b) z.1), if_neg (fun z => k0 18 (by rw [z.2]; exact beq_self_eq_true b) z.1), if_neg, if_neg (fun z => k0 8 (by show (o / 16 == b) = true; rw [z.2]; exact beq_self_eq_true b) z.1), if_neg (fun z => k0 24 (by show (o / 16 == b) = true; rw [z.2]; exact beq_self_eq_true b) z.1)]
    rintro ⟨z | z | z, z2⟩
    · exact k0 19 (by rw [z2]; exact beq_self_eq_true b) z
    · exact k0 22 (by rw [z2]; exact beq_self_eq_true b) z
    · exact k0 23 (by rw [z2]; exact beq_self_eq_true b) z
  have e2 : (fun k j => (wI (nB M b) 21 0 0 j9 v9).2 c k o j) = fun k j => M.2 c k o j := by
    funext k j
    simp only [wI, nB]
    rw [if_neg (fun z => k0 0 (by rw [z.2]; exact beq_self_eq_true b) z.1), if_neg]
    rintro ⟨z | z, z2⟩
    · exact k0 25 (by show (o / 16 == b) = true; rw [z2]; exact beq_self_eq_true b) z
    · exact k0 26 (by show (o / 16 == b) = true; rw [z2]; exact beq_self_eq_true b) z
  rw [ce, e1, e2]
  rw [ce] at h
  have ob : nbB b 0 o = false → ¬ o = b := fun z z2 => by subst z2; exact absurd z (by show ¬ (o == o) = false; simp)
  have r1 : ∀ c', nbB b c' o = false → rN ad ρ b c' o = ρ c' o := fun c' z => rN_f z
  match c, hn, hc, h with
  | 0, hn, _, h =>
    simp only [ce0, r1 4 hn, r1 7 hn, r1 11 hn]
    exact h
  | 1, hn, _, h => exact h
  | 2, hn, _, h => exact h
  | 3, hn, _, h => exact h
  | 4, hn, _, h =>
    simp only [ce0, r1 18 hn, r1 19 hn]
    exact h
  | 5, hn, _, h =>
    have z : nbB b 4 7 = false := by show (7 == b) = false; simp; omega
    simp only [ce0, rN_f z]
    exact h
  | 6, hn, _, h => exact h
  | 7, hn, _, h =>
    simp only [ce0, r1 22 hn, r1 23 hn]
    exact h
  | 8, hn, _, h =>
    simp only [ce0, r1 24 hn, r1 25 hn, r1 26 hn]
    exact h
  | 9, hn, _, h =>
    have z : nbB b 0 0 = false := by show (0 == b) = false; simp; omega
    have z2 : nbB b 8 112 = false := by show (112 / 16 == b) = false; simp; omega
    simp only [ce0, rN_f z, rN_f z2]
    exact h
  | 10, hn, _, h => exact h
  | 11, hn, _, h =>
    refine va_at.arrq h (fun j hj => ?_)
    have z : ¬ o = b := by intro z; subst z; exact absurd hn (by show ¬ (o == o) = false; simp)
    have z2 : nbB b 8 (16 * o + j) = false := by show ((16 * o + j) / 16 == b) = false; simp; omega
    rw [rN_f z2]
  | 12, hn, _, h => exact h
  | 13, hn, _, h => exact h
  | 14, hn, _, h => exact h
  | 15, hn, _, h => exact h
  | 16, hn, _, h => exact h
  | 17, hn, _, h => exact h
  | 18, hn, _, h => exact h
  | 19, hn, _, h => exact h
  | 20, hn, _, h => exact h
  | 22, hn, _, h => exact h
  | 23, hn, _, h => exact h
  | 24, hn, _, h => exact h
  | 25, hn, _, h => exact h
  | 26, hn, _, h => exact h
  | 27, hn, _, h => exact h
  | 28, hn, _, h => exact h
  | 29, hn, _, h => exact h
  | 30, hn, _, h => exact h
  | 31, hn, _, h => exact h
  | 32, hn, _, h => exact h
  | 33, hn, _, h => exact h
  | 34, hn, _, h => exact h
  | 35, hn, _, h => exact h
  | 36, hn, _, h => exact h
  | 37, hn, _, h => exact h
  | 38, hn, _, h => exact h
  | 39, hn, _, h => exact h
  | 40, hn, _, h => exact h
  | 41, hn, _, h => exact h
  | 21, hn, hc, h => exact absurd rfl hc
  | n + 42, hn, _, h => exact h
section
variable {M : sM} {b j : Nat} {v : Int32}
theorem nv0 (k i : Nat) : (wI (nB M b) 21 0 0 j v).1 0 k b i = 0 := by simp [wI, nB]
theorem nw0 (k i : Nat) : (wI (nB M b) 21 0 0 j v).2 0 k b i = 0 := by simp [wI, nB]
theorem nv4 (k i : Nat) : (wI (nB M b) 21 0 0 j v).1 4 k b i = (match k with | 0 => 1000 | 1 => 12 | 2 => 50 | 3 => 100 | 4 => 1 | _ => 0) := by
  simp [wI, nB]
  rfl
theorem nv18 (k i : Nat) : (wI (nB M b) 21 0 0 j v).1 18 k b i = if i = 0 then 10 else 0 := by simp [wI, nB]
theorem nv19 (k i : Nat) : (wI (nB M b) 21 0 0 j v).1 19 k b i = 0 := by simp [wI, nB]
theorem nv22 (k i : Nat) : (wI (nB M b) 21 0 0 j v).1 22 k b i = 0 := by simp [wI, nB]
theorem nv23 (k i : Nat) : (wI (nB M b) 21 0 0 j v).1 23 k b i = 0 := by simp [wI, nB]
theorem nv8 {o : Nat} (h : o / 16 = b) (k i : Nat) : (wI (nB M b) 21 0 0 j v).1 8 k o i = if k = 5 then -1 else 0 := by simp [wI, nB, h]
theorem nv24 {o : Nat} (h : o / 16 = b) (k i : Nat) : (wI (nB M b) 21 0 0 j v).1 24 k o i = 0 := by simp [wI, nB, h]
theorem nw25 {o : Nat} (h : o / 16 = b) (k i : Nat) : (wI (nB M b) 21 0 0 j v).2 25 k o i = 0 := by simp [wI, nB, h]
theorem nw26 {o : Nat} (h : o / 16 = b) (k i : Nat) : (wI (nB M b) 21 0 0 j v).2 26 k o i = 0 := by simp [wI, nB, h]
theorem nv21 (i : Nat) : (wI (nB M b) 21 0 0 j v).1 21 0 0 i = if i = j then v else M.1 21 0 0 i := by
  by_cases h : i = j <;> simp [wI, nB, h]
end
theorem RP.grow2 {G : gU} {ρ : Nat → Nat → Nat} {V : Nat → Nat → Prop} {M : sM} {H H' : Heap} (hR : RP G ρ V M H) (hs : H.size ≤ H'.size) (he : ∀ q, q < H.size → H'[q]? = H[q]?) : RP G ρ V M H' := by
  obtain ⟨h1, h2, h3, h4⟩ := hR
  refine ⟨fun c o hV => ⟨(h1 c o hV).1.kept (he _ (h1 c o hV).1.lt), (h1 c o hV).2⟩, h2, ⟨Nat.le_trans h3.1 hs, fun q hq => (he q (Nat.lt_of_lt_of_le hq h3.1)).trans (h3.2 q hq)⟩, h4⟩
theorem beqT (b : Nat) : (b == b) = true := beq_self_eq_true b
/-- a new object's cell is as the memory has it -/
theorem newB {G : gU} {ρ : Nat → Nat → Nat} {M : sM} {b j : Nat} {v : Int32} (h a7 a5 a6 a4 a2 a3 a1 : Nat) (hs : Nat → Nat × Nat × Nat × Nat) (c o : Nat) (hn : nbB b c o = true) : ∃ x, (wsB G h a7 a5 a6 a4 a2 a3 a1 hs)[ixB c o]? = some (adB h a7 a5 a6 a4 a2 a3 a1 hs c o, x) ∧ ∀ (q : Nat) (H : Heap), va_at G.1 vwCl (q, x) H → va_at G.1 vwCl (q, ce (gC G) (rN (adB h a7 a5 a6 a4 a2 a3 a1 hs) ρ b) (wI (nB M b) 21 0 0 j v) c o) H := by
  have r : ∀ c' o', nbB b c' o' = true → rN (adB h a7 a5 a6 a4 a2 a3 a1 hs) ρ b c' o' = adB h a7 a5 a6 a4 a2 a3 a1 hs c' o' := fun c' o' z => rN_t z
  rcases nbB_cases hn with ⟨h1, h2⟩ | ⟨h1, h2⟩
  · subst h2
    have r4 := r 4 o (beqT o)
    have r7 := r 7 o (beqT o)
    have r11 := r 11 o (beqT o)
    have r18 := r 18 o (beqT o)
    have r19 := r 19 o (beqT o)
    have r22 := r 22 o (beqT o)
    have r23 := r 23 o (beqT o)
    rcases h1 with h1 | h1 | h1 | h1 | h1 | h1 | h1 | h1 <;> subst h1
    · refine ⟨_, rfl, fun q H hq => ?_⟩
      simp only [ce, ce0, r4, r7, r11, nv0, nw0]
      exact hq
    · refine ⟨_, rfl, fun q H hq => ?_⟩
      simp only [ce, ce0, r18, r19, nv4]
      exact hq
    · refine ⟨_, rfl, fun q H hq => ?_⟩
      simp only [ce, ce0, r22, r23]
      exact hq
    · refine ⟨_, rfl, fun q H hq => ?_⟩
      refine va_at.arrq hq (fun i hi => ?_)
      rw [if_pos hi, r 8 (16 * o + i) (by show ((16 * o + i) / 16 == o) = true; have : (16 * o + i) / 16 = o := by omega
                                          rw [this]; exact beqT o)]
      show some (hs i).1 = some (hs ((16 * o + i) % 16)).1
      rw [show (16 * o + i) % 16 = i by omega]
    · refine ⟨_, rfl, fun q H hq => ?_⟩
      rw [upd10] at hq
      simp only [ce, ce0, nv18]
      exact hq
    · refine ⟨_, rfl, fun q H hq => ?_⟩
      simp only [ce, ce0, nv19]
      exact hq
    · refine ⟨_, rfl, fun q H hq => ?_⟩
      simp only [ce, ce0, nv22]
      exact hq
    · refine ⟨_, rfl, fun q H hq => ?_⟩
      simp only [ce, ce0, nv23]
      exact hq
  · have hi : ∀ t, t < 4 → (wsB G h a7 a5 a6 a4 a2 a3 a1 hs)[8 + (4 * (15 - o % 16) + t)]? = (sub4 G (hs (o % 16)))[t]? := by
      intro t ht
      rw [← subsW_get G hs t ht 16 (o % 16) (by omega), Nat.add_comm 8]
      simp only [List.getElem?_cons_succ, List.append_nil]
    have hb8 : ∀ c', nbB b c' o = (o / 16 == b) → nbB b c' o = true := fun c' z => by rw [z, h2]; exact beqT b
    have r24 := r 24 o (hb8 24 rfl)
    have r25 := r 25 o (hb8 25 rfl)
    have r26 := r 26 o (hb8 26 rfl)
    rcases h1 with h1 | h1 | h1 | h1 <;> subst h1
    · refine ⟨_, (hi 3 (by omega)).trans rfl, fun q H hq => ?_⟩
      simp only [ce, ce0, r24, r25, r26, nv8 h2]
      exact hq
    · refine ⟨_, (hi 2 (by omega)).trans rfl, fun q H hq => ?_⟩
      simp only [ce, ce0, nv24 h2]
      exact hq
    · refine ⟨_, (hi 1 (by omega)).trans rfl, fun q H hq => ?_⟩
      simp only [ce, ce0, nw25 h2]
      exact hq
    · refine ⟨_, (hi 0 (by omega)).trans rfl, fun q H hq => ?_⟩
      simp only [ce, ce0, nw26 h2]
      exact hq
theorem RP.books {G : gU} {ρ : Nat → Nat → Nat} {V : Nat → Nat → Prop} {M : sM} {H H' H1 : Heap} (h a7 a5 a6 a4 a2 a3 a1 : Nat) (hs : Nat → Nat × Nat × Nat × Nat) {b j : Nat} (hR : RP G ρ V M H') (hlt : ∀ c o, V c o → ρ c o < H.size) (hCP : CP G H (wsB G h a7 a5 a6 a4 a2 a3 a1 hs) H') (hBH : gB G ≤ H.size) (hj : j < 6) (hz : M.1 21 0 0 j = 0) (hb : b = j + 1)
    (e : H1[ρ 21 0]? = some (vp_cell (gC G 5) (6, .inr (.inr (.inr (.inr (va_up (fun i => if M.1 21 0 0 i = 0 then none else some (ρ 0 (i + 1))) j (some h)))))))) (z : H1.size = H'.size) (oq : ∀ q, q ≠ ρ 21 0 → H1[q]? = H'[q]?) :
    RP G (rN (adB h a7 a5 a6 a4 a2 a3 a1 hs) ρ b) (fun c o => V c o ∨ nbB b c o = true) (wI (nB M b) 21 0 0 j 1) H1 ∧ Ext ρ V (rN (adB h a7 a5 a6 a4 a2 a3 a1 hs) ρ b) (fun c o => V c o ∨ nbB b c o = true) := by
  obtain ⟨h1, h2, h3, h4, h5, v0, v4, v7, v11, v8, v18, v19, v22, v23, v24, v25, v26, v21⟩ := hR
  have hV21 : V 21 0 := h4.s 21 (by omega)
  have hnV : ¬ V 0 b := fun q => (h5 j hj).mpr (by rw [← hb]; exact q) hz
  have hnV4 : ¬ V 4 b := fun q => by rcases v4 b q with q | q; exact hnV q; omega
  have hnV7 : ¬ V 7 b := fun q => hnV (v7 b q)
  have hnV8 : ∀ o, o / 16 = b → ¬ V 8 o := fun o ho q => by rcases v8 o q with q | q; rw [ho] at q; exact hnV q; omega
  have hnb : ∀ c o, V c o → nbB b c o = false := by
    intro c o hv
    cases hq : nbB b c o with
    | false => rfl
    | true =>
      exfalso
      rcases nbB_cases hq with ⟨a, a2⟩ | ⟨a, a2⟩
      · subst a2
        rcases a with a | a | a | a | a | a | a | a <;> subst a
        · exact hnV hv
        · exact hnV4 hv
        · exact hnV7 hv
        · exact hnV (v11 o hv)
        · exact hnV4 (v18 o hv)
        · exact hnV4 (v19 o hv)
        · exact hnV7 (v22 o hv)
        · exact hnV7 (v23 o hv)
      · rcases a with a | a | a | a <;> subst a
        · exact hnV8 o a2 hv
        · exact hnV8 o a2 (v24 o hv)
        · exact hnV8 o a2 (v25 o hv)
        · exact hnV8 o a2 (v26 o hv)
  have hnew : ∀ c o, nbB b c o = true → H.size ≤ adB h a7 a5 a6 a4 a2 a3 a1 hs c o := by
    intro c o hn
    obtain ⟨x, hx, -⟩ := newB (G := G) (ρ := ρ) (M := M) (j := j) (v := 1) h a7 a5 a6 a4 a2 a3 a1 hs c o hn
    exact hCP.2.1.2 _ _ hx
  have hE : Ext ρ V (rN (adB h a7 a5 a6 a4 a2 a3 a1 hs) ρ b) (fun c o => V c o ∨ nbB b c o = true) := fun c o hv => ⟨Or.inl hv, rN_f (hnb c o hv)⟩
  have hin1 : ∀ c o c' o', V c o → nbB b c' o' = true → ¬ rN (adB h a7 a5 a6 a4 a2 a3 a1 hs) ρ b c o = rN (adB h a7 a5 a6 a4 a2 a3 a1 hs) ρ b c' o' := by
    intro c o c' o' hv hn q
    rw [rN_f (hnb c o hv), rN_t hn] at q
    have := hlt c o hv
    have := hnew c' o' hn
    omega
  refine ⟨⟨?_, ?_, ?_, ?_, ?_, ?_⟩, hE⟩
  · rintro c o (hv | hn)
    · rw [rN_f (hnb c o hv)]
      refine ⟨?_, (h1 c o hv).2⟩
      by_cases hc : c = 21
      · subst hc
        have ho := v21 o hv
        subst ho
        show H1[ρ 21 0]? = some (vp_cell _ _)
        rw [e]
        refine congrArg (fun f => some (vp_cell (gC G 5) (6, .inr (.inr (.inr (.inr f)))))) ?_
        funext i
        show _ = if (wI (nB M b) 21 0 0 j 1).1 21 0 0 i = 0 then none else some (rN (adB h a7 a5 a6 a4 a2 a3 a1 hs) ρ b 0 (i + 1))
        rw [nv21]
        by_cases hi : i = j
        · subst hi
          rw [if_pos rfl, if_neg (by decide), ← hb, rN_t (show nbB b 0 b = true from beqT b)]
          simp [va_up]
          rfl
        · rw [if_neg hi]
          have e3 : nbB b 0 (i + 1) = false := by show (i + 1 == b) = false; simp; omega
          rw [rN_f e3]
          simp [va_up, hi]
      · refine ce_books ⟨by omega, by omega⟩ c o (hnb c o hv) hc ((h1 c o hv).1.kept (oq _ (fun q => hc (h2 c o 21 0 hv hV21 q).1)))
    · rw [rN_t hn]
      obtain ⟨x, hx, hx2⟩ := newB (G := G) (ρ := ρ) (M := M) (j := j) (v := 1) h a7 a5 a6 a4 a2 a3 a1 hs c o hn
      have ha := hnew c o hn
      have hl21 := hlt 21 0 hV21
      exact ⟨hx2 _ _ ((hCP.1 _ _ hx).kept (oq _ (fun q => by have q2 : adB h a7 a5 a6 a4 a2 a3 a1 hs c o = ρ 21 0 := q; omega))), Nat.le_trans hBH ha⟩
  · rintro c o c' o' (hv | hn) (hv' | hn') q
    · rw [rN_f (hnb c o hv), rN_f (hnb c' o' hv')] at q
      exact h2 c o c' o' hv hv' q
    · exact absurd q (hin1 c o c' o' hv hn')
    · exact absurd q.symm (hin1 c' o' c o hv' hn)
    · rw [rN_t hn, rN_t hn'] at q
      obtain ⟨x, hx, -⟩ := newB (G := G) (ρ := ρ) (M := M) (j := j) (v := 1) h a7 a5 a6 a4 a2 a3 a1 hs c o hn
      obtain ⟨y, hy, -⟩ := newB (G := G) (ρ := ρ) (M := M) (j := j) (v := 1) h a7 a5 a6 a4 a2 a3 a1 hs c' o' hn'
      exact ixB_inj hn hn' (hCP.2.1.1 _ _ _ _ hx hy q)
  · refine ⟨by rw [z]; exact h3.1, fun q hq => ?_⟩
    rw [oq q (fun q2 => by have := (h1 21 0 hV21).2; omega)]
    exact h3.2 q hq
  · refine ⟨?_, ?_, ?_, ?_, fun c hc => Or.inl (h4.s c hc), Or.inl h4.2.2.2.2.2.1, Or.inl h4.2.2.2.2.2.2.1, Or.inl h4.2.2.2.2.2.2.2⟩
    · rintro o (hv | hn)
      · obtain ⟨w1, w2, w3, w4⟩ := h4.1 o hv
        exact ⟨Or.inl w1, Or.inl w2, Or.inl w3, fun i hi => Or.inl (w4 i hi)⟩
      · have ho : o = b := eq_of_beq hn
        subst ho
        refine ⟨Or.inr (beqT o), Or.inr (beqT o), Or.inr (beqT o), fun i hi => Or.inr ?_⟩
        show ((16 * o + i) / 16 == o) = true
        rw [show (16 * o + i) / 16 = o by omega]
        exact beqT o
    · rintro o (hv | hn)
      · exact ⟨Or.inl (h4.2.1 o hv).1, Or.inl (h4.2.1 o hv).2⟩
      · exact ⟨Or.inr hn, Or.inr hn⟩
    · rintro o (hv | hn)
      · exact ⟨Or.inl (h4.2.2.1 o hv).1, Or.inl (h4.2.2.1 o hv).2⟩
      · exact ⟨Or.inr hn, Or.inr hn⟩
    · rintro o (hv | hn)
      · exact ⟨Or.inl (h4.2.2.2.1 o hv).1, Or.inl (h4.2.2.2.1 o hv).2.1, Or.inl (h4.2.2.2.1 o hv).2.2⟩
      · exact ⟨Or.inr hn, Or.inr hn, Or.inr hn⟩
  · intro i hi
    rw [nv21]
    by_cases hij : i = j
    · subst hij
      rw [if_pos rfl]
      exact ⟨fun _ => Or.inr (by rw [← hb]; exact beqT b), fun _ => by decide⟩
    · rw [if_neg hij, h5 i hi]
      refine ⟨Or.inl, ?_⟩
      rintro (q | q)
      · exact q
      · have : i + 1 = b := eq_of_beq q
        omega
  · refine ⟨?_, ?_, ?_, ?_, ?_, ?_, ?_, ?_, ?_, ?_, ?_, ?_, ?_⟩
    · rintro o (q | q)
      · exact v0 o q
      · have : o = b := eq_of_beq q
        omega
    · rintro o (q | q)
      · exact (v4 o q).elim (fun w => Or.inl (Or.inl w)) Or.inr
      · exact Or.inl (Or.inr q)
    · exact fun o q => q.elim (fun w => Or.inl (v7 o w)) Or.inr
    · exact fun o q => q.elim (fun w => Or.inl (v11 o w)) Or.inr
    · rintro o (q | q)
      · exact (v8 o q).elim (fun w => Or.inl (Or.inl w)) Or.inr
      · exact Or.inl (Or.inr q)
    · exact fun o q => q.elim (fun w => Or.inl (v18 o w)) Or.inr
    · exact fun o q => q.elim (fun w => Or.inl (v19 o w)) Or.inr
    · exact fun o q => q.elim (fun w => Or.inl (v22 o w)) Or.inr
    · exact fun o q => q.elim (fun w => Or.inl (v23 o w)) Or.inr
    · exact fun o q => q.elim (fun w => Or.inl (v24 o w)) Or.inr
    · exact fun o q => q.elim (fun w => Or.inl (v25 o w)) Or.inr
    · exact fun o q => q.elim (fun w => Or.inl (v26 o w)) Or.inr
    · rintro o (q | q)
      · exact v21 o q
      · cases q
theorem nB_J (A Z : sM) (b : Nat) : nB (J A Z) b = J (nB A b) Z := by
  refine J_ext (fun c k o j => ?_) (fun c k o j => ?_)
  · rcases J_at (A := A) (Z := Z) c with ⟨hr, e1, e2⟩ | ⟨hr, e1, e2⟩
    · have q : ∀ c', isR c' = false → ¬ c = c' := fun c' z z2 => by subst z2; rw [hr] at z; cases z
      have e3 : (J (nB A b) Z).1 c = Z.1 c := J1r hr
      rw [e3, ← e1]
      simp only [nB]
      rw [if_neg (fun z => q 0 rfl z.1), if_neg (fun z => q 4 rfl z.1), if_neg (fun z => q 18 rfl z.1), if_neg (fun z => z.1.elim (q 19 rfl) (fun w => w.elim (q 22 rfl) (q 23 rfl))), if_neg (fun z => q 8 rfl z.1), if_neg (fun z => q 24 rfl z.1)]
    · have e3 : (J (nB A b) Z).1 c = (nB A b).1 c := J1c hr
      rw [e3]
      simp only [nB]
      rw [e1]
  · rcases J_at (A := A) (Z := Z) c with ⟨hr, e1, e2⟩ | ⟨hr, e1, e2⟩
    · have q : ∀ c', isR c' = false → ¬ c = c' := fun c' z z2 => by subst z2; rw [hr] at z; cases z
      have e3 : (J (nB A b) Z).2 c = Z.2 c := J2r hr
      rw [e3, ← e2]
      simp only [nB]
      rw [if_neg (fun z => q 0 rfl z.1), if_neg (fun z => z.1.elim (q 25 rfl) (q 26 rfl))]
    · have e3 : (J (nB A b) Z).2 c = (nB A b).2 c := J2c hr
      rw [e3]
      simp only [nB]
      rw [e2]
theorem we_get {E : eU} {G : gU} {ρ : Nat → Nat → Nat} {V : Nat → Nat → Prop} {M : sM} {k1 k2 pc nL d mc ms : Nat} {st : List Value} {cc : ByteArray} {own : String} {ret : Option FieldType} {H : Heap} {locs : List Loc} {ls : Array Slot} (hC : CX E G cc nL own ret d mc ms) {kc o index k : Nat} {fs : List Value} {v : Value} (hR : RP G ρ V M H) (hV : V kc o) (he : ce (gC G) ρ M kc o = .inr (kc, fs)) (hF : FL own index kc k) (hv : fs[k]? = some v) (hdg : decode cc pc = .ok (.getfield index, 3))
    (kk : WE E H locs k1 k2 (F0 (eM E) (pc + 3) ls (v :: st))) : WE E H locs k1 k2 (F0 (eM E) pc ls (.ref (ρ kc o) :: st)) := by
  obtain ⟨hx, hb, hml, hown, hts, hK, -⟩ := hC
  obtain ⟨C, ref, T, N, hc, hin, hk, hlink, href⟩ := hF
  rcases hlink with hlink | ⟨host, hlink⟩
  · exact va_get hx hb hts hin hown hK.1 (hR.P hV he) 0 rfl hc k hk (hts _ hlink) (fun x hx => by rw [← href]; exact hx) hv hdg kk
  · exact va_getN hx hb hts hin hown hK.1 (hR.P hV he) 0 rfl hc k hk (va_Nw.use rfl (hK.2.1 _ hlink)) (fun x hx => by rw [← href]; exact hx) hv hdg kk
theorem nwX6_9 : NWc RX6 9 0 8 [.null, .null, .null, .int 0, .int 0, .int 0, .long 0, .long 0] := ⟨RX0, TX0, tyX0, rfl, inX0, tyX0_ok, inW 334 (by decide +kernel) (by decide +kernel), inW 162 (by decide +kernel) (by decide +kernel), inW 129 (by decide +kernel) (by decide +kernel), fun j hj => by match j, hj with | 0, _ => rfl | 1, _ => rfl | 2, _ => rfl | 3, _ => rfl | 4, _ => rfl | 5, _ => rfl | 6, _ => rfl | 7, _ => rfl | j + 8, hj => exact absurd hj (by omega)⟩

theorem liX6_21 : ∃ host, Cond.methodLinkNest RX6 21 yX0_init host ∈ NW := ⟨"SolarLedger", inN 367 (by decide +kernel) (by decide +kernel)⟩
theorem iiX0 : Cond.instanceMethod yX0_init ∈ ALLW := inW 164 (by decide +kernel) (by decide +kernel)
theorem wk_new {E : eU} {G : gU} {ρ : Nat → Nat → Nat} {V : Nat → Nat → Prop} {k1 k2 d mc ms j : Nat} {A Z : sM} (hC : CX E G cX6_keep 3 RX6 none d mc ms) (hVC : VC V) (hj : j < 6) (hjj : (A.1 6 1 0 0).toNatClampNeg = j) (hin : inb (A.1 6 1 0 0) 6 = true) (hz : A.1 21 0 0 j = 0) (hd : 3 ≤ d) (hk : k1 + 72 ≤ mc ∧ k2 + 2909 ≤ ms)
    (kk : ∀ ρ' V', Ext ρ V ρ' V' → VC V' → V' 0 (j + 1) → WA E G ρ' V' (k1 + 1 + 71) (k2 + 8 + 2901) (J (wI (nB A (j + 1)) 21 0 0 j 1) Z) 32 [(2, .ref (ρ' 0 (j + 1))), (0, .ref (ρ 6 0)), (1, .ref (ρ 0 0))] []) :
    WA E G ρ V k1 k2 (J A Z) 14 [(2, .null), (0, .ref (ρ 6 0)), (1, .ref (ρ 0 0))] [] := by
  intro H locs ls hR hO hl
  have hC0 := hC
  obtain ⟨hx, hb, hml, hown, hts, hK, hr, hlk, hRm, hs0⟩ := hC
  obtain ⟨C, TT, ty, w1, w2, w3, w4, w5, w6, w7⟩ := nwX6_9
  have hKn := hK.1.1 0 _ w1
  have hHB : HB G H := hR.2.2.1
  refine W.newcK hx hb hown (hts _ w4) (hts _ w5) (hts _ w6) rfl dX6_keep_14 (by have := hRm.2.2.1; omega) (by have := hRm.2.2.2; omega) hKn.2.1 rfl fun H1 kC hkC e1 z1 o1 => ?_
  have hCP1 : CP G H ((H.size, .inr (0, [.null, .null, .null, .int 0, .int 0, .int 0, .long 0, .long 0])) :: []) H1 := by
    refine ⟨fun k q hq => ?_, ⟨fun i i' p q hi hi' _ => ?_, fun k q hq => ?_⟩, by omega, o1⟩
    · have hz9 : k < 1 := (List.getElem?_eq_some_iff.mp hq).1
      rw [show k = 0 by omega] at hq
      cases hq
      exact ⟨_, w1, (u_born ty hts w2 hKn hkC e1 w3).to w7⟩
    · have h1 : i < 1 := (List.getElem?_eq_some_iff.mp hi).1
      have h2 : i' < 1 := (List.getElem?_eq_some_iff.mp hi').1
      omega
    · have hz9 : k < 1 := (List.getElem?_eq_some_iff.mp hq).1
      rw [show k = 0 by omega] at hq
      cases hq
      exact Nat.le_refl _
  refine lv_dup hx hb dX6_keep_17 rfl ?_
  intro T hT X
  have hfr : (rmD 2 71 2901).frames + 1 ≤ (eR E).frames ∧ 8 + (2 + 11) + (rmD 2 71 2901).locals ≤ (eR E).locals := ⟨Nat.le_trans hd hRm.1, Nat.le_trans (show 8 + (2 + 11) + 64 * 2 ≤ 64 * d by omega) hRm.2.1⟩
  have hf2 : k1 + 1 + 71 ≤ (eR E).cells ∧ k2 + 8 + 2901 ≤ (eR E).slots := ⟨by have := hRm.2.2.1; omega, by have := hRm.2.2.2; omega⟩
  have hbl : FrameBlind (va_Pc [.ref H.size] (fun U => CP G H ((H.size, .inr (0, [.null, .null, .null, .int 0, .int 0, .int 0, .long 0, .long 0])) :: []) U.heap ∧ KK G U)) := by
    intro a9 U g mk h
    obtain ⟨h1, h2, h3⟩ := h
    exact ⟨h1, h2, KK.same (u := U) (U := U.calling g mk a9) rfl (Vm.Alike.refl U.vm) h3⟩
  have hpre : PreS (eS E) H1 (va_Pc [.ref H.size] (fun U => CP G H ((H.size, .inr (0, [.null, .null, .null, .int 0, .int 0, .int 0, .long 0, .long 0])) :: []) U.heap ∧ KK G U)) (.ref H.size :: []) := ⟨hbl, fun U hU hW => ⟨rfl, by rw [hU]; exact hCP1, hK.warm hW⟩⟩
  have hN := knX0_init
  obtain ⟨host, hlink⟩ := liX6_21
  obtain ⟨v, st₀, t, T', L, h0, X', hL9, e2, e3, ⟨hv, ws', ⟨hs, a7, a5, a6, a4, a2, a3, a1, rfl⟩, hCP⟩, stp⟩ := va_runIN (Ts := ALLW) (n := 0) (As := []) (g := F0 (eM E) 18 ls [.ref H.size, .ref H.size]) (rest := [.ref H.size]) (cells := k1 + 1) (slots := k2 + 8) ⟨hx, hb, rfl, hown, hts⟩ (mcX0 E.2.1 hHB H.size []) ⟨va_cnB 0 hts hN.good rfl rfl rfl (hK.2.1 _ hlink) (hts _ hN.2.1) hN.2.2 hfr, rfl, hts _ iiX0⟩ hpre rfl rfl hl.1 rfl (lv_room (show 1 ≤ 8 by decide)) dX6_keep_18 hf2 T hT X
  cases hv
  have hCP' : CP G H (wsB G H.size a7 a5 a6 a4 a2 a3 a1 hs) T'.heap := by rw [e2]; exact hCP
  have hR' : RP G ρ V (J A Z) T'.heap := hR.grow2 hCP'.2.2.1 hCP'.2.2.2
  have key : WE E T'.heap (locs ++ L) (k1 + 1 + 71) (k2 + 8 + 2901) (F0 (eM E) 21 ls [.ref H.size]) := by
    refine lv_astore_n (lv' := [(2, .ref H.size), (0, .ref (ρ 6 0)), (1, .ref (ρ 0 0))]) hx hb dX6_keep_21 rfl hl (by rw [hml]; decide) rfl (fun ls' hl' => ?_)
    refine lv_aload_n hx hb dX6_keep_22 rfl (lv_at hl' 1 rfl) ?_
    refine we_get hC0 hR' (hVC.s 6 (by omega)) rfl flX6_11 rfl dX6_keep_23 ?_
    refine lv_aload_n hx hb dX6_keep_26 rfl (lv_at hl' 1 rfl) ?_
    refine we_get hC0 hR' (hVC.s 6 (by omega)) rfl flX6_17 rfl dX6_keep_27 ?_
    refine lv_aload_n hx hb dX6_keep_30 rfl (lv_at hl' 0 rfl) ?_
    have hV21 : V 21 0 := hVC.s 21 (by omega)
    have hP := hR'.P hV21 (show ce (gC G) ρ (J A Z) 21 0 = .inl (gC G 5, 6, .inr (.inr (.inr (.inr (fun j => if (J A Z).1 21 0 0 j = 0 then none else some (ρ 0 (j + 1))))))) from rfl)
    obtain ⟨r', hr', cellV, g1, g2, g3, -⟩ := hCP'.1 7 _ rfl
    have hcls := (hK.1.1 0 _ rfl).2
    obtain ⟨kA, comp, q1, q2, q3, -⟩ := (hK.1.2 5 _ rfl).2
    have hcomp : comp = G.1.1 0 := Option.some.inj (q3.symm.trans hcls.1)
    subst hcomp
    obtain ⟨kC2, hkC2, -⟩ := hcls.2
    have hin2 := inb_in hin
    have e61 : (J A Z).1 6 1 0 0 = A.1 6 1 0 0 := rfl
    refine W.aast hx hb (hP 0 _ rfl) (fun q h => by cases h) (fun h => by cases h) q1 q2 rfl hkC2 ⟨fun q => hin2 (Or.inl q), by show _ < (arrV _ _ _).slots.size; rw [arrV_size]; exact inb_lt hin⟩ g1 (fun q h => by rw [g3] at h; cases h) (by rw [g2]; exact hkC2) (by rw [g2]; exact va_assign hcls) rfl rfl dX6_keep_31 fun H2 e4 z4 oq4 => ?_
    obtain ⟨hRb, hEx⟩ := RP.books (G := G) (H := H) (H1 := H2) (j := j) (b := j + 1) H.size a7 a5 a6 a4 a2 a3 a1 hs hR' (fun c o hv => (hR.1 c o hv).1.lt) hCP' hHB.1 hj (show (J A Z).1 21 0 0 j = 0 from hz) rfl (by
      rw [e4]
      rw [vp_cell_q, vp_cell_q, arrV_store]
      congr 2
      funext q
      show updV _ (A.1 6 1 0 0).toNatClampNeg _ q = _
      rw [hjj]
      by_cases hq : q = j
      · subst hq
        simp [updV, va_up, va_rf]
      · simp [updV, va_up, hq]) z4 oq4
    have hk9 := kk _ _ hEx hRb.vc (Or.inr (beqT (j + 1)))
    have eM : wI (nB (J A Z) (j + 1)) 21 0 0 j 1 = J (wI (nB A (j + 1)) 21 0 0 j 1) Z := by rw [nB_J]; exact (jwIc rfl rfl).symm
    rw [eM] at hRb
    have er : rN (adB H.size a7 a5 a6 a4 a2 a3 a1 hs) ρ (j + 1) 0 (j + 1) = H.size := rN_t (show nbB (j + 1) 0 (j + 1) = true from beqT (j + 1))
    rw [er] at hk9
    exact hk9 H2 _ ls' hRb (fun q h => by
      rcases List.mem_append.mp h with h | h
      · rcases List.mem_append.mp h with h | h
        · exact hO q h
        · exact Nat.le_trans hHB.1 (hL9 q h)
      · cases h with
        | head => exact (hR'.1 21 0 hV21).2
        | tail _ h => cases h) hl'
  obtain ⟨t2, a9, b9⟩ := key T' rfl X'
  exact ⟨t2, stp t2 a9, b9⟩

theorem maX6_29 : Cond.methodLink RX6 29 Lib.Math.min.name ∈ ALLW := inW 516 (by decide +kernel) (by decide +kernel)
theorem vk_enter {l : Launch} {y : MethodName} {cc : ByteArray} {maxL d mc ms : Nat} {G : gU} {ρ : Nat → Nat → Nat} {V : Nat → Nat → Prop} {av : List Value} {lv : List (Nat × Value)} {M M' : sM} (own : String) (ho : y.cls = own) (hy : plainName y.cls = true) (hlen : (lg_sl av).length ≤ maxL) (hlv : lv_args 0 av = lv)
    (body : ∀ E : eU, E.2.1 = l → CX E G cc maxL own none d mc ms → eQ E = MQ (eF E) (QcK G ρ V M') (eA E) (eS E) mc ms (gA G) → VC V → WA E G ρ V 0 0 M 0 lv []) : MK l y cc maxL d mc ms G ρ V av M M' := by
  subst hlv
  refine Met.ofW (cc := cc) (maxL := maxL) (ret := none) hy rfl ?_
  intro p e s m args below meth c s₁ Bd hml hv
  obtain ⟨rfl, hR, hK⟩ := hv
  have hts := atoms_spec (ws := .code y cc maxL none :: ALLW) Bd.pre
  have hl := lv_entry av (n := c.maxLocals) (by rw [hml]; exact hlen)
  have h := body (p, l, e, rmD d mc ms, s, m, av.toArray, below, meth, c, MQ below (QcK G ρ V M') av.toArray s mc ms (gA G)) rfl ⟨Bd.exec, Bd.bytes, hml, by rw [← ho]; exact findClass_of_methodNamed Bd.named, fun w hw => hts w (List.mem_cons_of_mem _ hw), hK, Bd.returns, Bd.notSynchronized, RG.rf, hR.2.2.1⟩ rfl hR.vc s.heap [] _ hR (fun _ h => by cases h) hl
  rw [lg_entry_eq, ← hml]
  exact h
theorem wk_vret {E : eU} {G : gU} {ρ ρ0 : Nat → Nat → Nat} {V V0 : Nat → Nat → Prop} {k1 k2 : Nat} {M M' : sM} {pc nL d mc ms : Nat} {lv : List (Nat × Value)} {cc : ByteArray} {own : String} (hC : CX E G cc nL own none d mc ms) (hQ : eQ E = MQ (eF E) (QcK G ρ0 V0 M') (eA E) (eS E) mc ms (gA G)) (hE : Ext ρ0 V0 ρ V) (hM : M = M') (hk : k1 ≤ mc ∧ k2 ≤ ms) (hdg : decode cc pc = .ok (.return_, 1)) : WA E G ρ V k1 k2 M pc lv [] := by
  subst hM
  intro H locs ls hR hO hl
  show W _ _ _ _ _ _ _ _ _ _ _ _ _ _ (eQ E) _
  rw [hQ]
  refine W.widen hk.1 hk.2 ?_
  exact W.vret hC.1 hC.2.1 hC.2.2.2.2.2.2.1 (fun t ht _ => ⟨rfl, ρ, V, hE, by rw [ht]; exact hR⟩) hO hdg hC.2.2.2.2.2.2.2.1
def fX6_keepT (b : Nat) (A1 : sM) : Option sM :=
  Option.bind (fX0_copyFrom b 0 A1) fun A2 =>
  ltb (wI A2 6 1 0 0 ((A2.1 6 1 0 0 + 1) - (A2.1 6 1 0 0 + 1) / 6 * 6)) fun A3 =>
  ltb (wI A3 6 2 0 0 (if (6 : Int32) < A3.1 6 2 0 0 + 1 then 6 else A3.1 6 2 0 0 + 1)) fun A4 =>
  some A4
theorem keepT {E : eU} {G : gU} {ρ ρ0 : Nat → Nat → Nat} {V V0 : Nat → Nat → Prop} {k1 k2 b : Nat} {A1 Z A' : sM} (hC : CX E G cX6_keep 3 RX6 none 6 72 2909) (hQ : eQ E = MQ (eF E) (QcK G ρ0 V0 (J A' Z)) (eA E) (eS E) 72 2909 (gA G)) (hE : Ext ρ0 V0 ρ V) (hVC : VC V) (hV9 : V 0 b) (hk : k1 ≤ 72 ∧ k2 ≤ 2909) (h : fX6_keepT b A1 = some A') :
    WA E G ρ V k1 k2 (J A1 Z) 32 [(2, .ref (ρ 0 b)), (0, .ref (ρ 6 0)), (1, .ref (ρ 0 0))] [] := by
  rw [fX6_keepT] at h
  obtain ⟨A2, h2, h⟩ := Option.bind_eq_some_iff.mp h
  obtain ⟨A3, e3, h⟩ := ltb_some h
  obtain ⟨A4, e4, h⟩ := ltb_some h
  refine wa_aload_n 33 2 hC dX6_keep_32 rfl 0 rfl rfl ?_
  refine wa_aload_n 34 1 hC dX6_keep_33 rfl 2 rfl rfl ?_
  refine wa_callVv 37 hC [.ref (ρ 0 0)] [] knX0_copyFrom mvX6_22 (tX0_copyFrom E.2.1 b 0 A1 hVC hV9 hVC.2.2.2.2.2.1 h2) hV9 kc0 (Nat.le_of_ble_eq_true rfl) (Nat.le_of_ble_eq_true rfl) rfl (Nat.le_of_ble_eq_true rfl) dX6_keep_34 rfl hk rfl ?_
  refine wa_aload_n 38 0 hC dX6_keep_37 rfl 1 rfl rfl ?_
  refine wa_aload_n 39 0 hC dX6_keep_38 rfl 1 rfl rfl ?_
  refine wa_getIc 42 hC (vs6 hVC) sh6_1 rfl flX6_17 dX6_keep_39 rfl ?_
  refine wa_iconst 43 hC dX6_keep_42 kc_1 rfl ?_
  refine wa_iadd 44 hC dX6_keep_43 rfl ?_
  refine wa_bipush 46 hC dX6_keep_44 kb_6 rfl ?_
  refine wa_irem 47 hC dX6_keep_46 (by decide) rfl ?_
  refine wa_putIc 50 hC (vs6 hVC) nk6 e3 sh6_1 rfl fpX6_17 dX6_keep_47 rfl ?_
  refine wa_aload_n 51 0 hC dX6_keep_50 rfl 1 rfl rfl ?_
  refine wa_aload_n 52 0 hC dX6_keep_51 rfl 1 rfl rfl ?_
  refine wa_getIc 55 hC (vs6 hVC) sh6_2 rfl flX6_26 dX6_keep_52 rfl ?_
  refine wa_iconst 56 hC dX6_keep_55 kc_1 rfl ?_
  refine wa_iadd 57 hC dX6_keep_56 rfl ?_
  refine wa_bipush 59 hC dX6_keep_57 kb_6 rfl ?_
  refine wa_mmin 62 hC maX6_29 (by decide) (Nat.le_of_ble_eq_true rfl) dX6_keep_59 rfl hk ?_
  refine wa_putIc 65 hC (vs6 hVC) nk6 e4 sh6_2 rfl fpX6_26 dX6_keep_62 rfl ?_
  exact wk_vret hC hQ hE (jA (sm0 h)) hk dX6_keep_65
theorem tX6_keep (l : Launch) {G : gU} {ρ : Nat → Nat → Nat} {V : Nat → Nat → Prop} {Z : sM} (A : sM) (_ : VC V) {A' : sM} (h : fX6_keep A = some A') : MK l yX6_keep cX6_keep 3 6 72 2909 G ρ V [.ref (ρ 6 0), .ref (ρ 0 0)] (J A Z) (J A' Z) := by
  refine vk_enter (lv := [(0, .ref (ρ 6 0)), (1, .ref (ρ 0 0))]) RX6 rfl (by decide) (Nat.le_of_ble_eq_true rfl) rfl ?_
  intro E hE hC hQ hVC
  subst hE
  rw [fX6_keep] at h
  obtain ⟨g, h⟩ := gd_some h
  obtain ⟨A1, e1, h⟩ := ltb_some h
  have h9 : fX6_keepT ((A.1 6 1 0 0).toNatClampNeg + 1) A1 = some A' := h
  refine wa_aload_n 1 0 hC dX6_keep_0 rfl 0 rfl rfl ?_
  refine wa_getR 4 hC (vs6 hVC) (sr6_0 _) flX6_11 dX6_keep_1 rfl ?_
  refine wa_aload_n 5 0 hC dX6_keep_4 rfl 0 rfl rfl ?_
  refine wa_getIc 8 hC (vs6 hVC) sh6_1 rfl flX6_17 dX6_keep_5 rfl ?_
  have e21 : (J A Z).1 21 = A.1 21 := J1c rfl
  refine wa_ring 9 hC (vs21 hVC) g rfl dX6_keep_8 rfl (fun hz => ?_) (fun hz hV9 => ?_)
  · rw [e21] at hz
    rw [if_pos hz] at e1
    refine wa_astoreN (lv' := [(2, .null), (0, .ref (ρ 6 0)), (1, .ref (ρ 0 0))]) 10 2 hC dX6_keep_9 rfl (by decide) rfl rfl ?_
    refine wa_aloadN 11 2 hC dX6_keep_10 rfl 0 rfl rfl ?_
    refine wa_ifnonnullN 14 hC dX6_keep_11 rfl ?_
    refine wk_new hC hVC (inb_lt g) rfl g hz (by decide) ⟨Nat.le_of_ble_eq_true rfl, Nat.le_of_ble_eq_true rfl⟩ (fun ρ' V' hEx hVC' hV9 => ?_)
    have r6 := (hEx 6 0 (vs6 hVC)).2
    have r0 := (hEx 0 0 hVC.2.2.2.2.2.1).2
    rw [← r6, ← r0, ← e1]
    exact keepT hC hQ hEx hVC' hV9 ⟨Nat.le_of_ble_eq_true rfl, Nat.le_of_ble_eq_true rfl⟩ h9
  · rw [e21] at hz
    rw [if_neg hz] at e1
    rw [e1] at h9
    refine wa_astore_n (lv' := [(2, .ref (ρ 0 ((A.1 6 1 0 0).toNatClampNeg + 1))), (0, .ref (ρ 6 0)), (1, .ref (ρ 0 0))]) 10 2 hC dX6_keep_9 rfl rfl (by decide) rfl rfl ?_
    refine wa_aload_n 11 2 hC dX6_keep_10 rfl 0 rfl rfl ?_
    refine wa_ifnonnullR 32 hC dX6_keep_11 rfl ?_
    exact keepT hC hQ Ext.rfl hVC hV9 ⟨Nat.le_of_ble_eq_true rfl, Nat.le_of_ble_eq_true rfl⟩ h9

