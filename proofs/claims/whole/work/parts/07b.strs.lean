theorem knJ0_length_8abf5 : KN yJ0_length_8abf5 cJ0_length_8abf5 1 (some .int) 0 := ⟨inW 723 (by decide +kernel) (by decide +kernel), inW 146 (by decide +kernel) (by decide +kernel), (by decide +kernel), (by decide +kernel), (by decide +kernel)⟩
theorem knJ0_charAt_5068e : KN yJ0_charAt_5068e cJ0_charAt_5068e 2 (some .char) 1 := ⟨inW 733 (by decide +kernel) (by decide +kernel), inW 146 (by decide +kernel) (by decide +kernel), (by decide +kernel), (by decide +kernel), (by decide +kernel)⟩
theorem knJ0_coder_7d493 : KN yJ0_coder_7d493 cJ0_coder_7d493 1 (some .byte) 0 := ⟨inW 727 (by decide +kernel) (by decide +kernel), inW 146 (by decide +kernel) (by decide +kernel), (by decide +kernel), (by decide +kernel), (by decide +kernel)⟩
theorem knJ0_isLatin1_aae02 : KN yJ0_isLatin1_aae02 cJ0_isLatin1_aae02 1 (some .boolean) 0 := ⟨inW 737 (by decide +kernel) (by decide +kernel), inW 146 (by decide +kernel) (by decide +kernel), (by decide +kernel), (by decide +kernel), (by decide +kernel)⟩
theorem knJ0_checkIndex_df160 : KN yJ0_checkIndex_df160 cJ0_checkIndex_df160 2 none 2 := ⟨inW 743 (by decide +kernel) (by decide +kernel), inW 146 (by decide +kernel) (by decide +kernel), (by decide +kernel), (by decide +kernel), (by decide +kernel)⟩
theorem knJ1_charAt_3b067 : KN yJ1_charAt_3b067 cJ1_charAt_3b067 2 (some .char) 2 := ⟨inW 740 (by decide +kernel) (by decide +kernel), inW 147 (by decide +kernel) (by decide +kernel), (by decide +kernel), (by decide +kernel), (by decide +kernel)⟩
theorem knJ3_checkIndex_8e157 : KN yJ3_checkIndex_8e157 cJ3_checkIndex_8e157 3 (some .int) 3 := ⟨inW 748 (by decide +kernel) (by decide +kernel), inW 148 (by decide +kernel) (by decide +kernel), (by decide +kernel), (by decide +kernel), (by decide +kernel)⟩
theorem mvJ0_335 : MV RJ0 335 yJ0_coder_7d493 := ⟨Or.inl (inW 724 (by decide +kernel) (by decide +kernel)), inW 725 (by decide +kernel) (by decide +kernel), inW 726 (by decide +kernel) (by decide +kernel)⟩
theorem mvJ0_492 : MV RJ0 492 yJ0_isLatin1_aae02 := ⟨Or.inl (inW 734 (by decide +kernel) (by decide +kernel)), inW 735 (by decide +kernel) (by decide +kernel), inW 736 (by decide +kernel) (by decide +kernel)⟩
theorem msJ0_495 : MS RJ0 495 yJ1_charAt_3b067 := ⟨Or.inl (inW 738 (by decide +kernel) (by decide +kernel)), inW 739 (by decide +kernel) (by decide +kernel)⟩
theorem msJ1_9 : MS RJ1 9 yJ0_checkIndex_df160 := ⟨Or.inl (inW 741 (by decide +kernel) (by decide +kernel)), inW 742 (by decide +kernel) (by decide +kernel)⟩
theorem msJ0_1059 : MS RJ0 1059 yJ3_checkIndex_8e157 := ⟨Or.inl (inW 746 (by decide +kernel) (by decide +kernel)), inW 747 (by decide +kernel) (by decide +kernel)⟩
theorem str_ok : ∀ i, i < nSt → sLen.getD i 0 = (sByt.getD i []).length ∧ sLen.getD i 0 < 2 ^ 31 ∧ ∀ b ∈ sByt.getD i [], ((b &&& 255).toUInt32 % 65536).toInt32 = b ∧ narrow .char (.int b) = .int b := by decide +kernel
theorem strC_ok {i j : Nat} (hi : i < nSt) (hj : j < sLen.getD i 0) : ((strC i j &&& 255).toUInt32 % 65536).toInt32 = strC i j ∧ narrow .char (.int (strC i j)) = .int (strC i j) := by
  obtain ⟨h1, h2, h3⟩ := str_ok i hi
  unfold strC
  rw [List.getD_eq_getElem?_getD, List.getElem?_eq_getElem (by omega)]
  exact h3 _ (List.getElem_mem _)
section
variable {E : eU} {G : gU} {ρ : Nat → Nat → Nat} {V : Nat → Nat → Prop} {k1 k2 : Nat} {M M' : sM} {pc nL d mc ms : Nat} {lv lv' : List (Nat × Value)} {st st' : List Value} {cc : ByteArray} {own : String} {ret : Option FieldType}
theorem wa_yret {v r : Int32} {ty : FieldType} (hC : CX E G cc nL own (some ty) d mc ms) (hQ : QX E G ρ V (some (.int r)) M') (hv : v = r) (hM : M = M') (hn : narrow ty (.int v) = .int v) (hdg : decode cc pc = .ok (.ireturn, 1)) : WA E G ρ V 0 0 M pc lv [.int v] := by
  subst hv
  subst hM
  intro H locs ls hR hO hl
  show W _ _ _ _ _ _ _ _ _ _ _ _ _ _ (eQ E) _
  rw [hQ]
  exact W.zret hC.1 hC.2.1 hC.2.2.2.2.2.2.1 hn (fun t ht _ => ⟨rfl, by rw [ht]; exact hR⟩) hO hdg hC.2.2.2.2.2.2.2.1
theorem RP.below {H : Heap} (hR : RP G ρ V M H) : ∀ a : Nat, a < (gH G).size → ¬ gA G a → H[a]? = (gH G)[a]? := fun a _ h => hR.2.2.1.2 a (Nat.not_le.mp h)
theorem wa_ldcs (q ix : Nat) (hC : CX E G cc nL own ret d mc ms) {index : Nat} (hdg : decode cc pc = .ok (.ldc index, 2)) (hi : ix < nSt) (ho : sOwn ix = own) (hx : sIdx ix = index) (hq : pc + 2 = q) (kk : WA E G ρ V k1 k2 M q lv (.ref (gS G (2 * ix)) :: st)) : WA E G ρ V k1 k2 M pc lv st := by
  subst hq
  intro H locs ls hR hO hl
  have h := hC.2.2.2.2.2.1.2.2.1 ix hi
  rw [ho, hx] at h
  exact va_ldcS hC.1 hC.2.1 hC.2.2.2.1 h hdg (kk H locs ls hR hO hl)
theorem wa_ldcsw (q ix : Nat) (hC : CX E G cc nL own ret d mc ms) {index : Nat} (hdg : decode cc pc = .ok (.ldc_w index, 3)) (hi : ix < nSt) (ho : sOwn ix = own) (hx : sIdx ix = index) (hq : pc + 3 = q) (kk : WA E G ρ V k1 k2 M q lv (.ref (gS G (2 * ix)) :: st)) : WA E G ρ V k1 k2 M pc lv st := by
  subst hq
  intro H locs ls hR hO hl T hT X
  have h := hC.2.2.2.2.2.1.2.2.1 ix hi
  rw [ho, hx] at h
  obtain ⟨t, a1, b1⟩ := kk H locs ls hR hO hl T hT X
  exact ⟨t, X.ldcStringW hC.1 hC.2.2.2.1 (text := sTxt ix) (a := gS G (2 * ix)) h.1 h.2 (g := F0 (eM E) pc ls st) rfl (by rw [hC.2.1]; exact hdg) t a1, b1⟩
theorem wa_compact (q : Nat) (hC : CX E G cc nL "java/lang/String" ret d mc ms) (hdg : decode cc pc = .ok (.getstatic 38, 3)) (hq : pc + 3 = q) (kk : WA E G ρ V k1 k2 M q lv (.int 1 :: st)) : WA E G ρ V k1 k2 M pc lv st := by
  subst hq
  intro H locs ls hR hO hl
  obtain ⟨hx, hb, hml, hown, hts, hK, -⟩ := hC
  obtain ⟨cf, kf, fi, f, a, cell, h1, h2, h3, h4, h5, h6, h7, h8⟩ := hK.2.2.2.2.2.2.1
  exact W.gets hx hb hown (hts (.fieldLink "java/lang/String" 38 "java/lang/String" "COMPACT_STRINGS" "Z") (inW 728 (by decide +kernel) (by decide +kernel))) h1 h2 h3 h4 (by rw [hR.below a (Array.getElem?_eq_some_iff.mp h5).1 h8]; exact h5) (fun e => by rw [e] at h6; cases h6) h7 rfl hdg (kk H locs ls hR hO hl)
theorem wa_formatter (q : Nat) (hC : CX E G cc nL "java/lang/String" ret d mc ms) (hdg : decode cc pc = .ok (.getstatic 1053, 3)) (hq : pc + 3 = q) (kk : ∀ v : Value, v.category = 1 → WA E G ρ V k1 k2 M q lv (v :: st)) : WA E G ρ V k1 k2 M pc lv st := by
  subst hq
  intro H locs ls hR hO hl
  obtain ⟨hx, hb, hml, hown, hts, hK, -⟩ := hC
  rcases hK.2.2.2.2.2.2.2.1 with hz | ⟨t9, hz⟩
  · obtain ⟨cf, kf, fi, f, a, cell, h1, h2, h3, h4, h5, h6, h7, h8⟩ := hz
    exact W.gets hx hb hown (hts (.fieldLink "java/lang/String" 1053 "jdk/internal/util/Preconditions" "SIOOBE_FORMATTER" "Ljava/util/function/BiFunction;") (inW 744 (by decide +kernel) (by decide +kernel))) h1 h2 h3 h4 (by rw [hR.below a (Array.getElem?_eq_some_iff.mp h5).1 h8]; exact h5) (fun e => by rw [e] at h6; cases h6) h7 rfl hdg (kk _ rfl H locs ls hR hO hl)
  · obtain ⟨cf, kf, fi, f, a, cell, h1, h2, h3, h4, h5, h6, h7, h8⟩ := hz
    exact W.gets hx hb hown (hts (.fieldLink "java/lang/String" 1053 "jdk/internal/util/Preconditions" "SIOOBE_FORMATTER" "Ljava/util/function/BiFunction;") (inW 744 (by decide +kernel) (by decide +kernel))) h1 h2 h3 h4 (by rw [hR.below a (Array.getElem?_eq_some_iff.mp h5).1 h8]; exact h5) (fun e => by rw [e] at h6; cases h6) h7 rfl hdg (kk _ rfl H locs ls hR hO hl)
theorem wa_coderF (q : Nat) (hC : CX E G cc nL "java/lang/String" ret d mc ms) {i : Nat} (hi : i < nSt) (hdg : decode cc pc = .ok (.getfield 15, 3)) (hq : pc + 3 = q) (kk : WA E G ρ V k1 k2 M q lv (.int 0 :: st)) : WA E G ρ V k1 k2 M pc lv (.ref (gS G (2 * i)) :: st) := by
  subst hq
  intro H locs ls hR hO hl
  obtain ⟨hx, hb, hml, hown, hts, hK, -⟩ := hC
  obtain ⟨cf, k, fi, f, cell, h1, h2, h3, h4, h5, h6⟩ := (hK.2.2.2.1 i hi).2.1.kept hR.below
  exact W.getf hx hb hown (hts (.fieldLink "java/lang/String" 15 "java/lang/String" "coder" "B") (inW 1845 (by decide +kernel) (by decide +kernel))) h1 h2 h3 h4 h5 rfl rfl hdg (kk H locs ls hR hO hl)
theorem wa_valueF (q : Nat) (hC : CX E G cc nL "java/lang/String" ret d mc ms) {i : Nat} (hi : i < nSt) (hdg : decode cc pc = .ok (.getfield 9, 3)) (hq : pc + 3 = q) (kk : WA E G ρ V k1 k2 M q lv (.ref (gS G (2 * i + 1)) :: st)) : WA E G ρ V k1 k2 M pc lv (.ref (gS G (2 * i)) :: st) := by
  subst hq
  intro H locs ls hR hO hl
  obtain ⟨hx, hb, hml, hown, hts, hK, -⟩ := hC
  obtain ⟨cf, k, fi, f, cell, h1, h2, h3, h4, h5, h6⟩ := (hK.2.2.2.1 i hi).2.2.1.kept hR.below
  exact W.getf hx hb hown (hts (.fieldLink "java/lang/String" 9 "java/lang/String" "value" "[B") (inW 1844 (by decide +kernel) (by decide +kernel))) h1 h2 h3 h4 h5 rfl rfl hdg (kk H locs ls hR hO hl)
theorem wa_valueLen (q : Nat) (hC : CX E G cc nL own ret d mc ms) {i : Nat} (hi : i < nSt) (hdg : decode cc pc = .ok (.arraylength, 1)) (hq : pc + 1 = q) (kk : WA E G ρ V k1 k2 M q lv (.int (strL i) :: st)) : WA E G ρ V k1 k2 M pc lv (.ref (gS G (2 * i + 1)) :: st) := by
  subst hq
  intro H locs ls hR hO hl
  obtain ⟨hx, hb, hml, hown, hts, hK, -⟩ := hC
  obtain ⟨cell, h1, h2, h3, h4, h5, h6, h7⟩ := (hK.2.2.2.1 i hi).2.2.2.kept hR.below
  exact W.alen (n := strL i) hx hb h1 h2 h5 rfl rfl hdg (kk H locs ls hR hO hl)
theorem wa_valueAt (q : Nat) (hC : CX E G cc nL own ret d mc ms) {i : Nat} {x : Int32} (hi : i < nSt) (hin : inb x (sLen.getD i 0) = true) (hdg : decode cc pc = .ok (.baload, 1)) (hq : pc + 1 = q) (kk : WA E G ρ V k1 k2 M q lv (.int (strC i x.toNatClampNeg) :: st)) : WA E G ρ V k1 k2 M pc lv (.int x :: .ref (gS G (2 * i + 1)) :: st) := by
  subst hq
  intro H locs ls hR hO hl
  obtain ⟨hx, hb, hml, hown, hts, hK, -⟩ := hC
  obtain ⟨cell, h1, h2, h3, h4, h5, h6, h7⟩ := (hK.2.2.2.1 i hi).2.2.2.kept hR.below
  have hlt := inb_lt hin
  have hv := inb_in hin
  have hin' : ¬ (x < 0 ∨ cell.slots.size ≤ x.toNatClampNeg) := by
    intro q
    rcases q with q | q
    · exact hv (Or.inl q)
    · omega
  exact W.bald (v := .int (strC i x.toNatClampNeg)) hx hb h1 h2 h3 hin' (h6 _ hlt) rfl rfl hdg (kk H locs ls hR hO hl)
/-- a call on a String constant -/
theorem wa_callStr (q : Nat) (hC : CX E G cc nL own ret d mc ms) {y : MethodName} {bytes : ByteArray} {maxL d' n index i : Nat} {ret' : Option FieldType} {w : Int32} (As : List Value) (st : List Value) (hN : KN y bytes maxL ret' n) (hL : MV own index y) (hM : MT E.2.1 y bytes maxL ret' d' G ρ V (.ref (gS G (2 * i)) :: As) M (some (.int w)) M') (hi : i < nSt) (hc : y.cls = "java/lang/String")
    (hd : d' + 1 ≤ d) (hlo : 8 + (maxL + 11) + 64 * d' ≤ 64 * d) (hn : As.length = n) (hst : (st.map fun v => v.category).sum ≤ 8) (hdg : decode cc pc = .ok (.invokevirtual index, 3)) (hq : pc + 3 = q) (hf : k1 ≤ mc ∧ k2 ≤ ms) (hs : As.reverse ++ .ref (gS G (2 * i)) :: st = st')
    (kk : WA E G ρ V k1 k2 M' q lv (.int w :: st)) : WA E G ρ V k1 k2 M pc lv st' := by
  subst hq
  subst hs
  intro H locs ls hR hO hl
  obtain ⟨hx, hb, hml, hown, hts, hK, hr, hlk, hRm, -⟩ := hC
  have hfr : (rmD d' 0 0).frames + 1 ≤ (eR E).frames ∧ 8 + (maxL + 11) + (rmD d' 0 0).locals ≤ (eR E).locals := ⟨Nat.le_trans hd hRm.1, Nat.le_trans hlo hRm.2.1⟩
  have hf2 : k1 + 0 ≤ (eR E).cells ∧ k2 + 0 ≤ (eR E).slots := ⟨Nat.le_trans hf.1 hRm.2.2.1, Nat.le_trans hf.2 hRm.2.2.2⟩
  have hrc : ∃ cell : Cell, H[gS G (2 * i)]? = some cell ∧ cell.vm.isStatics = false ∧ (eS E).vm.findClass y.cls = some cell.cls := by
    obtain ⟨cell, h1, h2, h3, -⟩ := (hK.2.2.2.1 i hi).1.kept hR.below
    exact ⟨cell, h1, h2, by rw [hc]; exact h3⟩
  rcases hL with ⟨hlink | ⟨host, hlink⟩, hinst, hsel⟩
  · exact vv_ofRun (ρ := ρ) (V := V) hO (va_runV (Ts := ALLW) (C := y.cls) (n := n) ⟨hx, hb, rfl, hown, hts⟩ hM ⟨callB_of n hts hN.good rfl rfl rfl (hts _ hN.2.1) (hts _ hlink) hN.2.2 hfr, hts _ hinst, hts _ hsel⟩ ⟨PcT_blind G ρ V _ M, hrc, fun U hU hW => ⟨rfl, by rw [hU]; exact hR, hK.warm hW⟩⟩ rfl hn hl.1 rfl (lv_room hst) hdg hf2) (fun H1 locs1 a1 a2 => kk H1 locs1 ls a1 a2 hl)
  · exact vv_ofRun (ρ := ρ) (V := V) hO (va_runVN (Ts := ALLW) (C := y.cls) (n := n) ⟨hx, hb, rfl, hown, hts⟩ hM ⟨va_cnB n hts hN.good rfl rfl rfl (hK.2.1 _ hlink) (hts _ hN.2.1) hN.2.2 hfr, hts _ hinst, hts _ hsel⟩ ⟨PcT_blind G ρ V _ M, hrc, fun U hU hW => ⟨rfl, by rw [hU]; exact hR, hK.warm hW⟩⟩ rfl hn hl.1 rfl (lv_room hst) hdg hf2) (fun H1 locs1 a1 a2 => kk H1 locs1 ls a1 a2 hl)
theorem wa_i2c (q : Nat) (hC : CX E G cc nL own ret d mc ms) {x : Int32} (hdg : decode cc pc = .ok (.i2c, 1)) (hq : pc + 1 = q) (kk : WA E G ρ V k1 k2 M q lv (.int (x.toUInt32 % 65536).toInt32 :: st)) : WA E G ρ V k1 k2 M pc lv (.int x :: st) := by
  subst hq
  intro H locs ls hR hO hl
  exact lv_i2c hC.1 hC.2.1 hdg rfl (kk H locs ls hR hO hl)
end
theorem RJ0_eq : RJ0 = "java/lang/String" := rfl
section
variable {G : gU} {ρ : Nat → Nat → Nat} {V : Nat → Nat → Prop} {M : sM}
theorem t_coder (l : Launch) {i : Nat} (hi : i < nSt) : MT l yJ0_coder_7d493 cJ0_coder_7d493 1 (some .byte) 1 G ρ V [.ref (gS G (2 * i))] M (some (.int 0)) M := by
  refine vv_enter (lv := [(0, .ref (gS G (2 * i)))]) "java/lang/String" rfl (by decide) (Nat.le_of_ble_eq_true rfl) rfl ?_
  intro E hE hC hQ hVC
  refine wa_compact 3 hC dJ0_coder_7d493_0 rfl ?_
  refine wa_if_eq 6 13 hC dJ0_coder_7d493_3 rfl rfl (α := Unit) (T := none) (F := some ()) (r := ()) (by decide) (fun h => by cases h) (fun _ => ?_)
  refine wa_aload_n 7 0 hC dJ0_coder_7d493_6 rfl 0 rfl rfl ?_
  refine wa_coderF 10 hC hi dJ0_coder_7d493_7 rfl ?_
  refine wa_goto 14 hC dJ0_coder_7d493_10 rfl ?_
  exact wa_yret hC hQ rfl rfl rfl dJ0_coder_7d493_14
theorem t_isLatin1 (l : Launch) {i : Nat} (hi : i < nSt) : MT l yJ0_isLatin1_aae02 cJ0_isLatin1_aae02 1 (some .boolean) 1 G ρ V [.ref (gS G (2 * i))] M (some (.int 1)) M := by
  refine vv_enter (lv := [(0, .ref (gS G (2 * i)))]) "java/lang/String" rfl (by decide) (Nat.le_of_ble_eq_true rfl) rfl ?_
  intro E hE hC hQ hVC
  refine wa_compact 3 hC dJ0_isLatin1_aae02_0 rfl ?_
  refine wa_if_eq 6 17 hC dJ0_isLatin1_aae02_3 rfl rfl (α := Unit) (T := none) (F := some ()) (r := ()) (by decide) (fun h => by cases h) (fun _ => ?_)
  refine wa_aload_n 7 0 hC dJ0_isLatin1_aae02_6 rfl 0 rfl rfl ?_
  refine wa_coderF 10 hC hi dJ0_isLatin1_aae02_7 rfl ?_
  refine wa_if_ne 13 17 hC dJ0_isLatin1_aae02_10 rfl rfl (α := Unit) (T := none) (F := some ()) (r := ()) (by decide) (fun h => by cases h) (fun _ => ?_)
  refine wa_iconst 14 hC dJ0_isLatin1_aae02_13 (show Int32.ofInt 1 = 1 from by decide) rfl ?_
  refine wa_goto 18 hC dJ0_isLatin1_aae02_14 rfl ?_
  exact wa_yret hC hQ rfl rfl rfl dJ0_isLatin1_aae02_18
theorem t_length (l : Launch) {i : Nat} (hi : i < nSt) : MT l yJ0_length_8abf5 cJ0_length_8abf5 1 (some .int) 2 G ρ V [.ref (gS G (2 * i))] M (some (.int (strL i))) M := by
  refine vv_enter (lv := [(0, .ref (gS G (2 * i)))]) "java/lang/String" rfl (by decide) (Nat.le_of_ble_eq_true rfl) rfl ?_
  intro E hE hC hQ hVC
  refine wa_aload_n 1 0 hC dJ0_length_8abf5_0 rfl 0 rfl rfl ?_
  refine wa_valueF 4 hC hi dJ0_length_8abf5_1 rfl ?_
  refine wa_valueLen 5 hC hi dJ0_length_8abf5_4 rfl ?_
  refine wa_aload_n 6 0 hC dJ0_length_8abf5_5 rfl 0 rfl rfl ?_
  refine wa_callStr 9 hC [] [.int (strL i)] knJ0_coder_7d493 mvJ0_335 (t_coder E.2.1 hi) hi rfl (Nat.le_of_ble_eq_true rfl) (Nat.le_of_ble_eq_true rfl) rfl (Nat.le_of_ble_eq_true rfl) dJ0_length_8abf5_6 rfl le00 rfl ?_
  refine wa_ishr 10 hC dJ0_length_8abf5_9 rfl ?_
  have e : strL i >>> ((0 : Int32) &&& 31) = strL i := by
    show strL i >>> (0 : Int32) = strL i
    simp
  exact wa_iret hC hQ e rfl dJ0_length_8abf5_10
theorem t_pcheck (l : Launch) {x n : Int32} {fv : Value} (hf : fv.category = 1) (h0 : ¬ x < 0) (hn : x < n) : MT l yJ3_checkIndex_8e157 cJ3_checkIndex_8e157 3 (some .int) 1 G ρ V [.int x, .int n, fv] M (some (.int x)) M := by
  have hlv : lv_args 0 [.int x, .int n, fv] = [(0, .int x), (1, .int n), (2, fv)] := by
    cases fv <;> first | rfl | (simp [Value.category] at hf)
  have hlen : (lg_sl [.int x, .int n, fv]).length ≤ 3 := by
    cases fv <;> first | exact Nat.le_of_ble_eq_true rfl | (simp [Value.category] at hf)
  refine vv_enter (lv := [(0, .int x), (1, .int n), (2, fv)]) "jdk/internal/util/Preconditions" rfl (by decide) hlen hlv ?_
  intro E hE hC hQ hVC
  refine wa_iload_n 1 0 hC dJ3_checkIndex_8e157_0 rfl 0 rfl rfl ?_
  refine wa_if_lt 4 9 hC dJ3_checkIndex_8e157_1 rfl rfl (α := Unit) (T := none) (F := some ()) (r := ()) (by rw [if_neg h0]) (fun h => by cases h) (fun _ => ?_)
  refine wa_iload_n 5 0 hC dJ3_checkIndex_8e157_4 rfl 0 rfl rfl ?_
  refine wa_iload_n 6 1 hC dJ3_checkIndex_8e157_5 rfl 1 rfl rfl ?_
  refine wa_icmp_lt 9 16 hC dJ3_checkIndex_8e157_6 rfl rfl (α := Unit) (T := some ()) (F := none) (r := ()) (by rw [if_pos hn]) (fun _ => ?_) (fun h => by cases h)
  refine wa_iload_n 17 0 hC dJ3_checkIndex_8e157_16 rfl 0 rfl rfl ?_
  exact wa_iret hC hQ rfl rfl dJ3_checkIndex_8e157_17
theorem t_scheck (l : Launch) {x n : Int32} (h0 : ¬ x < 0) (hn : x < n) : MT l yJ0_checkIndex_df160 cJ0_checkIndex_df160 2 none 2 G ρ V [.int x, .int n] M none M := by
  refine vv_enter (lv := [(0, .int x), (1, .int n)]) "java/lang/String" rfl (by decide) (Nat.le_of_ble_eq_true rfl) rfl ?_
  intro E hE hC hQ hVC
  refine wa_iload_n 1 0 hC dJ0_checkIndex_df160_0 rfl 0 rfl rfl ?_
  refine wa_iload_n 2 1 hC dJ0_checkIndex_df160_1 rfl 1 rfl rfl ?_
  refine wa_formatter 5 hC dJ0_checkIndex_df160_2 rfl (fun v hv => ?_)
  refine wa_callSi 8 hC [.int x, .int n, v] [] knJ3_checkIndex_8e157 msJ0_1059 (t_pcheck E.2.1 hv h0 hn) (Nat.le_of_ble_eq_true rfl) (Nat.le_of_ble_eq_true rfl) rfl (Nat.le_of_ble_eq_true rfl) dJ0_checkIndex_df160_5 rfl le00 rfl ?_
  refine wa_pop 9 hC dJ0_checkIndex_df160_8 rfl rfl ?_
  exact wa_vret hC hQ rfl dJ0_checkIndex_df160_9
theorem inb_pos {x : Int32} {n : Nat} (h : inb x n = true) (hn : n < 2 ^ 31) : ¬ x < 0 ∧ x < nI n := by
  obtain ⟨j, hj, rfl⟩ := vp_in_of (inb_in h) hn
  exact ⟨nI_pos (by omega), nI_lt hj hn⟩
theorem t_latAt (l : Launch) {i : Nat} {x : Int32} (hi : i < nSt) (hx : inb x (sLen.getD i 0) = true) : MT l yJ1_charAt_3b067 cJ1_charAt_3b067 2 (some .char) 3 G ρ V [.ref (gS G (2 * i + 1)), .int x] M (some (.int (strC i x.toNatClampNeg))) M := by
  obtain ⟨h0, hn⟩ := inb_pos hx (str_ok i hi).2.1
  refine vv_enter (lv := [(0, .ref (gS G (2 * i + 1))), (1, .int x)]) "java/lang/StringLatin1" rfl (by decide) (Nat.le_of_ble_eq_true rfl) rfl ?_
  intro E hE hC hQ hVC
  refine wa_iload_n 1 1 hC dJ1_charAt_3b067_0 rfl 1 rfl rfl ?_
  refine wa_aload_n 2 0 hC dJ1_charAt_3b067_1 rfl 0 rfl rfl ?_
  refine wa_valueLen 3 hC hi dJ1_charAt_3b067_2 rfl ?_
  refine wa_callSv 6 hC [.int x, .int (strL i)] [] knJ0_checkIndex_df160 msJ1_9 (t_scheck E.2.1 h0 hn) (Nat.le_of_ble_eq_true rfl) (Nat.le_of_ble_eq_true rfl) rfl (Nat.le_of_ble_eq_true rfl) dJ1_charAt_3b067_3 rfl le00 rfl ?_
  refine wa_aload_n 7 0 hC dJ1_charAt_3b067_6 rfl 0 rfl rfl ?_
  refine wa_iload_n 8 1 hC dJ1_charAt_3b067_7 rfl 1 rfl rfl ?_
  refine wa_valueAt 9 hC hi hx dJ1_charAt_3b067_8 rfl ?_
  refine wa_sipush 12 hC dJ1_charAt_3b067_9 (show (Int16.ofInt 255).toInt32 = 255 from by decide) rfl ?_
  refine wa_iand 13 hC dJ1_charAt_3b067_12 rfl ?_
  refine wa_i2c 14 hC dJ1_charAt_3b067_13 rfl ?_
  obtain ⟨e1, e2⟩ := strC_ok hi (inb_lt hx)
  exact wa_yret hC hQ e1 rfl (by rw [e1]; exact e2) dJ1_charAt_3b067_14
theorem t_charAt (l : Launch) {i : Nat} {x : Int32} (hi : i < nSt) (hx : inb x (sLen.getD i 0) = true) : MT l yJ0_charAt_5068e cJ0_charAt_5068e 2 (some .char) 4 G ρ V [.ref (gS G (2 * i)), .int x] M (some (.int (strC i x.toNatClampNeg))) M := by
  refine vv_enter (lv := [(0, .ref (gS G (2 * i))), (1, .int x)]) "java/lang/String" rfl (by decide) (Nat.le_of_ble_eq_true rfl) rfl ?_
  intro E hE hC hQ hVC
  refine wa_aload_n 1 0 hC dJ0_charAt_5068e_0 rfl 0 rfl rfl ?_
  refine wa_callStr 4 hC [] [] knJ0_isLatin1_aae02 mvJ0_492 (t_isLatin1 E.2.1 hi) hi rfl (Nat.le_of_ble_eq_true rfl) (Nat.le_of_ble_eq_true rfl) rfl (Nat.le_of_ble_eq_true rfl) dJ0_charAt_5068e_1 rfl le00 rfl ?_
  refine wa_if_eq 7 16 hC dJ0_charAt_5068e_4 rfl rfl (α := Unit) (T := none) (F := some ()) (r := ()) (by decide) (fun h => by cases h) (fun _ => ?_)
  refine wa_aload_n 8 0 hC dJ0_charAt_5068e_7 rfl 0 rfl rfl ?_
  refine wa_valueF 11 hC hi dJ0_charAt_5068e_8 rfl ?_
  refine wa_iload_n 12 1 hC dJ0_charAt_5068e_11 rfl 1 rfl rfl ?_
  refine wa_callSi 15 hC [.ref (gS G (2 * i + 1)), .int x] [] knJ1_charAt_3b067 msJ0_495 (t_latAt E.2.1 hi hx) (Nat.le_of_ble_eq_true rfl) (Nat.le_of_ble_eq_true rfl) rfl (Nat.le_of_ble_eq_true rfl) dJ0_charAt_5068e_12 rfl le00 rfl ?_
  obtain ⟨e1, e2⟩ := strC_ok hi (inb_lt hx)
  exact wa_yret hC hQ rfl rfl e2 dJ0_charAt_5068e_15
end
section
variable {E : eU} {G : gU} {ρ : Nat → Nat → Nat} {V : Nat → Nat → Prop} {k1 k2 : Nat} {M : sM} {pc nL d mc ms : Nat} {lv : List (Nat × Value)} {st : List Value} {cc : ByteArray} {own : String} {ret : Option FieldType}
theorem w_slen : Cond.instanceMethod yJ0_length_8abf5 ∈ ALLW ∧ Cond.selects yJ0_length_8abf5.cls yJ0_length_8abf5 yJ0_length_8abf5 ∈ ALLW := ⟨inW 721 (by decide +kernel) (by decide +kernel), inW 722 (by decide +kernel) (by decide +kernel)⟩
theorem w_schar : Cond.instanceMethod yJ0_charAt_5068e ∈ ALLW ∧ Cond.selects yJ0_charAt_5068e.cls yJ0_charAt_5068e yJ0_charAt_5068e ∈ ALLW := ⟨inW 731 (by decide +kernel) (by decide +kernel), inW 732 (by decide +kernel) (by decide +kernel)⟩
theorem wa_slen (q : Nat) (hC : CX E G cc nL own ret d mc ms) {i index : Nat} (hL : Cond.methodLink own index yJ0_length_8abf5 ∈ ALLW) (hi : i < nSt) (hd : 3 ≤ d) (hst : (st.map fun v => v.category).sum ≤ 8) (hdg : decode cc pc = .ok (.invokevirtual index, 3)) (hq : pc + 3 = q) (hf : k1 ≤ mc ∧ k2 ≤ ms) (kk : WA E G ρ V k1 k2 M q lv (.int (strL i) :: st)) : WA E G ρ V k1 k2 M pc lv (.ref (gS G (2 * i)) :: st) :=
  wa_callStr q hC [] st knJ0_length_8abf5 ⟨Or.inl hL, w_slen.1, w_slen.2⟩ (t_length E.2.1 hi) hi rfl hd (by omega) rfl hst hdg hq hf rfl kk
theorem wa_schar (q : Nat) (hC : CX E G cc nL own ret d mc ms) {i index : Nat} {x : Int32} (hL : Cond.methodLink own index yJ0_charAt_5068e ∈ ALLW) (hi : i < nSt) (hx : inb x (sLen.getD i 0) = true) (hd : 5 ≤ d) (hst : (st.map fun v => v.category).sum ≤ 8) (hdg : decode cc pc = .ok (.invokevirtual index, 3)) (hq : pc + 3 = q) (hf : k1 ≤ mc ∧ k2 ≤ ms) (kk : WA E G ρ V k1 k2 M q lv (.int (strC i x.toNatClampNeg) :: st)) : WA E G ρ V k1 k2 M pc lv (.int x :: .ref (gS G (2 * i)) :: st) :=
  wa_callStr q hC [.int x] st knJ0_charAt_5068e ⟨Or.inl hL, w_schar.1, w_schar.2⟩ (t_charAt E.2.1 hi hx) hi rfl hd (by omega) rfl hst hdg hq hf rfl kk
end
