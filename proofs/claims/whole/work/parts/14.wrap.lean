set_option maxRecDepth 20000 in
theorem tL_append (l : Launch) (hl9 : l.stackTraces = false) {G : gU} {ρ : Nat → Nat → Nat} {V : Nat → Nat → Prop} {Z : sM} (x1 : Int32) (x2 : Int32) (x3 : Int32) (x4 : Int32) (x5 : Int32) (A : sM) (_ : VC V) {r : Int32} {A' : sM} (h : fL_append x1 x2 x3 x4 x5 A = some (r, A')) : MW l yL_append cL_append 8 [(0, 16, 19, 13)] 9 90 3000 G ρ V [.ref (ρ 9 0), .int x1, .int x2, .int x3, .int x4, .int x5, .ref (ρ 41 0)] (J A Z) r (J A' Z) := by
  refine vx_enterW (lv := [(0, .ref (ρ 9 0)), (1, .int x1), (2, .int x2), (3, .int x3), (4, .int x4), (5, .int x5), (6, .ref (ρ 41 0))]) RL rfl (by decide) (Nat.le_of_ble_eq_true rfl) rfl ?_
  intro E hE1 hC hQ htab hVC
  subst hE1
  have hE : Ext ρ V ρ V := Ext.rfl
  rw [fL_append] at h
  refine wa_aload 2 6 hC dL_append_0 6 rfl rfl ?_
  refine wa_iconst 3 hC dL_append_2 kc_0 rfl ?_
  refine wa_aload_n 4 0 hC dL_append_3 rfl 0 rfl rfl ?_
  refine wa_iload_n 5 1 hC dL_append_4 rfl 1 rfl rfl ?_
  refine wa_iload_n 6 2 hC dL_append_5 rfl 2 rfl rfl ?_
  refine wa_iload_n 7 3 hC dL_append_6 rfl 3 rfl rfl ?_
  refine wa_iload 9 4 hC dL_append_7 4 rfl rfl ?_
  refine wa_iload 11 5 hC dL_append_9 5 rfl rfl ?_
  rcases xc_some h with ⟨v, A1, e1, h⟩ | ⟨e, A1, e1, h⟩
  · have key : ∀ (ρ1 : Nat → Nat → Nat) (V1 : Nat → Nat → Prop), Ext ρ V ρ1 V1 → VC V1 → WA E G ρ1 V1 90 3000 (J A1 Z) 14 [(0, .ref (ρ1 9 0)), (1, .int x1), (2, .int x2), (3, .int x3), (4, .int x4), (5, .int x5), (6, .ref (ρ1 41 0))] [.int v, .int (0 : Int32), .ref (ρ1 41 0)] := by
      intro ρ V hE0 hVC
      have hE := Ext.trans hE hE0
      refine wa_i2l 15 hC dL_append_14 rfl ?_
      obtain ⟨A2, eA2, h⟩ := ltb_some h
      refine wa_lastc 16 hC (vs41 hVC) ar41 rfl (by decide) eA2 dL_append_15 rfl ?_
      refine wa_goto 23 hC dL_append_16 rfl ?_
      refine wa_iconst 24 hC dL_append_23 kc_0 rfl ?_
      exact wl_iret hC hQ hE (sm1 h) (jA (sm2 h)) (by decide) dL_append_24
    refine wl_call 14 hC [.int x1, .int x2, .int x3, .int x4, .int x5] [.int (0 : Int32), .ref (ρ 41 0)] knX9_append mwL_7 (tX9_append E.2.1 hl9 x1 x2 x3 x4 x5 A hVC e1) (vs9 hVC) kc9 (Nat.le_of_ble_eq_true rfl) (Nat.le_of_ble_eq_true rfl) rfl (Nat.le_of_ble_eq_true rfl) dL_append_11 rfl (by decide) rfl (st2 := [.int v, .int (0 : Int32), .ref (ρ 41 0)]) rfl (fun ρ1 V1 hE9 hVC9 => ?_)
    rw [← (hE9 9 0 (vs9 hVC)).2, ← (hE9 41 0 (vs41 hVC)).2]
    exact key ρ1 V1 hE9 hVC9
  · by_cases c2 : e = 2
    · subst c2
      rw [if_pos rfl] at h
      refine wl_catch (e9 := 2) hC [.int x1, .int x2, .int x3, .int x4, .int x5] [.int (0 : Int32), .ref (ρ 41 0)] knX9_append mwL_7 (tX9_append E.2.1 hl9 x1 x2 x3 x4 x5 A hVC e1) (vs9 hVC) kc9 (Nat.le_of_ble_eq_true rfl) (Nat.le_of_ble_eq_true rfl) rfl (Nat.le_of_ble_eq_true rfl) dL_append_11 (by decide) rfl htab [] ⟨0, 16, 19, 13⟩ [] rfl (fun _ hz => nomatch hz) (by decide) (by decide) cll_13 cst_2 (fun ρ1 V1 q9 hE9 hVC9 => ?_)
      rw [← (hE9 9 0 (vs9 hVC)).2, ← (hE9 41 0 (vs41 hVC)).2]
      refine wa_astore (lv' := [(7, .ref q9), (0, .ref (ρ1 9 0)), (1, .int x1), (2, .int x2), (3, .int x3), (4, .int x4), (5, .int x5), (6, .ref (ρ1 41 0))]) 21 7 hC dL_append_19 rfl (by decide) rfl rfl ?_
      refine wa_iconst 22 hC dL_append_21 kc_1 rfl ?_
      exact wl_iret hC hQ (Ext.trans hE hE9) (sm1 h) (jA (sm2 h)) (by decide) dL_append_22
    rw [if_neg c2] at h
    cases h
set_option maxRecDepth 20000 in
theorem tL_load (l : Launch) (hl9 : l.stackTraces = false) {G : gU} {ρ : Nat → Nat → Nat} {V : Nat → Nat → Prop} {Z : sM} (x1 : Int32) (A : sM) (_ : VC V) {r : Int32} {A' : sM} (h : fL_load x1 A = some (r, A')) : MW l yL_load cL_load 4 [(0, 9, 12, 19)] 12 90 3000 G ρ V [.ref (ρ 9 0), .int x1, .ref (ρ 41 0)] (J A Z) r (J A' Z) := by
  refine vx_enterW (lv := [(0, .ref (ρ 9 0)), (1, .int x1), (2, .ref (ρ 41 0))]) RL rfl (by decide) (Nat.le_of_ble_eq_true rfl) rfl ?_
  intro E hE1 hC hQ htab hVC
  subst hE1
  have hE : Ext ρ V ρ V := Ext.rfl
  rw [fL_load] at h
  refine wa_aload_n 1 2 hC dL_load_0 rfl 2 rfl rfl ?_
  refine wa_iconst 2 hC dL_load_1 kc_0 rfl ?_
  refine wa_aload_n 3 0 hC dL_load_2 rfl 0 rfl rfl ?_
  refine wa_iload_n 4 1 hC dL_load_3 rfl 1 rfl rfl ?_
  rcases xc_some h with ⟨v, A1, e1, h⟩ | ⟨e, A1, e1, h⟩
  · have key : ∀ (ρ1 : Nat → Nat → Nat) (V1 : Nat → Nat → Prop), Ext ρ V ρ1 V1 → VC V1 → WA E G ρ1 V1 90 3000 (J A1 Z) 7 [(0, .ref (ρ1 9 0)), (1, .int x1), (2, .ref (ρ1 41 0))] [.int v, .int (0 : Int32), .ref (ρ1 41 0)] := by
      intro ρ V hE0 hVC
      have hE := Ext.trans hE hE0
      refine wa_i2l 8 hC dL_load_7 rfl ?_
      obtain ⟨A2, eA2, h⟩ := ltb_some h
      refine wa_lastc 9 hC (vs41 hVC) ar41 rfl (by decide) eA2 dL_load_8 rfl ?_
      refine wa_goto 15 hC dL_load_9 rfl ?_
      refine wa_iconst 16 hC dL_load_15 kc_0 rfl ?_
      exact wl_iret hC hQ hE (sm1 h) (jA (sm2 h)) (by decide) dL_load_16
    refine wl_call 7 hC [.int x1] [.int (0 : Int32), .ref (ρ 41 0)] knX9_load mwL_15 (tX9_load E.2.1 hl9 x1 A hVC e1) (vs9 hVC) kc9 (Nat.le_of_ble_eq_true rfl) (Nat.le_of_ble_eq_true rfl) rfl (Nat.le_of_ble_eq_true rfl) dL_load_4 rfl (by decide) rfl (st2 := [.int v, .int (0 : Int32), .ref (ρ 41 0)]) rfl (fun ρ1 V1 hE9 hVC9 => ?_)
    rw [← (hE9 9 0 (vs9 hVC)).2, ← (hE9 41 0 (vs41 hVC)).2]
    exact key ρ1 V1 hE9 hVC9
  · by_cases c1 : e = 1
    · subst c1
      rw [if_pos rfl] at h
      refine wl_catch (e9 := 1) hC [.int x1] [.int (0 : Int32), .ref (ρ 41 0)] knX9_load mwL_15 (tX9_load E.2.1 hl9 x1 A hVC e1) (vs9 hVC) kc9 (Nat.le_of_ble_eq_true rfl) (Nat.le_of_ble_eq_true rfl) rfl (Nat.le_of_ble_eq_true rfl) dL_load_4 (by decide) rfl htab [] ⟨0, 9, 12, 19⟩ [] rfl (fun _ hz => nomatch hz) (by decide) (by decide) cll_19 cst_1 (fun ρ1 V1 q9 hE9 hVC9 => ?_)
      rw [← (hE9 9 0 (vs9 hVC)).2, ← (hE9 41 0 (vs41 hVC)).2]
      refine wa_astore_n (lv' := [(3, .ref q9), (0, .ref (ρ1 9 0)), (1, .int x1), (2, .ref (ρ1 41 0))]) 13 3 hC dL_load_12 rfl rfl (by decide) rfl rfl ?_
      refine wa_iconst 14 hC dL_load_13 kc_1 rfl ?_
      exact wl_iret hC hQ (Ext.trans hE hE9) (sm1 h) (jA (sm2 h)) (by decide) dL_load_14
    rw [if_neg c1] at h
    cases h
set_option maxRecDepth 20000 in
theorem tL_setting (l : Launch) (hl9 : l.stackTraces = false) {G : gU} {ρ : Nat → Nat → Nat} {V : Nat → Nat → Prop} {Z : sM} (x1 : Int32) (A : sM) (_ : VC V) {r : Int32} {A' : sM} (h : fL_setting x1 A = some (r, A')) : MW l yL_setting cL_setting 4 [(0, 9, 12, 19)] 9 90 3000 G ρ V [.ref (ρ 9 0), .int x1, .ref (ρ 41 0)] (J A Z) r (J A' Z) := by
  refine vx_enterW (lv := [(0, .ref (ρ 9 0)), (1, .int x1), (2, .ref (ρ 41 0))]) RL rfl (by decide) (Nat.le_of_ble_eq_true rfl) rfl ?_
  intro E hE1 hC hQ htab hVC
  subst hE1
  have hE : Ext ρ V ρ V := Ext.rfl
  rw [fL_setting] at h
  refine wa_aload_n 1 2 hC dL_setting_0 rfl 2 rfl rfl ?_
  refine wa_iconst 2 hC dL_setting_1 kc_0 rfl ?_
  refine wa_aload_n 3 0 hC dL_setting_2 rfl 0 rfl rfl ?_
  refine wa_iload_n 4 1 hC dL_setting_3 rfl 1 rfl rfl ?_
  rcases xc_some h with ⟨v, A1, e1, h⟩ | ⟨e, A1, e1, h⟩
  · have key : ∀ (ρ1 : Nat → Nat → Nat) (V1 : Nat → Nat → Prop), Ext ρ V ρ1 V1 → VC V1 → WA E G ρ1 V1 90 3000 (J A1 Z) 7 [(0, .ref (ρ1 9 0)), (1, .int x1), (2, .ref (ρ1 41 0))] [.int v, .int (0 : Int32), .ref (ρ1 41 0)] := by
      intro ρ V hE0 hVC
      have hE := Ext.trans hE hE0
      refine wa_i2l 8 hC dL_setting_7 rfl ?_
      obtain ⟨A2, eA2, h⟩ := ltb_some h
      refine wa_lastc 9 hC (vs41 hVC) ar41 rfl (by decide) eA2 dL_setting_8 rfl ?_
      refine wa_goto 15 hC dL_setting_9 rfl ?_
      refine wa_iconst 16 hC dL_setting_15 kc_0 rfl ?_
      exact wl_iret hC hQ hE (sm1 h) (jA (sm2 h)) (by decide) dL_setting_16
    refine wl_call 7 hC [.int x1] [.int (0 : Int32), .ref (ρ 41 0)] knX9_setting mwL_21 (tX9_setting E.2.1 hl9 x1 A hVC e1) (vs9 hVC) kc9 (Nat.le_of_ble_eq_true rfl) (Nat.le_of_ble_eq_true rfl) rfl (Nat.le_of_ble_eq_true rfl) dL_setting_4 rfl (by decide) rfl (st2 := [.int v, .int (0 : Int32), .ref (ρ 41 0)]) rfl (fun ρ1 V1 hE9 hVC9 => ?_)
    rw [← (hE9 9 0 (vs9 hVC)).2, ← (hE9 41 0 (vs41 hVC)).2]
    exact key ρ1 V1 hE9 hVC9
  · by_cases c1 : e = 1
    · subst c1
      rw [if_pos rfl] at h
      refine wl_catch (e9 := 1) hC [.int x1] [.int (0 : Int32), .ref (ρ 41 0)] knX9_setting mwL_21 (tX9_setting E.2.1 hl9 x1 A hVC e1) (vs9 hVC) kc9 (Nat.le_of_ble_eq_true rfl) (Nat.le_of_ble_eq_true rfl) rfl (Nat.le_of_ble_eq_true rfl) dL_setting_4 (by decide) rfl htab [] ⟨0, 9, 12, 19⟩ [] rfl (fun _ hz => nomatch hz) (by decide) (by decide) cll_19 cst_1 (fun ρ1 V1 q9 hE9 hVC9 => ?_)
      rw [← (hE9 9 0 (vs9 hVC)).2, ← (hE9 41 0 (vs41 hVC)).2]
      refine wa_astore_n (lv' := [(3, .ref q9), (0, .ref (ρ1 9 0)), (1, .int x1), (2, .ref (ρ1 41 0))]) 13 3 hC dL_setting_12 rfl rfl (by decide) rfl rfl ?_
      refine wa_iconst 14 hC dL_setting_13 kc_1 rfl ?_
      exact wl_iret hC hQ (Ext.trans hE hE9) (sm1 h) (jA (sm2 h)) (by decide) dL_setting_14
    rw [if_neg c1] at h
    cases h
set_option maxRecDepth 20000 in
theorem tL_periodOf (l : Launch) (hl9 : l.stackTraces = false) {G : gU} {ρ : Nat → Nat → Nat} {V : Nat → Nat → Prop} {Z : sM} (x1 : Int32) (A : sM) (_ : VC V) {r : Int32} {A' : sM} (h : fL_periodOf x1 A = some (r, A')) : MW l yL_periodOf cL_periodOf 4 [(0, 9, 12, 27)] 10 90 3000 G ρ V [.ref (ρ 9 0), .int x1, .ref (ρ 41 0)] (J A Z) r (J A' Z) := by
  refine vx_enterW (lv := [(0, .ref (ρ 9 0)), (1, .int x1), (2, .ref (ρ 41 0))]) RL rfl (by decide) (Nat.le_of_ble_eq_true rfl) rfl ?_
  intro E hE1 hC hQ htab hVC
  subst hE1
  have hE : Ext ρ V ρ V := Ext.rfl
  rw [fL_periodOf] at h
  refine wa_aload_n 1 2 hC dL_periodOf_0 rfl 2 rfl rfl ?_
  refine wa_iconst 2 hC dL_periodOf_1 kc_0 rfl ?_
  refine wa_aload_n 3 0 hC dL_periodOf_2 rfl 0 rfl rfl ?_
  refine wa_iload_n 4 1 hC dL_periodOf_3 rfl 1 rfl rfl ?_
  rcases xc_some h with ⟨v, A1, e1, h⟩ | ⟨e, A1, e1, h⟩
  · have key : ∀ (ρ1 : Nat → Nat → Nat) (V1 : Nat → Nat → Prop), Ext ρ V ρ1 V1 → VC V1 → WA E G ρ1 V1 90 3000 (J A1 Z) 7 [(0, .ref (ρ1 9 0)), (1, .int x1), (2, .ref (ρ1 41 0))] [.int v, .int (0 : Int32), .ref (ρ1 41 0)] := by
      intro ρ V hE0 hVC
      have hE := Ext.trans hE hE0
      refine wa_i2l 8 hC dL_periodOf_7 rfl ?_
      obtain ⟨A2, eA2, h⟩ := ltb_some h
      refine wa_lastc 9 hC (vs41 hVC) ar41 rfl (by decide) eA2 dL_periodOf_8 rfl ?_
      refine wa_goto 15 hC dL_periodOf_9 rfl ?_
      refine wa_iconst 16 hC dL_periodOf_15 kc_0 rfl ?_
      exact wl_iret hC hQ hE (sm1 h) (jA (sm2 h)) (by decide) dL_periodOf_16
    refine wl_call 7 hC [.int x1] [.int (0 : Int32), .ref (ρ 41 0)] knX9_periodOf mwL_24 (tX9_periodOf E.2.1 hl9 x1 A hVC e1) (vs9 hVC) kc9 (Nat.le_of_ble_eq_true rfl) (Nat.le_of_ble_eq_true rfl) rfl (Nat.le_of_ble_eq_true rfl) dL_periodOf_4 rfl (by decide) rfl (st2 := [.int v, .int (0 : Int32), .ref (ρ 41 0)]) rfl (fun ρ1 V1 hE9 hVC9 => ?_)
    rw [← (hE9 9 0 (vs9 hVC)).2, ← (hE9 41 0 (vs41 hVC)).2]
    exact key ρ1 V1 hE9 hVC9
  · by_cases c0 : e = 0
    · subst c0
      rw [if_pos rfl] at h
      refine wl_catch (e9 := 0) hC [.int x1] [.int (0 : Int32), .ref (ρ 41 0)] knX9_periodOf mwL_24 (tX9_periodOf E.2.1 hl9 x1 A hVC e1) (vs9 hVC) kc9 (Nat.le_of_ble_eq_true rfl) (Nat.le_of_ble_eq_true rfl) rfl (Nat.le_of_ble_eq_true rfl) dL_periodOf_4 (by decide) rfl htab [] ⟨0, 9, 12, 27⟩ [] rfl (fun _ hz => nomatch hz) (by decide) (by decide) cll_27 cst_0 (fun ρ1 V1 q9 hE9 hVC9 => ?_)
      rw [← (hE9 9 0 (vs9 hVC)).2, ← (hE9 41 0 (vs41 hVC)).2]
      refine wa_astore_n (lv' := [(3, .ref q9), (0, .ref (ρ1 9 0)), (1, .int x1), (2, .ref (ρ1 41 0))]) 13 3 hC dL_periodOf_12 rfl rfl (by decide) rfl rfl ?_
      refine wa_iconst 14 hC dL_periodOf_13 kc_1 rfl ?_
      exact wl_iret hC hQ (Ext.trans hE hE9) (sm1 h) (jA (sm2 h)) (by decide) dL_periodOf_14
    rw [if_neg c0] at h
    cases h
set_option maxRecDepth 20000 in
theorem tL_join (l : Launch) (hl9 : l.stackTraces = false) {G : gU} {ρ : Nat → Nat → Nat} {V : Nat → Nat → Prop} {Z : sM} (x1 : Int32) (x2 : Int32) (x3 : Int32) (A : sM) (_ : VC V) {r : Int32} {A' : sM} (h : fL_join x1 x2 x3 A = some (r, A')) : MW l yL_join cL_join 6 [(0, 12, 15, 19), (0, 12, 19, 13)] 9 90 3000 G ρ V [.ref (ρ 9 0), .int x1, .int x2, .int x3, .ref (ρ 41 0)] (J A Z) r (J A' Z) := by
  refine vx_enterW (lv := [(0, .ref (ρ 9 0)), (1, .int x1), (2, .int x2), (3, .int x3), (4, .ref (ρ 41 0))]) RL rfl (by decide) (Nat.le_of_ble_eq_true rfl) rfl ?_
  intro E hE1 hC hQ htab hVC
  subst hE1
  have hE : Ext ρ V ρ V := Ext.rfl
  rw [fL_join] at h
  refine wa_aload 2 4 hC dL_join_0 4 rfl rfl ?_
  refine wa_iconst 3 hC dL_join_2 kc_0 rfl ?_
  refine wa_aload_n 4 0 hC dL_join_3 rfl 0 rfl rfl ?_
  refine wa_iload_n 5 1 hC dL_join_4 rfl 1 rfl rfl ?_
  refine wa_iload_n 6 2 hC dL_join_5 rfl 2 rfl rfl ?_
  refine wa_iload_n 7 3 hC dL_join_6 rfl 3 rfl rfl ?_
  rcases xc_some h with ⟨v, A1, e1, h⟩ | ⟨e, A1, e1, h⟩
  · have key : ∀ (ρ1 : Nat → Nat → Nat) (V1 : Nat → Nat → Prop), Ext ρ V ρ1 V1 → VC V1 → WA E G ρ1 V1 90 3000 (J A1 Z) 10 [(0, .ref (ρ1 9 0)), (1, .int x1), (2, .int x2), (3, .int x3), (4, .ref (ρ1 41 0))] [.int v, .int (0 : Int32), .ref (ρ1 41 0)] := by
      intro ρ V hE0 hVC
      have hE := Ext.trans hE hE0
      refine wa_i2l 11 hC dL_join_10 rfl ?_
      obtain ⟨A2, eA2, h⟩ := ltb_some h
      refine wa_lastc 12 hC (vs41 hVC) ar41 rfl (by decide) eA2 dL_join_11 rfl ?_
      refine wa_goto 23 hC dL_join_12 rfl ?_
      refine wa_iconst 24 hC dL_join_23 kc_0 rfl ?_
      exact wl_iret hC hQ hE (sm1 h) (jA (sm2 h)) (by decide) dL_join_24
    refine wl_call 10 hC [.int x1, .int x2, .int x3] [.int (0 : Int32), .ref (ρ 41 0)] knX9_join mwL_29 (tX9_join E.2.1 hl9 x1 x2 x3 A hVC e1) (vs9 hVC) kc9 (Nat.le_of_ble_eq_true rfl) (Nat.le_of_ble_eq_true rfl) rfl (Nat.le_of_ble_eq_true rfl) dL_join_7 rfl (by decide) rfl (st2 := [.int v, .int (0 : Int32), .ref (ρ 41 0)]) rfl (fun ρ1 V1 hE9 hVC9 => ?_)
    rw [← (hE9 9 0 (vs9 hVC)).2, ← (hE9 41 0 (vs41 hVC)).2]
    exact key ρ1 V1 hE9 hVC9
  · by_cases c1 : e = 1
    · subst c1
      rw [if_pos rfl] at h
      refine wl_catch (e9 := 1) hC [.int x1, .int x2, .int x3] [.int (0 : Int32), .ref (ρ 41 0)] knX9_join mwL_29 (tX9_join E.2.1 hl9 x1 x2 x3 A hVC e1) (vs9 hVC) kc9 (Nat.le_of_ble_eq_true rfl) (Nat.le_of_ble_eq_true rfl) rfl (Nat.le_of_ble_eq_true rfl) dL_join_7 (by decide) rfl htab [] ⟨0, 12, 15, 19⟩ [⟨0, 12, 19, 13⟩] rfl (fun _ hz => nomatch hz) (by decide) (by decide) cll_19 cst_1 (fun ρ1 V1 q9 hE9 hVC9 => ?_)
      rw [← (hE9 9 0 (vs9 hVC)).2, ← (hE9 41 0 (vs41 hVC)).2]
      refine wa_astore (lv' := [(5, .ref q9), (0, .ref (ρ1 9 0)), (1, .int x1), (2, .int x2), (3, .int x3), (4, .ref (ρ1 41 0))]) 17 5 hC dL_join_15 rfl (by decide) rfl rfl ?_
      refine wa_iconst 18 hC dL_join_17 kc_1 rfl ?_
      exact wl_iret hC hQ (Ext.trans hE hE9) (sm1 h) (jA (sm2 h)) (by decide) dL_join_18
    rw [if_neg c1] at h
    by_cases c2 : e = 2
    · subst c2
      rw [if_pos rfl] at h
      refine wl_catch (e9 := 2) hC [.int x1, .int x2, .int x3] [.int (0 : Int32), .ref (ρ 41 0)] knX9_join mwL_29 (tX9_join E.2.1 hl9 x1 x2 x3 A hVC e1) (vs9 hVC) kc9 (Nat.le_of_ble_eq_true rfl) (Nat.le_of_ble_eq_true rfl) rfl (Nat.le_of_ble_eq_true rfl) dL_join_7 (by decide) rfl htab [⟨0, 12, 15, 19⟩] ⟨0, 12, 19, 13⟩ [] rfl (List.forall_mem_cons.mpr ⟨⟨by decide, _, cll_19, by decide⟩, (fun _ hz => nomatch hz)⟩) (by decide) (by decide) cll_13 cst_2 (fun ρ1 V1 q9 hE9 hVC9 => ?_)
      rw [← (hE9 9 0 (vs9 hVC)).2, ← (hE9 41 0 (vs41 hVC)).2]
      refine wa_astore (lv' := [(5, .ref q9), (0, .ref (ρ1 9 0)), (1, .int x1), (2, .int x2), (3, .int x3), (4, .ref (ρ1 41 0))]) 21 5 hC dL_join_19 rfl (by decide) rfl rfl ?_
      refine wa_iconst 22 hC dL_join_21 kc_2 rfl ?_
      exact wl_iret hC hQ (Ext.trans hE hE9) (sm1 h) (jA (sm2 h)) (by decide) dL_join_22
    rw [if_neg c2] at h
    cases h
set_option maxRecDepth 20000 in
theorem tL_more (l : Launch) (hl9 : l.stackTraces = false) {G : gU} {ρ : Nat → Nat → Nat} {V : Nat → Nat → Prop} {Z : sM} (x1 : Int32) (x2 : Int32) (A : sM) (_ : VC V) {r : Int32} {A' : sM} (h : fL_more x1 x2 A = some (r, A')) : MW l yL_more cL_more 5 [(0, 10, 13, 27), (0, 10, 17, 19), (0, 10, 21, 13)] 10 90 3000 G ρ V [.ref (ρ 9 0), .int x1, .int x2, .ref (ρ 41 0)] (J A Z) r (J A' Z) := by
  refine vx_enterW (lv := [(0, .ref (ρ 9 0)), (1, .int x1), (2, .int x2), (3, .ref (ρ 41 0))]) RL rfl (by decide) (Nat.le_of_ble_eq_true rfl) rfl ?_
  intro E hE1 hC hQ htab hVC
  subst hE1
  have hE : Ext ρ V ρ V := Ext.rfl
  rw [fL_more] at h
  refine wa_aload_n 1 3 hC dL_more_0 rfl 3 rfl rfl ?_
  refine wa_iconst 2 hC dL_more_1 kc_0 rfl ?_
  refine wa_aload_n 3 0 hC dL_more_2 rfl 0 rfl rfl ?_
  refine wa_iload_n 4 1 hC dL_more_3 rfl 1 rfl rfl ?_
  refine wa_iload_n 5 2 hC dL_more_4 rfl 2 rfl rfl ?_
  rcases xc_some h with ⟨v, A1, e1, h⟩ | ⟨e, A1, e1, h⟩
  · have key : ∀ (ρ1 : Nat → Nat → Nat) (V1 : Nat → Nat → Prop), Ext ρ V ρ1 V1 → VC V1 → WA E G ρ1 V1 90 3000 (J A1 Z) 8 [(0, .ref (ρ1 9 0)), (1, .int x1), (2, .int x2), (3, .ref (ρ1 41 0))] [.int v, .int (0 : Int32), .ref (ρ1 41 0)] := by
      intro ρ V hE0 hVC
      have hE := Ext.trans hE hE0
      refine wa_i2l 9 hC dL_more_8 rfl ?_
      obtain ⟨A2, eA2, h⟩ := ltb_some h
      refine wa_lastc 10 hC (vs41 hVC) ar41 rfl (by decide) eA2 dL_more_9 rfl ?_
      refine wa_goto 25 hC dL_more_10 rfl ?_
      refine wa_iconst 26 hC dL_more_25 kc_0 rfl ?_
      exact wl_iret hC hQ hE (sm1 h) (jA (sm2 h)) (by decide) dL_more_26
    refine wl_call 8 hC [.int x1, .int x2] [.int (0 : Int32), .ref (ρ 41 0)] knX9_more mwL_33 (tX9_more E.2.1 hl9 x1 x2 A hVC e1) (vs9 hVC) kc9 (Nat.le_of_ble_eq_true rfl) (Nat.le_of_ble_eq_true rfl) rfl (Nat.le_of_ble_eq_true rfl) dL_more_5 rfl (by decide) rfl (st2 := [.int v, .int (0 : Int32), .ref (ρ 41 0)]) rfl (fun ρ1 V1 hE9 hVC9 => ?_)
    rw [← (hE9 9 0 (vs9 hVC)).2, ← (hE9 41 0 (vs41 hVC)).2]
    exact key ρ1 V1 hE9 hVC9
  · by_cases c0 : e = 0
    · subst c0
      rw [if_pos rfl] at h
      refine wl_catch (e9 := 0) hC [.int x1, .int x2] [.int (0 : Int32), .ref (ρ 41 0)] knX9_more mwL_33 (tX9_more E.2.1 hl9 x1 x2 A hVC e1) (vs9 hVC) kc9 (Nat.le_of_ble_eq_true rfl) (Nat.le_of_ble_eq_true rfl) rfl (Nat.le_of_ble_eq_true rfl) dL_more_5 (by decide) rfl htab [] ⟨0, 10, 13, 27⟩ [⟨0, 10, 17, 19⟩, ⟨0, 10, 21, 13⟩] rfl (fun _ hz => nomatch hz) (by decide) (by decide) cll_27 cst_0 (fun ρ1 V1 q9 hE9 hVC9 => ?_)
      rw [← (hE9 9 0 (vs9 hVC)).2, ← (hE9 41 0 (vs41 hVC)).2]
      refine wa_astore (lv' := [(4, .ref q9), (0, .ref (ρ1 9 0)), (1, .int x1), (2, .int x2), (3, .ref (ρ1 41 0))]) 15 4 hC dL_more_13 rfl (by decide) rfl rfl ?_
      refine wa_iconst 16 hC dL_more_15 kc_1 rfl ?_
      exact wl_iret hC hQ (Ext.trans hE hE9) (sm1 h) (jA (sm2 h)) (by decide) dL_more_16
    rw [if_neg c0] at h
    by_cases c1 : e = 1
    · subst c1
      rw [if_pos rfl] at h
      refine wl_catch (e9 := 1) hC [.int x1, .int x2] [.int (0 : Int32), .ref (ρ 41 0)] knX9_more mwL_33 (tX9_more E.2.1 hl9 x1 x2 A hVC e1) (vs9 hVC) kc9 (Nat.le_of_ble_eq_true rfl) (Nat.le_of_ble_eq_true rfl) rfl (Nat.le_of_ble_eq_true rfl) dL_more_5 (by decide) rfl htab [⟨0, 10, 13, 27⟩] ⟨0, 10, 17, 19⟩ [⟨0, 10, 21, 13⟩] rfl (List.forall_mem_cons.mpr ⟨⟨by decide, _, cll_27, by decide⟩, (fun _ hz => nomatch hz)⟩) (by decide) (by decide) cll_19 cst_1 (fun ρ1 V1 q9 hE9 hVC9 => ?_)
      rw [← (hE9 9 0 (vs9 hVC)).2, ← (hE9 41 0 (vs41 hVC)).2]
      refine wa_astore (lv' := [(4, .ref q9), (0, .ref (ρ1 9 0)), (1, .int x1), (2, .int x2), (3, .ref (ρ1 41 0))]) 19 4 hC dL_more_17 rfl (by decide) rfl rfl ?_
      refine wa_iconst 20 hC dL_more_19 kc_2 rfl ?_
      exact wl_iret hC hQ (Ext.trans hE hE9) (sm1 h) (jA (sm2 h)) (by decide) dL_more_20
    rw [if_neg c1] at h
    by_cases c2 : e = 2
    · subst c2
      rw [if_pos rfl] at h
      refine wl_catch (e9 := 2) hC [.int x1, .int x2] [.int (0 : Int32), .ref (ρ 41 0)] knX9_more mwL_33 (tX9_more E.2.1 hl9 x1 x2 A hVC e1) (vs9 hVC) kc9 (Nat.le_of_ble_eq_true rfl) (Nat.le_of_ble_eq_true rfl) rfl (Nat.le_of_ble_eq_true rfl) dL_more_5 (by decide) rfl htab [⟨0, 10, 13, 27⟩, ⟨0, 10, 17, 19⟩] ⟨0, 10, 21, 13⟩ [] rfl (List.forall_mem_cons.mpr ⟨⟨by decide, _, cll_27, by decide⟩, (List.forall_mem_cons.mpr ⟨⟨by decide, _, cll_19, by decide⟩, (fun _ hz => nomatch hz)⟩)⟩) (by decide) (by decide) cll_13 cst_2 (fun ρ1 V1 q9 hE9 hVC9 => ?_)
      rw [← (hE9 9 0 (vs9 hVC)).2, ← (hE9 41 0 (vs41 hVC)).2]
      refine wa_astore (lv' := [(4, .ref q9), (0, .ref (ρ1 9 0)), (1, .int x1), (2, .int x2), (3, .ref (ρ1 41 0))]) 23 4 hC dL_more_21 rfl (by decide) rfl rfl ?_
      refine wa_iconst 24 hC dL_more_23 kc_3 rfl ?_
      exact wl_iret hC hQ (Ext.trans hE hE9) (sm1 h) (jA (sm2 h)) (by decide) dL_more_24
    rw [if_neg c2] at h
    cases h
set_option maxRecDepth 20000 in
theorem tL_reduce (l : Launch) (hl9 : l.stackTraces = false) {G : gU} {ρ : Nat → Nat → Nat} {V : Nat → Nat → Prop} {Z : sM} (x1 : Int32) (x2 : Int32) (A : sM) (_ : VC V) {r : Int32} {A' : sM} (h : fL_reduce x1 x2 A = some (r, A')) : MW l yL_reduce cL_reduce 5 [(0, 10, 13, 27), (0, 10, 17, 19), (0, 10, 21, 13)] 10 90 3000 G ρ V [.ref (ρ 9 0), .int x1, .int x2, .ref (ρ 41 0)] (J A Z) r (J A' Z) := by
  refine vx_enterW (lv := [(0, .ref (ρ 9 0)), (1, .int x1), (2, .int x2), (3, .ref (ρ 41 0))]) RL rfl (by decide) (Nat.le_of_ble_eq_true rfl) rfl ?_
  intro E hE1 hC hQ htab hVC
  subst hE1
  have hE : Ext ρ V ρ V := Ext.rfl
  rw [fL_reduce] at h
  refine wa_aload_n 1 3 hC dL_reduce_0 rfl 3 rfl rfl ?_
  refine wa_iconst 2 hC dL_reduce_1 kc_0 rfl ?_
  refine wa_aload_n 3 0 hC dL_reduce_2 rfl 0 rfl rfl ?_
  refine wa_iload_n 4 1 hC dL_reduce_3 rfl 1 rfl rfl ?_
  refine wa_iload_n 5 2 hC dL_reduce_4 rfl 2 rfl rfl ?_
  rcases xc_some h with ⟨v, A1, e1, h⟩ | ⟨e, A1, e1, h⟩
  · have key : ∀ (ρ1 : Nat → Nat → Nat) (V1 : Nat → Nat → Prop), Ext ρ V ρ1 V1 → VC V1 → WA E G ρ1 V1 90 3000 (J A1 Z) 8 [(0, .ref (ρ1 9 0)), (1, .int x1), (2, .int x2), (3, .ref (ρ1 41 0))] [.int v, .int (0 : Int32), .ref (ρ1 41 0)] := by
      intro ρ V hE0 hVC
      have hE := Ext.trans hE hE0
      refine wa_i2l 9 hC dL_reduce_8 rfl ?_
      obtain ⟨A2, eA2, h⟩ := ltb_some h
      refine wa_lastc 10 hC (vs41 hVC) ar41 rfl (by decide) eA2 dL_reduce_9 rfl ?_
      refine wa_goto 25 hC dL_reduce_10 rfl ?_
      refine wa_iconst 26 hC dL_reduce_25 kc_0 rfl ?_
      exact wl_iret hC hQ hE (sm1 h) (jA (sm2 h)) (by decide) dL_reduce_26
    refine wl_call 8 hC [.int x1, .int x2] [.int (0 : Int32), .ref (ρ 41 0)] knX9_reduce mwL_37 (tX9_reduce E.2.1 hl9 x1 x2 A hVC e1) (vs9 hVC) kc9 (Nat.le_of_ble_eq_true rfl) (Nat.le_of_ble_eq_true rfl) rfl (Nat.le_of_ble_eq_true rfl) dL_reduce_5 rfl (by decide) rfl (st2 := [.int v, .int (0 : Int32), .ref (ρ 41 0)]) rfl (fun ρ1 V1 hE9 hVC9 => ?_)
    rw [← (hE9 9 0 (vs9 hVC)).2, ← (hE9 41 0 (vs41 hVC)).2]
    exact key ρ1 V1 hE9 hVC9
  · by_cases c0 : e = 0
    · subst c0
      rw [if_pos rfl] at h
      refine wl_catch (e9 := 0) hC [.int x1, .int x2] [.int (0 : Int32), .ref (ρ 41 0)] knX9_reduce mwL_37 (tX9_reduce E.2.1 hl9 x1 x2 A hVC e1) (vs9 hVC) kc9 (Nat.le_of_ble_eq_true rfl) (Nat.le_of_ble_eq_true rfl) rfl (Nat.le_of_ble_eq_true rfl) dL_reduce_5 (by decide) rfl htab [] ⟨0, 10, 13, 27⟩ [⟨0, 10, 17, 19⟩, ⟨0, 10, 21, 13⟩] rfl (fun _ hz => nomatch hz) (by decide) (by decide) cll_27 cst_0 (fun ρ1 V1 q9 hE9 hVC9 => ?_)
      rw [← (hE9 9 0 (vs9 hVC)).2, ← (hE9 41 0 (vs41 hVC)).2]
      refine wa_astore (lv' := [(4, .ref q9), (0, .ref (ρ1 9 0)), (1, .int x1), (2, .int x2), (3, .ref (ρ1 41 0))]) 15 4 hC dL_reduce_13 rfl (by decide) rfl rfl ?_
      refine wa_iconst 16 hC dL_reduce_15 kc_1 rfl ?_
      exact wl_iret hC hQ (Ext.trans hE hE9) (sm1 h) (jA (sm2 h)) (by decide) dL_reduce_16
    rw [if_neg c0] at h
    by_cases c1 : e = 1
    · subst c1
      rw [if_pos rfl] at h
      refine wl_catch (e9 := 1) hC [.int x1, .int x2] [.int (0 : Int32), .ref (ρ 41 0)] knX9_reduce mwL_37 (tX9_reduce E.2.1 hl9 x1 x2 A hVC e1) (vs9 hVC) kc9 (Nat.le_of_ble_eq_true rfl) (Nat.le_of_ble_eq_true rfl) rfl (Nat.le_of_ble_eq_true rfl) dL_reduce_5 (by decide) rfl htab [⟨0, 10, 13, 27⟩] ⟨0, 10, 17, 19⟩ [⟨0, 10, 21, 13⟩] rfl (List.forall_mem_cons.mpr ⟨⟨by decide, _, cll_27, by decide⟩, (fun _ hz => nomatch hz)⟩) (by decide) (by decide) cll_19 cst_1 (fun ρ1 V1 q9 hE9 hVC9 => ?_)
      rw [← (hE9 9 0 (vs9 hVC)).2, ← (hE9 41 0 (vs41 hVC)).2]
      refine wa_astore (lv' := [(4, .ref q9), (0, .ref (ρ1 9 0)), (1, .int x1), (2, .int x2), (3, .ref (ρ1 41 0))]) 19 4 hC dL_reduce_17 rfl (by decide) rfl rfl ?_
      refine wa_iconst 20 hC dL_reduce_19 kc_2 rfl ?_
      exact wl_iret hC hQ (Ext.trans hE hE9) (sm1 h) (jA (sm2 h)) (by decide) dL_reduce_20
    rw [if_neg c1] at h
    by_cases c2 : e = 2
    · subst c2
      rw [if_pos rfl] at h
      refine wl_catch (e9 := 2) hC [.int x1, .int x2] [.int (0 : Int32), .ref (ρ 41 0)] knX9_reduce mwL_37 (tX9_reduce E.2.1 hl9 x1 x2 A hVC e1) (vs9 hVC) kc9 (Nat.le_of_ble_eq_true rfl) (Nat.le_of_ble_eq_true rfl) rfl (Nat.le_of_ble_eq_true rfl) dL_reduce_5 (by decide) rfl htab [⟨0, 10, 13, 27⟩, ⟨0, 10, 17, 19⟩] ⟨0, 10, 21, 13⟩ [] rfl (List.forall_mem_cons.mpr ⟨⟨by decide, _, cll_27, by decide⟩, (List.forall_mem_cons.mpr ⟨⟨by decide, _, cll_19, by decide⟩, (fun _ hz => nomatch hz)⟩)⟩) (by decide) (by decide) cll_13 cst_2 (fun ρ1 V1 q9 hE9 hVC9 => ?_)
      rw [← (hE9 9 0 (vs9 hVC)).2, ← (hE9 41 0 (vs41 hVC)).2]
      refine wa_astore (lv' := [(4, .ref q9), (0, .ref (ρ1 9 0)), (1, .int x1), (2, .int x2), (3, .ref (ρ1 41 0))]) 23 4 hC dL_reduce_21 rfl (by decide) rfl rfl ?_
      refine wa_iconst 24 hC dL_reduce_23 kc_3 rfl ?_
      exact wl_iret hC hQ (Ext.trans hE hE9) (sm1 h) (jA (sm2 h)) (by decide) dL_reduce_24
    rw [if_neg c2] at h
    cases h
set_option maxRecDepth 20000 in
theorem tL_transfer (l : Launch) (hl9 : l.stackTraces = false) {G : gU} {ρ : Nat → Nat → Nat} {V : Nat → Nat → Prop} {Z : sM} (x1 : Int32) (x2 : Int32) (x3 : Int32) (A : sM) (_ : VC V) {r : Int32} {A' : sM} (h : fL_transfer x1 x2 x3 A = some (r, A')) : MW l yL_transfer cL_transfer 6 [(0, 12, 15, 27), (0, 12, 19, 19), (0, 12, 23, 13)] 10 90 3000 G ρ V [.ref (ρ 9 0), .int x1, .int x2, .int x3, .ref (ρ 41 0)] (J A Z) r (J A' Z) := by
  refine vx_enterW (lv := [(0, .ref (ρ 9 0)), (1, .int x1), (2, .int x2), (3, .int x3), (4, .ref (ρ 41 0))]) RL rfl (by decide) (Nat.le_of_ble_eq_true rfl) rfl ?_
  intro E hE1 hC hQ htab hVC
  subst hE1
  have hE : Ext ρ V ρ V := Ext.rfl
  rw [fL_transfer] at h
  refine wa_aload 2 4 hC dL_transfer_0 4 rfl rfl ?_
  refine wa_iconst 3 hC dL_transfer_2 kc_0 rfl ?_
  refine wa_aload_n 4 0 hC dL_transfer_3 rfl 0 rfl rfl ?_
  refine wa_iload_n 5 1 hC dL_transfer_4 rfl 1 rfl rfl ?_
  refine wa_iload_n 6 2 hC dL_transfer_5 rfl 2 rfl rfl ?_
  refine wa_iload_n 7 3 hC dL_transfer_6 rfl 3 rfl rfl ?_
  rcases xc_some h with ⟨v, A1, e1, h⟩ | ⟨e, A1, e1, h⟩
  · have key : ∀ (ρ1 : Nat → Nat → Nat) (V1 : Nat → Nat → Prop), Ext ρ V ρ1 V1 → VC V1 → WA E G ρ1 V1 90 3000 (J A1 Z) 10 [(0, .ref (ρ1 9 0)), (1, .int x1), (2, .int x2), (3, .int x3), (4, .ref (ρ1 41 0))] [.int v, .int (0 : Int32), .ref (ρ1 41 0)] := by
      intro ρ V hE0 hVC
      have hE := Ext.trans hE hE0
      refine wa_i2l 11 hC dL_transfer_10 rfl ?_
      obtain ⟨A2, eA2, h⟩ := ltb_some h
      refine wa_lastc 12 hC (vs41 hVC) ar41 rfl (by decide) eA2 dL_transfer_11 rfl ?_
      refine wa_goto 27 hC dL_transfer_12 rfl ?_
      refine wa_iconst 28 hC dL_transfer_27 kc_0 rfl ?_
      exact wl_iret hC hQ hE (sm1 h) (jA (sm2 h)) (by decide) dL_transfer_28
    refine wl_call 10 hC [.int x1, .int x2, .int x3] [.int (0 : Int32), .ref (ρ 41 0)] knX9_transfer mwL_40 (tX9_transfer E.2.1 hl9 x1 x2 x3 A hVC e1) (vs9 hVC) kc9 (Nat.le_of_ble_eq_true rfl) (Nat.le_of_ble_eq_true rfl) rfl (Nat.le_of_ble_eq_true rfl) dL_transfer_7 rfl (by decide) rfl (st2 := [.int v, .int (0 : Int32), .ref (ρ 41 0)]) rfl (fun ρ1 V1 hE9 hVC9 => ?_)
    rw [← (hE9 9 0 (vs9 hVC)).2, ← (hE9 41 0 (vs41 hVC)).2]
    exact key ρ1 V1 hE9 hVC9
  · by_cases c0 : e = 0
    · subst c0
      rw [if_pos rfl] at h
      refine wl_catch (e9 := 0) hC [.int x1, .int x2, .int x3] [.int (0 : Int32), .ref (ρ 41 0)] knX9_transfer mwL_40 (tX9_transfer E.2.1 hl9 x1 x2 x3 A hVC e1) (vs9 hVC) kc9 (Nat.le_of_ble_eq_true rfl) (Nat.le_of_ble_eq_true rfl) rfl (Nat.le_of_ble_eq_true rfl) dL_transfer_7 (by decide) rfl htab [] ⟨0, 12, 15, 27⟩ [⟨0, 12, 19, 19⟩, ⟨0, 12, 23, 13⟩] rfl (fun _ hz => nomatch hz) (by decide) (by decide) cll_27 cst_0 (fun ρ1 V1 q9 hE9 hVC9 => ?_)
      rw [← (hE9 9 0 (vs9 hVC)).2, ← (hE9 41 0 (vs41 hVC)).2]
      refine wa_astore (lv' := [(5, .ref q9), (0, .ref (ρ1 9 0)), (1, .int x1), (2, .int x2), (3, .int x3), (4, .ref (ρ1 41 0))]) 17 5 hC dL_transfer_15 rfl (by decide) rfl rfl ?_
      refine wa_iconst 18 hC dL_transfer_17 kc_1 rfl ?_
      exact wl_iret hC hQ (Ext.trans hE hE9) (sm1 h) (jA (sm2 h)) (by decide) dL_transfer_18
    rw [if_neg c0] at h
    by_cases c1 : e = 1
    · subst c1
      rw [if_pos rfl] at h
      refine wl_catch (e9 := 1) hC [.int x1, .int x2, .int x3] [.int (0 : Int32), .ref (ρ 41 0)] knX9_transfer mwL_40 (tX9_transfer E.2.1 hl9 x1 x2 x3 A hVC e1) (vs9 hVC) kc9 (Nat.le_of_ble_eq_true rfl) (Nat.le_of_ble_eq_true rfl) rfl (Nat.le_of_ble_eq_true rfl) dL_transfer_7 (by decide) rfl htab [⟨0, 12, 15, 27⟩] ⟨0, 12, 19, 19⟩ [⟨0, 12, 23, 13⟩] rfl (List.forall_mem_cons.mpr ⟨⟨by decide, _, cll_27, by decide⟩, (fun _ hz => nomatch hz)⟩) (by decide) (by decide) cll_19 cst_1 (fun ρ1 V1 q9 hE9 hVC9 => ?_)
      rw [← (hE9 9 0 (vs9 hVC)).2, ← (hE9 41 0 (vs41 hVC)).2]
      refine wa_astore (lv' := [(5, .ref q9), (0, .ref (ρ1 9 0)), (1, .int x1), (2, .int x2), (3, .int x3), (4, .ref (ρ1 41 0))]) 21 5 hC dL_transfer_19 rfl (by decide) rfl rfl ?_
      refine wa_iconst 22 hC dL_transfer_21 kc_2 rfl ?_
      exact wl_iret hC hQ (Ext.trans hE hE9) (sm1 h) (jA (sm2 h)) (by decide) dL_transfer_22
    rw [if_neg c1] at h
    by_cases c2 : e = 2
    · subst c2
      rw [if_pos rfl] at h
      refine wl_catch (e9 := 2) hC [.int x1, .int x2, .int x3] [.int (0 : Int32), .ref (ρ 41 0)] knX9_transfer mwL_40 (tX9_transfer E.2.1 hl9 x1 x2 x3 A hVC e1) (vs9 hVC) kc9 (Nat.le_of_ble_eq_true rfl) (Nat.le_of_ble_eq_true rfl) rfl (Nat.le_of_ble_eq_true rfl) dL_transfer_7 (by decide) rfl htab [⟨0, 12, 15, 27⟩, ⟨0, 12, 19, 19⟩] ⟨0, 12, 23, 13⟩ [] rfl (List.forall_mem_cons.mpr ⟨⟨by decide, _, cll_27, by decide⟩, (List.forall_mem_cons.mpr ⟨⟨by decide, _, cll_19, by decide⟩, (fun _ hz => nomatch hz)⟩)⟩) (by decide) (by decide) cll_13 cst_2 (fun ρ1 V1 q9 hE9 hVC9 => ?_)
      rw [← (hE9 9 0 (vs9 hVC)).2, ← (hE9 41 0 (vs41 hVC)).2]
      refine wa_astore (lv' := [(5, .ref q9), (0, .ref (ρ1 9 0)), (1, .int x1), (2, .int x2), (3, .int x3), (4, .ref (ρ1 41 0))]) 25 5 hC dL_transfer_23 rfl (by decide) rfl rfl ?_
      refine wa_iconst 26 hC dL_transfer_25 kc_3 rfl ?_
      exact wl_iret hC hQ (Ext.trans hE hE9) (sm1 h) (jA (sm2 h)) (by decide) dL_transfer_26
    rw [if_neg c2] at h
    cases h
set_option maxRecDepth 20000 in
theorem tL_assign (l : Launch) (hl9 : l.stackTraces = false) {G : gU} {ρ : Nat → Nat → Nat} {V : Nat → Nat → Prop} {Z : sM} (x1 : Int32) (x2 : Int32) (x3 : Int32) (A : sM) (_ : VC V) {r : Int32} {A' : sM} (h : fL_assign x1 x2 x3 A = some (r, A')) : MW l yL_assign cL_assign 5 [(0, 7, 10, 27), (0, 7, 14, 19), (0, 7, 18, 13)] 10 90 3000 G ρ V [.ref (ρ 9 0), .int x1, .int x2, .int x3] (J A Z) r (J A' Z) := by
  refine vx_enterW (lv := [(0, .ref (ρ 9 0)), (1, .int x1), (2, .int x2), (3, .int x3)]) RL rfl (by decide) (Nat.le_of_ble_eq_true rfl) rfl ?_
  intro E hE1 hC hQ htab hVC
  subst hE1
  have hE : Ext ρ V ρ V := Ext.rfl
  rw [fL_assign] at h
  refine wa_aload_n 1 0 hC dL_assign_0 rfl 0 rfl rfl ?_
  refine wa_iload_n 2 1 hC dL_assign_1 rfl 1 rfl rfl ?_
  refine wa_iload_n 3 2 hC dL_assign_2 rfl 2 rfl rfl ?_
  refine wa_iload_n 4 3 hC dL_assign_3 rfl 3 rfl rfl ?_
  rcases xc_some h with ⟨v, A1, e1, h⟩ | ⟨e, A1, e1, h⟩
  · have key : ∀ (ρ1 : Nat → Nat → Nat) (V1 : Nat → Nat → Prop), Ext ρ V ρ1 V1 → VC V1 → WA E G ρ1 V1 90 3000 (J A1 Z) 7 [(0, .ref (ρ1 9 0)), (1, .int x1), (2, .int x2), (3, .int x3)] [] := by
      intro ρ V hE0 hVC
      have hE := Ext.trans hE hE0
      refine wa_goto 22 hC dL_assign_7 rfl ?_
      refine wa_iconst 23 hC dL_assign_22 kc_0 rfl ?_
      exact wl_iret hC hQ hE (sm1 h) (jA (sm2 h)) (by decide) dL_assign_23
    refine wl_call 7 hC [.int x1, .int x2, .int x3] [] knX9_assign mwL_43 (tX9_assign E.2.1 hl9 x1 x2 x3 A hVC e1) (vs9 hVC) kc9 (Nat.le_of_ble_eq_true rfl) (Nat.le_of_ble_eq_true rfl) rfl (Nat.le_of_ble_eq_true rfl) dL_assign_4 rfl (by decide) rfl (st2 := []) rfl (fun ρ1 V1 hE9 hVC9 => ?_)
    rw [← (hE9 9 0 (vs9 hVC)).2]
    exact key ρ1 V1 hE9 hVC9
  · by_cases c0 : e = 0
    · subst c0
      rw [if_pos rfl] at h
      refine wl_catch (e9 := 0) hC [.int x1, .int x2, .int x3] [] knX9_assign mwL_43 (tX9_assign E.2.1 hl9 x1 x2 x3 A hVC e1) (vs9 hVC) kc9 (Nat.le_of_ble_eq_true rfl) (Nat.le_of_ble_eq_true rfl) rfl (Nat.le_of_ble_eq_true rfl) dL_assign_4 (by decide) rfl htab [] ⟨0, 7, 10, 27⟩ [⟨0, 7, 14, 19⟩, ⟨0, 7, 18, 13⟩] rfl (fun _ hz => nomatch hz) (by decide) (by decide) cll_27 cst_0 (fun ρ1 V1 q9 hE9 hVC9 => ?_)
      rw [← (hE9 9 0 (vs9 hVC)).2]
      refine wa_astore (lv' := [(4, .ref q9), (0, .ref (ρ1 9 0)), (1, .int x1), (2, .int x2), (3, .int x3)]) 12 4 hC dL_assign_10 rfl (by decide) rfl rfl ?_
      refine wa_iconst 13 hC dL_assign_12 kc_1 rfl ?_
      exact wl_iret hC hQ (Ext.trans hE hE9) (sm1 h) (jA (sm2 h)) (by decide) dL_assign_13
    rw [if_neg c0] at h
    by_cases c1 : e = 1
    · subst c1
      rw [if_pos rfl] at h
      refine wl_catch (e9 := 1) hC [.int x1, .int x2, .int x3] [] knX9_assign mwL_43 (tX9_assign E.2.1 hl9 x1 x2 x3 A hVC e1) (vs9 hVC) kc9 (Nat.le_of_ble_eq_true rfl) (Nat.le_of_ble_eq_true rfl) rfl (Nat.le_of_ble_eq_true rfl) dL_assign_4 (by decide) rfl htab [⟨0, 7, 10, 27⟩] ⟨0, 7, 14, 19⟩ [⟨0, 7, 18, 13⟩] rfl (List.forall_mem_cons.mpr ⟨⟨by decide, _, cll_27, by decide⟩, (fun _ hz => nomatch hz)⟩) (by decide) (by decide) cll_19 cst_1 (fun ρ1 V1 q9 hE9 hVC9 => ?_)
      rw [← (hE9 9 0 (vs9 hVC)).2]
      refine wa_astore (lv' := [(4, .ref q9), (0, .ref (ρ1 9 0)), (1, .int x1), (2, .int x2), (3, .int x3)]) 16 4 hC dL_assign_14 rfl (by decide) rfl rfl ?_
      refine wa_iconst 17 hC dL_assign_16 kc_2 rfl ?_
      exact wl_iret hC hQ (Ext.trans hE hE9) (sm1 h) (jA (sm2 h)) (by decide) dL_assign_17
    rw [if_neg c1] at h
    by_cases c2 : e = 2
    · subst c2
      rw [if_pos rfl] at h
      refine wl_catch (e9 := 2) hC [.int x1, .int x2, .int x3] [] knX9_assign mwL_43 (tX9_assign E.2.1 hl9 x1 x2 x3 A hVC e1) (vs9 hVC) kc9 (Nat.le_of_ble_eq_true rfl) (Nat.le_of_ble_eq_true rfl) rfl (Nat.le_of_ble_eq_true rfl) dL_assign_4 (by decide) rfl htab [⟨0, 7, 10, 27⟩, ⟨0, 7, 14, 19⟩] ⟨0, 7, 18, 13⟩ [] rfl (List.forall_mem_cons.mpr ⟨⟨by decide, _, cll_27, by decide⟩, (List.forall_mem_cons.mpr ⟨⟨by decide, _, cll_19, by decide⟩, (fun _ hz => nomatch hz)⟩)⟩) (by decide) (by decide) cll_13 cst_2 (fun ρ1 V1 q9 hE9 hVC9 => ?_)
      rw [← (hE9 9 0 (vs9 hVC)).2]
      refine wa_astore (lv' := [(4, .ref q9), (0, .ref (ρ1 9 0)), (1, .int x1), (2, .int x2), (3, .int x3)]) 20 4 hC dL_assign_18 rfl (by decide) rfl rfl ?_
      refine wa_iconst 21 hC dL_assign_20 kc_3 rfl ?_
      exact wl_iret hC hQ (Ext.trans hE hE9) (sm1 h) (jA (sm2 h)) (by decide) dL_assign_21
    rw [if_neg c2] at h
    cases h
set_option maxRecDepth 20000 in
theorem tL_leave (l : Launch) (hl9 : l.stackTraces = false) {G : gU} {ρ : Nat → Nat → Nat} {V : Nat → Nat → Prop} {Z : sM} (x1 : Int32) (A : sM) (_ : VC V) {r : Int32} {A' : sM} (h : fL_leave x1 A = some (r, A')) : MW l yL_leave cL_leave 4 [(0, 8, 11, 27), (0, 8, 14, 13)] 10 90 3000 G ρ V [.ref (ρ 9 0), .int x1, .ref (ρ 41 0)] (J A Z) r (J A' Z) := by
  refine vx_enterW (lv := [(0, .ref (ρ 9 0)), (1, .int x1), (2, .ref (ρ 41 0))]) RL rfl (by decide) (Nat.le_of_ble_eq_true rfl) rfl ?_
  intro E hE1 hC hQ htab hVC
  subst hE1
  have hE : Ext ρ V ρ V := Ext.rfl
  rw [fL_leave] at h
  refine wa_aload_n 1 2 hC dL_leave_0 rfl 2 rfl rfl ?_
  refine wa_iconst 2 hC dL_leave_1 kc_0 rfl ?_
  refine wa_aload_n 3 0 hC dL_leave_2 rfl 0 rfl rfl ?_
  refine wa_iload_n 4 1 hC dL_leave_3 rfl 1 rfl rfl ?_
  rcases xc_some h with ⟨v, A1, e1, h⟩ | ⟨e, A1, e1, h⟩
  · have key : ∀ (ρ1 : Nat → Nat → Nat) (V1 : Nat → Nat → Prop), Ext ρ V ρ1 V1 → VC V1 → WA E G ρ1 V1 90 3000 (J A1 Z) 7 [(0, .ref (ρ1 9 0)), (1, .int x1), (2, .ref (ρ1 41 0))] [.long v, .int (0 : Int32), .ref (ρ1 41 0)] := by
      intro ρ V hE0 hVC
      have hE := Ext.trans hE hE0
      obtain ⟨A2, eA2, h⟩ := ltb_some h
      refine wa_lastc 8 hC (vs41 hVC) ar41 rfl (by decide) eA2 dL_leave_7 rfl ?_
      refine wa_goto 17 hC dL_leave_8 rfl ?_
      refine wa_iconst 18 hC dL_leave_17 kc_0 rfl ?_
      exact wl_iret hC hQ hE (sm1 h) (jA (sm2 h)) (by decide) dL_leave_18
    refine wl_call 7 hC [.int x1] [.int (0 : Int32), .ref (ρ 41 0)] knX9_leave mwL_47 (tX9_leave E.2.1 hl9 x1 A hVC e1) (vs9 hVC) kc9 (Nat.le_of_ble_eq_true rfl) (Nat.le_of_ble_eq_true rfl) rfl (Nat.le_of_ble_eq_true rfl) dL_leave_4 rfl (by decide) rfl (st2 := [.long v, .int (0 : Int32), .ref (ρ 41 0)]) rfl (fun ρ1 V1 hE9 hVC9 => ?_)
    rw [← (hE9 9 0 (vs9 hVC)).2, ← (hE9 41 0 (vs41 hVC)).2]
    exact key ρ1 V1 hE9 hVC9
  · by_cases c0 : e = 0
    · subst c0
      rw [if_pos rfl] at h
      refine wl_catch (e9 := 0) hC [.int x1] [.int (0 : Int32), .ref (ρ 41 0)] knX9_leave mwL_47 (tX9_leave E.2.1 hl9 x1 A hVC e1) (vs9 hVC) kc9 (Nat.le_of_ble_eq_true rfl) (Nat.le_of_ble_eq_true rfl) rfl (Nat.le_of_ble_eq_true rfl) dL_leave_4 (by decide) rfl htab [] ⟨0, 8, 11, 27⟩ [⟨0, 8, 14, 13⟩] rfl (fun _ hz => nomatch hz) (by decide) (by decide) cll_27 cst_0 (fun ρ1 V1 q9 hE9 hVC9 => ?_)
      rw [← (hE9 9 0 (vs9 hVC)).2, ← (hE9 41 0 (vs41 hVC)).2]
      refine wa_astore_n (lv' := [(3, .ref q9), (0, .ref (ρ1 9 0)), (1, .int x1), (2, .ref (ρ1 41 0))]) 12 3 hC dL_leave_11 rfl rfl (by decide) rfl rfl ?_
      refine wa_iconst 13 hC dL_leave_12 kc_1 rfl ?_
      exact wl_iret hC hQ (Ext.trans hE hE9) (sm1 h) (jA (sm2 h)) (by decide) dL_leave_13
    rw [if_neg c0] at h
    by_cases c2 : e = 2
    · subst c2
      rw [if_pos rfl] at h
      refine wl_catch (e9 := 2) hC [.int x1] [.int (0 : Int32), .ref (ρ 41 0)] knX9_leave mwL_47 (tX9_leave E.2.1 hl9 x1 A hVC e1) (vs9 hVC) kc9 (Nat.le_of_ble_eq_true rfl) (Nat.le_of_ble_eq_true rfl) rfl (Nat.le_of_ble_eq_true rfl) dL_leave_4 (by decide) rfl htab [⟨0, 8, 11, 27⟩] ⟨0, 8, 14, 13⟩ [] rfl (List.forall_mem_cons.mpr ⟨⟨by decide, _, cll_27, by decide⟩, (fun _ hz => nomatch hz)⟩) (by decide) (by decide) cll_13 cst_2 (fun ρ1 V1 q9 hE9 hVC9 => ?_)
      rw [← (hE9 9 0 (vs9 hVC)).2, ← (hE9 41 0 (vs41 hVC)).2]
      refine wa_astore_n (lv' := [(3, .ref q9), (0, .ref (ρ1 9 0)), (1, .int x1), (2, .ref (ρ1 41 0))]) 15 3 hC dL_leave_14 rfl rfl (by decide) rfl rfl ?_
      refine wa_iconst 16 hC dL_leave_15 kc_2 rfl ?_
      exact wl_iret hC hQ (Ext.trans hE hE9) (sm1 h) (jA (sm2 h)) (by decide) dL_leave_16
    rw [if_neg c2] at h
    cases h
set_option maxRecDepth 20000 in
theorem tL_state (l : Launch) (hl9 : l.stackTraces = false) {G : gU} {ρ : Nat → Nat → Nat} {V : Nat → Nat → Prop} {Z : sM} (x1 : Int32) (A : sM) (_ : VC V) {r : Int32} {A' : sM} (h : fL_state x1 A = some (r, A')) : MW l yL_state cL_state 4 [(0, 9, 12, 27)] 10 90 3000 G ρ V [.ref (ρ 9 0), .int x1, .ref (ρ 41 0)] (J A Z) r (J A' Z) := by
  refine vx_enterW (lv := [(0, .ref (ρ 9 0)), (1, .int x1), (2, .ref (ρ 41 0))]) RL rfl (by decide) (Nat.le_of_ble_eq_true rfl) rfl ?_
  intro E hE1 hC hQ htab hVC
  subst hE1
  have hE : Ext ρ V ρ V := Ext.rfl
  rw [fL_state] at h
  refine wa_aload_n 1 2 hC dL_state_0 rfl 2 rfl rfl ?_
  refine wa_iconst 2 hC dL_state_1 kc_0 rfl ?_
  refine wa_aload_n 3 0 hC dL_state_2 rfl 0 rfl rfl ?_
  refine wa_iload_n 4 1 hC dL_state_3 rfl 1 rfl rfl ?_
  rcases xc_some h with ⟨v, A1, e1, h⟩ | ⟨e, A1, e1, h⟩
  · have key : ∀ (ρ1 : Nat → Nat → Nat) (V1 : Nat → Nat → Prop), Ext ρ V ρ1 V1 → VC V1 → WA E G ρ1 V1 90 3000 (J A1 Z) 7 [(0, .ref (ρ1 9 0)), (1, .int x1), (2, .ref (ρ1 41 0))] [.int v, .int (0 : Int32), .ref (ρ1 41 0)] := by
      intro ρ V hE0 hVC
      have hE := Ext.trans hE hE0
      refine wa_i2l 8 hC dL_state_7 rfl ?_
      obtain ⟨A2, eA2, h⟩ := ltb_some h
      refine wa_lastc 9 hC (vs41 hVC) ar41 rfl (by decide) eA2 dL_state_8 rfl ?_
      refine wa_goto 15 hC dL_state_9 rfl ?_
      refine wa_iconst 16 hC dL_state_15 kc_0 rfl ?_
      exact wl_iret hC hQ hE (sm1 h) (jA (sm2 h)) (by decide) dL_state_16
    refine wl_call 7 hC [.int x1] [.int (0 : Int32), .ref (ρ 41 0)] knX9_state mwL_51 (tX9_state E.2.1 hl9 x1 A hVC e1) (vs9 hVC) kc9 (Nat.le_of_ble_eq_true rfl) (Nat.le_of_ble_eq_true rfl) rfl (Nat.le_of_ble_eq_true rfl) dL_state_4 rfl (by decide) rfl (st2 := [.int v, .int (0 : Int32), .ref (ρ 41 0)]) rfl (fun ρ1 V1 hE9 hVC9 => ?_)
    rw [← (hE9 9 0 (vs9 hVC)).2, ← (hE9 41 0 (vs41 hVC)).2]
    exact key ρ1 V1 hE9 hVC9
  · by_cases c0 : e = 0
    · subst c0
      rw [if_pos rfl] at h
      refine wl_catch (e9 := 0) hC [.int x1] [.int (0 : Int32), .ref (ρ 41 0)] knX9_state mwL_51 (tX9_state E.2.1 hl9 x1 A hVC e1) (vs9 hVC) kc9 (Nat.le_of_ble_eq_true rfl) (Nat.le_of_ble_eq_true rfl) rfl (Nat.le_of_ble_eq_true rfl) dL_state_4 (by decide) rfl htab [] ⟨0, 9, 12, 27⟩ [] rfl (fun _ hz => nomatch hz) (by decide) (by decide) cll_27 cst_0 (fun ρ1 V1 q9 hE9 hVC9 => ?_)
      rw [← (hE9 9 0 (vs9 hVC)).2, ← (hE9 41 0 (vs41 hVC)).2]
      refine wa_astore_n (lv' := [(3, .ref q9), (0, .ref (ρ1 9 0)), (1, .int x1), (2, .ref (ρ1 41 0))]) 13 3 hC dL_state_12 rfl rfl (by decide) rfl rfl ?_
      refine wa_iconst 14 hC dL_state_13 kc_1 rfl ?_
      exact wl_iret hC hQ (Ext.trans hE hE9) (sm1 h) (jA (sm2 h)) (by decide) dL_state_14
    rw [if_neg c0] at h
    cases h
set_option maxRecDepth 20000 in
theorem tL_shares (l : Launch) (hl9 : l.stackTraces = false) {G : gU} {ρ : Nat → Nat → Nat} {V : Nat → Nat → Prop} {Z : sM} (x1 : Int32) (A : sM) (_ : VC V) {r : Int32} {A' : sM} (h : fL_shares x1 A = some (r, A')) : MW l yL_shares cL_shares 4 [(0, 9, 12, 27)] 10 90 3000 G ρ V [.ref (ρ 9 0), .int x1, .ref (ρ 41 0)] (J A Z) r (J A' Z) := by
  refine vx_enterW (lv := [(0, .ref (ρ 9 0)), (1, .int x1), (2, .ref (ρ 41 0))]) RL rfl (by decide) (Nat.le_of_ble_eq_true rfl) rfl ?_
  intro E hE1 hC hQ htab hVC
  subst hE1
  have hE : Ext ρ V ρ V := Ext.rfl
  rw [fL_shares] at h
  refine wa_aload_n 1 2 hC dL_shares_0 rfl 2 rfl rfl ?_
  refine wa_iconst 2 hC dL_shares_1 kc_0 rfl ?_
  refine wa_aload_n 3 0 hC dL_shares_2 rfl 0 rfl rfl ?_
  refine wa_iload_n 4 1 hC dL_shares_3 rfl 1 rfl rfl ?_
  rcases xc_some h with ⟨v, A1, e1, h⟩ | ⟨e, A1, e1, h⟩
  · have key : ∀ (ρ1 : Nat → Nat → Nat) (V1 : Nat → Nat → Prop), Ext ρ V ρ1 V1 → VC V1 → WA E G ρ1 V1 90 3000 (J A1 Z) 7 [(0, .ref (ρ1 9 0)), (1, .int x1), (2, .ref (ρ1 41 0))] [.int v, .int (0 : Int32), .ref (ρ1 41 0)] := by
      intro ρ V hE0 hVC
      have hE := Ext.trans hE hE0
      refine wa_i2l 8 hC dL_shares_7 rfl ?_
      obtain ⟨A2, eA2, h⟩ := ltb_some h
      refine wa_lastc 9 hC (vs41 hVC) ar41 rfl (by decide) eA2 dL_shares_8 rfl ?_
      refine wa_goto 15 hC dL_shares_9 rfl ?_
      refine wa_iconst 16 hC dL_shares_15 kc_0 rfl ?_
      exact wl_iret hC hQ hE (sm1 h) (jA (sm2 h)) (by decide) dL_shares_16
    refine wl_call 7 hC [.int x1] [.int (0 : Int32), .ref (ρ 41 0)] knX9_shares mwL_54 (tX9_shares E.2.1 hl9 x1 A hVC e1) (vs9 hVC) kc9 (Nat.le_of_ble_eq_true rfl) (Nat.le_of_ble_eq_true rfl) rfl (Nat.le_of_ble_eq_true rfl) dL_shares_4 rfl (by decide) rfl (st2 := [.int v, .int (0 : Int32), .ref (ρ 41 0)]) rfl (fun ρ1 V1 hE9 hVC9 => ?_)
    rw [← (hE9 9 0 (vs9 hVC)).2, ← (hE9 41 0 (vs41 hVC)).2]
    exact key ρ1 V1 hE9 hVC9
  · by_cases c0 : e = 0
    · subst c0
      rw [if_pos rfl] at h
      refine wl_catch (e9 := 0) hC [.int x1] [.int (0 : Int32), .ref (ρ 41 0)] knX9_shares mwL_54 (tX9_shares E.2.1 hl9 x1 A hVC e1) (vs9 hVC) kc9 (Nat.le_of_ble_eq_true rfl) (Nat.le_of_ble_eq_true rfl) rfl (Nat.le_of_ble_eq_true rfl) dL_shares_4 (by decide) rfl htab [] ⟨0, 9, 12, 27⟩ [] rfl (fun _ hz => nomatch hz) (by decide) (by decide) cll_27 cst_0 (fun ρ1 V1 q9 hE9 hVC9 => ?_)
      rw [← (hE9 9 0 (vs9 hVC)).2, ← (hE9 41 0 (vs41 hVC)).2]
      refine wa_astore_n (lv' := [(3, .ref q9), (0, .ref (ρ1 9 0)), (1, .int x1), (2, .ref (ρ1 41 0))]) 13 3 hC dL_shares_12 rfl rfl (by decide) rfl rfl ?_
      refine wa_iconst 14 hC dL_shares_13 kc_1 rfl ?_
      exact wl_iret hC hQ (Ext.trans hE hE9) (sm1 h) (jA (sm2 h)) (by decide) dL_shares_14
    rw [if_neg c0] at h
    cases h
set_option maxRecDepth 20000 in
theorem tL_waitingPlace (l : Launch) (hl9 : l.stackTraces = false) {G : gU} {ρ : Nat → Nat → Nat} {V : Nat → Nat → Prop} {Z : sM} (x1 : Int32) (A : sM) (_ : VC V) {r : Int32} {A' : sM} (h : fL_waitingPlace x1 A = some (r, A')) : MW l yL_waitingPlace cL_waitingPlace 4 [(0, 9, 12, 27)] 10 90 3000 G ρ V [.ref (ρ 9 0), .int x1, .ref (ρ 41 0)] (J A Z) r (J A' Z) := by
  refine vx_enterW (lv := [(0, .ref (ρ 9 0)), (1, .int x1), (2, .ref (ρ 41 0))]) RL rfl (by decide) (Nat.le_of_ble_eq_true rfl) rfl ?_
  intro E hE1 hC hQ htab hVC
  subst hE1
  have hE : Ext ρ V ρ V := Ext.rfl
  rw [fL_waitingPlace] at h
  refine wa_aload_n 1 2 hC dL_waitingPlace_0 rfl 2 rfl rfl ?_
  refine wa_iconst 2 hC dL_waitingPlace_1 kc_0 rfl ?_
  refine wa_aload_n 3 0 hC dL_waitingPlace_2 rfl 0 rfl rfl ?_
  refine wa_iload_n 4 1 hC dL_waitingPlace_3 rfl 1 rfl rfl ?_
  rcases xc_some h with ⟨v, A1, e1, h⟩ | ⟨e, A1, e1, h⟩
  · have key : ∀ (ρ1 : Nat → Nat → Nat) (V1 : Nat → Nat → Prop), Ext ρ V ρ1 V1 → VC V1 → WA E G ρ1 V1 90 3000 (J A1 Z) 7 [(0, .ref (ρ1 9 0)), (1, .int x1), (2, .ref (ρ1 41 0))] [.int v, .int (0 : Int32), .ref (ρ1 41 0)] := by
      intro ρ V hE0 hVC
      have hE := Ext.trans hE hE0
      refine wa_i2l 8 hC dL_waitingPlace_7 rfl ?_
      obtain ⟨A2, eA2, h⟩ := ltb_some h
      refine wa_lastc 9 hC (vs41 hVC) ar41 rfl (by decide) eA2 dL_waitingPlace_8 rfl ?_
      refine wa_goto 15 hC dL_waitingPlace_9 rfl ?_
      refine wa_iconst 16 hC dL_waitingPlace_15 kc_0 rfl ?_
      exact wl_iret hC hQ hE (sm1 h) (jA (sm2 h)) (by decide) dL_waitingPlace_16
    refine wl_call 7 hC [.int x1] [.int (0 : Int32), .ref (ρ 41 0)] knX9_waitingPlace mwL_57 (tX9_waitingPlace E.2.1 hl9 x1 A hVC e1) (vs9 hVC) kc9 (Nat.le_of_ble_eq_true rfl) (Nat.le_of_ble_eq_true rfl) rfl (Nat.le_of_ble_eq_true rfl) dL_waitingPlace_4 rfl (by decide) rfl (st2 := [.int v, .int (0 : Int32), .ref (ρ 41 0)]) rfl (fun ρ1 V1 hE9 hVC9 => ?_)
    rw [← (hE9 9 0 (vs9 hVC)).2, ← (hE9 41 0 (vs41 hVC)).2]
    exact key ρ1 V1 hE9 hVC9
  · by_cases c0 : e = 0
    · subst c0
      rw [if_pos rfl] at h
      refine wl_catch (e9 := 0) hC [.int x1] [.int (0 : Int32), .ref (ρ 41 0)] knX9_waitingPlace mwL_57 (tX9_waitingPlace E.2.1 hl9 x1 A hVC e1) (vs9 hVC) kc9 (Nat.le_of_ble_eq_true rfl) (Nat.le_of_ble_eq_true rfl) rfl (Nat.le_of_ble_eq_true rfl) dL_waitingPlace_4 (by decide) rfl htab [] ⟨0, 9, 12, 27⟩ [] rfl (fun _ hz => nomatch hz) (by decide) (by decide) cll_27 cst_0 (fun ρ1 V1 q9 hE9 hVC9 => ?_)
      rw [← (hE9 9 0 (vs9 hVC)).2, ← (hE9 41 0 (vs41 hVC)).2]
      refine wa_astore_n (lv' := [(3, .ref q9), (0, .ref (ρ1 9 0)), (1, .int x1), (2, .ref (ρ1 41 0))]) 13 3 hC dL_waitingPlace_12 rfl rfl (by decide) rfl rfl ?_
      refine wa_iconst 14 hC dL_waitingPlace_13 kc_1 rfl ?_
      exact wl_iret hC hQ (Ext.trans hE hE9) (sm1 h) (jA (sm2 h)) (by decide) dL_waitingPlace_14
    rw [if_neg c0] at h
    cases h
set_option maxRecDepth 20000 in
theorem tL_passDays (l : Launch) (hl9 : l.stackTraces = false) {G : gU} {ρ : Nat → Nat → Nat} {V : Nat → Nat → Prop} {Z : sM} (x1 : Int32) (A : sM) (_ : VC V) {r : Int32} {A' : sM} (h : fL_passDays x1 A = some (r, A')) : MW l yL_passDays cL_passDays 4 [(0, 9, 12, 19), (0, 9, 15, 13)] 9 90 3000 G ρ V [.ref (ρ 9 0), .int x1, .ref (ρ 41 0)] (J A Z) r (J A' Z) := by
  refine vx_enterW (lv := [(0, .ref (ρ 9 0)), (1, .int x1), (2, .ref (ρ 41 0))]) RL rfl (by decide) (Nat.le_of_ble_eq_true rfl) rfl ?_
  intro E hE1 hC hQ htab hVC
  subst hE1
  have hE : Ext ρ V ρ V := Ext.rfl
  rw [fL_passDays] at h
  refine wa_aload_n 1 2 hC dL_passDays_0 rfl 2 rfl rfl ?_
  refine wa_iconst 2 hC dL_passDays_1 kc_0 rfl ?_
  refine wa_aload_n 3 0 hC dL_passDays_2 rfl 0 rfl rfl ?_
  refine wa_iload_n 4 1 hC dL_passDays_3 rfl 1 rfl rfl ?_
  rcases xc_some h with ⟨v, A1, e1, h⟩ | ⟨e, A1, e1, h⟩
  · have key : ∀ (ρ1 : Nat → Nat → Nat) (V1 : Nat → Nat → Prop), Ext ρ V ρ1 V1 → VC V1 → WA E G ρ1 V1 90 3000 (J A1 Z) 7 [(0, .ref (ρ1 9 0)), (1, .int x1), (2, .ref (ρ1 41 0))] [.int v, .int (0 : Int32), .ref (ρ1 41 0)] := by
      intro ρ V hE0 hVC
      have hE := Ext.trans hE hE0
      refine wa_i2l 8 hC dL_passDays_7 rfl ?_
      obtain ⟨A2, eA2, h⟩ := ltb_some h
      refine wa_lastc 9 hC (vs41 hVC) ar41 rfl (by decide) eA2 dL_passDays_8 rfl ?_
      refine wa_goto 18 hC dL_passDays_9 rfl ?_
      refine wa_iconst 19 hC dL_passDays_18 kc_0 rfl ?_
      exact wl_iret hC hQ hE (sm1 h) (jA (sm2 h)) (by decide) dL_passDays_19
    refine wl_call 7 hC [.int x1] [.int (0 : Int32), .ref (ρ 41 0)] knX9_passDays mwL_60 (tX9_passDays E.2.1 hl9 x1 A hVC e1) (vs9 hVC) kc9 (Nat.le_of_ble_eq_true rfl) (Nat.le_of_ble_eq_true rfl) rfl (Nat.le_of_ble_eq_true rfl) dL_passDays_4 rfl (by decide) rfl (st2 := [.int v, .int (0 : Int32), .ref (ρ 41 0)]) rfl (fun ρ1 V1 hE9 hVC9 => ?_)
    rw [← (hE9 9 0 (vs9 hVC)).2, ← (hE9 41 0 (vs41 hVC)).2]
    exact key ρ1 V1 hE9 hVC9
  · by_cases c1 : e = 1
    · subst c1
      rw [if_pos rfl] at h
      refine wl_catch (e9 := 1) hC [.int x1] [.int (0 : Int32), .ref (ρ 41 0)] knX9_passDays mwL_60 (tX9_passDays E.2.1 hl9 x1 A hVC e1) (vs9 hVC) kc9 (Nat.le_of_ble_eq_true rfl) (Nat.le_of_ble_eq_true rfl) rfl (Nat.le_of_ble_eq_true rfl) dL_passDays_4 (by decide) rfl htab [] ⟨0, 9, 12, 19⟩ [⟨0, 9, 15, 13⟩] rfl (fun _ hz => nomatch hz) (by decide) (by decide) cll_19 cst_1 (fun ρ1 V1 q9 hE9 hVC9 => ?_)
      rw [← (hE9 9 0 (vs9 hVC)).2, ← (hE9 41 0 (vs41 hVC)).2]
      refine wa_astore_n (lv' := [(3, .ref q9), (0, .ref (ρ1 9 0)), (1, .int x1), (2, .ref (ρ1 41 0))]) 13 3 hC dL_passDays_12 rfl rfl (by decide) rfl rfl ?_
      refine wa_iconst 14 hC dL_passDays_13 kc_1 rfl ?_
      exact wl_iret hC hQ (Ext.trans hE hE9) (sm1 h) (jA (sm2 h)) (by decide) dL_passDays_14
    rw [if_neg c1] at h
    by_cases c2 : e = 2
    · subst c2
      rw [if_pos rfl] at h
      refine wl_catch (e9 := 2) hC [.int x1] [.int (0 : Int32), .ref (ρ 41 0)] knX9_passDays mwL_60 (tX9_passDays E.2.1 hl9 x1 A hVC e1) (vs9 hVC) kc9 (Nat.le_of_ble_eq_true rfl) (Nat.le_of_ble_eq_true rfl) rfl (Nat.le_of_ble_eq_true rfl) dL_passDays_4 (by decide) rfl htab [⟨0, 9, 12, 19⟩] ⟨0, 9, 15, 13⟩ [] rfl (List.forall_mem_cons.mpr ⟨⟨by decide, _, cll_19, by decide⟩, (fun _ hz => nomatch hz)⟩) (by decide) (by decide) cll_13 cst_2 (fun ρ1 V1 q9 hE9 hVC9 => ?_)
      rw [← (hE9 9 0 (vs9 hVC)).2, ← (hE9 41 0 (vs41 hVC)).2]
      refine wa_astore_n (lv' := [(3, .ref q9), (0, .ref (ρ1 9 0)), (1, .int x1), (2, .ref (ρ1 41 0))]) 16 3 hC dL_passDays_15 rfl rfl (by decide) rfl rfl ?_
      refine wa_iconst 17 hC dL_passDays_16 kc_2 rfl ?_
      exact wl_iret hC hQ (Ext.trans hE hE9) (sm1 h) (jA (sm2 h)) (by decide) dL_passDays_17
    rw [if_neg c2] at h
    cases h
set_option maxRecDepth 20000 in
theorem tL_generate (l : Launch) (hl9 : l.stackTraces = false) {G : gU} {ρ : Nat → Nat → Nat} {V : Nat → Nat → Prop} {Z : sM} (x1 : Int32) (x2 : Int32) (A : sM) (_ : VC V) {r : Int32} {A' : sM} (h : fL_generate x1 x2 A = some (r, A')) : MW l yL_generate cL_generate 5 [(0, 10, 13, 27), (0, 10, 17, 19), (0, 10, 21, 13)] 10 90 3000 G ρ V [.ref (ρ 9 0), .int x1, .int x2, .ref (ρ 41 0)] (J A Z) r (J A' Z) := by
  refine vx_enterW (lv := [(0, .ref (ρ 9 0)), (1, .int x1), (2, .int x2), (3, .ref (ρ 41 0))]) RL rfl (by decide) (Nat.le_of_ble_eq_true rfl) rfl ?_
  intro E hE1 hC hQ htab hVC
  subst hE1
  have hE : Ext ρ V ρ V := Ext.rfl
  rw [fL_generate] at h
  refine wa_aload_n 1 3 hC dL_generate_0 rfl 3 rfl rfl ?_
  refine wa_iconst 2 hC dL_generate_1 kc_0 rfl ?_
  refine wa_aload_n 3 0 hC dL_generate_2 rfl 0 rfl rfl ?_
  refine wa_iload_n 4 1 hC dL_generate_3 rfl 1 rfl rfl ?_
  refine wa_iload_n 5 2 hC dL_generate_4 rfl 2 rfl rfl ?_
  rcases xc_some h with ⟨v, A1, e1, h⟩ | ⟨e, A1, e1, h⟩
  · have key : ∀ (ρ1 : Nat → Nat → Nat) (V1 : Nat → Nat → Prop), Ext ρ V ρ1 V1 → VC V1 → WA E G ρ1 V1 90 3000 (J A1 Z) 8 [(0, .ref (ρ1 9 0)), (1, .int x1), (2, .int x2), (3, .ref (ρ1 41 0))] [.int v, .int (0 : Int32), .ref (ρ1 41 0)] := by
      intro ρ V hE0 hVC
      have hE := Ext.trans hE hE0
      refine wa_i2l 9 hC dL_generate_8 rfl ?_
      obtain ⟨A2, eA2, h⟩ := ltb_some h
      refine wa_lastc 10 hC (vs41 hVC) ar41 rfl (by decide) eA2 dL_generate_9 rfl ?_
      refine wa_goto 25 hC dL_generate_10 rfl ?_
      refine wa_iconst 26 hC dL_generate_25 kc_0 rfl ?_
      exact wl_iret hC hQ hE (sm1 h) (jA (sm2 h)) (by decide) dL_generate_26
    refine wl_call 8 hC [.int x1, .int x2] [.int (0 : Int32), .ref (ρ 41 0)] knX9_generate mwL_63 (tX9_generate E.2.1 hl9 x1 x2 A hVC e1) (vs9 hVC) kc9 (Nat.le_of_ble_eq_true rfl) (Nat.le_of_ble_eq_true rfl) rfl (Nat.le_of_ble_eq_true rfl) dL_generate_5 rfl (by decide) rfl (st2 := [.int v, .int (0 : Int32), .ref (ρ 41 0)]) rfl (fun ρ1 V1 hE9 hVC9 => ?_)
    rw [← (hE9 9 0 (vs9 hVC)).2, ← (hE9 41 0 (vs41 hVC)).2]
    exact key ρ1 V1 hE9 hVC9
  · by_cases c0 : e = 0
    · subst c0
      rw [if_pos rfl] at h
      refine wl_catch (e9 := 0) hC [.int x1, .int x2] [.int (0 : Int32), .ref (ρ 41 0)] knX9_generate mwL_63 (tX9_generate E.2.1 hl9 x1 x2 A hVC e1) (vs9 hVC) kc9 (Nat.le_of_ble_eq_true rfl) (Nat.le_of_ble_eq_true rfl) rfl (Nat.le_of_ble_eq_true rfl) dL_generate_5 (by decide) rfl htab [] ⟨0, 10, 13, 27⟩ [⟨0, 10, 17, 19⟩, ⟨0, 10, 21, 13⟩] rfl (fun _ hz => nomatch hz) (by decide) (by decide) cll_27 cst_0 (fun ρ1 V1 q9 hE9 hVC9 => ?_)
      rw [← (hE9 9 0 (vs9 hVC)).2, ← (hE9 41 0 (vs41 hVC)).2]
      refine wa_astore (lv' := [(4, .ref q9), (0, .ref (ρ1 9 0)), (1, .int x1), (2, .int x2), (3, .ref (ρ1 41 0))]) 15 4 hC dL_generate_13 rfl (by decide) rfl rfl ?_
      refine wa_iconst 16 hC dL_generate_15 kc_1 rfl ?_
      exact wl_iret hC hQ (Ext.trans hE hE9) (sm1 h) (jA (sm2 h)) (by decide) dL_generate_16
    rw [if_neg c0] at h
    by_cases c1 : e = 1
    · subst c1
      rw [if_pos rfl] at h
      refine wl_catch (e9 := 1) hC [.int x1, .int x2] [.int (0 : Int32), .ref (ρ 41 0)] knX9_generate mwL_63 (tX9_generate E.2.1 hl9 x1 x2 A hVC e1) (vs9 hVC) kc9 (Nat.le_of_ble_eq_true rfl) (Nat.le_of_ble_eq_true rfl) rfl (Nat.le_of_ble_eq_true rfl) dL_generate_5 (by decide) rfl htab [⟨0, 10, 13, 27⟩] ⟨0, 10, 17, 19⟩ [⟨0, 10, 21, 13⟩] rfl (List.forall_mem_cons.mpr ⟨⟨by decide, _, cll_27, by decide⟩, (fun _ hz => nomatch hz)⟩) (by decide) (by decide) cll_19 cst_1 (fun ρ1 V1 q9 hE9 hVC9 => ?_)
      rw [← (hE9 9 0 (vs9 hVC)).2, ← (hE9 41 0 (vs41 hVC)).2]
      refine wa_astore (lv' := [(4, .ref q9), (0, .ref (ρ1 9 0)), (1, .int x1), (2, .int x2), (3, .ref (ρ1 41 0))]) 19 4 hC dL_generate_17 rfl (by decide) rfl rfl ?_
      refine wa_iconst 20 hC dL_generate_19 kc_2 rfl ?_
      exact wl_iret hC hQ (Ext.trans hE hE9) (sm1 h) (jA (sm2 h)) (by decide) dL_generate_20
    rw [if_neg c1] at h
    by_cases c2 : e = 2
    · subst c2
      rw [if_pos rfl] at h
      refine wl_catch (e9 := 2) hC [.int x1, .int x2] [.int (0 : Int32), .ref (ρ 41 0)] knX9_generate mwL_63 (tX9_generate E.2.1 hl9 x1 x2 A hVC e1) (vs9 hVC) kc9 (Nat.le_of_ble_eq_true rfl) (Nat.le_of_ble_eq_true rfl) rfl (Nat.le_of_ble_eq_true rfl) dL_generate_5 (by decide) rfl htab [⟨0, 10, 13, 27⟩, ⟨0, 10, 17, 19⟩] ⟨0, 10, 21, 13⟩ [] rfl (List.forall_mem_cons.mpr ⟨⟨by decide, _, cll_27, by decide⟩, (List.forall_mem_cons.mpr ⟨⟨by decide, _, cll_19, by decide⟩, (fun _ hz => nomatch hz)⟩)⟩) (by decide) (by decide) cll_13 cst_2 (fun ρ1 V1 q9 hE9 hVC9 => ?_)
      rw [← (hE9 9 0 (vs9 hVC)).2, ← (hE9 41 0 (vs41 hVC)).2]
      refine wa_astore (lv' := [(4, .ref q9), (0, .ref (ρ1 9 0)), (1, .int x1), (2, .int x2), (3, .ref (ρ1 41 0))]) 23 4 hC dL_generate_21 rfl (by decide) rfl rfl ?_
      refine wa_iconst 24 hC dL_generate_23 kc_3 rfl ?_
      exact wl_iret hC hQ (Ext.trans hE hE9) (sm1 h) (jA (sm2 h)) (by decide) dL_generate_24
    rw [if_neg c2] at h
    cases h
set_option maxRecDepth 20000 in
theorem tL_bill (l : Launch) (hl9 : l.stackTraces = false) {G : gU} {ρ : Nat → Nat → Nat} {V : Nat → Nat → Prop} {Z : sM} (x1 : Int32) (x2 : Int32) (A : sM) (_ : VC V) {r : Int32} {A' : sM} (h : fL_bill x1 x2 A = some (r, A')) : MW l yL_bill cL_bill 5 [(0, 9, 12, 27), (0, 9, 16, 19), (0, 9, 20, 13)] 10 90 3000 G ρ V [.ref (ρ 9 0), .int x1, .int x2, .ref (ρ 41 0)] (J A Z) r (J A' Z) := by
  refine vx_enterW (lv := [(0, .ref (ρ 9 0)), (1, .int x1), (2, .int x2), (3, .ref (ρ 41 0))]) RL rfl (by decide) (Nat.le_of_ble_eq_true rfl) rfl ?_
  intro E hE1 hC hQ htab hVC
  subst hE1
  have hE : Ext ρ V ρ V := Ext.rfl
  rw [fL_bill] at h
  refine wa_aload_n 1 3 hC dL_bill_0 rfl 3 rfl rfl ?_
  refine wa_iconst 2 hC dL_bill_1 kc_0 rfl ?_
  refine wa_aload_n 3 0 hC dL_bill_2 rfl 0 rfl rfl ?_
  refine wa_iload_n 4 1 hC dL_bill_3 rfl 1 rfl rfl ?_
  refine wa_iload_n 5 2 hC dL_bill_4 rfl 2 rfl rfl ?_
  rcases xc_some h with ⟨v, A1, e1, h⟩ | ⟨e, A1, e1, h⟩
  · have key : ∀ (ρ1 : Nat → Nat → Nat) (V1 : Nat → Nat → Prop), Ext ρ V ρ1 V1 → VC V1 → WA E G ρ1 V1 90 3000 (J A1 Z) 8 [(0, .ref (ρ1 9 0)), (1, .int x1), (2, .int x2), (3, .ref (ρ1 41 0))] [.long v, .int (0 : Int32), .ref (ρ1 41 0)] := by
      intro ρ V hE0 hVC
      have hE := Ext.trans hE hE0
      obtain ⟨A2, eA2, h⟩ := ltb_some h
      refine wa_lastc 9 hC (vs41 hVC) ar41 rfl (by decide) eA2 dL_bill_8 rfl ?_
      refine wa_goto 24 hC dL_bill_9 rfl ?_
      refine wa_iconst 25 hC dL_bill_24 kc_0 rfl ?_
      exact wl_iret hC hQ hE (sm1 h) (jA (sm2 h)) (by decide) dL_bill_25
    refine wl_call 8 hC [.int x1, .int x2] [.int (0 : Int32), .ref (ρ 41 0)] knX9_bill mwL_66 (tX9_bill E.2.1 hl9 x1 x2 A hVC e1) (vs9 hVC) kc9 (Nat.le_of_ble_eq_true rfl) (Nat.le_of_ble_eq_true rfl) rfl (Nat.le_of_ble_eq_true rfl) dL_bill_5 rfl (by decide) rfl (st2 := [.long v, .int (0 : Int32), .ref (ρ 41 0)]) rfl (fun ρ1 V1 hE9 hVC9 => ?_)
    rw [← (hE9 9 0 (vs9 hVC)).2, ← (hE9 41 0 (vs41 hVC)).2]
    exact key ρ1 V1 hE9 hVC9
  · by_cases c0 : e = 0
    · subst c0
      rw [if_pos rfl] at h
      refine wl_catch (e9 := 0) hC [.int x1, .int x2] [.int (0 : Int32), .ref (ρ 41 0)] knX9_bill mwL_66 (tX9_bill E.2.1 hl9 x1 x2 A hVC e1) (vs9 hVC) kc9 (Nat.le_of_ble_eq_true rfl) (Nat.le_of_ble_eq_true rfl) rfl (Nat.le_of_ble_eq_true rfl) dL_bill_5 (by decide) rfl htab [] ⟨0, 9, 12, 27⟩ [⟨0, 9, 16, 19⟩, ⟨0, 9, 20, 13⟩] rfl (fun _ hz => nomatch hz) (by decide) (by decide) cll_27 cst_0 (fun ρ1 V1 q9 hE9 hVC9 => ?_)
      rw [← (hE9 9 0 (vs9 hVC)).2, ← (hE9 41 0 (vs41 hVC)).2]
      refine wa_astore (lv' := [(4, .ref q9), (0, .ref (ρ1 9 0)), (1, .int x1), (2, .int x2), (3, .ref (ρ1 41 0))]) 14 4 hC dL_bill_12 rfl (by decide) rfl rfl ?_
      refine wa_iconst 15 hC dL_bill_14 kc_1 rfl ?_
      exact wl_iret hC hQ (Ext.trans hE hE9) (sm1 h) (jA (sm2 h)) (by decide) dL_bill_15
    rw [if_neg c0] at h
    by_cases c1 : e = 1
    · subst c1
      rw [if_pos rfl] at h
      refine wl_catch (e9 := 1) hC [.int x1, .int x2] [.int (0 : Int32), .ref (ρ 41 0)] knX9_bill mwL_66 (tX9_bill E.2.1 hl9 x1 x2 A hVC e1) (vs9 hVC) kc9 (Nat.le_of_ble_eq_true rfl) (Nat.le_of_ble_eq_true rfl) rfl (Nat.le_of_ble_eq_true rfl) dL_bill_5 (by decide) rfl htab [⟨0, 9, 12, 27⟩] ⟨0, 9, 16, 19⟩ [⟨0, 9, 20, 13⟩] rfl (List.forall_mem_cons.mpr ⟨⟨by decide, _, cll_27, by decide⟩, (fun _ hz => nomatch hz)⟩) (by decide) (by decide) cll_19 cst_1 (fun ρ1 V1 q9 hE9 hVC9 => ?_)
      rw [← (hE9 9 0 (vs9 hVC)).2, ← (hE9 41 0 (vs41 hVC)).2]
      refine wa_astore (lv' := [(4, .ref q9), (0, .ref (ρ1 9 0)), (1, .int x1), (2, .int x2), (3, .ref (ρ1 41 0))]) 18 4 hC dL_bill_16 rfl (by decide) rfl rfl ?_
      refine wa_iconst 19 hC dL_bill_18 kc_2 rfl ?_
      exact wl_iret hC hQ (Ext.trans hE hE9) (sm1 h) (jA (sm2 h)) (by decide) dL_bill_19
    rw [if_neg c1] at h
    by_cases c2 : e = 2
    · subst c2
      rw [if_pos rfl] at h
      refine wl_catch (e9 := 2) hC [.int x1, .int x2] [.int (0 : Int32), .ref (ρ 41 0)] knX9_bill mwL_66 (tX9_bill E.2.1 hl9 x1 x2 A hVC e1) (vs9 hVC) kc9 (Nat.le_of_ble_eq_true rfl) (Nat.le_of_ble_eq_true rfl) rfl (Nat.le_of_ble_eq_true rfl) dL_bill_5 (by decide) rfl htab [⟨0, 9, 12, 27⟩, ⟨0, 9, 16, 19⟩] ⟨0, 9, 20, 13⟩ [] rfl (List.forall_mem_cons.mpr ⟨⟨by decide, _, cll_27, by decide⟩, (List.forall_mem_cons.mpr ⟨⟨by decide, _, cll_19, by decide⟩, (fun _ hz => nomatch hz)⟩)⟩) (by decide) (by decide) cll_13 cst_2 (fun ρ1 V1 q9 hE9 hVC9 => ?_)
      rw [← (hE9 9 0 (vs9 hVC)).2, ← (hE9 41 0 (vs41 hVC)).2]
      refine wa_astore (lv' := [(4, .ref q9), (0, .ref (ρ1 9 0)), (1, .int x1), (2, .int x2), (3, .ref (ρ1 41 0))]) 22 4 hC dL_bill_20 rfl (by decide) rfl rfl ?_
      refine wa_iconst 23 hC dL_bill_22 kc_3 rfl ?_
      exact wl_iret hC hQ (Ext.trans hE hE9) (sm1 h) (jA (sm2 h)) (by decide) dL_bill_23
    rw [if_neg c2] at h
    cases h
set_option maxRecDepth 20000 in
theorem tL_endMonth (l : Launch) (hl9 : l.stackTraces = false) {G : gU} {ρ : Nat → Nat → Nat} {V : Nat → Nat → Prop} {Z : sM} (A : sM) (_ : VC V) {r : Int32} {A' : sM} (h : fL_endMonth A = some (r, A')) : MW l yL_endMonth cL_endMonth 3 [(0, 7, 10, 13)] 9 90 3000 G ρ V [.ref (ρ 9 0), .ref (ρ 41 0)] (J A Z) r (J A' Z) := by
  refine vx_enterW (lv := [(0, .ref (ρ 9 0)), (1, .ref (ρ 41 0))]) RL rfl (by decide) (Nat.le_of_ble_eq_true rfl) rfl ?_
  intro E hE1 hC hQ htab hVC
  subst hE1
  have hE : Ext ρ V ρ V := Ext.rfl
  rw [fL_endMonth] at h
  refine wa_aload_n 1 1 hC dL_endMonth_0 rfl 1 rfl rfl ?_
  refine wa_iconst 2 hC dL_endMonth_1 kc_0 rfl ?_
  refine wa_aload_n 3 0 hC dL_endMonth_2 rfl 0 rfl rfl ?_
  rcases xc_some h with ⟨v, A1, e1, h⟩ | ⟨e, A1, e1, h⟩
  · have key : ∀ (ρ1 : Nat → Nat → Nat) (V1 : Nat → Nat → Prop), Ext ρ V ρ1 V1 → VC V1 → WA E G ρ1 V1 90 3000 (J A1 Z) 6 [(0, .ref (ρ1 9 0)), (1, .ref (ρ1 41 0))] [.long v, .int (0 : Int32), .ref (ρ1 41 0)] := by
      intro ρ V hE0 hVC
      have hE := Ext.trans hE hE0
      obtain ⟨A2, eA2, h⟩ := ltb_some h
      refine wa_lastc 7 hC (vs41 hVC) ar41 rfl (by decide) eA2 dL_endMonth_6 rfl ?_
      refine wa_goto 13 hC dL_endMonth_7 rfl ?_
      refine wa_iconst 14 hC dL_endMonth_13 kc_0 rfl ?_
      exact wl_iret hC hQ hE (sm1 h) (jA (sm2 h)) (by decide) dL_endMonth_14
    refine wl_call 6 hC [] [.int (0 : Int32), .ref (ρ 41 0)] knX9_endMonth mwL_70 (tX9_endMonth E.2.1 hl9 A hVC e1) (vs9 hVC) kc9 (Nat.le_of_ble_eq_true rfl) (Nat.le_of_ble_eq_true rfl) rfl (Nat.le_of_ble_eq_true rfl) dL_endMonth_3 rfl (by decide) rfl (st2 := [.long v, .int (0 : Int32), .ref (ρ 41 0)]) rfl (fun ρ1 V1 hE9 hVC9 => ?_)
    rw [← (hE9 9 0 (vs9 hVC)).2, ← (hE9 41 0 (vs41 hVC)).2]
    exact key ρ1 V1 hE9 hVC9
  · by_cases c2 : e = 2
    · subst c2
      rw [if_pos rfl] at h
      refine wl_catch (e9 := 2) hC [] [.int (0 : Int32), .ref (ρ 41 0)] knX9_endMonth mwL_70 (tX9_endMonth E.2.1 hl9 A hVC e1) (vs9 hVC) kc9 (Nat.le_of_ble_eq_true rfl) (Nat.le_of_ble_eq_true rfl) rfl (Nat.le_of_ble_eq_true rfl) dL_endMonth_3 (by decide) rfl htab [] ⟨0, 7, 10, 13⟩ [] rfl (fun _ hz => nomatch hz) (by decide) (by decide) cll_13 cst_2 (fun ρ1 V1 q9 hE9 hVC9 => ?_)
      rw [← (hE9 9 0 (vs9 hVC)).2, ← (hE9 41 0 (vs41 hVC)).2]
      refine wa_astore_n (lv' := [(2, .ref q9), (0, .ref (ρ1 9 0)), (1, .ref (ρ1 41 0))]) 11 2 hC dL_endMonth_10 rfl rfl (by decide) rfl rfl ?_
      refine wa_iconst 12 hC dL_endMonth_11 kc_1 rfl ?_
      exact wl_iret hC hQ (Ext.trans hE hE9) (sm1 h) (jA (sm2 h)) (by decide) dL_endMonth_12
    rw [if_neg c2] at h
    cases h
set_option maxRecDepth 20000 in
theorem tL_generation (l : Launch) (hl9 : l.stackTraces = false) {G : gU} {ρ : Nat → Nat → Nat} {V : Nat → Nat → Prop} {Z : sM} (x1 : Int32) (x2 : Int32) (A : sM) (_ : VC V) {r : Int32} {A' : sM} (h : fL_generation x1 x2 A = some (r, A')) : MW l yL_generation cL_generation 5 [(0, 10, 13, 27)] 10 90 3000 G ρ V [.ref (ρ 9 0), .int x1, .int x2, .ref (ρ 41 0)] (J A Z) r (J A' Z) := by
  refine vx_enterW (lv := [(0, .ref (ρ 9 0)), (1, .int x1), (2, .int x2), (3, .ref (ρ 41 0))]) RL rfl (by decide) (Nat.le_of_ble_eq_true rfl) rfl ?_
  intro E hE1 hC hQ htab hVC
  subst hE1
  have hE : Ext ρ V ρ V := Ext.rfl
  rw [fL_generation] at h
  refine wa_aload_n 1 3 hC dL_generation_0 rfl 3 rfl rfl ?_
  refine wa_iconst 2 hC dL_generation_1 kc_0 rfl ?_
  refine wa_aload_n 3 0 hC dL_generation_2 rfl 0 rfl rfl ?_
  refine wa_iload_n 4 1 hC dL_generation_3 rfl 1 rfl rfl ?_
  refine wa_iload_n 5 2 hC dL_generation_4 rfl 2 rfl rfl ?_
  rcases xc_some h with ⟨v, A1, e1, h⟩ | ⟨e, A1, e1, h⟩
  · have key : ∀ (ρ1 : Nat → Nat → Nat) (V1 : Nat → Nat → Prop), Ext ρ V ρ1 V1 → VC V1 → WA E G ρ1 V1 90 3000 (J A1 Z) 8 [(0, .ref (ρ1 9 0)), (1, .int x1), (2, .int x2), (3, .ref (ρ1 41 0))] [.int v, .int (0 : Int32), .ref (ρ1 41 0)] := by
      intro ρ V hE0 hVC
      have hE := Ext.trans hE hE0
      refine wa_i2l 9 hC dL_generation_8 rfl ?_
      obtain ⟨A2, eA2, h⟩ := ltb_some h
      refine wa_lastc 10 hC (vs41 hVC) ar41 rfl (by decide) eA2 dL_generation_9 rfl ?_
      refine wa_goto 17 hC dL_generation_10 rfl ?_
      refine wa_iconst 18 hC dL_generation_17 kc_0 rfl ?_
      exact wl_iret hC hQ hE (sm1 h) (jA (sm2 h)) (by decide) dL_generation_18
    refine wl_call 8 hC [.int x1, .int x2] [.int (0 : Int32), .ref (ρ 41 0)] knX9_generation mwL_74 (tX9_generation E.2.1 hl9 x1 x2 A hVC e1) (vs9 hVC) kc9 (Nat.le_of_ble_eq_true rfl) (Nat.le_of_ble_eq_true rfl) rfl (Nat.le_of_ble_eq_true rfl) dL_generation_5 rfl (by decide) rfl (st2 := [.int v, .int (0 : Int32), .ref (ρ 41 0)]) rfl (fun ρ1 V1 hE9 hVC9 => ?_)
    rw [← (hE9 9 0 (vs9 hVC)).2, ← (hE9 41 0 (vs41 hVC)).2]
    exact key ρ1 V1 hE9 hVC9
  · by_cases c0 : e = 0
    · subst c0
      rw [if_pos rfl] at h
      refine wl_catch (e9 := 0) hC [.int x1, .int x2] [.int (0 : Int32), .ref (ρ 41 0)] knX9_generation mwL_74 (tX9_generation E.2.1 hl9 x1 x2 A hVC e1) (vs9 hVC) kc9 (Nat.le_of_ble_eq_true rfl) (Nat.le_of_ble_eq_true rfl) rfl (Nat.le_of_ble_eq_true rfl) dL_generation_5 (by decide) rfl htab [] ⟨0, 10, 13, 27⟩ [] rfl (fun _ hz => nomatch hz) (by decide) (by decide) cll_27 cst_0 (fun ρ1 V1 q9 hE9 hVC9 => ?_)
      rw [← (hE9 9 0 (vs9 hVC)).2, ← (hE9 41 0 (vs41 hVC)).2]
      refine wa_astore (lv' := [(4, .ref q9), (0, .ref (ρ1 9 0)), (1, .int x1), (2, .int x2), (3, .ref (ρ1 41 0))]) 15 4 hC dL_generation_13 rfl (by decide) rfl rfl ?_
      refine wa_iconst 16 hC dL_generation_15 kc_1 rfl ?_
      exact wl_iret hC hQ (Ext.trans hE hE9) (sm1 h) (jA (sm2 h)) (by decide) dL_generation_16
    rw [if_neg c0] at h
    cases h
set_option maxRecDepth 20000 in
theorem tL_shareDays (l : Launch) (hl9 : l.stackTraces = false) {G : gU} {ρ : Nat → Nat → Nat} {V : Nat → Nat → Prop} {Z : sM} (x1 : Int32) (x2 : Int32) (A : sM) (_ : VC V) {r : Int32} {A' : sM} (h : fL_shareDays x1 x2 A = some (r, A')) : MW l yL_shareDays cL_shareDays 5 [(0, 10, 13, 27)] 11 90 3000 G ρ V [.ref (ρ 9 0), .int x1, .int x2, .ref (ρ 41 0)] (J A Z) r (J A' Z) := by
  refine vx_enterW (lv := [(0, .ref (ρ 9 0)), (1, .int x1), (2, .int x2), (3, .ref (ρ 41 0))]) RL rfl (by decide) (Nat.le_of_ble_eq_true rfl) rfl ?_
  intro E hE1 hC hQ htab hVC
  subst hE1
  have hE : Ext ρ V ρ V := Ext.rfl
  rw [fL_shareDays] at h
  refine wa_aload_n 1 3 hC dL_shareDays_0 rfl 3 rfl rfl ?_
  refine wa_iconst 2 hC dL_shareDays_1 kc_0 rfl ?_
  refine wa_aload_n 3 0 hC dL_shareDays_2 rfl 0 rfl rfl ?_
  refine wa_iload_n 4 1 hC dL_shareDays_3 rfl 1 rfl rfl ?_
  refine wa_iload_n 5 2 hC dL_shareDays_4 rfl 2 rfl rfl ?_
  rcases xc_some h with ⟨v, A1, e1, h⟩ | ⟨e, A1, e1, h⟩
  · have key : ∀ (ρ1 : Nat → Nat → Nat) (V1 : Nat → Nat → Prop), Ext ρ V ρ1 V1 → VC V1 → WA E G ρ1 V1 90 3000 (J A1 Z) 8 [(0, .ref (ρ1 9 0)), (1, .int x1), (2, .int x2), (3, .ref (ρ1 41 0))] [.int v, .int (0 : Int32), .ref (ρ1 41 0)] := by
      intro ρ V hE0 hVC
      have hE := Ext.trans hE hE0
      refine wa_i2l 9 hC dL_shareDays_8 rfl ?_
      obtain ⟨A2, eA2, h⟩ := ltb_some h
      refine wa_lastc 10 hC (vs41 hVC) ar41 rfl (by decide) eA2 dL_shareDays_9 rfl ?_
      refine wa_goto 17 hC dL_shareDays_10 rfl ?_
      refine wa_iconst 18 hC dL_shareDays_17 kc_0 rfl ?_
      exact wl_iret hC hQ hE (sm1 h) (jA (sm2 h)) (by decide) dL_shareDays_18
    refine wl_call 8 hC [.int x1, .int x2] [.int (0 : Int32), .ref (ρ 41 0)] knX9_shareDays mwL_77 (tX9_shareDays E.2.1 hl9 x1 x2 A hVC e1) (vs9 hVC) kc9 (Nat.le_of_ble_eq_true rfl) (Nat.le_of_ble_eq_true rfl) rfl (Nat.le_of_ble_eq_true rfl) dL_shareDays_5 rfl (by decide) rfl (st2 := [.int v, .int (0 : Int32), .ref (ρ 41 0)]) rfl (fun ρ1 V1 hE9 hVC9 => ?_)
    rw [← (hE9 9 0 (vs9 hVC)).2, ← (hE9 41 0 (vs41 hVC)).2]
    exact key ρ1 V1 hE9 hVC9
  · by_cases c0 : e = 0
    · subst c0
      rw [if_pos rfl] at h
      refine wl_catch (e9 := 0) hC [.int x1, .int x2] [.int (0 : Int32), .ref (ρ 41 0)] knX9_shareDays mwL_77 (tX9_shareDays E.2.1 hl9 x1 x2 A hVC e1) (vs9 hVC) kc9 (Nat.le_of_ble_eq_true rfl) (Nat.le_of_ble_eq_true rfl) rfl (Nat.le_of_ble_eq_true rfl) dL_shareDays_5 (by decide) rfl htab [] ⟨0, 10, 13, 27⟩ [] rfl (fun _ hz => nomatch hz) (by decide) (by decide) cll_27 cst_0 (fun ρ1 V1 q9 hE9 hVC9 => ?_)
      rw [← (hE9 9 0 (vs9 hVC)).2, ← (hE9 41 0 (vs41 hVC)).2]
      refine wa_astore (lv' := [(4, .ref q9), (0, .ref (ρ1 9 0)), (1, .int x1), (2, .int x2), (3, .ref (ρ1 41 0))]) 15 4 hC dL_shareDays_13 rfl (by decide) rfl rfl ?_
      refine wa_iconst 16 hC dL_shareDays_15 kc_1 rfl ?_
      exact wl_iret hC hQ (Ext.trans hE hE9) (sm1 h) (jA (sm2 h)) (by decide) dL_shareDays_16
    rw [if_neg c0] at h
    cases h
set_option maxRecDepth 20000 in
theorem tL_projectedPart (l : Launch) (hl9 : l.stackTraces = false) {G : gU} {ρ : Nat → Nat → Nat} {V : Nat → Nat → Prop} {Z : sM} (x1 : Int32) (A : sM) (_ : VC V) {r : Int32} {A' : sM} (h : fL_projectedPart x1 A = some (r, A')) : MW l yL_projectedPart cL_projectedPart 4 [(0, 8, 11, 27)] 11 90 3000 G ρ V [.ref (ρ 9 0), .int x1, .ref (ρ 41 0)] (J A Z) r (J A' Z) := by
  refine vx_enterW (lv := [(0, .ref (ρ 9 0)), (1, .int x1), (2, .ref (ρ 41 0))]) RL rfl (by decide) (Nat.le_of_ble_eq_true rfl) rfl ?_
  intro E hE1 hC hQ htab hVC
  subst hE1
  have hE : Ext ρ V ρ V := Ext.rfl
  rw [fL_projectedPart] at h
  refine wa_aload_n 1 2 hC dL_projectedPart_0 rfl 2 rfl rfl ?_
  refine wa_iconst 2 hC dL_projectedPart_1 kc_0 rfl ?_
  refine wa_aload_n 3 0 hC dL_projectedPart_2 rfl 0 rfl rfl ?_
  refine wa_iload_n 4 1 hC dL_projectedPart_3 rfl 1 rfl rfl ?_
  rcases xc_some h with ⟨v, A1, e1, h⟩ | ⟨e, A1, e1, h⟩
  · have key : ∀ (ρ1 : Nat → Nat → Nat) (V1 : Nat → Nat → Prop), Ext ρ V ρ1 V1 → VC V1 → WA E G ρ1 V1 90 3000 (J A1 Z) 7 [(0, .ref (ρ1 9 0)), (1, .int x1), (2, .ref (ρ1 41 0))] [.long v, .int (0 : Int32), .ref (ρ1 41 0)] := by
      intro ρ V hE0 hVC
      have hE := Ext.trans hE hE0
      obtain ⟨A2, eA2, h⟩ := ltb_some h
      refine wa_lastc 8 hC (vs41 hVC) ar41 rfl (by decide) eA2 dL_projectedPart_7 rfl ?_
      refine wa_goto 14 hC dL_projectedPart_8 rfl ?_
      refine wa_iconst 15 hC dL_projectedPart_14 kc_0 rfl ?_
      exact wl_iret hC hQ hE (sm1 h) (jA (sm2 h)) (by decide) dL_projectedPart_15
    refine wl_call 7 hC [.int x1] [.int (0 : Int32), .ref (ρ 41 0)] knX9_projectedPart mwL_80 (tX9_projectedPart E.2.1 hl9 x1 A hVC e1) (vs9 hVC) kc9 (Nat.le_of_ble_eq_true rfl) (Nat.le_of_ble_eq_true rfl) rfl (Nat.le_of_ble_eq_true rfl) dL_projectedPart_4 rfl (by decide) rfl (st2 := [.long v, .int (0 : Int32), .ref (ρ 41 0)]) rfl (fun ρ1 V1 hE9 hVC9 => ?_)
    rw [← (hE9 9 0 (vs9 hVC)).2, ← (hE9 41 0 (vs41 hVC)).2]
    exact key ρ1 V1 hE9 hVC9
  · by_cases c0 : e = 0
    · subst c0
      rw [if_pos rfl] at h
      refine wl_catch (e9 := 0) hC [.int x1] [.int (0 : Int32), .ref (ρ 41 0)] knX9_projectedPart mwL_80 (tX9_projectedPart E.2.1 hl9 x1 A hVC e1) (vs9 hVC) kc9 (Nat.le_of_ble_eq_true rfl) (Nat.le_of_ble_eq_true rfl) rfl (Nat.le_of_ble_eq_true rfl) dL_projectedPart_4 (by decide) rfl htab [] ⟨0, 8, 11, 27⟩ [] rfl (fun _ hz => nomatch hz) (by decide) (by decide) cll_27 cst_0 (fun ρ1 V1 q9 hE9 hVC9 => ?_)
      rw [← (hE9 9 0 (vs9 hVC)).2, ← (hE9 41 0 (vs41 hVC)).2]
      refine wa_astore_n (lv' := [(3, .ref q9), (0, .ref (ρ1 9 0)), (1, .int x1), (2, .ref (ρ1 41 0))]) 12 3 hC dL_projectedPart_11 rfl rfl (by decide) rfl rfl ?_
      refine wa_iconst 13 hC dL_projectedPart_12 kc_1 rfl ?_
      exact wl_iret hC hQ (Ext.trans hE hE9) (sm1 h) (jA (sm2 h)) (by decide) dL_projectedPart_13
    rw [if_neg c0] at h
    cases h
set_option maxRecDepth 20000 in
theorem tL_projectedCredit (l : Launch) (hl9 : l.stackTraces = false) {G : gU} {ρ : Nat → Nat → Nat} {V : Nat → Nat → Prop} {Z : sM} (x1 : Int32) (A : sM) (_ : VC V) {r : Int32} {A' : sM} (h : fL_projectedCredit x1 A = some (r, A')) : MW l yL_projectedCredit cL_projectedCredit 4 [(0, 8, 11, 27)] 10 90 3000 G ρ V [.ref (ρ 9 0), .int x1, .ref (ρ 41 0)] (J A Z) r (J A' Z) := by
  refine vx_enterW (lv := [(0, .ref (ρ 9 0)), (1, .int x1), (2, .ref (ρ 41 0))]) RL rfl (by decide) (Nat.le_of_ble_eq_true rfl) rfl ?_
  intro E hE1 hC hQ htab hVC
  subst hE1
  have hE : Ext ρ V ρ V := Ext.rfl
  rw [fL_projectedCredit] at h
  refine wa_aload_n 1 2 hC dL_projectedCredit_0 rfl 2 rfl rfl ?_
  refine wa_iconst 2 hC dL_projectedCredit_1 kc_0 rfl ?_
  refine wa_aload_n 3 0 hC dL_projectedCredit_2 rfl 0 rfl rfl ?_
  refine wa_iload_n 4 1 hC dL_projectedCredit_3 rfl 1 rfl rfl ?_
  rcases xc_some h with ⟨v, A1, e1, h⟩ | ⟨e, A1, e1, h⟩
  · have key : ∀ (ρ1 : Nat → Nat → Nat) (V1 : Nat → Nat → Prop), Ext ρ V ρ1 V1 → VC V1 → WA E G ρ1 V1 90 3000 (J A1 Z) 7 [(0, .ref (ρ1 9 0)), (1, .int x1), (2, .ref (ρ1 41 0))] [.long v, .int (0 : Int32), .ref (ρ1 41 0)] := by
      intro ρ V hE0 hVC
      have hE := Ext.trans hE hE0
      obtain ⟨A2, eA2, h⟩ := ltb_some h
      refine wa_lastc 8 hC (vs41 hVC) ar41 rfl (by decide) eA2 dL_projectedCredit_7 rfl ?_
      refine wa_goto 14 hC dL_projectedCredit_8 rfl ?_
      refine wa_iconst 15 hC dL_projectedCredit_14 kc_0 rfl ?_
      exact wl_iret hC hQ hE (sm1 h) (jA (sm2 h)) (by decide) dL_projectedCredit_15
    refine wl_call 7 hC [.int x1] [.int (0 : Int32), .ref (ρ 41 0)] knX9_projectedCredit mwL_83 (tX9_projectedCredit E.2.1 hl9 x1 A hVC e1) (vs9 hVC) kc9 (Nat.le_of_ble_eq_true rfl) (Nat.le_of_ble_eq_true rfl) rfl (Nat.le_of_ble_eq_true rfl) dL_projectedCredit_4 rfl (by decide) rfl (st2 := [.long v, .int (0 : Int32), .ref (ρ 41 0)]) rfl (fun ρ1 V1 hE9 hVC9 => ?_)
    rw [← (hE9 9 0 (vs9 hVC)).2, ← (hE9 41 0 (vs41 hVC)).2]
    exact key ρ1 V1 hE9 hVC9
  · by_cases c0 : e = 0
    · subst c0
      rw [if_pos rfl] at h
      refine wl_catch (e9 := 0) hC [.int x1] [.int (0 : Int32), .ref (ρ 41 0)] knX9_projectedCredit mwL_83 (tX9_projectedCredit E.2.1 hl9 x1 A hVC e1) (vs9 hVC) kc9 (Nat.le_of_ble_eq_true rfl) (Nat.le_of_ble_eq_true rfl) rfl (Nat.le_of_ble_eq_true rfl) dL_projectedCredit_4 (by decide) rfl htab [] ⟨0, 8, 11, 27⟩ [] rfl (fun _ hz => nomatch hz) (by decide) (by decide) cll_27 cst_0 (fun ρ1 V1 q9 hE9 hVC9 => ?_)
      rw [← (hE9 9 0 (vs9 hVC)).2, ← (hE9 41 0 (vs41 hVC)).2]
      refine wa_astore_n (lv' := [(3, .ref q9), (0, .ref (ρ1 9 0)), (1, .int x1), (2, .ref (ρ1 41 0))]) 12 3 hC dL_projectedCredit_11 rfl rfl (by decide) rfl rfl ?_
      refine wa_iconst 13 hC dL_projectedCredit_12 kc_1 rfl ?_
      exact wl_iret hC hQ (Ext.trans hE hE9) (sm1 h) (jA (sm2 h)) (by decide) dL_projectedCredit_13
    rw [if_neg c0] at h
    cases h
set_option maxRecDepth 20000 in
theorem tL_forecastBalance (l : Launch) (hl9 : l.stackTraces = false) {G : gU} {ρ : Nat → Nat → Nat} {V : Nat → Nat → Prop} {Z : sM} (x1 : Int32) (x2 : Int32) (A : sM) (_ : VC V) {r : Int32} {A' : sM} (h : fL_forecastBalance x1 x2 A = some (r, A')) : MW l yL_forecastBalance cL_forecastBalance 5 [(0, 9, 12, 27), (0, 9, 16, 19)] 10 90 3000 G ρ V [.ref (ρ 9 0), .int x1, .int x2, .ref (ρ 41 0)] (J A Z) r (J A' Z) := by
  refine vx_enterW (lv := [(0, .ref (ρ 9 0)), (1, .int x1), (2, .int x2), (3, .ref (ρ 41 0))]) RL rfl (by decide) (Nat.le_of_ble_eq_true rfl) rfl ?_
  intro E hE1 hC hQ htab hVC
  subst hE1
  have hE : Ext ρ V ρ V := Ext.rfl
  rw [fL_forecastBalance] at h
  refine wa_aload_n 1 3 hC dL_forecastBalance_0 rfl 3 rfl rfl ?_
  refine wa_iconst 2 hC dL_forecastBalance_1 kc_0 rfl ?_
  refine wa_aload_n 3 0 hC dL_forecastBalance_2 rfl 0 rfl rfl ?_
  refine wa_iload_n 4 1 hC dL_forecastBalance_3 rfl 1 rfl rfl ?_
  refine wa_iload_n 5 2 hC dL_forecastBalance_4 rfl 2 rfl rfl ?_
  rcases xc_some h with ⟨v, A1, e1, h⟩ | ⟨e, A1, e1, h⟩
  · have key : ∀ (ρ1 : Nat → Nat → Nat) (V1 : Nat → Nat → Prop), Ext ρ V ρ1 V1 → VC V1 → WA E G ρ1 V1 90 3000 (J A1 Z) 8 [(0, .ref (ρ1 9 0)), (1, .int x1), (2, .int x2), (3, .ref (ρ1 41 0))] [.long v, .int (0 : Int32), .ref (ρ1 41 0)] := by
      intro ρ V hE0 hVC
      have hE := Ext.trans hE hE0
      obtain ⟨A2, eA2, h⟩ := ltb_some h
      refine wa_lastc 9 hC (vs41 hVC) ar41 rfl (by decide) eA2 dL_forecastBalance_8 rfl ?_
      refine wa_goto 20 hC dL_forecastBalance_9 rfl ?_
      refine wa_iconst 21 hC dL_forecastBalance_20 kc_0 rfl ?_
      exact wl_iret hC hQ hE (sm1 h) (jA (sm2 h)) (by decide) dL_forecastBalance_21
    refine wl_call 8 hC [.int x1, .int x2] [.int (0 : Int32), .ref (ρ 41 0)] knX9_forecastBalance mwL_86 (tX9_forecastBalance E.2.1 hl9 x1 x2 A hVC e1) (vs9 hVC) kc9 (Nat.le_of_ble_eq_true rfl) (Nat.le_of_ble_eq_true rfl) rfl (Nat.le_of_ble_eq_true rfl) dL_forecastBalance_5 rfl (by decide) rfl (st2 := [.long v, .int (0 : Int32), .ref (ρ 41 0)]) rfl (fun ρ1 V1 hE9 hVC9 => ?_)
    rw [← (hE9 9 0 (vs9 hVC)).2, ← (hE9 41 0 (vs41 hVC)).2]
    exact key ρ1 V1 hE9 hVC9
  · by_cases c0 : e = 0
    · subst c0
      rw [if_pos rfl] at h
      refine wl_catch (e9 := 0) hC [.int x1, .int x2] [.int (0 : Int32), .ref (ρ 41 0)] knX9_forecastBalance mwL_86 (tX9_forecastBalance E.2.1 hl9 x1 x2 A hVC e1) (vs9 hVC) kc9 (Nat.le_of_ble_eq_true rfl) (Nat.le_of_ble_eq_true rfl) rfl (Nat.le_of_ble_eq_true rfl) dL_forecastBalance_5 (by decide) rfl htab [] ⟨0, 9, 12, 27⟩ [⟨0, 9, 16, 19⟩] rfl (fun _ hz => nomatch hz) (by decide) (by decide) cll_27 cst_0 (fun ρ1 V1 q9 hE9 hVC9 => ?_)
      rw [← (hE9 9 0 (vs9 hVC)).2, ← (hE9 41 0 (vs41 hVC)).2]
      refine wa_astore (lv' := [(4, .ref q9), (0, .ref (ρ1 9 0)), (1, .int x1), (2, .int x2), (3, .ref (ρ1 41 0))]) 14 4 hC dL_forecastBalance_12 rfl (by decide) rfl rfl ?_
      refine wa_iconst 15 hC dL_forecastBalance_14 kc_1 rfl ?_
      exact wl_iret hC hQ (Ext.trans hE hE9) (sm1 h) (jA (sm2 h)) (by decide) dL_forecastBalance_15
    rw [if_neg c0] at h
    by_cases c1 : e = 1
    · subst c1
      rw [if_pos rfl] at h
      refine wl_catch (e9 := 1) hC [.int x1, .int x2] [.int (0 : Int32), .ref (ρ 41 0)] knX9_forecastBalance mwL_86 (tX9_forecastBalance E.2.1 hl9 x1 x2 A hVC e1) (vs9 hVC) kc9 (Nat.le_of_ble_eq_true rfl) (Nat.le_of_ble_eq_true rfl) rfl (Nat.le_of_ble_eq_true rfl) dL_forecastBalance_5 (by decide) rfl htab [⟨0, 9, 12, 27⟩] ⟨0, 9, 16, 19⟩ [] rfl (List.forall_mem_cons.mpr ⟨⟨by decide, _, cll_27, by decide⟩, (fun _ hz => nomatch hz)⟩) (by decide) (by decide) cll_19 cst_1 (fun ρ1 V1 q9 hE9 hVC9 => ?_)
      rw [← (hE9 9 0 (vs9 hVC)).2, ← (hE9 41 0 (vs41 hVC)).2]
      refine wa_astore (lv' := [(4, .ref q9), (0, .ref (ρ1 9 0)), (1, .int x1), (2, .int x2), (3, .ref (ρ1 41 0))]) 18 4 hC dL_forecastBalance_16 rfl (by decide) rfl rfl ?_
      refine wa_iconst 19 hC dL_forecastBalance_18 kc_2 rfl ?_
      exact wl_iret hC hQ (Ext.trans hE hE9) (sm1 h) (jA (sm2 h)) (by decide) dL_forecastBalance_19
    rw [if_neg c1] at h
    cases h
set_option maxRecDepth 20000 in
theorem tL_neededRate (l : Launch) (hl9 : l.stackTraces = false) {G : gU} {ρ : Nat → Nat → Nat} {V : Nat → Nat → Prop} {Z : sM} (x1 : Int32) (x2 : Int32) (x3 : Int64) (A : sM) (_ : VC V) {r : Int32} {A' : sM} (h : fL_neededRate x1 x2 x3 A = some (r, A')) : MW l yL_neededRate cL_neededRate 7 [(0, 12, 15, 27), (0, 12, 19, 93)] 11 90 3000 G ρ V [.ref (ρ 9 0), .int x1, .int x2, .long x3, .ref (ρ 41 0)] (J A Z) r (J A' Z) := by
  refine vx_enterW (lv := [(0, .ref (ρ 9 0)), (1, .int x1), (2, .int x2), (3, .long x3), (5, .ref (ρ 41 0))]) RL rfl (by decide) (Nat.le_of_ble_eq_true rfl) rfl ?_
  intro E hE1 hC hQ htab hVC
  subst hE1
  have hE : Ext ρ V ρ V := Ext.rfl
  rw [fL_neededRate] at h
  refine wa_aload 2 5 hC dL_neededRate_0 4 rfl rfl ?_
  refine wa_iconst 3 hC dL_neededRate_2 kc_0 rfl ?_
  refine wa_aload_n 4 0 hC dL_neededRate_3 rfl 0 rfl rfl ?_
  refine wa_iload_n 5 1 hC dL_neededRate_4 rfl 1 rfl rfl ?_
  refine wa_iload_n 6 2 hC dL_neededRate_5 rfl 2 rfl rfl ?_
  refine wa_lload_n 7 3 hC dL_neededRate_6 rfl 3 rfl rfl ?_
  rcases xc_some h with ⟨v, A1, e1, h⟩ | ⟨e, A1, e1, h⟩
  · have key : ∀ (ρ1 : Nat → Nat → Nat) (V1 : Nat → Nat → Prop), Ext ρ V ρ1 V1 → VC V1 → WA E G ρ1 V1 90 3000 (J A1 Z) 10 [(0, .ref (ρ1 9 0)), (1, .int x1), (2, .int x2), (3, .long x3), (5, .ref (ρ1 41 0))] [.int v, .int (0 : Int32), .ref (ρ1 41 0)] := by
      intro ρ V hE0 hVC
      have hE := Ext.trans hE hE0
      refine wa_i2l 11 hC dL_neededRate_10 rfl ?_
      obtain ⟨A2, eA2, h⟩ := ltb_some h
      refine wa_lastc 12 hC (vs41 hVC) ar41 rfl (by decide) eA2 dL_neededRate_11 rfl ?_
      refine wa_goto 23 hC dL_neededRate_12 rfl ?_
      refine wa_iconst 24 hC dL_neededRate_23 kc_0 rfl ?_
      exact wl_iret hC hQ hE (sm1 h) (jA (sm2 h)) (by decide) dL_neededRate_24
    refine wl_call 10 hC [.int x1, .int x2, .long x3] [.int (0 : Int32), .ref (ρ 41 0)] knX9_neededRate mwL_89 (tX9_neededRate E.2.1 hl9 x1 x2 x3 A hVC e1) (vs9 hVC) kc9 (Nat.le_of_ble_eq_true rfl) (Nat.le_of_ble_eq_true rfl) rfl (Nat.le_of_ble_eq_true rfl) dL_neededRate_7 rfl (by decide) rfl (st2 := [.int v, .int (0 : Int32), .ref (ρ 41 0)]) rfl (fun ρ1 V1 hE9 hVC9 => ?_)
    rw [← (hE9 9 0 (vs9 hVC)).2, ← (hE9 41 0 (vs41 hVC)).2]
    exact key ρ1 V1 hE9 hVC9
  · by_cases c0 : e = 0
    · subst c0
      rw [if_pos rfl] at h
      refine wl_catch (e9 := 0) hC [.int x1, .int x2, .long x3] [.int (0 : Int32), .ref (ρ 41 0)] knX9_neededRate mwL_89 (tX9_neededRate E.2.1 hl9 x1 x2 x3 A hVC e1) (vs9 hVC) kc9 (Nat.le_of_ble_eq_true rfl) (Nat.le_of_ble_eq_true rfl) rfl (Nat.le_of_ble_eq_true rfl) dL_neededRate_7 (by decide) rfl htab [] ⟨0, 12, 15, 27⟩ [⟨0, 12, 19, 93⟩] rfl (fun _ hz => nomatch hz) (by decide) (by decide) cll_27 cst_0 (fun ρ1 V1 q9 hE9 hVC9 => ?_)
      rw [← (hE9 9 0 (vs9 hVC)).2, ← (hE9 41 0 (vs41 hVC)).2]
      refine wa_astore (lv' := [(6, .ref q9), (0, .ref (ρ1 9 0)), (1, .int x1), (2, .int x2), (3, .long x3), (5, .ref (ρ1 41 0))]) 17 6 hC dL_neededRate_15 rfl (by decide) rfl rfl ?_
      refine wa_iconst 18 hC dL_neededRate_17 kc_1 rfl ?_
      exact wl_iret hC hQ (Ext.trans hE hE9) (sm1 h) (jA (sm2 h)) (by decide) dL_neededRate_18
    rw [if_neg c0] at h
    by_cases c3 : e = 3
    · subst c3
      rw [if_pos rfl] at h
      refine wl_catch (e9 := 3) hC [.int x1, .int x2, .long x3] [.int (0 : Int32), .ref (ρ 41 0)] knX9_neededRate mwL_89 (tX9_neededRate E.2.1 hl9 x1 x2 x3 A hVC e1) (vs9 hVC) kc9 (Nat.le_of_ble_eq_true rfl) (Nat.le_of_ble_eq_true rfl) rfl (Nat.le_of_ble_eq_true rfl) dL_neededRate_7 (by decide) rfl htab [⟨0, 12, 15, 27⟩] ⟨0, 12, 19, 93⟩ [] rfl (List.forall_mem_cons.mpr ⟨⟨by decide, _, cll_27, by decide⟩, (fun _ hz => nomatch hz)⟩) (by decide) (by decide) cll_93 cst_3 (fun ρ1 V1 q9 hE9 hVC9 => ?_)
      rw [← (hE9 9 0 (vs9 hVC)).2, ← (hE9 41 0 (vs41 hVC)).2]
      refine wa_astore (lv' := [(6, .ref q9), (0, .ref (ρ1 9 0)), (1, .int x1), (2, .int x2), (3, .long x3), (5, .ref (ρ1 41 0))]) 21 6 hC dL_neededRate_19 rfl (by decide) rfl rfl ?_
      refine wa_iconst 22 hC dL_neededRate_21 kc_2 rfl ?_
      exact wl_iret hC hQ (Ext.trans hE hE9) (sm1 h) (jA (sm2 h)) (by decide) dL_neededRate_22
    rw [if_neg c3] at h
    cases h
set_option maxRecDepth 20000 in
theorem tL_issued (l : Launch) (hl9 : l.stackTraces = false) {G : gU} {ρ : Nat → Nat → Nat} {V : Nat → Nat → Prop} {Z : sM} (x1 : Int32) (A : sM) (_ : VC V) {r : Int32} {A' : sM} (h : fL_issued x1 A = some (r, A')) : MW l yL_issued cL_issued 4 [(0, 8, 11, 27)] 10 90 3000 G ρ V [.ref (ρ 9 0), .int x1, .ref (ρ 41 0)] (J A Z) r (J A' Z) := by
  refine vx_enterW (lv := [(0, .ref (ρ 9 0)), (1, .int x1), (2, .ref (ρ 41 0))]) RL rfl (by decide) (Nat.le_of_ble_eq_true rfl) rfl ?_
  intro E hE1 hC hQ htab hVC
  subst hE1
  have hE : Ext ρ V ρ V := Ext.rfl
  rw [fL_issued] at h
  refine wa_aload_n 1 2 hC dL_issued_0 rfl 2 rfl rfl ?_
  refine wa_iconst 2 hC dL_issued_1 kc_0 rfl ?_
  refine wa_aload_n 3 0 hC dL_issued_2 rfl 0 rfl rfl ?_
  refine wa_iload_n 4 1 hC dL_issued_3 rfl 1 rfl rfl ?_
  rcases xc_some h with ⟨v, A1, e1, h⟩ | ⟨e, A1, e1, h⟩
  · have key : ∀ (ρ1 : Nat → Nat → Nat) (V1 : Nat → Nat → Prop), Ext ρ V ρ1 V1 → VC V1 → WA E G ρ1 V1 90 3000 (J A1 Z) 7 [(0, .ref (ρ1 9 0)), (1, .int x1), (2, .ref (ρ1 41 0))] [.long v, .int (0 : Int32), .ref (ρ1 41 0)] := by
      intro ρ V hE0 hVC
      have hE := Ext.trans hE hE0
      obtain ⟨A2, eA2, h⟩ := ltb_some h
      refine wa_lastc 8 hC (vs41 hVC) ar41 rfl (by decide) eA2 dL_issued_7 rfl ?_
      refine wa_goto 14 hC dL_issued_8 rfl ?_
      refine wa_iconst 15 hC dL_issued_14 kc_0 rfl ?_
      exact wl_iret hC hQ hE (sm1 h) (jA (sm2 h)) (by decide) dL_issued_15
    refine wl_call 7 hC [.int x1] [.int (0 : Int32), .ref (ρ 41 0)] knX9_issued mwL_95 (tX9_issued E.2.1 hl9 x1 A hVC e1) (vs9 hVC) kc9 (Nat.le_of_ble_eq_true rfl) (Nat.le_of_ble_eq_true rfl) rfl (Nat.le_of_ble_eq_true rfl) dL_issued_4 rfl (by decide) rfl (st2 := [.long v, .int (0 : Int32), .ref (ρ 41 0)]) rfl (fun ρ1 V1 hE9 hVC9 => ?_)
    rw [← (hE9 9 0 (vs9 hVC)).2, ← (hE9 41 0 (vs41 hVC)).2]
    exact key ρ1 V1 hE9 hVC9
  · by_cases c0 : e = 0
    · subst c0
      rw [if_pos rfl] at h
      refine wl_catch (e9 := 0) hC [.int x1] [.int (0 : Int32), .ref (ρ 41 0)] knX9_issued mwL_95 (tX9_issued E.2.1 hl9 x1 A hVC e1) (vs9 hVC) kc9 (Nat.le_of_ble_eq_true rfl) (Nat.le_of_ble_eq_true rfl) rfl (Nat.le_of_ble_eq_true rfl) dL_issued_4 (by decide) rfl htab [] ⟨0, 8, 11, 27⟩ [] rfl (fun _ hz => nomatch hz) (by decide) (by decide) cll_27 cst_0 (fun ρ1 V1 q9 hE9 hVC9 => ?_)
      rw [← (hE9 9 0 (vs9 hVC)).2, ← (hE9 41 0 (vs41 hVC)).2]
      refine wa_astore_n (lv' := [(3, .ref q9), (0, .ref (ρ1 9 0)), (1, .int x1), (2, .ref (ρ1 41 0))]) 12 3 hC dL_issued_11 rfl rfl (by decide) rfl rfl ?_
      refine wa_iconst 13 hC dL_issued_12 kc_1 rfl ?_
      exact wl_iret hC hQ (Ext.trans hE hE9) (sm1 h) (jA (sm2 h)) (by decide) dL_issued_13
    rw [if_neg c0] at h
    cases h
set_option maxRecDepth 20000 in
theorem tL_shareDayValue (l : Launch) (hl9 : l.stackTraces = false) {G : gU} {ρ : Nat → Nat → Nat} {V : Nat → Nat → Prop} {Z : sM} (x1 : Int32) (x2 : Int32) (A : sM) (_ : VC V) {r : Int32} {A' : sM} (h : fL_shareDayValue x1 x2 A = some (r, A')) : MW l yL_shareDayValue cL_shareDayValue 5 [(0, 9, 12, 27)] 10 90 3000 G ρ V [.ref (ρ 9 0), .int x1, .int x2, .ref (ρ 41 0)] (J A Z) r (J A' Z) := by
  refine vx_enterW (lv := [(0, .ref (ρ 9 0)), (1, .int x1), (2, .int x2), (3, .ref (ρ 41 0))]) RL rfl (by decide) (Nat.le_of_ble_eq_true rfl) rfl ?_
  intro E hE1 hC hQ htab hVC
  subst hE1
  have hE : Ext ρ V ρ V := Ext.rfl
  rw [fL_shareDayValue] at h
  refine wa_aload_n 1 3 hC dL_shareDayValue_0 rfl 3 rfl rfl ?_
  refine wa_iconst 2 hC dL_shareDayValue_1 kc_0 rfl ?_
  refine wa_aload_n 3 0 hC dL_shareDayValue_2 rfl 0 rfl rfl ?_
  refine wa_iload_n 4 1 hC dL_shareDayValue_3 rfl 1 rfl rfl ?_
  refine wa_iload_n 5 2 hC dL_shareDayValue_4 rfl 2 rfl rfl ?_
  rcases xc_some h with ⟨v, A1, e1, h⟩ | ⟨e, A1, e1, h⟩
  · have key : ∀ (ρ1 : Nat → Nat → Nat) (V1 : Nat → Nat → Prop), Ext ρ V ρ1 V1 → VC V1 → WA E G ρ1 V1 90 3000 (J A1 Z) 8 [(0, .ref (ρ1 9 0)), (1, .int x1), (2, .int x2), (3, .ref (ρ1 41 0))] [.long v, .int (0 : Int32), .ref (ρ1 41 0)] := by
      intro ρ V hE0 hVC
      have hE := Ext.trans hE hE0
      obtain ⟨A2, eA2, h⟩ := ltb_some h
      refine wa_lastc 9 hC (vs41 hVC) ar41 rfl (by decide) eA2 dL_shareDayValue_8 rfl ?_
      refine wa_goto 16 hC dL_shareDayValue_9 rfl ?_
      refine wa_iconst 17 hC dL_shareDayValue_16 kc_0 rfl ?_
      exact wl_iret hC hQ hE (sm1 h) (jA (sm2 h)) (by decide) dL_shareDayValue_17
    refine wl_call 8 hC [.int x1, .int x2] [.int (0 : Int32), .ref (ρ 41 0)] knX9_shareDayValue mwL_98 (tX9_shareDayValue E.2.1 hl9 x1 x2 A hVC e1) (vs9 hVC) kc9 (Nat.le_of_ble_eq_true rfl) (Nat.le_of_ble_eq_true rfl) rfl (Nat.le_of_ble_eq_true rfl) dL_shareDayValue_5 rfl (by decide) rfl (st2 := [.long v, .int (0 : Int32), .ref (ρ 41 0)]) rfl (fun ρ1 V1 hE9 hVC9 => ?_)
    rw [← (hE9 9 0 (vs9 hVC)).2, ← (hE9 41 0 (vs41 hVC)).2]
    exact key ρ1 V1 hE9 hVC9
  · by_cases c0 : e = 0
    · subst c0
      rw [if_pos rfl] at h
      refine wl_catch (e9 := 0) hC [.int x1, .int x2] [.int (0 : Int32), .ref (ρ 41 0)] knX9_shareDayValue mwL_98 (tX9_shareDayValue E.2.1 hl9 x1 x2 A hVC e1) (vs9 hVC) kc9 (Nat.le_of_ble_eq_true rfl) (Nat.le_of_ble_eq_true rfl) rfl (Nat.le_of_ble_eq_true rfl) dL_shareDayValue_5 (by decide) rfl htab [] ⟨0, 9, 12, 27⟩ [] rfl (fun _ hz => nomatch hz) (by decide) (by decide) cll_27 cst_0 (fun ρ1 V1 q9 hE9 hVC9 => ?_)
      rw [← (hE9 9 0 (vs9 hVC)).2, ← (hE9 41 0 (vs41 hVC)).2]
      refine wa_astore (lv' := [(4, .ref q9), (0, .ref (ρ1 9 0)), (1, .int x1), (2, .int x2), (3, .ref (ρ1 41 0))]) 14 4 hC dL_shareDayValue_12 rfl (by decide) rfl rfl ?_
      refine wa_iconst 15 hC dL_shareDayValue_14 kc_1 rfl ?_
      exact wl_iret hC hQ (Ext.trans hE hE9) (sm1 h) (jA (sm2 h)) (by decide) dL_shareDayValue_15
    rw [if_neg c0] at h
    cases h
set_option maxRecDepth 20000 in
theorem tL_neededShares (l : Launch) (hl9 : l.stackTraces = false) {G : gU} {ρ : Nat → Nat → Nat} {V : Nat → Nat → Prop} {Z : sM} (x1 : Int64) (A : sM) (_ : VC V) {r : Int32} {A' : sM} (h : fL_neededShares x1 A = some (r, A')) : MW l yL_neededShares cL_neededShares 5 [(0, 9, 12, 19), (0, 9, 16, 93)] 9 90 3000 G ρ V [.ref (ρ 9 0), .long x1, .ref (ρ 41 0)] (J A Z) r (J A' Z) := by
  refine vx_enterW (lv := [(0, .ref (ρ 9 0)), (1, .long x1), (3, .ref (ρ 41 0))]) RL rfl (by decide) (Nat.le_of_ble_eq_true rfl) rfl ?_
  intro E hE1 hC hQ htab hVC
  subst hE1
  have hE : Ext ρ V ρ V := Ext.rfl
  rw [fL_neededShares] at h
  refine wa_aload_n 1 3 hC dL_neededShares_0 rfl 2 rfl rfl ?_
  refine wa_iconst 2 hC dL_neededShares_1 kc_0 rfl ?_
  refine wa_aload_n 3 0 hC dL_neededShares_2 rfl 0 rfl rfl ?_
  refine wa_lload_n 4 1 hC dL_neededShares_3 rfl 1 rfl rfl ?_
  rcases xc_some h with ⟨v, A1, e1, h⟩ | ⟨e, A1, e1, h⟩
  · have key : ∀ (ρ1 : Nat → Nat → Nat) (V1 : Nat → Nat → Prop), Ext ρ V ρ1 V1 → VC V1 → WA E G ρ1 V1 90 3000 (J A1 Z) 7 [(0, .ref (ρ1 9 0)), (1, .long x1), (3, .ref (ρ1 41 0))] [.int v, .int (0 : Int32), .ref (ρ1 41 0)] := by
      intro ρ V hE0 hVC
      have hE := Ext.trans hE hE0
      refine wa_i2l 8 hC dL_neededShares_7 rfl ?_
      obtain ⟨A2, eA2, h⟩ := ltb_some h
      refine wa_lastc 9 hC (vs41 hVC) ar41 rfl (by decide) eA2 dL_neededShares_8 rfl ?_
      refine wa_goto 20 hC dL_neededShares_9 rfl ?_
      refine wa_iconst 21 hC dL_neededShares_20 kc_0 rfl ?_
      exact wl_iret hC hQ hE (sm1 h) (jA (sm2 h)) (by decide) dL_neededShares_21
    refine wl_call 7 hC [.long x1] [.int (0 : Int32), .ref (ρ 41 0)] knX9_neededShares mwL_102 (tX9_neededShares E.2.1 hl9 x1 A hVC e1) (vs9 hVC) kc9 (Nat.le_of_ble_eq_true rfl) (Nat.le_of_ble_eq_true rfl) rfl (Nat.le_of_ble_eq_true rfl) dL_neededShares_4 rfl (by decide) rfl (st2 := [.int v, .int (0 : Int32), .ref (ρ 41 0)]) rfl (fun ρ1 V1 hE9 hVC9 => ?_)
    rw [← (hE9 9 0 (vs9 hVC)).2, ← (hE9 41 0 (vs41 hVC)).2]
    exact key ρ1 V1 hE9 hVC9
  · by_cases c1 : e = 1
    · subst c1
      rw [if_pos rfl] at h
      refine wl_catch (e9 := 1) hC [.long x1] [.int (0 : Int32), .ref (ρ 41 0)] knX9_neededShares mwL_102 (tX9_neededShares E.2.1 hl9 x1 A hVC e1) (vs9 hVC) kc9 (Nat.le_of_ble_eq_true rfl) (Nat.le_of_ble_eq_true rfl) rfl (Nat.le_of_ble_eq_true rfl) dL_neededShares_4 (by decide) rfl htab [] ⟨0, 9, 12, 19⟩ [⟨0, 9, 16, 93⟩] rfl (fun _ hz => nomatch hz) (by decide) (by decide) cll_19 cst_1 (fun ρ1 V1 q9 hE9 hVC9 => ?_)
      rw [← (hE9 9 0 (vs9 hVC)).2, ← (hE9 41 0 (vs41 hVC)).2]
      refine wa_astore (lv' := [(4, .ref q9), (0, .ref (ρ1 9 0)), (1, .long x1), (3, .ref (ρ1 41 0))]) 14 4 hC dL_neededShares_12 rfl (by decide) rfl rfl ?_
      refine wa_iconst 15 hC dL_neededShares_14 kc_1 rfl ?_
      exact wl_iret hC hQ (Ext.trans hE hE9) (sm1 h) (jA (sm2 h)) (by decide) dL_neededShares_15
    rw [if_neg c1] at h
    by_cases c3 : e = 3
    · subst c3
      rw [if_pos rfl] at h
      refine wl_catch (e9 := 3) hC [.long x1] [.int (0 : Int32), .ref (ρ 41 0)] knX9_neededShares mwL_102 (tX9_neededShares E.2.1 hl9 x1 A hVC e1) (vs9 hVC) kc9 (Nat.le_of_ble_eq_true rfl) (Nat.le_of_ble_eq_true rfl) rfl (Nat.le_of_ble_eq_true rfl) dL_neededShares_4 (by decide) rfl htab [⟨0, 9, 12, 19⟩] ⟨0, 9, 16, 93⟩ [] rfl (List.forall_mem_cons.mpr ⟨⟨by decide, _, cll_19, by decide⟩, (fun _ hz => nomatch hz)⟩) (by decide) (by decide) cll_93 cst_3 (fun ρ1 V1 q9 hE9 hVC9 => ?_)
      rw [← (hE9 9 0 (vs9 hVC)).2, ← (hE9 41 0 (vs41 hVC)).2]
      refine wa_astore (lv' := [(4, .ref q9), (0, .ref (ρ1 9 0)), (1, .long x1), (3, .ref (ρ1 41 0))]) 18 4 hC dL_neededShares_16 rfl (by decide) rfl rfl ?_
      refine wa_iconst 19 hC dL_neededShares_18 kc_2 rfl ?_
      exact wl_iret hC hQ (Ext.trans hE hE9) (sm1 h) (jA (sm2 h)) (by decide) dL_neededShares_19
    rw [if_neg c3] at h
    cases h
set_option maxRecDepth 20000 in
theorem tL_balance (l : Launch) (hl9 : l.stackTraces = false) {G : gU} {ρ : Nat → Nat → Nat} {V : Nat → Nat → Prop} {Z : sM} (x1 : Int32) (A : sM) (_ : VC V) {r : Int32} {A' : sM} (h : fL_balance x1 A = some (r, A')) : MW l yL_balance cL_balance 4 [(0, 8, 11, 27)] 10 90 3000 G ρ V [.ref (ρ 9 0), .int x1, .ref (ρ 41 0)] (J A Z) r (J A' Z) := by
  refine vx_enterW (lv := [(0, .ref (ρ 9 0)), (1, .int x1), (2, .ref (ρ 41 0))]) RL rfl (by decide) (Nat.le_of_ble_eq_true rfl) rfl ?_
  intro E hE1 hC hQ htab hVC
  subst hE1
  have hE : Ext ρ V ρ V := Ext.rfl
  rw [fL_balance] at h
  refine wa_aload_n 1 2 hC dL_balance_0 rfl 2 rfl rfl ?_
  refine wa_iconst 2 hC dL_balance_1 kc_0 rfl ?_
  refine wa_aload_n 3 0 hC dL_balance_2 rfl 0 rfl rfl ?_
  refine wa_iload_n 4 1 hC dL_balance_3 rfl 1 rfl rfl ?_
  rcases xc_some h with ⟨v, A1, e1, h⟩ | ⟨e, A1, e1, h⟩
  · have key : ∀ (ρ1 : Nat → Nat → Nat) (V1 : Nat → Nat → Prop), Ext ρ V ρ1 V1 → VC V1 → WA E G ρ1 V1 90 3000 (J A1 Z) 7 [(0, .ref (ρ1 9 0)), (1, .int x1), (2, .ref (ρ1 41 0))] [.long v, .int (0 : Int32), .ref (ρ1 41 0)] := by
      intro ρ V hE0 hVC
      have hE := Ext.trans hE hE0
      obtain ⟨A2, eA2, h⟩ := ltb_some h
      refine wa_lastc 8 hC (vs41 hVC) ar41 rfl (by decide) eA2 dL_balance_7 rfl ?_
      refine wa_goto 14 hC dL_balance_8 rfl ?_
      refine wa_iconst 15 hC dL_balance_14 kc_0 rfl ?_
      exact wl_iret hC hQ hE (sm1 h) (jA (sm2 h)) (by decide) dL_balance_15
    refine wl_call 7 hC [.int x1] [.int (0 : Int32), .ref (ρ 41 0)] knX9_balance mwL_106 (tX9_balance E.2.1 hl9 x1 A hVC e1) (vs9 hVC) kc9 (Nat.le_of_ble_eq_true rfl) (Nat.le_of_ble_eq_true rfl) rfl (Nat.le_of_ble_eq_true rfl) dL_balance_4 rfl (by decide) rfl (st2 := [.long v, .int (0 : Int32), .ref (ρ 41 0)]) rfl (fun ρ1 V1 hE9 hVC9 => ?_)
    rw [← (hE9 9 0 (vs9 hVC)).2, ← (hE9 41 0 (vs41 hVC)).2]
    exact key ρ1 V1 hE9 hVC9
  · by_cases c0 : e = 0
    · subst c0
      rw [if_pos rfl] at h
      refine wl_catch (e9 := 0) hC [.int x1] [.int (0 : Int32), .ref (ρ 41 0)] knX9_balance mwL_106 (tX9_balance E.2.1 hl9 x1 A hVC e1) (vs9 hVC) kc9 (Nat.le_of_ble_eq_true rfl) (Nat.le_of_ble_eq_true rfl) rfl (Nat.le_of_ble_eq_true rfl) dL_balance_4 (by decide) rfl htab [] ⟨0, 8, 11, 27⟩ [] rfl (fun _ hz => nomatch hz) (by decide) (by decide) cll_27 cst_0 (fun ρ1 V1 q9 hE9 hVC9 => ?_)
      rw [← (hE9 9 0 (vs9 hVC)).2, ← (hE9 41 0 (vs41 hVC)).2]
      refine wa_astore_n (lv' := [(3, .ref q9), (0, .ref (ρ1 9 0)), (1, .int x1), (2, .ref (ρ1 41 0))]) 12 3 hC dL_balance_11 rfl rfl (by decide) rfl rfl ?_
      refine wa_iconst 13 hC dL_balance_12 kc_1 rfl ?_
      exact wl_iret hC hQ (Ext.trans hE hE9) (sm1 h) (jA (sm2 h)) (by decide) dL_balance_13
    rw [if_neg c0] at h
    cases h
set_option maxRecDepth 20000 in
theorem tL_lot (l : Launch) (hl9 : l.stackTraces = false) {G : gU} {ρ : Nat → Nat → Nat} {V : Nat → Nat → Prop} {Z : sM} (x1 : Int32) (x2 : Int32) (A : sM) (_ : VC V) {r : Int32} {A' : sM} (h : fL_lot x1 x2 A = some (r, A')) : MW l yL_lot cL_lot 5 [(0, 9, 12, 27)] 10 90 3000 G ρ V [.ref (ρ 9 0), .int x1, .int x2, .ref (ρ 41 0)] (J A Z) r (J A' Z) := by
  refine vx_enterW (lv := [(0, .ref (ρ 9 0)), (1, .int x1), (2, .int x2), (3, .ref (ρ 41 0))]) RL rfl (by decide) (Nat.le_of_ble_eq_true rfl) rfl ?_
  intro E hE1 hC hQ htab hVC
  subst hE1
  have hE : Ext ρ V ρ V := Ext.rfl
  rw [fL_lot] at h
  refine wa_aload_n 1 3 hC dL_lot_0 rfl 3 rfl rfl ?_
  refine wa_iconst 2 hC dL_lot_1 kc_0 rfl ?_
  refine wa_aload_n 3 0 hC dL_lot_2 rfl 0 rfl rfl ?_
  refine wa_iload_n 4 1 hC dL_lot_3 rfl 1 rfl rfl ?_
  refine wa_iload_n 5 2 hC dL_lot_4 rfl 2 rfl rfl ?_
  rcases xc_some h with ⟨v, A1, e1, h⟩ | ⟨e, A1, e1, h⟩
  · have key : ∀ (ρ1 : Nat → Nat → Nat) (V1 : Nat → Nat → Prop), Ext ρ V ρ1 V1 → VC V1 → WA E G ρ1 V1 90 3000 (J A1 Z) 8 [(0, .ref (ρ1 9 0)), (1, .int x1), (2, .int x2), (3, .ref (ρ1 41 0))] [.long v, .int (0 : Int32), .ref (ρ1 41 0)] := by
      intro ρ V hE0 hVC
      have hE := Ext.trans hE hE0
      obtain ⟨A2, eA2, h⟩ := ltb_some h
      refine wa_lastc 9 hC (vs41 hVC) ar41 rfl (by decide) eA2 dL_lot_8 rfl ?_
      refine wa_goto 16 hC dL_lot_9 rfl ?_
      refine wa_iconst 17 hC dL_lot_16 kc_0 rfl ?_
      exact wl_iret hC hQ hE (sm1 h) (jA (sm2 h)) (by decide) dL_lot_17
    refine wl_call 8 hC [.int x1, .int x2] [.int (0 : Int32), .ref (ρ 41 0)] knX9_lot mwL_109 (tX9_lot E.2.1 hl9 x1 x2 A hVC e1) (vs9 hVC) kc9 (Nat.le_of_ble_eq_true rfl) (Nat.le_of_ble_eq_true rfl) rfl (Nat.le_of_ble_eq_true rfl) dL_lot_5 rfl (by decide) rfl (st2 := [.long v, .int (0 : Int32), .ref (ρ 41 0)]) rfl (fun ρ1 V1 hE9 hVC9 => ?_)
    rw [← (hE9 9 0 (vs9 hVC)).2, ← (hE9 41 0 (vs41 hVC)).2]
    exact key ρ1 V1 hE9 hVC9
  · by_cases c0 : e = 0
    · subst c0
      rw [if_pos rfl] at h
      refine wl_catch (e9 := 0) hC [.int x1, .int x2] [.int (0 : Int32), .ref (ρ 41 0)] knX9_lot mwL_109 (tX9_lot E.2.1 hl9 x1 x2 A hVC e1) (vs9 hVC) kc9 (Nat.le_of_ble_eq_true rfl) (Nat.le_of_ble_eq_true rfl) rfl (Nat.le_of_ble_eq_true rfl) dL_lot_5 (by decide) rfl htab [] ⟨0, 9, 12, 27⟩ [] rfl (fun _ hz => nomatch hz) (by decide) (by decide) cll_27 cst_0 (fun ρ1 V1 q9 hE9 hVC9 => ?_)
      rw [← (hE9 9 0 (vs9 hVC)).2, ← (hE9 41 0 (vs41 hVC)).2]
      refine wa_astore (lv' := [(4, .ref q9), (0, .ref (ρ1 9 0)), (1, .int x1), (2, .int x2), (3, .ref (ρ1 41 0))]) 14 4 hC dL_lot_12 rfl (by decide) rfl rfl ?_
      refine wa_iconst 15 hC dL_lot_14 kc_1 rfl ?_
      exact wl_iret hC hQ (Ext.trans hE hE9) (sm1 h) (jA (sm2 h)) (by decide) dL_lot_15
    rw [if_neg c0] at h
    cases h
set_option maxRecDepth 20000 in
theorem tL_account (l : Launch) (hl9 : l.stackTraces = false) {G : gU} {ρ : Nat → Nat → Nat} {V : Nat → Nat → Prop} {Z : sM} (x1 : Int32) (x2 : Int32) (A : sM) (_ : VC V) {r : Int32} {A' : sM} (h : fL_account x1 x2 A = some (r, A')) : MW l yL_account cL_account 5 [(0, 9, 12, 27), (0, 9, 16, 19)] 10 90 3000 G ρ V [.ref (ρ 9 0), .int x1, .int x2, .ref (ρ 41 0)] (J A Z) r (J A' Z) := by
  refine vx_enterW (lv := [(0, .ref (ρ 9 0)), (1, .int x1), (2, .int x2), (3, .ref (ρ 41 0))]) RL rfl (by decide) (Nat.le_of_ble_eq_true rfl) rfl ?_
  intro E hE1 hC hQ htab hVC
  subst hE1
  have hE : Ext ρ V ρ V := Ext.rfl
  rw [fL_account] at h
  refine wa_aload_n 1 3 hC dL_account_0 rfl 3 rfl rfl ?_
  refine wa_iconst 2 hC dL_account_1 kc_0 rfl ?_
  refine wa_aload_n 3 0 hC dL_account_2 rfl 0 rfl rfl ?_
  refine wa_iload_n 4 1 hC dL_account_3 rfl 1 rfl rfl ?_
  refine wa_iload_n 5 2 hC dL_account_4 rfl 2 rfl rfl ?_
  rcases xc_some h with ⟨v, A1, e1, h⟩ | ⟨e, A1, e1, h⟩
  · have key : ∀ (ρ1 : Nat → Nat → Nat) (V1 : Nat → Nat → Prop), Ext ρ V ρ1 V1 → VC V1 → WA E G ρ1 V1 90 3000 (J A1 Z) 8 [(0, .ref (ρ1 9 0)), (1, .int x1), (2, .int x2), (3, .ref (ρ1 41 0))] [.long v, .int (0 : Int32), .ref (ρ1 41 0)] := by
      intro ρ V hE0 hVC
      have hE := Ext.trans hE hE0
      obtain ⟨A2, eA2, h⟩ := ltb_some h
      refine wa_lastc 9 hC (vs41 hVC) ar41 rfl (by decide) eA2 dL_account_8 rfl ?_
      refine wa_goto 20 hC dL_account_9 rfl ?_
      refine wa_iconst 21 hC dL_account_20 kc_0 rfl ?_
      exact wl_iret hC hQ hE (sm1 h) (jA (sm2 h)) (by decide) dL_account_21
    refine wl_call 8 hC [.int x1, .int x2] [.int (0 : Int32), .ref (ρ 41 0)] knX9_account mwL_112 (tX9_account E.2.1 hl9 x1 x2 A hVC e1) (vs9 hVC) kc9 (Nat.le_of_ble_eq_true rfl) (Nat.le_of_ble_eq_true rfl) rfl (Nat.le_of_ble_eq_true rfl) dL_account_5 rfl (by decide) rfl (st2 := [.long v, .int (0 : Int32), .ref (ρ 41 0)]) rfl (fun ρ1 V1 hE9 hVC9 => ?_)
    rw [← (hE9 9 0 (vs9 hVC)).2, ← (hE9 41 0 (vs41 hVC)).2]
    exact key ρ1 V1 hE9 hVC9
  · by_cases c0 : e = 0
    · subst c0
      rw [if_pos rfl] at h
      refine wl_catch (e9 := 0) hC [.int x1, .int x2] [.int (0 : Int32), .ref (ρ 41 0)] knX9_account mwL_112 (tX9_account E.2.1 hl9 x1 x2 A hVC e1) (vs9 hVC) kc9 (Nat.le_of_ble_eq_true rfl) (Nat.le_of_ble_eq_true rfl) rfl (Nat.le_of_ble_eq_true rfl) dL_account_5 (by decide) rfl htab [] ⟨0, 9, 12, 27⟩ [⟨0, 9, 16, 19⟩] rfl (fun _ hz => nomatch hz) (by decide) (by decide) cll_27 cst_0 (fun ρ1 V1 q9 hE9 hVC9 => ?_)
      rw [← (hE9 9 0 (vs9 hVC)).2, ← (hE9 41 0 (vs41 hVC)).2]
      refine wa_astore (lv' := [(4, .ref q9), (0, .ref (ρ1 9 0)), (1, .int x1), (2, .int x2), (3, .ref (ρ1 41 0))]) 14 4 hC dL_account_12 rfl (by decide) rfl rfl ?_
      refine wa_iconst 15 hC dL_account_14 kc_1 rfl ?_
      exact wl_iret hC hQ (Ext.trans hE hE9) (sm1 h) (jA (sm2 h)) (by decide) dL_account_15
    rw [if_neg c0] at h
    by_cases c1 : e = 1
    · subst c1
      rw [if_pos rfl] at h
      refine wl_catch (e9 := 1) hC [.int x1, .int x2] [.int (0 : Int32), .ref (ρ 41 0)] knX9_account mwL_112 (tX9_account E.2.1 hl9 x1 x2 A hVC e1) (vs9 hVC) kc9 (Nat.le_of_ble_eq_true rfl) (Nat.le_of_ble_eq_true rfl) rfl (Nat.le_of_ble_eq_true rfl) dL_account_5 (by decide) rfl htab [⟨0, 9, 12, 27⟩] ⟨0, 9, 16, 19⟩ [] rfl (List.forall_mem_cons.mpr ⟨⟨by decide, _, cll_27, by decide⟩, (fun _ hz => nomatch hz)⟩) (by decide) (by decide) cll_19 cst_1 (fun ρ1 V1 q9 hE9 hVC9 => ?_)
      rw [← (hE9 9 0 (vs9 hVC)).2, ← (hE9 41 0 (vs41 hVC)).2]
      refine wa_astore (lv' := [(4, .ref q9), (0, .ref (ρ1 9 0)), (1, .int x1), (2, .int x2), (3, .ref (ρ1 41 0))]) 18 4 hC dL_account_16 rfl (by decide) rfl rfl ?_
      refine wa_iconst 19 hC dL_account_18 kc_2 rfl ?_
      exact wl_iret hC hQ (Ext.trans hE hE9) (sm1 h) (jA (sm2 h)) (by decide) dL_account_19
    rw [if_neg c1] at h
    cases h
set_option maxRecDepth 20000 in
theorem tL_expiring (l : Launch) (hl9 : l.stackTraces = false) {G : gU} {ρ : Nat → Nat → Nat} {V : Nat → Nat → Prop} {Z : sM} (x1 : Int32) (A : sM) (_ : VC V) {r : Int32} {A' : sM} (h : fL_expiring x1 A = some (r, A')) : MW l yL_expiring cL_expiring 4 [(0, 8, 11, 27)] 10 90 3000 G ρ V [.ref (ρ 9 0), .int x1, .ref (ρ 41 0)] (J A Z) r (J A' Z) := by
  refine vx_enterW (lv := [(0, .ref (ρ 9 0)), (1, .int x1), (2, .ref (ρ 41 0))]) RL rfl (by decide) (Nat.le_of_ble_eq_true rfl) rfl ?_
  intro E hE1 hC hQ htab hVC
  subst hE1
  have hE : Ext ρ V ρ V := Ext.rfl
  rw [fL_expiring] at h
  refine wa_aload_n 1 2 hC dL_expiring_0 rfl 2 rfl rfl ?_
  refine wa_iconst 2 hC dL_expiring_1 kc_0 rfl ?_
  refine wa_aload_n 3 0 hC dL_expiring_2 rfl 0 rfl rfl ?_
  refine wa_iload_n 4 1 hC dL_expiring_3 rfl 1 rfl rfl ?_
  rcases xc_some h with ⟨v, A1, e1, h⟩ | ⟨e, A1, e1, h⟩
  · have key : ∀ (ρ1 : Nat → Nat → Nat) (V1 : Nat → Nat → Prop), Ext ρ V ρ1 V1 → VC V1 → WA E G ρ1 V1 90 3000 (J A1 Z) 7 [(0, .ref (ρ1 9 0)), (1, .int x1), (2, .ref (ρ1 41 0))] [.long v, .int (0 : Int32), .ref (ρ1 41 0)] := by
      intro ρ V hE0 hVC
      have hE := Ext.trans hE hE0
      obtain ⟨A2, eA2, h⟩ := ltb_some h
      refine wa_lastc 8 hC (vs41 hVC) ar41 rfl (by decide) eA2 dL_expiring_7 rfl ?_
      refine wa_goto 14 hC dL_expiring_8 rfl ?_
      refine wa_iconst 15 hC dL_expiring_14 kc_0 rfl ?_
      exact wl_iret hC hQ hE (sm1 h) (jA (sm2 h)) (by decide) dL_expiring_15
    refine wl_call 7 hC [.int x1] [.int (0 : Int32), .ref (ρ 41 0)] knX9_expiring mwL_115 (tX9_expiring E.2.1 hl9 x1 A hVC e1) (vs9 hVC) kc9 (Nat.le_of_ble_eq_true rfl) (Nat.le_of_ble_eq_true rfl) rfl (Nat.le_of_ble_eq_true rfl) dL_expiring_4 rfl (by decide) rfl (st2 := [.long v, .int (0 : Int32), .ref (ρ 41 0)]) rfl (fun ρ1 V1 hE9 hVC9 => ?_)
    rw [← (hE9 9 0 (vs9 hVC)).2, ← (hE9 41 0 (vs41 hVC)).2]
    exact key ρ1 V1 hE9 hVC9
  · by_cases c0 : e = 0
    · subst c0
      rw [if_pos rfl] at h
      refine wl_catch (e9 := 0) hC [.int x1] [.int (0 : Int32), .ref (ρ 41 0)] knX9_expiring mwL_115 (tX9_expiring E.2.1 hl9 x1 A hVC e1) (vs9 hVC) kc9 (Nat.le_of_ble_eq_true rfl) (Nat.le_of_ble_eq_true rfl) rfl (Nat.le_of_ble_eq_true rfl) dL_expiring_4 (by decide) rfl htab [] ⟨0, 8, 11, 27⟩ [] rfl (fun _ hz => nomatch hz) (by decide) (by decide) cll_27 cst_0 (fun ρ1 V1 q9 hE9 hVC9 => ?_)
      rw [← (hE9 9 0 (vs9 hVC)).2, ← (hE9 41 0 (vs41 hVC)).2]
      refine wa_astore_n (lv' := [(3, .ref q9), (0, .ref (ρ1 9 0)), (1, .int x1), (2, .ref (ρ1 41 0))]) 12 3 hC dL_expiring_11 rfl rfl (by decide) rfl rfl ?_
      refine wa_iconst 13 hC dL_expiring_12 kc_1 rfl ?_
      exact wl_iret hC hQ (Ext.trans hE hE9) (sm1 h) (jA (sm2 h)) (by decide) dL_expiring_13
    rw [if_neg c0] at h
    cases h
set_option maxRecDepth 20000 in
theorem tL_monthsCovered (l : Launch) (hl9 : l.stackTraces = false) {G : gU} {ρ : Nat → Nat → Nat} {V : Nat → Nat → Prop} {Z : sM} (x1 : Int32) (x2 : Int64) (A : sM) (_ : VC V) {r : Int32} {A' : sM} (h : fL_monthsCovered x1 x2 A = some (r, A')) : MW l yL_monthsCovered cL_monthsCovered 6 [(0, 11, 14, 27), (0, 11, 18, 19)] 10 90 3000 G ρ V [.ref (ρ 9 0), .int x1, .long x2, .ref (ρ 41 0)] (J A Z) r (J A' Z) := by
  refine vx_enterW (lv := [(0, .ref (ρ 9 0)), (1, .int x1), (2, .long x2), (4, .ref (ρ 41 0))]) RL rfl (by decide) (Nat.le_of_ble_eq_true rfl) rfl ?_
  intro E hE1 hC hQ htab hVC
  subst hE1
  have hE : Ext ρ V ρ V := Ext.rfl
  rw [fL_monthsCovered] at h
  refine wa_aload 2 4 hC dL_monthsCovered_0 3 rfl rfl ?_
  refine wa_iconst 3 hC dL_monthsCovered_2 kc_0 rfl ?_
  refine wa_aload_n 4 0 hC dL_monthsCovered_3 rfl 0 rfl rfl ?_
  refine wa_iload_n 5 1 hC dL_monthsCovered_4 rfl 1 rfl rfl ?_
  refine wa_lload_n 6 2 hC dL_monthsCovered_5 rfl 2 rfl rfl ?_
  rcases xc_some h with ⟨v, A1, e1, h⟩ | ⟨e, A1, e1, h⟩
  · have key : ∀ (ρ1 : Nat → Nat → Nat) (V1 : Nat → Nat → Prop), Ext ρ V ρ1 V1 → VC V1 → WA E G ρ1 V1 90 3000 (J A1 Z) 9 [(0, .ref (ρ1 9 0)), (1, .int x1), (2, .long x2), (4, .ref (ρ1 41 0))] [.int v, .int (0 : Int32), .ref (ρ1 41 0)] := by
      intro ρ V hE0 hVC
      have hE := Ext.trans hE hE0
      refine wa_i2l 10 hC dL_monthsCovered_9 rfl ?_
      obtain ⟨A2, eA2, h⟩ := ltb_some h
      refine wa_lastc 11 hC (vs41 hVC) ar41 rfl (by decide) eA2 dL_monthsCovered_10 rfl ?_
      refine wa_goto 22 hC dL_monthsCovered_11 rfl ?_
      refine wa_iconst 23 hC dL_monthsCovered_22 kc_0 rfl ?_
      exact wl_iret hC hQ hE (sm1 h) (jA (sm2 h)) (by decide) dL_monthsCovered_23
    refine wl_call 9 hC [.int x1, .long x2] [.int (0 : Int32), .ref (ρ 41 0)] knX9_monthsCovered mwL_118 (tX9_monthsCovered E.2.1 hl9 x1 x2 A hVC e1) (vs9 hVC) kc9 (Nat.le_of_ble_eq_true rfl) (Nat.le_of_ble_eq_true rfl) rfl (Nat.le_of_ble_eq_true rfl) dL_monthsCovered_6 rfl (by decide) rfl (st2 := [.int v, .int (0 : Int32), .ref (ρ 41 0)]) rfl (fun ρ1 V1 hE9 hVC9 => ?_)
    rw [← (hE9 9 0 (vs9 hVC)).2, ← (hE9 41 0 (vs41 hVC)).2]
    exact key ρ1 V1 hE9 hVC9
  · by_cases c0 : e = 0
    · subst c0
      rw [if_pos rfl] at h
      refine wl_catch (e9 := 0) hC [.int x1, .long x2] [.int (0 : Int32), .ref (ρ 41 0)] knX9_monthsCovered mwL_118 (tX9_monthsCovered E.2.1 hl9 x1 x2 A hVC e1) (vs9 hVC) kc9 (Nat.le_of_ble_eq_true rfl) (Nat.le_of_ble_eq_true rfl) rfl (Nat.le_of_ble_eq_true rfl) dL_monthsCovered_6 (by decide) rfl htab [] ⟨0, 11, 14, 27⟩ [⟨0, 11, 18, 19⟩] rfl (fun _ hz => nomatch hz) (by decide) (by decide) cll_27 cst_0 (fun ρ1 V1 q9 hE9 hVC9 => ?_)
      rw [← (hE9 9 0 (vs9 hVC)).2, ← (hE9 41 0 (vs41 hVC)).2]
      refine wa_astore (lv' := [(5, .ref q9), (0, .ref (ρ1 9 0)), (1, .int x1), (2, .long x2), (4, .ref (ρ1 41 0))]) 16 5 hC dL_monthsCovered_14 rfl (by decide) rfl rfl ?_
      refine wa_iconst 17 hC dL_monthsCovered_16 kc_1 rfl ?_
      exact wl_iret hC hQ (Ext.trans hE hE9) (sm1 h) (jA (sm2 h)) (by decide) dL_monthsCovered_17
    rw [if_neg c0] at h
    by_cases c1 : e = 1
    · subst c1
      rw [if_pos rfl] at h
      refine wl_catch (e9 := 1) hC [.int x1, .long x2] [.int (0 : Int32), .ref (ρ 41 0)] knX9_monthsCovered mwL_118 (tX9_monthsCovered E.2.1 hl9 x1 x2 A hVC e1) (vs9 hVC) kc9 (Nat.le_of_ble_eq_true rfl) (Nat.le_of_ble_eq_true rfl) rfl (Nat.le_of_ble_eq_true rfl) dL_monthsCovered_6 (by decide) rfl htab [⟨0, 11, 14, 27⟩] ⟨0, 11, 18, 19⟩ [] rfl (List.forall_mem_cons.mpr ⟨⟨by decide, _, cll_27, by decide⟩, (fun _ hz => nomatch hz)⟩) (by decide) (by decide) cll_19 cst_1 (fun ρ1 V1 q9 hE9 hVC9 => ?_)
      rw [← (hE9 9 0 (vs9 hVC)).2, ← (hE9 41 0 (vs41 hVC)).2]
      refine wa_astore (lv' := [(5, .ref q9), (0, .ref (ρ1 9 0)), (1, .int x1), (2, .long x2), (4, .ref (ρ1 41 0))]) 20 5 hC dL_monthsCovered_18 rfl (by decide) rfl rfl ?_
      refine wa_iconst 21 hC dL_monthsCovered_20 kc_2 rfl ?_
      exact wl_iret hC hQ (Ext.trans hE hE9) (sm1 h) (jA (sm2 h)) (by decide) dL_monthsCovered_21
    rw [if_neg c1] at h
    cases h
set_option maxRecDepth 20000 in
theorem tL_correct (l : Launch) (hl9 : l.stackTraces = false) {G : gU} {ρ : Nat → Nat → Nat} {V : Nat → Nat → Prop} {Z : sM} (x1 : Int32) (x2 : Int32) (x3 : Int32) (A : sM) (_ : VC V) {r : Int32} {A' : sM} (h : fL_correct x1 x2 x3 A = some (r, A')) : MW l yL_correct cL_correct 6 [(0, 12, 15, 27), (0, 12, 19, 19)] 10 90 3000 G ρ V [.ref (ρ 9 0), .int x1, .int x2, .int x3, .ref (ρ 41 0)] (J A Z) r (J A' Z) := by
  refine vx_enterW (lv := [(0, .ref (ρ 9 0)), (1, .int x1), (2, .int x2), (3, .int x3), (4, .ref (ρ 41 0))]) RL rfl (by decide) (Nat.le_of_ble_eq_true rfl) rfl ?_
  intro E hE1 hC hQ htab hVC
  subst hE1
  have hE : Ext ρ V ρ V := Ext.rfl
  rw [fL_correct] at h
  refine wa_aload 2 4 hC dL_correct_0 4 rfl rfl ?_
  refine wa_iconst 3 hC dL_correct_2 kc_0 rfl ?_
  refine wa_aload_n 4 0 hC dL_correct_3 rfl 0 rfl rfl ?_
  refine wa_iload_n 5 1 hC dL_correct_4 rfl 1 rfl rfl ?_
  refine wa_iload_n 6 2 hC dL_correct_5 rfl 2 rfl rfl ?_
  refine wa_iload_n 7 3 hC dL_correct_6 rfl 3 rfl rfl ?_
  rcases xc_some h with ⟨v, A1, e1, h⟩ | ⟨e, A1, e1, h⟩
  · have key : ∀ (ρ1 : Nat → Nat → Nat) (V1 : Nat → Nat → Prop), Ext ρ V ρ1 V1 → VC V1 → WA E G ρ1 V1 90 3000 (J A1 Z) 10 [(0, .ref (ρ1 9 0)), (1, .int x1), (2, .int x2), (3, .int x3), (4, .ref (ρ1 41 0))] [.int v, .int (0 : Int32), .ref (ρ1 41 0)] := by
      intro ρ V hE0 hVC
      have hE := Ext.trans hE hE0
      refine wa_i2l 11 hC dL_correct_10 rfl ?_
      obtain ⟨A2, eA2, h⟩ := ltb_some h
      refine wa_lastc 12 hC (vs41 hVC) ar41 rfl (by decide) eA2 dL_correct_11 rfl ?_
      refine wa_goto 23 hC dL_correct_12 rfl ?_
      refine wa_iconst 24 hC dL_correct_23 kc_0 rfl ?_
      exact wl_iret hC hQ hE (sm1 h) (jA (sm2 h)) (by decide) dL_correct_24
    refine wl_call 10 hC [.int x1, .int x2, .int x3] [.int (0 : Int32), .ref (ρ 41 0)] knX9_correct mwL_122 (tX9_correct E.2.1 hl9 x1 x2 x3 A hVC e1) (vs9 hVC) kc9 (Nat.le_of_ble_eq_true rfl) (Nat.le_of_ble_eq_true rfl) rfl (Nat.le_of_ble_eq_true rfl) dL_correct_7 rfl (by decide) rfl (st2 := [.int v, .int (0 : Int32), .ref (ρ 41 0)]) rfl (fun ρ1 V1 hE9 hVC9 => ?_)
    rw [← (hE9 9 0 (vs9 hVC)).2, ← (hE9 41 0 (vs41 hVC)).2]
    exact key ρ1 V1 hE9 hVC9
  · by_cases c0 : e = 0
    · subst c0
      rw [if_pos rfl] at h
      refine wl_catch (e9 := 0) hC [.int x1, .int x2, .int x3] [.int (0 : Int32), .ref (ρ 41 0)] knX9_correct mwL_122 (tX9_correct E.2.1 hl9 x1 x2 x3 A hVC e1) (vs9 hVC) kc9 (Nat.le_of_ble_eq_true rfl) (Nat.le_of_ble_eq_true rfl) rfl (Nat.le_of_ble_eq_true rfl) dL_correct_7 (by decide) rfl htab [] ⟨0, 12, 15, 27⟩ [⟨0, 12, 19, 19⟩] rfl (fun _ hz => nomatch hz) (by decide) (by decide) cll_27 cst_0 (fun ρ1 V1 q9 hE9 hVC9 => ?_)
      rw [← (hE9 9 0 (vs9 hVC)).2, ← (hE9 41 0 (vs41 hVC)).2]
      refine wa_astore (lv' := [(5, .ref q9), (0, .ref (ρ1 9 0)), (1, .int x1), (2, .int x2), (3, .int x3), (4, .ref (ρ1 41 0))]) 17 5 hC dL_correct_15 rfl (by decide) rfl rfl ?_
      refine wa_iconst 18 hC dL_correct_17 kc_1 rfl ?_
      exact wl_iret hC hQ (Ext.trans hE hE9) (sm1 h) (jA (sm2 h)) (by decide) dL_correct_18
    rw [if_neg c0] at h
    by_cases c1 : e = 1
    · subst c1
      rw [if_pos rfl] at h
      refine wl_catch (e9 := 1) hC [.int x1, .int x2, .int x3] [.int (0 : Int32), .ref (ρ 41 0)] knX9_correct mwL_122 (tX9_correct E.2.1 hl9 x1 x2 x3 A hVC e1) (vs9 hVC) kc9 (Nat.le_of_ble_eq_true rfl) (Nat.le_of_ble_eq_true rfl) rfl (Nat.le_of_ble_eq_true rfl) dL_correct_7 (by decide) rfl htab [⟨0, 12, 15, 27⟩] ⟨0, 12, 19, 19⟩ [] rfl (List.forall_mem_cons.mpr ⟨⟨by decide, _, cll_27, by decide⟩, (fun _ hz => nomatch hz)⟩) (by decide) (by decide) cll_19 cst_1 (fun ρ1 V1 q9 hE9 hVC9 => ?_)
      rw [← (hE9 9 0 (vs9 hVC)).2, ← (hE9 41 0 (vs41 hVC)).2]
      refine wa_astore (lv' := [(5, .ref q9), (0, .ref (ρ1 9 0)), (1, .int x1), (2, .int x2), (3, .int x3), (4, .ref (ρ1 41 0))]) 21 5 hC dL_correct_19 rfl (by decide) rfl rfl ?_
      refine wa_iconst 22 hC dL_correct_21 kc_2 rfl ?_
      exact wl_iret hC hQ (Ext.trans hE hE9) (sm1 h) (jA (sm2 h)) (by decide) dL_correct_22
    rw [if_neg c1] at h
    cases h
set_option maxRecDepth 20000 in
theorem tL_shareFund (l : Launch) (hl9 : l.stackTraces = false) {G : gU} {ρ : Nat → Nat → Nat} {V : Nat → Nat → Prop} {Z : sM} (A : sM) (_ : VC V) {r : Int32} {A' : sM} (h : fL_shareFund A = some (r, A')) : MW l yL_shareFund cL_shareFund 3 [(0, 7, 10, 13)] 9 90 3000 G ρ V [.ref (ρ 9 0), .ref (ρ 41 0)] (J A Z) r (J A' Z) := by
  refine vx_enterW (lv := [(0, .ref (ρ 9 0)), (1, .ref (ρ 41 0))]) RL rfl (by decide) (Nat.le_of_ble_eq_true rfl) rfl ?_
  intro E hE1 hC hQ htab hVC
  subst hE1
  have hE : Ext ρ V ρ V := Ext.rfl
  rw [fL_shareFund] at h
  refine wa_aload_n 1 1 hC dL_shareFund_0 rfl 1 rfl rfl ?_
  refine wa_iconst 2 hC dL_shareFund_1 kc_0 rfl ?_
  refine wa_aload_n 3 0 hC dL_shareFund_2 rfl 0 rfl rfl ?_
  rcases xc_some h with ⟨v, A1, e1, h⟩ | ⟨e, A1, e1, h⟩
  · have key : ∀ (ρ1 : Nat → Nat → Nat) (V1 : Nat → Nat → Prop), Ext ρ V ρ1 V1 → VC V1 → WA E G ρ1 V1 90 3000 (J A1 Z) 6 [(0, .ref (ρ1 9 0)), (1, .ref (ρ1 41 0))] [.long v, .int (0 : Int32), .ref (ρ1 41 0)] := by
      intro ρ V hE0 hVC
      have hE := Ext.trans hE hE0
      obtain ⟨A2, eA2, h⟩ := ltb_some h
      refine wa_lastc 7 hC (vs41 hVC) ar41 rfl (by decide) eA2 dL_shareFund_6 rfl ?_
      refine wa_goto 13 hC dL_shareFund_7 rfl ?_
      refine wa_iconst 14 hC dL_shareFund_13 kc_0 rfl ?_
      exact wl_iret hC hQ hE (sm1 h) (jA (sm2 h)) (by decide) dL_shareFund_14
    refine wl_call 6 hC [] [.int (0 : Int32), .ref (ρ 41 0)] knX9_shareFund mwL_125 (tX9_shareFund E.2.1 hl9 A hVC e1) (vs9 hVC) kc9 (Nat.le_of_ble_eq_true rfl) (Nat.le_of_ble_eq_true rfl) rfl (Nat.le_of_ble_eq_true rfl) dL_shareFund_3 rfl (by decide) rfl (st2 := [.long v, .int (0 : Int32), .ref (ρ 41 0)]) rfl (fun ρ1 V1 hE9 hVC9 => ?_)
    rw [← (hE9 9 0 (vs9 hVC)).2, ← (hE9 41 0 (vs41 hVC)).2]
    exact key ρ1 V1 hE9 hVC9
  · by_cases c2 : e = 2
    · subst c2
      rw [if_pos rfl] at h
      refine wl_catch (e9 := 2) hC [] [.int (0 : Int32), .ref (ρ 41 0)] knX9_shareFund mwL_125 (tX9_shareFund E.2.1 hl9 A hVC e1) (vs9 hVC) kc9 (Nat.le_of_ble_eq_true rfl) (Nat.le_of_ble_eq_true rfl) rfl (Nat.le_of_ble_eq_true rfl) dL_shareFund_3 (by decide) rfl htab [] ⟨0, 7, 10, 13⟩ [] rfl (fun _ hz => nomatch hz) (by decide) (by decide) cll_13 cst_2 (fun ρ1 V1 q9 hE9 hVC9 => ?_)
      rw [← (hE9 9 0 (vs9 hVC)).2, ← (hE9 41 0 (vs41 hVC)).2]
      refine wa_astore_n (lv' := [(2, .ref q9), (0, .ref (ρ1 9 0)), (1, .ref (ρ1 41 0))]) 11 2 hC dL_shareFund_10 rfl rfl (by decide) rfl rfl ?_
      refine wa_iconst 12 hC dL_shareFund_11 kc_1 rfl ?_
      exact wl_iret hC hQ (Ext.trans hE hE9) (sm1 h) (jA (sm2 h)) (by decide) dL_shareFund_12
    rw [if_neg c2] at h
    cases h
set_option maxRecDepth 20000 in
theorem tL_describe (l : Launch) (hl9 : l.stackTraces = false) {G : gU} {ρ : Nat → Nat → Nat} {V : Nat → Nat → Prop} {Z : sM} (x1 : Int32) (A : sM) (_ : VC V) {r : Int32} {A' : sM} (h : fL_describe x1 A = some (r, A')) : MW l yL_describe cL_describe 4 [(0, 9, 12, 27)] 10 90 3000 G ρ V [.ref (ρ 9 0), .int x1, .ref (ρ 41 0)] (J A Z) r (J A' Z) := by
  refine vx_enterW (lv := [(0, .ref (ρ 9 0)), (1, .int x1), (2, .ref (ρ 41 0))]) RL rfl (by decide) (Nat.le_of_ble_eq_true rfl) rfl ?_
  intro E hE1 hC hQ htab hVC
  subst hE1
  have hE : Ext ρ V ρ V := Ext.rfl
  rw [fL_describe] at h
  refine wa_aload_n 1 2 hC dL_describe_0 rfl 2 rfl rfl ?_
  refine wa_iconst 2 hC dL_describe_1 kc_0 rfl ?_
  refine wa_aload_n 3 0 hC dL_describe_2 rfl 0 rfl rfl ?_
  refine wa_iload_n 4 1 hC dL_describe_3 rfl 1 rfl rfl ?_
  rcases xc_some h with ⟨v, A1, e1, h⟩ | ⟨e, A1, e1, h⟩
  · have key : ∀ (ρ1 : Nat → Nat → Nat) (V1 : Nat → Nat → Prop), Ext ρ V ρ1 V1 → VC V1 → WA E G ρ1 V1 90 3000 (J A1 Z) 7 [(0, .ref (ρ1 9 0)), (1, .int x1), (2, .ref (ρ1 41 0))] [.int v, .int (0 : Int32), .ref (ρ1 41 0)] := by
      intro ρ V hE0 hVC
      have hE := Ext.trans hE hE0
      refine wa_i2l 8 hC dL_describe_7 rfl ?_
      obtain ⟨A2, eA2, h⟩ := ltb_some h
      refine wa_lastc 9 hC (vs41 hVC) ar41 rfl (by decide) eA2 dL_describe_8 rfl ?_
      refine wa_goto 15 hC dL_describe_9 rfl ?_
      refine wa_iconst 16 hC dL_describe_15 kc_0 rfl ?_
      exact wl_iret hC hQ hE (sm1 h) (jA (sm2 h)) (by decide) dL_describe_16
    refine wl_call 7 hC [.int x1] [.int (0 : Int32), .ref (ρ 41 0)] knX9_describe mwL_128 (tX9_describe E.2.1 hl9 x1 A hVC e1) (vs9 hVC) kc9 (Nat.le_of_ble_eq_true rfl) (Nat.le_of_ble_eq_true rfl) rfl (Nat.le_of_ble_eq_true rfl) dL_describe_4 rfl (by decide) rfl (st2 := [.int v, .int (0 : Int32), .ref (ρ 41 0)]) rfl (fun ρ1 V1 hE9 hVC9 => ?_)
    rw [← (hE9 9 0 (vs9 hVC)).2, ← (hE9 41 0 (vs41 hVC)).2]
    exact key ρ1 V1 hE9 hVC9
  · by_cases c0 : e = 0
    · subst c0
      rw [if_pos rfl] at h
      refine wl_catch (e9 := 0) hC [.int x1] [.int (0 : Int32), .ref (ρ 41 0)] knX9_describe mwL_128 (tX9_describe E.2.1 hl9 x1 A hVC e1) (vs9 hVC) kc9 (Nat.le_of_ble_eq_true rfl) (Nat.le_of_ble_eq_true rfl) rfl (Nat.le_of_ble_eq_true rfl) dL_describe_4 (by decide) rfl htab [] ⟨0, 9, 12, 27⟩ [] rfl (fun _ hz => nomatch hz) (by decide) (by decide) cll_27 cst_0 (fun ρ1 V1 q9 hE9 hVC9 => ?_)
      rw [← (hE9 9 0 (vs9 hVC)).2, ← (hE9 41 0 (vs41 hVC)).2]
      refine wa_astore_n (lv' := [(3, .ref q9), (0, .ref (ρ1 9 0)), (1, .int x1), (2, .ref (ρ1 41 0))]) 13 3 hC dL_describe_12 rfl rfl (by decide) rfl rfl ?_
      refine wa_iconst 14 hC dL_describe_13 kc_1 rfl ?_
      exact wl_iret hC hQ (Ext.trans hE hE9) (sm1 h) (jA (sm2 h)) (by decide) dL_describe_14
    rw [if_neg c0] at h
    cases h
set_option maxRecDepth 20000 in
theorem tL_describedByte (l : Launch) (hl9 : l.stackTraces = false) {G : gU} {ρ : Nat → Nat → Nat} {V : Nat → Nat → Prop} {Z : sM} (x1 : Int32) (A : sM) (_ : VC V) {r : Int32} {A' : sM} (h : fL_describedByte x1 A = some (r, A')) : MW l yL_describedByte cL_describedByte 4 [(0, 9, 12, 27)] 9 90 3000 G ρ V [.ref (ρ 9 0), .int x1, .ref (ρ 41 0)] (J A Z) r (J A' Z) := by
  refine vx_enterW (lv := [(0, .ref (ρ 9 0)), (1, .int x1), (2, .ref (ρ 41 0))]) RL rfl (by decide) (Nat.le_of_ble_eq_true rfl) rfl ?_
  intro E hE1 hC hQ htab hVC
  subst hE1
  have hE : Ext ρ V ρ V := Ext.rfl
  rw [fL_describedByte] at h
  refine wa_aload_n 1 2 hC dL_describedByte_0 rfl 2 rfl rfl ?_
  refine wa_iconst 2 hC dL_describedByte_1 kc_0 rfl ?_
  refine wa_aload_n 3 0 hC dL_describedByte_2 rfl 0 rfl rfl ?_
  refine wa_iload_n 4 1 hC dL_describedByte_3 rfl 1 rfl rfl ?_
  rcases xc_some h with ⟨v, A1, e1, h⟩ | ⟨e, A1, e1, h⟩
  · have key : ∀ (ρ1 : Nat → Nat → Nat) (V1 : Nat → Nat → Prop), Ext ρ V ρ1 V1 → VC V1 → WA E G ρ1 V1 90 3000 (J A1 Z) 7 [(0, .ref (ρ1 9 0)), (1, .int x1), (2, .ref (ρ1 41 0))] [.int v, .int (0 : Int32), .ref (ρ1 41 0)] := by
      intro ρ V hE0 hVC
      have hE := Ext.trans hE hE0
      refine wa_i2l 8 hC dL_describedByte_7 rfl ?_
      obtain ⟨A2, eA2, h⟩ := ltb_some h
      refine wa_lastc 9 hC (vs41 hVC) ar41 rfl (by decide) eA2 dL_describedByte_8 rfl ?_
      refine wa_goto 15 hC dL_describedByte_9 rfl ?_
      refine wa_iconst 16 hC dL_describedByte_15 kc_0 rfl ?_
      exact wl_iret hC hQ hE (sm1 h) (jA (sm2 h)) (by decide) dL_describedByte_16
    refine wl_call 7 hC [.int x1] [.int (0 : Int32), .ref (ρ 41 0)] knX9_describedByte mwL_131 (tX9_describedByte E.2.1 hl9 x1 A hVC e1) (vs9 hVC) kc9 (Nat.le_of_ble_eq_true rfl) (Nat.le_of_ble_eq_true rfl) rfl (Nat.le_of_ble_eq_true rfl) dL_describedByte_4 rfl (by decide) rfl (st2 := [.int v, .int (0 : Int32), .ref (ρ 41 0)]) rfl (fun ρ1 V1 hE9 hVC9 => ?_)
    rw [← (hE9 9 0 (vs9 hVC)).2, ← (hE9 41 0 (vs41 hVC)).2]
    exact key ρ1 V1 hE9 hVC9
  · by_cases c0 : e = 0
    · subst c0
      rw [if_pos rfl] at h
      refine wl_catch (e9 := 0) hC [.int x1] [.int (0 : Int32), .ref (ρ 41 0)] knX9_describedByte mwL_131 (tX9_describedByte E.2.1 hl9 x1 A hVC e1) (vs9 hVC) kc9 (Nat.le_of_ble_eq_true rfl) (Nat.le_of_ble_eq_true rfl) rfl (Nat.le_of_ble_eq_true rfl) dL_describedByte_4 (by decide) rfl htab [] ⟨0, 9, 12, 27⟩ [] rfl (fun _ hz => nomatch hz) (by decide) (by decide) cll_27 cst_0 (fun ρ1 V1 q9 hE9 hVC9 => ?_)
      rw [← (hE9 9 0 (vs9 hVC)).2, ← (hE9 41 0 (vs41 hVC)).2]
      refine wa_astore_n (lv' := [(3, .ref q9), (0, .ref (ρ1 9 0)), (1, .int x1), (2, .ref (ρ1 41 0))]) 13 3 hC dL_describedByte_12 rfl rfl (by decide) rfl rfl ?_
      refine wa_iconst 14 hC dL_describedByte_13 kc_1 rfl ?_
      exact wl_iret hC hQ (Ext.trans hE hE9) (sm1 h) (jA (sm2 h)) (by decide) dL_describedByte_14
    rw [if_neg c0] at h
    cases h
set_option maxRecDepth 20000 in
theorem tL_undo (l : Launch) (hl9 : l.stackTraces = false) {G : gU} {ρ : Nat → Nat → Nat} {V : Nat → Nat → Prop} {Z : sM} (A : sM) (_ : VC V) {r : Int32} {A' : sM} (h : fL_undo A = some (r, A')) : MW l yL_undo cL_undo 3 [(0, 8, 11, 13)] 9 90 3000 G ρ V [.ref (ρ 9 0), .ref (ρ 41 0)] (J A Z) r (J A' Z) := by
  refine vx_enterW (lv := [(0, .ref (ρ 9 0)), (1, .ref (ρ 41 0))]) RL rfl (by decide) (Nat.le_of_ble_eq_true rfl) rfl ?_
  intro E hE1 hC hQ htab hVC
  subst hE1
  have hE : Ext ρ V ρ V := Ext.rfl
  rw [fL_undo] at h
  refine wa_aload_n 1 1 hC dL_undo_0 rfl 1 rfl rfl ?_
  refine wa_iconst 2 hC dL_undo_1 kc_0 rfl ?_
  refine wa_aload_n 3 0 hC dL_undo_2 rfl 0 rfl rfl ?_
  rcases xc_some h with ⟨v, A1, e1, h⟩ | ⟨e, A1, e1, h⟩
  · have key : ∀ (ρ1 : Nat → Nat → Nat) (V1 : Nat → Nat → Prop), Ext ρ V ρ1 V1 → VC V1 → WA E G ρ1 V1 90 3000 (J A1 Z) 6 [(0, .ref (ρ1 9 0)), (1, .ref (ρ1 41 0))] [.int v, .int (0 : Int32), .ref (ρ1 41 0)] := by
      intro ρ V hE0 hVC
      have hE := Ext.trans hE hE0
      refine wa_i2l 7 hC dL_undo_6 rfl ?_
      obtain ⟨A2, eA2, h⟩ := ltb_some h
      refine wa_lastc 8 hC (vs41 hVC) ar41 rfl (by decide) eA2 dL_undo_7 rfl ?_
      refine wa_goto 14 hC dL_undo_8 rfl ?_
      refine wa_iconst 15 hC dL_undo_14 kc_0 rfl ?_
      exact wl_iret hC hQ hE (sm1 h) (jA (sm2 h)) (by decide) dL_undo_15
    refine wl_call 6 hC [] [.int (0 : Int32), .ref (ρ 41 0)] knX9_undo mwL_134 (tX9_undo E.2.1 hl9 A hVC e1) (vs9 hVC) kc9 (Nat.le_of_ble_eq_true rfl) (Nat.le_of_ble_eq_true rfl) rfl (Nat.le_of_ble_eq_true rfl) dL_undo_3 rfl (by decide) rfl (st2 := [.int v, .int (0 : Int32), .ref (ρ 41 0)]) rfl (fun ρ1 V1 hE9 hVC9 => ?_)
    rw [← (hE9 9 0 (vs9 hVC)).2, ← (hE9 41 0 (vs41 hVC)).2]
    exact key ρ1 V1 hE9 hVC9
  · by_cases c2 : e = 2
    · subst c2
      rw [if_pos rfl] at h
      refine wl_catch (e9 := 2) hC [] [.int (0 : Int32), .ref (ρ 41 0)] knX9_undo mwL_134 (tX9_undo E.2.1 hl9 A hVC e1) (vs9 hVC) kc9 (Nat.le_of_ble_eq_true rfl) (Nat.le_of_ble_eq_true rfl) rfl (Nat.le_of_ble_eq_true rfl) dL_undo_3 (by decide) rfl htab [] ⟨0, 8, 11, 13⟩ [] rfl (fun _ hz => nomatch hz) (by decide) (by decide) cll_13 cst_2 (fun ρ1 V1 q9 hE9 hVC9 => ?_)
      rw [← (hE9 9 0 (vs9 hVC)).2, ← (hE9 41 0 (vs41 hVC)).2]
      refine wa_astore_n (lv' := [(2, .ref q9), (0, .ref (ρ1 9 0)), (1, .ref (ρ1 41 0))]) 12 2 hC dL_undo_11 rfl rfl (by decide) rfl rfl ?_
      refine wa_iconst 13 hC dL_undo_12 kc_1 rfl ?_
      exact wl_iret hC hQ (Ext.trans hE hE9) (sm1 h) (jA (sm2 h)) (by decide) dL_undo_13
    rw [if_neg c2] at h
    cases h
