set_option maxRecDepth 20000 in
theorem wL_case0 {E : eU} {G : gU} {ρ0 ρ : Nat → Nat → Nat} {V0 V : Nat → Nat → Prop} {b L k1 k2 : Nat} {xs : Nat → Int32} {x4 : Int32} {A Z A' Z' : sM} (hC : CX E G cL_law 8 RL (some .boolean) 1312 601024 7293034) (hl9 : E.2.1.stackTraces = false) (hS : SC E G b L xs) (hVC : VC V) (hE : Ext ρ0 V0 ρ V) (hkk : k1 + 90 ≤ 601024 ∧ k2 + 3000 ≤ 7293034) (hk : ∀ ρ' V' j1 j2, Ext ρ0 V0 ρ' V' → VC V' → (j1 ≤ k1 + 90 ∧ j2 ≤ k2 + 3000) → ∀ {M : sM}, M = J A' Z' → WA E G ρ' V' j1 j2 M 2681 [(0, .ref b), (1, .ref (ρ' 9 0)), (2, .ref (ρ' 10 0)), (3, .ref (ρ' 41 0)), (4, .int x4)] []) (h : fL_case0 L xs x4 A Z = some (A', Z')) : WA E G ρ V k1 k2 (J A Z) 228 [(0, .ref b), (1, .ref (ρ 9 0)), (2, .ref (ρ 10 0)), (3, .ref (ρ 41 0)), (4, .int x4)] [] := by
  obtain ⟨hkk1, hkk2⟩ := hkk
  rw [fL_case0] at h
  refine wa_aload_n 229 1 hC dL_law_228 rfl 1 rfl rfl ?_
  refine wa_aload_n 230 0 hC dL_law_229 rfl 0 rfl rfl ?_
  refine wa_iload 232 4 hC dL_law_230 4 rfl rfl ?_
  refine wa_iconst 233 hC dL_law_232 kc_1 rfl ?_
  refine wa_iadd 234 hC dL_law_233 rfl ?_
  obtain ⟨g_18, h⟩ := gd_some h
  refine wl_sld 235 hC hS g_18 dL_law_234 rfl ?_
  refine wa_aload_n 236 0 hC dL_law_235 rfl 0 rfl rfl ?_
  refine wa_iload 238 4 hC dL_law_236 4 rfl rfl ?_
  refine wa_iconst 239 hC dL_law_238 kc_2 rfl ?_
  refine wa_iadd 240 hC dL_law_239 rfl ?_
  obtain ⟨g_17, h⟩ := gd_some h
  refine wl_sld 241 hC hS g_17 dL_law_240 rfl ?_
  refine wa_aload_n 242 0 hC dL_law_241 rfl 0 rfl rfl ?_
  refine wa_iload 244 4 hC dL_law_242 4 rfl rfl ?_
  refine wa_iconst 245 hC dL_law_244 kc_3 rfl ?_
  refine wa_iadd 246 hC dL_law_245 rfl ?_
  obtain ⟨g_16, h⟩ := gd_some h
  refine wl_sld 247 hC hS g_16 dL_law_246 rfl ?_
  refine wa_aload_n 248 0 hC dL_law_247 rfl 0 rfl rfl ?_
  refine wa_iload 250 4 hC dL_law_248 4 rfl rfl ?_
  refine wa_iconst 251 hC dL_law_250 kc_4 rfl ?_
  refine wa_iadd 252 hC dL_law_251 rfl ?_
  obtain ⟨g_15, h⟩ := gd_some h
  refine wl_sld 253 hC hS g_15 dL_law_252 rfl ?_
  refine wa_aload_n 254 0 hC dL_law_253 rfl 0 rfl rfl ?_
  refine wa_iload 256 4 hC dL_law_254 4 rfl rfl ?_
  refine wa_iconst 257 hC dL_law_256 kc_5 rfl ?_
  refine wa_iadd 258 hC dL_law_257 rfl ?_
  obtain ⟨g_14, h⟩ := gd_some h
  refine wl_sld 259 hC hS g_14 dL_law_258 rfl ?_
  refine wa_aload_n 260 3 hC dL_law_259 rfl 3 rfl rfl ?_
  obtain ⟨r_2, A_1, e_3, h⟩ := bd2_some h
  have key : ∀ (ρ1 : Nat → Nat → Nat) (V1 : Nat → Nat → Prop), Ext ρ V ρ1 V1 → VC V1 → WA E G ρ1 V1 (k1 + 90) (k2 + 3000) (J A_1 Z) 263 [(0, .ref b), (1, .ref (ρ1 9 0)), (2, .ref (ρ1 10 0)), (3, .ref (ρ1 41 0)), (4, .int x4)] [.int r_2] := by
    intro ρ V hE0 hVC
    have hE := Ext.trans hE hE0
    refine wa_istore (lv' := [(5, .int r_2), (0, .ref b), (1, .ref (ρ 9 0)), (2, .ref (ρ 10 0)), (3, .ref (ρ 41 0)), (4, .int x4)]) 265 5 hC dL_law_263 rfl (by decide) rfl rfl ?_
    refine wa_aload_n 266 2 hC dL_law_265 rfl 3 rfl rfl ?_
    refine wa_aload_n 267 0 hC dL_law_266 rfl 1 rfl rfl ?_
    refine wa_iload 269 4 hC dL_law_267 5 rfl rfl ?_
    refine wa_iconst 270 hC dL_law_269 kc_1 rfl ?_
    refine wa_iadd 271 hC dL_law_270 rfl ?_
    obtain ⟨g_13, h⟩ := gd_some h
    refine wl_sld 272 hC hS g_13 dL_law_271 rfl ?_
    refine wa_aload_n 273 0 hC dL_law_272 rfl 1 rfl rfl ?_
    refine wa_iload 275 4 hC dL_law_273 5 rfl rfl ?_
    refine wa_iconst 276 hC dL_law_275 kc_2 rfl ?_
    refine wa_iadd 277 hC dL_law_276 rfl ?_
    obtain ⟨g_12, h⟩ := gd_some h
    refine wl_sld 278 hC hS g_12 dL_law_277 rfl ?_
    refine wa_aload_n 279 0 hC dL_law_278 rfl 1 rfl rfl ?_
    refine wa_iload 281 4 hC dL_law_279 5 rfl rfl ?_
    refine wa_iconst 282 hC dL_law_281 kc_3 rfl ?_
    refine wa_iadd 283 hC dL_law_282 rfl ?_
    obtain ⟨g_11, h⟩ := gd_some h
    refine wl_sld 284 hC hS g_11 dL_law_283 rfl ?_
    refine wa_aload_n 285 0 hC dL_law_284 rfl 1 rfl rfl ?_
    refine wa_iload 287 4 hC dL_law_285 5 rfl rfl ?_
    refine wa_iconst 288 hC dL_law_287 kc_4 rfl ?_
    refine wa_iadd 289 hC dL_law_288 rfl ?_
    obtain ⟨g_10, h⟩ := gd_some h
    refine wl_sld 290 hC hS g_10 dL_law_289 rfl ?_
    refine wa_aload_n 291 0 hC dL_law_290 rfl 1 rfl rfl ?_
    refine wa_iload 293 4 hC dL_law_291 5 rfl rfl ?_
    refine wa_iconst 294 hC dL_law_293 kc_5 rfl ?_
    refine wa_iadd 295 hC dL_law_294 rfl ?_
    obtain ⟨g_9, h⟩ := gd_some h
    refine wl_sld 296 hC hS g_9 dL_law_295 rfl ?_
    obtain ⟨r_6, Z_5, e_4, h⟩ := bd2_some h
    refine wa_callVi 299 hC [.int (xs (x4 + (1 : Int32)).toNatClampNeg), .int (xs (x4 + (2 : Int32)).toNatClampNeg), .int (xs (x4 + (3 : Int32)).toNatClampNeg), .int (xs (x4 + (4 : Int32)).toNatClampNeg), .int (xs (x4 + (5 : Int32)).toNatClampNeg)] [] knX10_append mvL_147 (tX10_append E.2.1 (xs (x4 + (1 : Int32)).toNatClampNeg) (xs (x4 + (2 : Int32)).toNatClampNeg) (xs (x4 + (3 : Int32)).toNatClampNeg) (xs (x4 + (4 : Int32)).toNatClampNeg) (xs (x4 + (5 : Int32)).toNatClampNeg) Z hVC e_4) (vs10 hVC) kc10 (Nat.le_of_ble_eq_true rfl) (Nat.le_of_ble_eq_true rfl) rfl (Nat.le_of_ble_eq_true rfl) dL_law_296 rfl ⟨by omega, by omega⟩ rfl ?_
    refine wa_istore (lv' := [(6, .int r_6), (5, .int r_2), (0, .ref b), (1, .ref (ρ 9 0)), (2, .ref (ρ 10 0)), (3, .ref (ρ 41 0)), (4, .int x4)]) 301 6 hC dL_law_299 rfl (by decide) rfl rfl ?_
    refine wa_aload_n 302 2 hC dL_law_301 rfl 4 rfl rfl ?_
    obtain ⟨r_8, e_7, h⟩ := bd_some h
    refine wa_callVi 305 hC [] [] knX10_thrown mvL_148 (tX10_thrown E.2.1 Z_5 hVC e_7) (vs10 hVC) kc10 (Nat.le_of_ble_eq_true rfl) (Nat.le_of_ble_eq_true rfl) rfl (Nat.le_of_ble_eq_true rfl) dL_law_302 rfl ⟨by omega, by omega⟩ rfl ?_
    refine wa_iload 307 5 hC dL_law_305 1 rfl rfl ?_
    refine wa_icmp_eq 310 312 hC dL_law_307 rfl rfl h (fun h => ?_) (fun h => ?_)
    · refine wa_iload 314 5 hC dL_law_312 1 rfl rfl ?_
      refine wa_if_ne 317 329 hC dL_law_314 rfl rfl h (fun h => ?_) (fun h => ?_)
      · refine wa_goto 2681 hC dL_law_329 rfl ?_
        refine wa_pick [2, 3, 4, 5, 6] rfl ?_
        exact hk ρ V (k1 + 90) (k2 + 3000) hE hVC ⟨by omega, by omega⟩ (show (J A_1 Z_5) = _ by rw [sm1 h, sm2 h])
      · refine wa_aload_n 318 3 hC dL_law_317 rfl 5 rfl rfl ?_
        refine wa_iconst 319 hC dL_law_318 kc_0 rfl ?_
        refine wa_laldc 320 hC (vs41 hVC) ar41 rfl (by decide) dL_law_319 rfl ?_
        refine wa_iload 322 6 hC dL_law_320 0 rfl rfl ?_
        refine wa_i2l 323 hC dL_law_322 rfl ?_
        refine wa_lcmp 324 hC dL_law_323 rfl ?_
        refine wa_lcmp_eq 327 329 hC dL_law_324 rfl rfl h (fun h => ?_) (fun h => ?_)
        · refine wa_goto 2681 hC dL_law_329 rfl ?_
          refine wa_pick [2, 3, 4, 5, 6] rfl ?_
          exact hk ρ V (k1 + 90) (k2 + 3000) hE hVC ⟨by omega, by omega⟩ (show (J A_1 Z_5) = _ by rw [sm1 h, sm2 h])
        · cases h
    · cases h
  refine wl_wrap 263 hC [.ref (ρ 9 0), .int (xs (x4 + (1 : Int32)).toNatClampNeg), .int (xs (x4 + (2 : Int32)).toNatClampNeg), .int (xs (x4 + (3 : Int32)).toNatClampNeg), .int (xs (x4 + (4 : Int32)).toNatClampNeg), .int (xs (x4 + (5 : Int32)).toNatClampNeg), .ref (ρ 41 0)] [] wr_append (tL_append E.2.1 hl9 (xs (x4 + (1 : Int32)).toNatClampNeg) (xs (x4 + (2 : Int32)).toNatClampNeg) (xs (x4 + (3 : Int32)).toNatClampNeg) (xs (x4 + (4 : Int32)).toNatClampNeg) (xs (x4 + (5 : Int32)).toNatClampNeg) A hVC e_3) (Nat.le_of_ble_eq_true rfl) (Nat.le_of_ble_eq_true rfl) rfl (Nat.le_of_ble_eq_true rfl) dL_law_260 rfl ⟨by omega, by omega⟩ rfl (fun ρ1 V1 hE9 hVC9 => ?_)
  rw [← (hE9 9 0 (vs9 hVC)).2, ← (hE9 10 0 (vs10 hVC)).2, ← (hE9 41 0 (vs41 hVC)).2]
  exact key ρ1 V1 hE9 hVC9
set_option maxRecDepth 20000 in
theorem wL_case1 {E : eU} {G : gU} {ρ0 ρ : Nat → Nat → Nat} {V0 V : Nat → Nat → Prop} {b L k1 k2 : Nat} {xs : Nat → Int32} {x4 : Int32} {A Z A' Z' : sM} (hC : CX E G cL_law 8 RL (some .boolean) 1312 601024 7293034) (hl9 : E.2.1.stackTraces = false) (hS : SC E G b L xs) (hVC : VC V) (hE : Ext ρ0 V0 ρ V) (hkk : k1 + 90 ≤ 601024 ∧ k2 + 3000 ≤ 7293034) (hk : ∀ ρ' V' j1 j2, Ext ρ0 V0 ρ' V' → VC V' → (j1 ≤ k1 + 90 ∧ j2 ≤ k2 + 3000) → ∀ {M : sM}, M = J A' Z' → WA E G ρ' V' j1 j2 M 2681 [(0, .ref b), (1, .ref (ρ' 9 0)), (2, .ref (ρ' 10 0)), (3, .ref (ρ' 41 0)), (4, .int x4)] []) (h : fL_case1 L xs x4 A Z = some (A', Z')) : WA E G ρ V k1 k2 (J A Z) 332 [(0, .ref b), (1, .ref (ρ 9 0)), (2, .ref (ρ 10 0)), (3, .ref (ρ 41 0)), (4, .int x4)] [] := by
  obtain ⟨hkk1, hkk2⟩ := hkk
  rw [fL_case1] at h
  refine wa_aload_n 333 1 hC dL_law_332 rfl 1 rfl rfl ?_
  refine wa_aload_n 334 0 hC dL_law_333 rfl 0 rfl rfl ?_
  refine wa_iload 336 4 hC dL_law_334 4 rfl rfl ?_
  refine wa_iconst 337 hC dL_law_336 kc_1 rfl ?_
  refine wa_iadd 338 hC dL_law_337 rfl ?_
  obtain ⟨g_10, h⟩ := gd_some h
  refine wl_sld 339 hC hS g_10 dL_law_338 rfl ?_
  refine wa_aload_n 340 3 hC dL_law_339 rfl 3 rfl rfl ?_
  obtain ⟨r_2, A_1, e_3, h⟩ := bd2_some h
  have key : ∀ (ρ1 : Nat → Nat → Nat) (V1 : Nat → Nat → Prop), Ext ρ V ρ1 V1 → VC V1 → WA E G ρ1 V1 (k1 + 90) (k2 + 3000) (J A_1 Z) 343 [(0, .ref b), (1, .ref (ρ1 9 0)), (2, .ref (ρ1 10 0)), (3, .ref (ρ1 41 0)), (4, .int x4)] [.int r_2] := by
    intro ρ V hE0 hVC
    have hE := Ext.trans hE hE0
    refine wa_istore (lv' := [(5, .int r_2), (0, .ref b), (1, .ref (ρ 9 0)), (2, .ref (ρ 10 0)), (3, .ref (ρ 41 0)), (4, .int x4)]) 345 5 hC dL_law_343 rfl (by decide) rfl rfl ?_
    refine wa_aload_n 346 2 hC dL_law_345 rfl 3 rfl rfl ?_
    refine wa_aload_n 347 0 hC dL_law_346 rfl 1 rfl rfl ?_
    refine wa_iload 349 4 hC dL_law_347 5 rfl rfl ?_
    refine wa_iconst 350 hC dL_law_349 kc_1 rfl ?_
    refine wa_iadd 351 hC dL_law_350 rfl ?_
    obtain ⟨g_9, h⟩ := gd_some h
    refine wl_sld 352 hC hS g_9 dL_law_351 rfl ?_
    obtain ⟨r_6, Z_5, e_4, h⟩ := bd2_some h
    refine wa_callVi 355 hC [.int (xs (x4 + (1 : Int32)).toNatClampNeg)] [] knX10_load mvL_154 (tX10_load E.2.1 (xs (x4 + (1 : Int32)).toNatClampNeg) Z hVC e_4) (vs10 hVC) kc10 (Nat.le_of_ble_eq_true rfl) (Nat.le_of_ble_eq_true rfl) rfl (Nat.le_of_ble_eq_true rfl) dL_law_352 rfl ⟨by omega, by omega⟩ rfl ?_
    refine wa_istore (lv' := [(6, .int r_6), (5, .int r_2), (0, .ref b), (1, .ref (ρ 9 0)), (2, .ref (ρ 10 0)), (3, .ref (ρ 41 0)), (4, .int x4)]) 357 6 hC dL_law_355 rfl (by decide) rfl rfl ?_
    refine wa_aload_n 358 2 hC dL_law_357 rfl 4 rfl rfl ?_
    obtain ⟨r_8, e_7, h⟩ := bd_some h
    refine wa_callVi 361 hC [] [] knX10_thrown mvL_148 (tX10_thrown E.2.1 Z_5 hVC e_7) (vs10 hVC) kc10 (Nat.le_of_ble_eq_true rfl) (Nat.le_of_ble_eq_true rfl) rfl (Nat.le_of_ble_eq_true rfl) dL_law_358 rfl ⟨by omega, by omega⟩ rfl ?_
    refine wa_iload 363 5 hC dL_law_361 1 rfl rfl ?_
    refine wa_icmp_eq 366 368 hC dL_law_363 rfl rfl h (fun h => ?_) (fun h => ?_)
    · refine wa_iload 370 5 hC dL_law_368 1 rfl rfl ?_
      refine wa_if_ne 373 385 hC dL_law_370 rfl rfl h (fun h => ?_) (fun h => ?_)
      · refine wa_goto 2681 hC dL_law_385 rfl ?_
        refine wa_pick [2, 3, 4, 5, 6] rfl ?_
        exact hk ρ V (k1 + 90) (k2 + 3000) hE hVC ⟨by omega, by omega⟩ (show (J A_1 Z_5) = _ by rw [sm1 h, sm2 h])
      · refine wa_aload_n 374 3 hC dL_law_373 rfl 5 rfl rfl ?_
        refine wa_iconst 375 hC dL_law_374 kc_0 rfl ?_
        refine wa_laldc 376 hC (vs41 hVC) ar41 rfl (by decide) dL_law_375 rfl ?_
        refine wa_iload 378 6 hC dL_law_376 0 rfl rfl ?_
        refine wa_i2l 379 hC dL_law_378 rfl ?_
        refine wa_lcmp 380 hC dL_law_379 rfl ?_
        refine wa_lcmp_eq 383 385 hC dL_law_380 rfl rfl h (fun h => ?_) (fun h => ?_)
        · refine wa_goto 2681 hC dL_law_385 rfl ?_
          refine wa_pick [2, 3, 4, 5, 6] rfl ?_
          exact hk ρ V (k1 + 90) (k2 + 3000) hE hVC ⟨by omega, by omega⟩ (show (J A_1 Z_5) = _ by rw [sm1 h, sm2 h])
        · cases h
    · cases h
  refine wl_wrap 343 hC [.ref (ρ 9 0), .int (xs (x4 + (1 : Int32)).toNatClampNeg), .ref (ρ 41 0)] [] wr_load (tL_load E.2.1 hl9 (xs (x4 + (1 : Int32)).toNatClampNeg) A hVC e_3) (Nat.le_of_ble_eq_true rfl) (Nat.le_of_ble_eq_true rfl) rfl (Nat.le_of_ble_eq_true rfl) dL_law_340 rfl ⟨by omega, by omega⟩ rfl (fun ρ1 V1 hE9 hVC9 => ?_)
  rw [← (hE9 9 0 (vs9 hVC)).2, ← (hE9 10 0 (vs10 hVC)).2, ← (hE9 41 0 (vs41 hVC)).2]
  exact key ρ1 V1 hE9 hVC9
set_option maxRecDepth 20000 in
theorem wL_case2 {E : eU} {G : gU} {ρ0 ρ : Nat → Nat → Nat} {V0 V : Nat → Nat → Prop} {b L k1 k2 : Nat} {xs : Nat → Int32} {x4 : Int32} {A Z A' Z' : sM} (hC : CX E G cL_law 8 RL (some .boolean) 1312 601024 7293034) (hl9 : E.2.1.stackTraces = false) (hS : SC E G b L xs) (hVC : VC V) (hE : Ext ρ0 V0 ρ V) (hkk : k1 + 90 ≤ 601024 ∧ k2 + 3000 ≤ 7293034) (hk : ∀ ρ' V' j1 j2, Ext ρ0 V0 ρ' V' → VC V' → (j1 ≤ k1 + 90 ∧ j2 ≤ k2 + 3000) → ∀ {M : sM}, M = J A' Z' → WA E G ρ' V' j1 j2 M 2681 [(0, .ref b), (1, .ref (ρ' 9 0)), (2, .ref (ρ' 10 0)), (3, .ref (ρ' 41 0)), (4, .int x4)] []) (h : fL_case2 L xs x4 A Z = some (A', Z')) : WA E G ρ V k1 k2 (J A Z) 388 [(0, .ref b), (1, .ref (ρ 9 0)), (2, .ref (ρ 10 0)), (3, .ref (ρ 41 0)), (4, .int x4)] [] := by
  obtain ⟨hkk1, hkk2⟩ := hkk
  rw [fL_case2] at h
  refine wa_aload_n 389 1 hC dL_law_388 rfl 1 rfl rfl ?_
  obtain ⟨r_2, e_1, h⟩ := bd_some h
  refine wa_callVi 392 hC [] [] knX9_errorPosition mvL_155 (tX9_errorPosition E.2.1 A hVC e_1) (vs9 hVC) kc9 (Nat.le_of_ble_eq_true rfl) (Nat.le_of_ble_eq_true rfl) rfl (Nat.le_of_ble_eq_true rfl) dL_law_389 rfl ⟨by omega, by omega⟩ rfl ?_
  refine wa_aload_n 393 2 hC dL_law_392 rfl 2 rfl rfl ?_
  obtain ⟨r_5, Z_4, e_3, h⟩ := bd2_some h
  refine wa_callVi 396 hC [] [.int r_2] knX10_errorPosition mvL_158 (tX10_errorPosition E.2.1 Z hVC e_3) (vs10 hVC) kc10 (Nat.le_of_ble_eq_true rfl) (Nat.le_of_ble_eq_true rfl) rfl (Nat.le_of_ble_eq_true rfl) dL_law_393 rfl ⟨by omega, by omega⟩ rfl ?_
  refine wa_icmp_eq 399 2681 hC dL_law_396 rfl rfl h (fun h => ?_) (fun h => ?_)
  · refine wa_pick [0, 1, 2, 3, 4] rfl ?_
    exact hk ρ V k1 k2 hE hVC ⟨by omega, by omega⟩ (show (J A Z_4) = _ by rw [sm1 h, sm2 h])
  · cases h
set_option maxRecDepth 20000 in
theorem wL_case3 {E : eU} {G : gU} {ρ0 ρ : Nat → Nat → Nat} {V0 V : Nat → Nat → Prop} {b L k1 k2 : Nat} {xs : Nat → Int32} {x4 : Int32} {A Z A' Z' : sM} (hC : CX E G cL_law 8 RL (some .boolean) 1312 601024 7293034) (hl9 : E.2.1.stackTraces = false) (hS : SC E G b L xs) (hVC : VC V) (hE : Ext ρ0 V0 ρ V) (hkk : k1 + 90 ≤ 601024 ∧ k2 + 3000 ≤ 7293034) (hk : ∀ ρ' V' j1 j2, Ext ρ0 V0 ρ' V' → VC V' → (j1 ≤ k1 + 90 ∧ j2 ≤ k2 + 3000) → ∀ {M : sM}, M = J A' Z' → WA E G ρ' V' j1 j2 M 2681 [(0, .ref b), (1, .ref (ρ' 9 0)), (2, .ref (ρ' 10 0)), (3, .ref (ρ' 41 0)), (4, .int x4)] []) (h : fL_case3 L xs x4 A Z = some (A', Z')) : WA E G ρ V k1 k2 (J A Z) 401 [(0, .ref b), (1, .ref (ρ 9 0)), (2, .ref (ρ 10 0)), (3, .ref (ρ 41 0)), (4, .int x4)] [] := by
  obtain ⟨hkk1, hkk2⟩ := hkk
  rw [fL_case3] at h
  refine wa_aload_n 402 1 hC dL_law_401 rfl 1 rfl rfl ?_
  refine wa_aload_n 403 0 hC dL_law_402 rfl 0 rfl rfl ?_
  refine wa_iload 405 4 hC dL_law_403 4 rfl rfl ?_
  refine wa_iconst 406 hC dL_law_405 kc_1 rfl ?_
  refine wa_iadd 407 hC dL_law_406 rfl ?_
  obtain ⟨g_10, h⟩ := gd_some h
  refine wl_sld 408 hC hS g_10 dL_law_407 rfl ?_
  refine wa_aload_n 409 3 hC dL_law_408 rfl 3 rfl rfl ?_
  obtain ⟨r_2, A_1, e_3, h⟩ := bd2_some h
  have key : ∀ (ρ1 : Nat → Nat → Nat) (V1 : Nat → Nat → Prop), Ext ρ V ρ1 V1 → VC V1 → WA E G ρ1 V1 (k1 + 90) (k2 + 3000) (J A_1 Z) 412 [(0, .ref b), (1, .ref (ρ1 9 0)), (2, .ref (ρ1 10 0)), (3, .ref (ρ1 41 0)), (4, .int x4)] [.int r_2] := by
    intro ρ V hE0 hVC
    have hE := Ext.trans hE hE0
    refine wa_istore (lv' := [(5, .int r_2), (0, .ref b), (1, .ref (ρ 9 0)), (2, .ref (ρ 10 0)), (3, .ref (ρ 41 0)), (4, .int x4)]) 414 5 hC dL_law_412 rfl (by decide) rfl rfl ?_
    refine wa_aload_n 415 2 hC dL_law_414 rfl 3 rfl rfl ?_
    refine wa_aload_n 416 0 hC dL_law_415 rfl 1 rfl rfl ?_
    refine wa_iload 418 4 hC dL_law_416 5 rfl rfl ?_
    refine wa_iconst 419 hC dL_law_418 kc_1 rfl ?_
    refine wa_iadd 420 hC dL_law_419 rfl ?_
    obtain ⟨g_9, h⟩ := gd_some h
    refine wl_sld 421 hC hS g_9 dL_law_420 rfl ?_
    obtain ⟨r_6, Z_5, e_4, h⟩ := bd2_some h
    refine wa_callVi 424 hC [.int (xs (x4 + (1 : Int32)).toNatClampNeg)] [] knX10_setting mvL_161 (tX10_setting E.2.1 (xs (x4 + (1 : Int32)).toNatClampNeg) Z hVC e_4) (vs10 hVC) kc10 (Nat.le_of_ble_eq_true rfl) (Nat.le_of_ble_eq_true rfl) rfl (Nat.le_of_ble_eq_true rfl) dL_law_421 rfl ⟨by omega, by omega⟩ rfl ?_
    refine wa_istore (lv' := [(6, .int r_6), (5, .int r_2), (0, .ref b), (1, .ref (ρ 9 0)), (2, .ref (ρ 10 0)), (3, .ref (ρ 41 0)), (4, .int x4)]) 426 6 hC dL_law_424 rfl (by decide) rfl rfl ?_
    refine wa_aload_n 427 2 hC dL_law_426 rfl 4 rfl rfl ?_
    obtain ⟨r_8, e_7, h⟩ := bd_some h
    refine wa_callVi 430 hC [] [] knX10_thrown mvL_148 (tX10_thrown E.2.1 Z_5 hVC e_7) (vs10 hVC) kc10 (Nat.le_of_ble_eq_true rfl) (Nat.le_of_ble_eq_true rfl) rfl (Nat.le_of_ble_eq_true rfl) dL_law_427 rfl ⟨by omega, by omega⟩ rfl ?_
    refine wa_iload 432 5 hC dL_law_430 1 rfl rfl ?_
    refine wa_icmp_eq 435 437 hC dL_law_432 rfl rfl h (fun h => ?_) (fun h => ?_)
    · refine wa_iload 439 5 hC dL_law_437 1 rfl rfl ?_
      refine wa_if_ne 442 454 hC dL_law_439 rfl rfl h (fun h => ?_) (fun h => ?_)
      · refine wa_goto 2681 hC dL_law_454 rfl ?_
        refine wa_pick [2, 3, 4, 5, 6] rfl ?_
        exact hk ρ V (k1 + 90) (k2 + 3000) hE hVC ⟨by omega, by omega⟩ (show (J A_1 Z_5) = _ by rw [sm1 h, sm2 h])
      · refine wa_aload_n 443 3 hC dL_law_442 rfl 5 rfl rfl ?_
        refine wa_iconst 444 hC dL_law_443 kc_0 rfl ?_
        refine wa_laldc 445 hC (vs41 hVC) ar41 rfl (by decide) dL_law_444 rfl ?_
        refine wa_iload 447 6 hC dL_law_445 0 rfl rfl ?_
        refine wa_i2l 448 hC dL_law_447 rfl ?_
        refine wa_lcmp 449 hC dL_law_448 rfl ?_
        refine wa_lcmp_eq 452 454 hC dL_law_449 rfl rfl h (fun h => ?_) (fun h => ?_)
        · refine wa_goto 2681 hC dL_law_454 rfl ?_
          refine wa_pick [2, 3, 4, 5, 6] rfl ?_
          exact hk ρ V (k1 + 90) (k2 + 3000) hE hVC ⟨by omega, by omega⟩ (show (J A_1 Z_5) = _ by rw [sm1 h, sm2 h])
        · cases h
    · cases h
  refine wl_wrap 412 hC [.ref (ρ 9 0), .int (xs (x4 + (1 : Int32)).toNatClampNeg), .ref (ρ 41 0)] [] wr_setting (tL_setting E.2.1 hl9 (xs (x4 + (1 : Int32)).toNatClampNeg) A hVC e_3) (Nat.le_of_ble_eq_true rfl) (Nat.le_of_ble_eq_true rfl) rfl (Nat.le_of_ble_eq_true rfl) dL_law_409 rfl ⟨by omega, by omega⟩ rfl (fun ρ1 V1 hE9 hVC9 => ?_)
  rw [← (hE9 9 0 (vs9 hVC)).2, ← (hE9 10 0 (vs10 hVC)).2, ← (hE9 41 0 (vs41 hVC)).2]
  exact key ρ1 V1 hE9 hVC9
set_option maxRecDepth 20000 in
theorem wL_case4 {E : eU} {G : gU} {ρ0 ρ : Nat → Nat → Nat} {V0 V : Nat → Nat → Prop} {b L k1 k2 : Nat} {xs : Nat → Int32} {x4 : Int32} {A Z A' Z' : sM} (hC : CX E G cL_law 8 RL (some .boolean) 1312 601024 7293034) (hl9 : E.2.1.stackTraces = false) (hS : SC E G b L xs) (hVC : VC V) (hE : Ext ρ0 V0 ρ V) (hkk : k1 + 90 ≤ 601024 ∧ k2 + 3000 ≤ 7293034) (hk : ∀ ρ' V' j1 j2, Ext ρ0 V0 ρ' V' → VC V' → (j1 ≤ k1 + 90 ∧ j2 ≤ k2 + 3000) → ∀ {M : sM}, M = J A' Z' → WA E G ρ' V' j1 j2 M 2681 [(0, .ref b), (1, .ref (ρ' 9 0)), (2, .ref (ρ' 10 0)), (3, .ref (ρ' 41 0)), (4, .int x4)] []) (h : fL_case4 L xs x4 A Z = some (A', Z')) : WA E G ρ V k1 k2 (J A Z) 457 [(0, .ref b), (1, .ref (ρ 9 0)), (2, .ref (ρ 10 0)), (3, .ref (ρ 41 0)), (4, .int x4)] [] := by
  obtain ⟨hkk1, hkk2⟩ := hkk
  rw [fL_case4] at h
  refine wa_aload_n 458 1 hC dL_law_457 rfl 1 rfl rfl ?_
  refine wa_aload_n 459 0 hC dL_law_458 rfl 0 rfl rfl ?_
  refine wa_iload 461 4 hC dL_law_459 4 rfl rfl ?_
  refine wa_iconst 462 hC dL_law_461 kc_1 rfl ?_
  refine wa_iadd 463 hC dL_law_462 rfl ?_
  obtain ⟨g_10, h⟩ := gd_some h
  refine wl_sld 464 hC hS g_10 dL_law_463 rfl ?_
  refine wa_aload_n 465 3 hC dL_law_464 rfl 3 rfl rfl ?_
  obtain ⟨r_2, A_1, e_3, h⟩ := bd2_some h
  have key : ∀ (ρ1 : Nat → Nat → Nat) (V1 : Nat → Nat → Prop), Ext ρ V ρ1 V1 → VC V1 → WA E G ρ1 V1 (k1 + 90) (k2 + 3000) (J A_1 Z) 468 [(0, .ref b), (1, .ref (ρ1 9 0)), (2, .ref (ρ1 10 0)), (3, .ref (ρ1 41 0)), (4, .int x4)] [.int r_2] := by
    intro ρ V hE0 hVC
    have hE := Ext.trans hE hE0
    refine wa_istore (lv' := [(5, .int r_2), (0, .ref b), (1, .ref (ρ 9 0)), (2, .ref (ρ 10 0)), (3, .ref (ρ 41 0)), (4, .int x4)]) 470 5 hC dL_law_468 rfl (by decide) rfl rfl ?_
    refine wa_aload_n 471 2 hC dL_law_470 rfl 3 rfl rfl ?_
    refine wa_aload_n 472 0 hC dL_law_471 rfl 1 rfl rfl ?_
    refine wa_iload 474 4 hC dL_law_472 5 rfl rfl ?_
    refine wa_iconst 475 hC dL_law_474 kc_1 rfl ?_
    refine wa_iadd 476 hC dL_law_475 rfl ?_
    obtain ⟨g_9, h⟩ := gd_some h
    refine wl_sld 477 hC hS g_9 dL_law_476 rfl ?_
    obtain ⟨r_6, Z_5, e_4, h⟩ := bd2_some h
    refine wa_callVi 480 hC [.int (xs (x4 + (1 : Int32)).toNatClampNeg)] [] knX10_periodOf mvL_164 (tX10_periodOf E.2.1 (xs (x4 + (1 : Int32)).toNatClampNeg) Z hVC e_4) (vs10 hVC) kc10 (Nat.le_of_ble_eq_true rfl) (Nat.le_of_ble_eq_true rfl) rfl (Nat.le_of_ble_eq_true rfl) dL_law_477 rfl ⟨by omega, by omega⟩ rfl ?_
    refine wa_istore (lv' := [(6, .int r_6), (5, .int r_2), (0, .ref b), (1, .ref (ρ 9 0)), (2, .ref (ρ 10 0)), (3, .ref (ρ 41 0)), (4, .int x4)]) 482 6 hC dL_law_480 rfl (by decide) rfl rfl ?_
    refine wa_aload_n 483 2 hC dL_law_482 rfl 4 rfl rfl ?_
    obtain ⟨r_8, e_7, h⟩ := bd_some h
    refine wa_callVi 486 hC [] [] knX10_thrown mvL_148 (tX10_thrown E.2.1 Z_5 hVC e_7) (vs10 hVC) kc10 (Nat.le_of_ble_eq_true rfl) (Nat.le_of_ble_eq_true rfl) rfl (Nat.le_of_ble_eq_true rfl) dL_law_483 rfl ⟨by omega, by omega⟩ rfl ?_
    refine wa_iload 488 5 hC dL_law_486 1 rfl rfl ?_
    refine wa_icmp_eq 491 493 hC dL_law_488 rfl rfl h (fun h => ?_) (fun h => ?_)
    · refine wa_iload 495 5 hC dL_law_493 1 rfl rfl ?_
      refine wa_if_ne 498 510 hC dL_law_495 rfl rfl h (fun h => ?_) (fun h => ?_)
      · refine wa_goto 2681 hC dL_law_510 rfl ?_
        refine wa_pick [2, 3, 4, 5, 6] rfl ?_
        exact hk ρ V (k1 + 90) (k2 + 3000) hE hVC ⟨by omega, by omega⟩ (show (J A_1 Z_5) = _ by rw [sm1 h, sm2 h])
      · refine wa_aload_n 499 3 hC dL_law_498 rfl 5 rfl rfl ?_
        refine wa_iconst 500 hC dL_law_499 kc_0 rfl ?_
        refine wa_laldc 501 hC (vs41 hVC) ar41 rfl (by decide) dL_law_500 rfl ?_
        refine wa_iload 503 6 hC dL_law_501 0 rfl rfl ?_
        refine wa_i2l 504 hC dL_law_503 rfl ?_
        refine wa_lcmp 505 hC dL_law_504 rfl ?_
        refine wa_lcmp_eq 508 510 hC dL_law_505 rfl rfl h (fun h => ?_) (fun h => ?_)
        · refine wa_goto 2681 hC dL_law_510 rfl ?_
          refine wa_pick [2, 3, 4, 5, 6] rfl ?_
          exact hk ρ V (k1 + 90) (k2 + 3000) hE hVC ⟨by omega, by omega⟩ (show (J A_1 Z_5) = _ by rw [sm1 h, sm2 h])
        · cases h
    · cases h
  refine wl_wrap 468 hC [.ref (ρ 9 0), .int (xs (x4 + (1 : Int32)).toNatClampNeg), .ref (ρ 41 0)] [] wr_periodOf (tL_periodOf E.2.1 hl9 (xs (x4 + (1 : Int32)).toNatClampNeg) A hVC e_3) (Nat.le_of_ble_eq_true rfl) (Nat.le_of_ble_eq_true rfl) rfl (Nat.le_of_ble_eq_true rfl) dL_law_465 rfl ⟨by omega, by omega⟩ rfl (fun ρ1 V1 hE9 hVC9 => ?_)
  rw [← (hE9 9 0 (vs9 hVC)).2, ← (hE9 10 0 (vs10 hVC)).2, ← (hE9 41 0 (vs41 hVC)).2]
  exact key ρ1 V1 hE9 hVC9
set_option maxRecDepth 20000 in
theorem wL_case5 {E : eU} {G : gU} {ρ0 ρ : Nat → Nat → Nat} {V0 V : Nat → Nat → Prop} {b L k1 k2 : Nat} {xs : Nat → Int32} {x4 : Int32} {A Z A' Z' : sM} (hC : CX E G cL_law 8 RL (some .boolean) 1312 601024 7293034) (hl9 : E.2.1.stackTraces = false) (hS : SC E G b L xs) (hVC : VC V) (hE : Ext ρ0 V0 ρ V) (hkk : k1 + 90 ≤ 601024 ∧ k2 + 3000 ≤ 7293034) (hk : ∀ ρ' V' j1 j2, Ext ρ0 V0 ρ' V' → VC V' → (j1 ≤ k1 + 90 ∧ j2 ≤ k2 + 3000) → ∀ {M : sM}, M = J A' Z' → WA E G ρ' V' j1 j2 M 2681 [(0, .ref b), (1, .ref (ρ' 9 0)), (2, .ref (ρ' 10 0)), (3, .ref (ρ' 41 0)), (4, .int x4)] []) (h : fL_case5 L xs x4 A Z = some (A', Z')) : WA E G ρ V k1 k2 (J A Z) 513 [(0, .ref b), (1, .ref (ρ 9 0)), (2, .ref (ρ 10 0)), (3, .ref (ρ 41 0)), (4, .int x4)] [] := by
  obtain ⟨hkk1, hkk2⟩ := hkk
  rw [fL_case5] at h
  refine wa_aload_n 514 1 hC dL_law_513 rfl 1 rfl rfl ?_
  refine wa_aload_n 515 0 hC dL_law_514 rfl 0 rfl rfl ?_
  refine wa_iload 517 4 hC dL_law_515 4 rfl rfl ?_
  refine wa_iconst 518 hC dL_law_517 kc_1 rfl ?_
  refine wa_iadd 519 hC dL_law_518 rfl ?_
  obtain ⟨g_14, h⟩ := gd_some h
  refine wl_sld 520 hC hS g_14 dL_law_519 rfl ?_
  refine wa_aload_n 521 0 hC dL_law_520 rfl 0 rfl rfl ?_
  refine wa_iload 523 4 hC dL_law_521 4 rfl rfl ?_
  refine wa_iconst 524 hC dL_law_523 kc_2 rfl ?_
  refine wa_iadd 525 hC dL_law_524 rfl ?_
  obtain ⟨g_13, h⟩ := gd_some h
  refine wl_sld 526 hC hS g_13 dL_law_525 rfl ?_
  refine wa_aload_n 527 0 hC dL_law_526 rfl 0 rfl rfl ?_
  refine wa_iload 529 4 hC dL_law_527 4 rfl rfl ?_
  refine wa_iconst 530 hC dL_law_529 kc_3 rfl ?_
  refine wa_iadd 531 hC dL_law_530 rfl ?_
  obtain ⟨g_12, h⟩ := gd_some h
  refine wl_sld 532 hC hS g_12 dL_law_531 rfl ?_
  refine wa_aload_n 533 3 hC dL_law_532 rfl 3 rfl rfl ?_
  obtain ⟨r_2, A_1, e_3, h⟩ := bd2_some h
  have key : ∀ (ρ1 : Nat → Nat → Nat) (V1 : Nat → Nat → Prop), Ext ρ V ρ1 V1 → VC V1 → WA E G ρ1 V1 (k1 + 90) (k2 + 3000) (J A_1 Z) 536 [(0, .ref b), (1, .ref (ρ1 9 0)), (2, .ref (ρ1 10 0)), (3, .ref (ρ1 41 0)), (4, .int x4)] [.int r_2] := by
    intro ρ V hE0 hVC
    have hE := Ext.trans hE hE0
    refine wa_istore (lv' := [(5, .int r_2), (0, .ref b), (1, .ref (ρ 9 0)), (2, .ref (ρ 10 0)), (3, .ref (ρ 41 0)), (4, .int x4)]) 538 5 hC dL_law_536 rfl (by decide) rfl rfl ?_
    refine wa_aload_n 539 2 hC dL_law_538 rfl 3 rfl rfl ?_
    refine wa_aload_n 540 0 hC dL_law_539 rfl 1 rfl rfl ?_
    refine wa_iload 542 4 hC dL_law_540 5 rfl rfl ?_
    refine wa_iconst 543 hC dL_law_542 kc_1 rfl ?_
    refine wa_iadd 544 hC dL_law_543 rfl ?_
    obtain ⟨g_11, h⟩ := gd_some h
    refine wl_sld 545 hC hS g_11 dL_law_544 rfl ?_
    refine wa_aload_n 546 0 hC dL_law_545 rfl 1 rfl rfl ?_
    refine wa_iload 548 4 hC dL_law_546 5 rfl rfl ?_
    refine wa_iconst 549 hC dL_law_548 kc_2 rfl ?_
    refine wa_iadd 550 hC dL_law_549 rfl ?_
    obtain ⟨g_10, h⟩ := gd_some h
    refine wl_sld 551 hC hS g_10 dL_law_550 rfl ?_
    refine wa_aload_n 552 0 hC dL_law_551 rfl 1 rfl rfl ?_
    refine wa_iload 554 4 hC dL_law_552 5 rfl rfl ?_
    refine wa_iconst 555 hC dL_law_554 kc_3 rfl ?_
    refine wa_iadd 556 hC dL_law_555 rfl ?_
    obtain ⟨g_9, h⟩ := gd_some h
    refine wl_sld 557 hC hS g_9 dL_law_556 rfl ?_
    obtain ⟨r_6, Z_5, e_4, h⟩ := bd2_some h
    refine wa_callVi 560 hC [.int (xs (x4 + (1 : Int32)).toNatClampNeg), .int (xs (x4 + (2 : Int32)).toNatClampNeg), .int (xs (x4 + (3 : Int32)).toNatClampNeg)] [] knX10_join mvL_168 (tX10_join E.2.1 (xs (x4 + (1 : Int32)).toNatClampNeg) (xs (x4 + (2 : Int32)).toNatClampNeg) (xs (x4 + (3 : Int32)).toNatClampNeg) Z hVC e_4) (vs10 hVC) kc10 (Nat.le_of_ble_eq_true rfl) (Nat.le_of_ble_eq_true rfl) rfl (Nat.le_of_ble_eq_true rfl) dL_law_557 rfl ⟨by omega, by omega⟩ rfl ?_
    refine wa_istore (lv' := [(6, .int r_6), (5, .int r_2), (0, .ref b), (1, .ref (ρ 9 0)), (2, .ref (ρ 10 0)), (3, .ref (ρ 41 0)), (4, .int x4)]) 562 6 hC dL_law_560 rfl (by decide) rfl rfl ?_
    refine wa_aload_n 563 2 hC dL_law_562 rfl 4 rfl rfl ?_
    obtain ⟨r_8, e_7, h⟩ := bd_some h
    refine wa_callVi 566 hC [] [] knX10_thrown mvL_148 (tX10_thrown E.2.1 Z_5 hVC e_7) (vs10 hVC) kc10 (Nat.le_of_ble_eq_true rfl) (Nat.le_of_ble_eq_true rfl) rfl (Nat.le_of_ble_eq_true rfl) dL_law_563 rfl ⟨by omega, by omega⟩ rfl ?_
    refine wa_iload 568 5 hC dL_law_566 1 rfl rfl ?_
    refine wa_icmp_eq 571 573 hC dL_law_568 rfl rfl h (fun h => ?_) (fun h => ?_)
    · refine wa_iload 575 5 hC dL_law_573 1 rfl rfl ?_
      refine wa_if_ne 578 590 hC dL_law_575 rfl rfl h (fun h => ?_) (fun h => ?_)
      · refine wa_goto 2681 hC dL_law_590 rfl ?_
        refine wa_pick [2, 3, 4, 5, 6] rfl ?_
        exact hk ρ V (k1 + 90) (k2 + 3000) hE hVC ⟨by omega, by omega⟩ (show (J A_1 Z_5) = _ by rw [sm1 h, sm2 h])
      · refine wa_aload_n 579 3 hC dL_law_578 rfl 5 rfl rfl ?_
        refine wa_iconst 580 hC dL_law_579 kc_0 rfl ?_
        refine wa_laldc 581 hC (vs41 hVC) ar41 rfl (by decide) dL_law_580 rfl ?_
        refine wa_iload 583 6 hC dL_law_581 0 rfl rfl ?_
        refine wa_i2l 584 hC dL_law_583 rfl ?_
        refine wa_lcmp 585 hC dL_law_584 rfl ?_
        refine wa_lcmp_eq 588 590 hC dL_law_585 rfl rfl h (fun h => ?_) (fun h => ?_)
        · refine wa_goto 2681 hC dL_law_590 rfl ?_
          refine wa_pick [2, 3, 4, 5, 6] rfl ?_
          exact hk ρ V (k1 + 90) (k2 + 3000) hE hVC ⟨by omega, by omega⟩ (show (J A_1 Z_5) = _ by rw [sm1 h, sm2 h])
        · cases h
    · cases h
  refine wl_wrap 536 hC [.ref (ρ 9 0), .int (xs (x4 + (1 : Int32)).toNatClampNeg), .int (xs (x4 + (2 : Int32)).toNatClampNeg), .int (xs (x4 + (3 : Int32)).toNatClampNeg), .ref (ρ 41 0)] [] wr_join (tL_join E.2.1 hl9 (xs (x4 + (1 : Int32)).toNatClampNeg) (xs (x4 + (2 : Int32)).toNatClampNeg) (xs (x4 + (3 : Int32)).toNatClampNeg) A hVC e_3) (Nat.le_of_ble_eq_true rfl) (Nat.le_of_ble_eq_true rfl) rfl (Nat.le_of_ble_eq_true rfl) dL_law_533 rfl ⟨by omega, by omega⟩ rfl (fun ρ1 V1 hE9 hVC9 => ?_)
  rw [← (hE9 9 0 (vs9 hVC)).2, ← (hE9 10 0 (vs10 hVC)).2, ← (hE9 41 0 (vs41 hVC)).2]
  exact key ρ1 V1 hE9 hVC9
set_option maxRecDepth 20000 in
theorem wL_case6 {E : eU} {G : gU} {ρ0 ρ : Nat → Nat → Nat} {V0 V : Nat → Nat → Prop} {b L k1 k2 : Nat} {xs : Nat → Int32} {x4 : Int32} {A Z A' Z' : sM} (hC : CX E G cL_law 8 RL (some .boolean) 1312 601024 7293034) (hl9 : E.2.1.stackTraces = false) (hS : SC E G b L xs) (hVC : VC V) (hE : Ext ρ0 V0 ρ V) (hkk : k1 + 90 ≤ 601024 ∧ k2 + 3000 ≤ 7293034) (hk : ∀ ρ' V' j1 j2, Ext ρ0 V0 ρ' V' → VC V' → (j1 ≤ k1 + 90 ∧ j2 ≤ k2 + 3000) → ∀ {M : sM}, M = J A' Z' → WA E G ρ' V' j1 j2 M 2681 [(0, .ref b), (1, .ref (ρ' 9 0)), (2, .ref (ρ' 10 0)), (3, .ref (ρ' 41 0)), (4, .int x4)] []) (h : fL_case6 L xs x4 A Z = some (A', Z')) : WA E G ρ V k1 k2 (J A Z) 593 [(0, .ref b), (1, .ref (ρ 9 0)), (2, .ref (ρ 10 0)), (3, .ref (ρ 41 0)), (4, .int x4)] [] := by
  obtain ⟨hkk1, hkk2⟩ := hkk
  rw [fL_case6] at h
  refine wa_aload_n 594 1 hC dL_law_593 rfl 1 rfl rfl ?_
  refine wa_aload_n 595 0 hC dL_law_594 rfl 0 rfl rfl ?_
  refine wa_iload 597 4 hC dL_law_595 4 rfl rfl ?_
  refine wa_iconst 598 hC dL_law_597 kc_1 rfl ?_
  refine wa_iadd 599 hC dL_law_598 rfl ?_
  obtain ⟨g_12, h⟩ := gd_some h
  refine wl_sld 600 hC hS g_12 dL_law_599 rfl ?_
  refine wa_aload_n 601 0 hC dL_law_600 rfl 0 rfl rfl ?_
  refine wa_iload 603 4 hC dL_law_601 4 rfl rfl ?_
  refine wa_iconst 604 hC dL_law_603 kc_2 rfl ?_
  refine wa_iadd 605 hC dL_law_604 rfl ?_
  obtain ⟨g_11, h⟩ := gd_some h
  refine wl_sld 606 hC hS g_11 dL_law_605 rfl ?_
  refine wa_aload_n 607 3 hC dL_law_606 rfl 3 rfl rfl ?_
  obtain ⟨r_2, A_1, e_3, h⟩ := bd2_some h
  have key : ∀ (ρ1 : Nat → Nat → Nat) (V1 : Nat → Nat → Prop), Ext ρ V ρ1 V1 → VC V1 → WA E G ρ1 V1 (k1 + 90) (k2 + 3000) (J A_1 Z) 610 [(0, .ref b), (1, .ref (ρ1 9 0)), (2, .ref (ρ1 10 0)), (3, .ref (ρ1 41 0)), (4, .int x4)] [.int r_2] := by
    intro ρ V hE0 hVC
    have hE := Ext.trans hE hE0
    refine wa_istore (lv' := [(5, .int r_2), (0, .ref b), (1, .ref (ρ 9 0)), (2, .ref (ρ 10 0)), (3, .ref (ρ 41 0)), (4, .int x4)]) 612 5 hC dL_law_610 rfl (by decide) rfl rfl ?_
    refine wa_aload_n 613 2 hC dL_law_612 rfl 3 rfl rfl ?_
    refine wa_aload_n 614 0 hC dL_law_613 rfl 1 rfl rfl ?_
    refine wa_iload 616 4 hC dL_law_614 5 rfl rfl ?_
    refine wa_iconst 617 hC dL_law_616 kc_1 rfl ?_
    refine wa_iadd 618 hC dL_law_617 rfl ?_
    obtain ⟨g_10, h⟩ := gd_some h
    refine wl_sld 619 hC hS g_10 dL_law_618 rfl ?_
    refine wa_aload_n 620 0 hC dL_law_619 rfl 1 rfl rfl ?_
    refine wa_iload 622 4 hC dL_law_620 5 rfl rfl ?_
    refine wa_iconst 623 hC dL_law_622 kc_2 rfl ?_
    refine wa_iadd 624 hC dL_law_623 rfl ?_
    obtain ⟨g_9, h⟩ := gd_some h
    refine wl_sld 625 hC hS g_9 dL_law_624 rfl ?_
    obtain ⟨r_6, Z_5, e_4, h⟩ := bd2_some h
    refine wa_callVi 628 hC [.int (xs (x4 + (1 : Int32)).toNatClampNeg), .int (xs (x4 + (2 : Int32)).toNatClampNeg)] [] knX10_more mvL_172 (tX10_more E.2.1 (xs (x4 + (1 : Int32)).toNatClampNeg) (xs (x4 + (2 : Int32)).toNatClampNeg) Z hVC e_4) (vs10 hVC) kc10 (Nat.le_of_ble_eq_true rfl) (Nat.le_of_ble_eq_true rfl) rfl (Nat.le_of_ble_eq_true rfl) dL_law_625 rfl ⟨by omega, by omega⟩ rfl ?_
    refine wa_istore (lv' := [(6, .int r_6), (5, .int r_2), (0, .ref b), (1, .ref (ρ 9 0)), (2, .ref (ρ 10 0)), (3, .ref (ρ 41 0)), (4, .int x4)]) 630 6 hC dL_law_628 rfl (by decide) rfl rfl ?_
    refine wa_aload_n 631 2 hC dL_law_630 rfl 4 rfl rfl ?_
    obtain ⟨r_8, e_7, h⟩ := bd_some h
    refine wa_callVi 634 hC [] [] knX10_thrown mvL_148 (tX10_thrown E.2.1 Z_5 hVC e_7) (vs10 hVC) kc10 (Nat.le_of_ble_eq_true rfl) (Nat.le_of_ble_eq_true rfl) rfl (Nat.le_of_ble_eq_true rfl) dL_law_631 rfl ⟨by omega, by omega⟩ rfl ?_
    refine wa_iload 636 5 hC dL_law_634 1 rfl rfl ?_
    refine wa_icmp_eq 639 641 hC dL_law_636 rfl rfl h (fun h => ?_) (fun h => ?_)
    · refine wa_iload 643 5 hC dL_law_641 1 rfl rfl ?_
      refine wa_if_ne 646 658 hC dL_law_643 rfl rfl h (fun h => ?_) (fun h => ?_)
      · refine wa_goto 2681 hC dL_law_658 rfl ?_
        refine wa_pick [2, 3, 4, 5, 6] rfl ?_
        exact hk ρ V (k1 + 90) (k2 + 3000) hE hVC ⟨by omega, by omega⟩ (show (J A_1 Z_5) = _ by rw [sm1 h, sm2 h])
      · refine wa_aload_n 647 3 hC dL_law_646 rfl 5 rfl rfl ?_
        refine wa_iconst 648 hC dL_law_647 kc_0 rfl ?_
        refine wa_laldc 649 hC (vs41 hVC) ar41 rfl (by decide) dL_law_648 rfl ?_
        refine wa_iload 651 6 hC dL_law_649 0 rfl rfl ?_
        refine wa_i2l 652 hC dL_law_651 rfl ?_
        refine wa_lcmp 653 hC dL_law_652 rfl ?_
        refine wa_lcmp_eq 656 658 hC dL_law_653 rfl rfl h (fun h => ?_) (fun h => ?_)
        · refine wa_goto 2681 hC dL_law_658 rfl ?_
          refine wa_pick [2, 3, 4, 5, 6] rfl ?_
          exact hk ρ V (k1 + 90) (k2 + 3000) hE hVC ⟨by omega, by omega⟩ (show (J A_1 Z_5) = _ by rw [sm1 h, sm2 h])
        · cases h
    · cases h
  refine wl_wrap 610 hC [.ref (ρ 9 0), .int (xs (x4 + (1 : Int32)).toNatClampNeg), .int (xs (x4 + (2 : Int32)).toNatClampNeg), .ref (ρ 41 0)] [] wr_more (tL_more E.2.1 hl9 (xs (x4 + (1 : Int32)).toNatClampNeg) (xs (x4 + (2 : Int32)).toNatClampNeg) A hVC e_3) (Nat.le_of_ble_eq_true rfl) (Nat.le_of_ble_eq_true rfl) rfl (Nat.le_of_ble_eq_true rfl) dL_law_607 rfl ⟨by omega, by omega⟩ rfl (fun ρ1 V1 hE9 hVC9 => ?_)
  rw [← (hE9 9 0 (vs9 hVC)).2, ← (hE9 10 0 (vs10 hVC)).2, ← (hE9 41 0 (vs41 hVC)).2]
  exact key ρ1 V1 hE9 hVC9
set_option maxRecDepth 20000 in
theorem wL_case7 {E : eU} {G : gU} {ρ0 ρ : Nat → Nat → Nat} {V0 V : Nat → Nat → Prop} {b L k1 k2 : Nat} {xs : Nat → Int32} {x4 : Int32} {A Z A' Z' : sM} (hC : CX E G cL_law 8 RL (some .boolean) 1312 601024 7293034) (hl9 : E.2.1.stackTraces = false) (hS : SC E G b L xs) (hVC : VC V) (hE : Ext ρ0 V0 ρ V) (hkk : k1 + 90 ≤ 601024 ∧ k2 + 3000 ≤ 7293034) (hk : ∀ ρ' V' j1 j2, Ext ρ0 V0 ρ' V' → VC V' → (j1 ≤ k1 + 90 ∧ j2 ≤ k2 + 3000) → ∀ {M : sM}, M = J A' Z' → WA E G ρ' V' j1 j2 M 2681 [(0, .ref b), (1, .ref (ρ' 9 0)), (2, .ref (ρ' 10 0)), (3, .ref (ρ' 41 0)), (4, .int x4)] []) (h : fL_case7 L xs x4 A Z = some (A', Z')) : WA E G ρ V k1 k2 (J A Z) 661 [(0, .ref b), (1, .ref (ρ 9 0)), (2, .ref (ρ 10 0)), (3, .ref (ρ 41 0)), (4, .int x4)] [] := by
  obtain ⟨hkk1, hkk2⟩ := hkk
  rw [fL_case7] at h
  refine wa_aload_n 662 1 hC dL_law_661 rfl 1 rfl rfl ?_
  refine wa_aload_n 663 0 hC dL_law_662 rfl 0 rfl rfl ?_
  refine wa_iload 665 4 hC dL_law_663 4 rfl rfl ?_
  refine wa_iconst 666 hC dL_law_665 kc_1 rfl ?_
  refine wa_iadd 667 hC dL_law_666 rfl ?_
  obtain ⟨g_12, h⟩ := gd_some h
  refine wl_sld 668 hC hS g_12 dL_law_667 rfl ?_
  refine wa_aload_n 669 0 hC dL_law_668 rfl 0 rfl rfl ?_
  refine wa_iload 671 4 hC dL_law_669 4 rfl rfl ?_
  refine wa_iconst 672 hC dL_law_671 kc_2 rfl ?_
  refine wa_iadd 673 hC dL_law_672 rfl ?_
  obtain ⟨g_11, h⟩ := gd_some h
  refine wl_sld 674 hC hS g_11 dL_law_673 rfl ?_
  refine wa_aload_n 675 3 hC dL_law_674 rfl 3 rfl rfl ?_
  obtain ⟨r_2, A_1, e_3, h⟩ := bd2_some h
  have key : ∀ (ρ1 : Nat → Nat → Nat) (V1 : Nat → Nat → Prop), Ext ρ V ρ1 V1 → VC V1 → WA E G ρ1 V1 (k1 + 90) (k2 + 3000) (J A_1 Z) 678 [(0, .ref b), (1, .ref (ρ1 9 0)), (2, .ref (ρ1 10 0)), (3, .ref (ρ1 41 0)), (4, .int x4)] [.int r_2] := by
    intro ρ V hE0 hVC
    have hE := Ext.trans hE hE0
    refine wa_istore (lv' := [(5, .int r_2), (0, .ref b), (1, .ref (ρ 9 0)), (2, .ref (ρ 10 0)), (3, .ref (ρ 41 0)), (4, .int x4)]) 680 5 hC dL_law_678 rfl (by decide) rfl rfl ?_
    refine wa_aload_n 681 2 hC dL_law_680 rfl 3 rfl rfl ?_
    refine wa_aload_n 682 0 hC dL_law_681 rfl 1 rfl rfl ?_
    refine wa_iload 684 4 hC dL_law_682 5 rfl rfl ?_
    refine wa_iconst 685 hC dL_law_684 kc_1 rfl ?_
    refine wa_iadd 686 hC dL_law_685 rfl ?_
    obtain ⟨g_10, h⟩ := gd_some h
    refine wl_sld 687 hC hS g_10 dL_law_686 rfl ?_
    refine wa_aload_n 688 0 hC dL_law_687 rfl 1 rfl rfl ?_
    refine wa_iload 690 4 hC dL_law_688 5 rfl rfl ?_
    refine wa_iconst 691 hC dL_law_690 kc_2 rfl ?_
    refine wa_iadd 692 hC dL_law_691 rfl ?_
    obtain ⟨g_9, h⟩ := gd_some h
    refine wl_sld 693 hC hS g_9 dL_law_692 rfl ?_
    obtain ⟨r_6, Z_5, e_4, h⟩ := bd2_some h
    refine wa_callVi 696 hC [.int (xs (x4 + (1 : Int32)).toNatClampNeg), .int (xs (x4 + (2 : Int32)).toNatClampNeg)] [] knX10_reduce mvL_175 (tX10_reduce E.2.1 (xs (x4 + (1 : Int32)).toNatClampNeg) (xs (x4 + (2 : Int32)).toNatClampNeg) Z hVC e_4) (vs10 hVC) kc10 (Nat.le_of_ble_eq_true rfl) (Nat.le_of_ble_eq_true rfl) rfl (Nat.le_of_ble_eq_true rfl) dL_law_693 rfl ⟨by omega, by omega⟩ rfl ?_
    refine wa_istore (lv' := [(6, .int r_6), (5, .int r_2), (0, .ref b), (1, .ref (ρ 9 0)), (2, .ref (ρ 10 0)), (3, .ref (ρ 41 0)), (4, .int x4)]) 698 6 hC dL_law_696 rfl (by decide) rfl rfl ?_
    refine wa_aload_n 699 2 hC dL_law_698 rfl 4 rfl rfl ?_
    obtain ⟨r_8, e_7, h⟩ := bd_some h
    refine wa_callVi 702 hC [] [] knX10_thrown mvL_148 (tX10_thrown E.2.1 Z_5 hVC e_7) (vs10 hVC) kc10 (Nat.le_of_ble_eq_true rfl) (Nat.le_of_ble_eq_true rfl) rfl (Nat.le_of_ble_eq_true rfl) dL_law_699 rfl ⟨by omega, by omega⟩ rfl ?_
    refine wa_iload 704 5 hC dL_law_702 1 rfl rfl ?_
    refine wa_icmp_eq 707 709 hC dL_law_704 rfl rfl h (fun h => ?_) (fun h => ?_)
    · refine wa_iload 711 5 hC dL_law_709 1 rfl rfl ?_
      refine wa_if_ne 714 726 hC dL_law_711 rfl rfl h (fun h => ?_) (fun h => ?_)
      · refine wa_goto 2681 hC dL_law_726 rfl ?_
        refine wa_pick [2, 3, 4, 5, 6] rfl ?_
        exact hk ρ V (k1 + 90) (k2 + 3000) hE hVC ⟨by omega, by omega⟩ (show (J A_1 Z_5) = _ by rw [sm1 h, sm2 h])
      · refine wa_aload_n 715 3 hC dL_law_714 rfl 5 rfl rfl ?_
        refine wa_iconst 716 hC dL_law_715 kc_0 rfl ?_
        refine wa_laldc 717 hC (vs41 hVC) ar41 rfl (by decide) dL_law_716 rfl ?_
        refine wa_iload 719 6 hC dL_law_717 0 rfl rfl ?_
        refine wa_i2l 720 hC dL_law_719 rfl ?_
        refine wa_lcmp 721 hC dL_law_720 rfl ?_
        refine wa_lcmp_eq 724 726 hC dL_law_721 rfl rfl h (fun h => ?_) (fun h => ?_)
        · refine wa_goto 2681 hC dL_law_726 rfl ?_
          refine wa_pick [2, 3, 4, 5, 6] rfl ?_
          exact hk ρ V (k1 + 90) (k2 + 3000) hE hVC ⟨by omega, by omega⟩ (show (J A_1 Z_5) = _ by rw [sm1 h, sm2 h])
        · cases h
    · cases h
  refine wl_wrap 678 hC [.ref (ρ 9 0), .int (xs (x4 + (1 : Int32)).toNatClampNeg), .int (xs (x4 + (2 : Int32)).toNatClampNeg), .ref (ρ 41 0)] [] wr_reduce (tL_reduce E.2.1 hl9 (xs (x4 + (1 : Int32)).toNatClampNeg) (xs (x4 + (2 : Int32)).toNatClampNeg) A hVC e_3) (Nat.le_of_ble_eq_true rfl) (Nat.le_of_ble_eq_true rfl) rfl (Nat.le_of_ble_eq_true rfl) dL_law_675 rfl ⟨by omega, by omega⟩ rfl (fun ρ1 V1 hE9 hVC9 => ?_)
  rw [← (hE9 9 0 (vs9 hVC)).2, ← (hE9 10 0 (vs10 hVC)).2, ← (hE9 41 0 (vs41 hVC)).2]
  exact key ρ1 V1 hE9 hVC9
set_option maxRecDepth 20000 in
theorem wL_case8 {E : eU} {G : gU} {ρ0 ρ : Nat → Nat → Nat} {V0 V : Nat → Nat → Prop} {b L k1 k2 : Nat} {xs : Nat → Int32} {x4 : Int32} {A Z A' Z' : sM} (hC : CX E G cL_law 8 RL (some .boolean) 1312 601024 7293034) (hl9 : E.2.1.stackTraces = false) (hS : SC E G b L xs) (hVC : VC V) (hE : Ext ρ0 V0 ρ V) (hkk : k1 + 90 ≤ 601024 ∧ k2 + 3000 ≤ 7293034) (hk : ∀ ρ' V' j1 j2, Ext ρ0 V0 ρ' V' → VC V' → (j1 ≤ k1 + 90 ∧ j2 ≤ k2 + 3000) → ∀ {M : sM}, M = J A' Z' → WA E G ρ' V' j1 j2 M 2681 [(0, .ref b), (1, .ref (ρ' 9 0)), (2, .ref (ρ' 10 0)), (3, .ref (ρ' 41 0)), (4, .int x4)] []) (h : fL_case8 L xs x4 A Z = some (A', Z')) : WA E G ρ V k1 k2 (J A Z) 729 [(0, .ref b), (1, .ref (ρ 9 0)), (2, .ref (ρ 10 0)), (3, .ref (ρ 41 0)), (4, .int x4)] [] := by
  obtain ⟨hkk1, hkk2⟩ := hkk
  rw [fL_case8] at h
  refine wa_aload_n 730 1 hC dL_law_729 rfl 1 rfl rfl ?_
  refine wa_aload_n 731 0 hC dL_law_730 rfl 0 rfl rfl ?_
  refine wa_iload 733 4 hC dL_law_731 4 rfl rfl ?_
  refine wa_iconst 734 hC dL_law_733 kc_1 rfl ?_
  refine wa_iadd 735 hC dL_law_734 rfl ?_
  obtain ⟨g_14, h⟩ := gd_some h
  refine wl_sld 736 hC hS g_14 dL_law_735 rfl ?_
  refine wa_aload_n 737 0 hC dL_law_736 rfl 0 rfl rfl ?_
  refine wa_iload 739 4 hC dL_law_737 4 rfl rfl ?_
  refine wa_iconst 740 hC dL_law_739 kc_2 rfl ?_
  refine wa_iadd 741 hC dL_law_740 rfl ?_
  obtain ⟨g_13, h⟩ := gd_some h
  refine wl_sld 742 hC hS g_13 dL_law_741 rfl ?_
  refine wa_aload_n 743 0 hC dL_law_742 rfl 0 rfl rfl ?_
  refine wa_iload 745 4 hC dL_law_743 4 rfl rfl ?_
  refine wa_iconst 746 hC dL_law_745 kc_3 rfl ?_
  refine wa_iadd 747 hC dL_law_746 rfl ?_
  obtain ⟨g_12, h⟩ := gd_some h
  refine wl_sld 748 hC hS g_12 dL_law_747 rfl ?_
  refine wa_aload_n 749 3 hC dL_law_748 rfl 3 rfl rfl ?_
  obtain ⟨r_2, A_1, e_3, h⟩ := bd2_some h
  have key : ∀ (ρ1 : Nat → Nat → Nat) (V1 : Nat → Nat → Prop), Ext ρ V ρ1 V1 → VC V1 → WA E G ρ1 V1 (k1 + 90) (k2 + 3000) (J A_1 Z) 752 [(0, .ref b), (1, .ref (ρ1 9 0)), (2, .ref (ρ1 10 0)), (3, .ref (ρ1 41 0)), (4, .int x4)] [.int r_2] := by
    intro ρ V hE0 hVC
    have hE := Ext.trans hE hE0
    refine wa_istore (lv' := [(5, .int r_2), (0, .ref b), (1, .ref (ρ 9 0)), (2, .ref (ρ 10 0)), (3, .ref (ρ 41 0)), (4, .int x4)]) 754 5 hC dL_law_752 rfl (by decide) rfl rfl ?_
    refine wa_aload_n 755 2 hC dL_law_754 rfl 3 rfl rfl ?_
    refine wa_aload_n 756 0 hC dL_law_755 rfl 1 rfl rfl ?_
    refine wa_iload 758 4 hC dL_law_756 5 rfl rfl ?_
    refine wa_iconst 759 hC dL_law_758 kc_1 rfl ?_
    refine wa_iadd 760 hC dL_law_759 rfl ?_
    obtain ⟨g_11, h⟩ := gd_some h
    refine wl_sld 761 hC hS g_11 dL_law_760 rfl ?_
    refine wa_aload_n 762 0 hC dL_law_761 rfl 1 rfl rfl ?_
    refine wa_iload 764 4 hC dL_law_762 5 rfl rfl ?_
    refine wa_iconst 765 hC dL_law_764 kc_2 rfl ?_
    refine wa_iadd 766 hC dL_law_765 rfl ?_
    obtain ⟨g_10, h⟩ := gd_some h
    refine wl_sld 767 hC hS g_10 dL_law_766 rfl ?_
    refine wa_aload_n 768 0 hC dL_law_767 rfl 1 rfl rfl ?_
    refine wa_iload 770 4 hC dL_law_768 5 rfl rfl ?_
    refine wa_iconst 771 hC dL_law_770 kc_3 rfl ?_
    refine wa_iadd 772 hC dL_law_771 rfl ?_
    obtain ⟨g_9, h⟩ := gd_some h
    refine wl_sld 773 hC hS g_9 dL_law_772 rfl ?_
    obtain ⟨r_6, Z_5, e_4, h⟩ := bd2_some h
    refine wa_callVi 776 hC [.int (xs (x4 + (1 : Int32)).toNatClampNeg), .int (xs (x4 + (2 : Int32)).toNatClampNeg), .int (xs (x4 + (3 : Int32)).toNatClampNeg)] [] knX10_transfer mvL_178 (tX10_transfer E.2.1 (xs (x4 + (1 : Int32)).toNatClampNeg) (xs (x4 + (2 : Int32)).toNatClampNeg) (xs (x4 + (3 : Int32)).toNatClampNeg) Z hVC e_4) (vs10 hVC) kc10 (Nat.le_of_ble_eq_true rfl) (Nat.le_of_ble_eq_true rfl) rfl (Nat.le_of_ble_eq_true rfl) dL_law_773 rfl ⟨by omega, by omega⟩ rfl ?_
    refine wa_istore (lv' := [(6, .int r_6), (5, .int r_2), (0, .ref b), (1, .ref (ρ 9 0)), (2, .ref (ρ 10 0)), (3, .ref (ρ 41 0)), (4, .int x4)]) 778 6 hC dL_law_776 rfl (by decide) rfl rfl ?_
    refine wa_aload_n 779 2 hC dL_law_778 rfl 4 rfl rfl ?_
    obtain ⟨r_8, e_7, h⟩ := bd_some h
    refine wa_callVi 782 hC [] [] knX10_thrown mvL_148 (tX10_thrown E.2.1 Z_5 hVC e_7) (vs10 hVC) kc10 (Nat.le_of_ble_eq_true rfl) (Nat.le_of_ble_eq_true rfl) rfl (Nat.le_of_ble_eq_true rfl) dL_law_779 rfl ⟨by omega, by omega⟩ rfl ?_
    refine wa_iload 784 5 hC dL_law_782 1 rfl rfl ?_
    refine wa_icmp_eq 787 789 hC dL_law_784 rfl rfl h (fun h => ?_) (fun h => ?_)
    · refine wa_iload 791 5 hC dL_law_789 1 rfl rfl ?_
      refine wa_if_ne 794 806 hC dL_law_791 rfl rfl h (fun h => ?_) (fun h => ?_)
      · refine wa_goto 2681 hC dL_law_806 rfl ?_
        refine wa_pick [2, 3, 4, 5, 6] rfl ?_
        exact hk ρ V (k1 + 90) (k2 + 3000) hE hVC ⟨by omega, by omega⟩ (show (J A_1 Z_5) = _ by rw [sm1 h, sm2 h])
      · refine wa_aload_n 795 3 hC dL_law_794 rfl 5 rfl rfl ?_
        refine wa_iconst 796 hC dL_law_795 kc_0 rfl ?_
        refine wa_laldc 797 hC (vs41 hVC) ar41 rfl (by decide) dL_law_796 rfl ?_
        refine wa_iload 799 6 hC dL_law_797 0 rfl rfl ?_
        refine wa_i2l 800 hC dL_law_799 rfl ?_
        refine wa_lcmp 801 hC dL_law_800 rfl ?_
        refine wa_lcmp_eq 804 806 hC dL_law_801 rfl rfl h (fun h => ?_) (fun h => ?_)
        · refine wa_goto 2681 hC dL_law_806 rfl ?_
          refine wa_pick [2, 3, 4, 5, 6] rfl ?_
          exact hk ρ V (k1 + 90) (k2 + 3000) hE hVC ⟨by omega, by omega⟩ (show (J A_1 Z_5) = _ by rw [sm1 h, sm2 h])
        · cases h
    · cases h
  refine wl_wrap 752 hC [.ref (ρ 9 0), .int (xs (x4 + (1 : Int32)).toNatClampNeg), .int (xs (x4 + (2 : Int32)).toNatClampNeg), .int (xs (x4 + (3 : Int32)).toNatClampNeg), .ref (ρ 41 0)] [] wr_transfer (tL_transfer E.2.1 hl9 (xs (x4 + (1 : Int32)).toNatClampNeg) (xs (x4 + (2 : Int32)).toNatClampNeg) (xs (x4 + (3 : Int32)).toNatClampNeg) A hVC e_3) (Nat.le_of_ble_eq_true rfl) (Nat.le_of_ble_eq_true rfl) rfl (Nat.le_of_ble_eq_true rfl) dL_law_749 rfl ⟨by omega, by omega⟩ rfl (fun ρ1 V1 hE9 hVC9 => ?_)
  rw [← (hE9 9 0 (vs9 hVC)).2, ← (hE9 10 0 (vs10 hVC)).2, ← (hE9 41 0 (vs41 hVC)).2]
  exact key ρ1 V1 hE9 hVC9
set_option maxRecDepth 20000 in
theorem wL_case9 {E : eU} {G : gU} {ρ0 ρ : Nat → Nat → Nat} {V0 V : Nat → Nat → Prop} {b L k1 k2 : Nat} {xs : Nat → Int32} {x4 : Int32} {A Z A' Z' : sM} (hC : CX E G cL_law 8 RL (some .boolean) 1312 601024 7293034) (hl9 : E.2.1.stackTraces = false) (hS : SC E G b L xs) (hVC : VC V) (hE : Ext ρ0 V0 ρ V) (hkk : k1 + 90 ≤ 601024 ∧ k2 + 3000 ≤ 7293034) (hk : ∀ ρ' V' j1 j2, Ext ρ0 V0 ρ' V' → VC V' → (j1 ≤ k1 + 90 ∧ j2 ≤ k2 + 3000) → ∀ {M : sM}, M = J A' Z' → WA E G ρ' V' j1 j2 M 2681 [(0, .ref b), (1, .ref (ρ' 9 0)), (2, .ref (ρ' 10 0)), (3, .ref (ρ' 41 0)), (4, .int x4)] []) (h : fL_case9 L xs x4 A Z = some (A', Z')) : WA E G ρ V k1 k2 (J A Z) 809 [(0, .ref b), (1, .ref (ρ 9 0)), (2, .ref (ρ 10 0)), (3, .ref (ρ 41 0)), (4, .int x4)] [] := by
  obtain ⟨hkk1, hkk2⟩ := hkk
  rw [fL_case9] at h
  refine wa_aload_n 810 1 hC dL_law_809 rfl 1 rfl rfl ?_
  refine wa_aload_n 811 0 hC dL_law_810 rfl 0 rfl rfl ?_
  refine wa_iload 813 4 hC dL_law_811 4 rfl rfl ?_
  refine wa_iconst 814 hC dL_law_813 kc_1 rfl ?_
  refine wa_iadd 815 hC dL_law_814 rfl ?_
  obtain ⟨g_13, h⟩ := gd_some h
  refine wl_sld 816 hC hS g_13 dL_law_815 rfl ?_
  refine wa_aload_n 817 0 hC dL_law_816 rfl 0 rfl rfl ?_
  refine wa_iload 819 4 hC dL_law_817 4 rfl rfl ?_
  refine wa_iconst 820 hC dL_law_819 kc_2 rfl ?_
  refine wa_iadd 821 hC dL_law_820 rfl ?_
  obtain ⟨g_12, h⟩ := gd_some h
  refine wl_sld 822 hC hS g_12 dL_law_821 rfl ?_
  refine wa_aload_n 823 0 hC dL_law_822 rfl 0 rfl rfl ?_
  refine wa_iload 825 4 hC dL_law_823 4 rfl rfl ?_
  refine wa_iconst 826 hC dL_law_825 kc_3 rfl ?_
  refine wa_iadd 827 hC dL_law_826 rfl ?_
  obtain ⟨g_11, h⟩ := gd_some h
  refine wl_sld 828 hC hS g_11 dL_law_827 rfl ?_
  obtain ⟨r_2, A_1, e_3, h⟩ := bd2_some h
  have key : ∀ (ρ1 : Nat → Nat → Nat) (V1 : Nat → Nat → Prop), Ext ρ V ρ1 V1 → VC V1 → WA E G ρ1 V1 (k1 + 90) (k2 + 3000) (J A_1 Z) 831 [(0, .ref b), (1, .ref (ρ1 9 0)), (2, .ref (ρ1 10 0)), (3, .ref (ρ1 41 0)), (4, .int x4)] [.int r_2] := by
    intro ρ V hE0 hVC
    have hE := Ext.trans hE hE0
    refine wa_istore (lv' := [(5, .int r_2), (0, .ref b), (1, .ref (ρ 9 0)), (2, .ref (ρ 10 0)), (3, .ref (ρ 41 0)), (4, .int x4)]) 833 5 hC dL_law_831 rfl (by decide) rfl rfl ?_
    refine wa_aload_n 834 2 hC dL_law_833 rfl 3 rfl rfl ?_
    refine wa_aload_n 835 0 hC dL_law_834 rfl 1 rfl rfl ?_
    refine wa_iload 837 4 hC dL_law_835 5 rfl rfl ?_
    refine wa_iconst 838 hC dL_law_837 kc_1 rfl ?_
    refine wa_iadd 839 hC dL_law_838 rfl ?_
    obtain ⟨g_10, h⟩ := gd_some h
    refine wl_sld 840 hC hS g_10 dL_law_839 rfl ?_
    refine wa_aload_n 841 0 hC dL_law_840 rfl 1 rfl rfl ?_
    refine wa_iload 843 4 hC dL_law_841 5 rfl rfl ?_
    refine wa_iconst 844 hC dL_law_843 kc_2 rfl ?_
    refine wa_iadd 845 hC dL_law_844 rfl ?_
    obtain ⟨g_9, h⟩ := gd_some h
    refine wl_sld 846 hC hS g_9 dL_law_845 rfl ?_
    refine wa_aload_n 847 0 hC dL_law_846 rfl 1 rfl rfl ?_
    refine wa_iload 849 4 hC dL_law_847 5 rfl rfl ?_
    refine wa_iconst 850 hC dL_law_849 kc_3 rfl ?_
    refine wa_iadd 851 hC dL_law_850 rfl ?_
    obtain ⟨g_8, h⟩ := gd_some h
    refine wl_sld 852 hC hS g_8 dL_law_851 rfl ?_
    obtain ⟨Z_5, e_4, h⟩ := bd_some h
    refine wa_callVv 855 hC [.int (xs (x4 + (1 : Int32)).toNatClampNeg), .int (xs (x4 + (2 : Int32)).toNatClampNeg), .int (xs (x4 + (3 : Int32)).toNatClampNeg)] [] knX10_assign mvL_182 (tX10_assign E.2.1 (xs (x4 + (1 : Int32)).toNatClampNeg) (xs (x4 + (2 : Int32)).toNatClampNeg) (xs (x4 + (3 : Int32)).toNatClampNeg) Z hVC e_4) (vs10 hVC) kc10 (Nat.le_of_ble_eq_true rfl) (Nat.le_of_ble_eq_true rfl) rfl (Nat.le_of_ble_eq_true rfl) dL_law_852 rfl ⟨by omega, by omega⟩ rfl ?_
    refine wa_aload_n 856 2 hC dL_law_855 rfl 3 rfl rfl ?_
    obtain ⟨r_7, e_6, h⟩ := bd_some h
    refine wa_callVi 859 hC [] [] knX10_thrown mvL_148 (tX10_thrown E.2.1 Z_5 hVC e_6) (vs10 hVC) kc10 (Nat.le_of_ble_eq_true rfl) (Nat.le_of_ble_eq_true rfl) rfl (Nat.le_of_ble_eq_true rfl) dL_law_856 rfl ⟨by omega, by omega⟩ rfl ?_
    refine wa_iload 861 5 hC dL_law_859 0 rfl rfl ?_
    refine wa_icmp_eq 864 866 hC dL_law_861 rfl rfl h (fun h => ?_) (fun h => ?_)
    · refine wa_goto 2681 hC dL_law_866 rfl ?_
      refine wa_pick [1, 2, 3, 4, 5] rfl ?_
      exact hk ρ V (k1 + 90) (k2 + 3000) hE hVC ⟨by omega, by omega⟩ (show (J A_1 Z_5) = _ by rw [sm1 h, sm2 h])
    · cases h
  refine wl_wrap 831 hC [.ref (ρ 9 0), .int (xs (x4 + (1 : Int32)).toNatClampNeg), .int (xs (x4 + (2 : Int32)).toNatClampNeg), .int (xs (x4 + (3 : Int32)).toNatClampNeg)] [] wr_assign (tL_assign E.2.1 hl9 (xs (x4 + (1 : Int32)).toNatClampNeg) (xs (x4 + (2 : Int32)).toNatClampNeg) (xs (x4 + (3 : Int32)).toNatClampNeg) A hVC e_3) (Nat.le_of_ble_eq_true rfl) (Nat.le_of_ble_eq_true rfl) rfl (Nat.le_of_ble_eq_true rfl) dL_law_828 rfl ⟨by omega, by omega⟩ rfl (fun ρ1 V1 hE9 hVC9 => ?_)
  rw [← (hE9 9 0 (vs9 hVC)).2, ← (hE9 10 0 (vs10 hVC)).2, ← (hE9 41 0 (vs41 hVC)).2]
  exact key ρ1 V1 hE9 hVC9
set_option maxRecDepth 20000 in
theorem wL_case10 {E : eU} {G : gU} {ρ0 ρ : Nat → Nat → Nat} {V0 V : Nat → Nat → Prop} {b L k1 k2 : Nat} {xs : Nat → Int32} {x4 : Int32} {A Z A' Z' : sM} (hC : CX E G cL_law 8 RL (some .boolean) 1312 601024 7293034) (hl9 : E.2.1.stackTraces = false) (hS : SC E G b L xs) (hVC : VC V) (hE : Ext ρ0 V0 ρ V) (hkk : k1 + 90 ≤ 601024 ∧ k2 + 3000 ≤ 7293034) (hk : ∀ ρ' V' j1 j2, Ext ρ0 V0 ρ' V' → VC V' → (j1 ≤ k1 + 90 ∧ j2 ≤ k2 + 3000) → ∀ {M : sM}, M = J A' Z' → WA E G ρ' V' j1 j2 M 2681 [(0, .ref b), (1, .ref (ρ' 9 0)), (2, .ref (ρ' 10 0)), (3, .ref (ρ' 41 0)), (4, .int x4)] []) (h : fL_case10 L xs x4 A Z = some (A', Z')) : WA E G ρ V k1 k2 (J A Z) 869 [(0, .ref b), (1, .ref (ρ 9 0)), (2, .ref (ρ 10 0)), (3, .ref (ρ 41 0)), (4, .int x4)] [] := by
  obtain ⟨hkk1, hkk2⟩ := hkk
  rw [fL_case10] at h
  refine wa_aload_n 870 1 hC dL_law_869 rfl 1 rfl rfl ?_
  refine wa_aload_n 871 0 hC dL_law_870 rfl 0 rfl rfl ?_
  refine wa_iload 873 4 hC dL_law_871 4 rfl rfl ?_
  refine wa_iconst 874 hC dL_law_873 kc_1 rfl ?_
  refine wa_iadd 875 hC dL_law_874 rfl ?_
  obtain ⟨g_10, h⟩ := gd_some h
  refine wl_sld 876 hC hS g_10 dL_law_875 rfl ?_
  refine wa_aload_n 877 3 hC dL_law_876 rfl 3 rfl rfl ?_
  obtain ⟨r_2, A_1, e_3, h⟩ := bd2_some h
  have key : ∀ (ρ1 : Nat → Nat → Nat) (V1 : Nat → Nat → Prop), Ext ρ V ρ1 V1 → VC V1 → WA E G ρ1 V1 (k1 + 90) (k2 + 3000) (J A_1 Z) 880 [(0, .ref b), (1, .ref (ρ1 9 0)), (2, .ref (ρ1 10 0)), (3, .ref (ρ1 41 0)), (4, .int x4)] [.int r_2] := by
    intro ρ V hE0 hVC
    have hE := Ext.trans hE hE0
    refine wa_istore (lv' := [(5, .int r_2), (0, .ref b), (1, .ref (ρ 9 0)), (2, .ref (ρ 10 0)), (3, .ref (ρ 41 0)), (4, .int x4)]) 882 5 hC dL_law_880 rfl (by decide) rfl rfl ?_
    refine wa_aload_n 883 2 hC dL_law_882 rfl 3 rfl rfl ?_
    refine wa_aload_n 884 0 hC dL_law_883 rfl 1 rfl rfl ?_
    refine wa_iload 886 4 hC dL_law_884 5 rfl rfl ?_
    refine wa_iconst 887 hC dL_law_886 kc_1 rfl ?_
    refine wa_iadd 888 hC dL_law_887 rfl ?_
    obtain ⟨g_9, h⟩ := gd_some h
    refine wl_sld 889 hC hS g_9 dL_law_888 rfl ?_
    obtain ⟨r_6, Z_5, e_4, h⟩ := bd2_some h
    refine wa_callVl 892 hC [.int (xs (x4 + (1 : Int32)).toNatClampNeg)] [] knX10_leave mvL_185 (tX10_leave E.2.1 (xs (x4 + (1 : Int32)).toNatClampNeg) Z hVC e_4) (vs10 hVC) kc10 (Nat.le_of_ble_eq_true rfl) (Nat.le_of_ble_eq_true rfl) rfl (Nat.le_of_ble_eq_true rfl) dL_law_889 rfl ⟨by omega, by omega⟩ rfl ?_
    refine wa_lstore (lv' := [(6, .long r_6), (5, .int r_2), (0, .ref b), (1, .ref (ρ 9 0)), (2, .ref (ρ 10 0)), (3, .ref (ρ 41 0)), (4, .int x4)]) 894 6 hC dL_law_892 rfl (by decide) rfl rfl ?_
    refine wa_aload_n 895 2 hC dL_law_894 rfl 4 rfl rfl ?_
    obtain ⟨r_8, e_7, h⟩ := bd_some h
    refine wa_callVi 898 hC [] [] knX10_thrown mvL_148 (tX10_thrown E.2.1 Z_5 hVC e_7) (vs10 hVC) kc10 (Nat.le_of_ble_eq_true rfl) (Nat.le_of_ble_eq_true rfl) rfl (Nat.le_of_ble_eq_true rfl) dL_law_895 rfl ⟨by omega, by omega⟩ rfl ?_
    refine wa_iload 900 5 hC dL_law_898 1 rfl rfl ?_
    refine wa_icmp_eq 903 905 hC dL_law_900 rfl rfl h (fun h => ?_) (fun h => ?_)
    · refine wa_iload 907 5 hC dL_law_905 1 rfl rfl ?_
      refine wa_if_ne 910 921 hC dL_law_907 rfl rfl h (fun h => ?_) (fun h => ?_)
      · refine wa_goto 2681 hC dL_law_921 rfl ?_
        refine wa_pick [2, 3, 4, 5, 6] rfl ?_
        exact hk ρ V (k1 + 90) (k2 + 3000) hE hVC ⟨by omega, by omega⟩ (show (J A_1 Z_5) = _ by rw [sm1 h, sm2 h])
      · refine wa_aload_n 911 3 hC dL_law_910 rfl 5 rfl rfl ?_
        refine wa_iconst 912 hC dL_law_911 kc_0 rfl ?_
        refine wa_laldc 913 hC (vs41 hVC) ar41 rfl (by decide) dL_law_912 rfl ?_
        refine wa_lload 915 6 hC dL_law_913 0 rfl rfl ?_
        refine wa_lcmp 916 hC dL_law_915 rfl ?_
        refine wa_lcmp_eq 919 921 hC dL_law_916 rfl rfl h (fun h => ?_) (fun h => ?_)
        · refine wa_goto 2681 hC dL_law_921 rfl ?_
          refine wa_pick [2, 3, 4, 5, 6] rfl ?_
          exact hk ρ V (k1 + 90) (k2 + 3000) hE hVC ⟨by omega, by omega⟩ (show (J A_1 Z_5) = _ by rw [sm1 h, sm2 h])
        · cases h
    · cases h
  refine wl_wrap 880 hC [.ref (ρ 9 0), .int (xs (x4 + (1 : Int32)).toNatClampNeg), .ref (ρ 41 0)] [] wr_leave (tL_leave E.2.1 hl9 (xs (x4 + (1 : Int32)).toNatClampNeg) A hVC e_3) (Nat.le_of_ble_eq_true rfl) (Nat.le_of_ble_eq_true rfl) rfl (Nat.le_of_ble_eq_true rfl) dL_law_877 rfl ⟨by omega, by omega⟩ rfl (fun ρ1 V1 hE9 hVC9 => ?_)
  rw [← (hE9 9 0 (vs9 hVC)).2, ← (hE9 10 0 (vs10 hVC)).2, ← (hE9 41 0 (vs41 hVC)).2]
  exact key ρ1 V1 hE9 hVC9
set_option maxRecDepth 20000 in
theorem wL_case11 {E : eU} {G : gU} {ρ0 ρ : Nat → Nat → Nat} {V0 V : Nat → Nat → Prop} {b L k1 k2 : Nat} {xs : Nat → Int32} {x4 : Int32} {A Z A' Z' : sM} (hC : CX E G cL_law 8 RL (some .boolean) 1312 601024 7293034) (hl9 : E.2.1.stackTraces = false) (hS : SC E G b L xs) (hVC : VC V) (hE : Ext ρ0 V0 ρ V) (hkk : k1 + 90 ≤ 601024 ∧ k2 + 3000 ≤ 7293034) (hk : ∀ ρ' V' j1 j2, Ext ρ0 V0 ρ' V' → VC V' → (j1 ≤ k1 + 90 ∧ j2 ≤ k2 + 3000) → ∀ {M : sM}, M = J A' Z' → WA E G ρ' V' j1 j2 M 2681 [(0, .ref b), (1, .ref (ρ' 9 0)), (2, .ref (ρ' 10 0)), (3, .ref (ρ' 41 0)), (4, .int x4)] []) (h : fL_case11 L xs x4 A Z = some (A', Z')) : WA E G ρ V k1 k2 (J A Z) 924 [(0, .ref b), (1, .ref (ρ 9 0)), (2, .ref (ρ 10 0)), (3, .ref (ρ 41 0)), (4, .int x4)] [] := by
  obtain ⟨hkk1, hkk2⟩ := hkk
  rw [fL_case11] at h
  refine wa_aload_n 925 1 hC dL_law_924 rfl 1 rfl rfl ?_
  obtain ⟨r_2, e_1, h⟩ := bd_some h
  refine wa_callVi 928 hC [] [] knX9_subscriberCount mvL_186 (tX9_subscriberCount E.2.1 A hVC e_1) (vs9 hVC) kc9 (Nat.le_of_ble_eq_true rfl) (Nat.le_of_ble_eq_true rfl) rfl (Nat.le_of_ble_eq_true rfl) dL_law_925 rfl ⟨by omega, by omega⟩ rfl ?_
  refine wa_aload_n 929 2 hC dL_law_928 rfl 2 rfl rfl ?_
  obtain ⟨r_5, Z_4, e_3, h⟩ := bd2_some h
  refine wa_callVi 932 hC [] [.int r_2] knX10_subscriberCount mvL_189 (tX10_subscriberCount E.2.1 Z hVC e_3) (vs10 hVC) kc10 (Nat.le_of_ble_eq_true rfl) (Nat.le_of_ble_eq_true rfl) rfl (Nat.le_of_ble_eq_true rfl) dL_law_929 rfl ⟨by omega, by omega⟩ rfl ?_
  refine wa_icmp_eq 935 2681 hC dL_law_932 rfl rfl h (fun h => ?_) (fun h => ?_)
  · refine wa_pick [0, 1, 2, 3, 4] rfl ?_
    exact hk ρ V k1 k2 hE hVC ⟨by omega, by omega⟩ (show (J A Z_4) = _ by rw [sm1 h, sm2 h])
  · cases h
set_option maxRecDepth 20000 in
theorem wL_case12 {E : eU} {G : gU} {ρ0 ρ : Nat → Nat → Nat} {V0 V : Nat → Nat → Prop} {b L k1 k2 : Nat} {xs : Nat → Int32} {x4 : Int32} {A Z A' Z' : sM} (hC : CX E G cL_law 8 RL (some .boolean) 1312 601024 7293034) (hl9 : E.2.1.stackTraces = false) (hS : SC E G b L xs) (hVC : VC V) (hE : Ext ρ0 V0 ρ V) (hkk : k1 + 90 ≤ 601024 ∧ k2 + 3000 ≤ 7293034) (hk : ∀ ρ' V' j1 j2, Ext ρ0 V0 ρ' V' → VC V' → (j1 ≤ k1 + 90 ∧ j2 ≤ k2 + 3000) → ∀ {M : sM}, M = J A' Z' → WA E G ρ' V' j1 j2 M 2681 [(0, .ref b), (1, .ref (ρ' 9 0)), (2, .ref (ρ' 10 0)), (3, .ref (ρ' 41 0)), (4, .int x4)] []) (h : fL_case12 L xs x4 A Z = some (A', Z')) : WA E G ρ V k1 k2 (J A Z) 937 [(0, .ref b), (1, .ref (ρ 9 0)), (2, .ref (ρ 10 0)), (3, .ref (ρ 41 0)), (4, .int x4)] [] := by
  obtain ⟨hkk1, hkk2⟩ := hkk
  rw [fL_case12] at h
  refine wa_aload_n 938 1 hC dL_law_937 rfl 1 rfl rfl ?_
  refine wa_aload_n 939 0 hC dL_law_938 rfl 0 rfl rfl ?_
  refine wa_iload 941 4 hC dL_law_939 4 rfl rfl ?_
  refine wa_iconst 942 hC dL_law_941 kc_1 rfl ?_
  refine wa_iadd 943 hC dL_law_942 rfl ?_
  obtain ⟨g_10, h⟩ := gd_some h
  refine wl_sld 944 hC hS g_10 dL_law_943 rfl ?_
  refine wa_aload_n 945 3 hC dL_law_944 rfl 3 rfl rfl ?_
  obtain ⟨r_2, A_1, e_3, h⟩ := bd2_some h
  have key : ∀ (ρ1 : Nat → Nat → Nat) (V1 : Nat → Nat → Prop), Ext ρ V ρ1 V1 → VC V1 → WA E G ρ1 V1 (k1 + 90) (k2 + 3000) (J A_1 Z) 948 [(0, .ref b), (1, .ref (ρ1 9 0)), (2, .ref (ρ1 10 0)), (3, .ref (ρ1 41 0)), (4, .int x4)] [.int r_2] := by
    intro ρ V hE0 hVC
    have hE := Ext.trans hE hE0
    refine wa_istore (lv' := [(5, .int r_2), (0, .ref b), (1, .ref (ρ 9 0)), (2, .ref (ρ 10 0)), (3, .ref (ρ 41 0)), (4, .int x4)]) 950 5 hC dL_law_948 rfl (by decide) rfl rfl ?_
    refine wa_aload_n 951 2 hC dL_law_950 rfl 3 rfl rfl ?_
    refine wa_aload_n 952 0 hC dL_law_951 rfl 1 rfl rfl ?_
    refine wa_iload 954 4 hC dL_law_952 5 rfl rfl ?_
    refine wa_iconst 955 hC dL_law_954 kc_1 rfl ?_
    refine wa_iadd 956 hC dL_law_955 rfl ?_
    obtain ⟨g_9, h⟩ := gd_some h
    refine wl_sld 957 hC hS g_9 dL_law_956 rfl ?_
    obtain ⟨r_6, Z_5, e_4, h⟩ := bd2_some h
    refine wa_callVi 960 hC [.int (xs (x4 + (1 : Int32)).toNatClampNeg)] [] knX10_state mvL_192 (tX10_state E.2.1 (xs (x4 + (1 : Int32)).toNatClampNeg) Z hVC e_4) (vs10 hVC) kc10 (Nat.le_of_ble_eq_true rfl) (Nat.le_of_ble_eq_true rfl) rfl (Nat.le_of_ble_eq_true rfl) dL_law_957 rfl ⟨by omega, by omega⟩ rfl ?_
    refine wa_istore (lv' := [(6, .int r_6), (5, .int r_2), (0, .ref b), (1, .ref (ρ 9 0)), (2, .ref (ρ 10 0)), (3, .ref (ρ 41 0)), (4, .int x4)]) 962 6 hC dL_law_960 rfl (by decide) rfl rfl ?_
    refine wa_aload_n 963 2 hC dL_law_962 rfl 4 rfl rfl ?_
    obtain ⟨r_8, e_7, h⟩ := bd_some h
    refine wa_callVi 966 hC [] [] knX10_thrown mvL_148 (tX10_thrown E.2.1 Z_5 hVC e_7) (vs10 hVC) kc10 (Nat.le_of_ble_eq_true rfl) (Nat.le_of_ble_eq_true rfl) rfl (Nat.le_of_ble_eq_true rfl) dL_law_963 rfl ⟨by omega, by omega⟩ rfl ?_
    refine wa_iload 968 5 hC dL_law_966 1 rfl rfl ?_
    refine wa_icmp_eq 971 973 hC dL_law_968 rfl rfl h (fun h => ?_) (fun h => ?_)
    · refine wa_iload 975 5 hC dL_law_973 1 rfl rfl ?_
      refine wa_if_ne 978 990 hC dL_law_975 rfl rfl h (fun h => ?_) (fun h => ?_)
      · refine wa_goto 2681 hC dL_law_990 rfl ?_
        refine wa_pick [2, 3, 4, 5, 6] rfl ?_
        exact hk ρ V (k1 + 90) (k2 + 3000) hE hVC ⟨by omega, by omega⟩ (show (J A_1 Z_5) = _ by rw [sm1 h, sm2 h])
      · refine wa_aload_n 979 3 hC dL_law_978 rfl 5 rfl rfl ?_
        refine wa_iconst 980 hC dL_law_979 kc_0 rfl ?_
        refine wa_laldc 981 hC (vs41 hVC) ar41 rfl (by decide) dL_law_980 rfl ?_
        refine wa_iload 983 6 hC dL_law_981 0 rfl rfl ?_
        refine wa_i2l 984 hC dL_law_983 rfl ?_
        refine wa_lcmp 985 hC dL_law_984 rfl ?_
        refine wa_lcmp_eq 988 990 hC dL_law_985 rfl rfl h (fun h => ?_) (fun h => ?_)
        · refine wa_goto 2681 hC dL_law_990 rfl ?_
          refine wa_pick [2, 3, 4, 5, 6] rfl ?_
          exact hk ρ V (k1 + 90) (k2 + 3000) hE hVC ⟨by omega, by omega⟩ (show (J A_1 Z_5) = _ by rw [sm1 h, sm2 h])
        · cases h
    · cases h
  refine wl_wrap 948 hC [.ref (ρ 9 0), .int (xs (x4 + (1 : Int32)).toNatClampNeg), .ref (ρ 41 0)] [] wr_state (tL_state E.2.1 hl9 (xs (x4 + (1 : Int32)).toNatClampNeg) A hVC e_3) (Nat.le_of_ble_eq_true rfl) (Nat.le_of_ble_eq_true rfl) rfl (Nat.le_of_ble_eq_true rfl) dL_law_945 rfl ⟨by omega, by omega⟩ rfl (fun ρ1 V1 hE9 hVC9 => ?_)
  rw [← (hE9 9 0 (vs9 hVC)).2, ← (hE9 10 0 (vs10 hVC)).2, ← (hE9 41 0 (vs41 hVC)).2]
  exact key ρ1 V1 hE9 hVC9
set_option maxRecDepth 20000 in
theorem wL_case13 {E : eU} {G : gU} {ρ0 ρ : Nat → Nat → Nat} {V0 V : Nat → Nat → Prop} {b L k1 k2 : Nat} {xs : Nat → Int32} {x4 : Int32} {A Z A' Z' : sM} (hC : CX E G cL_law 8 RL (some .boolean) 1312 601024 7293034) (hl9 : E.2.1.stackTraces = false) (hS : SC E G b L xs) (hVC : VC V) (hE : Ext ρ0 V0 ρ V) (hkk : k1 + 90 ≤ 601024 ∧ k2 + 3000 ≤ 7293034) (hk : ∀ ρ' V' j1 j2, Ext ρ0 V0 ρ' V' → VC V' → (j1 ≤ k1 + 90 ∧ j2 ≤ k2 + 3000) → ∀ {M : sM}, M = J A' Z' → WA E G ρ' V' j1 j2 M 2681 [(0, .ref b), (1, .ref (ρ' 9 0)), (2, .ref (ρ' 10 0)), (3, .ref (ρ' 41 0)), (4, .int x4)] []) (h : fL_case13 L xs x4 A Z = some (A', Z')) : WA E G ρ V k1 k2 (J A Z) 993 [(0, .ref b), (1, .ref (ρ 9 0)), (2, .ref (ρ 10 0)), (3, .ref (ρ 41 0)), (4, .int x4)] [] := by
  obtain ⟨hkk1, hkk2⟩ := hkk
  rw [fL_case13] at h
  refine wa_aload_n 994 1 hC dL_law_993 rfl 1 rfl rfl ?_
  refine wa_aload_n 995 0 hC dL_law_994 rfl 0 rfl rfl ?_
  refine wa_iload 997 4 hC dL_law_995 4 rfl rfl ?_
  refine wa_iconst 998 hC dL_law_997 kc_1 rfl ?_
  refine wa_iadd 999 hC dL_law_998 rfl ?_
  obtain ⟨g_10, h⟩ := gd_some h
  refine wl_sld 1000 hC hS g_10 dL_law_999 rfl ?_
  refine wa_aload_n 1001 3 hC dL_law_1000 rfl 3 rfl rfl ?_
  obtain ⟨r_2, A_1, e_3, h⟩ := bd2_some h
  have key : ∀ (ρ1 : Nat → Nat → Nat) (V1 : Nat → Nat → Prop), Ext ρ V ρ1 V1 → VC V1 → WA E G ρ1 V1 (k1 + 90) (k2 + 3000) (J A_1 Z) 1004 [(0, .ref b), (1, .ref (ρ1 9 0)), (2, .ref (ρ1 10 0)), (3, .ref (ρ1 41 0)), (4, .int x4)] [.int r_2] := by
    intro ρ V hE0 hVC
    have hE := Ext.trans hE hE0
    refine wa_istore (lv' := [(5, .int r_2), (0, .ref b), (1, .ref (ρ 9 0)), (2, .ref (ρ 10 0)), (3, .ref (ρ 41 0)), (4, .int x4)]) 1006 5 hC dL_law_1004 rfl (by decide) rfl rfl ?_
    refine wa_aload_n 1007 2 hC dL_law_1006 rfl 3 rfl rfl ?_
    refine wa_aload_n 1008 0 hC dL_law_1007 rfl 1 rfl rfl ?_
    refine wa_iload 1010 4 hC dL_law_1008 5 rfl rfl ?_
    refine wa_iconst 1011 hC dL_law_1010 kc_1 rfl ?_
    refine wa_iadd 1012 hC dL_law_1011 rfl ?_
    obtain ⟨g_9, h⟩ := gd_some h
    refine wl_sld 1013 hC hS g_9 dL_law_1012 rfl ?_
    obtain ⟨r_6, Z_5, e_4, h⟩ := bd2_some h
    refine wa_callVi 1016 hC [.int (xs (x4 + (1 : Int32)).toNatClampNeg)] [] knX10_shares mvL_195 (tX10_shares E.2.1 (xs (x4 + (1 : Int32)).toNatClampNeg) Z hVC e_4) (vs10 hVC) kc10 (Nat.le_of_ble_eq_true rfl) (Nat.le_of_ble_eq_true rfl) rfl (Nat.le_of_ble_eq_true rfl) dL_law_1013 rfl ⟨by omega, by omega⟩ rfl ?_
    refine wa_istore (lv' := [(6, .int r_6), (5, .int r_2), (0, .ref b), (1, .ref (ρ 9 0)), (2, .ref (ρ 10 0)), (3, .ref (ρ 41 0)), (4, .int x4)]) 1018 6 hC dL_law_1016 rfl (by decide) rfl rfl ?_
    refine wa_aload_n 1019 2 hC dL_law_1018 rfl 4 rfl rfl ?_
    obtain ⟨r_8, e_7, h⟩ := bd_some h
    refine wa_callVi 1022 hC [] [] knX10_thrown mvL_148 (tX10_thrown E.2.1 Z_5 hVC e_7) (vs10 hVC) kc10 (Nat.le_of_ble_eq_true rfl) (Nat.le_of_ble_eq_true rfl) rfl (Nat.le_of_ble_eq_true rfl) dL_law_1019 rfl ⟨by omega, by omega⟩ rfl ?_
    refine wa_iload 1024 5 hC dL_law_1022 1 rfl rfl ?_
    refine wa_icmp_eq 1027 1029 hC dL_law_1024 rfl rfl h (fun h => ?_) (fun h => ?_)
    · refine wa_iload 1031 5 hC dL_law_1029 1 rfl rfl ?_
      refine wa_if_ne 1034 1046 hC dL_law_1031 rfl rfl h (fun h => ?_) (fun h => ?_)
      · refine wa_goto 2681 hC dL_law_1046 rfl ?_
        refine wa_pick [2, 3, 4, 5, 6] rfl ?_
        exact hk ρ V (k1 + 90) (k2 + 3000) hE hVC ⟨by omega, by omega⟩ (show (J A_1 Z_5) = _ by rw [sm1 h, sm2 h])
      · refine wa_aload_n 1035 3 hC dL_law_1034 rfl 5 rfl rfl ?_
        refine wa_iconst 1036 hC dL_law_1035 kc_0 rfl ?_
        refine wa_laldc 1037 hC (vs41 hVC) ar41 rfl (by decide) dL_law_1036 rfl ?_
        refine wa_iload 1039 6 hC dL_law_1037 0 rfl rfl ?_
        refine wa_i2l 1040 hC dL_law_1039 rfl ?_
        refine wa_lcmp 1041 hC dL_law_1040 rfl ?_
        refine wa_lcmp_eq 1044 1046 hC dL_law_1041 rfl rfl h (fun h => ?_) (fun h => ?_)
        · refine wa_goto 2681 hC dL_law_1046 rfl ?_
          refine wa_pick [2, 3, 4, 5, 6] rfl ?_
          exact hk ρ V (k1 + 90) (k2 + 3000) hE hVC ⟨by omega, by omega⟩ (show (J A_1 Z_5) = _ by rw [sm1 h, sm2 h])
        · cases h
    · cases h
  refine wl_wrap 1004 hC [.ref (ρ 9 0), .int (xs (x4 + (1 : Int32)).toNatClampNeg), .ref (ρ 41 0)] [] wr_shares (tL_shares E.2.1 hl9 (xs (x4 + (1 : Int32)).toNatClampNeg) A hVC e_3) (Nat.le_of_ble_eq_true rfl) (Nat.le_of_ble_eq_true rfl) rfl (Nat.le_of_ble_eq_true rfl) dL_law_1001 rfl ⟨by omega, by omega⟩ rfl (fun ρ1 V1 hE9 hVC9 => ?_)
  rw [← (hE9 9 0 (vs9 hVC)).2, ← (hE9 10 0 (vs10 hVC)).2, ← (hE9 41 0 (vs41 hVC)).2]
  exact key ρ1 V1 hE9 hVC9
set_option maxRecDepth 20000 in
theorem wL_case14 {E : eU} {G : gU} {ρ0 ρ : Nat → Nat → Nat} {V0 V : Nat → Nat → Prop} {b L k1 k2 : Nat} {xs : Nat → Int32} {x4 : Int32} {A Z A' Z' : sM} (hC : CX E G cL_law 8 RL (some .boolean) 1312 601024 7293034) (hl9 : E.2.1.stackTraces = false) (hS : SC E G b L xs) (hVC : VC V) (hE : Ext ρ0 V0 ρ V) (hkk : k1 + 90 ≤ 601024 ∧ k2 + 3000 ≤ 7293034) (hk : ∀ ρ' V' j1 j2, Ext ρ0 V0 ρ' V' → VC V' → (j1 ≤ k1 + 90 ∧ j2 ≤ k2 + 3000) → ∀ {M : sM}, M = J A' Z' → WA E G ρ' V' j1 j2 M 2681 [(0, .ref b), (1, .ref (ρ' 9 0)), (2, .ref (ρ' 10 0)), (3, .ref (ρ' 41 0)), (4, .int x4)] []) (h : fL_case14 L xs x4 A Z = some (A', Z')) : WA E G ρ V k1 k2 (J A Z) 1049 [(0, .ref b), (1, .ref (ρ 9 0)), (2, .ref (ρ 10 0)), (3, .ref (ρ 41 0)), (4, .int x4)] [] := by
  obtain ⟨hkk1, hkk2⟩ := hkk
  rw [fL_case14] at h
  refine wa_aload_n 1050 1 hC dL_law_1049 rfl 1 rfl rfl ?_
  obtain ⟨r_2, e_1, h⟩ := bd_some h
  refine wa_callVi 1053 hC [] [] knX9_freeShares mvL_196 (tX9_freeShares E.2.1 A hVC e_1) (vs9 hVC) kc9 (Nat.le_of_ble_eq_true rfl) (Nat.le_of_ble_eq_true rfl) rfl (Nat.le_of_ble_eq_true rfl) dL_law_1050 rfl ⟨by omega, by omega⟩ rfl ?_
  refine wa_aload_n 1054 2 hC dL_law_1053 rfl 2 rfl rfl ?_
  obtain ⟨r_5, Z_4, e_3, h⟩ := bd2_some h
  refine wa_callVi 1057 hC [] [.int r_2] knX10_freeShares mvL_199 (tX10_freeShares E.2.1 Z hVC e_3) (vs10 hVC) kc10 (Nat.le_of_ble_eq_true rfl) (Nat.le_of_ble_eq_true rfl) rfl (Nat.le_of_ble_eq_true rfl) dL_law_1054 rfl ⟨by omega, by omega⟩ rfl ?_
  refine wa_icmp_eq 1060 2681 hC dL_law_1057 rfl rfl h (fun h => ?_) (fun h => ?_)
  · refine wa_pick [0, 1, 2, 3, 4] rfl ?_
    exact hk ρ V k1 k2 hE hVC ⟨by omega, by omega⟩ (show (J A Z_4) = _ by rw [sm1 h, sm2 h])
  · cases h
set_option maxRecDepth 20000 in
theorem wL_case15 {E : eU} {G : gU} {ρ0 ρ : Nat → Nat → Nat} {V0 V : Nat → Nat → Prop} {b L k1 k2 : Nat} {xs : Nat → Int32} {x4 : Int32} {A Z A' Z' : sM} (hC : CX E G cL_law 8 RL (some .boolean) 1312 601024 7293034) (hl9 : E.2.1.stackTraces = false) (hS : SC E G b L xs) (hVC : VC V) (hE : Ext ρ0 V0 ρ V) (hkk : k1 + 90 ≤ 601024 ∧ k2 + 3000 ≤ 7293034) (hk : ∀ ρ' V' j1 j2, Ext ρ0 V0 ρ' V' → VC V' → (j1 ≤ k1 + 90 ∧ j2 ≤ k2 + 3000) → ∀ {M : sM}, M = J A' Z' → WA E G ρ' V' j1 j2 M 2681 [(0, .ref b), (1, .ref (ρ' 9 0)), (2, .ref (ρ' 10 0)), (3, .ref (ρ' 41 0)), (4, .int x4)] []) (h : fL_case15 L xs x4 A Z = some (A', Z')) : WA E G ρ V k1 k2 (J A Z) 1062 [(0, .ref b), (1, .ref (ρ 9 0)), (2, .ref (ρ 10 0)), (3, .ref (ρ 41 0)), (4, .int x4)] [] := by
  obtain ⟨hkk1, hkk2⟩ := hkk
  rw [fL_case15] at h
  refine wa_aload_n 1063 1 hC dL_law_1062 rfl 1 rfl rfl ?_
  refine wa_aload_n 1064 0 hC dL_law_1063 rfl 0 rfl rfl ?_
  refine wa_iload 1066 4 hC dL_law_1064 4 rfl rfl ?_
  refine wa_iconst 1067 hC dL_law_1066 kc_1 rfl ?_
  refine wa_iadd 1068 hC dL_law_1067 rfl ?_
  obtain ⟨g_10, h⟩ := gd_some h
  refine wl_sld 1069 hC hS g_10 dL_law_1068 rfl ?_
  refine wa_aload_n 1070 3 hC dL_law_1069 rfl 3 rfl rfl ?_
  obtain ⟨r_2, A_1, e_3, h⟩ := bd2_some h
  have key : ∀ (ρ1 : Nat → Nat → Nat) (V1 : Nat → Nat → Prop), Ext ρ V ρ1 V1 → VC V1 → WA E G ρ1 V1 (k1 + 90) (k2 + 3000) (J A_1 Z) 1073 [(0, .ref b), (1, .ref (ρ1 9 0)), (2, .ref (ρ1 10 0)), (3, .ref (ρ1 41 0)), (4, .int x4)] [.int r_2] := by
    intro ρ V hE0 hVC
    have hE := Ext.trans hE hE0
    refine wa_istore (lv' := [(5, .int r_2), (0, .ref b), (1, .ref (ρ 9 0)), (2, .ref (ρ 10 0)), (3, .ref (ρ 41 0)), (4, .int x4)]) 1075 5 hC dL_law_1073 rfl (by decide) rfl rfl ?_
    refine wa_aload_n 1076 2 hC dL_law_1075 rfl 3 rfl rfl ?_
    refine wa_aload_n 1077 0 hC dL_law_1076 rfl 1 rfl rfl ?_
    refine wa_iload 1079 4 hC dL_law_1077 5 rfl rfl ?_
    refine wa_iconst 1080 hC dL_law_1079 kc_1 rfl ?_
    refine wa_iadd 1081 hC dL_law_1080 rfl ?_
    obtain ⟨g_9, h⟩ := gd_some h
    refine wl_sld 1082 hC hS g_9 dL_law_1081 rfl ?_
    obtain ⟨r_6, Z_5, e_4, h⟩ := bd2_some h
    refine wa_callVi 1085 hC [.int (xs (x4 + (1 : Int32)).toNatClampNeg)] [] knX10_waitingPlace mvL_202 (tX10_waitingPlace E.2.1 (xs (x4 + (1 : Int32)).toNatClampNeg) Z hVC e_4) (vs10 hVC) kc10 (Nat.le_of_ble_eq_true rfl) (Nat.le_of_ble_eq_true rfl) rfl (Nat.le_of_ble_eq_true rfl) dL_law_1082 rfl ⟨by omega, by omega⟩ rfl ?_
    refine wa_istore (lv' := [(6, .int r_6), (5, .int r_2), (0, .ref b), (1, .ref (ρ 9 0)), (2, .ref (ρ 10 0)), (3, .ref (ρ 41 0)), (4, .int x4)]) 1087 6 hC dL_law_1085 rfl (by decide) rfl rfl ?_
    refine wa_aload_n 1088 2 hC dL_law_1087 rfl 4 rfl rfl ?_
    obtain ⟨r_8, e_7, h⟩ := bd_some h
    refine wa_callVi 1091 hC [] [] knX10_thrown mvL_148 (tX10_thrown E.2.1 Z_5 hVC e_7) (vs10 hVC) kc10 (Nat.le_of_ble_eq_true rfl) (Nat.le_of_ble_eq_true rfl) rfl (Nat.le_of_ble_eq_true rfl) dL_law_1088 rfl ⟨by omega, by omega⟩ rfl ?_
    refine wa_iload 1093 5 hC dL_law_1091 1 rfl rfl ?_
    refine wa_icmp_eq 1096 1098 hC dL_law_1093 rfl rfl h (fun h => ?_) (fun h => ?_)
    · refine wa_iload 1100 5 hC dL_law_1098 1 rfl rfl ?_
      refine wa_if_ne 1103 1115 hC dL_law_1100 rfl rfl h (fun h => ?_) (fun h => ?_)
      · refine wa_goto 2681 hC dL_law_1115 rfl ?_
        refine wa_pick [2, 3, 4, 5, 6] rfl ?_
        exact hk ρ V (k1 + 90) (k2 + 3000) hE hVC ⟨by omega, by omega⟩ (show (J A_1 Z_5) = _ by rw [sm1 h, sm2 h])
      · refine wa_aload_n 1104 3 hC dL_law_1103 rfl 5 rfl rfl ?_
        refine wa_iconst 1105 hC dL_law_1104 kc_0 rfl ?_
        refine wa_laldc 1106 hC (vs41 hVC) ar41 rfl (by decide) dL_law_1105 rfl ?_
        refine wa_iload 1108 6 hC dL_law_1106 0 rfl rfl ?_
        refine wa_i2l 1109 hC dL_law_1108 rfl ?_
        refine wa_lcmp 1110 hC dL_law_1109 rfl ?_
        refine wa_lcmp_eq 1113 1115 hC dL_law_1110 rfl rfl h (fun h => ?_) (fun h => ?_)
        · refine wa_goto 2681 hC dL_law_1115 rfl ?_
          refine wa_pick [2, 3, 4, 5, 6] rfl ?_
          exact hk ρ V (k1 + 90) (k2 + 3000) hE hVC ⟨by omega, by omega⟩ (show (J A_1 Z_5) = _ by rw [sm1 h, sm2 h])
        · cases h
    · cases h
  refine wl_wrap 1073 hC [.ref (ρ 9 0), .int (xs (x4 + (1 : Int32)).toNatClampNeg), .ref (ρ 41 0)] [] wr_waitingPlace (tL_waitingPlace E.2.1 hl9 (xs (x4 + (1 : Int32)).toNatClampNeg) A hVC e_3) (Nat.le_of_ble_eq_true rfl) (Nat.le_of_ble_eq_true rfl) rfl (Nat.le_of_ble_eq_true rfl) dL_law_1070 rfl ⟨by omega, by omega⟩ rfl (fun ρ1 V1 hE9 hVC9 => ?_)
  rw [← (hE9 9 0 (vs9 hVC)).2, ← (hE9 10 0 (vs10 hVC)).2, ← (hE9 41 0 (vs41 hVC)).2]
  exact key ρ1 V1 hE9 hVC9
set_option maxRecDepth 20000 in
theorem wL_case16 {E : eU} {G : gU} {ρ0 ρ : Nat → Nat → Nat} {V0 V : Nat → Nat → Prop} {b L k1 k2 : Nat} {xs : Nat → Int32} {x4 : Int32} {A Z A' Z' : sM} (hC : CX E G cL_law 8 RL (some .boolean) 1312 601024 7293034) (hl9 : E.2.1.stackTraces = false) (hS : SC E G b L xs) (hVC : VC V) (hE : Ext ρ0 V0 ρ V) (hkk : k1 + 90 ≤ 601024 ∧ k2 + 3000 ≤ 7293034) (hk : ∀ ρ' V' j1 j2, Ext ρ0 V0 ρ' V' → VC V' → (j1 ≤ k1 + 90 ∧ j2 ≤ k2 + 3000) → ∀ {M : sM}, M = J A' Z' → WA E G ρ' V' j1 j2 M 2681 [(0, .ref b), (1, .ref (ρ' 9 0)), (2, .ref (ρ' 10 0)), (3, .ref (ρ' 41 0)), (4, .int x4)] []) (h : fL_case16 L xs x4 A Z = some (A', Z')) : WA E G ρ V k1 k2 (J A Z) 1118 [(0, .ref b), (1, .ref (ρ 9 0)), (2, .ref (ρ 10 0)), (3, .ref (ρ 41 0)), (4, .int x4)] [] := by
  obtain ⟨hkk1, hkk2⟩ := hkk
  rw [fL_case16] at h
  refine wa_aload_n 1119 1 hC dL_law_1118 rfl 1 rfl rfl ?_
  refine wa_aload_n 1120 0 hC dL_law_1119 rfl 0 rfl rfl ?_
  refine wa_iload 1122 4 hC dL_law_1120 4 rfl rfl ?_
  refine wa_iconst 1123 hC dL_law_1122 kc_1 rfl ?_
  refine wa_iadd 1124 hC dL_law_1123 rfl ?_
  obtain ⟨g_10, h⟩ := gd_some h
  refine wl_sld 1125 hC hS g_10 dL_law_1124 rfl ?_
  refine wa_aload_n 1126 3 hC dL_law_1125 rfl 3 rfl rfl ?_
  obtain ⟨r_2, A_1, e_3, h⟩ := bd2_some h
  have key : ∀ (ρ1 : Nat → Nat → Nat) (V1 : Nat → Nat → Prop), Ext ρ V ρ1 V1 → VC V1 → WA E G ρ1 V1 (k1 + 90) (k2 + 3000) (J A_1 Z) 1129 [(0, .ref b), (1, .ref (ρ1 9 0)), (2, .ref (ρ1 10 0)), (3, .ref (ρ1 41 0)), (4, .int x4)] [.int r_2] := by
    intro ρ V hE0 hVC
    have hE := Ext.trans hE hE0
    refine wa_istore (lv' := [(5, .int r_2), (0, .ref b), (1, .ref (ρ 9 0)), (2, .ref (ρ 10 0)), (3, .ref (ρ 41 0)), (4, .int x4)]) 1131 5 hC dL_law_1129 rfl (by decide) rfl rfl ?_
    refine wa_aload_n 1132 2 hC dL_law_1131 rfl 3 rfl rfl ?_
    refine wa_aload_n 1133 0 hC dL_law_1132 rfl 1 rfl rfl ?_
    refine wa_iload 1135 4 hC dL_law_1133 5 rfl rfl ?_
    refine wa_iconst 1136 hC dL_law_1135 kc_1 rfl ?_
    refine wa_iadd 1137 hC dL_law_1136 rfl ?_
    obtain ⟨g_9, h⟩ := gd_some h
    refine wl_sld 1138 hC hS g_9 dL_law_1137 rfl ?_
    obtain ⟨r_6, Z_5, e_4, h⟩ := bd2_some h
    refine wa_callVi 1141 hC [.int (xs (x4 + (1 : Int32)).toNatClampNeg)] [] knX10_passDays mvL_205 (tX10_passDays E.2.1 (xs (x4 + (1 : Int32)).toNatClampNeg) Z hVC e_4) (vs10 hVC) kc10 (Nat.le_of_ble_eq_true rfl) (Nat.le_of_ble_eq_true rfl) rfl (Nat.le_of_ble_eq_true rfl) dL_law_1138 rfl ⟨by omega, by omega⟩ rfl ?_
    refine wa_istore (lv' := [(6, .int r_6), (5, .int r_2), (0, .ref b), (1, .ref (ρ 9 0)), (2, .ref (ρ 10 0)), (3, .ref (ρ 41 0)), (4, .int x4)]) 1143 6 hC dL_law_1141 rfl (by decide) rfl rfl ?_
    refine wa_aload_n 1144 2 hC dL_law_1143 rfl 4 rfl rfl ?_
    obtain ⟨r_8, e_7, h⟩ := bd_some h
    refine wa_callVi 1147 hC [] [] knX10_thrown mvL_148 (tX10_thrown E.2.1 Z_5 hVC e_7) (vs10 hVC) kc10 (Nat.le_of_ble_eq_true rfl) (Nat.le_of_ble_eq_true rfl) rfl (Nat.le_of_ble_eq_true rfl) dL_law_1144 rfl ⟨by omega, by omega⟩ rfl ?_
    refine wa_iload 1149 5 hC dL_law_1147 1 rfl rfl ?_
    refine wa_icmp_eq 1152 1154 hC dL_law_1149 rfl rfl h (fun h => ?_) (fun h => ?_)
    · refine wa_iload 1156 5 hC dL_law_1154 1 rfl rfl ?_
      refine wa_if_ne 1159 1171 hC dL_law_1156 rfl rfl h (fun h => ?_) (fun h => ?_)
      · refine wa_goto 2681 hC dL_law_1171 rfl ?_
        refine wa_pick [2, 3, 4, 5, 6] rfl ?_
        exact hk ρ V (k1 + 90) (k2 + 3000) hE hVC ⟨by omega, by omega⟩ (show (J A_1 Z_5) = _ by rw [sm1 h, sm2 h])
      · refine wa_aload_n 1160 3 hC dL_law_1159 rfl 5 rfl rfl ?_
        refine wa_iconst 1161 hC dL_law_1160 kc_0 rfl ?_
        refine wa_laldc 1162 hC (vs41 hVC) ar41 rfl (by decide) dL_law_1161 rfl ?_
        refine wa_iload 1164 6 hC dL_law_1162 0 rfl rfl ?_
        refine wa_i2l 1165 hC dL_law_1164 rfl ?_
        refine wa_lcmp 1166 hC dL_law_1165 rfl ?_
        refine wa_lcmp_eq 1169 1171 hC dL_law_1166 rfl rfl h (fun h => ?_) (fun h => ?_)
        · refine wa_goto 2681 hC dL_law_1171 rfl ?_
          refine wa_pick [2, 3, 4, 5, 6] rfl ?_
          exact hk ρ V (k1 + 90) (k2 + 3000) hE hVC ⟨by omega, by omega⟩ (show (J A_1 Z_5) = _ by rw [sm1 h, sm2 h])
        · cases h
    · cases h
  refine wl_wrap 1129 hC [.ref (ρ 9 0), .int (xs (x4 + (1 : Int32)).toNatClampNeg), .ref (ρ 41 0)] [] wr_passDays (tL_passDays E.2.1 hl9 (xs (x4 + (1 : Int32)).toNatClampNeg) A hVC e_3) (Nat.le_of_ble_eq_true rfl) (Nat.le_of_ble_eq_true rfl) rfl (Nat.le_of_ble_eq_true rfl) dL_law_1126 rfl ⟨by omega, by omega⟩ rfl (fun ρ1 V1 hE9 hVC9 => ?_)
  rw [← (hE9 9 0 (vs9 hVC)).2, ← (hE9 10 0 (vs10 hVC)).2, ← (hE9 41 0 (vs41 hVC)).2]
  exact key ρ1 V1 hE9 hVC9
set_option maxRecDepth 20000 in
theorem wL_case17 {E : eU} {G : gU} {ρ0 ρ : Nat → Nat → Nat} {V0 V : Nat → Nat → Prop} {b L k1 k2 : Nat} {xs : Nat → Int32} {x4 : Int32} {A Z A' Z' : sM} (hC : CX E G cL_law 8 RL (some .boolean) 1312 601024 7293034) (hl9 : E.2.1.stackTraces = false) (hS : SC E G b L xs) (hVC : VC V) (hE : Ext ρ0 V0 ρ V) (hkk : k1 + 90 ≤ 601024 ∧ k2 + 3000 ≤ 7293034) (hk : ∀ ρ' V' j1 j2, Ext ρ0 V0 ρ' V' → VC V' → (j1 ≤ k1 + 90 ∧ j2 ≤ k2 + 3000) → ∀ {M : sM}, M = J A' Z' → WA E G ρ' V' j1 j2 M 2681 [(0, .ref b), (1, .ref (ρ' 9 0)), (2, .ref (ρ' 10 0)), (3, .ref (ρ' 41 0)), (4, .int x4)] []) (h : fL_case17 L xs x4 A Z = some (A', Z')) : WA E G ρ V k1 k2 (J A Z) 1174 [(0, .ref b), (1, .ref (ρ 9 0)), (2, .ref (ρ 10 0)), (3, .ref (ρ 41 0)), (4, .int x4)] [] := by
  obtain ⟨hkk1, hkk2⟩ := hkk
  rw [fL_case17] at h
  refine wa_aload_n 1175 1 hC dL_law_1174 rfl 1 rfl rfl ?_
  refine wa_aload_n 1176 0 hC dL_law_1175 rfl 0 rfl rfl ?_
  refine wa_iload 1178 4 hC dL_law_1176 4 rfl rfl ?_
  refine wa_iconst 1179 hC dL_law_1178 kc_1 rfl ?_
  refine wa_iadd 1180 hC dL_law_1179 rfl ?_
  obtain ⟨g_12, h⟩ := gd_some h
  refine wl_sld 1181 hC hS g_12 dL_law_1180 rfl ?_
  refine wa_aload_n 1182 0 hC dL_law_1181 rfl 0 rfl rfl ?_
  refine wa_iload 1184 4 hC dL_law_1182 4 rfl rfl ?_
  refine wa_iconst 1185 hC dL_law_1184 kc_2 rfl ?_
  refine wa_iadd 1186 hC dL_law_1185 rfl ?_
  obtain ⟨g_11, h⟩ := gd_some h
  refine wl_sld 1187 hC hS g_11 dL_law_1186 rfl ?_
  refine wa_aload_n 1188 3 hC dL_law_1187 rfl 3 rfl rfl ?_
  obtain ⟨r_2, A_1, e_3, h⟩ := bd2_some h
  have key : ∀ (ρ1 : Nat → Nat → Nat) (V1 : Nat → Nat → Prop), Ext ρ V ρ1 V1 → VC V1 → WA E G ρ1 V1 (k1 + 90) (k2 + 3000) (J A_1 Z) 1191 [(0, .ref b), (1, .ref (ρ1 9 0)), (2, .ref (ρ1 10 0)), (3, .ref (ρ1 41 0)), (4, .int x4)] [.int r_2] := by
    intro ρ V hE0 hVC
    have hE := Ext.trans hE hE0
    refine wa_istore (lv' := [(5, .int r_2), (0, .ref b), (1, .ref (ρ 9 0)), (2, .ref (ρ 10 0)), (3, .ref (ρ 41 0)), (4, .int x4)]) 1193 5 hC dL_law_1191 rfl (by decide) rfl rfl ?_
    refine wa_aload_n 1194 2 hC dL_law_1193 rfl 3 rfl rfl ?_
    refine wa_aload_n 1195 0 hC dL_law_1194 rfl 1 rfl rfl ?_
    refine wa_iload 1197 4 hC dL_law_1195 5 rfl rfl ?_
    refine wa_iconst 1198 hC dL_law_1197 kc_1 rfl ?_
    refine wa_iadd 1199 hC dL_law_1198 rfl ?_
    obtain ⟨g_10, h⟩ := gd_some h
    refine wl_sld 1200 hC hS g_10 dL_law_1199 rfl ?_
    refine wa_aload_n 1201 0 hC dL_law_1200 rfl 1 rfl rfl ?_
    refine wa_iload 1203 4 hC dL_law_1201 5 rfl rfl ?_
    refine wa_iconst 1204 hC dL_law_1203 kc_2 rfl ?_
    refine wa_iadd 1205 hC dL_law_1204 rfl ?_
    obtain ⟨g_9, h⟩ := gd_some h
    refine wl_sld 1206 hC hS g_9 dL_law_1205 rfl ?_
    obtain ⟨r_6, Z_5, e_4, h⟩ := bd2_some h
    refine wa_callVi 1209 hC [.int (xs (x4 + (1 : Int32)).toNatClampNeg), .int (xs (x4 + (2 : Int32)).toNatClampNeg)] [] knX10_generate mvL_208 (tX10_generate E.2.1 (xs (x4 + (1 : Int32)).toNatClampNeg) (xs (x4 + (2 : Int32)).toNatClampNeg) Z hVC e_4) (vs10 hVC) kc10 (Nat.le_of_ble_eq_true rfl) (Nat.le_of_ble_eq_true rfl) rfl (Nat.le_of_ble_eq_true rfl) dL_law_1206 rfl ⟨by omega, by omega⟩ rfl ?_
    refine wa_istore (lv' := [(6, .int r_6), (5, .int r_2), (0, .ref b), (1, .ref (ρ 9 0)), (2, .ref (ρ 10 0)), (3, .ref (ρ 41 0)), (4, .int x4)]) 1211 6 hC dL_law_1209 rfl (by decide) rfl rfl ?_
    refine wa_aload_n 1212 2 hC dL_law_1211 rfl 4 rfl rfl ?_
    obtain ⟨r_8, e_7, h⟩ := bd_some h
    refine wa_callVi 1215 hC [] [] knX10_thrown mvL_148 (tX10_thrown E.2.1 Z_5 hVC e_7) (vs10 hVC) kc10 (Nat.le_of_ble_eq_true rfl) (Nat.le_of_ble_eq_true rfl) rfl (Nat.le_of_ble_eq_true rfl) dL_law_1212 rfl ⟨by omega, by omega⟩ rfl ?_
    refine wa_iload 1217 5 hC dL_law_1215 1 rfl rfl ?_
    refine wa_icmp_eq 1220 1222 hC dL_law_1217 rfl rfl h (fun h => ?_) (fun h => ?_)
    · refine wa_iload 1224 5 hC dL_law_1222 1 rfl rfl ?_
      refine wa_if_ne 1227 1239 hC dL_law_1224 rfl rfl h (fun h => ?_) (fun h => ?_)
      · refine wa_goto 2681 hC dL_law_1239 rfl ?_
        refine wa_pick [2, 3, 4, 5, 6] rfl ?_
        exact hk ρ V (k1 + 90) (k2 + 3000) hE hVC ⟨by omega, by omega⟩ (show (J A_1 Z_5) = _ by rw [sm1 h, sm2 h])
      · refine wa_aload_n 1228 3 hC dL_law_1227 rfl 5 rfl rfl ?_
        refine wa_iconst 1229 hC dL_law_1228 kc_0 rfl ?_
        refine wa_laldc 1230 hC (vs41 hVC) ar41 rfl (by decide) dL_law_1229 rfl ?_
        refine wa_iload 1232 6 hC dL_law_1230 0 rfl rfl ?_
        refine wa_i2l 1233 hC dL_law_1232 rfl ?_
        refine wa_lcmp 1234 hC dL_law_1233 rfl ?_
        refine wa_lcmp_eq 1237 1239 hC dL_law_1234 rfl rfl h (fun h => ?_) (fun h => ?_)
        · refine wa_goto 2681 hC dL_law_1239 rfl ?_
          refine wa_pick [2, 3, 4, 5, 6] rfl ?_
          exact hk ρ V (k1 + 90) (k2 + 3000) hE hVC ⟨by omega, by omega⟩ (show (J A_1 Z_5) = _ by rw [sm1 h, sm2 h])
        · cases h
    · cases h
  refine wl_wrap 1191 hC [.ref (ρ 9 0), .int (xs (x4 + (1 : Int32)).toNatClampNeg), .int (xs (x4 + (2 : Int32)).toNatClampNeg), .ref (ρ 41 0)] [] wr_generate (tL_generate E.2.1 hl9 (xs (x4 + (1 : Int32)).toNatClampNeg) (xs (x4 + (2 : Int32)).toNatClampNeg) A hVC e_3) (Nat.le_of_ble_eq_true rfl) (Nat.le_of_ble_eq_true rfl) rfl (Nat.le_of_ble_eq_true rfl) dL_law_1188 rfl ⟨by omega, by omega⟩ rfl (fun ρ1 V1 hE9 hVC9 => ?_)
  rw [← (hE9 9 0 (vs9 hVC)).2, ← (hE9 10 0 (vs10 hVC)).2, ← (hE9 41 0 (vs41 hVC)).2]
  exact key ρ1 V1 hE9 hVC9
set_option maxRecDepth 20000 in
theorem wL_case18 {E : eU} {G : gU} {ρ0 ρ : Nat → Nat → Nat} {V0 V : Nat → Nat → Prop} {b L k1 k2 : Nat} {xs : Nat → Int32} {x4 : Int32} {A Z A' Z' : sM} (hC : CX E G cL_law 8 RL (some .boolean) 1312 601024 7293034) (hl9 : E.2.1.stackTraces = false) (hS : SC E G b L xs) (hVC : VC V) (hE : Ext ρ0 V0 ρ V) (hkk : k1 + 90 ≤ 601024 ∧ k2 + 3000 ≤ 7293034) (hk : ∀ ρ' V' j1 j2, Ext ρ0 V0 ρ' V' → VC V' → (j1 ≤ k1 + 90 ∧ j2 ≤ k2 + 3000) → ∀ {M : sM}, M = J A' Z' → WA E G ρ' V' j1 j2 M 2681 [(0, .ref b), (1, .ref (ρ' 9 0)), (2, .ref (ρ' 10 0)), (3, .ref (ρ' 41 0)), (4, .int x4)] []) (h : fL_case18 L xs x4 A Z = some (A', Z')) : WA E G ρ V k1 k2 (J A Z) 1242 [(0, .ref b), (1, .ref (ρ 9 0)), (2, .ref (ρ 10 0)), (3, .ref (ρ 41 0)), (4, .int x4)] [] := by
  obtain ⟨hkk1, hkk2⟩ := hkk
  rw [fL_case18] at h
  refine wa_aload_n 1243 1 hC dL_law_1242 rfl 1 rfl rfl ?_
  refine wa_aload_n 1244 0 hC dL_law_1243 rfl 0 rfl rfl ?_
  refine wa_iload 1246 4 hC dL_law_1244 4 rfl rfl ?_
  refine wa_iconst 1247 hC dL_law_1246 kc_1 rfl ?_
  refine wa_iadd 1248 hC dL_law_1247 rfl ?_
  obtain ⟨g_12, h⟩ := gd_some h
  refine wl_sld 1249 hC hS g_12 dL_law_1248 rfl ?_
  refine wa_aload_n 1250 0 hC dL_law_1249 rfl 0 rfl rfl ?_
  refine wa_iload 1252 4 hC dL_law_1250 4 rfl rfl ?_
  refine wa_iconst 1253 hC dL_law_1252 kc_2 rfl ?_
  refine wa_iadd 1254 hC dL_law_1253 rfl ?_
  obtain ⟨g_11, h⟩ := gd_some h
  refine wl_sld 1255 hC hS g_11 dL_law_1254 rfl ?_
  refine wa_aload_n 1256 3 hC dL_law_1255 rfl 3 rfl rfl ?_
  obtain ⟨r_2, A_1, e_3, h⟩ := bd2_some h
  have key : ∀ (ρ1 : Nat → Nat → Nat) (V1 : Nat → Nat → Prop), Ext ρ V ρ1 V1 → VC V1 → WA E G ρ1 V1 (k1 + 90) (k2 + 3000) (J A_1 Z) 1259 [(0, .ref b), (1, .ref (ρ1 9 0)), (2, .ref (ρ1 10 0)), (3, .ref (ρ1 41 0)), (4, .int x4)] [.int r_2] := by
    intro ρ V hE0 hVC
    have hE := Ext.trans hE hE0
    refine wa_istore (lv' := [(5, .int r_2), (0, .ref b), (1, .ref (ρ 9 0)), (2, .ref (ρ 10 0)), (3, .ref (ρ 41 0)), (4, .int x4)]) 1261 5 hC dL_law_1259 rfl (by decide) rfl rfl ?_
    refine wa_aload_n 1262 2 hC dL_law_1261 rfl 3 rfl rfl ?_
    refine wa_aload_n 1263 0 hC dL_law_1262 rfl 1 rfl rfl ?_
    refine wa_iload 1265 4 hC dL_law_1263 5 rfl rfl ?_
    refine wa_iconst 1266 hC dL_law_1265 kc_1 rfl ?_
    refine wa_iadd 1267 hC dL_law_1266 rfl ?_
    obtain ⟨g_10, h⟩ := gd_some h
    refine wl_sld 1268 hC hS g_10 dL_law_1267 rfl ?_
    refine wa_aload_n 1269 0 hC dL_law_1268 rfl 1 rfl rfl ?_
    refine wa_iload 1271 4 hC dL_law_1269 5 rfl rfl ?_
    refine wa_iconst 1272 hC dL_law_1271 kc_2 rfl ?_
    refine wa_iadd 1273 hC dL_law_1272 rfl ?_
    obtain ⟨g_9, h⟩ := gd_some h
    refine wl_sld 1274 hC hS g_9 dL_law_1273 rfl ?_
    obtain ⟨r_6, Z_5, e_4, h⟩ := bd2_some h
    refine wa_callVl 1277 hC [.int (xs (x4 + (1 : Int32)).toNatClampNeg), .int (xs (x4 + (2 : Int32)).toNatClampNeg)] [] knX10_bill mvL_211 (tX10_bill E.2.1 (xs (x4 + (1 : Int32)).toNatClampNeg) (xs (x4 + (2 : Int32)).toNatClampNeg) Z hVC e_4) (vs10 hVC) kc10 (Nat.le_of_ble_eq_true rfl) (Nat.le_of_ble_eq_true rfl) rfl (Nat.le_of_ble_eq_true rfl) dL_law_1274 rfl ⟨by omega, by omega⟩ rfl ?_
    refine wa_lstore (lv' := [(6, .long r_6), (5, .int r_2), (0, .ref b), (1, .ref (ρ 9 0)), (2, .ref (ρ 10 0)), (3, .ref (ρ 41 0)), (4, .int x4)]) 1279 6 hC dL_law_1277 rfl (by decide) rfl rfl ?_
    refine wa_aload_n 1280 2 hC dL_law_1279 rfl 4 rfl rfl ?_
    obtain ⟨r_8, e_7, h⟩ := bd_some h
    refine wa_callVi 1283 hC [] [] knX10_thrown mvL_148 (tX10_thrown E.2.1 Z_5 hVC e_7) (vs10 hVC) kc10 (Nat.le_of_ble_eq_true rfl) (Nat.le_of_ble_eq_true rfl) rfl (Nat.le_of_ble_eq_true rfl) dL_law_1280 rfl ⟨by omega, by omega⟩ rfl ?_
    refine wa_iload 1285 5 hC dL_law_1283 1 rfl rfl ?_
    refine wa_icmp_eq 1288 1290 hC dL_law_1285 rfl rfl h (fun h => ?_) (fun h => ?_)
    · refine wa_iload 1292 5 hC dL_law_1290 1 rfl rfl ?_
      refine wa_if_ne 1295 1306 hC dL_law_1292 rfl rfl h (fun h => ?_) (fun h => ?_)
      · refine wa_goto 2681 hC dL_law_1306 rfl ?_
        refine wa_pick [2, 3, 4, 5, 6] rfl ?_
        exact hk ρ V (k1 + 90) (k2 + 3000) hE hVC ⟨by omega, by omega⟩ (show (J A_1 Z_5) = _ by rw [sm1 h, sm2 h])
      · refine wa_aload_n 1296 3 hC dL_law_1295 rfl 5 rfl rfl ?_
        refine wa_iconst 1297 hC dL_law_1296 kc_0 rfl ?_
        refine wa_laldc 1298 hC (vs41 hVC) ar41 rfl (by decide) dL_law_1297 rfl ?_
        refine wa_lload 1300 6 hC dL_law_1298 0 rfl rfl ?_
        refine wa_lcmp 1301 hC dL_law_1300 rfl ?_
        refine wa_lcmp_eq 1304 1306 hC dL_law_1301 rfl rfl h (fun h => ?_) (fun h => ?_)
        · refine wa_goto 2681 hC dL_law_1306 rfl ?_
          refine wa_pick [2, 3, 4, 5, 6] rfl ?_
          exact hk ρ V (k1 + 90) (k2 + 3000) hE hVC ⟨by omega, by omega⟩ (show (J A_1 Z_5) = _ by rw [sm1 h, sm2 h])
        · cases h
    · cases h
  refine wl_wrap 1259 hC [.ref (ρ 9 0), .int (xs (x4 + (1 : Int32)).toNatClampNeg), .int (xs (x4 + (2 : Int32)).toNatClampNeg), .ref (ρ 41 0)] [] wr_bill (tL_bill E.2.1 hl9 (xs (x4 + (1 : Int32)).toNatClampNeg) (xs (x4 + (2 : Int32)).toNatClampNeg) A hVC e_3) (Nat.le_of_ble_eq_true rfl) (Nat.le_of_ble_eq_true rfl) rfl (Nat.le_of_ble_eq_true rfl) dL_law_1256 rfl ⟨by omega, by omega⟩ rfl (fun ρ1 V1 hE9 hVC9 => ?_)
  rw [← (hE9 9 0 (vs9 hVC)).2, ← (hE9 10 0 (vs10 hVC)).2, ← (hE9 41 0 (vs41 hVC)).2]
  exact key ρ1 V1 hE9 hVC9
set_option maxRecDepth 20000 in
theorem wL_case19 {E : eU} {G : gU} {ρ0 ρ : Nat → Nat → Nat} {V0 V : Nat → Nat → Prop} {b L k1 k2 : Nat} {xs : Nat → Int32} {x4 : Int32} {A Z A' Z' : sM} (hC : CX E G cL_law 8 RL (some .boolean) 1312 601024 7293034) (hl9 : E.2.1.stackTraces = false) (hS : SC E G b L xs) (hVC : VC V) (hE : Ext ρ0 V0 ρ V) (hkk : k1 + 90 ≤ 601024 ∧ k2 + 3000 ≤ 7293034) (hk : ∀ ρ' V' j1 j2, Ext ρ0 V0 ρ' V' → VC V' → (j1 ≤ k1 + 90 ∧ j2 ≤ k2 + 3000) → ∀ {M : sM}, M = J A' Z' → WA E G ρ' V' j1 j2 M 2681 [(0, .ref b), (1, .ref (ρ' 9 0)), (2, .ref (ρ' 10 0)), (3, .ref (ρ' 41 0)), (4, .int x4)] []) (h : fL_case19 L xs x4 A Z = some (A', Z')) : WA E G ρ V k1 k2 (J A Z) 1309 [(0, .ref b), (1, .ref (ρ 9 0)), (2, .ref (ρ 10 0)), (3, .ref (ρ 41 0)), (4, .int x4)] [] := by
  obtain ⟨hkk1, hkk2⟩ := hkk
  rw [fL_case19] at h
  refine wa_aload_n 1310 1 hC dL_law_1309 rfl 1 rfl rfl ?_
  refine wa_aload_n 1311 3 hC dL_law_1310 rfl 3 rfl rfl ?_
  obtain ⟨r_2, A_1, e_3, h⟩ := bd2_some h
  have key : ∀ (ρ1 : Nat → Nat → Nat) (V1 : Nat → Nat → Prop), Ext ρ V ρ1 V1 → VC V1 → WA E G ρ1 V1 (k1 + 90) (k2 + 3000) (J A_1 Z) 1314 [(0, .ref b), (1, .ref (ρ1 9 0)), (2, .ref (ρ1 10 0)), (3, .ref (ρ1 41 0)), (4, .int x4)] [.int r_2] := by
    intro ρ V hE0 hVC
    have hE := Ext.trans hE hE0
    refine wa_istore (lv' := [(5, .int r_2), (0, .ref b), (1, .ref (ρ 9 0)), (2, .ref (ρ 10 0)), (3, .ref (ρ 41 0)), (4, .int x4)]) 1316 5 hC dL_law_1314 rfl (by decide) rfl rfl ?_
    refine wa_aload_n 1317 2 hC dL_law_1316 rfl 3 rfl rfl ?_
    obtain ⟨r_6, Z_5, e_4, h⟩ := bd2_some h
    refine wa_callVl 1320 hC [] [] knX10_endMonth mvL_215 (tX10_endMonth E.2.1 Z hVC e_4) (vs10 hVC) kc10 (Nat.le_of_ble_eq_true rfl) (Nat.le_of_ble_eq_true rfl) rfl (Nat.le_of_ble_eq_true rfl) dL_law_1317 rfl ⟨by omega, by omega⟩ rfl ?_
    refine wa_lstore (lv' := [(6, .long r_6), (5, .int r_2), (0, .ref b), (1, .ref (ρ 9 0)), (2, .ref (ρ 10 0)), (3, .ref (ρ 41 0)), (4, .int x4)]) 1322 6 hC dL_law_1320 rfl (by decide) rfl rfl ?_
    refine wa_aload_n 1323 2 hC dL_law_1322 rfl 4 rfl rfl ?_
    obtain ⟨r_8, e_7, h⟩ := bd_some h
    refine wa_callVi 1326 hC [] [] knX10_thrown mvL_148 (tX10_thrown E.2.1 Z_5 hVC e_7) (vs10 hVC) kc10 (Nat.le_of_ble_eq_true rfl) (Nat.le_of_ble_eq_true rfl) rfl (Nat.le_of_ble_eq_true rfl) dL_law_1323 rfl ⟨by omega, by omega⟩ rfl ?_
    refine wa_iload 1328 5 hC dL_law_1326 1 rfl rfl ?_
    refine wa_icmp_eq 1331 1333 hC dL_law_1328 rfl rfl h (fun h => ?_) (fun h => ?_)
    · refine wa_iload 1335 5 hC dL_law_1333 1 rfl rfl ?_
      refine wa_if_ne 1338 1349 hC dL_law_1335 rfl rfl h (fun h => ?_) (fun h => ?_)
      · refine wa_goto 2681 hC dL_law_1349 rfl ?_
        refine wa_pick [2, 3, 4, 5, 6] rfl ?_
        exact hk ρ V (k1 + 90) (k2 + 3000) hE hVC ⟨by omega, by omega⟩ (show (J A_1 Z_5) = _ by rw [sm1 h, sm2 h])
      · refine wa_aload_n 1339 3 hC dL_law_1338 rfl 5 rfl rfl ?_
        refine wa_iconst 1340 hC dL_law_1339 kc_0 rfl ?_
        refine wa_laldc 1341 hC (vs41 hVC) ar41 rfl (by decide) dL_law_1340 rfl ?_
        refine wa_lload 1343 6 hC dL_law_1341 0 rfl rfl ?_
        refine wa_lcmp 1344 hC dL_law_1343 rfl ?_
        refine wa_lcmp_eq 1347 1349 hC dL_law_1344 rfl rfl h (fun h => ?_) (fun h => ?_)
        · refine wa_goto 2681 hC dL_law_1349 rfl ?_
          refine wa_pick [2, 3, 4, 5, 6] rfl ?_
          exact hk ρ V (k1 + 90) (k2 + 3000) hE hVC ⟨by omega, by omega⟩ (show (J A_1 Z_5) = _ by rw [sm1 h, sm2 h])
        · cases h
    · cases h
  refine wl_wrap 1314 hC [.ref (ρ 9 0), .ref (ρ 41 0)] [] wr_endMonth (tL_endMonth E.2.1 hl9 A hVC e_3) (Nat.le_of_ble_eq_true rfl) (Nat.le_of_ble_eq_true rfl) rfl (Nat.le_of_ble_eq_true rfl) dL_law_1311 rfl ⟨by omega, by omega⟩ rfl (fun ρ1 V1 hE9 hVC9 => ?_)
  rw [← (hE9 9 0 (vs9 hVC)).2, ← (hE9 10 0 (vs10 hVC)).2, ← (hE9 41 0 (vs41 hVC)).2]
  exact key ρ1 V1 hE9 hVC9
set_option maxRecDepth 20000 in
theorem wL_case20 {E : eU} {G : gU} {ρ0 ρ : Nat → Nat → Nat} {V0 V : Nat → Nat → Prop} {b L k1 k2 : Nat} {xs : Nat → Int32} {x4 : Int32} {A Z A' Z' : sM} (hC : CX E G cL_law 8 RL (some .boolean) 1312 601024 7293034) (hl9 : E.2.1.stackTraces = false) (hS : SC E G b L xs) (hVC : VC V) (hE : Ext ρ0 V0 ρ V) (hkk : k1 + 90 ≤ 601024 ∧ k2 + 3000 ≤ 7293034) (hk : ∀ ρ' V' j1 j2, Ext ρ0 V0 ρ' V' → VC V' → (j1 ≤ k1 + 90 ∧ j2 ≤ k2 + 3000) → ∀ {M : sM}, M = J A' Z' → WA E G ρ' V' j1 j2 M 2681 [(0, .ref b), (1, .ref (ρ' 9 0)), (2, .ref (ρ' 10 0)), (3, .ref (ρ' 41 0)), (4, .int x4)] []) (h : fL_case20 L xs x4 A Z = some (A', Z')) : WA E G ρ V k1 k2 (J A Z) 1352 [(0, .ref b), (1, .ref (ρ 9 0)), (2, .ref (ρ 10 0)), (3, .ref (ρ 41 0)), (4, .int x4)] [] := by
  obtain ⟨hkk1, hkk2⟩ := hkk
  rw [fL_case20] at h
  refine wa_aload_n 1353 1 hC dL_law_1352 rfl 1 rfl rfl ?_
  obtain ⟨r_2, e_1, h⟩ := bd_some h
  refine wa_callVi 1356 hC [] [] knX9_month mvL_216 (tX9_month E.2.1 A hVC e_1) (vs9 hVC) kc9 (Nat.le_of_ble_eq_true rfl) (Nat.le_of_ble_eq_true rfl) rfl (Nat.le_of_ble_eq_true rfl) dL_law_1353 rfl ⟨by omega, by omega⟩ rfl ?_
  refine wa_aload_n 1357 2 hC dL_law_1356 rfl 2 rfl rfl ?_
  obtain ⟨r_5, Z_4, e_3, h⟩ := bd2_some h
  refine wa_callVi 1360 hC [] [.int r_2] knX10_month mvL_219 (tX10_month E.2.1 Z hVC e_3) (vs10 hVC) kc10 (Nat.le_of_ble_eq_true rfl) (Nat.le_of_ble_eq_true rfl) rfl (Nat.le_of_ble_eq_true rfl) dL_law_1357 rfl ⟨by omega, by omega⟩ rfl ?_
  refine wa_icmp_eq 1363 2681 hC dL_law_1360 rfl rfl h (fun h => ?_) (fun h => ?_)
  · refine wa_pick [0, 1, 2, 3, 4] rfl ?_
    exact hk ρ V k1 k2 hE hVC ⟨by omega, by omega⟩ (show (J A Z_4) = _ by rw [sm1 h, sm2 h])
  · cases h
set_option maxRecDepth 20000 in
theorem wL_case21 {E : eU} {G : gU} {ρ0 ρ : Nat → Nat → Nat} {V0 V : Nat → Nat → Prop} {b L k1 k2 : Nat} {xs : Nat → Int32} {x4 : Int32} {A Z A' Z' : sM} (hC : CX E G cL_law 8 RL (some .boolean) 1312 601024 7293034) (hl9 : E.2.1.stackTraces = false) (hS : SC E G b L xs) (hVC : VC V) (hE : Ext ρ0 V0 ρ V) (hkk : k1 + 90 ≤ 601024 ∧ k2 + 3000 ≤ 7293034) (hk : ∀ ρ' V' j1 j2, Ext ρ0 V0 ρ' V' → VC V' → (j1 ≤ k1 + 90 ∧ j2 ≤ k2 + 3000) → ∀ {M : sM}, M = J A' Z' → WA E G ρ' V' j1 j2 M 2681 [(0, .ref b), (1, .ref (ρ' 9 0)), (2, .ref (ρ' 10 0)), (3, .ref (ρ' 41 0)), (4, .int x4)] []) (h : fL_case21 L xs x4 A Z = some (A', Z')) : WA E G ρ V k1 k2 (J A Z) 1365 [(0, .ref b), (1, .ref (ρ 9 0)), (2, .ref (ρ 10 0)), (3, .ref (ρ 41 0)), (4, .int x4)] [] := by
  obtain ⟨hkk1, hkk2⟩ := hkk
  rw [fL_case21] at h
  refine wa_aload_n 1366 1 hC dL_law_1365 rfl 1 rfl rfl ?_
  refine wa_aload_n 1367 0 hC dL_law_1366 rfl 0 rfl rfl ?_
  refine wa_iload 1369 4 hC dL_law_1367 4 rfl rfl ?_
  refine wa_iconst 1370 hC dL_law_1369 kc_1 rfl ?_
  refine wa_iadd 1371 hC dL_law_1370 rfl ?_
  obtain ⟨g_12, h⟩ := gd_some h
  refine wl_sld 1372 hC hS g_12 dL_law_1371 rfl ?_
  refine wa_aload_n 1373 0 hC dL_law_1372 rfl 0 rfl rfl ?_
  refine wa_iload 1375 4 hC dL_law_1373 4 rfl rfl ?_
  refine wa_iconst 1376 hC dL_law_1375 kc_2 rfl ?_
  refine wa_iadd 1377 hC dL_law_1376 rfl ?_
  obtain ⟨g_11, h⟩ := gd_some h
  refine wl_sld 1378 hC hS g_11 dL_law_1377 rfl ?_
  refine wa_aload_n 1379 3 hC dL_law_1378 rfl 3 rfl rfl ?_
  obtain ⟨r_2, A_1, e_3, h⟩ := bd2_some h
  have key : ∀ (ρ1 : Nat → Nat → Nat) (V1 : Nat → Nat → Prop), Ext ρ V ρ1 V1 → VC V1 → WA E G ρ1 V1 (k1 + 90) (k2 + 3000) (J A_1 Z) 1382 [(0, .ref b), (1, .ref (ρ1 9 0)), (2, .ref (ρ1 10 0)), (3, .ref (ρ1 41 0)), (4, .int x4)] [.int r_2] := by
    intro ρ V hE0 hVC
    have hE := Ext.trans hE hE0
    refine wa_istore (lv' := [(5, .int r_2), (0, .ref b), (1, .ref (ρ 9 0)), (2, .ref (ρ 10 0)), (3, .ref (ρ 41 0)), (4, .int x4)]) 1384 5 hC dL_law_1382 rfl (by decide) rfl rfl ?_
    refine wa_aload_n 1385 2 hC dL_law_1384 rfl 3 rfl rfl ?_
    refine wa_aload_n 1386 0 hC dL_law_1385 rfl 1 rfl rfl ?_
    refine wa_iload 1388 4 hC dL_law_1386 5 rfl rfl ?_
    refine wa_iconst 1389 hC dL_law_1388 kc_1 rfl ?_
    refine wa_iadd 1390 hC dL_law_1389 rfl ?_
    obtain ⟨g_10, h⟩ := gd_some h
    refine wl_sld 1391 hC hS g_10 dL_law_1390 rfl ?_
    refine wa_aload_n 1392 0 hC dL_law_1391 rfl 1 rfl rfl ?_
    refine wa_iload 1394 4 hC dL_law_1392 5 rfl rfl ?_
    refine wa_iconst 1395 hC dL_law_1394 kc_2 rfl ?_
    refine wa_iadd 1396 hC dL_law_1395 rfl ?_
    obtain ⟨g_9, h⟩ := gd_some h
    refine wl_sld 1397 hC hS g_9 dL_law_1396 rfl ?_
    obtain ⟨r_6, Z_5, e_4, h⟩ := bd2_some h
    refine wa_callVi 1400 hC [.int (xs (x4 + (1 : Int32)).toNatClampNeg), .int (xs (x4 + (2 : Int32)).toNatClampNeg)] [] knX10_generation mvL_222 (tX10_generation E.2.1 (xs (x4 + (1 : Int32)).toNatClampNeg) (xs (x4 + (2 : Int32)).toNatClampNeg) Z hVC e_4) (vs10 hVC) kc10 (Nat.le_of_ble_eq_true rfl) (Nat.le_of_ble_eq_true rfl) rfl (Nat.le_of_ble_eq_true rfl) dL_law_1397 rfl ⟨by omega, by omega⟩ rfl ?_
    refine wa_istore (lv' := [(6, .int r_6), (5, .int r_2), (0, .ref b), (1, .ref (ρ 9 0)), (2, .ref (ρ 10 0)), (3, .ref (ρ 41 0)), (4, .int x4)]) 1402 6 hC dL_law_1400 rfl (by decide) rfl rfl ?_
    refine wa_aload_n 1403 2 hC dL_law_1402 rfl 4 rfl rfl ?_
    obtain ⟨r_8, e_7, h⟩ := bd_some h
    refine wa_callVi 1406 hC [] [] knX10_thrown mvL_148 (tX10_thrown E.2.1 Z_5 hVC e_7) (vs10 hVC) kc10 (Nat.le_of_ble_eq_true rfl) (Nat.le_of_ble_eq_true rfl) rfl (Nat.le_of_ble_eq_true rfl) dL_law_1403 rfl ⟨by omega, by omega⟩ rfl ?_
    refine wa_iload 1408 5 hC dL_law_1406 1 rfl rfl ?_
    refine wa_icmp_eq 1411 1413 hC dL_law_1408 rfl rfl h (fun h => ?_) (fun h => ?_)
    · refine wa_iload 1415 5 hC dL_law_1413 1 rfl rfl ?_
      refine wa_if_ne 1418 1430 hC dL_law_1415 rfl rfl h (fun h => ?_) (fun h => ?_)
      · refine wa_goto 2681 hC dL_law_1430 rfl ?_
        refine wa_pick [2, 3, 4, 5, 6] rfl ?_
        exact hk ρ V (k1 + 90) (k2 + 3000) hE hVC ⟨by omega, by omega⟩ (show (J A_1 Z_5) = _ by rw [sm1 h, sm2 h])
      · refine wa_aload_n 1419 3 hC dL_law_1418 rfl 5 rfl rfl ?_
        refine wa_iconst 1420 hC dL_law_1419 kc_0 rfl ?_
        refine wa_laldc 1421 hC (vs41 hVC) ar41 rfl (by decide) dL_law_1420 rfl ?_
        refine wa_iload 1423 6 hC dL_law_1421 0 rfl rfl ?_
        refine wa_i2l 1424 hC dL_law_1423 rfl ?_
        refine wa_lcmp 1425 hC dL_law_1424 rfl ?_
        refine wa_lcmp_eq 1428 1430 hC dL_law_1425 rfl rfl h (fun h => ?_) (fun h => ?_)
        · refine wa_goto 2681 hC dL_law_1430 rfl ?_
          refine wa_pick [2, 3, 4, 5, 6] rfl ?_
          exact hk ρ V (k1 + 90) (k2 + 3000) hE hVC ⟨by omega, by omega⟩ (show (J A_1 Z_5) = _ by rw [sm1 h, sm2 h])
        · cases h
    · cases h
  refine wl_wrap 1382 hC [.ref (ρ 9 0), .int (xs (x4 + (1 : Int32)).toNatClampNeg), .int (xs (x4 + (2 : Int32)).toNatClampNeg), .ref (ρ 41 0)] [] wr_generation (tL_generation E.2.1 hl9 (xs (x4 + (1 : Int32)).toNatClampNeg) (xs (x4 + (2 : Int32)).toNatClampNeg) A hVC e_3) (Nat.le_of_ble_eq_true rfl) (Nat.le_of_ble_eq_true rfl) rfl (Nat.le_of_ble_eq_true rfl) dL_law_1379 rfl ⟨by omega, by omega⟩ rfl (fun ρ1 V1 hE9 hVC9 => ?_)
  rw [← (hE9 9 0 (vs9 hVC)).2, ← (hE9 10 0 (vs10 hVC)).2, ← (hE9 41 0 (vs41 hVC)).2]
  exact key ρ1 V1 hE9 hVC9
set_option maxRecDepth 20000 in
theorem wL_case22 {E : eU} {G : gU} {ρ0 ρ : Nat → Nat → Nat} {V0 V : Nat → Nat → Prop} {b L k1 k2 : Nat} {xs : Nat → Int32} {x4 : Int32} {A Z A' Z' : sM} (hC : CX E G cL_law 8 RL (some .boolean) 1312 601024 7293034) (hl9 : E.2.1.stackTraces = false) (hS : SC E G b L xs) (hVC : VC V) (hE : Ext ρ0 V0 ρ V) (hkk : k1 + 90 ≤ 601024 ∧ k2 + 3000 ≤ 7293034) (hk : ∀ ρ' V' j1 j2, Ext ρ0 V0 ρ' V' → VC V' → (j1 ≤ k1 + 90 ∧ j2 ≤ k2 + 3000) → ∀ {M : sM}, M = J A' Z' → WA E G ρ' V' j1 j2 M 2681 [(0, .ref b), (1, .ref (ρ' 9 0)), (2, .ref (ρ' 10 0)), (3, .ref (ρ' 41 0)), (4, .int x4)] []) (h : fL_case22 L xs x4 A Z = some (A', Z')) : WA E G ρ V k1 k2 (J A Z) 1433 [(0, .ref b), (1, .ref (ρ 9 0)), (2, .ref (ρ 10 0)), (3, .ref (ρ 41 0)), (4, .int x4)] [] := by
  obtain ⟨hkk1, hkk2⟩ := hkk
  rw [fL_case22] at h
  refine wa_aload_n 1434 1 hC dL_law_1433 rfl 1 rfl rfl ?_
  refine wa_aload_n 1435 0 hC dL_law_1434 rfl 0 rfl rfl ?_
  refine wa_iload 1437 4 hC dL_law_1435 4 rfl rfl ?_
  refine wa_iconst 1438 hC dL_law_1437 kc_1 rfl ?_
  refine wa_iadd 1439 hC dL_law_1438 rfl ?_
  obtain ⟨g_12, h⟩ := gd_some h
  refine wl_sld 1440 hC hS g_12 dL_law_1439 rfl ?_
  refine wa_aload_n 1441 0 hC dL_law_1440 rfl 0 rfl rfl ?_
  refine wa_iload 1443 4 hC dL_law_1441 4 rfl rfl ?_
  refine wa_iconst 1444 hC dL_law_1443 kc_2 rfl ?_
  refine wa_iadd 1445 hC dL_law_1444 rfl ?_
  obtain ⟨g_11, h⟩ := gd_some h
  refine wl_sld 1446 hC hS g_11 dL_law_1445 rfl ?_
  refine wa_aload_n 1447 3 hC dL_law_1446 rfl 3 rfl rfl ?_
  obtain ⟨r_2, A_1, e_3, h⟩ := bd2_some h
  have key : ∀ (ρ1 : Nat → Nat → Nat) (V1 : Nat → Nat → Prop), Ext ρ V ρ1 V1 → VC V1 → WA E G ρ1 V1 (k1 + 90) (k2 + 3000) (J A_1 Z) 1450 [(0, .ref b), (1, .ref (ρ1 9 0)), (2, .ref (ρ1 10 0)), (3, .ref (ρ1 41 0)), (4, .int x4)] [.int r_2] := by
    intro ρ V hE0 hVC
    have hE := Ext.trans hE hE0
    refine wa_istore (lv' := [(5, .int r_2), (0, .ref b), (1, .ref (ρ 9 0)), (2, .ref (ρ 10 0)), (3, .ref (ρ 41 0)), (4, .int x4)]) 1452 5 hC dL_law_1450 rfl (by decide) rfl rfl ?_
    refine wa_aload_n 1453 2 hC dL_law_1452 rfl 3 rfl rfl ?_
    refine wa_aload_n 1454 0 hC dL_law_1453 rfl 1 rfl rfl ?_
    refine wa_iload 1456 4 hC dL_law_1454 5 rfl rfl ?_
    refine wa_iconst 1457 hC dL_law_1456 kc_1 rfl ?_
    refine wa_iadd 1458 hC dL_law_1457 rfl ?_
    obtain ⟨g_10, h⟩ := gd_some h
    refine wl_sld 1459 hC hS g_10 dL_law_1458 rfl ?_
    refine wa_aload_n 1460 0 hC dL_law_1459 rfl 1 rfl rfl ?_
    refine wa_iload 1462 4 hC dL_law_1460 5 rfl rfl ?_
    refine wa_iconst 1463 hC dL_law_1462 kc_2 rfl ?_
    refine wa_iadd 1464 hC dL_law_1463 rfl ?_
    obtain ⟨g_9, h⟩ := gd_some h
    refine wl_sld 1465 hC hS g_9 dL_law_1464 rfl ?_
    obtain ⟨r_6, Z_5, e_4, h⟩ := bd2_some h
    refine wa_callVi 1468 hC [.int (xs (x4 + (1 : Int32)).toNatClampNeg), .int (xs (x4 + (2 : Int32)).toNatClampNeg)] [] knX10_shareDays mvL_225 (tX10_shareDays E.2.1 (xs (x4 + (1 : Int32)).toNatClampNeg) (xs (x4 + (2 : Int32)).toNatClampNeg) Z hVC e_4) (vs10 hVC) kc10 (Nat.le_of_ble_eq_true rfl) (Nat.le_of_ble_eq_true rfl) rfl (Nat.le_of_ble_eq_true rfl) dL_law_1465 rfl ⟨by omega, by omega⟩ rfl ?_
    refine wa_istore (lv' := [(6, .int r_6), (5, .int r_2), (0, .ref b), (1, .ref (ρ 9 0)), (2, .ref (ρ 10 0)), (3, .ref (ρ 41 0)), (4, .int x4)]) 1470 6 hC dL_law_1468 rfl (by decide) rfl rfl ?_
    refine wa_aload_n 1471 2 hC dL_law_1470 rfl 4 rfl rfl ?_
    obtain ⟨r_8, e_7, h⟩ := bd_some h
    refine wa_callVi 1474 hC [] [] knX10_thrown mvL_148 (tX10_thrown E.2.1 Z_5 hVC e_7) (vs10 hVC) kc10 (Nat.le_of_ble_eq_true rfl) (Nat.le_of_ble_eq_true rfl) rfl (Nat.le_of_ble_eq_true rfl) dL_law_1471 rfl ⟨by omega, by omega⟩ rfl ?_
    refine wa_iload 1476 5 hC dL_law_1474 1 rfl rfl ?_
    refine wa_icmp_eq 1479 1481 hC dL_law_1476 rfl rfl h (fun h => ?_) (fun h => ?_)
    · refine wa_iload 1483 5 hC dL_law_1481 1 rfl rfl ?_
      refine wa_if_ne 1486 1498 hC dL_law_1483 rfl rfl h (fun h => ?_) (fun h => ?_)
      · refine wa_goto 2681 hC dL_law_1498 rfl ?_
        refine wa_pick [2, 3, 4, 5, 6] rfl ?_
        exact hk ρ V (k1 + 90) (k2 + 3000) hE hVC ⟨by omega, by omega⟩ (show (J A_1 Z_5) = _ by rw [sm1 h, sm2 h])
      · refine wa_aload_n 1487 3 hC dL_law_1486 rfl 5 rfl rfl ?_
        refine wa_iconst 1488 hC dL_law_1487 kc_0 rfl ?_
        refine wa_laldc 1489 hC (vs41 hVC) ar41 rfl (by decide) dL_law_1488 rfl ?_
        refine wa_iload 1491 6 hC dL_law_1489 0 rfl rfl ?_
        refine wa_i2l 1492 hC dL_law_1491 rfl ?_
        refine wa_lcmp 1493 hC dL_law_1492 rfl ?_
        refine wa_lcmp_eq 1496 1498 hC dL_law_1493 rfl rfl h (fun h => ?_) (fun h => ?_)
        · refine wa_goto 2681 hC dL_law_1498 rfl ?_
          refine wa_pick [2, 3, 4, 5, 6] rfl ?_
          exact hk ρ V (k1 + 90) (k2 + 3000) hE hVC ⟨by omega, by omega⟩ (show (J A_1 Z_5) = _ by rw [sm1 h, sm2 h])
        · cases h
    · cases h
  refine wl_wrap 1450 hC [.ref (ρ 9 0), .int (xs (x4 + (1 : Int32)).toNatClampNeg), .int (xs (x4 + (2 : Int32)).toNatClampNeg), .ref (ρ 41 0)] [] wr_shareDays (tL_shareDays E.2.1 hl9 (xs (x4 + (1 : Int32)).toNatClampNeg) (xs (x4 + (2 : Int32)).toNatClampNeg) A hVC e_3) (Nat.le_of_ble_eq_true rfl) (Nat.le_of_ble_eq_true rfl) rfl (Nat.le_of_ble_eq_true rfl) dL_law_1447 rfl ⟨by omega, by omega⟩ rfl (fun ρ1 V1 hE9 hVC9 => ?_)
  rw [← (hE9 9 0 (vs9 hVC)).2, ← (hE9 10 0 (vs10 hVC)).2, ← (hE9 41 0 (vs41 hVC)).2]
  exact key ρ1 V1 hE9 hVC9
set_option maxRecDepth 20000 in
theorem wL_case23 {E : eU} {G : gU} {ρ0 ρ : Nat → Nat → Nat} {V0 V : Nat → Nat → Prop} {b L k1 k2 : Nat} {xs : Nat → Int32} {x4 : Int32} {A Z A' Z' : sM} (hC : CX E G cL_law 8 RL (some .boolean) 1312 601024 7293034) (hl9 : E.2.1.stackTraces = false) (hS : SC E G b L xs) (hVC : VC V) (hE : Ext ρ0 V0 ρ V) (hkk : k1 + 90 ≤ 601024 ∧ k2 + 3000 ≤ 7293034) (hk : ∀ ρ' V' j1 j2, Ext ρ0 V0 ρ' V' → VC V' → (j1 ≤ k1 + 90 ∧ j2 ≤ k2 + 3000) → ∀ {M : sM}, M = J A' Z' → WA E G ρ' V' j1 j2 M 2681 [(0, .ref b), (1, .ref (ρ' 9 0)), (2, .ref (ρ' 10 0)), (3, .ref (ρ' 41 0)), (4, .int x4)] []) (h : fL_case23 L xs x4 A Z = some (A', Z')) : WA E G ρ V k1 k2 (J A Z) 1501 [(0, .ref b), (1, .ref (ρ 9 0)), (2, .ref (ρ 10 0)), (3, .ref (ρ 41 0)), (4, .int x4)] [] := by
  obtain ⟨hkk1, hkk2⟩ := hkk
  rw [fL_case23] at h
  refine wa_aload_n 1502 1 hC dL_law_1501 rfl 1 rfl rfl ?_
  refine wa_aload_n 1503 0 hC dL_law_1502 rfl 0 rfl rfl ?_
  refine wa_iload 1505 4 hC dL_law_1503 4 rfl rfl ?_
  refine wa_iconst 1506 hC dL_law_1505 kc_1 rfl ?_
  refine wa_iadd 1507 hC dL_law_1506 rfl ?_
  obtain ⟨g_10, h⟩ := gd_some h
  refine wl_sld 1508 hC hS g_10 dL_law_1507 rfl ?_
  refine wa_aload_n 1509 3 hC dL_law_1508 rfl 3 rfl rfl ?_
  obtain ⟨r_2, A_1, e_3, h⟩ := bd2_some h
  have key : ∀ (ρ1 : Nat → Nat → Nat) (V1 : Nat → Nat → Prop), Ext ρ V ρ1 V1 → VC V1 → WA E G ρ1 V1 (k1 + 90) (k2 + 3000) (J A_1 Z) 1512 [(0, .ref b), (1, .ref (ρ1 9 0)), (2, .ref (ρ1 10 0)), (3, .ref (ρ1 41 0)), (4, .int x4)] [.int r_2] := by
    intro ρ V hE0 hVC
    have hE := Ext.trans hE hE0
    refine wa_istore (lv' := [(5, .int r_2), (0, .ref b), (1, .ref (ρ 9 0)), (2, .ref (ρ 10 0)), (3, .ref (ρ 41 0)), (4, .int x4)]) 1514 5 hC dL_law_1512 rfl (by decide) rfl rfl ?_
    refine wa_aload_n 1515 2 hC dL_law_1514 rfl 3 rfl rfl ?_
    refine wa_aload_n 1516 0 hC dL_law_1515 rfl 1 rfl rfl ?_
    refine wa_iload 1518 4 hC dL_law_1516 5 rfl rfl ?_
    refine wa_iconst 1519 hC dL_law_1518 kc_1 rfl ?_
    refine wa_iadd 1520 hC dL_law_1519 rfl ?_
    obtain ⟨g_9, h⟩ := gd_some h
    refine wl_sld 1521 hC hS g_9 dL_law_1520 rfl ?_
    obtain ⟨r_6, Z_5, e_4, h⟩ := bd2_some h
    refine wa_callVl 1524 hC [.int (xs (x4 + (1 : Int32)).toNatClampNeg)] [] knX10_projectedPart mvL_228 (tX10_projectedPart E.2.1 (xs (x4 + (1 : Int32)).toNatClampNeg) Z hVC e_4) (vs10 hVC) kc10 (Nat.le_of_ble_eq_true rfl) (Nat.le_of_ble_eq_true rfl) rfl (Nat.le_of_ble_eq_true rfl) dL_law_1521 rfl ⟨by omega, by omega⟩ rfl ?_
    refine wa_lstore (lv' := [(6, .long r_6), (5, .int r_2), (0, .ref b), (1, .ref (ρ 9 0)), (2, .ref (ρ 10 0)), (3, .ref (ρ 41 0)), (4, .int x4)]) 1526 6 hC dL_law_1524 rfl (by decide) rfl rfl ?_
    refine wa_aload_n 1527 2 hC dL_law_1526 rfl 4 rfl rfl ?_
    obtain ⟨r_8, e_7, h⟩ := bd_some h
    refine wa_callVi 1530 hC [] [] knX10_thrown mvL_148 (tX10_thrown E.2.1 Z_5 hVC e_7) (vs10 hVC) kc10 (Nat.le_of_ble_eq_true rfl) (Nat.le_of_ble_eq_true rfl) rfl (Nat.le_of_ble_eq_true rfl) dL_law_1527 rfl ⟨by omega, by omega⟩ rfl ?_
    refine wa_iload 1532 5 hC dL_law_1530 1 rfl rfl ?_
    refine wa_icmp_eq 1535 1537 hC dL_law_1532 rfl rfl h (fun h => ?_) (fun h => ?_)
    · refine wa_iload 1539 5 hC dL_law_1537 1 rfl rfl ?_
      refine wa_if_ne 1542 1553 hC dL_law_1539 rfl rfl h (fun h => ?_) (fun h => ?_)
      · refine wa_goto 2681 hC dL_law_1553 rfl ?_
        refine wa_pick [2, 3, 4, 5, 6] rfl ?_
        exact hk ρ V (k1 + 90) (k2 + 3000) hE hVC ⟨by omega, by omega⟩ (show (J A_1 Z_5) = _ by rw [sm1 h, sm2 h])
      · refine wa_aload_n 1543 3 hC dL_law_1542 rfl 5 rfl rfl ?_
        refine wa_iconst 1544 hC dL_law_1543 kc_0 rfl ?_
        refine wa_laldc 1545 hC (vs41 hVC) ar41 rfl (by decide) dL_law_1544 rfl ?_
        refine wa_lload 1547 6 hC dL_law_1545 0 rfl rfl ?_
        refine wa_lcmp 1548 hC dL_law_1547 rfl ?_
        refine wa_lcmp_eq 1551 1553 hC dL_law_1548 rfl rfl h (fun h => ?_) (fun h => ?_)
        · refine wa_goto 2681 hC dL_law_1553 rfl ?_
          refine wa_pick [2, 3, 4, 5, 6] rfl ?_
          exact hk ρ V (k1 + 90) (k2 + 3000) hE hVC ⟨by omega, by omega⟩ (show (J A_1 Z_5) = _ by rw [sm1 h, sm2 h])
        · cases h
    · cases h
  refine wl_wrap 1512 hC [.ref (ρ 9 0), .int (xs (x4 + (1 : Int32)).toNatClampNeg), .ref (ρ 41 0)] [] wr_projectedPart (tL_projectedPart E.2.1 hl9 (xs (x4 + (1 : Int32)).toNatClampNeg) A hVC e_3) (Nat.le_of_ble_eq_true rfl) (Nat.le_of_ble_eq_true rfl) rfl (Nat.le_of_ble_eq_true rfl) dL_law_1509 rfl ⟨by omega, by omega⟩ rfl (fun ρ1 V1 hE9 hVC9 => ?_)
  rw [← (hE9 9 0 (vs9 hVC)).2, ← (hE9 10 0 (vs10 hVC)).2, ← (hE9 41 0 (vs41 hVC)).2]
  exact key ρ1 V1 hE9 hVC9
set_option maxRecDepth 20000 in
theorem wL_case24 {E : eU} {G : gU} {ρ0 ρ : Nat → Nat → Nat} {V0 V : Nat → Nat → Prop} {b L k1 k2 : Nat} {xs : Nat → Int32} {x4 : Int32} {A Z A' Z' : sM} (hC : CX E G cL_law 8 RL (some .boolean) 1312 601024 7293034) (hl9 : E.2.1.stackTraces = false) (hS : SC E G b L xs) (hVC : VC V) (hE : Ext ρ0 V0 ρ V) (hkk : k1 + 90 ≤ 601024 ∧ k2 + 3000 ≤ 7293034) (hk : ∀ ρ' V' j1 j2, Ext ρ0 V0 ρ' V' → VC V' → (j1 ≤ k1 + 90 ∧ j2 ≤ k2 + 3000) → ∀ {M : sM}, M = J A' Z' → WA E G ρ' V' j1 j2 M 2681 [(0, .ref b), (1, .ref (ρ' 9 0)), (2, .ref (ρ' 10 0)), (3, .ref (ρ' 41 0)), (4, .int x4)] []) (h : fL_case24 L xs x4 A Z = some (A', Z')) : WA E G ρ V k1 k2 (J A Z) 1556 [(0, .ref b), (1, .ref (ρ 9 0)), (2, .ref (ρ 10 0)), (3, .ref (ρ 41 0)), (4, .int x4)] [] := by
  obtain ⟨hkk1, hkk2⟩ := hkk
  rw [fL_case24] at h
  refine wa_aload_n 1557 1 hC dL_law_1556 rfl 1 rfl rfl ?_
  refine wa_aload_n 1558 0 hC dL_law_1557 rfl 0 rfl rfl ?_
  refine wa_iload 1560 4 hC dL_law_1558 4 rfl rfl ?_
  refine wa_iconst 1561 hC dL_law_1560 kc_1 rfl ?_
  refine wa_iadd 1562 hC dL_law_1561 rfl ?_
  obtain ⟨g_10, h⟩ := gd_some h
  refine wl_sld 1563 hC hS g_10 dL_law_1562 rfl ?_
  refine wa_aload_n 1564 3 hC dL_law_1563 rfl 3 rfl rfl ?_
  obtain ⟨r_2, A_1, e_3, h⟩ := bd2_some h
  have key : ∀ (ρ1 : Nat → Nat → Nat) (V1 : Nat → Nat → Prop), Ext ρ V ρ1 V1 → VC V1 → WA E G ρ1 V1 (k1 + 90) (k2 + 3000) (J A_1 Z) 1567 [(0, .ref b), (1, .ref (ρ1 9 0)), (2, .ref (ρ1 10 0)), (3, .ref (ρ1 41 0)), (4, .int x4)] [.int r_2] := by
    intro ρ V hE0 hVC
    have hE := Ext.trans hE hE0
    refine wa_istore (lv' := [(5, .int r_2), (0, .ref b), (1, .ref (ρ 9 0)), (2, .ref (ρ 10 0)), (3, .ref (ρ 41 0)), (4, .int x4)]) 1569 5 hC dL_law_1567 rfl (by decide) rfl rfl ?_
    refine wa_aload_n 1570 2 hC dL_law_1569 rfl 3 rfl rfl ?_
    refine wa_aload_n 1571 0 hC dL_law_1570 rfl 1 rfl rfl ?_
    refine wa_iload 1573 4 hC dL_law_1571 5 rfl rfl ?_
    refine wa_iconst 1574 hC dL_law_1573 kc_1 rfl ?_
    refine wa_iadd 1575 hC dL_law_1574 rfl ?_
    obtain ⟨g_9, h⟩ := gd_some h
    refine wl_sld 1576 hC hS g_9 dL_law_1575 rfl ?_
    obtain ⟨r_6, Z_5, e_4, h⟩ := bd2_some h
    refine wa_callVl 1579 hC [.int (xs (x4 + (1 : Int32)).toNatClampNeg)] [] knX10_projectedCredit mvL_231 (tX10_projectedCredit E.2.1 (xs (x4 + (1 : Int32)).toNatClampNeg) Z hVC e_4) (vs10 hVC) kc10 (Nat.le_of_ble_eq_true rfl) (Nat.le_of_ble_eq_true rfl) rfl (Nat.le_of_ble_eq_true rfl) dL_law_1576 rfl ⟨by omega, by omega⟩ rfl ?_
    refine wa_lstore (lv' := [(6, .long r_6), (5, .int r_2), (0, .ref b), (1, .ref (ρ 9 0)), (2, .ref (ρ 10 0)), (3, .ref (ρ 41 0)), (4, .int x4)]) 1581 6 hC dL_law_1579 rfl (by decide) rfl rfl ?_
    refine wa_aload_n 1582 2 hC dL_law_1581 rfl 4 rfl rfl ?_
    obtain ⟨r_8, e_7, h⟩ := bd_some h
    refine wa_callVi 1585 hC [] [] knX10_thrown mvL_148 (tX10_thrown E.2.1 Z_5 hVC e_7) (vs10 hVC) kc10 (Nat.le_of_ble_eq_true rfl) (Nat.le_of_ble_eq_true rfl) rfl (Nat.le_of_ble_eq_true rfl) dL_law_1582 rfl ⟨by omega, by omega⟩ rfl ?_
    refine wa_iload 1587 5 hC dL_law_1585 1 rfl rfl ?_
    refine wa_icmp_eq 1590 1592 hC dL_law_1587 rfl rfl h (fun h => ?_) (fun h => ?_)
    · refine wa_iload 1594 5 hC dL_law_1592 1 rfl rfl ?_
      refine wa_if_ne 1597 1608 hC dL_law_1594 rfl rfl h (fun h => ?_) (fun h => ?_)
      · refine wa_goto 2681 hC dL_law_1608 rfl ?_
        refine wa_pick [2, 3, 4, 5, 6] rfl ?_
        exact hk ρ V (k1 + 90) (k2 + 3000) hE hVC ⟨by omega, by omega⟩ (show (J A_1 Z_5) = _ by rw [sm1 h, sm2 h])
      · refine wa_aload_n 1598 3 hC dL_law_1597 rfl 5 rfl rfl ?_
        refine wa_iconst 1599 hC dL_law_1598 kc_0 rfl ?_
        refine wa_laldc 1600 hC (vs41 hVC) ar41 rfl (by decide) dL_law_1599 rfl ?_
        refine wa_lload 1602 6 hC dL_law_1600 0 rfl rfl ?_
        refine wa_lcmp 1603 hC dL_law_1602 rfl ?_
        refine wa_lcmp_eq 1606 1608 hC dL_law_1603 rfl rfl h (fun h => ?_) (fun h => ?_)
        · refine wa_goto 2681 hC dL_law_1608 rfl ?_
          refine wa_pick [2, 3, 4, 5, 6] rfl ?_
          exact hk ρ V (k1 + 90) (k2 + 3000) hE hVC ⟨by omega, by omega⟩ (show (J A_1 Z_5) = _ by rw [sm1 h, sm2 h])
        · cases h
    · cases h
  refine wl_wrap 1567 hC [.ref (ρ 9 0), .int (xs (x4 + (1 : Int32)).toNatClampNeg), .ref (ρ 41 0)] [] wr_projectedCredit (tL_projectedCredit E.2.1 hl9 (xs (x4 + (1 : Int32)).toNatClampNeg) A hVC e_3) (Nat.le_of_ble_eq_true rfl) (Nat.le_of_ble_eq_true rfl) rfl (Nat.le_of_ble_eq_true rfl) dL_law_1564 rfl ⟨by omega, by omega⟩ rfl (fun ρ1 V1 hE9 hVC9 => ?_)
  rw [← (hE9 9 0 (vs9 hVC)).2, ← (hE9 10 0 (vs10 hVC)).2, ← (hE9 41 0 (vs41 hVC)).2]
  exact key ρ1 V1 hE9 hVC9
set_option maxRecDepth 20000 in
theorem wL_case25 {E : eU} {G : gU} {ρ0 ρ : Nat → Nat → Nat} {V0 V : Nat → Nat → Prop} {b L k1 k2 : Nat} {xs : Nat → Int32} {x4 : Int32} {A Z A' Z' : sM} (hC : CX E G cL_law 8 RL (some .boolean) 1312 601024 7293034) (hl9 : E.2.1.stackTraces = false) (hS : SC E G b L xs) (hVC : VC V) (hE : Ext ρ0 V0 ρ V) (hkk : k1 + 90 ≤ 601024 ∧ k2 + 3000 ≤ 7293034) (hk : ∀ ρ' V' j1 j2, Ext ρ0 V0 ρ' V' → VC V' → (j1 ≤ k1 + 90 ∧ j2 ≤ k2 + 3000) → ∀ {M : sM}, M = J A' Z' → WA E G ρ' V' j1 j2 M 2681 [(0, .ref b), (1, .ref (ρ' 9 0)), (2, .ref (ρ' 10 0)), (3, .ref (ρ' 41 0)), (4, .int x4)] []) (h : fL_case25 L xs x4 A Z = some (A', Z')) : WA E G ρ V k1 k2 (J A Z) 1611 [(0, .ref b), (1, .ref (ρ 9 0)), (2, .ref (ρ 10 0)), (3, .ref (ρ 41 0)), (4, .int x4)] [] := by
  obtain ⟨hkk1, hkk2⟩ := hkk
  rw [fL_case25] at h
  refine wa_aload_n 1612 1 hC dL_law_1611 rfl 1 rfl rfl ?_
  refine wa_aload_n 1613 0 hC dL_law_1612 rfl 0 rfl rfl ?_
  refine wa_iload 1615 4 hC dL_law_1613 4 rfl rfl ?_
  refine wa_iconst 1616 hC dL_law_1615 kc_1 rfl ?_
  refine wa_iadd 1617 hC dL_law_1616 rfl ?_
  obtain ⟨g_12, h⟩ := gd_some h
  refine wl_sld 1618 hC hS g_12 dL_law_1617 rfl ?_
  refine wa_aload_n 1619 0 hC dL_law_1618 rfl 0 rfl rfl ?_
  refine wa_iload 1621 4 hC dL_law_1619 4 rfl rfl ?_
  refine wa_iconst 1622 hC dL_law_1621 kc_2 rfl ?_
  refine wa_iadd 1623 hC dL_law_1622 rfl ?_
  obtain ⟨g_11, h⟩ := gd_some h
  refine wl_sld 1624 hC hS g_11 dL_law_1623 rfl ?_
  refine wa_aload_n 1625 3 hC dL_law_1624 rfl 3 rfl rfl ?_
  obtain ⟨r_2, A_1, e_3, h⟩ := bd2_some h
  have key : ∀ (ρ1 : Nat → Nat → Nat) (V1 : Nat → Nat → Prop), Ext ρ V ρ1 V1 → VC V1 → WA E G ρ1 V1 (k1 + 90) (k2 + 3000) (J A_1 Z) 1628 [(0, .ref b), (1, .ref (ρ1 9 0)), (2, .ref (ρ1 10 0)), (3, .ref (ρ1 41 0)), (4, .int x4)] [.int r_2] := by
    intro ρ V hE0 hVC
    have hE := Ext.trans hE hE0
    refine wa_istore (lv' := [(5, .int r_2), (0, .ref b), (1, .ref (ρ 9 0)), (2, .ref (ρ 10 0)), (3, .ref (ρ 41 0)), (4, .int x4)]) 1630 5 hC dL_law_1628 rfl (by decide) rfl rfl ?_
    refine wa_aload_n 1631 2 hC dL_law_1630 rfl 3 rfl rfl ?_
    refine wa_aload_n 1632 0 hC dL_law_1631 rfl 1 rfl rfl ?_
    refine wa_iload 1634 4 hC dL_law_1632 5 rfl rfl ?_
    refine wa_iconst 1635 hC dL_law_1634 kc_1 rfl ?_
    refine wa_iadd 1636 hC dL_law_1635 rfl ?_
    obtain ⟨g_10, h⟩ := gd_some h
    refine wl_sld 1637 hC hS g_10 dL_law_1636 rfl ?_
    refine wa_aload_n 1638 0 hC dL_law_1637 rfl 1 rfl rfl ?_
    refine wa_iload 1640 4 hC dL_law_1638 5 rfl rfl ?_
    refine wa_iconst 1641 hC dL_law_1640 kc_2 rfl ?_
    refine wa_iadd 1642 hC dL_law_1641 rfl ?_
    obtain ⟨g_9, h⟩ := gd_some h
    refine wl_sld 1643 hC hS g_9 dL_law_1642 rfl ?_
    obtain ⟨r_6, Z_5, e_4, h⟩ := bd2_some h
    refine wa_callVl 1646 hC [.int (xs (x4 + (1 : Int32)).toNatClampNeg), .int (xs (x4 + (2 : Int32)).toNatClampNeg)] [] knX10_forecastBalance mvL_234 (tX10_forecastBalance E.2.1 (xs (x4 + (1 : Int32)).toNatClampNeg) (xs (x4 + (2 : Int32)).toNatClampNeg) Z hVC e_4) (vs10 hVC) kc10 (Nat.le_of_ble_eq_true rfl) (Nat.le_of_ble_eq_true rfl) rfl (Nat.le_of_ble_eq_true rfl) dL_law_1643 rfl ⟨by omega, by omega⟩ rfl ?_
    refine wa_lstore (lv' := [(6, .long r_6), (5, .int r_2), (0, .ref b), (1, .ref (ρ 9 0)), (2, .ref (ρ 10 0)), (3, .ref (ρ 41 0)), (4, .int x4)]) 1648 6 hC dL_law_1646 rfl (by decide) rfl rfl ?_
    refine wa_aload_n 1649 2 hC dL_law_1648 rfl 4 rfl rfl ?_
    obtain ⟨r_8, e_7, h⟩ := bd_some h
    refine wa_callVi 1652 hC [] [] knX10_thrown mvL_148 (tX10_thrown E.2.1 Z_5 hVC e_7) (vs10 hVC) kc10 (Nat.le_of_ble_eq_true rfl) (Nat.le_of_ble_eq_true rfl) rfl (Nat.le_of_ble_eq_true rfl) dL_law_1649 rfl ⟨by omega, by omega⟩ rfl ?_
    refine wa_iload 1654 5 hC dL_law_1652 1 rfl rfl ?_
    refine wa_icmp_eq 1657 1659 hC dL_law_1654 rfl rfl h (fun h => ?_) (fun h => ?_)
    · refine wa_iload 1661 5 hC dL_law_1659 1 rfl rfl ?_
      refine wa_if_ne 1664 1675 hC dL_law_1661 rfl rfl h (fun h => ?_) (fun h => ?_)
      · refine wa_goto 2681 hC dL_law_1675 rfl ?_
        refine wa_pick [2, 3, 4, 5, 6] rfl ?_
        exact hk ρ V (k1 + 90) (k2 + 3000) hE hVC ⟨by omega, by omega⟩ (show (J A_1 Z_5) = _ by rw [sm1 h, sm2 h])
      · refine wa_aload_n 1665 3 hC dL_law_1664 rfl 5 rfl rfl ?_
        refine wa_iconst 1666 hC dL_law_1665 kc_0 rfl ?_
        refine wa_laldc 1667 hC (vs41 hVC) ar41 rfl (by decide) dL_law_1666 rfl ?_
        refine wa_lload 1669 6 hC dL_law_1667 0 rfl rfl ?_
        refine wa_lcmp 1670 hC dL_law_1669 rfl ?_
        refine wa_lcmp_eq 1673 1675 hC dL_law_1670 rfl rfl h (fun h => ?_) (fun h => ?_)
        · refine wa_goto 2681 hC dL_law_1675 rfl ?_
          refine wa_pick [2, 3, 4, 5, 6] rfl ?_
          exact hk ρ V (k1 + 90) (k2 + 3000) hE hVC ⟨by omega, by omega⟩ (show (J A_1 Z_5) = _ by rw [sm1 h, sm2 h])
        · cases h
    · cases h
  refine wl_wrap 1628 hC [.ref (ρ 9 0), .int (xs (x4 + (1 : Int32)).toNatClampNeg), .int (xs (x4 + (2 : Int32)).toNatClampNeg), .ref (ρ 41 0)] [] wr_forecastBalance (tL_forecastBalance E.2.1 hl9 (xs (x4 + (1 : Int32)).toNatClampNeg) (xs (x4 + (2 : Int32)).toNatClampNeg) A hVC e_3) (Nat.le_of_ble_eq_true rfl) (Nat.le_of_ble_eq_true rfl) rfl (Nat.le_of_ble_eq_true rfl) dL_law_1625 rfl ⟨by omega, by omega⟩ rfl (fun ρ1 V1 hE9 hVC9 => ?_)
  rw [← (hE9 9 0 (vs9 hVC)).2, ← (hE9 10 0 (vs10 hVC)).2, ← (hE9 41 0 (vs41 hVC)).2]
  exact key ρ1 V1 hE9 hVC9
set_option maxRecDepth 20000 in
theorem wL_case26 {E : eU} {G : gU} {ρ0 ρ : Nat → Nat → Nat} {V0 V : Nat → Nat → Prop} {b L k1 k2 : Nat} {xs : Nat → Int32} {x4 : Int32} {A Z A' Z' : sM} (hC : CX E G cL_law 8 RL (some .boolean) 1312 601024 7293034) (hl9 : E.2.1.stackTraces = false) (hS : SC E G b L xs) (hVC : VC V) (hE : Ext ρ0 V0 ρ V) (hkk : k1 + 90 ≤ 601024 ∧ k2 + 3000 ≤ 7293034) (hk : ∀ ρ' V' j1 j2, Ext ρ0 V0 ρ' V' → VC V' → (j1 ≤ k1 + 90 ∧ j2 ≤ k2 + 3000) → ∀ {M : sM}, M = J A' Z' → WA E G ρ' V' j1 j2 M 2681 [(0, .ref b), (1, .ref (ρ' 9 0)), (2, .ref (ρ' 10 0)), (3, .ref (ρ' 41 0)), (4, .int x4)] []) (h : fL_case26 L xs x4 A Z = some (A', Z')) : WA E G ρ V k1 k2 (J A Z) 1678 [(0, .ref b), (1, .ref (ρ 9 0)), (2, .ref (ρ 10 0)), (3, .ref (ρ 41 0)), (4, .int x4)] [] := by
  obtain ⟨hkk1, hkk2⟩ := hkk
  rw [fL_case26] at h
  refine wa_aload_n 1679 1 hC dL_law_1678 rfl 1 rfl rfl ?_
  refine wa_aload_n 1680 0 hC dL_law_1679 rfl 0 rfl rfl ?_
  refine wa_iload 1682 4 hC dL_law_1680 4 rfl rfl ?_
  refine wa_iconst 1683 hC dL_law_1682 kc_1 rfl ?_
  refine wa_iadd 1684 hC dL_law_1683 rfl ?_
  obtain ⟨g_16, h⟩ := gd_some h
  refine wl_sld 1685 hC hS g_16 dL_law_1684 rfl ?_
  refine wa_aload_n 1686 0 hC dL_law_1685 rfl 0 rfl rfl ?_
  refine wa_iload 1688 4 hC dL_law_1686 4 rfl rfl ?_
  refine wa_iconst 1689 hC dL_law_1688 kc_2 rfl ?_
  refine wa_iadd 1690 hC dL_law_1689 rfl ?_
  obtain ⟨g_15, h⟩ := gd_some h
  refine wl_sld 1691 hC hS g_15 dL_law_1690 rfl ?_
  refine wa_aload_n 1692 0 hC dL_law_1691 rfl 0 rfl rfl ?_
  refine wa_iload 1694 4 hC dL_law_1692 4 rfl rfl ?_
  refine wa_iconst 1695 hC dL_law_1694 kc_3 rfl ?_
  refine wa_iadd 1696 hC dL_law_1695 rfl ?_
  obtain ⟨g_14, h⟩ := gd_some h
  refine wl_sld 1697 hC hS g_14 dL_law_1696 rfl ?_
  refine wa_i2l 1698 hC dL_law_1697 rfl ?_
  refine wa_bipush 1700 hC dL_law_1698 kb_32 rfl ?_
  refine wa_lshl 1701 hC dL_law_1700 rfl ?_
  refine wa_aload_n 1702 0 hC dL_law_1701 rfl 0 rfl rfl ?_
  refine wa_iload 1704 4 hC dL_law_1702 4 rfl rfl ?_
  refine wa_iconst 1705 hC dL_law_1704 kc_4 rfl ?_
  refine wa_iadd 1706 hC dL_law_1705 rfl ?_
  obtain ⟨g_13, h⟩ := gd_some h
  refine wl_sld 1707 hC hS g_13 dL_law_1706 rfl ?_
  refine wa_i2l 1708 hC dL_law_1707 rfl ?_
  refine wa_ldc2 1711 hC dL_law_1708 lcL_235 rfl ?_
  refine wa_land 1712 hC dL_law_1711 rfl ?_
  refine wa_lor 1713 hC dL_law_1712 rfl ?_
  refine wa_aload_n 1714 3 hC dL_law_1713 rfl 3 rfl rfl ?_
  obtain ⟨r_2, A_1, e_3, h⟩ := bd2_some h
  have key : ∀ (ρ1 : Nat → Nat → Nat) (V1 : Nat → Nat → Prop), Ext ρ V ρ1 V1 → VC V1 → WA E G ρ1 V1 (k1 + 90) (k2 + 3000) (J A_1 Z) 1717 [(0, .ref b), (1, .ref (ρ1 9 0)), (2, .ref (ρ1 10 0)), (3, .ref (ρ1 41 0)), (4, .int x4)] [.int r_2] := by
    intro ρ V hE0 hVC
    have hE := Ext.trans hE hE0
    refine wa_istore (lv' := [(5, .int r_2), (0, .ref b), (1, .ref (ρ 9 0)), (2, .ref (ρ 10 0)), (3, .ref (ρ 41 0)), (4, .int x4)]) 1719 5 hC dL_law_1717 rfl (by decide) rfl rfl ?_
    refine wa_aload_n 1720 2 hC dL_law_1719 rfl 3 rfl rfl ?_
    refine wa_aload_n 1721 0 hC dL_law_1720 rfl 1 rfl rfl ?_
    refine wa_iload 1723 4 hC dL_law_1721 5 rfl rfl ?_
    refine wa_iconst 1724 hC dL_law_1723 kc_1 rfl ?_
    refine wa_iadd 1725 hC dL_law_1724 rfl ?_
    obtain ⟨g_12, h⟩ := gd_some h
    refine wl_sld 1726 hC hS g_12 dL_law_1725 rfl ?_
    refine wa_aload_n 1727 0 hC dL_law_1726 rfl 1 rfl rfl ?_
    refine wa_iload 1729 4 hC dL_law_1727 5 rfl rfl ?_
    refine wa_iconst 1730 hC dL_law_1729 kc_2 rfl ?_
    refine wa_iadd 1731 hC dL_law_1730 rfl ?_
    obtain ⟨g_11, h⟩ := gd_some h
    refine wl_sld 1732 hC hS g_11 dL_law_1731 rfl ?_
    refine wa_aload_n 1733 0 hC dL_law_1732 rfl 1 rfl rfl ?_
    refine wa_iload 1735 4 hC dL_law_1733 5 rfl rfl ?_
    refine wa_iconst 1736 hC dL_law_1735 kc_3 rfl ?_
    refine wa_iadd 1737 hC dL_law_1736 rfl ?_
    obtain ⟨g_10, h⟩ := gd_some h
    refine wl_sld 1738 hC hS g_10 dL_law_1737 rfl ?_
    refine wa_i2l 1739 hC dL_law_1738 rfl ?_
    refine wa_bipush 1741 hC dL_law_1739 kb_32 rfl ?_
    refine wa_lshl 1742 hC dL_law_1741 rfl ?_
    refine wa_aload_n 1743 0 hC dL_law_1742 rfl 1 rfl rfl ?_
    refine wa_iload 1745 4 hC dL_law_1743 5 rfl rfl ?_
    refine wa_iconst 1746 hC dL_law_1745 kc_4 rfl ?_
    refine wa_iadd 1747 hC dL_law_1746 rfl ?_
    obtain ⟨g_9, h⟩ := gd_some h
    refine wl_sld 1748 hC hS g_9 dL_law_1747 rfl ?_
    refine wa_i2l 1749 hC dL_law_1748 rfl ?_
    refine wa_ldc2 1752 hC dL_law_1749 lcL_235 rfl ?_
    refine wa_land 1753 hC dL_law_1752 rfl ?_
    refine wa_lor 1754 hC dL_law_1753 rfl ?_
    obtain ⟨r_6, Z_5, e_4, h⟩ := bd2_some h
    refine wa_callVi 1757 hC [.int (xs (x4 + (1 : Int32)).toNatClampNeg), .int (xs (x4 + (2 : Int32)).toNatClampNeg), .long ((((xs (x4 + (3 : Int32)).toNatClampNeg).toInt64) <<< ((32 : Int32).toInt64 &&& 63)) ||| (((xs (x4 + (4 : Int32)).toNatClampNeg).toInt64) &&& (4294967295 : Int64)))] [] knX10_neededRate mvL_240 (tX10_neededRate E.2.1 (xs (x4 + (1 : Int32)).toNatClampNeg) (xs (x4 + (2 : Int32)).toNatClampNeg) ((((xs (x4 + (3 : Int32)).toNatClampNeg).toInt64) <<< ((32 : Int32).toInt64 &&& 63)) ||| (((xs (x4 + (4 : Int32)).toNatClampNeg).toInt64) &&& (4294967295 : Int64))) Z hVC e_4) (vs10 hVC) kc10 (Nat.le_of_ble_eq_true rfl) (Nat.le_of_ble_eq_true rfl) rfl (Nat.le_of_ble_eq_true rfl) dL_law_1754 rfl ⟨by omega, by omega⟩ rfl ?_
    refine wa_istore (lv' := [(6, .int r_6), (5, .int r_2), (0, .ref b), (1, .ref (ρ 9 0)), (2, .ref (ρ 10 0)), (3, .ref (ρ 41 0)), (4, .int x4)]) 1759 6 hC dL_law_1757 rfl (by decide) rfl rfl ?_
    refine wa_aload_n 1760 2 hC dL_law_1759 rfl 4 rfl rfl ?_
    obtain ⟨r_8, e_7, h⟩ := bd_some h
    refine wa_callVi 1763 hC [] [] knX10_thrown mvL_148 (tX10_thrown E.2.1 Z_5 hVC e_7) (vs10 hVC) kc10 (Nat.le_of_ble_eq_true rfl) (Nat.le_of_ble_eq_true rfl) rfl (Nat.le_of_ble_eq_true rfl) dL_law_1760 rfl ⟨by omega, by omega⟩ rfl ?_
    refine wa_iload 1765 5 hC dL_law_1763 1 rfl rfl ?_
    refine wa_icmp_eq 1768 1770 hC dL_law_1765 rfl rfl h (fun h => ?_) (fun h => ?_)
    · refine wa_iload 1772 5 hC dL_law_1770 1 rfl rfl ?_
      refine wa_if_ne 1775 1787 hC dL_law_1772 rfl rfl h (fun h => ?_) (fun h => ?_)
      · refine wa_goto 2681 hC dL_law_1787 rfl ?_
        refine wa_pick [2, 3, 4, 5, 6] rfl ?_
        exact hk ρ V (k1 + 90) (k2 + 3000) hE hVC ⟨by omega, by omega⟩ (show (J A_1 Z_5) = _ by rw [sm1 h, sm2 h])
      · refine wa_aload_n 1776 3 hC dL_law_1775 rfl 5 rfl rfl ?_
        refine wa_iconst 1777 hC dL_law_1776 kc_0 rfl ?_
        refine wa_laldc 1778 hC (vs41 hVC) ar41 rfl (by decide) dL_law_1777 rfl ?_
        refine wa_iload 1780 6 hC dL_law_1778 0 rfl rfl ?_
        refine wa_i2l 1781 hC dL_law_1780 rfl ?_
        refine wa_lcmp 1782 hC dL_law_1781 rfl ?_
        refine wa_lcmp_eq 1785 1787 hC dL_law_1782 rfl rfl h (fun h => ?_) (fun h => ?_)
        · refine wa_goto 2681 hC dL_law_1787 rfl ?_
          refine wa_pick [2, 3, 4, 5, 6] rfl ?_
          exact hk ρ V (k1 + 90) (k2 + 3000) hE hVC ⟨by omega, by omega⟩ (show (J A_1 Z_5) = _ by rw [sm1 h, sm2 h])
        · cases h
    · cases h
  refine wl_wrap 1717 hC [.ref (ρ 9 0), .int (xs (x4 + (1 : Int32)).toNatClampNeg), .int (xs (x4 + (2 : Int32)).toNatClampNeg), .long ((((xs (x4 + (3 : Int32)).toNatClampNeg).toInt64) <<< ((32 : Int32).toInt64 &&& 63)) ||| (((xs (x4 + (4 : Int32)).toNatClampNeg).toInt64) &&& (4294967295 : Int64))), .ref (ρ 41 0)] [] wr_neededRate (tL_neededRate E.2.1 hl9 (xs (x4 + (1 : Int32)).toNatClampNeg) (xs (x4 + (2 : Int32)).toNatClampNeg) ((((xs (x4 + (3 : Int32)).toNatClampNeg).toInt64) <<< ((32 : Int32).toInt64 &&& 63)) ||| (((xs (x4 + (4 : Int32)).toNatClampNeg).toInt64) &&& (4294967295 : Int64))) A hVC e_3) (Nat.le_of_ble_eq_true rfl) (Nat.le_of_ble_eq_true rfl) rfl (Nat.le_of_ble_eq_true rfl) dL_law_1714 rfl ⟨by omega, by omega⟩ rfl (fun ρ1 V1 hE9 hVC9 => ?_)
  rw [← (hE9 9 0 (vs9 hVC)).2, ← (hE9 10 0 (vs10 hVC)).2, ← (hE9 41 0 (vs41 hVC)).2]
  exact key ρ1 V1 hE9 hVC9
set_option maxRecDepth 20000 in
theorem wL_case27 {E : eU} {G : gU} {ρ0 ρ : Nat → Nat → Nat} {V0 V : Nat → Nat → Prop} {b L k1 k2 : Nat} {xs : Nat → Int32} {x4 : Int32} {A Z A' Z' : sM} (hC : CX E G cL_law 8 RL (some .boolean) 1312 601024 7293034) (hl9 : E.2.1.stackTraces = false) (hS : SC E G b L xs) (hVC : VC V) (hE : Ext ρ0 V0 ρ V) (hkk : k1 + 90 ≤ 601024 ∧ k2 + 3000 ≤ 7293034) (hk : ∀ ρ' V' j1 j2, Ext ρ0 V0 ρ' V' → VC V' → (j1 ≤ k1 + 90 ∧ j2 ≤ k2 + 3000) → ∀ {M : sM}, M = J A' Z' → WA E G ρ' V' j1 j2 M 2681 [(0, .ref b), (1, .ref (ρ' 9 0)), (2, .ref (ρ' 10 0)), (3, .ref (ρ' 41 0)), (4, .int x4)] []) (h : fL_case27 L xs x4 A Z = some (A', Z')) : WA E G ρ V k1 k2 (J A Z) 1790 [(0, .ref b), (1, .ref (ρ 9 0)), (2, .ref (ρ 10 0)), (3, .ref (ρ 41 0)), (4, .int x4)] [] := by
  obtain ⟨hkk1, hkk2⟩ := hkk
  rw [fL_case27] at h
  refine wa_aload_n 1791 1 hC dL_law_1790 rfl 1 rfl rfl ?_
  refine wa_aload_n 1792 0 hC dL_law_1791 rfl 0 rfl rfl ?_
  refine wa_iload 1794 4 hC dL_law_1792 4 rfl rfl ?_
  refine wa_iconst 1795 hC dL_law_1794 kc_1 rfl ?_
  refine wa_iadd 1796 hC dL_law_1795 rfl ?_
  obtain ⟨g_10, h⟩ := gd_some h
  refine wl_sld 1797 hC hS g_10 dL_law_1796 rfl ?_
  refine wa_aload_n 1798 3 hC dL_law_1797 rfl 3 rfl rfl ?_
  obtain ⟨r_2, A_1, e_3, h⟩ := bd2_some h
  have key : ∀ (ρ1 : Nat → Nat → Nat) (V1 : Nat → Nat → Prop), Ext ρ V ρ1 V1 → VC V1 → WA E G ρ1 V1 (k1 + 90) (k2 + 3000) (J A_1 Z) 1801 [(0, .ref b), (1, .ref (ρ1 9 0)), (2, .ref (ρ1 10 0)), (3, .ref (ρ1 41 0)), (4, .int x4)] [.int r_2] := by
    intro ρ V hE0 hVC
    have hE := Ext.trans hE hE0
    refine wa_istore (lv' := [(5, .int r_2), (0, .ref b), (1, .ref (ρ 9 0)), (2, .ref (ρ 10 0)), (3, .ref (ρ 41 0)), (4, .int x4)]) 1803 5 hC dL_law_1801 rfl (by decide) rfl rfl ?_
    refine wa_aload_n 1804 2 hC dL_law_1803 rfl 3 rfl rfl ?_
    refine wa_aload_n 1805 0 hC dL_law_1804 rfl 1 rfl rfl ?_
    refine wa_iload 1807 4 hC dL_law_1805 5 rfl rfl ?_
    refine wa_iconst 1808 hC dL_law_1807 kc_1 rfl ?_
    refine wa_iadd 1809 hC dL_law_1808 rfl ?_
    obtain ⟨g_9, h⟩ := gd_some h
    refine wl_sld 1810 hC hS g_9 dL_law_1809 rfl ?_
    obtain ⟨r_6, Z_5, e_4, h⟩ := bd2_some h
    refine wa_callVl 1813 hC [.int (xs (x4 + (1 : Int32)).toNatClampNeg)] [] knX10_issued mvL_243 (tX10_issued E.2.1 (xs (x4 + (1 : Int32)).toNatClampNeg) Z hVC e_4) (vs10 hVC) kc10 (Nat.le_of_ble_eq_true rfl) (Nat.le_of_ble_eq_true rfl) rfl (Nat.le_of_ble_eq_true rfl) dL_law_1810 rfl ⟨by omega, by omega⟩ rfl ?_
    refine wa_lstore (lv' := [(6, .long r_6), (5, .int r_2), (0, .ref b), (1, .ref (ρ 9 0)), (2, .ref (ρ 10 0)), (3, .ref (ρ 41 0)), (4, .int x4)]) 1815 6 hC dL_law_1813 rfl (by decide) rfl rfl ?_
    refine wa_aload_n 1816 2 hC dL_law_1815 rfl 4 rfl rfl ?_
    obtain ⟨r_8, e_7, h⟩ := bd_some h
    refine wa_callVi 1819 hC [] [] knX10_thrown mvL_148 (tX10_thrown E.2.1 Z_5 hVC e_7) (vs10 hVC) kc10 (Nat.le_of_ble_eq_true rfl) (Nat.le_of_ble_eq_true rfl) rfl (Nat.le_of_ble_eq_true rfl) dL_law_1816 rfl ⟨by omega, by omega⟩ rfl ?_
    refine wa_iload 1821 5 hC dL_law_1819 1 rfl rfl ?_
    refine wa_icmp_eq 1824 1826 hC dL_law_1821 rfl rfl h (fun h => ?_) (fun h => ?_)
    · refine wa_iload 1828 5 hC dL_law_1826 1 rfl rfl ?_
      refine wa_if_ne 1831 1842 hC dL_law_1828 rfl rfl h (fun h => ?_) (fun h => ?_)
      · refine wa_goto 2681 hC dL_law_1842 rfl ?_
        refine wa_pick [2, 3, 4, 5, 6] rfl ?_
        exact hk ρ V (k1 + 90) (k2 + 3000) hE hVC ⟨by omega, by omega⟩ (show (J A_1 Z_5) = _ by rw [sm1 h, sm2 h])
      · refine wa_aload_n 1832 3 hC dL_law_1831 rfl 5 rfl rfl ?_
        refine wa_iconst 1833 hC dL_law_1832 kc_0 rfl ?_
        refine wa_laldc 1834 hC (vs41 hVC) ar41 rfl (by decide) dL_law_1833 rfl ?_
        refine wa_lload 1836 6 hC dL_law_1834 0 rfl rfl ?_
        refine wa_lcmp 1837 hC dL_law_1836 rfl ?_
        refine wa_lcmp_eq 1840 1842 hC dL_law_1837 rfl rfl h (fun h => ?_) (fun h => ?_)
        · refine wa_goto 2681 hC dL_law_1842 rfl ?_
          refine wa_pick [2, 3, 4, 5, 6] rfl ?_
          exact hk ρ V (k1 + 90) (k2 + 3000) hE hVC ⟨by omega, by omega⟩ (show (J A_1 Z_5) = _ by rw [sm1 h, sm2 h])
        · cases h
    · cases h
  refine wl_wrap 1801 hC [.ref (ρ 9 0), .int (xs (x4 + (1 : Int32)).toNatClampNeg), .ref (ρ 41 0)] [] wr_issued (tL_issued E.2.1 hl9 (xs (x4 + (1 : Int32)).toNatClampNeg) A hVC e_3) (Nat.le_of_ble_eq_true rfl) (Nat.le_of_ble_eq_true rfl) rfl (Nat.le_of_ble_eq_true rfl) dL_law_1798 rfl ⟨by omega, by omega⟩ rfl (fun ρ1 V1 hE9 hVC9 => ?_)
  rw [← (hE9 9 0 (vs9 hVC)).2, ← (hE9 10 0 (vs10 hVC)).2, ← (hE9 41 0 (vs41 hVC)).2]
  exact key ρ1 V1 hE9 hVC9
set_option maxRecDepth 20000 in
theorem wL_case28 {E : eU} {G : gU} {ρ0 ρ : Nat → Nat → Nat} {V0 V : Nat → Nat → Prop} {b L k1 k2 : Nat} {xs : Nat → Int32} {x4 : Int32} {A Z A' Z' : sM} (hC : CX E G cL_law 8 RL (some .boolean) 1312 601024 7293034) (hl9 : E.2.1.stackTraces = false) (hS : SC E G b L xs) (hVC : VC V) (hE : Ext ρ0 V0 ρ V) (hkk : k1 + 90 ≤ 601024 ∧ k2 + 3000 ≤ 7293034) (hk : ∀ ρ' V' j1 j2, Ext ρ0 V0 ρ' V' → VC V' → (j1 ≤ k1 + 90 ∧ j2 ≤ k2 + 3000) → ∀ {M : sM}, M = J A' Z' → WA E G ρ' V' j1 j2 M 2681 [(0, .ref b), (1, .ref (ρ' 9 0)), (2, .ref (ρ' 10 0)), (3, .ref (ρ' 41 0)), (4, .int x4)] []) (h : fL_case28 L xs x4 A Z = some (A', Z')) : WA E G ρ V k1 k2 (J A Z) 1845 [(0, .ref b), (1, .ref (ρ 9 0)), (2, .ref (ρ 10 0)), (3, .ref (ρ 41 0)), (4, .int x4)] [] := by
  obtain ⟨hkk1, hkk2⟩ := hkk
  rw [fL_case28] at h
  refine wa_aload_n 1846 1 hC dL_law_1845 rfl 1 rfl rfl ?_
  refine wa_aload_n 1847 0 hC dL_law_1846 rfl 0 rfl rfl ?_
  refine wa_iload 1849 4 hC dL_law_1847 4 rfl rfl ?_
  refine wa_iconst 1850 hC dL_law_1849 kc_1 rfl ?_
  refine wa_iadd 1851 hC dL_law_1850 rfl ?_
  obtain ⟨g_16, h⟩ := gd_some h
  refine wl_sld 1852 hC hS g_16 dL_law_1851 rfl ?_
  refine wa_aload_n 1853 0 hC dL_law_1852 rfl 0 rfl rfl ?_
  refine wa_iload 1855 4 hC dL_law_1853 4 rfl rfl ?_
  refine wa_iconst 1856 hC dL_law_1855 kc_2 rfl ?_
  refine wa_iadd 1857 hC dL_law_1856 rfl ?_
  obtain ⟨g_15, h⟩ := gd_some h
  refine wl_sld 1858 hC hS g_15 dL_law_1857 rfl ?_
  obtain ⟨kj_2, ekj_2, h⟩ := ltb_k1 h
  have hkj_2 : ∀ (v_1 : Int32), kj_2 v_1 = some (A', Z') → WA E G ρ V k1 k2 (J A Z) 1866 [(0, .ref b), (1, .ref (ρ 9 0)), (2, .ref (ρ 10 0)), (3, .ref (ρ 41 0)), (4, .int x4)] [.int v_1, .int (xs (x4 + (1 : Int32)).toNatClampNeg), .ref (ρ 9 0)] := by
    intro v_1 h
    rw [ekj_2] at h
    refine wa_aload_n 1867 3 hC dL_law_1866 rfl 3 rfl rfl ?_
    obtain ⟨r_4, A_3, e_5, h⟩ := bd2_some h
    have key : ∀ (ρ1 : Nat → Nat → Nat) (V1 : Nat → Nat → Prop), Ext ρ V ρ1 V1 → VC V1 → WA E G ρ1 V1 (k1 + 90) (k2 + 3000) (J A_3 Z) 1870 [(0, .ref b), (1, .ref (ρ1 9 0)), (2, .ref (ρ1 10 0)), (3, .ref (ρ1 41 0)), (4, .int x4)] [.int r_4] := by
      intro ρ V hE0 hVC
      have hE := Ext.trans hE hE0
      refine wa_istore (lv' := [(5, .int r_4), (0, .ref b), (1, .ref (ρ 9 0)), (2, .ref (ρ 10 0)), (3, .ref (ρ 41 0)), (4, .int x4)]) 1872 5 hC dL_law_1870 rfl (by decide) rfl rfl ?_
      refine wa_aload_n 1873 2 hC dL_law_1872 rfl 3 rfl rfl ?_
      refine wa_aload_n 1874 0 hC dL_law_1873 rfl 1 rfl rfl ?_
      refine wa_iload 1876 4 hC dL_law_1874 5 rfl rfl ?_
      refine wa_iconst 1877 hC dL_law_1876 kc_1 rfl ?_
      refine wa_iadd 1878 hC dL_law_1877 rfl ?_
      obtain ⟨g_14, h⟩ := gd_some h
      refine wl_sld 1879 hC hS g_14 dL_law_1878 rfl ?_
      refine wa_aload_n 1880 0 hC dL_law_1879 rfl 1 rfl rfl ?_
      refine wa_iload 1882 4 hC dL_law_1880 5 rfl rfl ?_
      refine wa_iconst 1883 hC dL_law_1882 kc_2 rfl ?_
      refine wa_iadd 1884 hC dL_law_1883 rfl ?_
      obtain ⟨g_13, h⟩ := gd_some h
      refine wl_sld 1885 hC hS g_13 dL_law_1884 rfl ?_
      obtain ⟨kj_7, ekj_7, h⟩ := ltb_k1 h
      have hkj_7 : ∀ (v_6 : Int32), kj_7 v_6 = some (A', Z') → WA E G ρ V (k1 + 90) (k2 + 3000) (J A_3 Z) 1893 [(0, .ref b), (1, .ref (ρ 9 0)), (2, .ref (ρ 10 0)), (3, .ref (ρ 41 0)), (4, .int x4), (5, .int r_4)] [.int v_6, .int (xs (x4 + (1 : Int32)).toNatClampNeg), .ref (ρ 10 0)] := by
        intro v_6 h
        rw [ekj_7] at h
        obtain ⟨r_10, Z_9, e_8, h⟩ := bd2_some h
        refine wa_callVl 1896 hC [.int (xs (x4 + (1 : Int32)).toNatClampNeg), .int v_6] [] knX10_shareDayValue mvL_247 (tX10_shareDayValue E.2.1 (xs (x4 + (1 : Int32)).toNatClampNeg) v_6 Z hVC e_8) (vs10 hVC) kc10 (Nat.le_of_ble_eq_true rfl) (Nat.le_of_ble_eq_true rfl) rfl (Nat.le_of_ble_eq_true rfl) dL_law_1893 rfl ⟨by omega, by omega⟩ rfl ?_
        refine wa_lstore (lv' := [(6, .long r_10), (0, .ref b), (1, .ref (ρ 9 0)), (2, .ref (ρ 10 0)), (3, .ref (ρ 41 0)), (4, .int x4), (5, .int r_4)]) 1898 6 hC dL_law_1896 rfl (by decide) rfl rfl ?_
        refine wa_aload_n 1899 2 hC dL_law_1898 rfl 3 rfl rfl ?_
        obtain ⟨r_12, e_11, h⟩ := bd_some h
        refine wa_callVi 1902 hC [] [] knX10_thrown mvL_148 (tX10_thrown E.2.1 Z_9 hVC e_11) (vs10 hVC) kc10 (Nat.le_of_ble_eq_true rfl) (Nat.le_of_ble_eq_true rfl) rfl (Nat.le_of_ble_eq_true rfl) dL_law_1899 rfl ⟨by omega, by omega⟩ rfl ?_
        refine wa_iload 1904 5 hC dL_law_1902 6 rfl rfl ?_
        refine wa_icmp_eq 1907 1909 hC dL_law_1904 rfl rfl h (fun h => ?_) (fun h => ?_)
        · refine wa_iload 1911 5 hC dL_law_1909 6 rfl rfl ?_
          refine wa_if_ne 1914 1925 hC dL_law_1911 rfl rfl h (fun h => ?_) (fun h => ?_)
          · refine wa_goto 2681 hC dL_law_1925 rfl ?_
            refine wa_pick [1, 2, 3, 4, 5] rfl ?_
            exact hk ρ V (k1 + 90) (k2 + 3000) hE hVC ⟨by omega, by omega⟩ (show (J A_3 Z_9) = _ by rw [sm1 h, sm2 h])
          · refine wa_aload_n 1915 3 hC dL_law_1914 rfl 4 rfl rfl ?_
            refine wa_iconst 1916 hC dL_law_1915 kc_0 rfl ?_
            refine wa_laldc 1917 hC (vs41 hVC) ar41 rfl (by decide) dL_law_1916 rfl ?_
            refine wa_lload 1919 6 hC dL_law_1917 0 rfl rfl ?_
            refine wa_lcmp 1920 hC dL_law_1919 rfl ?_
            refine wa_lcmp_eq 1923 1925 hC dL_law_1920 rfl rfl h (fun h => ?_) (fun h => ?_)
            · refine wa_goto 2681 hC dL_law_1925 rfl ?_
              refine wa_pick [1, 2, 3, 4, 5] rfl ?_
              exact hk ρ V (k1 + 90) (k2 + 3000) hE hVC ⟨by omega, by omega⟩ (show (J A_3 Z_9) = _ by rw [sm1 h, sm2 h])
            · cases h
        · cases h
      clear ekj_7
      refine wa_if_eq 1888 1892 hC dL_law_1885 rfl rfl h (fun h => ?_) (fun h => ?_)
      · refine wa_iconst 1893 hC dL_law_1892 kc_0 rfl ?_
        refine wa_pick [1, 2, 3, 4, 5, 0] rfl ?_
        exact hkj_7 (0 : Int32) h
      · refine wa_iconst 1889 hC dL_law_1888 kc_1 rfl ?_
        refine wa_goto 1893 hC dL_law_1889 rfl ?_
        refine wa_pick [1, 2, 3, 4, 5, 0] rfl ?_
        exact hkj_7 (1 : Int32) h
    refine wl_wrap 1870 hC [.ref (ρ 9 0), .int (xs (x4 + (1 : Int32)).toNatClampNeg), .int v_1, .ref (ρ 41 0)] [] wr_shareDayValue (tL_shareDayValue E.2.1 hl9 (xs (x4 + (1 : Int32)).toNatClampNeg) v_1 A hVC e_5) (Nat.le_of_ble_eq_true rfl) (Nat.le_of_ble_eq_true rfl) rfl (Nat.le_of_ble_eq_true rfl) dL_law_1867 rfl ⟨by omega, by omega⟩ rfl (fun ρ1 V1 hE9 hVC9 => ?_)
    rw [← (hE9 9 0 (vs9 hVC)).2, ← (hE9 10 0 (vs10 hVC)).2, ← (hE9 41 0 (vs41 hVC)).2]
    exact key ρ1 V1 hE9 hVC9
  clear ekj_2
  refine wa_if_eq 1861 1865 hC dL_law_1858 rfl rfl h (fun h => ?_) (fun h => ?_)
  · refine wa_iconst 1866 hC dL_law_1865 kc_0 rfl ?_
    exact hkj_2 (0 : Int32) h
  · refine wa_iconst 1862 hC dL_law_1861 kc_1 rfl ?_
    refine wa_goto 1866 hC dL_law_1862 rfl ?_
    exact hkj_2 (1 : Int32) h
set_option maxRecDepth 20000 in
theorem wL_case29 {E : eU} {G : gU} {ρ0 ρ : Nat → Nat → Nat} {V0 V : Nat → Nat → Prop} {b L k1 k2 : Nat} {xs : Nat → Int32} {x4 : Int32} {A Z A' Z' : sM} (hC : CX E G cL_law 8 RL (some .boolean) 1312 601024 7293034) (hl9 : E.2.1.stackTraces = false) (hS : SC E G b L xs) (hVC : VC V) (hE : Ext ρ0 V0 ρ V) (hkk : k1 + 90 ≤ 601024 ∧ k2 + 3000 ≤ 7293034) (hk : ∀ ρ' V' j1 j2, Ext ρ0 V0 ρ' V' → VC V' → (j1 ≤ k1 + 90 ∧ j2 ≤ k2 + 3000) → ∀ {M : sM}, M = J A' Z' → WA E G ρ' V' j1 j2 M 2681 [(0, .ref b), (1, .ref (ρ' 9 0)), (2, .ref (ρ' 10 0)), (3, .ref (ρ' 41 0)), (4, .int x4)] []) (h : fL_case29 L xs x4 A Z = some (A', Z')) : WA E G ρ V k1 k2 (J A Z) 1928 [(0, .ref b), (1, .ref (ρ 9 0)), (2, .ref (ρ 10 0)), (3, .ref (ρ 41 0)), (4, .int x4)] [] := by
  obtain ⟨hkk1, hkk2⟩ := hkk
  rw [fL_case29] at h
  refine wa_aload_n 1929 1 hC dL_law_1928 rfl 1 rfl rfl ?_
  refine wa_aload_n 1930 0 hC dL_law_1929 rfl 0 rfl rfl ?_
  refine wa_iload 1932 4 hC dL_law_1930 4 rfl rfl ?_
  refine wa_iconst 1933 hC dL_law_1932 kc_1 rfl ?_
  refine wa_iadd 1934 hC dL_law_1933 rfl ?_
  obtain ⟨g_12, h⟩ := gd_some h
  refine wl_sld 1935 hC hS g_12 dL_law_1934 rfl ?_
  refine wa_i2l 1936 hC dL_law_1935 rfl ?_
  refine wa_bipush 1938 hC dL_law_1936 kb_32 rfl ?_
  refine wa_lshl 1939 hC dL_law_1938 rfl ?_
  refine wa_aload_n 1940 0 hC dL_law_1939 rfl 0 rfl rfl ?_
  refine wa_iload 1942 4 hC dL_law_1940 4 rfl rfl ?_
  refine wa_iconst 1943 hC dL_law_1942 kc_2 rfl ?_
  refine wa_iadd 1944 hC dL_law_1943 rfl ?_
  obtain ⟨g_11, h⟩ := gd_some h
  refine wl_sld 1945 hC hS g_11 dL_law_1944 rfl ?_
  refine wa_i2l 1946 hC dL_law_1945 rfl ?_
  refine wa_ldc2 1949 hC dL_law_1946 lcL_235 rfl ?_
  refine wa_land 1950 hC dL_law_1949 rfl ?_
  refine wa_lor 1951 hC dL_law_1950 rfl ?_
  refine wa_aload_n 1952 3 hC dL_law_1951 rfl 3 rfl rfl ?_
  obtain ⟨r_2, A_1, e_3, h⟩ := bd2_some h
  have key : ∀ (ρ1 : Nat → Nat → Nat) (V1 : Nat → Nat → Prop), Ext ρ V ρ1 V1 → VC V1 → WA E G ρ1 V1 (k1 + 90) (k2 + 3000) (J A_1 Z) 1955 [(0, .ref b), (1, .ref (ρ1 9 0)), (2, .ref (ρ1 10 0)), (3, .ref (ρ1 41 0)), (4, .int x4)] [.int r_2] := by
    intro ρ V hE0 hVC
    have hE := Ext.trans hE hE0
    refine wa_istore (lv' := [(5, .int r_2), (0, .ref b), (1, .ref (ρ 9 0)), (2, .ref (ρ 10 0)), (3, .ref (ρ 41 0)), (4, .int x4)]) 1957 5 hC dL_law_1955 rfl (by decide) rfl rfl ?_
    refine wa_aload_n 1958 2 hC dL_law_1957 rfl 3 rfl rfl ?_
    refine wa_aload_n 1959 0 hC dL_law_1958 rfl 1 rfl rfl ?_
    refine wa_iload 1961 4 hC dL_law_1959 5 rfl rfl ?_
    refine wa_iconst 1962 hC dL_law_1961 kc_1 rfl ?_
    refine wa_iadd 1963 hC dL_law_1962 rfl ?_
    obtain ⟨g_10, h⟩ := gd_some h
    refine wl_sld 1964 hC hS g_10 dL_law_1963 rfl ?_
    refine wa_i2l 1965 hC dL_law_1964 rfl ?_
    refine wa_bipush 1967 hC dL_law_1965 kb_32 rfl ?_
    refine wa_lshl 1968 hC dL_law_1967 rfl ?_
    refine wa_aload_n 1969 0 hC dL_law_1968 rfl 1 rfl rfl ?_
    refine wa_iload 1971 4 hC dL_law_1969 5 rfl rfl ?_
    refine wa_iconst 1972 hC dL_law_1971 kc_2 rfl ?_
    refine wa_iadd 1973 hC dL_law_1972 rfl ?_
    obtain ⟨g_9, h⟩ := gd_some h
    refine wl_sld 1974 hC hS g_9 dL_law_1973 rfl ?_
    refine wa_i2l 1975 hC dL_law_1974 rfl ?_
    refine wa_ldc2 1978 hC dL_law_1975 lcL_235 rfl ?_
    refine wa_land 1979 hC dL_law_1978 rfl ?_
    refine wa_lor 1980 hC dL_law_1979 rfl ?_
    obtain ⟨r_6, Z_5, e_4, h⟩ := bd2_some h
    refine wa_callVi 1983 hC [.long ((((xs (x4 + (1 : Int32)).toNatClampNeg).toInt64) <<< ((32 : Int32).toInt64 &&& 63)) ||| (((xs (x4 + (2 : Int32)).toNatClampNeg).toInt64) &&& (4294967295 : Int64)))] [] knX10_neededShares mvL_251 (tX10_neededShares E.2.1 ((((xs (x4 + (1 : Int32)).toNatClampNeg).toInt64) <<< ((32 : Int32).toInt64 &&& 63)) ||| (((xs (x4 + (2 : Int32)).toNatClampNeg).toInt64) &&& (4294967295 : Int64))) Z hVC e_4) (vs10 hVC) kc10 (Nat.le_of_ble_eq_true rfl) (Nat.le_of_ble_eq_true rfl) rfl (Nat.le_of_ble_eq_true rfl) dL_law_1980 rfl ⟨by omega, by omega⟩ rfl ?_
    refine wa_istore (lv' := [(6, .int r_6), (5, .int r_2), (0, .ref b), (1, .ref (ρ 9 0)), (2, .ref (ρ 10 0)), (3, .ref (ρ 41 0)), (4, .int x4)]) 1985 6 hC dL_law_1983 rfl (by decide) rfl rfl ?_
    refine wa_aload_n 1986 2 hC dL_law_1985 rfl 4 rfl rfl ?_
    obtain ⟨r_8, e_7, h⟩ := bd_some h
    refine wa_callVi 1989 hC [] [] knX10_thrown mvL_148 (tX10_thrown E.2.1 Z_5 hVC e_7) (vs10 hVC) kc10 (Nat.le_of_ble_eq_true rfl) (Nat.le_of_ble_eq_true rfl) rfl (Nat.le_of_ble_eq_true rfl) dL_law_1986 rfl ⟨by omega, by omega⟩ rfl ?_
    refine wa_iload 1991 5 hC dL_law_1989 1 rfl rfl ?_
    refine wa_icmp_eq 1994 1996 hC dL_law_1991 rfl rfl h (fun h => ?_) (fun h => ?_)
    · refine wa_iload 1998 5 hC dL_law_1996 1 rfl rfl ?_
      refine wa_if_ne 2001 2013 hC dL_law_1998 rfl rfl h (fun h => ?_) (fun h => ?_)
      · refine wa_goto 2681 hC dL_law_2013 rfl ?_
        refine wa_pick [2, 3, 4, 5, 6] rfl ?_
        exact hk ρ V (k1 + 90) (k2 + 3000) hE hVC ⟨by omega, by omega⟩ (show (J A_1 Z_5) = _ by rw [sm1 h, sm2 h])
      · refine wa_aload_n 2002 3 hC dL_law_2001 rfl 5 rfl rfl ?_
        refine wa_iconst 2003 hC dL_law_2002 kc_0 rfl ?_
        refine wa_laldc 2004 hC (vs41 hVC) ar41 rfl (by decide) dL_law_2003 rfl ?_
        refine wa_iload 2006 6 hC dL_law_2004 0 rfl rfl ?_
        refine wa_i2l 2007 hC dL_law_2006 rfl ?_
        refine wa_lcmp 2008 hC dL_law_2007 rfl ?_
        refine wa_lcmp_eq 2011 2013 hC dL_law_2008 rfl rfl h (fun h => ?_) (fun h => ?_)
        · refine wa_goto 2681 hC dL_law_2013 rfl ?_
          refine wa_pick [2, 3, 4, 5, 6] rfl ?_
          exact hk ρ V (k1 + 90) (k2 + 3000) hE hVC ⟨by omega, by omega⟩ (show (J A_1 Z_5) = _ by rw [sm1 h, sm2 h])
        · cases h
    · cases h
  refine wl_wrap 1955 hC [.ref (ρ 9 0), .long ((((xs (x4 + (1 : Int32)).toNatClampNeg).toInt64) <<< ((32 : Int32).toInt64 &&& 63)) ||| (((xs (x4 + (2 : Int32)).toNatClampNeg).toInt64) &&& (4294967295 : Int64))), .ref (ρ 41 0)] [] wr_neededShares (tL_neededShares E.2.1 hl9 ((((xs (x4 + (1 : Int32)).toNatClampNeg).toInt64) <<< ((32 : Int32).toInt64 &&& 63)) ||| (((xs (x4 + (2 : Int32)).toNatClampNeg).toInt64) &&& (4294967295 : Int64))) A hVC e_3) (Nat.le_of_ble_eq_true rfl) (Nat.le_of_ble_eq_true rfl) rfl (Nat.le_of_ble_eq_true rfl) dL_law_1952 rfl ⟨by omega, by omega⟩ rfl (fun ρ1 V1 hE9 hVC9 => ?_)
  rw [← (hE9 9 0 (vs9 hVC)).2, ← (hE9 10 0 (vs10 hVC)).2, ← (hE9 41 0 (vs41 hVC)).2]
  exact key ρ1 V1 hE9 hVC9
set_option maxRecDepth 20000 in
theorem wL_case30 {E : eU} {G : gU} {ρ0 ρ : Nat → Nat → Nat} {V0 V : Nat → Nat → Prop} {b L k1 k2 : Nat} {xs : Nat → Int32} {x4 : Int32} {A Z A' Z' : sM} (hC : CX E G cL_law 8 RL (some .boolean) 1312 601024 7293034) (hl9 : E.2.1.stackTraces = false) (hS : SC E G b L xs) (hVC : VC V) (hE : Ext ρ0 V0 ρ V) (hkk : k1 + 90 ≤ 601024 ∧ k2 + 3000 ≤ 7293034) (hk : ∀ ρ' V' j1 j2, Ext ρ0 V0 ρ' V' → VC V' → (j1 ≤ k1 + 90 ∧ j2 ≤ k2 + 3000) → ∀ {M : sM}, M = J A' Z' → WA E G ρ' V' j1 j2 M 2681 [(0, .ref b), (1, .ref (ρ' 9 0)), (2, .ref (ρ' 10 0)), (3, .ref (ρ' 41 0)), (4, .int x4)] []) (h : fL_case30 L xs x4 A Z = some (A', Z')) : WA E G ρ V k1 k2 (J A Z) 2016 [(0, .ref b), (1, .ref (ρ 9 0)), (2, .ref (ρ 10 0)), (3, .ref (ρ 41 0)), (4, .int x4)] [] := by
  obtain ⟨hkk1, hkk2⟩ := hkk
  rw [fL_case30] at h
  refine wa_aload_n 2017 1 hC dL_law_2016 rfl 1 rfl rfl ?_
  refine wa_aload_n 2018 0 hC dL_law_2017 rfl 0 rfl rfl ?_
  refine wa_iload 2020 4 hC dL_law_2018 4 rfl rfl ?_
  refine wa_iconst 2021 hC dL_law_2020 kc_1 rfl ?_
  refine wa_iadd 2022 hC dL_law_2021 rfl ?_
  obtain ⟨g_10, h⟩ := gd_some h
  refine wl_sld 2023 hC hS g_10 dL_law_2022 rfl ?_
  refine wa_aload_n 2024 3 hC dL_law_2023 rfl 3 rfl rfl ?_
  obtain ⟨r_2, A_1, e_3, h⟩ := bd2_some h
  have key : ∀ (ρ1 : Nat → Nat → Nat) (V1 : Nat → Nat → Prop), Ext ρ V ρ1 V1 → VC V1 → WA E G ρ1 V1 (k1 + 90) (k2 + 3000) (J A_1 Z) 2027 [(0, .ref b), (1, .ref (ρ1 9 0)), (2, .ref (ρ1 10 0)), (3, .ref (ρ1 41 0)), (4, .int x4)] [.int r_2] := by
    intro ρ V hE0 hVC
    have hE := Ext.trans hE hE0
    refine wa_istore (lv' := [(5, .int r_2), (0, .ref b), (1, .ref (ρ 9 0)), (2, .ref (ρ 10 0)), (3, .ref (ρ 41 0)), (4, .int x4)]) 2029 5 hC dL_law_2027 rfl (by decide) rfl rfl ?_
    refine wa_aload_n 2030 2 hC dL_law_2029 rfl 3 rfl rfl ?_
    refine wa_aload_n 2031 0 hC dL_law_2030 rfl 1 rfl rfl ?_
    refine wa_iload 2033 4 hC dL_law_2031 5 rfl rfl ?_
    refine wa_iconst 2034 hC dL_law_2033 kc_1 rfl ?_
    refine wa_iadd 2035 hC dL_law_2034 rfl ?_
    obtain ⟨g_9, h⟩ := gd_some h
    refine wl_sld 2036 hC hS g_9 dL_law_2035 rfl ?_
    obtain ⟨r_6, Z_5, e_4, h⟩ := bd2_some h
    refine wa_callVl 2039 hC [.int (xs (x4 + (1 : Int32)).toNatClampNeg)] [] knX10_balance mvL_254 (tX10_balance E.2.1 (xs (x4 + (1 : Int32)).toNatClampNeg) Z hVC e_4) (vs10 hVC) kc10 (Nat.le_of_ble_eq_true rfl) (Nat.le_of_ble_eq_true rfl) rfl (Nat.le_of_ble_eq_true rfl) dL_law_2036 rfl ⟨by omega, by omega⟩ rfl ?_
    refine wa_lstore (lv' := [(6, .long r_6), (5, .int r_2), (0, .ref b), (1, .ref (ρ 9 0)), (2, .ref (ρ 10 0)), (3, .ref (ρ 41 0)), (4, .int x4)]) 2041 6 hC dL_law_2039 rfl (by decide) rfl rfl ?_
    refine wa_aload_n 2042 2 hC dL_law_2041 rfl 4 rfl rfl ?_
    obtain ⟨r_8, e_7, h⟩ := bd_some h
    refine wa_callVi 2045 hC [] [] knX10_thrown mvL_148 (tX10_thrown E.2.1 Z_5 hVC e_7) (vs10 hVC) kc10 (Nat.le_of_ble_eq_true rfl) (Nat.le_of_ble_eq_true rfl) rfl (Nat.le_of_ble_eq_true rfl) dL_law_2042 rfl ⟨by omega, by omega⟩ rfl ?_
    refine wa_iload 2047 5 hC dL_law_2045 1 rfl rfl ?_
    refine wa_icmp_eq 2050 2052 hC dL_law_2047 rfl rfl h (fun h => ?_) (fun h => ?_)
    · refine wa_iload 2054 5 hC dL_law_2052 1 rfl rfl ?_
      refine wa_if_ne 2057 2068 hC dL_law_2054 rfl rfl h (fun h => ?_) (fun h => ?_)
      · refine wa_goto 2681 hC dL_law_2068 rfl ?_
        refine wa_pick [2, 3, 4, 5, 6] rfl ?_
        exact hk ρ V (k1 + 90) (k2 + 3000) hE hVC ⟨by omega, by omega⟩ (show (J A_1 Z_5) = _ by rw [sm1 h, sm2 h])
      · refine wa_aload_n 2058 3 hC dL_law_2057 rfl 5 rfl rfl ?_
        refine wa_iconst 2059 hC dL_law_2058 kc_0 rfl ?_
        refine wa_laldc 2060 hC (vs41 hVC) ar41 rfl (by decide) dL_law_2059 rfl ?_
        refine wa_lload 2062 6 hC dL_law_2060 0 rfl rfl ?_
        refine wa_lcmp 2063 hC dL_law_2062 rfl ?_
        refine wa_lcmp_eq 2066 2068 hC dL_law_2063 rfl rfl h (fun h => ?_) (fun h => ?_)
        · refine wa_goto 2681 hC dL_law_2068 rfl ?_
          refine wa_pick [2, 3, 4, 5, 6] rfl ?_
          exact hk ρ V (k1 + 90) (k2 + 3000) hE hVC ⟨by omega, by omega⟩ (show (J A_1 Z_5) = _ by rw [sm1 h, sm2 h])
        · cases h
    · cases h
  refine wl_wrap 2027 hC [.ref (ρ 9 0), .int (xs (x4 + (1 : Int32)).toNatClampNeg), .ref (ρ 41 0)] [] wr_balance (tL_balance E.2.1 hl9 (xs (x4 + (1 : Int32)).toNatClampNeg) A hVC e_3) (Nat.le_of_ble_eq_true rfl) (Nat.le_of_ble_eq_true rfl) rfl (Nat.le_of_ble_eq_true rfl) dL_law_2024 rfl ⟨by omega, by omega⟩ rfl (fun ρ1 V1 hE9 hVC9 => ?_)
  rw [← (hE9 9 0 (vs9 hVC)).2, ← (hE9 10 0 (vs10 hVC)).2, ← (hE9 41 0 (vs41 hVC)).2]
  exact key ρ1 V1 hE9 hVC9
set_option maxRecDepth 20000 in
theorem wL_case31 {E : eU} {G : gU} {ρ0 ρ : Nat → Nat → Nat} {V0 V : Nat → Nat → Prop} {b L k1 k2 : Nat} {xs : Nat → Int32} {x4 : Int32} {A Z A' Z' : sM} (hC : CX E G cL_law 8 RL (some .boolean) 1312 601024 7293034) (hl9 : E.2.1.stackTraces = false) (hS : SC E G b L xs) (hVC : VC V) (hE : Ext ρ0 V0 ρ V) (hkk : k1 + 90 ≤ 601024 ∧ k2 + 3000 ≤ 7293034) (hk : ∀ ρ' V' j1 j2, Ext ρ0 V0 ρ' V' → VC V' → (j1 ≤ k1 + 90 ∧ j2 ≤ k2 + 3000) → ∀ {M : sM}, M = J A' Z' → WA E G ρ' V' j1 j2 M 2681 [(0, .ref b), (1, .ref (ρ' 9 0)), (2, .ref (ρ' 10 0)), (3, .ref (ρ' 41 0)), (4, .int x4)] []) (h : fL_case31 L xs x4 A Z = some (A', Z')) : WA E G ρ V k1 k2 (J A Z) 2071 [(0, .ref b), (1, .ref (ρ 9 0)), (2, .ref (ρ 10 0)), (3, .ref (ρ 41 0)), (4, .int x4)] [] := by
  obtain ⟨hkk1, hkk2⟩ := hkk
  rw [fL_case31] at h
  refine wa_aload_n 2072 1 hC dL_law_2071 rfl 1 rfl rfl ?_
  refine wa_aload_n 2073 0 hC dL_law_2072 rfl 0 rfl rfl ?_
  refine wa_iload 2075 4 hC dL_law_2073 4 rfl rfl ?_
  refine wa_iconst 2076 hC dL_law_2075 kc_1 rfl ?_
  refine wa_iadd 2077 hC dL_law_2076 rfl ?_
  obtain ⟨g_12, h⟩ := gd_some h
  refine wl_sld 2078 hC hS g_12 dL_law_2077 rfl ?_
  refine wa_aload_n 2079 0 hC dL_law_2078 rfl 0 rfl rfl ?_
  refine wa_iload 2081 4 hC dL_law_2079 4 rfl rfl ?_
  refine wa_iconst 2082 hC dL_law_2081 kc_2 rfl ?_
  refine wa_iadd 2083 hC dL_law_2082 rfl ?_
  obtain ⟨g_11, h⟩ := gd_some h
  refine wl_sld 2084 hC hS g_11 dL_law_2083 rfl ?_
  refine wa_aload_n 2085 3 hC dL_law_2084 rfl 3 rfl rfl ?_
  obtain ⟨r_2, A_1, e_3, h⟩ := bd2_some h
  have key : ∀ (ρ1 : Nat → Nat → Nat) (V1 : Nat → Nat → Prop), Ext ρ V ρ1 V1 → VC V1 → WA E G ρ1 V1 (k1 + 90) (k2 + 3000) (J A_1 Z) 2088 [(0, .ref b), (1, .ref (ρ1 9 0)), (2, .ref (ρ1 10 0)), (3, .ref (ρ1 41 0)), (4, .int x4)] [.int r_2] := by
    intro ρ V hE0 hVC
    have hE := Ext.trans hE hE0
    refine wa_istore (lv' := [(5, .int r_2), (0, .ref b), (1, .ref (ρ 9 0)), (2, .ref (ρ 10 0)), (3, .ref (ρ 41 0)), (4, .int x4)]) 2090 5 hC dL_law_2088 rfl (by decide) rfl rfl ?_
    refine wa_aload_n 2091 2 hC dL_law_2090 rfl 3 rfl rfl ?_
    refine wa_aload_n 2092 0 hC dL_law_2091 rfl 1 rfl rfl ?_
    refine wa_iload 2094 4 hC dL_law_2092 5 rfl rfl ?_
    refine wa_iconst 2095 hC dL_law_2094 kc_1 rfl ?_
    refine wa_iadd 2096 hC dL_law_2095 rfl ?_
    obtain ⟨g_10, h⟩ := gd_some h
    refine wl_sld 2097 hC hS g_10 dL_law_2096 rfl ?_
    refine wa_aload_n 2098 0 hC dL_law_2097 rfl 1 rfl rfl ?_
    refine wa_iload 2100 4 hC dL_law_2098 5 rfl rfl ?_
    refine wa_iconst 2101 hC dL_law_2100 kc_2 rfl ?_
    refine wa_iadd 2102 hC dL_law_2101 rfl ?_
    obtain ⟨g_9, h⟩ := gd_some h
    refine wl_sld 2103 hC hS g_9 dL_law_2102 rfl ?_
    obtain ⟨r_6, Z_5, e_4, h⟩ := bd2_some h
    refine wa_callVl 2106 hC [.int (xs (x4 + (1 : Int32)).toNatClampNeg), .int (xs (x4 + (2 : Int32)).toNatClampNeg)] [] knX10_lot mvL_257 (tX10_lot E.2.1 (xs (x4 + (1 : Int32)).toNatClampNeg) (xs (x4 + (2 : Int32)).toNatClampNeg) Z hVC e_4) (vs10 hVC) kc10 (Nat.le_of_ble_eq_true rfl) (Nat.le_of_ble_eq_true rfl) rfl (Nat.le_of_ble_eq_true rfl) dL_law_2103 rfl ⟨by omega, by omega⟩ rfl ?_
    refine wa_lstore (lv' := [(6, .long r_6), (5, .int r_2), (0, .ref b), (1, .ref (ρ 9 0)), (2, .ref (ρ 10 0)), (3, .ref (ρ 41 0)), (4, .int x4)]) 2108 6 hC dL_law_2106 rfl (by decide) rfl rfl ?_
    refine wa_aload_n 2109 2 hC dL_law_2108 rfl 4 rfl rfl ?_
    obtain ⟨r_8, e_7, h⟩ := bd_some h
    refine wa_callVi 2112 hC [] [] knX10_thrown mvL_148 (tX10_thrown E.2.1 Z_5 hVC e_7) (vs10 hVC) kc10 (Nat.le_of_ble_eq_true rfl) (Nat.le_of_ble_eq_true rfl) rfl (Nat.le_of_ble_eq_true rfl) dL_law_2109 rfl ⟨by omega, by omega⟩ rfl ?_
    refine wa_iload 2114 5 hC dL_law_2112 1 rfl rfl ?_
    refine wa_icmp_eq 2117 2119 hC dL_law_2114 rfl rfl h (fun h => ?_) (fun h => ?_)
    · refine wa_iload 2121 5 hC dL_law_2119 1 rfl rfl ?_
      refine wa_if_ne 2124 2135 hC dL_law_2121 rfl rfl h (fun h => ?_) (fun h => ?_)
      · refine wa_goto 2681 hC dL_law_2135 rfl ?_
        refine wa_pick [2, 3, 4, 5, 6] rfl ?_
        exact hk ρ V (k1 + 90) (k2 + 3000) hE hVC ⟨by omega, by omega⟩ (show (J A_1 Z_5) = _ by rw [sm1 h, sm2 h])
      · refine wa_aload_n 2125 3 hC dL_law_2124 rfl 5 rfl rfl ?_
        refine wa_iconst 2126 hC dL_law_2125 kc_0 rfl ?_
        refine wa_laldc 2127 hC (vs41 hVC) ar41 rfl (by decide) dL_law_2126 rfl ?_
        refine wa_lload 2129 6 hC dL_law_2127 0 rfl rfl ?_
        refine wa_lcmp 2130 hC dL_law_2129 rfl ?_
        refine wa_lcmp_eq 2133 2135 hC dL_law_2130 rfl rfl h (fun h => ?_) (fun h => ?_)
        · refine wa_goto 2681 hC dL_law_2135 rfl ?_
          refine wa_pick [2, 3, 4, 5, 6] rfl ?_
          exact hk ρ V (k1 + 90) (k2 + 3000) hE hVC ⟨by omega, by omega⟩ (show (J A_1 Z_5) = _ by rw [sm1 h, sm2 h])
        · cases h
    · cases h
  refine wl_wrap 2088 hC [.ref (ρ 9 0), .int (xs (x4 + (1 : Int32)).toNatClampNeg), .int (xs (x4 + (2 : Int32)).toNatClampNeg), .ref (ρ 41 0)] [] wr_lot (tL_lot E.2.1 hl9 (xs (x4 + (1 : Int32)).toNatClampNeg) (xs (x4 + (2 : Int32)).toNatClampNeg) A hVC e_3) (Nat.le_of_ble_eq_true rfl) (Nat.le_of_ble_eq_true rfl) rfl (Nat.le_of_ble_eq_true rfl) dL_law_2085 rfl ⟨by omega, by omega⟩ rfl (fun ρ1 V1 hE9 hVC9 => ?_)
  rw [← (hE9 9 0 (vs9 hVC)).2, ← (hE9 10 0 (vs10 hVC)).2, ← (hE9 41 0 (vs41 hVC)).2]
  exact key ρ1 V1 hE9 hVC9
set_option maxRecDepth 20000 in
theorem wL_case32 {E : eU} {G : gU} {ρ0 ρ : Nat → Nat → Nat} {V0 V : Nat → Nat → Prop} {b L k1 k2 : Nat} {xs : Nat → Int32} {x4 : Int32} {A Z A' Z' : sM} (hC : CX E G cL_law 8 RL (some .boolean) 1312 601024 7293034) (hl9 : E.2.1.stackTraces = false) (hS : SC E G b L xs) (hVC : VC V) (hE : Ext ρ0 V0 ρ V) (hkk : k1 + 90 ≤ 601024 ∧ k2 + 3000 ≤ 7293034) (hk : ∀ ρ' V' j1 j2, Ext ρ0 V0 ρ' V' → VC V' → (j1 ≤ k1 + 90 ∧ j2 ≤ k2 + 3000) → ∀ {M : sM}, M = J A' Z' → WA E G ρ' V' j1 j2 M 2681 [(0, .ref b), (1, .ref (ρ' 9 0)), (2, .ref (ρ' 10 0)), (3, .ref (ρ' 41 0)), (4, .int x4)] []) (h : fL_case32 L xs x4 A Z = some (A', Z')) : WA E G ρ V k1 k2 (J A Z) 2138 [(0, .ref b), (1, .ref (ρ 9 0)), (2, .ref (ρ 10 0)), (3, .ref (ρ 41 0)), (4, .int x4)] [] := by
  obtain ⟨hkk1, hkk2⟩ := hkk
  rw [fL_case32] at h
  refine wa_aload_n 2139 1 hC dL_law_2138 rfl 1 rfl rfl ?_
  refine wa_aload_n 2140 0 hC dL_law_2139 rfl 0 rfl rfl ?_
  refine wa_iload 2142 4 hC dL_law_2140 4 rfl rfl ?_
  refine wa_iconst 2143 hC dL_law_2142 kc_1 rfl ?_
  refine wa_iadd 2144 hC dL_law_2143 rfl ?_
  obtain ⟨g_12, h⟩ := gd_some h
  refine wl_sld 2145 hC hS g_12 dL_law_2144 rfl ?_
  refine wa_aload_n 2146 0 hC dL_law_2145 rfl 0 rfl rfl ?_
  refine wa_iload 2148 4 hC dL_law_2146 4 rfl rfl ?_
  refine wa_iconst 2149 hC dL_law_2148 kc_2 rfl ?_
  refine wa_iadd 2150 hC dL_law_2149 rfl ?_
  obtain ⟨g_11, h⟩ := gd_some h
  refine wl_sld 2151 hC hS g_11 dL_law_2150 rfl ?_
  refine wa_aload_n 2152 3 hC dL_law_2151 rfl 3 rfl rfl ?_
  obtain ⟨r_2, A_1, e_3, h⟩ := bd2_some h
  have key : ∀ (ρ1 : Nat → Nat → Nat) (V1 : Nat → Nat → Prop), Ext ρ V ρ1 V1 → VC V1 → WA E G ρ1 V1 (k1 + 90) (k2 + 3000) (J A_1 Z) 2155 [(0, .ref b), (1, .ref (ρ1 9 0)), (2, .ref (ρ1 10 0)), (3, .ref (ρ1 41 0)), (4, .int x4)] [.int r_2] := by
    intro ρ V hE0 hVC
    have hE := Ext.trans hE hE0
    refine wa_istore (lv' := [(5, .int r_2), (0, .ref b), (1, .ref (ρ 9 0)), (2, .ref (ρ 10 0)), (3, .ref (ρ 41 0)), (4, .int x4)]) 2157 5 hC dL_law_2155 rfl (by decide) rfl rfl ?_
    refine wa_aload_n 2158 2 hC dL_law_2157 rfl 3 rfl rfl ?_
    refine wa_aload_n 2159 0 hC dL_law_2158 rfl 1 rfl rfl ?_
    refine wa_iload 2161 4 hC dL_law_2159 5 rfl rfl ?_
    refine wa_iconst 2162 hC dL_law_2161 kc_1 rfl ?_
    refine wa_iadd 2163 hC dL_law_2162 rfl ?_
    obtain ⟨g_10, h⟩ := gd_some h
    refine wl_sld 2164 hC hS g_10 dL_law_2163 rfl ?_
    refine wa_aload_n 2165 0 hC dL_law_2164 rfl 1 rfl rfl ?_
    refine wa_iload 2167 4 hC dL_law_2165 5 rfl rfl ?_
    refine wa_iconst 2168 hC dL_law_2167 kc_2 rfl ?_
    refine wa_iadd 2169 hC dL_law_2168 rfl ?_
    obtain ⟨g_9, h⟩ := gd_some h
    refine wl_sld 2170 hC hS g_9 dL_law_2169 rfl ?_
    obtain ⟨r_6, Z_5, e_4, h⟩ := bd2_some h
    refine wa_callVl 2173 hC [.int (xs (x4 + (1 : Int32)).toNatClampNeg), .int (xs (x4 + (2 : Int32)).toNatClampNeg)] [] knX10_account mvL_260 (tX10_account E.2.1 (xs (x4 + (1 : Int32)).toNatClampNeg) (xs (x4 + (2 : Int32)).toNatClampNeg) Z hVC e_4) (vs10 hVC) kc10 (Nat.le_of_ble_eq_true rfl) (Nat.le_of_ble_eq_true rfl) rfl (Nat.le_of_ble_eq_true rfl) dL_law_2170 rfl ⟨by omega, by omega⟩ rfl ?_
    refine wa_lstore (lv' := [(6, .long r_6), (5, .int r_2), (0, .ref b), (1, .ref (ρ 9 0)), (2, .ref (ρ 10 0)), (3, .ref (ρ 41 0)), (4, .int x4)]) 2175 6 hC dL_law_2173 rfl (by decide) rfl rfl ?_
    refine wa_aload_n 2176 2 hC dL_law_2175 rfl 4 rfl rfl ?_
    obtain ⟨r_8, e_7, h⟩ := bd_some h
    refine wa_callVi 2179 hC [] [] knX10_thrown mvL_148 (tX10_thrown E.2.1 Z_5 hVC e_7) (vs10 hVC) kc10 (Nat.le_of_ble_eq_true rfl) (Nat.le_of_ble_eq_true rfl) rfl (Nat.le_of_ble_eq_true rfl) dL_law_2176 rfl ⟨by omega, by omega⟩ rfl ?_
    refine wa_iload 2181 5 hC dL_law_2179 1 rfl rfl ?_
    refine wa_icmp_eq 2184 2186 hC dL_law_2181 rfl rfl h (fun h => ?_) (fun h => ?_)
    · refine wa_iload 2188 5 hC dL_law_2186 1 rfl rfl ?_
      refine wa_if_ne 2191 2202 hC dL_law_2188 rfl rfl h (fun h => ?_) (fun h => ?_)
      · refine wa_goto 2681 hC dL_law_2202 rfl ?_
        refine wa_pick [2, 3, 4, 5, 6] rfl ?_
        exact hk ρ V (k1 + 90) (k2 + 3000) hE hVC ⟨by omega, by omega⟩ (show (J A_1 Z_5) = _ by rw [sm1 h, sm2 h])
      · refine wa_aload_n 2192 3 hC dL_law_2191 rfl 5 rfl rfl ?_
        refine wa_iconst 2193 hC dL_law_2192 kc_0 rfl ?_
        refine wa_laldc 2194 hC (vs41 hVC) ar41 rfl (by decide) dL_law_2193 rfl ?_
        refine wa_lload 2196 6 hC dL_law_2194 0 rfl rfl ?_
        refine wa_lcmp 2197 hC dL_law_2196 rfl ?_
        refine wa_lcmp_eq 2200 2202 hC dL_law_2197 rfl rfl h (fun h => ?_) (fun h => ?_)
        · refine wa_goto 2681 hC dL_law_2202 rfl ?_
          refine wa_pick [2, 3, 4, 5, 6] rfl ?_
          exact hk ρ V (k1 + 90) (k2 + 3000) hE hVC ⟨by omega, by omega⟩ (show (J A_1 Z_5) = _ by rw [sm1 h, sm2 h])
        · cases h
    · cases h
  refine wl_wrap 2155 hC [.ref (ρ 9 0), .int (xs (x4 + (1 : Int32)).toNatClampNeg), .int (xs (x4 + (2 : Int32)).toNatClampNeg), .ref (ρ 41 0)] [] wr_account (tL_account E.2.1 hl9 (xs (x4 + (1 : Int32)).toNatClampNeg) (xs (x4 + (2 : Int32)).toNatClampNeg) A hVC e_3) (Nat.le_of_ble_eq_true rfl) (Nat.le_of_ble_eq_true rfl) rfl (Nat.le_of_ble_eq_true rfl) dL_law_2152 rfl ⟨by omega, by omega⟩ rfl (fun ρ1 V1 hE9 hVC9 => ?_)
  rw [← (hE9 9 0 (vs9 hVC)).2, ← (hE9 10 0 (vs10 hVC)).2, ← (hE9 41 0 (vs41 hVC)).2]
  exact key ρ1 V1 hE9 hVC9
set_option maxRecDepth 20000 in
theorem wL_case33 {E : eU} {G : gU} {ρ0 ρ : Nat → Nat → Nat} {V0 V : Nat → Nat → Prop} {b L k1 k2 : Nat} {xs : Nat → Int32} {x4 : Int32} {A Z A' Z' : sM} (hC : CX E G cL_law 8 RL (some .boolean) 1312 601024 7293034) (hl9 : E.2.1.stackTraces = false) (hS : SC E G b L xs) (hVC : VC V) (hE : Ext ρ0 V0 ρ V) (hkk : k1 + 90 ≤ 601024 ∧ k2 + 3000 ≤ 7293034) (hk : ∀ ρ' V' j1 j2, Ext ρ0 V0 ρ' V' → VC V' → (j1 ≤ k1 + 90 ∧ j2 ≤ k2 + 3000) → ∀ {M : sM}, M = J A' Z' → WA E G ρ' V' j1 j2 M 2681 [(0, .ref b), (1, .ref (ρ' 9 0)), (2, .ref (ρ' 10 0)), (3, .ref (ρ' 41 0)), (4, .int x4)] []) (h : fL_case33 L xs x4 A Z = some (A', Z')) : WA E G ρ V k1 k2 (J A Z) 2205 [(0, .ref b), (1, .ref (ρ 9 0)), (2, .ref (ρ 10 0)), (3, .ref (ρ 41 0)), (4, .int x4)] [] := by
  obtain ⟨hkk1, hkk2⟩ := hkk
  rw [fL_case33] at h
  refine wa_aload_n 2206 1 hC dL_law_2205 rfl 1 rfl rfl ?_
  refine wa_aload_n 2207 0 hC dL_law_2206 rfl 0 rfl rfl ?_
  refine wa_iload 2209 4 hC dL_law_2207 4 rfl rfl ?_
  refine wa_iconst 2210 hC dL_law_2209 kc_1 rfl ?_
  refine wa_iadd 2211 hC dL_law_2210 rfl ?_
  obtain ⟨g_10, h⟩ := gd_some h
  refine wl_sld 2212 hC hS g_10 dL_law_2211 rfl ?_
  refine wa_aload_n 2213 3 hC dL_law_2212 rfl 3 rfl rfl ?_
  obtain ⟨r_2, A_1, e_3, h⟩ := bd2_some h
  have key : ∀ (ρ1 : Nat → Nat → Nat) (V1 : Nat → Nat → Prop), Ext ρ V ρ1 V1 → VC V1 → WA E G ρ1 V1 (k1 + 90) (k2 + 3000) (J A_1 Z) 2216 [(0, .ref b), (1, .ref (ρ1 9 0)), (2, .ref (ρ1 10 0)), (3, .ref (ρ1 41 0)), (4, .int x4)] [.int r_2] := by
    intro ρ V hE0 hVC
    have hE := Ext.trans hE hE0
    refine wa_istore (lv' := [(5, .int r_2), (0, .ref b), (1, .ref (ρ 9 0)), (2, .ref (ρ 10 0)), (3, .ref (ρ 41 0)), (4, .int x4)]) 2218 5 hC dL_law_2216 rfl (by decide) rfl rfl ?_
    refine wa_aload_n 2219 2 hC dL_law_2218 rfl 3 rfl rfl ?_
    refine wa_aload_n 2220 0 hC dL_law_2219 rfl 1 rfl rfl ?_
    refine wa_iload 2222 4 hC dL_law_2220 5 rfl rfl ?_
    refine wa_iconst 2223 hC dL_law_2222 kc_1 rfl ?_
    refine wa_iadd 2224 hC dL_law_2223 rfl ?_
    obtain ⟨g_9, h⟩ := gd_some h
    refine wl_sld 2225 hC hS g_9 dL_law_2224 rfl ?_
    obtain ⟨r_6, Z_5, e_4, h⟩ := bd2_some h
    refine wa_callVl 2228 hC [.int (xs (x4 + (1 : Int32)).toNatClampNeg)] [] knX10_expiring mvL_263 (tX10_expiring E.2.1 (xs (x4 + (1 : Int32)).toNatClampNeg) Z hVC e_4) (vs10 hVC) kc10 (Nat.le_of_ble_eq_true rfl) (Nat.le_of_ble_eq_true rfl) rfl (Nat.le_of_ble_eq_true rfl) dL_law_2225 rfl ⟨by omega, by omega⟩ rfl ?_
    refine wa_lstore (lv' := [(6, .long r_6), (5, .int r_2), (0, .ref b), (1, .ref (ρ 9 0)), (2, .ref (ρ 10 0)), (3, .ref (ρ 41 0)), (4, .int x4)]) 2230 6 hC dL_law_2228 rfl (by decide) rfl rfl ?_
    refine wa_aload_n 2231 2 hC dL_law_2230 rfl 4 rfl rfl ?_
    obtain ⟨r_8, e_7, h⟩ := bd_some h
    refine wa_callVi 2234 hC [] [] knX10_thrown mvL_148 (tX10_thrown E.2.1 Z_5 hVC e_7) (vs10 hVC) kc10 (Nat.le_of_ble_eq_true rfl) (Nat.le_of_ble_eq_true rfl) rfl (Nat.le_of_ble_eq_true rfl) dL_law_2231 rfl ⟨by omega, by omega⟩ rfl ?_
    refine wa_iload 2236 5 hC dL_law_2234 1 rfl rfl ?_
    refine wa_icmp_eq 2239 2241 hC dL_law_2236 rfl rfl h (fun h => ?_) (fun h => ?_)
    · refine wa_iload 2243 5 hC dL_law_2241 1 rfl rfl ?_
      refine wa_if_ne 2246 2257 hC dL_law_2243 rfl rfl h (fun h => ?_) (fun h => ?_)
      · refine wa_goto 2681 hC dL_law_2257 rfl ?_
        refine wa_pick [2, 3, 4, 5, 6] rfl ?_
        exact hk ρ V (k1 + 90) (k2 + 3000) hE hVC ⟨by omega, by omega⟩ (show (J A_1 Z_5) = _ by rw [sm1 h, sm2 h])
      · refine wa_aload_n 2247 3 hC dL_law_2246 rfl 5 rfl rfl ?_
        refine wa_iconst 2248 hC dL_law_2247 kc_0 rfl ?_
        refine wa_laldc 2249 hC (vs41 hVC) ar41 rfl (by decide) dL_law_2248 rfl ?_
        refine wa_lload 2251 6 hC dL_law_2249 0 rfl rfl ?_
        refine wa_lcmp 2252 hC dL_law_2251 rfl ?_
        refine wa_lcmp_eq 2255 2257 hC dL_law_2252 rfl rfl h (fun h => ?_) (fun h => ?_)
        · refine wa_goto 2681 hC dL_law_2257 rfl ?_
          refine wa_pick [2, 3, 4, 5, 6] rfl ?_
          exact hk ρ V (k1 + 90) (k2 + 3000) hE hVC ⟨by omega, by omega⟩ (show (J A_1 Z_5) = _ by rw [sm1 h, sm2 h])
        · cases h
    · cases h
  refine wl_wrap 2216 hC [.ref (ρ 9 0), .int (xs (x4 + (1 : Int32)).toNatClampNeg), .ref (ρ 41 0)] [] wr_expiring (tL_expiring E.2.1 hl9 (xs (x4 + (1 : Int32)).toNatClampNeg) A hVC e_3) (Nat.le_of_ble_eq_true rfl) (Nat.le_of_ble_eq_true rfl) rfl (Nat.le_of_ble_eq_true rfl) dL_law_2213 rfl ⟨by omega, by omega⟩ rfl (fun ρ1 V1 hE9 hVC9 => ?_)
  rw [← (hE9 9 0 (vs9 hVC)).2, ← (hE9 10 0 (vs10 hVC)).2, ← (hE9 41 0 (vs41 hVC)).2]
  exact key ρ1 V1 hE9 hVC9
set_option maxRecDepth 20000 in
theorem wL_case34 {E : eU} {G : gU} {ρ0 ρ : Nat → Nat → Nat} {V0 V : Nat → Nat → Prop} {b L k1 k2 : Nat} {xs : Nat → Int32} {x4 : Int32} {A Z A' Z' : sM} (hC : CX E G cL_law 8 RL (some .boolean) 1312 601024 7293034) (hl9 : E.2.1.stackTraces = false) (hS : SC E G b L xs) (hVC : VC V) (hE : Ext ρ0 V0 ρ V) (hkk : k1 + 90 ≤ 601024 ∧ k2 + 3000 ≤ 7293034) (hk : ∀ ρ' V' j1 j2, Ext ρ0 V0 ρ' V' → VC V' → (j1 ≤ k1 + 90 ∧ j2 ≤ k2 + 3000) → ∀ {M : sM}, M = J A' Z' → WA E G ρ' V' j1 j2 M 2681 [(0, .ref b), (1, .ref (ρ' 9 0)), (2, .ref (ρ' 10 0)), (3, .ref (ρ' 41 0)), (4, .int x4)] []) (h : fL_case34 L xs x4 A Z = some (A', Z')) : WA E G ρ V k1 k2 (J A Z) 2260 [(0, .ref b), (1, .ref (ρ 9 0)), (2, .ref (ρ 10 0)), (3, .ref (ρ 41 0)), (4, .int x4)] [] := by
  obtain ⟨hkk1, hkk2⟩ := hkk
  rw [fL_case34] at h
  refine wa_aload_n 2261 1 hC dL_law_2260 rfl 1 rfl rfl ?_
  refine wa_aload_n 2262 0 hC dL_law_2261 rfl 0 rfl rfl ?_
  refine wa_iload 2264 4 hC dL_law_2262 4 rfl rfl ?_
  refine wa_iconst 2265 hC dL_law_2264 kc_1 rfl ?_
  refine wa_iadd 2266 hC dL_law_2265 rfl ?_
  obtain ⟨g_14, h⟩ := gd_some h
  refine wl_sld 2267 hC hS g_14 dL_law_2266 rfl ?_
  refine wa_aload_n 2268 0 hC dL_law_2267 rfl 0 rfl rfl ?_
  refine wa_iload 2270 4 hC dL_law_2268 4 rfl rfl ?_
  refine wa_iconst 2271 hC dL_law_2270 kc_2 rfl ?_
  refine wa_iadd 2272 hC dL_law_2271 rfl ?_
  obtain ⟨g_13, h⟩ := gd_some h
  refine wl_sld 2273 hC hS g_13 dL_law_2272 rfl ?_
  refine wa_i2l 2274 hC dL_law_2273 rfl ?_
  refine wa_bipush 2276 hC dL_law_2274 kb_32 rfl ?_
  refine wa_lshl 2277 hC dL_law_2276 rfl ?_
  refine wa_aload_n 2278 0 hC dL_law_2277 rfl 0 rfl rfl ?_
  refine wa_iload 2280 4 hC dL_law_2278 4 rfl rfl ?_
  refine wa_iconst 2281 hC dL_law_2280 kc_3 rfl ?_
  refine wa_iadd 2282 hC dL_law_2281 rfl ?_
  obtain ⟨g_12, h⟩ := gd_some h
  refine wl_sld 2283 hC hS g_12 dL_law_2282 rfl ?_
  refine wa_i2l 2284 hC dL_law_2283 rfl ?_
  refine wa_ldc2 2287 hC dL_law_2284 lcL_235 rfl ?_
  refine wa_land 2288 hC dL_law_2287 rfl ?_
  refine wa_lor 2289 hC dL_law_2288 rfl ?_
  refine wa_aload_n 2290 3 hC dL_law_2289 rfl 3 rfl rfl ?_
  obtain ⟨r_2, A_1, e_3, h⟩ := bd2_some h
  have key : ∀ (ρ1 : Nat → Nat → Nat) (V1 : Nat → Nat → Prop), Ext ρ V ρ1 V1 → VC V1 → WA E G ρ1 V1 (k1 + 90) (k2 + 3000) (J A_1 Z) 2293 [(0, .ref b), (1, .ref (ρ1 9 0)), (2, .ref (ρ1 10 0)), (3, .ref (ρ1 41 0)), (4, .int x4)] [.int r_2] := by
    intro ρ V hE0 hVC
    have hE := Ext.trans hE hE0
    refine wa_istore (lv' := [(5, .int r_2), (0, .ref b), (1, .ref (ρ 9 0)), (2, .ref (ρ 10 0)), (3, .ref (ρ 41 0)), (4, .int x4)]) 2295 5 hC dL_law_2293 rfl (by decide) rfl rfl ?_
    refine wa_aload_n 2296 2 hC dL_law_2295 rfl 3 rfl rfl ?_
    refine wa_aload_n 2297 0 hC dL_law_2296 rfl 1 rfl rfl ?_
    refine wa_iload 2299 4 hC dL_law_2297 5 rfl rfl ?_
    refine wa_iconst 2300 hC dL_law_2299 kc_1 rfl ?_
    refine wa_iadd 2301 hC dL_law_2300 rfl ?_
    obtain ⟨g_11, h⟩ := gd_some h
    refine wl_sld 2302 hC hS g_11 dL_law_2301 rfl ?_
    refine wa_aload_n 2303 0 hC dL_law_2302 rfl 1 rfl rfl ?_
    refine wa_iload 2305 4 hC dL_law_2303 5 rfl rfl ?_
    refine wa_iconst 2306 hC dL_law_2305 kc_2 rfl ?_
    refine wa_iadd 2307 hC dL_law_2306 rfl ?_
    obtain ⟨g_10, h⟩ := gd_some h
    refine wl_sld 2308 hC hS g_10 dL_law_2307 rfl ?_
    refine wa_i2l 2309 hC dL_law_2308 rfl ?_
    refine wa_bipush 2311 hC dL_law_2309 kb_32 rfl ?_
    refine wa_lshl 2312 hC dL_law_2311 rfl ?_
    refine wa_aload_n 2313 0 hC dL_law_2312 rfl 1 rfl rfl ?_
    refine wa_iload 2315 4 hC dL_law_2313 5 rfl rfl ?_
    refine wa_iconst 2316 hC dL_law_2315 kc_3 rfl ?_
    refine wa_iadd 2317 hC dL_law_2316 rfl ?_
    obtain ⟨g_9, h⟩ := gd_some h
    refine wl_sld 2318 hC hS g_9 dL_law_2317 rfl ?_
    refine wa_i2l 2319 hC dL_law_2318 rfl ?_
    refine wa_ldc2 2322 hC dL_law_2319 lcL_235 rfl ?_
    refine wa_land 2323 hC dL_law_2322 rfl ?_
    refine wa_lor 2324 hC dL_law_2323 rfl ?_
    obtain ⟨r_6, Z_5, e_4, h⟩ := bd2_some h
    refine wa_callVi 2327 hC [.int (xs (x4 + (1 : Int32)).toNatClampNeg), .long ((((xs (x4 + (2 : Int32)).toNatClampNeg).toInt64) <<< ((32 : Int32).toInt64 &&& 63)) ||| (((xs (x4 + (3 : Int32)).toNatClampNeg).toInt64) &&& (4294967295 : Int64)))] [] knX10_monthsCovered mvL_267 (tX10_monthsCovered E.2.1 (xs (x4 + (1 : Int32)).toNatClampNeg) ((((xs (x4 + (2 : Int32)).toNatClampNeg).toInt64) <<< ((32 : Int32).toInt64 &&& 63)) ||| (((xs (x4 + (3 : Int32)).toNatClampNeg).toInt64) &&& (4294967295 : Int64))) Z hVC e_4) (vs10 hVC) kc10 (Nat.le_of_ble_eq_true rfl) (Nat.le_of_ble_eq_true rfl) rfl (Nat.le_of_ble_eq_true rfl) dL_law_2324 rfl ⟨by omega, by omega⟩ rfl ?_
    refine wa_istore (lv' := [(6, .int r_6), (5, .int r_2), (0, .ref b), (1, .ref (ρ 9 0)), (2, .ref (ρ 10 0)), (3, .ref (ρ 41 0)), (4, .int x4)]) 2329 6 hC dL_law_2327 rfl (by decide) rfl rfl ?_
    refine wa_aload_n 2330 2 hC dL_law_2329 rfl 4 rfl rfl ?_
    obtain ⟨r_8, e_7, h⟩ := bd_some h
    refine wa_callVi 2333 hC [] [] knX10_thrown mvL_148 (tX10_thrown E.2.1 Z_5 hVC e_7) (vs10 hVC) kc10 (Nat.le_of_ble_eq_true rfl) (Nat.le_of_ble_eq_true rfl) rfl (Nat.le_of_ble_eq_true rfl) dL_law_2330 rfl ⟨by omega, by omega⟩ rfl ?_
    refine wa_iload 2335 5 hC dL_law_2333 1 rfl rfl ?_
    refine wa_icmp_eq 2338 2340 hC dL_law_2335 rfl rfl h (fun h => ?_) (fun h => ?_)
    · refine wa_iload 2342 5 hC dL_law_2340 1 rfl rfl ?_
      refine wa_if_ne 2345 2357 hC dL_law_2342 rfl rfl h (fun h => ?_) (fun h => ?_)
      · refine wa_goto 2681 hC dL_law_2357 rfl ?_
        refine wa_pick [2, 3, 4, 5, 6] rfl ?_
        exact hk ρ V (k1 + 90) (k2 + 3000) hE hVC ⟨by omega, by omega⟩ (show (J A_1 Z_5) = _ by rw [sm1 h, sm2 h])
      · refine wa_aload_n 2346 3 hC dL_law_2345 rfl 5 rfl rfl ?_
        refine wa_iconst 2347 hC dL_law_2346 kc_0 rfl ?_
        refine wa_laldc 2348 hC (vs41 hVC) ar41 rfl (by decide) dL_law_2347 rfl ?_
        refine wa_iload 2350 6 hC dL_law_2348 0 rfl rfl ?_
        refine wa_i2l 2351 hC dL_law_2350 rfl ?_
        refine wa_lcmp 2352 hC dL_law_2351 rfl ?_
        refine wa_lcmp_eq 2355 2357 hC dL_law_2352 rfl rfl h (fun h => ?_) (fun h => ?_)
        · refine wa_goto 2681 hC dL_law_2357 rfl ?_
          refine wa_pick [2, 3, 4, 5, 6] rfl ?_
          exact hk ρ V (k1 + 90) (k2 + 3000) hE hVC ⟨by omega, by omega⟩ (show (J A_1 Z_5) = _ by rw [sm1 h, sm2 h])
        · cases h
    · cases h
  refine wl_wrap 2293 hC [.ref (ρ 9 0), .int (xs (x4 + (1 : Int32)).toNatClampNeg), .long ((((xs (x4 + (2 : Int32)).toNatClampNeg).toInt64) <<< ((32 : Int32).toInt64 &&& 63)) ||| (((xs (x4 + (3 : Int32)).toNatClampNeg).toInt64) &&& (4294967295 : Int64))), .ref (ρ 41 0)] [] wr_monthsCovered (tL_monthsCovered E.2.1 hl9 (xs (x4 + (1 : Int32)).toNatClampNeg) ((((xs (x4 + (2 : Int32)).toNatClampNeg).toInt64) <<< ((32 : Int32).toInt64 &&& 63)) ||| (((xs (x4 + (3 : Int32)).toNatClampNeg).toInt64) &&& (4294967295 : Int64))) A hVC e_3) (Nat.le_of_ble_eq_true rfl) (Nat.le_of_ble_eq_true rfl) rfl (Nat.le_of_ble_eq_true rfl) dL_law_2290 rfl ⟨by omega, by omega⟩ rfl (fun ρ1 V1 hE9 hVC9 => ?_)
  rw [← (hE9 9 0 (vs9 hVC)).2, ← (hE9 10 0 (vs10 hVC)).2, ← (hE9 41 0 (vs41 hVC)).2]
  exact key ρ1 V1 hE9 hVC9
set_option maxRecDepth 20000 in
theorem wL_case35 {E : eU} {G : gU} {ρ0 ρ : Nat → Nat → Nat} {V0 V : Nat → Nat → Prop} {b L k1 k2 : Nat} {xs : Nat → Int32} {x4 : Int32} {A Z A' Z' : sM} (hC : CX E G cL_law 8 RL (some .boolean) 1312 601024 7293034) (hl9 : E.2.1.stackTraces = false) (hS : SC E G b L xs) (hVC : VC V) (hE : Ext ρ0 V0 ρ V) (hkk : k1 + 90 ≤ 601024 ∧ k2 + 3000 ≤ 7293034) (hk : ∀ ρ' V' j1 j2, Ext ρ0 V0 ρ' V' → VC V' → (j1 ≤ k1 + 90 ∧ j2 ≤ k2 + 3000) → ∀ {M : sM}, M = J A' Z' → WA E G ρ' V' j1 j2 M 2681 [(0, .ref b), (1, .ref (ρ' 9 0)), (2, .ref (ρ' 10 0)), (3, .ref (ρ' 41 0)), (4, .int x4)] []) (h : fL_case35 L xs x4 A Z = some (A', Z')) : WA E G ρ V k1 k2 (J A Z) 2360 [(0, .ref b), (1, .ref (ρ 9 0)), (2, .ref (ρ 10 0)), (3, .ref (ρ 41 0)), (4, .int x4)] [] := by
  obtain ⟨hkk1, hkk2⟩ := hkk
  rw [fL_case35] at h
  refine wa_aload_n 2361 1 hC dL_law_2360 rfl 1 rfl rfl ?_
  obtain ⟨r_2, e_1, h⟩ := bd_some h
  refine wa_callVl 2364 hC [] [] knX9_fund mvL_268 (tX9_fund E.2.1 A hVC e_1) (vs9 hVC) kc9 (Nat.le_of_ble_eq_true rfl) (Nat.le_of_ble_eq_true rfl) rfl (Nat.le_of_ble_eq_true rfl) dL_law_2361 rfl ⟨by omega, by omega⟩ rfl ?_
  refine wa_aload_n 2365 2 hC dL_law_2364 rfl 2 rfl rfl ?_
  obtain ⟨r_5, Z_4, e_3, h⟩ := bd2_some h
  refine wa_callVl 2368 hC [] [.long r_2] knX10_fund mvL_271 (tX10_fund E.2.1 Z hVC e_3) (vs10 hVC) kc10 (Nat.le_of_ble_eq_true rfl) (Nat.le_of_ble_eq_true rfl) rfl (Nat.le_of_ble_eq_true rfl) dL_law_2365 rfl ⟨by omega, by omega⟩ rfl ?_
  refine wa_lcmp 2369 hC dL_law_2368 rfl ?_
  refine wa_lcmp_eq 2372 2681 hC dL_law_2369 rfl rfl h (fun h => ?_) (fun h => ?_)
  · refine wa_pick [0, 1, 2, 3, 4] rfl ?_
    exact hk ρ V k1 k2 hE hVC ⟨by omega, by omega⟩ (show (J A Z_4) = _ by rw [sm1 h, sm2 h])
  · cases h
set_option maxRecDepth 20000 in
theorem wL_case36 {E : eU} {G : gU} {ρ0 ρ : Nat → Nat → Nat} {V0 V : Nat → Nat → Prop} {b L k1 k2 : Nat} {xs : Nat → Int32} {x4 : Int32} {A Z A' Z' : sM} (hC : CX E G cL_law 8 RL (some .boolean) 1312 601024 7293034) (hl9 : E.2.1.stackTraces = false) (hS : SC E G b L xs) (hVC : VC V) (hE : Ext ρ0 V0 ρ V) (hkk : k1 + 90 ≤ 601024 ∧ k2 + 3000 ≤ 7293034) (hk : ∀ ρ' V' j1 j2, Ext ρ0 V0 ρ' V' → VC V' → (j1 ≤ k1 + 90 ∧ j2 ≤ k2 + 3000) → ∀ {M : sM}, M = J A' Z' → WA E G ρ' V' j1 j2 M 2681 [(0, .ref b), (1, .ref (ρ' 9 0)), (2, .ref (ρ' 10 0)), (3, .ref (ρ' 41 0)), (4, .int x4)] []) (h : fL_case36 L xs x4 A Z = some (A', Z')) : WA E G ρ V k1 k2 (J A Z) 2374 [(0, .ref b), (1, .ref (ρ 9 0)), (2, .ref (ρ 10 0)), (3, .ref (ρ 41 0)), (4, .int x4)] [] := by
  obtain ⟨hkk1, hkk2⟩ := hkk
  rw [fL_case36] at h
  refine wa_aload_n 2375 1 hC dL_law_2374 rfl 1 rfl rfl ?_
  obtain ⟨r_2, e_1, h⟩ := bd_some h
  refine wa_callVl 2378 hC [] [] knX9_operatorAccount mvL_272 (tX9_operatorAccount E.2.1 A hVC e_1) (vs9 hVC) kc9 (Nat.le_of_ble_eq_true rfl) (Nat.le_of_ble_eq_true rfl) rfl (Nat.le_of_ble_eq_true rfl) dL_law_2375 rfl ⟨by omega, by omega⟩ rfl ?_
  refine wa_aload_n 2379 2 hC dL_law_2378 rfl 2 rfl rfl ?_
  obtain ⟨r_5, Z_4, e_3, h⟩ := bd2_some h
  refine wa_callVl 2382 hC [] [.long r_2] knX10_operatorAccount mvL_275 (tX10_operatorAccount E.2.1 Z hVC e_3) (vs10 hVC) kc10 (Nat.le_of_ble_eq_true rfl) (Nat.le_of_ble_eq_true rfl) rfl (Nat.le_of_ble_eq_true rfl) dL_law_2379 rfl ⟨by omega, by omega⟩ rfl ?_
  refine wa_lcmp 2383 hC dL_law_2382 rfl ?_
  refine wa_lcmp_eq 2386 2681 hC dL_law_2383 rfl rfl h (fun h => ?_) (fun h => ?_)
  · refine wa_pick [0, 1, 2, 3, 4] rfl ?_
    exact hk ρ V k1 k2 hE hVC ⟨by omega, by omega⟩ (show (J A Z_4) = _ by rw [sm1 h, sm2 h])
  · cases h
set_option maxRecDepth 20000 in
theorem wL_case37 {E : eU} {G : gU} {ρ0 ρ : Nat → Nat → Nat} {V0 V : Nat → Nat → Prop} {b L k1 k2 : Nat} {xs : Nat → Int32} {x4 : Int32} {A Z A' Z' : sM} (hC : CX E G cL_law 8 RL (some .boolean) 1312 601024 7293034) (hl9 : E.2.1.stackTraces = false) (hS : SC E G b L xs) (hVC : VC V) (hE : Ext ρ0 V0 ρ V) (hkk : k1 + 90 ≤ 601024 ∧ k2 + 3000 ≤ 7293034) (hk : ∀ ρ' V' j1 j2, Ext ρ0 V0 ρ' V' → VC V' → (j1 ≤ k1 + 90 ∧ j2 ≤ k2 + 3000) → ∀ {M : sM}, M = J A' Z' → WA E G ρ' V' j1 j2 M 2681 [(0, .ref b), (1, .ref (ρ' 9 0)), (2, .ref (ρ' 10 0)), (3, .ref (ρ' 41 0)), (4, .int x4)] []) (h : fL_case37 L xs x4 A Z = some (A', Z')) : WA E G ρ V k1 k2 (J A Z) 2388 [(0, .ref b), (1, .ref (ρ 9 0)), (2, .ref (ρ 10 0)), (3, .ref (ρ 41 0)), (4, .int x4)] [] := by
  obtain ⟨hkk1, hkk2⟩ := hkk
  rw [fL_case37] at h
  refine wa_aload_n 2389 1 hC dL_law_2388 rfl 1 rfl rfl ?_
  refine wa_aload_n 2390 0 hC dL_law_2389 rfl 0 rfl rfl ?_
  refine wa_iload 2392 4 hC dL_law_2390 4 rfl rfl ?_
  refine wa_iconst 2393 hC dL_law_2392 kc_1 rfl ?_
  refine wa_iadd 2394 hC dL_law_2393 rfl ?_
  obtain ⟨g_14, h⟩ := gd_some h
  refine wl_sld 2395 hC hS g_14 dL_law_2394 rfl ?_
  refine wa_aload_n 2396 0 hC dL_law_2395 rfl 0 rfl rfl ?_
  refine wa_iload 2398 4 hC dL_law_2396 4 rfl rfl ?_
  refine wa_iconst 2399 hC dL_law_2398 kc_2 rfl ?_
  refine wa_iadd 2400 hC dL_law_2399 rfl ?_
  obtain ⟨g_13, h⟩ := gd_some h
  refine wl_sld 2401 hC hS g_13 dL_law_2400 rfl ?_
  refine wa_aload_n 2402 0 hC dL_law_2401 rfl 0 rfl rfl ?_
  refine wa_iload 2404 4 hC dL_law_2402 4 rfl rfl ?_
  refine wa_iconst 2405 hC dL_law_2404 kc_3 rfl ?_
  refine wa_iadd 2406 hC dL_law_2405 rfl ?_
  obtain ⟨g_12, h⟩ := gd_some h
  refine wl_sld 2407 hC hS g_12 dL_law_2406 rfl ?_
  refine wa_aload_n 2408 3 hC dL_law_2407 rfl 3 rfl rfl ?_
  obtain ⟨r_2, A_1, e_3, h⟩ := bd2_some h
  have key : ∀ (ρ1 : Nat → Nat → Nat) (V1 : Nat → Nat → Prop), Ext ρ V ρ1 V1 → VC V1 → WA E G ρ1 V1 (k1 + 90) (k2 + 3000) (J A_1 Z) 2411 [(0, .ref b), (1, .ref (ρ1 9 0)), (2, .ref (ρ1 10 0)), (3, .ref (ρ1 41 0)), (4, .int x4)] [.int r_2] := by
    intro ρ V hE0 hVC
    have hE := Ext.trans hE hE0
    refine wa_istore (lv' := [(5, .int r_2), (0, .ref b), (1, .ref (ρ 9 0)), (2, .ref (ρ 10 0)), (3, .ref (ρ 41 0)), (4, .int x4)]) 2413 5 hC dL_law_2411 rfl (by decide) rfl rfl ?_
    refine wa_aload_n 2414 2 hC dL_law_2413 rfl 3 rfl rfl ?_
    refine wa_aload_n 2415 0 hC dL_law_2414 rfl 1 rfl rfl ?_
    refine wa_iload 2417 4 hC dL_law_2415 5 rfl rfl ?_
    refine wa_iconst 2418 hC dL_law_2417 kc_1 rfl ?_
    refine wa_iadd 2419 hC dL_law_2418 rfl ?_
    obtain ⟨g_11, h⟩ := gd_some h
    refine wl_sld 2420 hC hS g_11 dL_law_2419 rfl ?_
    refine wa_aload_n 2421 0 hC dL_law_2420 rfl 1 rfl rfl ?_
    refine wa_iload 2423 4 hC dL_law_2421 5 rfl rfl ?_
    refine wa_iconst 2424 hC dL_law_2423 kc_2 rfl ?_
    refine wa_iadd 2425 hC dL_law_2424 rfl ?_
    obtain ⟨g_10, h⟩ := gd_some h
    refine wl_sld 2426 hC hS g_10 dL_law_2425 rfl ?_
    refine wa_aload_n 2427 0 hC dL_law_2426 rfl 1 rfl rfl ?_
    refine wa_iload 2429 4 hC dL_law_2427 5 rfl rfl ?_
    refine wa_iconst 2430 hC dL_law_2429 kc_3 rfl ?_
    refine wa_iadd 2431 hC dL_law_2430 rfl ?_
    obtain ⟨g_9, h⟩ := gd_some h
    refine wl_sld 2432 hC hS g_9 dL_law_2431 rfl ?_
    obtain ⟨r_6, Z_5, e_4, h⟩ := bd2_some h
    refine wa_callVi 2435 hC [.int (xs (x4 + (1 : Int32)).toNatClampNeg), .int (xs (x4 + (2 : Int32)).toNatClampNeg), .int (xs (x4 + (3 : Int32)).toNatClampNeg)] [] knX10_correct mvL_278 (tX10_correct E.2.1 (xs (x4 + (1 : Int32)).toNatClampNeg) (xs (x4 + (2 : Int32)).toNatClampNeg) (xs (x4 + (3 : Int32)).toNatClampNeg) Z hVC e_4) (vs10 hVC) kc10 (Nat.le_of_ble_eq_true rfl) (Nat.le_of_ble_eq_true rfl) rfl (Nat.le_of_ble_eq_true rfl) dL_law_2432 rfl ⟨by omega, by omega⟩ rfl ?_
    refine wa_istore (lv' := [(6, .int r_6), (5, .int r_2), (0, .ref b), (1, .ref (ρ 9 0)), (2, .ref (ρ 10 0)), (3, .ref (ρ 41 0)), (4, .int x4)]) 2437 6 hC dL_law_2435 rfl (by decide) rfl rfl ?_
    refine wa_aload_n 2438 2 hC dL_law_2437 rfl 4 rfl rfl ?_
    obtain ⟨r_8, e_7, h⟩ := bd_some h
    refine wa_callVi 2441 hC [] [] knX10_thrown mvL_148 (tX10_thrown E.2.1 Z_5 hVC e_7) (vs10 hVC) kc10 (Nat.le_of_ble_eq_true rfl) (Nat.le_of_ble_eq_true rfl) rfl (Nat.le_of_ble_eq_true rfl) dL_law_2438 rfl ⟨by omega, by omega⟩ rfl ?_
    refine wa_iload 2443 5 hC dL_law_2441 1 rfl rfl ?_
    refine wa_icmp_eq 2446 2448 hC dL_law_2443 rfl rfl h (fun h => ?_) (fun h => ?_)
    · refine wa_iload 2450 5 hC dL_law_2448 1 rfl rfl ?_
      refine wa_if_ne 2453 2465 hC dL_law_2450 rfl rfl h (fun h => ?_) (fun h => ?_)
      · refine wa_goto 2681 hC dL_law_2465 rfl ?_
        refine wa_pick [2, 3, 4, 5, 6] rfl ?_
        exact hk ρ V (k1 + 90) (k2 + 3000) hE hVC ⟨by omega, by omega⟩ (show (J A_1 Z_5) = _ by rw [sm1 h, sm2 h])
      · refine wa_aload_n 2454 3 hC dL_law_2453 rfl 5 rfl rfl ?_
        refine wa_iconst 2455 hC dL_law_2454 kc_0 rfl ?_
        refine wa_laldc 2456 hC (vs41 hVC) ar41 rfl (by decide) dL_law_2455 rfl ?_
        refine wa_iload 2458 6 hC dL_law_2456 0 rfl rfl ?_
        refine wa_i2l 2459 hC dL_law_2458 rfl ?_
        refine wa_lcmp 2460 hC dL_law_2459 rfl ?_
        refine wa_lcmp_eq 2463 2465 hC dL_law_2460 rfl rfl h (fun h => ?_) (fun h => ?_)
        · refine wa_goto 2681 hC dL_law_2465 rfl ?_
          refine wa_pick [2, 3, 4, 5, 6] rfl ?_
          exact hk ρ V (k1 + 90) (k2 + 3000) hE hVC ⟨by omega, by omega⟩ (show (J A_1 Z_5) = _ by rw [sm1 h, sm2 h])
        · cases h
    · cases h
  refine wl_wrap 2411 hC [.ref (ρ 9 0), .int (xs (x4 + (1 : Int32)).toNatClampNeg), .int (xs (x4 + (2 : Int32)).toNatClampNeg), .int (xs (x4 + (3 : Int32)).toNatClampNeg), .ref (ρ 41 0)] [] wr_correct (tL_correct E.2.1 hl9 (xs (x4 + (1 : Int32)).toNatClampNeg) (xs (x4 + (2 : Int32)).toNatClampNeg) (xs (x4 + (3 : Int32)).toNatClampNeg) A hVC e_3) (Nat.le_of_ble_eq_true rfl) (Nat.le_of_ble_eq_true rfl) rfl (Nat.le_of_ble_eq_true rfl) dL_law_2408 rfl ⟨by omega, by omega⟩ rfl (fun ρ1 V1 hE9 hVC9 => ?_)
  rw [← (hE9 9 0 (vs9 hVC)).2, ← (hE9 10 0 (vs10 hVC)).2, ← (hE9 41 0 (vs41 hVC)).2]
  exact key ρ1 V1 hE9 hVC9
set_option maxRecDepth 20000 in
theorem wL_case38 {E : eU} {G : gU} {ρ0 ρ : Nat → Nat → Nat} {V0 V : Nat → Nat → Prop} {b L k1 k2 : Nat} {xs : Nat → Int32} {x4 : Int32} {A Z A' Z' : sM} (hC : CX E G cL_law 8 RL (some .boolean) 1312 601024 7293034) (hl9 : E.2.1.stackTraces = false) (hS : SC E G b L xs) (hVC : VC V) (hE : Ext ρ0 V0 ρ V) (hkk : k1 + 90 ≤ 601024 ∧ k2 + 3000 ≤ 7293034) (hk : ∀ ρ' V' j1 j2, Ext ρ0 V0 ρ' V' → VC V' → (j1 ≤ k1 + 90 ∧ j2 ≤ k2 + 3000) → ∀ {M : sM}, M = J A' Z' → WA E G ρ' V' j1 j2 M 2681 [(0, .ref b), (1, .ref (ρ' 9 0)), (2, .ref (ρ' 10 0)), (3, .ref (ρ' 41 0)), (4, .int x4)] []) (h : fL_case38 L xs x4 A Z = some (A', Z')) : WA E G ρ V k1 k2 (J A Z) 2468 [(0, .ref b), (1, .ref (ρ 9 0)), (2, .ref (ρ 10 0)), (3, .ref (ρ 41 0)), (4, .int x4)] [] := by
  obtain ⟨hkk1, hkk2⟩ := hkk
  rw [fL_case38] at h
  refine wa_aload_n 2469 1 hC dL_law_2468 rfl 1 rfl rfl ?_
  rcases xc_some h with ⟨r_3, A_2, e_1, h⟩ | ⟨r_3, A_2, e_1, h⟩
  rotate_left
  · cases h
  have key : ∀ (ρ1 : Nat → Nat → Nat) (V1 : Nat → Nat → Prop), Ext ρ V ρ1 V1 → VC V1 → WA E G ρ1 V1 (k1 + 90) (k2 + 3000) (J A_2 Z) 2472 [(0, .ref b), (1, .ref (ρ1 9 0)), (2, .ref (ρ1 10 0)), (3, .ref (ρ1 41 0)), (4, .int x4)] [.long r_3] := by
    intro ρ V hE0 hVC
    have hE := Ext.trans hE hE0
    refine wa_aload_n 2473 2 hC dL_law_2472 rfl 2 rfl rfl ?_
    obtain ⟨r_6, Z_5, e_4, h⟩ := bd2_some h
    refine wa_callVl 2476 hC [] [.long r_3] knX10_trueUp mvL_282 (tX10_trueUp E.2.1 Z hVC e_4) (vs10 hVC) kc10 (Nat.le_of_ble_eq_true rfl) (Nat.le_of_ble_eq_true rfl) rfl (Nat.le_of_ble_eq_true rfl) dL_law_2473 rfl ⟨by omega, by omega⟩ rfl ?_
    refine wa_lcmp 2477 hC dL_law_2476 rfl ?_
    refine wa_lcmp_eq 2480 2681 hC dL_law_2477 rfl rfl h (fun h => ?_) (fun h => ?_)
    · refine wa_pick [0, 1, 2, 3, 4] rfl ?_
      exact hk ρ V (k1 + 90) (k2 + 3000) hE hVC ⟨by omega, by omega⟩ (show (J A_2 Z_5) = _ by rw [sm1 h, sm2 h])
    · cases h
  refine wl_call 2472 hC [] [] knX9_trueUp mwL_279 (tX9_trueUp E.2.1 hl9 A hVC e_1) (vs9 hVC) kc9 (Nat.le_of_ble_eq_true rfl) (Nat.le_of_ble_eq_true rfl) rfl (Nat.le_of_ble_eq_true rfl) dL_law_2469 rfl ⟨by omega, by omega⟩ rfl (st2 := [.long r_3]) rfl (fun ρ1 V1 hE9 hVC9 => ?_)
  rw [← (hE9 9 0 (vs9 hVC)).2, ← (hE9 10 0 (vs10 hVC)).2, ← (hE9 41 0 (vs41 hVC)).2]
  exact key ρ1 V1 hE9 hVC9
set_option maxRecDepth 20000 in
theorem wL_case39 {E : eU} {G : gU} {ρ0 ρ : Nat → Nat → Nat} {V0 V : Nat → Nat → Prop} {b L k1 k2 : Nat} {xs : Nat → Int32} {x4 : Int32} {A Z A' Z' : sM} (hC : CX E G cL_law 8 RL (some .boolean) 1312 601024 7293034) (hl9 : E.2.1.stackTraces = false) (hS : SC E G b L xs) (hVC : VC V) (hE : Ext ρ0 V0 ρ V) (hkk : k1 + 90 ≤ 601024 ∧ k2 + 3000 ≤ 7293034) (hk : ∀ ρ' V' j1 j2, Ext ρ0 V0 ρ' V' → VC V' → (j1 ≤ k1 + 90 ∧ j2 ≤ k2 + 3000) → ∀ {M : sM}, M = J A' Z' → WA E G ρ' V' j1 j2 M 2681 [(0, .ref b), (1, .ref (ρ' 9 0)), (2, .ref (ρ' 10 0)), (3, .ref (ρ' 41 0)), (4, .int x4)] []) (h : fL_case39 L xs x4 A Z = some (A', Z')) : WA E G ρ V k1 k2 (J A Z) 2482 [(0, .ref b), (1, .ref (ρ 9 0)), (2, .ref (ρ 10 0)), (3, .ref (ρ 41 0)), (4, .int x4)] [] := by
  obtain ⟨hkk1, hkk2⟩ := hkk
  rw [fL_case39] at h
  refine wa_aload_n 2483 1 hC dL_law_2482 rfl 1 rfl rfl ?_
  refine wa_aload_n 2484 3 hC dL_law_2483 rfl 3 rfl rfl ?_
  obtain ⟨r_2, A_1, e_3, h⟩ := bd2_some h
  have key : ∀ (ρ1 : Nat → Nat → Nat) (V1 : Nat → Nat → Prop), Ext ρ V ρ1 V1 → VC V1 → WA E G ρ1 V1 (k1 + 90) (k2 + 3000) (J A_1 Z) 2487 [(0, .ref b), (1, .ref (ρ1 9 0)), (2, .ref (ρ1 10 0)), (3, .ref (ρ1 41 0)), (4, .int x4)] [.int r_2] := by
    intro ρ V hE0 hVC
    have hE := Ext.trans hE hE0
    refine wa_istore (lv' := [(5, .int r_2), (0, .ref b), (1, .ref (ρ 9 0)), (2, .ref (ρ 10 0)), (3, .ref (ρ 41 0)), (4, .int x4)]) 2489 5 hC dL_law_2487 rfl (by decide) rfl rfl ?_
    refine wa_aload_n 2490 2 hC dL_law_2489 rfl 3 rfl rfl ?_
    obtain ⟨r_6, Z_5, e_4, h⟩ := bd2_some h
    refine wa_callVl 2493 hC [] [] knX10_shareFund mvL_285 (tX10_shareFund E.2.1 Z hVC e_4) (vs10 hVC) kc10 (Nat.le_of_ble_eq_true rfl) (Nat.le_of_ble_eq_true rfl) rfl (Nat.le_of_ble_eq_true rfl) dL_law_2490 rfl ⟨by omega, by omega⟩ rfl ?_
    refine wa_lstore (lv' := [(6, .long r_6), (5, .int r_2), (0, .ref b), (1, .ref (ρ 9 0)), (2, .ref (ρ 10 0)), (3, .ref (ρ 41 0)), (4, .int x4)]) 2495 6 hC dL_law_2493 rfl (by decide) rfl rfl ?_
    refine wa_aload_n 2496 2 hC dL_law_2495 rfl 4 rfl rfl ?_
    obtain ⟨r_8, e_7, h⟩ := bd_some h
    refine wa_callVi 2499 hC [] [] knX10_thrown mvL_148 (tX10_thrown E.2.1 Z_5 hVC e_7) (vs10 hVC) kc10 (Nat.le_of_ble_eq_true rfl) (Nat.le_of_ble_eq_true rfl) rfl (Nat.le_of_ble_eq_true rfl) dL_law_2496 rfl ⟨by omega, by omega⟩ rfl ?_
    refine wa_iload 2501 5 hC dL_law_2499 1 rfl rfl ?_
    refine wa_icmp_eq 2504 2506 hC dL_law_2501 rfl rfl h (fun h => ?_) (fun h => ?_)
    · refine wa_iload 2508 5 hC dL_law_2506 1 rfl rfl ?_
      refine wa_if_ne 2511 2522 hC dL_law_2508 rfl rfl h (fun h => ?_) (fun h => ?_)
      · refine wa_goto 2681 hC dL_law_2522 rfl ?_
        refine wa_pick [2, 3, 4, 5, 6] rfl ?_
        exact hk ρ V (k1 + 90) (k2 + 3000) hE hVC ⟨by omega, by omega⟩ (show (J A_1 Z_5) = _ by rw [sm1 h, sm2 h])
      · refine wa_aload_n 2512 3 hC dL_law_2511 rfl 5 rfl rfl ?_
        refine wa_iconst 2513 hC dL_law_2512 kc_0 rfl ?_
        refine wa_laldc 2514 hC (vs41 hVC) ar41 rfl (by decide) dL_law_2513 rfl ?_
        refine wa_lload 2516 6 hC dL_law_2514 0 rfl rfl ?_
        refine wa_lcmp 2517 hC dL_law_2516 rfl ?_
        refine wa_lcmp_eq 2520 2522 hC dL_law_2517 rfl rfl h (fun h => ?_) (fun h => ?_)
        · refine wa_goto 2681 hC dL_law_2522 rfl ?_
          refine wa_pick [2, 3, 4, 5, 6] rfl ?_
          exact hk ρ V (k1 + 90) (k2 + 3000) hE hVC ⟨by omega, by omega⟩ (show (J A_1 Z_5) = _ by rw [sm1 h, sm2 h])
        · cases h
    · cases h
  refine wl_wrap 2487 hC [.ref (ρ 9 0), .ref (ρ 41 0)] [] wr_shareFund (tL_shareFund E.2.1 hl9 A hVC e_3) (Nat.le_of_ble_eq_true rfl) (Nat.le_of_ble_eq_true rfl) rfl (Nat.le_of_ble_eq_true rfl) dL_law_2484 rfl ⟨by omega, by omega⟩ rfl (fun ρ1 V1 hE9 hVC9 => ?_)
  rw [← (hE9 9 0 (vs9 hVC)).2, ← (hE9 10 0 (vs10 hVC)).2, ← (hE9 41 0 (vs41 hVC)).2]
  exact key ρ1 V1 hE9 hVC9
set_option maxRecDepth 20000 in
theorem wL_case40 {E : eU} {G : gU} {ρ0 ρ : Nat → Nat → Nat} {V0 V : Nat → Nat → Prop} {b L k1 k2 : Nat} {xs : Nat → Int32} {x4 : Int32} {A Z A' Z' : sM} (hC : CX E G cL_law 8 RL (some .boolean) 1312 601024 7293034) (hl9 : E.2.1.stackTraces = false) (hS : SC E G b L xs) (hVC : VC V) (hE : Ext ρ0 V0 ρ V) (hkk : k1 + 90 ≤ 601024 ∧ k2 + 3000 ≤ 7293034) (hk : ∀ ρ' V' j1 j2, Ext ρ0 V0 ρ' V' → VC V' → (j1 ≤ k1 + 90 ∧ j2 ≤ k2 + 3000) → ∀ {M : sM}, M = J A' Z' → WA E G ρ' V' j1 j2 M 2681 [(0, .ref b), (1, .ref (ρ' 9 0)), (2, .ref (ρ' 10 0)), (3, .ref (ρ' 41 0)), (4, .int x4)] []) (h : fL_case40 L xs x4 A Z = some (A', Z')) : WA E G ρ V k1 k2 (J A Z) 2525 [(0, .ref b), (1, .ref (ρ 9 0)), (2, .ref (ρ 10 0)), (3, .ref (ρ 41 0)), (4, .int x4)] [] := by
  obtain ⟨hkk1, hkk2⟩ := hkk
  rw [fL_case40] at h
  refine wa_aload_n 2526 1 hC dL_law_2525 rfl 1 rfl rfl ?_
  refine wa_aload_n 2527 0 hC dL_law_2526 rfl 0 rfl rfl ?_
  refine wa_iload 2529 4 hC dL_law_2527 4 rfl rfl ?_
  refine wa_iconst 2530 hC dL_law_2529 kc_1 rfl ?_
  refine wa_iadd 2531 hC dL_law_2530 rfl ?_
  obtain ⟨g_10, h⟩ := gd_some h
  refine wl_sld 2532 hC hS g_10 dL_law_2531 rfl ?_
  refine wa_aload_n 2533 3 hC dL_law_2532 rfl 3 rfl rfl ?_
  obtain ⟨r_2, A_1, e_3, h⟩ := bd2_some h
  have key : ∀ (ρ1 : Nat → Nat → Nat) (V1 : Nat → Nat → Prop), Ext ρ V ρ1 V1 → VC V1 → WA E G ρ1 V1 (k1 + 90) (k2 + 3000) (J A_1 Z) 2536 [(0, .ref b), (1, .ref (ρ1 9 0)), (2, .ref (ρ1 10 0)), (3, .ref (ρ1 41 0)), (4, .int x4)] [.int r_2] := by
    intro ρ V hE0 hVC
    have hE := Ext.trans hE hE0
    refine wa_istore (lv' := [(5, .int r_2), (0, .ref b), (1, .ref (ρ 9 0)), (2, .ref (ρ 10 0)), (3, .ref (ρ 41 0)), (4, .int x4)]) 2538 5 hC dL_law_2536 rfl (by decide) rfl rfl ?_
    refine wa_aload_n 2539 2 hC dL_law_2538 rfl 3 rfl rfl ?_
    refine wa_aload_n 2540 0 hC dL_law_2539 rfl 1 rfl rfl ?_
    refine wa_iload 2542 4 hC dL_law_2540 5 rfl rfl ?_
    refine wa_iconst 2543 hC dL_law_2542 kc_1 rfl ?_
    refine wa_iadd 2544 hC dL_law_2543 rfl ?_
    obtain ⟨g_9, h⟩ := gd_some h
    refine wl_sld 2545 hC hS g_9 dL_law_2544 rfl ?_
    obtain ⟨r_6, Z_5, e_4, h⟩ := bd2_some h
    refine wa_callVi 2548 hC [.int (xs (x4 + (1 : Int32)).toNatClampNeg)] [] knX10_describe mvL_288 (tX10_describe E.2.1 (xs (x4 + (1 : Int32)).toNatClampNeg) Z hVC e_4) (vs10 hVC) kc10 (Nat.le_of_ble_eq_true rfl) (Nat.le_of_ble_eq_true rfl) rfl (Nat.le_of_ble_eq_true rfl) dL_law_2545 rfl ⟨by omega, by omega⟩ rfl ?_
    refine wa_istore (lv' := [(6, .int r_6), (5, .int r_2), (0, .ref b), (1, .ref (ρ 9 0)), (2, .ref (ρ 10 0)), (3, .ref (ρ 41 0)), (4, .int x4)]) 2550 6 hC dL_law_2548 rfl (by decide) rfl rfl ?_
    refine wa_aload_n 2551 2 hC dL_law_2550 rfl 4 rfl rfl ?_
    obtain ⟨r_8, e_7, h⟩ := bd_some h
    refine wa_callVi 2554 hC [] [] knX10_thrown mvL_148 (tX10_thrown E.2.1 Z_5 hVC e_7) (vs10 hVC) kc10 (Nat.le_of_ble_eq_true rfl) (Nat.le_of_ble_eq_true rfl) rfl (Nat.le_of_ble_eq_true rfl) dL_law_2551 rfl ⟨by omega, by omega⟩ rfl ?_
    refine wa_iload 2556 5 hC dL_law_2554 1 rfl rfl ?_
    refine wa_icmp_eq 2559 2561 hC dL_law_2556 rfl rfl h (fun h => ?_) (fun h => ?_)
    · refine wa_iload 2563 5 hC dL_law_2561 1 rfl rfl ?_
      refine wa_if_ne 2566 2578 hC dL_law_2563 rfl rfl h (fun h => ?_) (fun h => ?_)
      · refine wa_goto 2681 hC dL_law_2578 rfl ?_
        refine wa_pick [2, 3, 4, 5, 6] rfl ?_
        exact hk ρ V (k1 + 90) (k2 + 3000) hE hVC ⟨by omega, by omega⟩ (show (J A_1 Z_5) = _ by rw [sm1 h, sm2 h])
      · refine wa_aload_n 2567 3 hC dL_law_2566 rfl 5 rfl rfl ?_
        refine wa_iconst 2568 hC dL_law_2567 kc_0 rfl ?_
        refine wa_laldc 2569 hC (vs41 hVC) ar41 rfl (by decide) dL_law_2568 rfl ?_
        refine wa_iload 2571 6 hC dL_law_2569 0 rfl rfl ?_
        refine wa_i2l 2572 hC dL_law_2571 rfl ?_
        refine wa_lcmp 2573 hC dL_law_2572 rfl ?_
        refine wa_lcmp_eq 2576 2578 hC dL_law_2573 rfl rfl h (fun h => ?_) (fun h => ?_)
        · refine wa_goto 2681 hC dL_law_2578 rfl ?_
          refine wa_pick [2, 3, 4, 5, 6] rfl ?_
          exact hk ρ V (k1 + 90) (k2 + 3000) hE hVC ⟨by omega, by omega⟩ (show (J A_1 Z_5) = _ by rw [sm1 h, sm2 h])
        · cases h
    · cases h
  refine wl_wrap 2536 hC [.ref (ρ 9 0), .int (xs (x4 + (1 : Int32)).toNatClampNeg), .ref (ρ 41 0)] [] wr_describe (tL_describe E.2.1 hl9 (xs (x4 + (1 : Int32)).toNatClampNeg) A hVC e_3) (Nat.le_of_ble_eq_true rfl) (Nat.le_of_ble_eq_true rfl) rfl (Nat.le_of_ble_eq_true rfl) dL_law_2533 rfl ⟨by omega, by omega⟩ rfl (fun ρ1 V1 hE9 hVC9 => ?_)
  rw [← (hE9 9 0 (vs9 hVC)).2, ← (hE9 10 0 (vs10 hVC)).2, ← (hE9 41 0 (vs41 hVC)).2]
  exact key ρ1 V1 hE9 hVC9
set_option maxRecDepth 20000 in
theorem wL_case41 {E : eU} {G : gU} {ρ0 ρ : Nat → Nat → Nat} {V0 V : Nat → Nat → Prop} {b L k1 k2 : Nat} {xs : Nat → Int32} {x4 : Int32} {A Z A' Z' : sM} (hC : CX E G cL_law 8 RL (some .boolean) 1312 601024 7293034) (hl9 : E.2.1.stackTraces = false) (hS : SC E G b L xs) (hVC : VC V) (hE : Ext ρ0 V0 ρ V) (hkk : k1 + 90 ≤ 601024 ∧ k2 + 3000 ≤ 7293034) (hk : ∀ ρ' V' j1 j2, Ext ρ0 V0 ρ' V' → VC V' → (j1 ≤ k1 + 90 ∧ j2 ≤ k2 + 3000) → ∀ {M : sM}, M = J A' Z' → WA E G ρ' V' j1 j2 M 2681 [(0, .ref b), (1, .ref (ρ' 9 0)), (2, .ref (ρ' 10 0)), (3, .ref (ρ' 41 0)), (4, .int x4)] []) (h : fL_case41 L xs x4 A Z = some (A', Z')) : WA E G ρ V k1 k2 (J A Z) 2581 [(0, .ref b), (1, .ref (ρ 9 0)), (2, .ref (ρ 10 0)), (3, .ref (ρ 41 0)), (4, .int x4)] [] := by
  obtain ⟨hkk1, hkk2⟩ := hkk
  rw [fL_case41] at h
  refine wa_aload_n 2582 1 hC dL_law_2581 rfl 1 rfl rfl ?_
  refine wa_aload_n 2583 0 hC dL_law_2582 rfl 0 rfl rfl ?_
  refine wa_iload 2585 4 hC dL_law_2583 4 rfl rfl ?_
  refine wa_iconst 2586 hC dL_law_2585 kc_1 rfl ?_
  refine wa_iadd 2587 hC dL_law_2586 rfl ?_
  obtain ⟨g_10, h⟩ := gd_some h
  refine wl_sld 2588 hC hS g_10 dL_law_2587 rfl ?_
  refine wa_aload_n 2589 3 hC dL_law_2588 rfl 3 rfl rfl ?_
  obtain ⟨r_2, A_1, e_3, h⟩ := bd2_some h
  have key : ∀ (ρ1 : Nat → Nat → Nat) (V1 : Nat → Nat → Prop), Ext ρ V ρ1 V1 → VC V1 → WA E G ρ1 V1 (k1 + 90) (k2 + 3000) (J A_1 Z) 2592 [(0, .ref b), (1, .ref (ρ1 9 0)), (2, .ref (ρ1 10 0)), (3, .ref (ρ1 41 0)), (4, .int x4)] [.int r_2] := by
    intro ρ V hE0 hVC
    have hE := Ext.trans hE hE0
    refine wa_istore (lv' := [(5, .int r_2), (0, .ref b), (1, .ref (ρ 9 0)), (2, .ref (ρ 10 0)), (3, .ref (ρ 41 0)), (4, .int x4)]) 2594 5 hC dL_law_2592 rfl (by decide) rfl rfl ?_
    refine wa_aload_n 2595 2 hC dL_law_2594 rfl 3 rfl rfl ?_
    refine wa_aload_n 2596 0 hC dL_law_2595 rfl 1 rfl rfl ?_
    refine wa_iload 2598 4 hC dL_law_2596 5 rfl rfl ?_
    refine wa_iconst 2599 hC dL_law_2598 kc_1 rfl ?_
    refine wa_iadd 2600 hC dL_law_2599 rfl ?_
    obtain ⟨g_9, h⟩ := gd_some h
    refine wl_sld 2601 hC hS g_9 dL_law_2600 rfl ?_
    obtain ⟨r_6, Z_5, e_4, h⟩ := bd2_some h
    refine wa_callVi 2604 hC [.int (xs (x4 + (1 : Int32)).toNatClampNeg)] [] knX10_describedByte mvL_291 (tX10_describedByte E.2.1 (xs (x4 + (1 : Int32)).toNatClampNeg) Z hVC e_4) (vs10 hVC) kc10 (Nat.le_of_ble_eq_true rfl) (Nat.le_of_ble_eq_true rfl) rfl (Nat.le_of_ble_eq_true rfl) dL_law_2601 rfl ⟨by omega, by omega⟩ rfl ?_
    refine wa_istore (lv' := [(6, .int r_6), (5, .int r_2), (0, .ref b), (1, .ref (ρ 9 0)), (2, .ref (ρ 10 0)), (3, .ref (ρ 41 0)), (4, .int x4)]) 2606 6 hC dL_law_2604 rfl (by decide) rfl rfl ?_
    refine wa_aload_n 2607 2 hC dL_law_2606 rfl 4 rfl rfl ?_
    obtain ⟨r_8, e_7, h⟩ := bd_some h
    refine wa_callVi 2610 hC [] [] knX10_thrown mvL_148 (tX10_thrown E.2.1 Z_5 hVC e_7) (vs10 hVC) kc10 (Nat.le_of_ble_eq_true rfl) (Nat.le_of_ble_eq_true rfl) rfl (Nat.le_of_ble_eq_true rfl) dL_law_2607 rfl ⟨by omega, by omega⟩ rfl ?_
    refine wa_iload 2612 5 hC dL_law_2610 1 rfl rfl ?_
    refine wa_icmp_eq 2615 2617 hC dL_law_2612 rfl rfl h (fun h => ?_) (fun h => ?_)
    · refine wa_iload 2619 5 hC dL_law_2617 1 rfl rfl ?_
      refine wa_if_ne 2622 2634 hC dL_law_2619 rfl rfl h (fun h => ?_) (fun h => ?_)
      · refine wa_goto 2681 hC dL_law_2634 rfl ?_
        refine wa_pick [2, 3, 4, 5, 6] rfl ?_
        exact hk ρ V (k1 + 90) (k2 + 3000) hE hVC ⟨by omega, by omega⟩ (show (J A_1 Z_5) = _ by rw [sm1 h, sm2 h])
      · refine wa_aload_n 2623 3 hC dL_law_2622 rfl 5 rfl rfl ?_
        refine wa_iconst 2624 hC dL_law_2623 kc_0 rfl ?_
        refine wa_laldc 2625 hC (vs41 hVC) ar41 rfl (by decide) dL_law_2624 rfl ?_
        refine wa_iload 2627 6 hC dL_law_2625 0 rfl rfl ?_
        refine wa_i2l 2628 hC dL_law_2627 rfl ?_
        refine wa_lcmp 2629 hC dL_law_2628 rfl ?_
        refine wa_lcmp_eq 2632 2634 hC dL_law_2629 rfl rfl h (fun h => ?_) (fun h => ?_)
        · refine wa_goto 2681 hC dL_law_2634 rfl ?_
          refine wa_pick [2, 3, 4, 5, 6] rfl ?_
          exact hk ρ V (k1 + 90) (k2 + 3000) hE hVC ⟨by omega, by omega⟩ (show (J A_1 Z_5) = _ by rw [sm1 h, sm2 h])
        · cases h
    · cases h
  refine wl_wrap 2592 hC [.ref (ρ 9 0), .int (xs (x4 + (1 : Int32)).toNatClampNeg), .ref (ρ 41 0)] [] wr_describedByte (tL_describedByte E.2.1 hl9 (xs (x4 + (1 : Int32)).toNatClampNeg) A hVC e_3) (Nat.le_of_ble_eq_true rfl) (Nat.le_of_ble_eq_true rfl) rfl (Nat.le_of_ble_eq_true rfl) dL_law_2589 rfl ⟨by omega, by omega⟩ rfl (fun ρ1 V1 hE9 hVC9 => ?_)
  rw [← (hE9 9 0 (vs9 hVC)).2, ← (hE9 10 0 (vs10 hVC)).2, ← (hE9 41 0 (vs41 hVC)).2]
  exact key ρ1 V1 hE9 hVC9
set_option maxRecDepth 20000 in
theorem wL_case42 {E : eU} {G : gU} {ρ0 ρ : Nat → Nat → Nat} {V0 V : Nat → Nat → Prop} {b L k1 k2 : Nat} {xs : Nat → Int32} {x4 : Int32} {A Z A' Z' : sM} (hC : CX E G cL_law 8 RL (some .boolean) 1312 601024 7293034) (hl9 : E.2.1.stackTraces = false) (hS : SC E G b L xs) (hVC : VC V) (hE : Ext ρ0 V0 ρ V) (hkk : k1 + 90 ≤ 601024 ∧ k2 + 3000 ≤ 7293034) (hk : ∀ ρ' V' j1 j2, Ext ρ0 V0 ρ' V' → VC V' → (j1 ≤ k1 + 90 ∧ j2 ≤ k2 + 3000) → ∀ {M : sM}, M = J A' Z' → WA E G ρ' V' j1 j2 M 2681 [(0, .ref b), (1, .ref (ρ' 9 0)), (2, .ref (ρ' 10 0)), (3, .ref (ρ' 41 0)), (4, .int x4)] []) (h : fL_case42 L xs x4 A Z = some (A', Z')) : WA E G ρ V k1 k2 (J A Z) 2637 [(0, .ref b), (1, .ref (ρ 9 0)), (2, .ref (ρ 10 0)), (3, .ref (ρ 41 0)), (4, .int x4)] [] := by
  obtain ⟨hkk1, hkk2⟩ := hkk
  rw [fL_case42] at h
  refine wa_aload_n 2638 1 hC dL_law_2637 rfl 1 rfl rfl ?_
  refine wa_aload_n 2639 3 hC dL_law_2638 rfl 3 rfl rfl ?_
  obtain ⟨r_2, A_1, e_3, h⟩ := bd2_some h
  have key : ∀ (ρ1 : Nat → Nat → Nat) (V1 : Nat → Nat → Prop), Ext ρ V ρ1 V1 → VC V1 → WA E G ρ1 V1 (k1 + 90) (k2 + 3000) (J A_1 Z) 2642 [(0, .ref b), (1, .ref (ρ1 9 0)), (2, .ref (ρ1 10 0)), (3, .ref (ρ1 41 0)), (4, .int x4)] [.int r_2] := by
    intro ρ V hE0 hVC
    have hE := Ext.trans hE hE0
    refine wa_istore (lv' := [(5, .int r_2), (0, .ref b), (1, .ref (ρ 9 0)), (2, .ref (ρ 10 0)), (3, .ref (ρ 41 0)), (4, .int x4)]) 2644 5 hC dL_law_2642 rfl (by decide) rfl rfl ?_
    refine wa_aload_n 2645 2 hC dL_law_2644 rfl 3 rfl rfl ?_
    obtain ⟨r_6, Z_5, e_4, h⟩ := bd2_some h
    refine wa_callVi 2648 hC [] [] knX10_undo mvL_294 (tX10_undo E.2.1 Z hVC e_4) (vs10 hVC) kc10 (Nat.le_of_ble_eq_true rfl) (Nat.le_of_ble_eq_true rfl) rfl (Nat.le_of_ble_eq_true rfl) dL_law_2645 rfl ⟨by omega, by omega⟩ rfl ?_
    refine wa_istore (lv' := [(6, .int r_6), (5, .int r_2), (0, .ref b), (1, .ref (ρ 9 0)), (2, .ref (ρ 10 0)), (3, .ref (ρ 41 0)), (4, .int x4)]) 2650 6 hC dL_law_2648 rfl (by decide) rfl rfl ?_
    refine wa_aload_n 2651 2 hC dL_law_2650 rfl 4 rfl rfl ?_
    obtain ⟨r_8, e_7, h⟩ := bd_some h
    refine wa_callVi 2654 hC [] [] knX10_thrown mvL_148 (tX10_thrown E.2.1 Z_5 hVC e_7) (vs10 hVC) kc10 (Nat.le_of_ble_eq_true rfl) (Nat.le_of_ble_eq_true rfl) rfl (Nat.le_of_ble_eq_true rfl) dL_law_2651 rfl ⟨by omega, by omega⟩ rfl ?_
    refine wa_iload 2656 5 hC dL_law_2654 1 rfl rfl ?_
    refine wa_icmp_eq 2659 2661 hC dL_law_2656 rfl rfl h (fun h => ?_) (fun h => ?_)
    · refine wa_iload 2663 5 hC dL_law_2661 1 rfl rfl ?_
      refine wa_if_ne 2666 2678 hC dL_law_2663 rfl rfl h (fun h => ?_) (fun h => ?_)
      · refine wa_goto 2681 hC dL_law_2678 rfl ?_
        refine wa_pick [2, 3, 4, 5, 6] rfl ?_
        exact hk ρ V (k1 + 90) (k2 + 3000) hE hVC ⟨by omega, by omega⟩ (show (J A_1 Z_5) = _ by rw [sm1 h, sm2 h])
      · refine wa_aload_n 2667 3 hC dL_law_2666 rfl 5 rfl rfl ?_
        refine wa_iconst 2668 hC dL_law_2667 kc_0 rfl ?_
        refine wa_laldc 2669 hC (vs41 hVC) ar41 rfl (by decide) dL_law_2668 rfl ?_
        refine wa_iload 2671 6 hC dL_law_2669 0 rfl rfl ?_
        refine wa_i2l 2672 hC dL_law_2671 rfl ?_
        refine wa_lcmp 2673 hC dL_law_2672 rfl ?_
        refine wa_lcmp_eq 2676 2678 hC dL_law_2673 rfl rfl h (fun h => ?_) (fun h => ?_)
        · refine wa_goto 2681 hC dL_law_2678 rfl ?_
          refine wa_pick [2, 3, 4, 5, 6] rfl ?_
          exact hk ρ V (k1 + 90) (k2 + 3000) hE hVC ⟨by omega, by omega⟩ (show (J A_1 Z_5) = _ by rw [sm1 h, sm2 h])
        · cases h
    · cases h
  refine wl_wrap 2642 hC [.ref (ρ 9 0), .ref (ρ 41 0)] [] wr_undo (tL_undo E.2.1 hl9 A hVC e_3) (Nat.le_of_ble_eq_true rfl) (Nat.le_of_ble_eq_true rfl) rfl (Nat.le_of_ble_eq_true rfl) dL_law_2639 rfl ⟨by omega, by omega⟩ rfl (fun ρ1 V1 hE9 hVC9 => ?_)
  rw [← (hE9 9 0 (vs9 hVC)).2, ← (hE9 10 0 (vs10 hVC)).2, ← (hE9 41 0 (vs41 hVC)).2]
  exact key ρ1 V1 hE9 hVC9
