/-! the law's cases, from each one's first instruction to pc 1056 (by program) -/
theorem cw_L_26 : CWd RL 26 yL_cell cL_cell 2 (some .int) 2 := ⟨m_ml_L_26, m_co_L_cell, m_ini_L, by decide +kernel, by decide +kernel⟩
theorem cw_L_32 : CWd RL 32 yL_low cL_low 2 (some .int) 2 := ⟨m_ml_L_32, m_co_L_low, m_ini_L, by decide +kernel, by decide +kernel⟩
theorem cw_L_35 : CWd RL 35 yX6_supply cX6_supply 3 (some .int) 2 := ⟨m_ml_L_35, m_co_X6_supply, m_ini_X6, by decide +kernel, by decide +kernel⟩
theorem cw_L_38 : CWd RL 38 yX6_aircraft cX6_aircraft 5 (some .int) 3 := ⟨m_ml_L_38, m_co_X6_aircraft, m_ini_X6, by decide +kernel, by decide +kernel⟩
theorem cw_L_42 : CWd RL 42 yX6_pass cX6_pass 3 (some .int) 1 := ⟨m_ml_L_42, m_co_X6_pass, m_ini_X6, by decide +kernel, by decide +kernel⟩
theorem cw_L_45 : CWd RL 45 yX6_weather cX6_weather 5 none 4 := ⟨m_ml_L_45, m_co_X6_weather, m_ini_X6, by decide +kernel, by decide +kernel⟩
theorem cw_L_49 : CWd RL 49 yX6_spray cX6_spray 3 (some .int) 1 := ⟨m_ml_L_49, m_co_X6_spray, m_ini_X6, by decide +kernel, by decide +kernel⟩
theorem cw_L_52 : CWd RL 52 yX6_thirdOf cX6_thirdOf 4 (some .int) 2 := ⟨m_ml_L_52, m_co_X6_thirdOf, m_ini_X6, by decide +kernel, by decide +kernel⟩
theorem cw_L_55 : CWd RL 55 yX6_close cX6_close 3 (some .int) 2 := ⟨m_ml_L_55, m_co_X6_close, m_ini_X6, by decide +kernel, by decide +kernel⟩
theorem cw_L_58 : CWd RL 58 yX6_isGood cX6_isGood 1 (some .boolean) 0 := ⟨m_ml_L_58, m_co_X6_isGood, m_ini_X6, by decide +kernel, by decide +kernel⟩
theorem cw_L_62 : CWd RL 62 yX6_pilot cX6_pilot 4 (some .int) 2 := ⟨m_ml_L_62, m_co_X6_pilot, m_ini_X6, by decide +kernel, by decide +kernel⟩
theorem cw_L_65 : CWd RL 65 yX6_sum cX6_sum 2 (some .int) 1 := ⟨m_ml_L_65, m_co_X6_sum, m_ini_X6, by decide +kernel, by decide +kernel⟩
theorem cw_L_68 : CWd RL 68 yX6_treat cX6_treat 7 (some .int) 5 := ⟨m_ml_L_68, m_co_X6_treat, m_ini_X6, by decide +kernel, by decide +kernel⟩
theorem cw_L_72 : CWd RL 72 yX6_cancel cX6_cancel 4 (some .int) 1 := ⟨m_ml_L_72, m_co_X6_cancel, m_ini_X6, by decide +kernel, by decide +kernel⟩
theorem cw_L_75 : CWd RL 75 yX6_release cX6_release 4 (some .int) 1 := ⟨m_ml_L_75, m_co_X6_release, m_ini_X6, by decide +kernel, by decide +kernel⟩
theorem cw_L_78 : CWd RL 78 yX6_code cX6_code 2 (some .int) 1 := ⟨m_ml_L_78, m_co_X6_code, m_ini_X6, by decide +kernel, by decide +kernel⟩
theorem cw_L_81 : CWd RL 81 yL_isOrdered cL_isOrdered 7 (some .boolean) 2 := ⟨m_ml_L_81, m_co_L_isOrdered, m_ini_L, by decide +kernel, by decide +kernel⟩
set_option maxRecDepth 100000 in
set_option maxHeartbeats 4000000 in
theorem case_pass {p : Program} {l : Launch} (hfl : l.stackTraces = false) {e : Env} {s : State} {m : MethodId} {args : Array Value} {below : List Frame} {meth : Method} {c : Code} {Q : State → Prop} {D : va_G} {E : En} {A : Nat → Prop} {b n : Nat} {v0 : Int32} {M : Nat} {x11 : Int32} {c0 : Nat} {σ : St} {mm : Nat} (hI : II σ mm n c0) (hc0 : c0 < 59) (hn : n = en E) (hx : x11 ≤ σ 20 0) (B : BK p l e s m args below meth c Q D E A b n v0 M x11 c0) (C : CX p s m meth c cL_law RL 25 D E A) {H : Heap} {locs : List Loc} (h : HW D E σ A s H locs) {w : Int32} {j14 j15 j16 : Nat} (hj15 : j15 < 3) (hj16 : j16 < n) {cells slots : Nat} (hc : cells ≤ 320 + 2000 * c0) (hs : slots ≤ 2120 + 12000 * c0) {ls : Array Slot} (hl : lv_has ls 25 [(17, .int (σ 28 j16)), (16, .int (nI j16)), (15, .int (nI j15)), (14, .int (nI j14)), (13, .int w), (12, .int (nI (c0 + 1))), (11, .int x11), (10, .int (σ 24 0)), (9, .int (nI mm)), (8, .int (nI M)), (7, .int 1), (6, .int (σ 18 0)), (5, .ref (ead E 16)), (4, .ref (ead E 15)), (3, .int (nI n)), (2, .int v0), (1, .ref (ead E 0)), (0, .ref b)]) : W p l e room_1 s m args below meth c H locs cells slots Q (F0 m 244 ls []) := by
  have ok : OK E σ := hI.ok hn
  have h6 := hI.n6
  have hmb := hI.mb
  have hmc := pass_m hI
  refine lv_iconst (v := 1) C.x C.b dL_law_244 (by decide) ?_
  refine lv_iload C.x C.b dL_law_245 (lv_at hl 4 rfl) ?_
  refine lv_iconst (v := 4) C.x C.b dL_law_247 (by decide) ?_
  refine lv_ishr C.x C.b dL_law_248 ?_
  refine lv_bipush (v := 20) C.x C.b dL_law_249 (by decide) ?_
  refine caLow (N := 20) (by decide) (by decide) rfl C h cw_L_32 ⟨Nat.le_of_ble_eq_true rfl, Nat.le_of_ble_eq_true rfl⟩ hl (Nat.le_of_ble_eq_true rfl) dL_law_251 ⟨by show cells ≤ 600086; omega, by show slots ≤ 7301441; omega⟩ (fun j1 H locs hj1 h => ?_)
  refine lv_iadd C.x C.b dL_law_254 ?_
  refine top_eq (y := nI (1 + j1)) (nI_add 1 j1) ?_
  refine lv_istore (lv' := [(18, .int (nI (1 + j1))), (17, .int (σ 28 j16)), (16, .int (nI j16)), (15, .int (nI j15)), (14, .int (nI j14)), (13, .int w), (12, .int (nI (c0 + 1))), (11, .int x11), (10, .int (σ 24 0)), (9, .int (nI mm)), (8, .int (nI M)), (7, .int 1), (6, .int (σ 18 0)), (5, .ref (ead E 16)), (4, .ref (ead E 15)), (3, .int (nI n)), (2, .int v0), (1, .ref (ead E 0)), (0, .ref b)]) C.x C.b dL_law_255 hl (by decide) rfl (fun ls hl => ?_)
  refine lv_iload C.x C.b dL_law_257 (lv_at hl 9 rfl) ?_
  refine lv_iload C.x C.b dL_law_259 (lv_at hl 0 rfl) ?_
  refine lv_iadd C.x C.b dL_law_261 ?_
  refine top_eq (y := nI (mm + (1 + j1))) (nI_add _ _) ?_
  refine lv_sipush (v := 1440) C.x C.b dL_law_262 (by decide) ?_
  refine lv_idiv C.x C.b dL_law_265 (by decide) ?_
  refine top_eq (y := 0) (div0 (by omega)) ?_
  refine lv_iload C.x C.b dL_law_266 (lv_at hl 9 rfl) ?_
  refine lv_sipush (v := 1440) C.x C.b dL_law_268 (by decide) ?_
  refine lv_idiv C.x C.b dL_law_271 (by decide) ?_
  refine top_eq (y := 0) (div0 (by omega)) ?_
  refine lv_icmp_le (tgt := 279) C.x C.b dL_law_272 (by decide) (fun _ => ?_) (fun q => absurd q (by decide))
  refine lv_iload C.x C.b dL_law_279 (lv_at hl 8 rfl) ?_
  refine lv_istore (lv' := [(10, .int (σ 24 0)), (18, .int (nI (1 + j1))), (17, .int (σ 28 j16)), (16, .int (nI j16)), (15, .int (nI j15)), (14, .int (nI j14)), (13, .int w), (12, .int (nI (c0 + 1))), (11, .int x11), (9, .int (nI mm)), (8, .int (nI M)), (7, .int 1), (6, .int (σ 18 0)), (5, .ref (ead E 16)), (4, .ref (ead E 15)), (3, .int (nI n)), (2, .int v0), (1, .ref (ead E 0)), (0, .ref b)]) C.x C.b dL_law_281 hl (by decide) rfl (fun ls hl => ?_)
  refine lv_iload C.x C.b dL_law_283 (lv_at hl 9 rfl) ?_
  refine lv_iload C.x C.b dL_law_285 (lv_at hl 1 rfl) ?_
  refine lv_iadd C.x C.b dL_law_287 ?_
  refine top_eq (y := nI (mm + (1 + j1))) (nI_add _ _) ?_
  refine lv_istore (lv' := [(9, .int (nI (mm + (1 + j1)))), (10, .int (σ 24 0)), (18, .int (nI (1 + j1))), (17, .int (σ 28 j16)), (16, .int (nI j16)), (15, .int (nI j15)), (14, .int (nI j14)), (13, .int w), (12, .int (nI (c0 + 1))), (11, .int x11), (8, .int (nI M)), (7, .int 1), (6, .int (σ 18 0)), (5, .ref (ead E 16)), (4, .ref (ead E 15)), (3, .int (nI n)), (2, .int v0), (1, .ref (ead E 0)), (0, .ref b)]) C.x C.b dL_law_288 hl (by decide) rfl (fun ls hl => ?_)
  refine lv_aload_n C.x C.b dL_law_290 rfl (lv_at hl 17 rfl) ?_
  refine lv_iload C.x C.b dL_law_291 (lv_at hl 2 rfl) ?_
  obtain ⟨σ1, e1, i1, i2, i3, i4⟩ := V_pass (J := 1 + j1) (hI.up (by omega)) (by omega) (by omega) (by omega)
  refine lcI (As := [.int (nI (1 + j1))]) (rest := []) C h (M_X6_pass l hfl D E _ ok (nI (1 + j1))) e1 cw_L_42 m_im_X6_pass m_se_X6_pass rfl rfl ⟨Nat.le_of_ble_eq_true rfl, Nat.le_of_ble_eq_true rfl⟩ hl rfl (Nat.le_of_ble_eq_true rfl) dL_law_293 ⟨by show cells + 10 ≤ 600086; omega, by show slots + 60 ≤ 7301441; omega⟩ (fun H locs h => ?_)
  refine lv_iload C.x C.b dL_law_296 (lv_at hl 0 rfl) ?_
  refine lv_icmp_ne (tgt := 305) C.x C.b dL_law_298 (by decide) (fun q => absurd rfl q) (fun _ => ?_)
  refine lv_iconst (v := 1) C.x C.b dL_law_301 (by decide) ?_
  refine lv_goto (tgt := 306) C.x C.b dL_law_302 (by decide) ?_
  refine lv_istore (lv' := [(7, .int 1), (9, .int (nI (mm + (1 + j1)))), (10, .int (σ 24 0)), (18, .int (nI (1 + j1))), (17, .int (σ 28 j16)), (16, .int (nI j16)), (15, .int (nI j15)), (14, .int (nI j14)), (13, .int w), (12, .int (nI (c0 + 1))), (11, .int x11), (8, .int (nI M)), (6, .int (σ 18 0)), (5, .ref (ead E 16)), (4, .ref (ead E 15)), (3, .int (nI n)), (2, .int v0), (1, .ref (ead E 0)), (0, .ref b)]) C.x C.b dL_law_306 hl (by decide) rfl (fun ls hl => ?_)
  refine lv_goto (tgt := 1056) C.x C.b dL_law_308 (by decide) ?_
  exact B σ1 (mm + (1 + j1)) (σ 18 0) (σ 24 0) H locs _ _ ls h i1 i3.symm i4.symm (Int32.le_trans hx i2) (by show cells + 10 ≤ _; omega) (by show slots + 60 ≤ _; omega) (lv_sub hl [9, 10, 2, 1, 11, 0, 12, 13, 14, 15, 16, 17, 18] rfl)
set_option maxRecDepth 100000 in
set_option maxHeartbeats 4000000 in
theorem case_weather {p : Program} {l : Launch} (hfl : l.stackTraces = false) {e : Env} {s : State} {m : MethodId} {args : Array Value} {below : List Frame} {meth : Method} {c : Code} {Q : State → Prop} {D : va_G} {E : En} {A : Nat → Prop} {b n : Nat} {v0 : Int32} {M : Nat} {x11 : Int32} {c0 : Nat} {σ : St} {mm : Nat} (hI : II σ mm n c0) (hc0 : c0 < 59) (hn : n = en E) (hx : x11 ≤ σ 20 0) (B : BK p l e s m args below meth c Q D E A b n v0 M x11 c0) (C : CX p s m meth c cL_law RL 25 D E A) {H : Heap} {locs : List Loc} (h : HW D E σ A s H locs) {w : Int32} {j14 j15 j16 : Nat} (hj15 : j15 < 3) (hj16 : j16 < n) {cells slots : Nat} (hc : cells ≤ 320 + 2000 * c0) (hs : slots ≤ 2120 + 12000 * c0) {ls : Array Slot} (hl : lv_has ls 25 [(17, .int (σ 28 j16)), (16, .int (nI j16)), (15, .int (nI j15)), (14, .int (nI j14)), (13, .int w), (12, .int (nI (c0 + 1))), (11, .int x11), (10, .int (σ 24 0)), (9, .int (nI mm)), (8, .int (nI M)), (7, .int 1), (6, .int (σ 18 0)), (5, .ref (ead E 16)), (4, .ref (ead E 15)), (3, .int (nI n)), (2, .int v0), (1, .ref (ead E 0)), (0, .ref b)]) : W p l e room_1 s m args below meth c H locs cells slots Q (F0 m 317 ls []) := by
  have ok : OK E σ := hI.ok hn
  have h6 := hI.n6
  refine lv_aload_n C.x C.b dL_law_317 rfl (lv_at hl 16 rfl) ?_
  refine lv_iload C.x C.b dL_law_318 (lv_at hl 4 rfl) ?_
  refine lv_iconst (v := 4) C.x C.b dL_law_320 (by decide) ?_
  refine lv_ishr C.x C.b dL_law_321 ?_
  refine lv_sipush (v := 200) C.x C.b dL_law_322 (by decide) ?_
  refine caLow (N := 200) (by decide) (by decide) rfl C h cw_L_32 ⟨Nat.le_of_ble_eq_true rfl, Nat.le_of_ble_eq_true rfl⟩ hl (Nat.le_of_ble_eq_true rfl) dL_law_325 ⟨by show cells ≤ 600086; omega, by show slots ≤ 7301441; omega⟩ (fun j1 H locs hj1 h => ?_)
  refine lv_sipush (v := 130) C.x C.b dL_law_328 (by decide) ?_
  refine lv_isub C.x C.b dL_law_331 ?_
  refine lv_iload C.x C.b dL_law_332 (lv_at hl 4 rfl) ?_
  refine lv_bipush (v := 6) C.x C.b dL_law_334 (by decide) ?_
  refine lv_ishr C.x C.b dL_law_336 ?_
  refine lv_iconst (v := 4) C.x C.b dL_law_337 (by decide) ?_
  refine caLow (N := 4) (by decide) (by decide) rfl C h cw_L_32 ⟨Nat.le_of_ble_eq_true rfl, Nat.le_of_ble_eq_true rfl⟩ hl (Nat.le_of_ble_eq_true rfl) dL_law_338 ⟨by show cells ≤ 600086; omega, by show slots ≤ 7301441; omega⟩ (fun j2 H locs hj2 h => ?_)
  refine lv_iload C.x C.b dL_law_341 (lv_at hl 4 rfl) ?_
  refine lv_bipush (v := 8) C.x C.b dL_law_343 (by decide) ?_
  refine lv_ishr C.x C.b dL_law_345 ?_
  refine lv_bipush (v := 31) C.x C.b dL_law_346 (by decide) ?_
  refine caLow (N := 31) (by decide) (by decide) rfl C h cw_L_32 ⟨Nat.le_of_ble_eq_true rfl, Nat.le_of_ble_eq_true rfl⟩ hl (Nat.le_of_ble_eq_true rfl) dL_law_348 ⟨by show cells ≤ 600086; omega, by show slots ≤ 7301441; omega⟩ (fun j3 H locs hj3 h => ?_)
  refine lv_iload C.x C.b dL_law_351 (lv_at hl 4 rfl) ?_
  refine lv_bipush (v := 10) C.x C.b dL_law_353 (by decide) ?_
  refine lv_ishr C.x C.b dL_law_355 ?_
  refine lv_bipush (v := 61) C.x C.b dL_law_356 (by decide) ?_
  refine caLow (N := 61) (by decide) (by decide) rfl C h cw_L_32 ⟨Nat.le_of_ble_eq_true rfl, Nat.le_of_ble_eq_true rfl⟩ hl (Nat.le_of_ble_eq_true rfl) dL_law_358 ⟨by show cells ≤ 600086; omega, by show slots ≤ 7301441; omega⟩ (fun j4 H locs hj4 h => ?_)
  refine lcV (As := [.int ((nI j1) - 130), .int (nI j2), .int (nI j3), .int (nI j4)]) (rest := []) C h (M_X6_weather l hfl D E _ ok ((nI j1) - 130) (nI j2) (nI j3) (nI j4)) (V_weather (rr_temp hj1) (by omega) (by omega) (by omega)) cw_L_45 m_im_X6_weather m_se_X6_weather rfl rfl ⟨Nat.le_of_ble_eq_true rfl, Nat.le_of_ble_eq_true rfl⟩ hl rfl (Nat.le_of_ble_eq_true rfl) dL_law_361 ⟨by show cells + 10 ≤ 600086; omega, by show slots + 60 ≤ 7301441; omega⟩ (fun H locs h => ?_)
  refine lv_goto (tgt := 1056) C.x C.b dL_law_364 (by decide) ?_
  exact B (up2 (up2 (up2 (up2 σ 2 0 (nI j1 - 130)) 3 0 (nI j2)) 4 0 (nI j3)) 5 0 (nI j4)) mm (σ 18 0) (σ 24 0) H locs _ _ ls h ((I_weather hI _ _ (by omega) (by omega)).up (by omega)) (by rw [up2_f (by decide), up2_f (by decide), up2_f (by decide), up2_f (by decide)]) (by rw [up2_f (by decide), up2_f (by decide), up2_f (by decide), up2_f (by decide)]) (by rw [up2_f (by decide), up2_f (by decide), up2_f (by decide), up2_f (by decide)]; exact hx) (by show cells + 10 ≤ _; omega) (by show slots + 60 ≤ _; omega) (lv_sub hl [5, 6, 7, 8, 9, 10, 11, 12, 13, 14, 15, 16, 17] rfl)
set_option maxRecDepth 100000 in
set_option maxHeartbeats 4000000 in
theorem case_spray {p : Program} {l : Launch} (hfl : l.stackTraces = false) {e : Env} {s : State} {m : MethodId} {args : Array Value} {below : List Frame} {meth : Method} {c : Code} {Q : State → Prop} {D : va_G} {E : En} {A : Nat → Prop} {b n : Nat} {v0 : Int32} {M : Nat} {x11 : Int32} {c0 : Nat} {σ : St} {mm : Nat} (hI : II σ mm n c0) (hc0 : c0 < 59) (hn : n = en E) (hx : x11 ≤ σ 20 0) (B : BK p l e s m args below meth c Q D E A b n v0 M x11 c0) (C : CX p s m meth c cL_law RL 25 D E A) {H : Heap} {locs : List Loc} (h : HW D E σ A s H locs) {w : Int32} {j14 j15 j16 : Nat} (hj15 : j15 < 3) (hj16 : j16 < n) {cells slots : Nat} (hc : cells ≤ 320 + 2000 * c0) (hs : slots ≤ 2120 + 12000 * c0) {ls : Array Slot} (hl : lv_has ls 25 [(17, .int (σ 28 j16)), (16, .int (nI j16)), (15, .int (nI j15)), (14, .int (nI j14)), (13, .int w), (12, .int (nI (c0 + 1))), (11, .int x11), (10, .int (σ 24 0)), (9, .int (nI mm)), (8, .int (nI M)), (7, .int 1), (6, .int (σ 18 0)), (5, .ref (ead E 16)), (4, .ref (ead E 15)), (3, .int (nI n)), (2, .int v0), (1, .ref (ead E 0)), (0, .ref b)]) : W p l e room_1 s m args below meth c H locs cells slots Q (F0 m 373 ls []) := by
  have ok : OK E σ := hI.ok hn
  have h6 := hI.n6
  refine lv_aload_n C.x C.b dL_law_373 rfl (lv_at hl 16 rfl) ?_
  refine lv_iload C.x C.b dL_law_374 (lv_at hl 2 rfl) ?_
  refine lcI (As := [.int (nI j15)]) (rest := []) C h (M_X6_spray l hfl D E _ ok (nI j15)) (V_spray hj15) cw_L_49 m_im_X6_spray m_se_X6_spray rfl rfl ⟨Nat.le_of_ble_eq_true rfl, Nat.le_of_ble_eq_true rfl⟩ hl rfl (Nat.le_of_ble_eq_true rfl) dL_law_376 ⟨by show cells + 10 ≤ 600086; omega, by show slots + 60 ≤ 7301441; omega⟩ (fun H locs h => ?_)
  refine lv_iload C.x C.b dL_law_379 (lv_at hl 8 rfl) ?_
  refine lv_bipush (v := 60) C.x C.b dL_law_381 (by decide) ?_
  refine lv_iadd C.x C.b dL_law_383 ?_
  refine lv_icmp_ne (tgt := 402) C.x C.b dL_law_384 (by decide) (fun q => absurd (by rw [hI.m0]) q) (fun _ => ?_)
  refine lv_aload_n C.x C.b dL_law_387 rfl (lv_at hl 16 rfl) ?_
  refine lv_iload C.x C.b dL_law_388 (lv_at hl 2 rfl) ?_
  refine lv_iconst (v := 2) C.x C.b dL_law_390 (by decide) ?_
  refine lcI (As := [.int (nI j15), .int 2]) (rest := []) C h (M_X6_thirdOf l hfl D E _ ((I_spray hI _).ok hn) (nI j15) 2) (V_third2 hj15 (spr_ok hI j15)) cw_L_52 m_im_X6_thirdOf m_se_X6_thirdOf rfl rfl ⟨Nat.le_of_ble_eq_true rfl, Nat.le_of_ble_eq_true rfl⟩ hl rfl (Nat.le_of_ble_eq_true rfl) dL_law_391 ⟨by show cells + 10 + 10 ≤ 600086; omega, by show slots + 60 + 60 ≤ 7301441; omega⟩ (fun H locs h => ?_)
  refine lv_iconst (v := 1) C.x C.b dL_law_394 (by decide) ?_
  refine lv_icmp_ne (tgt := 402) C.x C.b dL_law_395 (by decide) (fun q => absurd q (by decide)) (fun _ => ?_)
  refine lv_iconst (v := 1) C.x C.b dL_law_398 (by decide) ?_
  refine lv_goto (tgt := 403) C.x C.b dL_law_399 (by decide) ?_
  refine lv_istore (lv' := [(7, .int 1), (17, .int (σ 28 j16)), (16, .int (nI j16)), (15, .int (nI j15)), (14, .int (nI j14)), (13, .int w), (12, .int (nI (c0 + 1))), (11, .int x11), (10, .int (σ 24 0)), (9, .int (nI mm)), (8, .int (nI M)), (6, .int (σ 18 0)), (5, .ref (ead E 16)), (4, .ref (ead E 15)), (3, .int (nI n)), (2, .int v0), (1, .ref (ead E 0)), (0, .ref b)]) C.x C.b dL_law_403 hl (by decide) rfl (fun ls hl => ?_)
  refine lv_goto (tgt := 1056) C.x C.b dL_law_405 (by decide) ?_
  exact B (up2 σ 11 j15 (σ 0 0 + 60)) mm (σ 18 0) (σ 24 0) H locs _ _ ls h ((I_spray hI _).up (by omega)) (by rw [up2_f (by decide)]) (by rw [up2_f (by decide)]) (by rw [up2_f (by decide)]; exact hx) (by show cells + 10 + 10 ≤ _; omega) (by show slots + 60 + 60 ≤ _; omega) (lv_sub hl [6, 7, 8, 9, 10, 0, 11, 12, 13, 14, 15, 16, 17] rfl)
set_option maxRecDepth 100000 in
set_option maxHeartbeats 4000000 in
theorem case_close {p : Program} {l : Launch} (hfl : l.stackTraces = false) {e : Env} {s : State} {m : MethodId} {args : Array Value} {below : List Frame} {meth : Method} {c : Code} {Q : State → Prop} {D : va_G} {E : En} {A : Nat → Prop} {b n : Nat} {v0 : Int32} {M : Nat} {x11 : Int32} {c0 : Nat} {σ : St} {mm : Nat} (hI : II σ mm n c0) (hc0 : c0 < 59) (hn : n = en E) (hx : x11 ≤ σ 20 0) (B : BK p l e s m args below meth c Q D E A b n v0 M x11 c0) (C : CX p s m meth c cL_law RL 25 D E A) {H : Heap} {locs : List Loc} (h : HW D E σ A s H locs) {w : Int32} {j14 j15 j16 : Nat} (hj15 : j15 < 3) (hj16 : j16 < n) {cells slots : Nat} (hc : cells ≤ 320 + 2000 * c0) (hs : slots ≤ 2120 + 12000 * c0) {ls : Array Slot} (hl : lv_has ls 25 [(17, .int (σ 28 j16)), (16, .int (nI j16)), (15, .int (nI j15)), (14, .int (nI j14)), (13, .int w), (12, .int (nI (c0 + 1))), (11, .int x11), (10, .int (σ 24 0)), (9, .int (nI mm)), (8, .int (nI M)), (7, .int 1), (6, .int (σ 18 0)), (5, .ref (ead E 16)), (4, .ref (ead E 15)), (3, .int (nI n)), (2, .int v0), (1, .ref (ead E 0)), (0, .ref b)]) : W p l e room_1 s m args below meth c H locs cells slots Q (F0 m 414 ls []) := by
  have ok : OK E σ := hI.ok hn
  have h6 := hI.n6
  refine lv_iconst (v := 1) C.x C.b dL_law_414 (by decide) ?_
  refine lv_iload C.x C.b dL_law_415 (lv_at hl 4 rfl) ?_
  refine lv_iconst (v := 4) C.x C.b dL_law_417 (by decide) ?_
  refine lv_ishr C.x C.b dL_law_418 ?_
  refine lv_bipush (v := 15) C.x C.b dL_law_419 (by decide) ?_
  refine caLow (N := 15) (by decide) (by decide) rfl C h cw_L_32 ⟨Nat.le_of_ble_eq_true rfl, Nat.le_of_ble_eq_true rfl⟩ hl (Nat.le_of_ble_eq_true rfl) dL_law_421 ⟨by show cells ≤ 600086; omega, by show slots ≤ 7301441; omega⟩ (fun j1 H locs hj1 h => ?_)
  refine lv_iadd C.x C.b dL_law_424 ?_
  refine top_eq (y := nI (1 + j1)) (nI_add 1 j1) ?_
  refine lv_istore (lv' := [(18, .int (nI (1 + j1))), (17, .int (σ 28 j16)), (16, .int (nI j16)), (15, .int (nI j15)), (14, .int (nI j14)), (13, .int w), (12, .int (nI (c0 + 1))), (11, .int x11), (10, .int (σ 24 0)), (9, .int (nI mm)), (8, .int (nI M)), (7, .int 1), (6, .int (σ 18 0)), (5, .ref (ead E 16)), (4, .ref (ead E 15)), (3, .int (nI n)), (2, .int v0), (1, .ref (ead E 0)), (0, .ref b)]) C.x C.b dL_law_425 hl (by decide) rfl (fun ls hl => ?_)
  refine lv_aload_n C.x C.b dL_law_427 rfl (lv_at hl 17 rfl) ?_
  refine lv_iload C.x C.b dL_law_428 (lv_at hl 0 rfl) ?_
  refine lv_iload C.x C.b dL_law_430 (lv_at hl 5 rfl) ?_
  refine lv_bipush (v := 8) C.x C.b dL_law_432 (by decide) ?_
  refine lv_ishr C.x C.b dL_law_434 ?_
  refine lv_bipush (v := 12) C.x C.b dL_law_435 (by decide) ?_
  refine caLow (N := 12) (by decide) (by decide) rfl C h cw_L_32 ⟨Nat.le_of_ble_eq_true rfl, Nat.le_of_ble_eq_true rfl⟩ hl (Nat.le_of_ble_eq_true rfl) dL_law_437 ⟨by show cells ≤ 600086; omega, by show slots ≤ 7301441; omega⟩ (fun j2 H locs hj2 h => ?_)
  refine lcI (As := [.int (nI (1 + j1)), .int (nI j2)]) (rest := []) C h (M_X6_close l hfl D E _ ok (nI (1 + j1)) (nI j2)) (V_close (by omega) (by omega) (by omega)) cw_L_55 m_im_X6_close m_se_X6_close rfl rfl ⟨Nat.le_of_ble_eq_true rfl, Nat.le_of_ble_eq_true rfl⟩ hl rfl (Nat.le_of_ble_eq_true rfl) dL_law_440 ⟨by show cells + 10 ≤ 600086; omega, by show slots + 60 ≤ 7301441; omega⟩ (fun H locs h => ?_)
  refine lv_iload C.x C.b dL_law_443 (lv_at hl 9 rfl) ?_
  refine lv_iload C.x C.b dL_law_445 (lv_at hl 0 rfl) ?_
  refine lv_iadd C.x C.b dL_law_447 ?_
  refine lv_icmp_ne (tgt := 462) C.x C.b dL_law_448 (by decide) (fun q => absurd (by rw [hI.m0]) q) (fun _ => ?_)
  refine lv_aload_n C.x C.b dL_law_451 rfl (lv_at hl 17 rfl) ?_
  refine caVi (As := []) (rest := []) (q0 := 0) (ci := 6) C h (M_X6_isGood l D E _ ((I_close hI _ (by omega)).ok hn)) cw_L_58 m_im_X6_isGood m_se_X6_isGood rfl rfl ⟨Nat.le_of_ble_eq_true rfl, Nat.le_of_ble_eq_true rfl⟩ rfl rfl hl rfl (Nat.le_of_ble_eq_true rfl) dL_law_452 ⟨by show cells + 10 ≤ 600086; omega, by show slots + 60 ≤ 7301441; omega⟩ (fun r u H locs hp h => ?_)
  obtain ⟨hr9, rfl⟩ := hp
  obtain rfl := hr9.symm.trans (good_close hI (by omega) _)
  skip
  refine lv_if_ne (tgt := 462) C.x C.b dL_law_455 (by decide) (fun q => absurd q (by decide)) (fun _ => ?_)
  refine lv_iconst (v := 1) C.x C.b dL_law_458 (by decide) ?_
  refine lv_goto (tgt := 463) C.x C.b dL_law_459 (by decide) ?_
  refine lv_istore (lv' := [(7, .int 1), (18, .int (nI (1 + j1))), (17, .int (σ 28 j16)), (16, .int (nI j16)), (15, .int (nI j15)), (14, .int (nI j14)), (13, .int w), (12, .int (nI (c0 + 1))), (11, .int x11), (10, .int (σ 24 0)), (9, .int (nI mm)), (8, .int (nI M)), (6, .int (σ 18 0)), (5, .ref (ead E 16)), (4, .ref (ead E 15)), (3, .int (nI n)), (2, .int v0), (1, .ref (ead E 0)), (0, .ref b)]) C.x C.b dL_law_463 hl (by decide) rfl (fun ls hl => ?_)
  refine lv_goto (tgt := 1056) C.x C.b dL_law_465 (by decide) ?_
  exact B (up2 (up2 σ 6 0 (σ 0 0 + nI (1 + j1))) 7 0 (nI j2)) mm (σ 18 0) (σ 24 0) H locs _ _ ls h ((I_close hI _ (by omega)).up (by omega)) (by rw [up2_f (by decide), up2_f (by decide)]) (by rw [up2_f (by decide), up2_f (by decide)]) (by rw [up2_f (by decide), up2_f (by decide)]; exact hx) (by show cells + 10 + 0 ≤ _; omega) (by show slots + 60 + 0 ≤ _; omega) (lv_sub hl [7, 8, 9, 10, 11, 0, 12, 13, 14, 15, 16, 17, 18] rfl)
set_option maxRecDepth 100000 in
set_option maxHeartbeats 4000000 in
theorem case_pilot {p : Program} {l : Launch} (hfl : l.stackTraces = false) {e : Env} {s : State} {m : MethodId} {args : Array Value} {below : List Frame} {meth : Method} {c : Code} {Q : State → Prop} {D : va_G} {E : En} {A : Nat → Prop} {b n : Nat} {v0 : Int32} {M : Nat} {x11 : Int32} {c0 : Nat} {σ : St} {mm : Nat} (hI : II σ mm n c0) (hc0 : c0 < 59) (hn : n = en E) (hx : x11 ≤ σ 20 0) (B : BK p l e s m args below meth c Q D E A b n v0 M x11 c0) (C : CX p s m meth c cL_law RL 25 D E A) {H : Heap} {locs : List Loc} (h : HW D E σ A s H locs) {w : Int32} {j14 j15 j16 : Nat} (hj15 : j15 < 3) (hj16 : j16 < n) {cells slots : Nat} (hc : cells ≤ 320 + 2000 * c0) (hs : slots ≤ 2120 + 12000 * c0) {ls : Array Slot} (hl : lv_has ls 25 [(17, .int (σ 28 j16)), (16, .int (nI j16)), (15, .int (nI j15)), (14, .int (nI j14)), (13, .int w), (12, .int (nI (c0 + 1))), (11, .int x11), (10, .int (σ 24 0)), (9, .int (nI mm)), (8, .int (nI M)), (7, .int 1), (6, .int (σ 18 0)), (5, .ref (ead E 16)), (4, .ref (ead E 15)), (3, .int (nI n)), (2, .int v0), (1, .ref (ead E 0)), (0, .ref b)]) : W p l e room_1 s m args below meth c H locs cells slots Q (F0 m 474 ls []) := by
  have ok : OK E σ := hI.ok hn
  have h6 := hI.n6
  refine lv_iload C.x C.b dL_law_474 (lv_at hl 4 rfl) ?_
  refine lv_iconst (v := 4) C.x C.b dL_law_476 (by decide) ?_
  refine lv_ishr C.x C.b dL_law_477 ?_
  refine lv_bipush (v := 7) C.x C.b dL_law_478 (by decide) ?_
  refine caLow (N := 7) (by decide) (by decide) rfl C h cw_L_32 ⟨Nat.le_of_ble_eq_true rfl, Nat.le_of_ble_eq_true rfl⟩ hl (Nat.le_of_ble_eq_true rfl) dL_law_480 ⟨by show cells ≤ 600086; omega, by show slots ≤ 7301441; omega⟩ (fun j1 H locs hj1 h => ?_)
  refine lv_istore (lv' := [(18, .int (nI j1)), (17, .int (σ 28 j16)), (16, .int (nI j16)), (15, .int (nI j15)), (14, .int (nI j14)), (13, .int w), (12, .int (nI (c0 + 1))), (11, .int x11), (10, .int (σ 24 0)), (9, .int (nI mm)), (8, .int (nI M)), (7, .int 1), (6, .int (σ 18 0)), (5, .ref (ead E 16)), (4, .ref (ead E 15)), (3, .int (nI n)), (2, .int v0), (1, .ref (ead E 0)), (0, .ref b)]) C.x C.b dL_law_483 hl (by decide) rfl (fun ls hl => ?_)
  refine lv_aload_n C.x C.b dL_law_485 rfl (lv_at hl 17 rfl) ?_
  refine lv_iload C.x C.b dL_law_486 (lv_at hl 3 rfl) ?_
  refine lv_iload C.x C.b dL_law_488 (lv_at hl 0 rfl) ?_
  refine lcI (As := [.int (nI j15), .int (nI j1)]) (rest := []) C h (M_X6_pilot l hfl D E _ ok (nI j15) (nI j1)) (V_pilot hI hj15 (by omega)) cw_L_62 m_im_X6_pilot m_se_X6_pilot rfl rfl ⟨Nat.le_of_ble_eq_true rfl, Nat.le_of_ble_eq_true rfl⟩ hl rfl (Nat.le_of_ble_eq_true rfl) dL_law_490 ⟨by show cells + 10 ≤ 600086; omega, by show slots + 60 ≤ 7301441; omega⟩ (fun H locs h => ?_)
  refine lv_iload C.x C.b dL_law_493 (lv_at hl 0 rfl) ?_
  refine lv_aload_n C.x C.b dL_law_495 rfl (lv_at hl 17 rfl) ?_
  refine lv_iload C.x C.b dL_law_496 (lv_at hl 3 rfl) ?_
  refine lv_iconst (v := 3) C.x C.b dL_law_498 (by decide) ?_
  refine lcI (As := [.int (nI j15), .int 3]) (rest := [.int (nI j1), .int (if nI j1 < (S_X4_codeOfWhatLies (up2 (up2 σ 12 j15 (σ 0 0)) 13 j15 (nI j1)) j15) then nI j1 else (S_X4_codeOfWhatLies (up2 (up2 σ 12 j15 (σ 0 0)) 13 j15 (nI j1)) j15))]) C h (M_X6_thirdOf l hfl D E _ ((I_pilot hI _ _).ok hn) (nI j15) 3) (V_third3 hj15) cw_L_52 m_im_X6_thirdOf m_se_X6_thirdOf rfl rfl ⟨Nat.le_of_ble_eq_true rfl, Nat.le_of_ble_eq_true rfl⟩ hl rfl (Nat.le_of_ble_eq_true rfl) dL_law_499 ⟨by show cells + 10 + 10 ≤ 600086; omega, by show slots + 60 + 60 ≤ 7301441; omega⟩ (fun H locs h => ?_)
  refine lv_icmp_ge (tgt := 510) C.x C.b dL_law_502 (by decide) (fun c502 => ?_) (fun c502 => ?_)
  · skip
    refine lv_aload_n C.x C.b dL_law_510 rfl (lv_at hl 17 rfl) ?_
    refine lv_iload C.x C.b dL_law_511 (lv_at hl 3 rfl) ?_
    refine lv_iconst (v := 3) C.x C.b dL_law_513 (by decide) ?_
    refine lcI (As := [.int (nI j15), .int 3]) (rest := [.int (if nI j1 < (S_X4_codeOfWhatLies (up2 (up2 σ 12 j15 (σ 0 0)) 13 j15 (nI j1)) j15) then nI j1 else (S_X4_codeOfWhatLies (up2 (up2 σ 12 j15 (σ 0 0)) 13 j15 (nI j1)) j15))]) C h (M_X6_thirdOf l hfl D E _ ((I_pilot hI _ _).ok hn) (nI j15) 3) (V_third3 hj15) cw_L_52 m_im_X6_thirdOf m_se_X6_thirdOf rfl rfl ⟨Nat.le_of_ble_eq_true rfl, Nat.le_of_ble_eq_true rfl⟩ hl rfl (Nat.le_of_ble_eq_true rfl) dL_law_514 ⟨by show cells + 10 + 10 + 10 ≤ 600086; omega, by show slots + 60 + 60 + 60 ≤ 7301441; omega⟩ (fun H locs h => ?_)
    refine lv_icmp_ne (tgt := 524) C.x C.b dL_law_517 (by decide) (fun q => absurd (if_neg (Int32.not_lt.mpr c502)) q) (fun _ => ?_)
    refine lv_iconst (v := 1) C.x C.b dL_law_520 (by decide) ?_
    refine lv_goto (tgt := 525) C.x C.b dL_law_521 (by decide) ?_
    refine lv_istore (lv' := [(7, .int 1), (18, .int (nI j1)), (17, .int (σ 28 j16)), (16, .int (nI j16)), (15, .int (nI j15)), (14, .int (nI j14)), (13, .int w), (12, .int (nI (c0 + 1))), (11, .int x11), (10, .int (σ 24 0)), (9, .int (nI mm)), (8, .int (nI M)), (6, .int (σ 18 0)), (5, .ref (ead E 16)), (4, .ref (ead E 15)), (3, .int (nI n)), (2, .int v0), (1, .ref (ead E 0)), (0, .ref b)]) C.x C.b dL_law_525 hl (by decide) rfl (fun ls hl => ?_)
    refine lv_goto (tgt := 1056) C.x C.b dL_law_527 (by decide) ?_
    exact B (up2 (up2 σ 12 j15 (σ 0 0)) 13 j15 (nI j1)) mm (σ 18 0) (σ 24 0) H locs _ _ ls h ((I_pilot hI _ _).up (by omega)) (by rw [up2_f (by decide), up2_f (by decide)]) (by rw [up2_f (by decide), up2_f (by decide)]) (by rw [up2_f (by decide), up2_f (by decide)]; exact hx) (by show cells + 10 + 10 + 10 ≤ _; omega) (by show slots + 60 + 60 + 60 ≤ _; omega) (lv_sub hl [7, 8, 9, 10, 11, 0, 12, 13, 14, 15, 16, 17, 18] rfl)
  · skip
    refine lv_iload C.x C.b dL_law_505 (lv_at hl 0 rfl) ?_
    refine lv_goto (tgt := 517) C.x C.b dL_law_507 (by decide) ?_
    refine lv_icmp_ne (tgt := 524) C.x C.b dL_law_517 (by decide) (fun q => absurd (if_pos (Int32.not_le.mp c502)) q) (fun _ => ?_)
    refine lv_iconst (v := 1) C.x C.b dL_law_520 (by decide) ?_
    refine lv_goto (tgt := 525) C.x C.b dL_law_521 (by decide) ?_
    refine lv_istore (lv' := [(7, .int 1), (18, .int (nI j1)), (17, .int (σ 28 j16)), (16, .int (nI j16)), (15, .int (nI j15)), (14, .int (nI j14)), (13, .int w), (12, .int (nI (c0 + 1))), (11, .int x11), (10, .int (σ 24 0)), (9, .int (nI mm)), (8, .int (nI M)), (6, .int (σ 18 0)), (5, .ref (ead E 16)), (4, .ref (ead E 15)), (3, .int (nI n)), (2, .int v0), (1, .ref (ead E 0)), (0, .ref b)]) C.x C.b dL_law_525 hl (by decide) rfl (fun ls hl => ?_)
    refine lv_goto (tgt := 1056) C.x C.b dL_law_527 (by decide) ?_
    exact B (up2 (up2 σ 12 j15 (σ 0 0)) 13 j15 (nI j1)) mm (σ 18 0) (σ 24 0) H locs _ _ ls h ((I_pilot hI _ _).up (by omega)) (by rw [up2_f (by decide), up2_f (by decide)]) (by rw [up2_f (by decide), up2_f (by decide)]) (by rw [up2_f (by decide), up2_f (by decide)]; exact hx) (by show cells + 10 + 10 ≤ _; omega) (by show slots + 60 + 60 ≤ _; omega) (lv_sub hl [7, 8, 9, 10, 11, 0, 12, 13, 14, 15, 16, 17, 18] rfl)
set_option maxRecDepth 100000 in
set_option maxHeartbeats 4000000 in
theorem case_cancel {p : Program} {l : Launch} (hfl : l.stackTraces = false) {e : Env} {s : State} {m : MethodId} {args : Array Value} {below : List Frame} {meth : Method} {c : Code} {Q : State → Prop} {D : va_G} {E : En} {A : Nat → Prop} {b n : Nat} {v0 : Int32} {M : Nat} {x11 : Int32} {c0 : Nat} {σ : St} {mm : Nat} (hI : II σ mm n c0) (hc0 : c0 < 59) (hn : n = en E) (hx : x11 ≤ σ 20 0) (B : BK p l e s m args below meth c Q D E A b n v0 M x11 c0) (C : CX p s m meth c cL_law RL 25 D E A) {H : Heap} {locs : List Loc} (h : HW D E σ A s H locs) {w : Int32} {j14 j15 j16 : Nat} (hj15 : j15 < 3) (hj16 : j16 < n) {cells slots : Nat} (hc : cells ≤ 320 + 2000 * c0) (hs : slots ≤ 2120 + 12000 * c0) {ls : Array Slot} (hl : lv_has ls 25 [(17, .int (σ 28 j16)), (16, .int (nI j16)), (15, .int (nI j15)), (14, .int (nI j14)), (13, .int w), (12, .int (nI (c0 + 1))), (11, .int x11), (10, .int (σ 24 0)), (9, .int (nI mm)), (8, .int (nI M)), (7, .int 1), (6, .int (σ 18 0)), (5, .ref (ead E 16)), (4, .ref (ead E 15)), (3, .int (nI n)), (2, .int v0), (1, .ref (ead E 0)), (0, .ref b)]) : W p l e room_1 s m args below meth c H locs cells slots Q (F0 m 860 ls []) := by
  have ok : OK E σ := hI.ok hn
  have h6 := hI.n6
  refine lv_iload C.x C.b dL_law_860 (lv_at hl 0 rfl) ?_
  refine lv_iconst (v := 3) C.x C.b dL_law_862 (by decide) ?_
  refine lv_icmp_ge (tgt := 1056) C.x C.b dL_law_863 (by decide) (fun c863 => ?_) (fun c863 => ?_)
  · skip
    exact B σ mm (σ 18 0) (σ 24 0) H locs _ _ ls h (hI.up (by omega)) rfl rfl hx (by show cells ≤ _; omega) (by show slots ≤ _; omega) (lv_sub hl [5, 6, 7, 8, 9, 10, 11, 12, 13, 14, 15, 16, 17] rfl)
  · skip
    refine lv_iload C.x C.b dL_law_866 (lv_at hl 4 rfl) ?_
    refine lv_bipush (v := 7) C.x C.b dL_law_868 (by decide) ?_
    refine lv_ishr C.x C.b dL_law_870 ?_
    refine lv_iconst (v := 3) C.x C.b dL_law_871 (by decide) ?_
    refine caLow (N := 3) (by decide) (by decide) rfl C h cw_L_32 ⟨Nat.le_of_ble_eq_true rfl, Nat.le_of_ble_eq_true rfl⟩ hl (Nat.le_of_ble_eq_true rfl) dL_law_872 ⟨by show cells ≤ 600086; omega, by show slots ≤ 7301441; omega⟩ (fun j1 H locs hj1 h => ?_)
    refine lv_if_ne (tgt := 1056) C.x C.b dL_law_875 (by decide) (fun c875 => ?_) (fun c875 => ?_)
    · skip
      exact B σ mm (σ 18 0) (σ 24 0) H locs _ _ ls h (hI.up (by omega)) rfl rfl hx (by show cells ≤ _; omega) (by show slots ≤ _; omega) (lv_sub hl [5, 6, 7, 8, 9, 10, 11, 12, 13, 14, 15, 16, 17] rfl)
    · skip
      refine lv_aload_n C.x C.b dL_law_878 rfl (lv_at hl 16 rfl) ?_
      refine lv_iload C.x C.b dL_law_879 (lv_at hl 1 rfl) ?_
      refine lcI (As := [.int (nI j16)]) (rest := []) C h (M_X6_cancel l hfl D E _ ok (nI j16)) (V_cancel hI hj16 (Int32.not_le.mp c863)) cw_L_72 m_im_X6_cancel m_se_X6_cancel rfl rfl ⟨Nat.le_of_ble_eq_true rfl, Nat.le_of_ble_eq_true rfl⟩ hl rfl (Nat.le_of_ble_eq_true rfl) dL_law_881 ⟨by show cells + 10 ≤ 600086; omega, by show slots + 60 ≤ 7301441; omega⟩ (fun H locs h => ?_)
      refine lv_iload C.x C.b dL_law_884 (lv_at hl 0 rfl) ?_
      refine lv_icmp_ne (tgt := 915) C.x C.b dL_law_886 (by decide) (fun q => absurd rfl q) (fun _ => ?_)
      refine lv_aload_n C.x C.b dL_law_889 rfl (lv_at hl 16 rfl) ?_
      refine lv_iload C.x C.b dL_law_890 (lv_at hl 1 rfl) ?_
      refine lv_iconst (v := 0) C.x C.b dL_law_892 (by decide) ?_
      refine lcI (As := [.int (nI j16), .int 0]) (rest := []) C h (M_X6_aircraftOf l hfl D E _ ((I_cancel hI).ok hn) (nI j16) 0) ((cancel_all hI hj16).1) cw_L_8 m_im_X6_aircraftOf m_se_X6_aircraftOf rfl rfl ⟨Nat.le_of_ble_eq_true rfl, Nat.le_of_ble_eq_true rfl⟩ hl rfl (Nat.le_of_ble_eq_true rfl) dL_law_893 ⟨by show cells + 10 + 10 ≤ 600086; omega, by show slots + 60 + 60 ≤ 7301441; omega⟩ (fun H locs h => ?_)
      refine lv_iconst (v := 4) C.x C.b dL_law_896 (by decide) ?_
      refine lv_icmp_ne (tgt := 915) C.x C.b dL_law_897 (by decide) (fun q => absurd q (by decide)) (fun _ => ?_)
      refine lv_aload_n C.x C.b dL_law_900 rfl (lv_at hl 16 rfl) ?_
      refine lv_iload C.x C.b dL_law_901 (lv_at hl 1 rfl) ?_
      refine lv_iconst (v := 4) C.x C.b dL_law_903 (by decide) ?_
      refine lcI (As := [.int (nI j16), .int 4]) (rest := []) C h (M_X6_aircraftOf l hfl D E _ ((I_cancel hI).ok hn) (nI j16) 4) ((cancel_all hI hj16).2) cw_L_8 m_im_X6_aircraftOf m_se_X6_aircraftOf rfl rfl ⟨Nat.le_of_ble_eq_true rfl, Nat.le_of_ble_eq_true rfl⟩ hl rfl (Nat.le_of_ble_eq_true rfl) dL_law_904 ⟨by show cells + 10 + 10 + 10 ≤ 600086; omega, by show slots + 60 + 60 + 60 ≤ 7301441; omega⟩ (fun H locs h => ?_)
      refine lv_iconst (v := (-1)) C.x C.b dL_law_907 (by decide) ?_
      refine lv_icmp_ne (tgt := 915) C.x C.b dL_law_908 (by decide) (fun q => absurd q (by decide)) (fun _ => ?_)
      refine lv_iconst (v := 1) C.x C.b dL_law_911 (by decide) ?_
      refine lv_goto (tgt := 916) C.x C.b dL_law_912 (by decide) ?_
      refine lv_istore (lv' := [(7, .int 1), (17, .int (σ 28 j16)), (16, .int (nI j16)), (15, .int (nI j15)), (14, .int (nI j14)), (13, .int w), (12, .int (nI (c0 + 1))), (11, .int x11), (10, .int (σ 24 0)), (9, .int (nI mm)), (8, .int (nI M)), (6, .int (σ 18 0)), (5, .ref (ead E 16)), (4, .ref (ead E 15)), (3, .int (nI n)), (2, .int v0), (1, .ref (ead E 0)), (0, .ref b)]) C.x C.b dL_law_916 hl (by decide) rfl (fun ls hl => ?_)
      refine lv_goto (tgt := 1056) C.x C.b dL_law_918 (by decide) ?_
      exact B (up2 σ 28 j16 4) mm (σ 18 0) (σ 24 0) H locs _ _ ls h ((I_cancel hI).up (by omega)) (by rw [up2_f (by decide)]) (by rw [up2_f (by decide)]) (by rw [up2_f (by decide)]; exact hx) (by show cells + 10 + 10 + 10 ≤ _; omega) (by show slots + 60 + 60 + 60 ≤ _; omega) (lv_sub hl [6, 7, 8, 9, 10, 0, 11, 12, 13, 14, 15, 16, 17] rfl)
set_option maxRecDepth 100000 in
set_option maxHeartbeats 4000000 in
theorem case_release {p : Program} {l : Launch} (hfl : l.stackTraces = false) {e : Env} {s : State} {m : MethodId} {args : Array Value} {below : List Frame} {meth : Method} {c : Code} {Q : State → Prop} {D : va_G} {E : En} {A : Nat → Prop} {b n : Nat} {v0 : Int32} {M : Nat} {x11 : Int32} {c0 : Nat} {σ : St} {mm : Nat} (hI : II σ mm n c0) (hc0 : c0 < 59) (hn : n = en E) (hx : x11 ≤ σ 20 0) (B : BK p l e s m args below meth c Q D E A b n v0 M x11 c0) (C : CX p s m meth c cL_law RL 25 D E A) {H : Heap} {locs : List Loc} (h : HW D E σ A s H locs) {w : Int32} {j14 j15 j16 : Nat} (hj15 : j15 < 3) (hj16 : j16 < n) {cells slots : Nat} (hc : cells ≤ 320 + 2000 * c0) (hs : slots ≤ 2120 + 12000 * c0) {ls : Array Slot} (hl : lv_has ls 25 [(17, .int (σ 28 j16)), (16, .int (nI j16)), (15, .int (nI j15)), (14, .int (nI j14)), (13, .int w), (12, .int (nI (c0 + 1))), (11, .int x11), (10, .int (σ 24 0)), (9, .int (nI mm)), (8, .int (nI M)), (7, .int 1), (6, .int (σ 18 0)), (5, .ref (ead E 16)), (4, .ref (ead E 15)), (3, .int (nI n)), (2, .int v0), (1, .ref (ead E 0)), (0, .ref b)]) : W p l e room_1 s m args below meth c H locs cells slots Q (F0 m 928 ls []) := by
  have ok : OK E σ := hI.ok hn
  have h6 := hI.n6
  obtain ⟨L, d, hL, eL, hd, ed⟩ := basin_of hI
  refine lv_iconst (v := 1) C.x C.b dL_law_928 (by decide) ?_
  refine lv_iload C.x C.b dL_law_929 (lv_at hl 4 rfl) ?_
  refine lv_iconst (v := 4) C.x C.b dL_law_931 (by decide) ?_
  refine lv_ishr C.x C.b dL_law_932 ?_
  refine lv_sipush (v := 300) C.x C.b dL_law_933 (by decide) ?_
  refine caLow (N := 300) (by decide) (by decide) rfl C h cw_L_32 ⟨Nat.le_of_ble_eq_true rfl, Nat.le_of_ble_eq_true rfl⟩ hl (Nat.le_of_ble_eq_true rfl) dL_law_936 ⟨by show cells ≤ 600086; omega, by show slots ≤ 7301441; omega⟩ (fun j1 H locs hj1 h => ?_)
  refine lv_iadd C.x C.b dL_law_939 ?_
  refine top_eq (y := nI (1 + j1)) (nI_add 1 j1) ?_
  refine lv_istore (lv' := [(18, .int (nI (1 + j1))), (17, .int (σ 28 j16)), (16, .int (nI j16)), (15, .int (nI j15)), (14, .int (nI j14)), (13, .int w), (12, .int (nI (c0 + 1))), (11, .int x11), (10, .int (σ 24 0)), (9, .int (nI mm)), (8, .int (nI M)), (7, .int 1), (6, .int (σ 18 0)), (5, .ref (ead E 16)), (4, .ref (ead E 15)), (3, .int (nI n)), (2, .int v0), (1, .ref (ead E 0)), (0, .ref b)]) C.x C.b dL_law_940 hl (by decide) rfl (fun ls hl => ?_)
  refine lv_iload C.x C.b dL_law_942 (lv_at hl 0 rfl) ?_
  refine lv_aload_n C.x C.b dL_law_944 rfl (lv_at hl 17 rfl) ?_
  refine lv_iconst (v := 3) C.x C.b dL_law_945 (by decide) ?_
  refine lcI (As := [.int 3]) (rest := [.int (nI (1 + j1))]) C h (M_X6_sum l hfl D E _ ok 3) V_sum3 cw_L_65 m_im_X6_sum m_se_X6_sum rfl rfl ⟨Nat.le_of_ble_eq_true rfl, Nat.le_of_ble_eq_true rfl⟩ hl rfl (Nat.le_of_ble_eq_true rfl) dL_law_946 ⟨by show cells + 10 ≤ 600086; omega, by show slots + 60 ≤ 7301441; omega⟩ (fun H locs h => ?_)
  refine top_eq (y := nI L) eL ?_
  refine lv_icmp_gt (tgt := 988) C.x C.b dL_law_949 (by decide) (fun c949 => ?_) (fun c949 => ?_)
  · skip
    refine lv_goto (tgt := 1056) C.x C.b dL_law_988 (by decide) ?_
    exact B σ mm (σ 18 0) (σ 24 0) H locs _ _ ls h (hI.up (by omega)) rfl rfl hx (by show cells + 10 ≤ _; omega) (by show slots + 60 ≤ _; omega) (lv_sub hl [6, 7, 8, 9, 10, 11, 12, 13, 14, 15, 16, 17, 18] rfl)
  · skip
    have hx1 : 1 + j1 ≤ L := Nat.le_of_not_lt (fun z => c949 (nI_lt z (by omega)))
    refine lv_iload C.x C.b dL_law_952 (lv_at hl 8 rfl) ?_
    refine lv_iload C.x C.b dL_law_954 (lv_at hl 0 rfl) ?_
    refine lv_iadd C.x C.b dL_law_956 ?_
    refine top_eq (y := nI (d + (1 + j1))) (by rw [ed, nI_add]) ?_
    refine lv_sipush (v := 500) C.x C.b dL_law_957 (by decide) ?_
    refine lv_icmp_gt (tgt := 988) C.x C.b dL_law_960 (by decide) (fun c960 => ?_) (fun c960 => ?_)
    · skip
      refine lv_goto (tgt := 1056) C.x C.b dL_law_988 (by decide) ?_
      exact B σ mm (σ 18 0) (σ 24 0) H locs _ _ ls h (hI.up (by omega)) rfl rfl hx (by show cells + 10 ≤ _; omega) (by show slots + 60 ≤ _; omega) (lv_sub hl [6, 7, 8, 9, 10, 11, 12, 13, 14, 15, 16, 17, 18] rfl)
    · skip
      have hx2 : d + (1 + j1) ≤ 500 := Nat.le_of_not_lt (fun z => c960 (nI_lt (a := 500) z (by omega)))
      refine lv_iload C.x C.b dL_law_963 (lv_at hl 8 rfl) ?_
      refine lv_iload C.x C.b dL_law_965 (lv_at hl 0 rfl) ?_
      refine lv_iadd C.x C.b dL_law_967 ?_
      refine top_eq (y := nI (d + (1 + j1))) (by rw [ed, nI_add]) ?_
      refine lv_istore (lv' := [(10, .int (nI (d + (1 + j1)))), (18, .int (nI (1 + j1))), (17, .int (σ 28 j16)), (16, .int (nI j16)), (15, .int (nI j15)), (14, .int (nI j14)), (13, .int w), (12, .int (nI (c0 + 1))), (11, .int x11), (9, .int (nI mm)), (8, .int (nI M)), (7, .int 1), (6, .int (σ 18 0)), (5, .ref (ead E 16)), (4, .ref (ead E 15)), (3, .int (nI n)), (2, .int v0), (1, .ref (ead E 0)), (0, .ref b)]) C.x C.b dL_law_968 hl (by decide) rfl (fun ls hl => ?_)
      refine lv_aload_n C.x C.b dL_law_970 rfl (lv_at hl 17 rfl) ?_
      refine lv_iload C.x C.b dL_law_971 (lv_at hl 1 rfl) ?_
      refine lcI (As := [.int (nI (1 + j1))]) (rest := []) C h (M_X6_release l hfl D E _ ok (nI (1 + j1))) (V_release hI eL ed (by omega) (by omega) hx1 hx2 (by omega)) cw_L_75 m_im_X6_release m_se_X6_release rfl rfl ⟨Nat.le_of_ble_eq_true rfl, Nat.le_of_ble_eq_true rfl⟩ hl rfl (Nat.le_of_ble_eq_true rfl) dL_law_973 ⟨by show cells + 10 + 10 ≤ 600086; omega, by show slots + 60 + 60 ≤ 7301441; omega⟩ (fun H locs h => ?_)
      refine lv_iload C.x C.b dL_law_976 (lv_at hl 0 rfl) ?_
      refine lv_icmp_ne (tgt := 985) C.x C.b dL_law_978 (by decide) (fun q => absurd rfl q) (fun _ => ?_)
      refine lv_iconst (v := 1) C.x C.b dL_law_981 (by decide) ?_
      refine lv_goto (tgt := 986) C.x C.b dL_law_982 (by decide) ?_
      refine lv_istore (lv' := [(7, .int 1), (10, .int (nI (d + (1 + j1)))), (18, .int (nI (1 + j1))), (17, .int (σ 28 j16)), (16, .int (nI j16)), (15, .int (nI j15)), (14, .int (nI j14)), (13, .int w), (12, .int (nI (c0 + 1))), (11, .int x11), (9, .int (nI mm)), (8, .int (nI M)), (6, .int (σ 18 0)), (5, .ref (ead E 16)), (4, .ref (ead E 15)), (3, .int (nI n)), (2, .int v0), (1, .ref (ead E 0)), (0, .ref b)]) C.x C.b dL_law_986 hl (by decide) rfl (fun ls hl => ?_)
      refine lv_goto (tgt := 1056) C.x C.b dL_law_988 (by decide) ?_
      exact B (RL9 σ L d (1 + j1)) mm (σ 18 0) (nI (d + (1 + j1))) H locs _ _ ls h ((I_release hI eL hx1 hx2 hL).up (by omega)) release_all.2.1.symm release_all.1.symm (by rw [release_all.2.2]; exact hx) (by show cells + 10 + 10 ≤ _; omega) (by show slots + 60 + 60 ≤ _; omega) (lv_sub hl [8, 9, 1, 10, 11, 0, 12, 13, 14, 15, 16, 17, 18] rfl)
set_option maxRecDepth 100000 in
set_option maxHeartbeats 4000000 in
theorem case_supply {p : Program} {l : Launch} (hfl : l.stackTraces = false) {e : Env} {s : State} {m : MethodId} {args : Array Value} {below : List Frame} {meth : Method} {c : Code} {Q : State → Prop} {D : va_G} {E : En} {A : Nat → Prop} {b n : Nat} {v0 : Int32} {M : Nat} {x11 : Int32} {c0 : Nat} {σ : St} {mm : Nat} (hI : II σ mm n c0) (hc0 : c0 < 59) (hn : n = en E) (hx : x11 ≤ σ 20 0) (B : BK p l e s m args below meth c Q D E A b n v0 M x11 c0) (C : CX p s m meth c cL_law RL 25 D E A) {H : Heap} {locs : List Loc} (h : HW D E σ A s H locs) {w : Int32} {j14 j15 j16 : Nat} (hj15 : j15 < 3) (hj16 : j16 < n) {cells slots : Nat} (hc : cells ≤ 320 + 2000 * c0) (hs : slots ≤ 2120 + 12000 * c0) {ls : Array Slot} (hl : lv_has ls 25 [(17, .int (σ 28 j16)), (16, .int (nI j16)), (15, .int (nI j15)), (14, .int (nI j14)), (13, .int w), (12, .int (nI (c0 + 1))), (11, .int x11), (10, .int (σ 24 0)), (9, .int (nI mm)), (8, .int (nI M)), (7, .int 1), (6, .int (σ 18 0)), (5, .ref (ead E 16)), (4, .ref (ead E 15)), (3, .int (nI n)), (2, .int v0), (1, .ref (ead E 0)), (0, .ref b)]) : W p l e room_1 s m args below meth c H locs cells slots Q (F0 m 991 ls []) := by
  have ok : OK E σ := hI.ok hn
  have h6 := hI.n6
  refine lv_iload C.x C.b dL_law_991 (lv_at hl 4 rfl) ?_
  refine lv_iconst (v := 4) C.x C.b dL_law_993 (by decide) ?_
  refine lv_ishr C.x C.b dL_law_994 ?_
  refine lv_iconst (v := 3) C.x C.b dL_law_995 (by decide) ?_
  refine caLow (N := 3) (by decide) (by decide) rfl C h cw_L_32 ⟨Nat.le_of_ble_eq_true rfl, Nat.le_of_ble_eq_true rfl⟩ hl (Nat.le_of_ble_eq_true rfl) dL_law_996 ⟨by show cells ≤ 600086; omega, by show slots ≤ 7301441; omega⟩ (fun j1 H locs hj1 h => ?_)
  refine lv_istore (lv' := [(18, .int (nI j1)), (17, .int (σ 28 j16)), (16, .int (nI j16)), (15, .int (nI j15)), (14, .int (nI j14)), (13, .int w), (12, .int (nI (c0 + 1))), (11, .int x11), (10, .int (σ 24 0)), (9, .int (nI mm)), (8, .int (nI M)), (7, .int 1), (6, .int (σ 18 0)), (5, .ref (ead E 16)), (4, .ref (ead E 15)), (3, .int (nI n)), (2, .int v0), (1, .ref (ead E 0)), (0, .ref b)]) C.x C.b dL_law_999 hl (by decide) rfl (fun ls hl => ?_)
  refine lv_iconst (v := 1) C.x C.b dL_law_1001 (by decide) ?_
  refine lv_iload C.x C.b dL_law_1002 (lv_at hl 5 rfl) ?_
  refine lv_bipush (v := 6) C.x C.b dL_law_1004 (by decide) ?_
  refine lv_ishr C.x C.b dL_law_1006 ?_
  refine lv_sipush (v := 1000) C.x C.b dL_law_1007 (by decide) ?_
  refine caLow (N := 1000) (by decide) (by decide) rfl C h cw_L_32 ⟨Nat.le_of_ble_eq_true rfl, Nat.le_of_ble_eq_true rfl⟩ hl (Nat.le_of_ble_eq_true rfl) dL_law_1010 ⟨by show cells ≤ 600086; omega, by show slots ≤ 7301441; omega⟩ (fun j2 H locs hj2 h => ?_)
  obtain ⟨T, hT, e41, e14⟩ := tank_of hI hj1
  have i1 : II (SU σ j1 (nI (T + (1 + j2))) (nI (1 + j2))) mm n (c0 + 1) := I_supply (hI.up (by omega)) hj1 e41 (by omega)
  refine lv_iadd C.x C.b dL_law_1013 ?_
  refine top_eq (y := nI (1 + j2)) (nI_add 1 j2) ?_
  refine lv_istore (lv' := [(19, .int (nI (1 + j2))), (18, .int (nI j1)), (17, .int (σ 28 j16)), (16, .int (nI j16)), (15, .int (nI j15)), (14, .int (nI j14)), (13, .int w), (12, .int (nI (c0 + 1))), (11, .int x11), (10, .int (σ 24 0)), (9, .int (nI mm)), (8, .int (nI M)), (7, .int 1), (6, .int (σ 18 0)), (5, .ref (ead E 16)), (4, .ref (ead E 15)), (3, .int (nI n)), (2, .int v0), (1, .ref (ead E 0)), (0, .ref b)]) C.x C.b dL_law_1014 hl (by decide) rfl (fun ls hl => ?_)
  refine lv_aload C.x C.b dL_law_1016 (lv_at hl 14 rfl) ?_
  refine lv_iload C.x C.b dL_law_1018 (lv_at hl 1 rfl) ?_
  refine lv_dup2_11 C.x C.b dL_law_1020 rfl rfl ?_
  refine aln_16 C h (j := j1) hj1 dL_law_1021 ?_
  refine lv_iload C.x C.b dL_law_1022 (lv_at hl 0 rfl) ?_
  refine lv_iadd C.x C.b dL_law_1024 ?_
  refine top_eq (y := nI (T + (1 + j2))) (by rw [e41, nI_add]) ?_
  refine asn_16 C h (j := j1) hj1 dL_law_1025 (fun H locs h => ?_)
  refine lv_iload C.x C.b dL_law_1026 (lv_at hl 13 rfl) ?_
  refine lv_iload C.x C.b dL_law_1028 (lv_at hl 0 rfl) ?_
  refine lv_iadd C.x C.b dL_law_1030 ?_
  refine lv_istore (lv' := [(6, .int ((σ 18 0) + (nI (1 + j2)))), (19, .int (nI (1 + j2))), (18, .int (nI j1)), (17, .int (σ 28 j16)), (16, .int (nI j16)), (15, .int (nI j15)), (14, .int (nI j14)), (13, .int w), (12, .int (nI (c0 + 1))), (11, .int x11), (10, .int (σ 24 0)), (9, .int (nI mm)), (8, .int (nI M)), (7, .int 1), (5, .ref (ead E 16)), (4, .ref (ead E 15)), (3, .int (nI n)), (2, .int v0), (1, .ref (ead E 0)), (0, .ref b)]) C.x C.b dL_law_1031 hl (by decide) rfl (fun ls hl => ?_)
  refine lv_aload_n C.x C.b dL_law_1033 rfl (lv_at hl 18 rfl) ?_
  refine lv_iload C.x C.b dL_law_1034 (lv_at hl 2 rfl) ?_
  refine lv_iload C.x C.b dL_law_1036 (lv_at hl 1 rfl) ?_
  refine lcI (As := [.int (nI j1), .int (nI (1 + j2))]) (rest := []) C h (M_X6_supply l hfl D E _ (ok.up (by decide) _ _) (nI j1) (nI (1 + j2))) (V_supply (w := 0) hj1 e14 (by omega) (by omega) (by omega)) cw_L_35 m_im_X6_supply m_se_X6_supply rfl rfl ⟨Nat.le_of_ble_eq_true rfl, Nat.le_of_ble_eq_true rfl⟩ hl rfl (Nat.le_of_ble_eq_true rfl) dL_law_1038 ⟨by show cells + 10 ≤ 600086; omega, by show slots + 60 ≤ 7301441; omega⟩ (fun H locs h => ?_)
  refine lv_aload C.x C.b dL_law_1041 (lv_at hl 14 rfl) ?_
  refine lv_iload C.x C.b dL_law_1043 (lv_at hl 2 rfl) ?_
  refine aln_16 C h (j := j1) hj1 dL_law_1045 ?_
  refine top_eq (y := nI (T + (1 + j2))) ((supply_all hI hj1).1) ?_
  refine lv_icmp_ne (tgt := 1053) C.x C.b dL_law_1046 (by decide) (fun q => absurd rfl q) (fun _ => ?_)
  refine lv_iconst (v := 1) C.x C.b dL_law_1049 (by decide) ?_
  refine lv_goto (tgt := 1054) C.x C.b dL_law_1050 (by decide) ?_
  refine lv_istore (lv' := [(7, .int 1), (6, .int ((σ 18 0) + (nI (1 + j2)))), (19, .int (nI (1 + j2))), (18, .int (nI j1)), (17, .int (σ 28 j16)), (16, .int (nI j16)), (15, .int (nI j15)), (14, .int (nI j14)), (13, .int w), (12, .int (nI (c0 + 1))), (11, .int x11), (10, .int (σ 24 0)), (9, .int (nI mm)), (8, .int (nI M)), (5, .ref (ead E 16)), (4, .ref (ead E 15)), (3, .int (nI n)), (2, .int v0), (1, .ref (ead E 0)), (0, .ref b)]) C.x C.b dL_law_1054 hl (by decide) rfl (fun ls hl => ?_)
  exact B (SU σ j1 (nI (T + (1 + j2))) (nI (1 + j2))) mm ((σ 18 0) + (nI (1 + j2))) (σ 24 0) H locs _ _ ls h i1 ((supply_all hI hj1).2.1.symm) ((supply_all hI hj1).2.2.1.symm) (by rw [(supply_all hI hj1).2.2.2]; exact hx) (by show cells + 10 ≤ _; omega) (by show slots + 60 ≤ _; omega) (lv_sub hl [9, 10, 11, 12, 13, 0, 1, 14, 15, 16, 17, 18, 19] rfl)
set_option maxRecDepth 100000 in
set_option maxHeartbeats 4000000 in
theorem tr_658 {p : Program} {l : Launch} (hfl : l.stackTraces = false) {e : Env} {s : State} {m : MethodId} {args : Array Value} {below : List Frame} {meth : Method} {c : Code} {Q : State → Prop} {D : va_G} {E : En} {A : Nat → Prop} {b n : Nat} {v0 : Int32} {M : Nat} {x11 : Int32} {c0 : Nat} {σ : St} {mm : Nat} (hI : II σ mm n c0) (hc0 : c0 < 59) (hn : n = en E) (hx : x11 ≤ σ 20 0) (B : BK p l e s m args below meth c Q D E A b n v0 M x11 c0) (C : CX p s m meth c cL_law RL 25 D E A) {w : Int32} {j14 j15 j16 : Nat} (hj16 : j16 < n) {P f x : Nat} (hP : P < 3) (hf : f < 3) (hx1 : 10 ≤ x) (hx2 : x ≤ 909) {z : Int32} (hz : (z = 0 ∨ z = 1 ∧ ((σ 28 j16 = 0 ∨ σ 28 j16 = 2) ∧ ¬ 40 + 20 * nI P < σ 40 j16 ∧ ¬ σ 41 f < nI x) ∧ ∀ i, i < n → ¬ pd σ i = nI P)) {H : Heap} {locs : List Loc} (h : HW D E σ A s H locs) {cells slots : Nat} (hc : cells ≤ 390 + 2000 * c0) (hs : slots ≤ 2540 + 12000 * c0) {ls : Array Slot} (hl : lv_has ls 25 [(21, .int z), (20, .int (nI x)), (19, .int (nI f)), (18, .int (nI P)), (17, .int (σ 28 j16)), (16, .int (nI j16)), (15, .int (nI j15)), (14, .int (nI j14)), (13, .int w), (12, .int (nI (c0 + 1))), (11, .int x11), (10, .int (σ 24 0)), (9, .int (nI mm)), (8, .int (nI M)), (7, .int 1), (6, .int (σ 18 0)), (5, .ref (ead E 16)), (4, .ref (ead E 15)), (3, .int (nI n)), (2, .int v0), (1, .ref (ead E 0)), (0, .ref b)]) : W p l e room_1 s m args below meth c H locs cells slots Q (F0 m 658 ls []) := by
  have ok : OK E σ := hI.ok hn
  have h6 := hI.n6
  rcases hz with rfl | ⟨rfl, ⟨f1, f2, f3⟩, hpad⟩
  · skip
    refine lv_iload C.x C.b dL_law_658 (lv_at hl 0 rfl) ?_
    refine lv_if_eq (tgt := 850) C.x C.b dL_law_660 (by decide) (fun _ => ?_) (fun q => absurd q (by decide))
    refine lv_goto (tgt := 1056) C.x C.b dL_law_850 (by decide) ?_
    exact B σ mm (σ 18 0) (σ 24 0) H locs _ _ ls h (hI.up (by omega)) rfl rfl hx (by show cells ≤ _; omega) (by show slots ≤ _; omega) (lv_sub hl [9, 10, 11, 12, 13, 14, 15, 16, 17, 18, 19, 20, 21] rfl)
  · skip
    obtain ⟨L, d, hL, eL, hd, ed⟩ := basin_of hI
    obtain ⟨T, hT, e41, e14⟩ := tank_of hI hf
    have hxT : x ≤ T := Nat.le_of_not_lt (fun q => f3 (by rw [e41]; exact nI_lt q (by omega)))
    have e725 : nI (mm + 2 + x / 100) = nI mm + 2 + nI x / 100 := by rw [show (2 : Int32) = nI 2 from rfl, show (100 : Int32) = nI 100 from rfl, pk_div (by omega) (by decide) (by decide), nI_add, nI_add]
    have e5 : nI x / 5 = nI (x / 5) := by rw [show (5 : Int32) = nI 5 from rfl, pk_div (by omega) (by decide) (by decide)]
    have e819 : nI (L + (x - x / 5)) = nI L + nI x - nI x / 5 := by rw [e5, nI_add, pk_sub (by omega), show L + (x - x / 5) = L + x - x / 5 by omega]
    refine lv_iload C.x C.b dL_law_658 (lv_at hl 0 rfl) ?_
    refine lv_if_eq (tgt := 850) C.x C.b dL_law_660 (by decide) (fun q => absurd q (by decide)) (fun _ => ?_)
    refine lv_aload_n C.x C.b dL_law_663 rfl (lv_at hl 20 rfl) ?_
    refine lv_iload C.x C.b dL_law_664 (lv_at hl 5 rfl) ?_
    refine lv_iconst (v := 2) C.x C.b dL_law_666 (by decide) ?_
    refine lcI (As := [.int (nI j16), .int 2]) (rest := []) C h (M_X6_aircraftOf l hfl D E _ ok (nI j16) 2) (V_air2 hI.n0 h6 hj16) cw_L_8 m_im_X6_aircraftOf m_se_X6_aircraftOf rfl rfl ⟨Nat.le_of_ble_eq_true rfl, Nat.le_of_ble_eq_true rfl⟩ hl rfl (Nat.le_of_ble_eq_true rfl) dL_law_667 ⟨by show cells + 10 ≤ 600086; omega, by show slots + 60 ≤ 7301441; omega⟩ (fun H locs h => ?_)
    refine lv_istore (lv' := [(22, .int (σ 30 j16)), (21, .int 1), (20, .int (nI x)), (19, .int (nI f)), (18, .int (nI P)), (17, .int (σ 28 j16)), (16, .int (nI j16)), (15, .int (nI j15)), (14, .int (nI j14)), (13, .int w), (12, .int (nI (c0 + 1))), (11, .int x11), (10, .int (σ 24 0)), (9, .int (nI mm)), (8, .int (nI M)), (7, .int 1), (6, .int (σ 18 0)), (5, .ref (ead E 16)), (4, .ref (ead E 15)), (3, .int (nI n)), (2, .int v0), (1, .ref (ead E 0)), (0, .ref b)]) C.x C.b dL_law_670 hl (by decide) rfl (fun ls hl => ?_)
    refine lv_aload_n C.x C.b dL_law_672 rfl (lv_at hl 21 rfl) ?_
    refine lv_iload C.x C.b dL_law_673 (lv_at hl 6 rfl) ?_
    refine lv_iconst (v := 3) C.x C.b dL_law_675 (by decide) ?_
    refine lcI (As := [.int (nI j16), .int 3]) (rest := []) C h (M_X6_aircraftOf l hfl D E _ ok (nI j16) 3) (V_air3 hI.n0 h6 hj16) cw_L_8 m_im_X6_aircraftOf m_se_X6_aircraftOf rfl rfl ⟨Nat.le_of_ble_eq_true rfl, Nat.le_of_ble_eq_true rfl⟩ hl rfl (Nat.le_of_ble_eq_true rfl) dL_law_676 ⟨by show cells + 10 + 10 ≤ 600086; omega, by show slots + 60 + 60 ≤ 7301441; omega⟩ (fun H locs h => ?_)
    refine lv_istore (lv' := [(23, .int (σ 31 j16)), (22, .int (σ 30 j16)), (21, .int 1), (20, .int (nI x)), (19, .int (nI f)), (18, .int (nI P)), (17, .int (σ 28 j16)), (16, .int (nI j16)), (15, .int (nI j15)), (14, .int (nI j14)), (13, .int w), (12, .int (nI (c0 + 1))), (11, .int x11), (10, .int (σ 24 0)), (9, .int (nI mm)), (8, .int (nI M)), (7, .int 1), (6, .int (σ 18 0)), (5, .ref (ead E 16)), (4, .ref (ead E 15)), (3, .int (nI n)), (2, .int v0), (1, .ref (ead E 0)), (0, .ref b)]) C.x C.b dL_law_679 hl (by decide) rfl (fun ls hl => ?_)
    refine lv_aload_n C.x C.b dL_law_681 rfl (lv_at hl 22 rfl) ?_
    refine lv_iconst (v := 3) C.x C.b dL_law_682 (by decide) ?_
    refine lcI (As := [.int 3]) (rest := []) C h (M_X6_sum l hfl D E _ ok 3) V_sum3 cw_L_65 m_im_X6_sum m_se_X6_sum rfl rfl ⟨Nat.le_of_ble_eq_true rfl, Nat.le_of_ble_eq_true rfl⟩ hl rfl (Nat.le_of_ble_eq_true rfl) dL_law_683 ⟨by show cells + 10 + 10 + 10 ≤ 600086; omega, by show slots + 60 + 60 + 60 ≤ 7301441; omega⟩ (fun H locs h => ?_)
    refine top_eq (y := nI L) eL ?_
    refine lv_istore (lv' := [(24, .int (nI L)), (23, .int (σ 31 j16)), (22, .int (σ 30 j16)), (21, .int 1), (20, .int (nI x)), (19, .int (nI f)), (18, .int (nI P)), (17, .int (σ 28 j16)), (16, .int (nI j16)), (15, .int (nI j15)), (14, .int (nI j14)), (13, .int w), (12, .int (nI (c0 + 1))), (11, .int x11), (10, .int (σ 24 0)), (9, .int (nI mm)), (8, .int (nI M)), (7, .int 1), (6, .int (σ 18 0)), (5, .ref (ead E 16)), (4, .ref (ead E 15)), (3, .int (nI n)), (2, .int v0), (1, .ref (ead E 0)), (0, .ref b)]) C.x C.b dL_law_686 hl (by decide) rfl (fun ls hl => ?_)
    refine lv_aload C.x C.b dL_law_688 (lv_at hl 19 rfl) ?_
    refine lv_iload C.x C.b dL_law_690 (lv_at hl 5 rfl) ?_
    refine lv_dup2_11 C.x C.b dL_law_692 rfl rfl ?_
    refine aln_16 C h (j := f) hf dL_law_693 ?_
    refine lv_iload C.x C.b dL_law_694 (lv_at hl 4 rfl) ?_
    refine lv_isub C.x C.b dL_law_696 ?_
    refine top_eq (y := nI (T - x)) (by rw [e41, pk_sub hxT]) ?_
    refine asn_16 C h (j := f) hf dL_law_697 (fun H locs h => ?_)
    refine lv_aload_n C.x C.b dL_law_698 rfl (lv_at hl 23 rfl) ?_
    refine lv_iload C.x C.b dL_law_699 (lv_at hl 8 rfl) ?_
    refine lv_iload C.x C.b dL_law_701 (lv_at hl 6 rfl) ?_
    refine lv_iload C.x C.b dL_law_703 (lv_at hl 5 rfl) ?_
    refine lv_iload C.x C.b dL_law_705 (lv_at hl 4 rfl) ?_
    refine lv_bipush (v := 50) C.x C.b dL_law_707 (by decide) ?_
    refine lv_bipush (v := 25) C.x C.b dL_law_709 (by decide) ?_
    refine lv_iload C.x C.b dL_law_711 (lv_at hl 11 rfl) ?_
    refine lv_bipush (v := 10) C.x C.b dL_law_713 (by decide) ?_
    refine lv_ishr C.x C.b dL_law_715 ?_
    refine lv_iconst (v := 3) C.x C.b dL_law_716 (by decide) ?_
    refine caLow (N := 3) (by decide) (by decide) rfl C h cw_L_32 ⟨Nat.le_of_ble_eq_true rfl, Nat.le_of_ble_eq_true rfl⟩ hl (Nat.le_of_ble_eq_true rfl) dL_law_717 ⟨by show cells + 10 + 10 + 10 ≤ 600086; omega, by show slots + 60 + 60 + 60 ≤ 7301441; omega⟩ (fun j4 H locs hj4 h => ?_)
    refine lv_imul C.x C.b dL_law_720 ?_
    refine lv_iadd C.x C.b dL_law_721 ?_
    obtain ⟨τ, vt, i1, w0, w4, w2, w3, ws, wc, wp, wy, t18, t24, t20⟩ := treat_all hI (by omega) hj16 hP hf hj4 f1 hpad f2 e41 hx1 hx2 hxT hT eL hL
    refine lcI (As := [.int (nI j16), .int (nI P), .int (nI f), .int (nI x), .int (50 + (25 * (nI j4)))]) (rest := []) C h (M_X6_treat l hfl D E _ (ok.up (by decide) _ _) (nI j16) (nI P) (nI f) (nI x) (50 + (25 * (nI j4)))) vt cw_L_68 m_im_X6_treat m_se_X6_treat rfl rfl ⟨Nat.le_of_ble_eq_true rfl, Nat.le_of_ble_eq_true rfl⟩ hl rfl (Nat.le_of_ble_eq_true rfl) dL_law_722 ⟨by show cells + 10 + 10 + 10 + 10 ≤ 600086; omega, by show slots + 60 + 60 + 60 + 60 ≤ 7301441; omega⟩ (fun H locs h => ?_)
    refine lv_iload C.x C.b dL_law_725 (lv_at hl 15 rfl) ?_
    refine lv_iconst (v := 2) C.x C.b dL_law_727 (by decide) ?_
    refine lv_iadd C.x C.b dL_law_728 ?_
    refine lv_iload C.x C.b dL_law_729 (lv_at hl 4 rfl) ?_
    refine lv_bipush (v := 100) C.x C.b dL_law_731 (by decide) ?_
    refine lv_idiv C.x C.b dL_law_733 (by decide) ?_
    refine lv_iadd C.x C.b dL_law_734 ?_
    refine lv_icmp_ne (tgt := 779) C.x C.b dL_law_735 (by decide) (fun q => absurd e725 q) (fun _ => ?_)
    refine lv_aload_n C.x C.b dL_law_738 rfl (lv_at hl 23 rfl) ?_
    refine lv_iload C.x C.b dL_law_739 (lv_at hl 8 rfl) ?_
    refine lv_iconst (v := 0) C.x C.b dL_law_741 (by decide) ?_
    refine lcI (As := [.int (nI j16), .int 0]) (rest := []) C h (M_X6_aircraftOf l hfl D E _ (i1.ok hn) (nI j16) 0) w0 cw_L_8 m_im_X6_aircraftOf m_se_X6_aircraftOf rfl rfl ⟨Nat.le_of_ble_eq_true rfl, Nat.le_of_ble_eq_true rfl⟩ hl rfl (Nat.le_of_ble_eq_true rfl) dL_law_742 ⟨by show cells + 10 + 10 + 10 + 10 + 10 ≤ 600086; omega, by show slots + 60 + 60 + 60 + 60 + 60 ≤ 7301441; omega⟩ (fun H locs h => ?_)
    refine lv_iconst (v := 1) C.x C.b dL_law_745 (by decide) ?_
    refine lv_icmp_ne (tgt := 779) C.x C.b dL_law_746 (by decide) (fun q => absurd q (by decide)) (fun _ => ?_)
    refine lv_aload_n C.x C.b dL_law_749 rfl (lv_at hl 23 rfl) ?_
    refine lv_iload C.x C.b dL_law_750 (lv_at hl 8 rfl) ?_
    refine lv_iconst (v := 4) C.x C.b dL_law_752 (by decide) ?_
    refine lcI (As := [.int (nI j16), .int 4]) (rest := []) C h (M_X6_aircraftOf l hfl D E _ (i1.ok hn) (nI j16) 4) w4 cw_L_8 m_im_X6_aircraftOf m_se_X6_aircraftOf rfl rfl ⟨Nat.le_of_ble_eq_true rfl, Nat.le_of_ble_eq_true rfl⟩ hl rfl (Nat.le_of_ble_eq_true rfl) dL_law_753 ⟨by show cells + 10 + 10 + 10 + 10 + 10 + 10 ≤ 600086; omega, by show slots + 60 + 60 + 60 + 60 + 60 + 60 ≤ 7301441; omega⟩ (fun H locs h => ?_)
    refine lv_iload C.x C.b dL_law_756 (lv_at hl 6 rfl) ?_
    refine lv_icmp_ne (tgt := 779) C.x C.b dL_law_758 (by decide) (fun q => absurd rfl q) (fun _ => ?_)
    refine lv_aload_n C.x C.b dL_law_761 rfl (lv_at hl 23 rfl) ?_
    refine lv_iload C.x C.b dL_law_762 (lv_at hl 8 rfl) ?_
    refine lv_iconst (v := 2) C.x C.b dL_law_764 (by decide) ?_
    refine lcI (As := [.int (nI j16), .int 2]) (rest := []) C h (M_X6_aircraftOf l hfl D E _ (i1.ok hn) (nI j16) 2) w2 cw_L_8 m_im_X6_aircraftOf m_se_X6_aircraftOf rfl rfl ⟨Nat.le_of_ble_eq_true rfl, Nat.le_of_ble_eq_true rfl⟩ hl rfl (Nat.le_of_ble_eq_true rfl) dL_law_765 ⟨by show cells + 10 + 10 + 10 + 10 + 10 + 10 + 10 ≤ 600086; omega, by show slots + 60 + 60 + 60 + 60 + 60 + 60 + 60 ≤ 7301441; omega⟩ (fun H locs h => ?_)
    refine lv_iload C.x C.b dL_law_768 (lv_at hl 2 rfl) ?_
    refine lv_iconst (v := 1) C.x C.b dL_law_770 (by decide) ?_
    refine lv_iadd C.x C.b dL_law_771 ?_
    refine lv_icmp_ne (tgt := 779) C.x C.b dL_law_772 (by decide) (fun q => absurd rfl q) (fun _ => ?_)
    refine lv_iconst (v := 1) C.x C.b dL_law_775 (by decide) ?_
    refine lv_goto (tgt := 780) C.x C.b dL_law_776 (by decide) ?_
    refine lv_istore (lv' := [(7, .int 1), (24, .int (nI L)), (23, .int (σ 31 j16)), (22, .int (σ 30 j16)), (21, .int 1), (20, .int (nI x)), (19, .int (nI f)), (18, .int (nI P)), (17, .int (σ 28 j16)), (16, .int (nI j16)), (15, .int (nI j15)), (14, .int (nI j14)), (13, .int w), (12, .int (nI (c0 + 1))), (11, .int x11), (10, .int (σ 24 0)), (9, .int (nI mm)), (8, .int (nI M)), (6, .int (σ 18 0)), (5, .ref (ead E 16)), (4, .ref (ead E 15)), (3, .int (nI n)), (2, .int v0), (1, .ref (ead E 0)), (0, .ref b)]) C.x C.b dL_law_780 hl (by decide) rfl (fun ls hl => ?_)
    refine lv_iload C.x C.b dL_law_782 (lv_at hl 0 rfl) ?_
    refine lv_if_eq (tgt := 847) C.x C.b dL_law_784 (by decide) (fun q => absurd q (by decide)) (fun _ => ?_)
    refine lv_aload_n C.x C.b dL_law_787 rfl (lv_at hl 23 rfl) ?_
    refine lv_iload C.x C.b dL_law_788 (lv_at hl 9 rfl) ?_
    refine lv_iconst (v := 3) C.x C.b dL_law_790 (by decide) ?_
    refine lcI (As := [.int (nI j16), .int 3]) (rest := []) C h (M_X6_aircraftOf l hfl D E _ (i1.ok hn) (nI j16) 3) w3 cw_L_8 m_im_X6_aircraftOf m_se_X6_aircraftOf rfl rfl ⟨Nat.le_of_ble_eq_true rfl, Nat.le_of_ble_eq_true rfl⟩ hl rfl (Nat.le_of_ble_eq_true rfl) dL_law_791 ⟨by show cells + 10 + 10 + 10 + 10 + 10 + 10 + 10 + 10 ≤ 600086; omega, by show slots + 60 + 60 + 60 + 60 + 60 + 60 + 60 + 60 ≤ 7301441; omega⟩ (fun H locs h => ?_)
    refine lv_iload C.x C.b dL_law_794 (lv_at hl 2 rfl) ?_
    refine lv_iload C.x C.b dL_law_796 (lv_at hl 5 rfl) ?_
    refine lv_iconst (v := 5) C.x C.b dL_law_798 (by decide) ?_
    refine lv_idiv C.x C.b dL_law_799 (by decide) ?_
    refine lv_iadd C.x C.b dL_law_800 ?_
    refine lv_icmp_ne (tgt := 847) C.x C.b dL_law_801 (by decide) (fun q => absurd (by rw [e5]) q) (fun _ => ?_)
    refine lv_aload_n C.x C.b dL_law_804 rfl (lv_at hl 23 rfl) ?_
    refine lv_iconst (v := 3) C.x C.b dL_law_805 (by decide) ?_
    refine lcI (As := [.int 3]) (rest := []) C h (M_X6_sum l hfl D E _ (i1.ok hn) 3) ws cw_L_65 m_im_X6_sum m_se_X6_sum rfl rfl ⟨Nat.le_of_ble_eq_true rfl, Nat.le_of_ble_eq_true rfl⟩ hl rfl (Nat.le_of_ble_eq_true rfl) dL_law_806 ⟨by show cells + 10 + 10 + 10 + 10 + 10 + 10 + 10 + 10 + 10 ≤ 600086; omega, by show slots + 60 + 60 + 60 + 60 + 60 + 60 + 60 + 60 + 60 ≤ 7301441; omega⟩ (fun H locs h => ?_)
    refine lv_iload C.x C.b dL_law_809 (lv_at hl 1 rfl) ?_
    refine lv_iload C.x C.b dL_law_811 (lv_at hl 5 rfl) ?_
    refine lv_iadd C.x C.b dL_law_813 ?_
    refine lv_iload C.x C.b dL_law_814 (lv_at hl 5 rfl) ?_
    refine lv_iconst (v := 5) C.x C.b dL_law_816 (by decide) ?_
    refine lv_idiv C.x C.b dL_law_817 (by decide) ?_
    refine lv_isub C.x C.b dL_law_818 ?_
    refine lv_icmp_ne (tgt := 847) C.x C.b dL_law_819 (by decide) (fun q => absurd e819 q) (fun _ => ?_)
    refine lv_aload_n C.x C.b dL_law_822 rfl (lv_at hl 23 rfl) ?_
    refine lv_iload C.x C.b dL_law_823 (lv_at hl 9 rfl) ?_
    refine lcD (As := [.int (nI j16)]) (rest := []) C h (M_X6_clock l hfl D E _ (i1.ok hn) (nI j16)) wc cw_L_21 m_im_X6_clock m_se_X6_clock rfl rfl ⟨Nat.le_of_ble_eq_true rfl, Nat.le_of_ble_eq_true rfl⟩ hl rfl (Nat.le_of_ble_eq_true rfl) dL_law_825 ⟨by show cells + 10 + 10 + 10 + 10 + 10 + 10 + 10 + 10 + 10 + 10 ≤ 600086; omega, by show slots + 60 + 60 + 60 + 60 + 60 + 60 + 60 + 60 + 60 + 60 ≤ 7301441; omega⟩ (fun H locs h => ?_)
    refine lv_dconst0 C.x C.b dL_law_828 ?_
    refine lv_dcmp C.x C.b dL_law_829 ?_
    refine lv_if_le (tgt := 847) C.x C.b dL_law_830 (by decide) (fun q => absurd q (Int32.not_le.mpr wp)) (fun _ => ?_)
    refine lv_aload_n C.x C.b dL_law_833 rfl (lv_at hl 23 rfl) ?_
    refine lv_iload C.x C.b dL_law_834 (lv_at hl 9 rfl) ?_
    refine lcI (As := [.int (nI j16)]) (rest := []) C h (M_X6_whyNot l hfl D E _ (i1.ok hn) (nI j16)) wy cw_L_18 m_im_X6_whyNot m_se_X6_whyNot rfl rfl ⟨Nat.le_of_ble_eq_true rfl, Nat.le_of_ble_eq_true rfl⟩ hl rfl (Nat.le_of_ble_eq_true rfl) dL_law_836 ⟨by show cells + 10 + 10 + 10 + 10 + 10 + 10 + 10 + 10 + 10 + 10 + 10 ≤ 600086; omega, by show slots + 60 + 60 + 60 + 60 + 60 + 60 + 60 + 60 + 60 + 60 + 60 ≤ 7301441; omega⟩ (fun H locs h => ?_)
    refine lv_iconst (v := 1) C.x C.b dL_law_839 (by decide) ?_
    refine lv_icmp_ne (tgt := 847) C.x C.b dL_law_840 (by decide) (fun q => absurd q (by decide)) (fun _ => ?_)
    refine lv_iconst (v := 1) C.x C.b dL_law_843 (by decide) ?_
    refine lv_goto (tgt := 848) C.x C.b dL_law_844 (by decide) ?_
    refine lv_istore (lv' := [(7, .int 1), (24, .int (nI L)), (23, .int (σ 31 j16)), (22, .int (σ 30 j16)), (21, .int 1), (20, .int (nI x)), (19, .int (nI f)), (18, .int (nI P)), (17, .int (σ 28 j16)), (16, .int (nI j16)), (15, .int (nI j15)), (14, .int (nI j14)), (13, .int w), (12, .int (nI (c0 + 1))), (11, .int x11), (10, .int (σ 24 0)), (9, .int (nI mm)), (8, .int (nI M)), (6, .int (σ 18 0)), (5, .ref (ead E 16)), (4, .ref (ead E 15)), (3, .int (nI n)), (2, .int v0), (1, .ref (ead E 0)), (0, .ref b)]) C.x C.b dL_law_848 hl (by decide) rfl (fun ls hl => ?_)
    refine lv_goto (tgt := 1056) C.x C.b dL_law_850 (by decide) ?_
    exact B τ mm (σ 18 0) (σ 24 0) H locs _ _ ls h i1 t18.symm t24.symm (by rw [t20]; exact hx) (by show cells + 10 + 10 + 10 + 10 + 10 + 10 + 10 + 10 + 10 + 10 + 10 ≤ _; omega) (by show slots + 60 + 60 + 60 + 60 + 60 + 60 + 60 + 60 + 60 + 60 + 60 ≤ _; omega) (lv_sub hl [13, 14, 15, 16, 17, 0, 18, 19, 20, 21, 22, 23, 24] rfl)
set_option maxRecDepth 100000 in
set_option maxHeartbeats 4000000 in
theorem tr_622 {p : Program} {l : Launch} (hfl : l.stackTraces = false) {e : Env} {s : State} {m : MethodId} {args : Array Value} {below : List Frame} {meth : Method} {c : Code} {Q : State → Prop} {D : va_G} {E : En} {A : Nat → Prop} {b n : Nat} {v0 : Int32} {M : Nat} {x11 : Int32} {c0 : Nat} {σ : St} {mm : Nat} (hI : II σ mm n c0) (hc0 : c0 < 59) (hn : n = en E) (hx : x11 ≤ σ 20 0) (B : BK p l e s m args below meth c Q D E A b n v0 M x11 c0) (C : CX p s m meth c cL_law RL 25 D E A) {w : Int32} {j14 j15 j16 : Nat} (hj16 : j16 < n) {P f x : Nat} (hP : P < 3) (hf : f < 3) (hx1 : 10 ≤ x) (hx2 : x ≤ 909) :
    ∀ (d k : Nat), d + k = n → ∀ (z : Int32) (H : Heap) (locs : List Loc) (cells slots : Nat) (ls : Array Slot), (z = 0 ∨ z = 1 ∧ ((σ 28 j16 = 0 ∨ σ 28 j16 = 2) ∧ ¬ 40 + 20 * nI P < σ 40 j16 ∧ ¬ σ 41 f < nI x) ∧ ∀ i, i < k → ¬ pd σ i = nI P) → HW D E σ A s H locs → cells ≤ 320 + 2000 * c0 + 10 * k → slots ≤ 2120 + 12000 * c0 + 60 * k → lv_has ls 25 [(22, .int (nI k)), (21, .int z), (20, .int (nI x)), (19, .int (nI f)), (18, .int (nI P)), (17, .int (σ 28 j16)), (16, .int (nI j16)), (15, .int (nI j15)), (14, .int (nI j14)), (13, .int w), (12, .int (nI (c0 + 1))), (11, .int x11), (10, .int (σ 24 0)), (9, .int (nI mm)), (8, .int (nI M)), (7, .int 1), (6, .int (σ 18 0)), (5, .ref (ead E 16)), (4, .ref (ead E 15)), (3, .int (nI n)), (2, .int v0), (1, .ref (ead E 0)), (0, .ref b)] → W p l e room_1 s m args below meth c H locs cells slots Q (F0 m 622 ls []) := by
  have ok : OK E σ := hI.ok hn
  have h6 := hI.n6
  intro d
  induction d with
  | zero =>
    intro k hd z H locs cells slots ls hz h hc hs hl
    obtain rfl : k = n := by omega
    refine lv_iload C.x C.b dL_law_622 (lv_at hl 0 rfl) ?_
    refine lv_iload_n C.x C.b dL_law_624 rfl (lv_at hl 19 rfl) ?_
    refine lv_icmp_ge (tgt := 658) C.x C.b dL_law_625 (by decide) (fun _ => ?_) (fun q => absurd (Int32.le_refl _) q)
    exact tr_658 hfl hI hc0 hn hx B C hj16 hP hf hx1 hx2 hz h (by omega) (by omega) (lv_sub hl [1, 2, 3, 4, 5, 6, 7, 8, 9, 10, 11, 12, 13, 14, 15, 16, 17, 18, 19, 20, 21, 22] rfl)
  | succ d ih =>
    intro k hd z H locs cells slots ls hz h hc hs hl
    have hk : k < n := by omega
    rcases hz with rfl | ⟨rfl, f0, hpad⟩
    · skip
      refine lv_iload C.x C.b dL_law_622 (lv_at hl 0 rfl) ?_
      refine lv_iload_n C.x C.b dL_law_624 rfl (lv_at hl 19 rfl) ?_
      refine lv_icmp_ge (tgt := 658) C.x C.b dL_law_625 (by decide) (fun q => absurd q (nI_ge hk (by omega))) (fun _ => ?_)
      refine lv_iload C.x C.b dL_law_628 (lv_at hl 1 rfl) ?_
      refine lv_if_eq (tgt := 649) C.x C.b dL_law_630 (by decide) (fun _ => ?_) (fun q => absurd q (by decide))
      refine lv_iconst (v := 0) C.x C.b dL_law_649 (by decide) ?_
      refine lv_istore (lv' := [(21, .int 0), (22, .int (nI k)), (20, .int (nI x)), (19, .int (nI f)), (18, .int (nI P)), (17, .int (σ 28 j16)), (16, .int (nI j16)), (15, .int (nI j15)), (14, .int (nI j14)), (13, .int w), (12, .int (nI (c0 + 1))), (11, .int x11), (10, .int (σ 24 0)), (9, .int (nI mm)), (8, .int (nI M)), (7, .int 1), (6, .int (σ 18 0)), (5, .ref (ead E 16)), (4, .ref (ead E 15)), (3, .int (nI n)), (2, .int v0), (1, .ref (ead E 0)), (0, .ref b)]) C.x C.b dL_law_650 hl (by decide) rfl (fun ls hl => ?_)
      refine lv_iinc (v := nI (k + 1)) (lv' := [(22, .int (nI (k + 1))), (21, .int 0), (20, .int (nI x)), (19, .int (nI f)), (18, .int (nI P)), (17, .int (σ 28 j16)), (16, .int (nI j16)), (15, .int (nI j15)), (14, .int (nI j14)), (13, .int w), (12, .int (nI (c0 + 1))), (11, .int x11), (10, .int (σ 24 0)), (9, .int (nI mm)), (8, .int (nI M)), (7, .int 1), (6, .int (σ 18 0)), (5, .ref (ead E 16)), (4, .ref (ead E 15)), (3, .int (nI n)), (2, .int v0), (1, .ref (ead E 0)), (0, .ref b)]) C.x C.b dL_law_652 hl (k := 1) rfl (nI_1 k) (by decide) rfl (fun ls hl => ?_)
      refine lv_goto (tgt := 622) C.x C.b dL_law_655 (by decide) ?_
      exact ih (k + 1) (by omega) 0 _ _ _ _ _ (Or.inl rfl) h (by show cells ≤ _; omega) (by show slots ≤ _; omega) (lv_sub hl [0, 1, 2, 3, 4, 5, 6, 7, 8, 9, 10, 11, 12, 13, 14, 15, 16, 17, 18, 19, 20, 21, 22] rfl)
    · skip
      refine lv_iload C.x C.b dL_law_622 (lv_at hl 0 rfl) ?_
      refine lv_iload_n C.x C.b dL_law_624 rfl (lv_at hl 19 rfl) ?_
      refine lv_icmp_ge (tgt := 658) C.x C.b dL_law_625 (by decide) (fun q => absurd q (nI_ge hk (by omega))) (fun _ => ?_)
      refine lv_iload C.x C.b dL_law_628 (lv_at hl 1 rfl) ?_
      refine lv_if_eq (tgt := 649) C.x C.b dL_law_630 (by decide) (fun q => absurd q (by decide)) (fun _ => ?_)
      refine lv_aload_n C.x C.b dL_law_633 rfl (lv_at hl 21 rfl) ?_
      refine lv_iload C.x C.b dL_law_634 (lv_at hl 0 rfl) ?_
      refine lv_iconst (v := 4) C.x C.b dL_law_636 (by decide) ?_
      refine lcI (As := [.int (nI k), .int 4]) (rest := []) C h (M_X6_aircraftOf l hfl D E _ ok (nI k) 4) (V_air4 hI.n0 h6 hk) cw_L_8 m_im_X6_aircraftOf m_se_X6_aircraftOf rfl rfl ⟨Nat.le_of_ble_eq_true rfl, Nat.le_of_ble_eq_true rfl⟩ hl rfl (Nat.le_of_ble_eq_true rfl) dL_law_637 ⟨by show cells + 10 ≤ 600086; omega, by show slots + 60 ≤ 7301441; omega⟩ (fun H locs h => ?_)
      refine lv_iload C.x C.b dL_law_640 (lv_at hl 4 rfl) ?_
      refine lv_icmp_eq (tgt := 649) C.x C.b dL_law_642 (by decide) (fun c642 => ?_) (fun c642 => ?_)
      · skip
        refine lv_iconst (v := 0) C.x C.b dL_law_649 (by decide) ?_
        refine lv_istore (lv' := [(21, .int 0), (22, .int (nI k)), (20, .int (nI x)), (19, .int (nI f)), (18, .int (nI P)), (17, .int (σ 28 j16)), (16, .int (nI j16)), (15, .int (nI j15)), (14, .int (nI j14)), (13, .int w), (12, .int (nI (c0 + 1))), (11, .int x11), (10, .int (σ 24 0)), (9, .int (nI mm)), (8, .int (nI M)), (7, .int 1), (6, .int (σ 18 0)), (5, .ref (ead E 16)), (4, .ref (ead E 15)), (3, .int (nI n)), (2, .int v0), (1, .ref (ead E 0)), (0, .ref b)]) C.x C.b dL_law_650 hl (by decide) rfl (fun ls hl => ?_)
        refine lv_iinc (v := nI (k + 1)) (lv' := [(22, .int (nI (k + 1))), (21, .int 0), (20, .int (nI x)), (19, .int (nI f)), (18, .int (nI P)), (17, .int (σ 28 j16)), (16, .int (nI j16)), (15, .int (nI j15)), (14, .int (nI j14)), (13, .int w), (12, .int (nI (c0 + 1))), (11, .int x11), (10, .int (σ 24 0)), (9, .int (nI mm)), (8, .int (nI M)), (7, .int 1), (6, .int (σ 18 0)), (5, .ref (ead E 16)), (4, .ref (ead E 15)), (3, .int (nI n)), (2, .int v0), (1, .ref (ead E 0)), (0, .ref b)]) C.x C.b dL_law_652 hl (k := 1) rfl (nI_1 k) (by decide) rfl (fun ls hl => ?_)
        refine lv_goto (tgt := 622) C.x C.b dL_law_655 (by decide) ?_
        exact ih (k + 1) (by omega) 0 _ _ _ _ _ (Or.inl rfl) h (by show cells + 10 ≤ _; omega) (by show slots + 60 ≤ _; omega) (lv_sub hl [0, 1, 2, 3, 4, 5, 6, 7, 8, 9, 10, 11, 12, 13, 14, 15, 16, 17, 18, 19, 20, 21, 22] rfl)
      · skip
        refine lv_iconst (v := 1) C.x C.b dL_law_645 (by decide) ?_
        refine lv_goto (tgt := 650) C.x C.b dL_law_646 (by decide) ?_
        refine lv_istore (lv' := [(21, .int 1), (22, .int (nI k)), (20, .int (nI x)), (19, .int (nI f)), (18, .int (nI P)), (17, .int (σ 28 j16)), (16, .int (nI j16)), (15, .int (nI j15)), (14, .int (nI j14)), (13, .int w), (12, .int (nI (c0 + 1))), (11, .int x11), (10, .int (σ 24 0)), (9, .int (nI mm)), (8, .int (nI M)), (7, .int 1), (6, .int (σ 18 0)), (5, .ref (ead E 16)), (4, .ref (ead E 15)), (3, .int (nI n)), (2, .int v0), (1, .ref (ead E 0)), (0, .ref b)]) C.x C.b dL_law_650 hl (by decide) rfl (fun ls hl => ?_)
        refine lv_iinc (v := nI (k + 1)) (lv' := [(22, .int (nI (k + 1))), (21, .int 1), (20, .int (nI x)), (19, .int (nI f)), (18, .int (nI P)), (17, .int (σ 28 j16)), (16, .int (nI j16)), (15, .int (nI j15)), (14, .int (nI j14)), (13, .int w), (12, .int (nI (c0 + 1))), (11, .int x11), (10, .int (σ 24 0)), (9, .int (nI mm)), (8, .int (nI M)), (7, .int 1), (6, .int (σ 18 0)), (5, .ref (ead E 16)), (4, .ref (ead E 15)), (3, .int (nI n)), (2, .int v0), (1, .ref (ead E 0)), (0, .ref b)]) C.x C.b dL_law_652 hl (k := 1) rfl (nI_1 k) (by decide) rfl (fun ls hl => ?_)
        refine lv_goto (tgt := 622) C.x C.b dL_law_655 (by decide) ?_
        exact ih (k + 1) (by omega) 1 _ _ _ _ _ (Or.inr ⟨rfl, f0, fun i hi => (show i < k ∨ i = k by omega).elim (hpad i) (fun q => by rw [q]; exact c642)⟩) h (by show cells + 10 ≤ _; omega) (by show slots + 60 ≤ _; omega) (lv_sub hl [0, 1, 2, 3, 4, 5, 6, 7, 8, 9, 10, 11, 12, 13, 14, 15, 16, 17, 18, 19, 20, 21, 22] rfl)
set_option maxRecDepth 100000 in
set_option maxHeartbeats 4000000 in
theorem case_treat {p : Program} {l : Launch} (hfl : l.stackTraces = false) {e : Env} {s : State} {m : MethodId} {args : Array Value} {below : List Frame} {meth : Method} {c : Code} {Q : State → Prop} {D : va_G} {E : En} {A : Nat → Prop} {b n : Nat} {v0 : Int32} {M : Nat} {x11 : Int32} {c0 : Nat} {σ : St} {mm : Nat} (hI : II σ mm n c0) (hc0 : c0 < 59) (hn : n = en E) (hx : x11 ≤ σ 20 0) (B : BK p l e s m args below meth c Q D E A b n v0 M x11 c0) (C : CX p s m meth c cL_law RL 25 D E A) {H : Heap} {locs : List Loc} (h : HW D E σ A s H locs) {w : Int32} {j14 j15 j16 : Nat} (hj15 : j15 < 3) (hj16 : j16 < n) {cells slots : Nat} (hc : cells ≤ 320 + 2000 * c0) (hs : slots ≤ 2120 + 12000 * c0) {ls : Array Slot} (hl : lv_has ls 25 [(17, .int (σ 28 j16)), (16, .int (nI j16)), (15, .int (nI j15)), (14, .int (nI j14)), (13, .int w), (12, .int (nI (c0 + 1))), (11, .int x11), (10, .int (σ 24 0)), (9, .int (nI mm)), (8, .int (nI M)), (7, .int 1), (6, .int (σ 18 0)), (5, .ref (ead E 16)), (4, .ref (ead E 15)), (3, .int (nI n)), (2, .int v0), (1, .ref (ead E 0)), (0, .ref b)]) : W p l e room_1 s m args below meth c H locs cells slots Q (F0 m 537 ls []) := by
  have ok : OK E σ := hI.ok hn
  have h6 := hI.n6
  refine lv_iload C.x C.b dL_law_537 (lv_at hl 4 rfl) ?_
  refine lv_bipush (v := 6) C.x C.b dL_law_539 (by decide) ?_
  refine lv_ishr C.x C.b dL_law_541 ?_
  refine lv_iconst (v := 3) C.x C.b dL_law_542 (by decide) ?_
  refine caLow (N := 3) (by decide) (by decide) rfl C h cw_L_32 ⟨Nat.le_of_ble_eq_true rfl, Nat.le_of_ble_eq_true rfl⟩ hl (Nat.le_of_ble_eq_true rfl) dL_law_543 ⟨by show cells ≤ 600086; omega, by show slots ≤ 7301441; omega⟩ (fun j1 H locs hj1 h => ?_)
  refine lv_istore (lv' := [(18, .int (nI j1)), (17, .int (σ 28 j16)), (16, .int (nI j16)), (15, .int (nI j15)), (14, .int (nI j14)), (13, .int w), (12, .int (nI (c0 + 1))), (11, .int x11), (10, .int (σ 24 0)), (9, .int (nI mm)), (8, .int (nI M)), (7, .int 1), (6, .int (σ 18 0)), (5, .ref (ead E 16)), (4, .ref (ead E 15)), (3, .int (nI n)), (2, .int v0), (1, .ref (ead E 0)), (0, .ref b)]) C.x C.b dL_law_546 hl (by decide) rfl (fun ls hl => ?_)
  refine lv_iload C.x C.b dL_law_548 (lv_at hl 5 rfl) ?_
  refine lv_bipush (v := 7) C.x C.b dL_law_550 (by decide) ?_
  refine lv_ishr C.x C.b dL_law_552 ?_
  refine lv_iconst (v := 3) C.x C.b dL_law_553 (by decide) ?_
  refine caLow (N := 3) (by decide) (by decide) rfl C h cw_L_32 ⟨Nat.le_of_ble_eq_true rfl, Nat.le_of_ble_eq_true rfl⟩ hl (Nat.le_of_ble_eq_true rfl) dL_law_554 ⟨by show cells ≤ 600086; omega, by show slots ≤ 7301441; omega⟩ (fun j2 H locs hj2 h => ?_)
  refine lv_istore (lv' := [(19, .int (nI j2)), (18, .int (nI j1)), (17, .int (σ 28 j16)), (16, .int (nI j16)), (15, .int (nI j15)), (14, .int (nI j14)), (13, .int w), (12, .int (nI (c0 + 1))), (11, .int x11), (10, .int (σ 24 0)), (9, .int (nI mm)), (8, .int (nI M)), (7, .int 1), (6, .int (σ 18 0)), (5, .ref (ead E 16)), (4, .ref (ead E 15)), (3, .int (nI n)), (2, .int v0), (1, .ref (ead E 0)), (0, .ref b)]) C.x C.b dL_law_557 hl (by decide) rfl (fun ls hl => ?_)
  refine lv_bipush (v := 10) C.x C.b dL_law_559 (by decide) ?_
  refine lv_iload C.x C.b dL_law_561 (lv_at hl 6 rfl) ?_
  refine lv_bipush (v := 8) C.x C.b dL_law_563 (by decide) ?_
  refine lv_ishr C.x C.b dL_law_565 ?_
  refine lv_sipush (v := 900) C.x C.b dL_law_566 (by decide) ?_
  refine caLow (N := 900) (by decide) (by decide) rfl C h cw_L_32 ⟨Nat.le_of_ble_eq_true rfl, Nat.le_of_ble_eq_true rfl⟩ hl (Nat.le_of_ble_eq_true rfl) dL_law_569 ⟨by show cells ≤ 600086; omega, by show slots ≤ 7301441; omega⟩ (fun j3 H locs hj3 h => ?_)
  refine lv_iadd C.x C.b dL_law_572 ?_
  refine top_eq (y := nI (10 + j3)) (nI_add 10 j3) ?_
  refine lv_istore (lv' := [(20, .int (nI (10 + j3))), (19, .int (nI j2)), (18, .int (nI j1)), (17, .int (σ 28 j16)), (16, .int (nI j16)), (15, .int (nI j15)), (14, .int (nI j14)), (13, .int w), (12, .int (nI (c0 + 1))), (11, .int x11), (10, .int (σ 24 0)), (9, .int (nI mm)), (8, .int (nI M)), (7, .int 1), (6, .int (σ 18 0)), (5, .ref (ead E 16)), (4, .ref (ead E 15)), (3, .int (nI n)), (2, .int v0), (1, .ref (ead E 0)), (0, .ref b)]) C.x C.b dL_law_573 hl (by decide) rfl (fun ls hl => ?_)
  refine lv_iload C.x C.b dL_law_575 (lv_at hl 3 rfl) ?_
  refine lv_if_eq (tgt := 586) C.x C.b dL_law_577 (by decide) (fun c577 => ?_) (fun c577 => ?_)
  · skip
    have f1 : σ 28 j16 = 0 ∨ σ 28 j16 = 2 := Or.inl c577
    refine lv_aload C.x C.b dL_law_586 (lv_at hl 16 rfl) ?_
    refine lv_iload C.x C.b dL_law_588 (lv_at hl 4 rfl) ?_
    refine aln_15 C h (j := j16) (by omega) dL_law_590 ?_
    refine lv_bipush (v := 40) C.x C.b dL_law_591 (by decide) ?_
    refine lv_bipush (v := 20) C.x C.b dL_law_593 (by decide) ?_
    refine lv_iload C.x C.b dL_law_595 (lv_at hl 2 rfl) ?_
    refine lv_imul C.x C.b dL_law_597 ?_
    refine lv_iadd C.x C.b dL_law_598 ?_
    refine lv_icmp_gt (tgt := 616) C.x C.b dL_law_599 (by decide) (fun c599 => ?_) (fun c599 => ?_)
    · skip
      refine lv_iconst (v := 0) C.x C.b dL_law_616 (by decide) ?_
      refine lv_istore (lv' := [(21, .int 0), (20, .int (nI (10 + j3))), (19, .int (nI j2)), (18, .int (nI j1)), (17, .int (σ 28 j16)), (16, .int (nI j16)), (15, .int (nI j15)), (14, .int (nI j14)), (13, .int w), (12, .int (nI (c0 + 1))), (11, .int x11), (10, .int (σ 24 0)), (9, .int (nI mm)), (8, .int (nI M)), (7, .int 1), (6, .int (σ 18 0)), (5, .ref (ead E 16)), (4, .ref (ead E 15)), (3, .int (nI n)), (2, .int v0), (1, .ref (ead E 0)), (0, .ref b)]) C.x C.b dL_law_617 hl (by decide) rfl (fun ls hl => ?_)
      refine lv_iconst (v := 0) C.x C.b dL_law_619 (by decide) ?_
      refine lv_istore (lv' := [(22, .int 0), (21, .int 0), (20, .int (nI (10 + j3))), (19, .int (nI j2)), (18, .int (nI j1)), (17, .int (σ 28 j16)), (16, .int (nI j16)), (15, .int (nI j15)), (14, .int (nI j14)), (13, .int w), (12, .int (nI (c0 + 1))), (11, .int x11), (10, .int (σ 24 0)), (9, .int (nI mm)), (8, .int (nI M)), (7, .int 1), (6, .int (σ 18 0)), (5, .ref (ead E 16)), (4, .ref (ead E 15)), (3, .int (nI n)), (2, .int v0), (1, .ref (ead E 0)), (0, .ref b)]) C.x C.b dL_law_620 hl (by decide) rfl (fun ls hl => ?_)
      exact tr_622 hfl hI hc0 hn hx B C hj16 (P := j1) (f := j2) (x := 10 + j3) hj1 hj2 (by omega) (by omega) n 0 rfl 0 _ _ _ _ _ (Or.inl rfl) h (by show cells ≤ _; omega) (by show slots ≤ _; omega) (lv_sub hl [0, 1, 2, 3, 4, 5, 6, 7, 8, 9, 10, 11, 12, 13, 14, 15, 16, 17, 18, 19, 20, 21, 22] rfl)
    · skip
      refine lv_aload C.x C.b dL_law_602 (lv_at hl 15 rfl) ?_
      refine lv_iload C.x C.b dL_law_604 (lv_at hl 1 rfl) ?_
      refine aln_16 C h (j := j2) hj2 dL_law_606 ?_
      refine lv_iload C.x C.b dL_law_607 (lv_at hl 0 rfl) ?_
      refine lv_icmp_lt (tgt := 616) C.x C.b dL_law_609 (by decide) (fun c609 => ?_) (fun c609 => ?_)
      · skip
        refine lv_iconst (v := 0) C.x C.b dL_law_616 (by decide) ?_
        refine lv_istore (lv' := [(21, .int 0), (20, .int (nI (10 + j3))), (19, .int (nI j2)), (18, .int (nI j1)), (17, .int (σ 28 j16)), (16, .int (nI j16)), (15, .int (nI j15)), (14, .int (nI j14)), (13, .int w), (12, .int (nI (c0 + 1))), (11, .int x11), (10, .int (σ 24 0)), (9, .int (nI mm)), (8, .int (nI M)), (7, .int 1), (6, .int (σ 18 0)), (5, .ref (ead E 16)), (4, .ref (ead E 15)), (3, .int (nI n)), (2, .int v0), (1, .ref (ead E 0)), (0, .ref b)]) C.x C.b dL_law_617 hl (by decide) rfl (fun ls hl => ?_)
        refine lv_iconst (v := 0) C.x C.b dL_law_619 (by decide) ?_
        refine lv_istore (lv' := [(22, .int 0), (21, .int 0), (20, .int (nI (10 + j3))), (19, .int (nI j2)), (18, .int (nI j1)), (17, .int (σ 28 j16)), (16, .int (nI j16)), (15, .int (nI j15)), (14, .int (nI j14)), (13, .int w), (12, .int (nI (c0 + 1))), (11, .int x11), (10, .int (σ 24 0)), (9, .int (nI mm)), (8, .int (nI M)), (7, .int 1), (6, .int (σ 18 0)), (5, .ref (ead E 16)), (4, .ref (ead E 15)), (3, .int (nI n)), (2, .int v0), (1, .ref (ead E 0)), (0, .ref b)]) C.x C.b dL_law_620 hl (by decide) rfl (fun ls hl => ?_)
        exact tr_622 hfl hI hc0 hn hx B C hj16 (P := j1) (f := j2) (x := 10 + j3) hj1 hj2 (by omega) (by omega) n 0 rfl 0 _ _ _ _ _ (Or.inl rfl) h (by show cells ≤ _; omega) (by show slots ≤ _; omega) (lv_sub hl [0, 1, 2, 3, 4, 5, 6, 7, 8, 9, 10, 11, 12, 13, 14, 15, 16, 17, 18, 19, 20, 21, 22] rfl)
      · skip
        refine lv_iconst (v := 1) C.x C.b dL_law_612 (by decide) ?_
        refine lv_goto (tgt := 617) C.x C.b dL_law_613 (by decide) ?_
        refine lv_istore (lv' := [(21, .int 1), (20, .int (nI (10 + j3))), (19, .int (nI j2)), (18, .int (nI j1)), (17, .int (σ 28 j16)), (16, .int (nI j16)), (15, .int (nI j15)), (14, .int (nI j14)), (13, .int w), (12, .int (nI (c0 + 1))), (11, .int x11), (10, .int (σ 24 0)), (9, .int (nI mm)), (8, .int (nI M)), (7, .int 1), (6, .int (σ 18 0)), (5, .ref (ead E 16)), (4, .ref (ead E 15)), (3, .int (nI n)), (2, .int v0), (1, .ref (ead E 0)), (0, .ref b)]) C.x C.b dL_law_617 hl (by decide) rfl (fun ls hl => ?_)
        refine lv_iconst (v := 0) C.x C.b dL_law_619 (by decide) ?_
        refine lv_istore (lv' := [(22, .int 0), (21, .int 1), (20, .int (nI (10 + j3))), (19, .int (nI j2)), (18, .int (nI j1)), (17, .int (σ 28 j16)), (16, .int (nI j16)), (15, .int (nI j15)), (14, .int (nI j14)), (13, .int w), (12, .int (nI (c0 + 1))), (11, .int x11), (10, .int (σ 24 0)), (9, .int (nI mm)), (8, .int (nI M)), (7, .int 1), (6, .int (σ 18 0)), (5, .ref (ead E 16)), (4, .ref (ead E 15)), (3, .int (nI n)), (2, .int v0), (1, .ref (ead E 0)), (0, .ref b)]) C.x C.b dL_law_620 hl (by decide) rfl (fun ls hl => ?_)
        exact tr_622 hfl hI hc0 hn hx B C hj16 (P := j1) (f := j2) (x := 10 + j3) hj1 hj2 (by omega) (by omega) n 0 rfl 1 _ _ _ _ _ (Or.inr ⟨rfl, ⟨f1, c599, c609⟩, fun i hi => absurd hi (Nat.not_lt_zero i)⟩) h (by show cells ≤ _; omega) (by show slots ≤ _; omega) (lv_sub hl [0, 1, 2, 3, 4, 5, 6, 7, 8, 9, 10, 11, 12, 13, 14, 15, 16, 17, 18, 19, 20, 21, 22] rfl)
  · skip
    refine lv_iload C.x C.b dL_law_580 (lv_at hl 3 rfl) ?_
    refine lv_iconst (v := 2) C.x C.b dL_law_582 (by decide) ?_
    refine lv_icmp_ne (tgt := 616) C.x C.b dL_law_583 (by decide) (fun c583 => ?_) (fun c583 => ?_)
    · skip
      refine lv_iconst (v := 0) C.x C.b dL_law_616 (by decide) ?_
      refine lv_istore (lv' := [(21, .int 0), (20, .int (nI (10 + j3))), (19, .int (nI j2)), (18, .int (nI j1)), (17, .int (σ 28 j16)), (16, .int (nI j16)), (15, .int (nI j15)), (14, .int (nI j14)), (13, .int w), (12, .int (nI (c0 + 1))), (11, .int x11), (10, .int (σ 24 0)), (9, .int (nI mm)), (8, .int (nI M)), (7, .int 1), (6, .int (σ 18 0)), (5, .ref (ead E 16)), (4, .ref (ead E 15)), (3, .int (nI n)), (2, .int v0), (1, .ref (ead E 0)), (0, .ref b)]) C.x C.b dL_law_617 hl (by decide) rfl (fun ls hl => ?_)
      refine lv_iconst (v := 0) C.x C.b dL_law_619 (by decide) ?_
      refine lv_istore (lv' := [(22, .int 0), (21, .int 0), (20, .int (nI (10 + j3))), (19, .int (nI j2)), (18, .int (nI j1)), (17, .int (σ 28 j16)), (16, .int (nI j16)), (15, .int (nI j15)), (14, .int (nI j14)), (13, .int w), (12, .int (nI (c0 + 1))), (11, .int x11), (10, .int (σ 24 0)), (9, .int (nI mm)), (8, .int (nI M)), (7, .int 1), (6, .int (σ 18 0)), (5, .ref (ead E 16)), (4, .ref (ead E 15)), (3, .int (nI n)), (2, .int v0), (1, .ref (ead E 0)), (0, .ref b)]) C.x C.b dL_law_620 hl (by decide) rfl (fun ls hl => ?_)
      exact tr_622 hfl hI hc0 hn hx B C hj16 (P := j1) (f := j2) (x := 10 + j3) hj1 hj2 (by omega) (by omega) n 0 rfl 0 _ _ _ _ _ (Or.inl rfl) h (by show cells ≤ _; omega) (by show slots ≤ _; omega) (lv_sub hl [0, 1, 2, 3, 4, 5, 6, 7, 8, 9, 10, 11, 12, 13, 14, 15, 16, 17, 18, 19, 20, 21, 22] rfl)
    · skip
      have f1 : σ 28 j16 = 0 ∨ σ 28 j16 = 2 := Or.inr c583
      refine lv_aload C.x C.b dL_law_586 (lv_at hl 16 rfl) ?_
      refine lv_iload C.x C.b dL_law_588 (lv_at hl 4 rfl) ?_
      refine aln_15 C h (j := j16) (by omega) dL_law_590 ?_
      refine lv_bipush (v := 40) C.x C.b dL_law_591 (by decide) ?_
      refine lv_bipush (v := 20) C.x C.b dL_law_593 (by decide) ?_
      refine lv_iload C.x C.b dL_law_595 (lv_at hl 2 rfl) ?_
      refine lv_imul C.x C.b dL_law_597 ?_
      refine lv_iadd C.x C.b dL_law_598 ?_
      refine lv_icmp_gt (tgt := 616) C.x C.b dL_law_599 (by decide) (fun c599 => ?_) (fun c599 => ?_)
      · skip
        refine lv_iconst (v := 0) C.x C.b dL_law_616 (by decide) ?_
        refine lv_istore (lv' := [(21, .int 0), (20, .int (nI (10 + j3))), (19, .int (nI j2)), (18, .int (nI j1)), (17, .int (σ 28 j16)), (16, .int (nI j16)), (15, .int (nI j15)), (14, .int (nI j14)), (13, .int w), (12, .int (nI (c0 + 1))), (11, .int x11), (10, .int (σ 24 0)), (9, .int (nI mm)), (8, .int (nI M)), (7, .int 1), (6, .int (σ 18 0)), (5, .ref (ead E 16)), (4, .ref (ead E 15)), (3, .int (nI n)), (2, .int v0), (1, .ref (ead E 0)), (0, .ref b)]) C.x C.b dL_law_617 hl (by decide) rfl (fun ls hl => ?_)
        refine lv_iconst (v := 0) C.x C.b dL_law_619 (by decide) ?_
        refine lv_istore (lv' := [(22, .int 0), (21, .int 0), (20, .int (nI (10 + j3))), (19, .int (nI j2)), (18, .int (nI j1)), (17, .int (σ 28 j16)), (16, .int (nI j16)), (15, .int (nI j15)), (14, .int (nI j14)), (13, .int w), (12, .int (nI (c0 + 1))), (11, .int x11), (10, .int (σ 24 0)), (9, .int (nI mm)), (8, .int (nI M)), (7, .int 1), (6, .int (σ 18 0)), (5, .ref (ead E 16)), (4, .ref (ead E 15)), (3, .int (nI n)), (2, .int v0), (1, .ref (ead E 0)), (0, .ref b)]) C.x C.b dL_law_620 hl (by decide) rfl (fun ls hl => ?_)
        exact tr_622 hfl hI hc0 hn hx B C hj16 (P := j1) (f := j2) (x := 10 + j3) hj1 hj2 (by omega) (by omega) n 0 rfl 0 _ _ _ _ _ (Or.inl rfl) h (by show cells ≤ _; omega) (by show slots ≤ _; omega) (lv_sub hl [0, 1, 2, 3, 4, 5, 6, 7, 8, 9, 10, 11, 12, 13, 14, 15, 16, 17, 18, 19, 20, 21, 22] rfl)
      · skip
        refine lv_aload C.x C.b dL_law_602 (lv_at hl 15 rfl) ?_
        refine lv_iload C.x C.b dL_law_604 (lv_at hl 1 rfl) ?_
        refine aln_16 C h (j := j2) hj2 dL_law_606 ?_
        refine lv_iload C.x C.b dL_law_607 (lv_at hl 0 rfl) ?_
        refine lv_icmp_lt (tgt := 616) C.x C.b dL_law_609 (by decide) (fun c609 => ?_) (fun c609 => ?_)
        · skip
          refine lv_iconst (v := 0) C.x C.b dL_law_616 (by decide) ?_
          refine lv_istore (lv' := [(21, .int 0), (20, .int (nI (10 + j3))), (19, .int (nI j2)), (18, .int (nI j1)), (17, .int (σ 28 j16)), (16, .int (nI j16)), (15, .int (nI j15)), (14, .int (nI j14)), (13, .int w), (12, .int (nI (c0 + 1))), (11, .int x11), (10, .int (σ 24 0)), (9, .int (nI mm)), (8, .int (nI M)), (7, .int 1), (6, .int (σ 18 0)), (5, .ref (ead E 16)), (4, .ref (ead E 15)), (3, .int (nI n)), (2, .int v0), (1, .ref (ead E 0)), (0, .ref b)]) C.x C.b dL_law_617 hl (by decide) rfl (fun ls hl => ?_)
          refine lv_iconst (v := 0) C.x C.b dL_law_619 (by decide) ?_
          refine lv_istore (lv' := [(22, .int 0), (21, .int 0), (20, .int (nI (10 + j3))), (19, .int (nI j2)), (18, .int (nI j1)), (17, .int (σ 28 j16)), (16, .int (nI j16)), (15, .int (nI j15)), (14, .int (nI j14)), (13, .int w), (12, .int (nI (c0 + 1))), (11, .int x11), (10, .int (σ 24 0)), (9, .int (nI mm)), (8, .int (nI M)), (7, .int 1), (6, .int (σ 18 0)), (5, .ref (ead E 16)), (4, .ref (ead E 15)), (3, .int (nI n)), (2, .int v0), (1, .ref (ead E 0)), (0, .ref b)]) C.x C.b dL_law_620 hl (by decide) rfl (fun ls hl => ?_)
          exact tr_622 hfl hI hc0 hn hx B C hj16 (P := j1) (f := j2) (x := 10 + j3) hj1 hj2 (by omega) (by omega) n 0 rfl 0 _ _ _ _ _ (Or.inl rfl) h (by show cells ≤ _; omega) (by show slots ≤ _; omega) (lv_sub hl [0, 1, 2, 3, 4, 5, 6, 7, 8, 9, 10, 11, 12, 13, 14, 15, 16, 17, 18, 19, 20, 21, 22] rfl)
        · skip
          refine lv_iconst (v := 1) C.x C.b dL_law_612 (by decide) ?_
          refine lv_goto (tgt := 617) C.x C.b dL_law_613 (by decide) ?_
          refine lv_istore (lv' := [(21, .int 1), (20, .int (nI (10 + j3))), (19, .int (nI j2)), (18, .int (nI j1)), (17, .int (σ 28 j16)), (16, .int (nI j16)), (15, .int (nI j15)), (14, .int (nI j14)), (13, .int w), (12, .int (nI (c0 + 1))), (11, .int x11), (10, .int (σ 24 0)), (9, .int (nI mm)), (8, .int (nI M)), (7, .int 1), (6, .int (σ 18 0)), (5, .ref (ead E 16)), (4, .ref (ead E 15)), (3, .int (nI n)), (2, .int v0), (1, .ref (ead E 0)), (0, .ref b)]) C.x C.b dL_law_617 hl (by decide) rfl (fun ls hl => ?_)
          refine lv_iconst (v := 0) C.x C.b dL_law_619 (by decide) ?_
          refine lv_istore (lv' := [(22, .int 0), (21, .int 1), (20, .int (nI (10 + j3))), (19, .int (nI j2)), (18, .int (nI j1)), (17, .int (σ 28 j16)), (16, .int (nI j16)), (15, .int (nI j15)), (14, .int (nI j14)), (13, .int w), (12, .int (nI (c0 + 1))), (11, .int x11), (10, .int (σ 24 0)), (9, .int (nI mm)), (8, .int (nI M)), (7, .int 1), (6, .int (σ 18 0)), (5, .ref (ead E 16)), (4, .ref (ead E 15)), (3, .int (nI n)), (2, .int v0), (1, .ref (ead E 0)), (0, .ref b)]) C.x C.b dL_law_620 hl (by decide) rfl (fun ls hl => ?_)
          exact tr_622 hfl hI hc0 hn hx B C hj16 (P := j1) (f := j2) (x := 10 + j3) hj1 hj2 (by omega) (by omega) n 0 rfl 1 _ _ _ _ _ (Or.inr ⟨rfl, ⟨f1, c599, c609⟩, fun i hi => absurd hi (Nat.not_lt_zero i)⟩) h (by show cells ≤ _; omega) (by show slots ≤ _; omega) (lv_sub hl [0, 1, 2, 3, 4, 5, 6, 7, 8, 9, 10, 11, 12, 13, 14, 15, 16, 17, 18, 19, 20, 21, 22] rfl)
