theorem sw20 (x : Int32) : (∃ j : Nat, j < 20 ∧ x = nI j) ∨ (x.toInt < 0 ∨ 19 < x.toInt) := by
  by_cases h : x.toInt < 0 ∨ 19 < x.toInt
  · exact Or.inr h
  · refine Or.inl ⟨x.toInt.toNat, by omega, ?_⟩
    refine Int32.toInt_inj.mp ?_
    rw [nI_toInt (by omega)]
    omega
set_option maxRecDepth 100000 in
set_option maxHeartbeats 4000000 in
theorem law_loop {p : Program} {l : Launch} (hfl : l.stackTraces = false) {e : Env} {s : State} {m : MethodId} {args : Array Value} {below : List Frame} {meth : Method} {c : Code} {Q : State → Prop} {D : va_G} {A : Nat → Prop} {b L : Nat} {xs : Nat → Int32} (hX : va_X b L xs s s.heap) (hbl : b < s.heap.size) (hbA : ¬ A b) (hL : L ≤ 3072)
    (kE : ∀ (E : En) (σ : St) (H : Heap) (locs : List Loc) (cells slots : Nat) (ls : Array Slot), CX p s m meth c cL_law RL 9 D E A → HW D E σ A s H locs → cells ≤ 601024 → slots ≤ 7293034 → W p l e room_1 s m args below meth c H locs cells slots Q (F0 m 1416 ls [])) :
    ∀ (d i : Nat) (E : En) (σ : St) (mm : Nat) (H : Heap) (locs : List Loc) (cells slots : Nat) (ls : Array Slot), L < 6 * i + 6 + 6 * d → i ≤ 512 → CX p s m meth c cL_law RL 9 D E A → HW D E σ A s H locs → RR σ σ mm (en E) i → mm ≤ 500 * i → cells ≤ 64 + 10 * i → slots ≤ 512 + 60 * i → lv_has ls 9 (LV E b i) → W p l e room_1 s m args below meth c H locs cells slots Q (F0 m 28 ls []) := by
  intro d
  induction d with
  | zero =>
    intro i E σ mm H locs cells slots ls hf hi5 C h hR hm hc hs hl
    have hl : lv_has ls 9 [(5, .int (nI (6 * i))), (4, .ref (ead E 36)), (3, .ref (ead E 35)), (2, .ref (ead E 15)), (1, .ref (ead E 0)), (0, .ref b)] := hl
    refine lv_iload C.x C.b dL_law_28 (lv_at hl 0 rfl) ?_
    refine lv_aload_n C.x C.b dL_law_30 rfl (lv_at hl 5 rfl) ?_
    refine va_slen C.x C.b hX hbl hbA h.2.2 dL_law_31 ?_
    refine lv_bipush (v := 6) C.x C.b dL_law_32 (by decide) ?_
    refine lv_isub C.x C.b dL_law_34 ?_
    refine lv_icmp_gt (tgt := 1416) C.x C.b dL_law_35 (by decide) (fun _ => kE E σ H locs cells slots ls C h (by omega) (by omega)) (fun q => ?_)
    have e1 : (Int32.ofNat L - 6).toInt = (L : Int) - (6 : Nat) := pk_sub_toInt (a := L) (b := 6) (by omega) (by decide)
    rw [Int32.lt_iff_toInt_lt, e1, nI_toInt (by omega)] at q
    exact absurd hf (by omega)
  | succ d ih =>
    intro i E σ mm H locs cells slots ls hf hi5 C h hR hm hc hs hl0
    have hl : lv_has ls 9 [(5, .int (nI (6 * i))), (4, .ref (ead E 36)), (3, .ref (ead E 35)), (2, .ref (ead E 15)), (1, .ref (ead E 0)), (0, .ref b)] := hl0
    refine lv_iload C.x C.b dL_law_28 (lv_at hl 0 rfl) ?_
    refine lv_aload_n C.x C.b dL_law_30 rfl (lv_at hl 5 rfl) ?_
    refine va_slen C.x C.b hX hbl hbA h.2.2 dL_law_31 ?_
    refine lv_bipush (v := 6) C.x C.b dL_law_32 (by decide) ?_
    refine lv_isub C.x C.b dL_law_34 ?_
    refine lv_icmp_gt (tgt := 1416) C.x C.b dL_law_35 (by decide) (fun _ => kE E σ H locs cells slots ls C h (by omega) (by omega)) (fun q => ?_)
    have e1 : (Int32.ofNat L - 6).toInt = (L : Int) - (6 : Nat) := pk_sub_toInt (a := L) (b := 6) (by omega) (by decide)
    rw [Int32.lt_iff_toInt_lt, e1, nI_toInt (by omega)] at q
    have hi : 6 * i + 5 < L := by omega
    have B : BK p l e s m args below meth c Q D A b i := by
      intro E σ mm H locs cells slots ls C h hR hm hc hs hl
      have hl : lv_has ls 9 [(5, .int (nI (6 * i))), (4, .ref (ead E 36)), (3, .ref (ead E 35)), (2, .ref (ead E 15)), (1, .ref (ead E 0)), (0, .ref b)] := hl
      refine lv_iinc (v := nI (6 * (i + 1))) (lv' := LV E b (i + 1)) C.x C.b dL_law_1410 hl (k := 0) rfl (nI_add (6 * i) 6) (by decide) rfl (fun ls hl => ?_)
      refine lv_goto (tgt := 28) C.x C.b dL_law_1413 (by decide) ?_
      exact ih (i + 1) E σ mm H locs cells slots ls (by omega) (by omega) C h hR hm hc hs hl
    refine lv_aload_n C.x C.b dL_law_38 rfl (lv_at hl 5 rfl) ?_
    refine lv_iload C.x C.b dL_law_39 (lv_at hl 0 rfl) ?_
    refine ldS (j := 6 * i) C h hX hbl hbA hL (by omega) rfl dL_law_41 ?_
    refine lv_bipush (v := 31) C.x C.b dL_law_42 (by decide) ?_
    refine lv_iand C.x C.b dL_law_44 ?_
    generalize xs (6 * i) &&& 31 = x
    rcases sw20 x with ⟨j, hj, rfl⟩ | hx
    · match j, hj with
      | 0, _ =>
        refine lv_tableIn (x := nI 0) (off := 95) (tgt := 140) C.x C.b dL_law_45 (by decide) (by decide) (by decide) (by decide) ?_
        exact case_weather hfl hX hbl hbA hL hi B C h hR hm hc hs hl0
      | 1, _ =>
        refine lv_tableIn (x := nI 1) (off := 167) (tgt := 212) C.x C.b dL_law_45 (by decide) (by decide) (by decide) (by decide) ?_
        exact case_spray hfl hX hbl hbA hL hi B C h hR hm hc hs hl0
      | 2, _ =>
        refine lv_tableIn (x := nI 2) (off := 223) (tgt := 268) C.x C.b dL_law_45 (by decide) (by decide) (by decide) (by decide) ?_
        exact case_close hfl hX hbl hbA hL hi B C h hR hm hc hs hl0
      | 3, _ =>
        refine lv_tableIn (x := nI 3) (off := 291) (tgt := 336) C.x C.b dL_law_45 (by decide) (by decide) (by decide) (by decide) ?_
        exact case_pilot hfl hX hbl hbA hL hi B C h hR hm hc hs hl0
      | 4, _ =>
        refine lv_tableIn (x := nI 4) (off := 359) (tgt := 404) C.x C.b dL_law_45 (by decide) (by decide) (by decide) (by decide) ?_
        exact case_supply hfl hX hbl hbA hL hi B C h hR hm hc hs hl0
      | 5, _ =>
        refine lv_tableIn (x := nI 5) (off := 427) (tgt := 472) C.x C.b dL_law_45 (by decide) (by decide) (by decide) (by decide) ?_
        exact case_table hfl hX hbl hbA hL hi B C h hR hm hc hs hl0
      | 6, _ =>
        refine lv_tableIn (x := nI 6) (off := 507) (tgt := 552) C.x C.b dL_law_45 (by decide) (by decide) (by decide) (by decide) ?_
        exact case_aircraft hfl hX hbl hbA hL hi B C h hR hm hc hs hl0
      | 7, _ =>
        refine lv_tableIn (x := nI 7) (off := 587) (tgt := 632) C.x C.b dL_law_45 (by decide) (by decide) (by decide) (by decide) ?_
        exact case_treat hfl hX hbl hbA hL hi B C h hR hm hc hs hl0
      | 8, _ =>
        refine lv_tableIn (x := nI 8) (off := 691) (tgt := 736) C.x C.b dL_law_45 (by decide) (by decide) (by decide) (by decide) ?_
        exact case_cancel hfl hX hbl hbA hL hi B C h hR hm hc hs hl0
      | 9, _ =>
        refine lv_tableIn (x := nI 9) (off := 747) (tgt := 792) C.x C.b dL_law_45 (by decide) (by decide) (by decide) (by decide) ?_
        exact case_permit hfl hX hbl hbA hL hi B C h hR hm hc hs hl0
      | 10, _ =>
        refine lv_tableIn (x := nI 10) (off := 803) (tgt := 848) C.x C.b dL_law_45 (by decide) (by decide) (by decide) (by decide) ?_
        exact case_release hfl hX hbl hbA hL hi B C h hR hm hc hs hl0
      | 11, _ =>
        refine lv_tableIn (x := nI 11) (off := 859) (tgt := 904) C.x C.b dL_law_45 (by decide) (by decide) (by decide) (by decide) ?_
        exact case_pass hfl hX hbl hbA hL hi B C h hR hm hc hs hl0
      | 12, _ =>
        refine lv_tableIn (x := nI 12) (off := 915) (tgt := 960) C.x C.b dL_law_45 (by decide) (by decide) (by decide) (by decide) ?_
        exact case_code hfl hX hbl hbA hL hi B C h hR hm hc hs hl0
      | 13, _ =>
        refine lv_tableIn (x := nI 13) (off := 971) (tgt := 1016) C.x C.b dL_law_45 (by decide) (by decide) (by decide) (by decide) ?_
        exact case_thirdOf hfl hX hbl hbA hL hi B C h hR hm hc hs hl0
      | 14, _ =>
        refine lv_tableIn (x := nI 14) (off := 1039) (tgt := 1084) C.x C.b dL_law_45 (by decide) (by decide) (by decide) (by decide) ?_
        exact case_isGood hfl hX hbl hbA hL hi B C h hR hm hc hs hl0
      | 15, _ =>
        refine lv_tableIn (x := nI 15) (off := 1052) (tgt := 1097) C.x C.b dL_law_45 (by decide) (by decide) (by decide) (by decide) ?_
        exact case_aircraftOf hfl hX hbl hbA hL hi B C h hR hm hc hs hl0
      | 16, _ =>
        refine lv_tableIn (x := nI 16) (off := 1120) (tgt := 1165) C.x C.b dL_law_45 (by decide) (by decide) (by decide) (by decide) ?_
        exact case_clock hfl hX hbl hbA hL hi B C h hR hm hc hs hl0
      | 17, _ =>
        refine lv_tableIn (x := nI 17) (off := 1197) (tgt := 1242) C.x C.b dL_law_45 (by decide) (by decide) (by decide) (by decide) ?_
        exact case_whyNot hfl hX hbl hbA hL hi B C h hR hm hc hs hl0
      | 18, _ =>
        refine lv_tableIn (x := nI 18) (off := 1253) (tgt := 1298) C.x C.b dL_law_45 (by decide) (by decide) (by decide) (by decide) ?_
        exact case_queue hfl hX hbl hbA hL hi B C h hR hm hc hs hl0
      | 19, _ =>
        refine lv_tableIn (x := nI 19) (off := 1309) (tgt := 1354) C.x C.b dL_law_45 (by decide) (by decide) (by decide) (by decide) ?_
        exact case_sum hfl hX hbl hbA hL hi B C h hR hm hc hs hl0
      | j + 20, hj => exact absurd hj (by omega)
    · refine lv_tableOut (tgt := 1410) C.x C.b dL_law_45 hx (by decide) ?_
      exact B E σ mm H locs cells slots ls C h (hR.lc (by omega)) (by omega) (by omega) (by omega) hl0
