/-! methods walked (by program; wip/p23/gen) -/
-- X5_codeNeeded codeNeeded()I
abbrev rm_X5_codeNeeded : Room := { frames := 0, cells := 0, slots := 0, locals := 0 }
def S_X5_codeNeeded (σ : St) : Int32 := if 10 < (σ 5 0) then (if 20 < (σ 5 0) then (if 30 < (σ 5 0) then 7 else 5) else 3) else 1
set_option maxRecDepth 100000 in
set_option maxHeartbeats 4000000 in
theorem K_X5_codeNeeded_0 {p : Program} {l : Launch} {e : Env} {s : State} {m : MethodId} {args : Array Value} {below : List Frame} {meth : Method} {c : Code} {D : va_G} {E : En} {A : Nat → Prop} {post : Int32 → St → Prop} (C : CX p s m meth c cX5_codeNeeded RX5 1 D E A) {σ : St} (ok : OK E σ) {H : Heap} {locs : List Loc} (h : HW D E σ A s H locs) (hr : meth.sig.returnType = some .int) {ls : Array Slot} (hl : lv_has ls 1 [(0, .ref (ead E 1))]) (hp : post (S_X5_codeNeeded σ) σ) : W p l e rm_X5_codeNeeded s m args below meth c H locs 0 0 (MQ below (va_Qi post (POB D E A) A) args s 0 0 A) (F0 m 0 ls []) := by
  refine lv_aload_n C.x C.b dX5_codeNeeded_0 rfl (lv_at hl 0 rfl) ?_
  refine g_X5_7 C h dX5_codeNeeded_1 ?_
  refine lv_bipush (v := 10) C.x C.b dX5_codeNeeded_4 (by decide) ?_
  refine lv_icmp_gt (tgt := 11) C.x C.b dX5_codeNeeded_6 (by decide) (fun c1 => ?_) (fun c1 => ?_)
  · skip
    refine lv_aload_n C.x C.b dX5_codeNeeded_11 rfl (lv_at hl 0 rfl) ?_
    refine g_X5_7 C h dX5_codeNeeded_12 ?_
    refine lv_bipush (v := 20) C.x C.b dX5_codeNeeded_15 (by decide) ?_
    refine lv_icmp_gt (tgt := 22) C.x C.b dX5_codeNeeded_17 (by decide) (fun c2 => ?_) (fun c2 => ?_)
    · skip
      refine lv_aload_n C.x C.b dX5_codeNeeded_22 rfl (lv_at hl 0 rfl) ?_
      refine g_X5_7 C h dX5_codeNeeded_23 ?_
      refine lv_bipush (v := 30) C.x C.b dX5_codeNeeded_26 (by decide) ?_
      refine lv_icmp_gt (tgt := 35) C.x C.b dX5_codeNeeded_28 (by decide) (fun c3 => ?_) (fun c3 => ?_)
      · skip
        refine lv_bipush (v := 7) C.x C.b dX5_codeNeeded_35 (by decide) ?_
        exact rtI C h hr rfl dX5_codeNeeded_37 (Eq.mp (congrArg (fun z => post z σ) ((if_pos c1).trans ((if_pos c2).trans (if_pos c3)))) hp)
      · skip
        refine lv_iconst (v := 5) C.x C.b dX5_codeNeeded_31 (by decide) ?_
        refine lv_goto (tgt := 37) C.x C.b dX5_codeNeeded_32 (by decide) ?_
        exact rtI C h hr rfl dX5_codeNeeded_37 (Eq.mp (congrArg (fun z => post z σ) ((if_pos c1).trans ((if_pos c2).trans (if_neg c3)))) hp)
    · skip
      refine lv_iconst (v := 3) C.x C.b dX5_codeNeeded_20 (by decide) ?_
      exact rtI C h hr rfl dX5_codeNeeded_21 (Eq.mp (congrArg (fun z => post z σ) ((if_pos c1).trans (if_neg c2))) hp)
  · skip
    refine lv_iconst (v := 1) C.x C.b dX5_codeNeeded_9 (by decide) ?_
    exact rtI C h hr rfl dX5_codeNeeded_10 (Eq.mp (congrArg (fun z => post z σ) (if_neg c1)) hp)
theorem M_X5_codeNeeded (l : Launch) (D : va_G) (E : En) (σ : St) (ok : OK E σ) : CO l yX5_codeNeeded cX5_codeNeeded 1 (some .int) rm_X5_codeNeeded [.ref (ead E 1)] D E σ (fun A => va_Qi (fun r u => (S_X5_codeNeeded σ) = r ∧ σ = u) (POB D E A) A) 0 0 :=
  CO.of RX5 (by decide +kernel) rfl (Nat.le_of_ble_eq_true rfl) (fun p e s m below meth c A ls C h hr hl => K_X5_codeNeeded_0 C ok h hr hl ⟨rfl, rfl⟩)
-- X4_isSprayedAt isSprayedAt(I)Z
abbrev rm_X4_isSprayedAt : Room := { frames := 0, cells := 0, slots := 0, locals := 0 }
def S_X4_isSprayedAt (σ : St) (t : Nat) (p1 : Int32) : Int32 := if (σ 11 t) < p1 then 0 else 1
set_option maxRecDepth 100000 in
set_option maxHeartbeats 4000000 in
theorem K_X4_isSprayedAt_0 {p : Program} {l : Launch} {e : Env} {s : State} {m : MethodId} {args : Array Value} {below : List Frame} {meth : Method} {c : Code} {D : va_G} {E : En} {A : Nat → Prop} {post : Int32 → St → Prop} (C : CX p s m meth c cX4_isSprayedAt RX4 2 D E A) {σ : St} (ok : OK E σ) {t : Nat} (ht : t < 3) {p1 : Int32} {H : Heap} {locs : List Loc} (h : HW D E σ A s H locs) (hr : meth.sig.returnType = some .boolean) {ls : Array Slot} (hl : lv_has ls 2 [(0, .ref (ead E (4 + t))), (1, .int p1)]) (hp : post (S_X4_isSprayedAt σ t p1) σ) : W p l e rm_X4_isSprayedAt s m args below meth c H locs 0 0 (MQ below (va_Qi post (POB D E A) A) args s 0 0 A) (F0 m 0 ls []) := by
  refine lv_iload_n C.x C.b dX4_isSprayedAt_0 rfl (lv_at hl 1 rfl) ?_
  refine lv_aload_n C.x C.b dX4_isSprayedAt_1 rfl (lv_at hl 0 rfl) ?_
  refine g_X4_15 C h ht dX4_isSprayedAt_2 ?_
  refine lv_icmp_gt (tgt := 12) C.x C.b dX4_isSprayedAt_5 (by decide) (fun c1 => ?_) (fun c1 => ?_)
  · skip
    refine lv_iconst (v := 0) C.x C.b dX4_isSprayedAt_12 (by decide) ?_
    exact rtI C h hr rfl dX4_isSprayedAt_13 (Eq.mp (congrArg (fun z => post z σ) (if_pos c1)) hp)
  · skip
    refine lv_iconst (v := 1) C.x C.b dX4_isSprayedAt_8 (by decide) ?_
    refine lv_goto (tgt := 13) C.x C.b dX4_isSprayedAt_9 (by decide) ?_
    exact rtI C h hr rfl dX4_isSprayedAt_13 (Eq.mp (congrArg (fun z => post z σ) (if_neg c1)) hp)
theorem M_X4_isSprayedAt (l : Launch) (D : va_G) (E : En) (σ : St) (ok : OK E σ) (t : Nat) (ht : t < 3) (p1 : Int32) : CO l yX4_isSprayedAt cX4_isSprayedAt 2 (some .boolean) rm_X4_isSprayedAt [.ref (ead E (4 + t)), .int p1] D E σ (fun A => va_Qi (fun r u => (S_X4_isSprayedAt σ t p1) = r ∧ σ = u) (POB D E A) A) 0 0 :=
  CO.of RX4 (by decide +kernel) rfl (Nat.le_of_ble_eq_true rfl) (fun p e s m below meth c A ls C h hr hl => K_X4_isSprayedAt_0 C ok ht h hr hl ⟨rfl, rfl⟩)
-- X4_codeOfWhatLies codeOfWhatLies(LIcePad$Weather;)I
abbrev rm_X4_codeOfWhatLies : Room := { frames := 0, cells := 0, slots := 0, locals := 0 }
def S_X4_codeOfWhatLies_14 (σ : St) (t : Nat) (y0 : Int32) : Int32 := if (σ 9 t) = 0 then 6 else if (σ 9 t) = 1 then 5 else if (σ 9 t) = 2 then (if 30 < (σ 10 t) then (if 100 < (σ 10 t) then 2 else 3) else if y0 = 0 then (if 100 < (σ 10 t) then 2 else 3) else 5) else if y0 = 0 then 0 else 1
set_option maxRecDepth 100000 in
set_option maxHeartbeats 4000000 in
theorem K_X4_codeOfWhatLies_14 {p : Program} {l : Launch} {e : Env} {s : State} {m : MethodId} {args : Array Value} {below : List Frame} {meth : Method} {c : Code} {D : va_G} {E : En} {A : Nat → Prop} {post : Int32 → St → Prop} (C : CX p s m meth c cX4_codeOfWhatLies RX4 3 D E A) {σ : St} (ok : OK E σ) {t : Nat} (ht : t < 3) {y0 : Int32} {H : Heap} {locs : List Loc} (h : HW D E σ A s H locs) (hr : meth.sig.returnType = some .int) {ls : Array Slot} (hl : lv_has ls 3 [(0, .ref (ead E (4 + t))), (1, .ref (ead E 1))]) (hp : post (S_X4_codeOfWhatLies_14 σ t y0) σ) : W p l e rm_X4_codeOfWhatLies s m args below meth c H locs 0 0 (MQ below (va_Qi post (POB D E A) A) args s 0 0 A) (F0 m 14 ls [.int y0]) := by
  refine lv_istore_n (lv' := [(2, .int y0), (0, .ref (ead E (4 + t))), (1, .ref (ead E 1))]) C.x C.b dX4_codeOfWhatLies_14 rfl hl (by decide) rfl (fun ls hl => ?_)
  refine lv_aload_n C.x C.b dX4_codeOfWhatLies_15 rfl (lv_at hl 1 rfl) ?_
  refine g_X4_9 C h ht dX4_codeOfWhatLies_16 ?_
  by_cases c1 : (σ 9 t) = 0
  · skip
    refine lv_tableIn (off := 25) (tgt := 44) C.x C.b dX4_codeOfWhatLies_19 (by rw [c1]; decide) (by rw [c1]; decide) (by rw [c1]; decide) (by decide) ?_
    refine lv_bipush (v := 6) C.x C.b dX4_codeOfWhatLies_44 (by decide) ?_
    exact rtI C h hr rfl dX4_codeOfWhatLies_46 (Eq.mp (congrArg (fun z => post z σ) (if_pos c1)) hp)
  · skip
    by_cases c2 : (σ 9 t) = 1
    · skip
      refine lv_tableIn (off := 28) (tgt := 47) C.x C.b dX4_codeOfWhatLies_19 (by rw [c2]; decide) (by rw [c2]; decide) (by rw [c2]; decide) (by decide) ?_
      refine lv_iconst (v := 5) C.x C.b dX4_codeOfWhatLies_47 (by decide) ?_
      exact rtI C h hr rfl dX4_codeOfWhatLies_48 (Eq.mp (congrArg (fun z => post z σ) ((if_neg c1).trans (if_pos c2))) hp)
    · skip
      by_cases c3 : (σ 9 t) = 2
      · skip
        refine lv_tableIn (off := 30) (tgt := 49) C.x C.b dX4_codeOfWhatLies_19 (by rw [c3]; decide) (by rw [c3]; decide) (by rw [c3]; decide) (by decide) ?_
        refine lv_aload_n C.x C.b dX4_codeOfWhatLies_49 rfl (lv_at hl 1 rfl) ?_
        refine g_X4_26 C h ht dX4_codeOfWhatLies_50 ?_
        refine lv_bipush (v := 30) C.x C.b dX4_codeOfWhatLies_53 (by decide) ?_
        refine lv_icmp_gt (tgt := 64) C.x C.b dX4_codeOfWhatLies_55 (by decide) (fun c4 => ?_) (fun c4 => ?_)
        · skip
          refine lv_aload_n C.x C.b dX4_codeOfWhatLies_64 rfl (lv_at hl 1 rfl) ?_
          refine g_X4_26 C h ht dX4_codeOfWhatLies_65 ?_
          refine lv_bipush (v := 100) C.x C.b dX4_codeOfWhatLies_68 (by decide) ?_
          refine lv_icmp_gt (tgt := 77) C.x C.b dX4_codeOfWhatLies_70 (by decide) (fun c5 => ?_) (fun c5 => ?_)
          · skip
            refine lv_iconst (v := 2) C.x C.b dX4_codeOfWhatLies_77 (by decide) ?_
            exact rtI C h hr rfl dX4_codeOfWhatLies_78 (Eq.mp (congrArg (fun z => post z σ) ((if_neg c1).trans ((if_neg c2).trans ((if_pos c3).trans ((if_pos c4).trans (if_pos c5)))))) hp)
          · skip
            refine lv_iconst (v := 3) C.x C.b dX4_codeOfWhatLies_73 (by decide) ?_
            refine lv_goto (tgt := 78) C.x C.b dX4_codeOfWhatLies_74 (by decide) ?_
            exact rtI C h hr rfl dX4_codeOfWhatLies_78 (Eq.mp (congrArg (fun z => post z σ) ((if_neg c1).trans ((if_neg c2).trans ((if_pos c3).trans ((if_pos c4).trans (if_neg c5)))))) hp)
        · skip
          refine lv_iload_n C.x C.b dX4_codeOfWhatLies_58 rfl (lv_at hl 0 rfl) ?_
          refine lv_if_eq (tgt := 64) C.x C.b dX4_codeOfWhatLies_59 (by decide) (fun c6 => ?_) (fun c6 => ?_)
          · skip
            refine lv_aload_n C.x C.b dX4_codeOfWhatLies_64 rfl (lv_at hl 1 rfl) ?_
            refine g_X4_26 C h ht dX4_codeOfWhatLies_65 ?_
            refine lv_bipush (v := 100) C.x C.b dX4_codeOfWhatLies_68 (by decide) ?_
            refine lv_icmp_gt (tgt := 77) C.x C.b dX4_codeOfWhatLies_70 (by decide) (fun c7 => ?_) (fun c7 => ?_)
            · skip
              refine lv_iconst (v := 2) C.x C.b dX4_codeOfWhatLies_77 (by decide) ?_
              exact rtI C h hr rfl dX4_codeOfWhatLies_78 (Eq.mp (congrArg (fun z => post z σ) ((if_neg c1).trans ((if_neg c2).trans ((if_pos c3).trans ((if_neg c4).trans ((if_pos c6).trans (if_pos c7))))))) hp)
            · skip
              refine lv_iconst (v := 3) C.x C.b dX4_codeOfWhatLies_73 (by decide) ?_
              refine lv_goto (tgt := 78) C.x C.b dX4_codeOfWhatLies_74 (by decide) ?_
              exact rtI C h hr rfl dX4_codeOfWhatLies_78 (Eq.mp (congrArg (fun z => post z σ) ((if_neg c1).trans ((if_neg c2).trans ((if_pos c3).trans ((if_neg c4).trans ((if_pos c6).trans (if_neg c7))))))) hp)
          · skip
            refine lv_iconst (v := 5) C.x C.b dX4_codeOfWhatLies_62 (by decide) ?_
            exact rtI C h hr rfl dX4_codeOfWhatLies_63 (Eq.mp (congrArg (fun z => post z σ) ((if_neg c1).trans ((if_neg c2).trans ((if_pos c3).trans ((if_neg c4).trans (if_neg c6)))))) hp)
      · skip
        refine lv_tableOut (tgt := 79) C.x C.b dX4_codeOfWhatLies_19 (sw_out2 c1 c2 c3) (by decide) ?_
        refine lv_iload_n C.x C.b dX4_codeOfWhatLies_79 rfl (lv_at hl 0 rfl) ?_
        refine lv_if_eq (tgt := 87) C.x C.b dX4_codeOfWhatLies_80 (by decide) (fun c8 => ?_) (fun c8 => ?_)
        · skip
          refine lv_iconst (v := 0) C.x C.b dX4_codeOfWhatLies_87 (by decide) ?_
          exact rtI C h hr rfl dX4_codeOfWhatLies_88 (Eq.mp (congrArg (fun z => post z σ) ((if_neg c1).trans ((if_neg c2).trans ((if_neg c3).trans (if_pos c8))))) hp)
        · skip
          refine lv_iconst (v := 1) C.x C.b dX4_codeOfWhatLies_83 (by decide) ?_
          refine lv_goto (tgt := 88) C.x C.b dX4_codeOfWhatLies_84 (by decide) ?_
          exact rtI C h hr rfl dX4_codeOfWhatLies_88 (Eq.mp (congrArg (fun z => post z σ) ((if_neg c1).trans ((if_neg c2).trans ((if_neg c3).trans (if_neg c8))))) hp)
def S_X4_codeOfWhatLies (σ : St) (t : Nat) : Int32 := if (-30) ≤ (σ 2 0) then S_X4_codeOfWhatLies_14 σ t 0 else S_X4_codeOfWhatLies_14 σ t 1
set_option maxRecDepth 100000 in
set_option maxHeartbeats 4000000 in
theorem K_X4_codeOfWhatLies_0 {p : Program} {l : Launch} {e : Env} {s : State} {m : MethodId} {args : Array Value} {below : List Frame} {meth : Method} {c : Code} {D : va_G} {E : En} {A : Nat → Prop} {post : Int32 → St → Prop} (C : CX p s m meth c cX4_codeOfWhatLies RX4 3 D E A) {σ : St} (ok : OK E σ) {t : Nat} (ht : t < 3) {H : Heap} {locs : List Loc} (h : HW D E σ A s H locs) (hr : meth.sig.returnType = some .int) {ls : Array Slot} (hl : lv_has ls 3 [(0, .ref (ead E (4 + t))), (1, .ref (ead E 1))]) (hp : post (S_X4_codeOfWhatLies σ t) σ) : W p l e rm_X4_codeOfWhatLies s m args below meth c H locs 0 0 (MQ below (va_Qi post (POB D E A) A) args s 0 0 A) (F0 m 0 ls []) := by
  refine lv_aload_n C.x C.b dX4_codeOfWhatLies_0 rfl (lv_at hl 1 rfl) ?_
  refine g_X4_21 C h dX4_codeOfWhatLies_1 ?_
  refine lv_bipush (v := (-30)) C.x C.b dX4_codeOfWhatLies_4 (by decide) ?_
  refine lv_icmp_ge (tgt := 13) C.x C.b dX4_codeOfWhatLies_6 (by decide) (fun c1 => ?_) (fun c1 => ?_)
  · skip
    refine lv_iconst (v := 0) C.x C.b dX4_codeOfWhatLies_13 (by decide) ?_
    exact K_X4_codeOfWhatLies_14 (y0 := 0) C ok ht h hr (lv_sub hl [0, 1] rfl) (Eq.mp (congrArg (fun z => post z σ) (if_pos c1)) hp)
  · skip
    refine lv_iconst (v := 1) C.x C.b dX4_codeOfWhatLies_9 (by decide) ?_
    refine lv_goto (tgt := 14) C.x C.b dX4_codeOfWhatLies_10 (by decide) ?_
    exact K_X4_codeOfWhatLies_14 (y0 := 1) C ok ht h hr (lv_sub hl [0, 1] rfl) (Eq.mp (congrArg (fun z => post z σ) (if_neg c1)) hp)
theorem M_X4_codeOfWhatLies (l : Launch) (D : va_G) (E : En) (σ : St) (ok : OK E σ) (t : Nat) (ht : t < 3) : CO l yX4_codeOfWhatLies cX4_codeOfWhatLies 3 (some .int) rm_X4_codeOfWhatLies [.ref (ead E (4 + t)), .ref (ead E 1)] D E σ (fun A => va_Qi (fun r u => (S_X4_codeOfWhatLies σ t) = r ∧ σ = u) (POB D E A) A) 0 0 :=
  CO.of RX4 (by decide +kernel) rfl (Nat.le_of_ble_eq_true rfl) (fun p e s m below meth c A ls C h hr hl => K_X4_codeOfWhatLies_0 C ok ht h hr hl ⟨rfl, rfl⟩)
-- X4_codeAt codeAt(ILIcePad$Weather;)I
theorem cw_X4_29 : CWd RX4 29 yX4_codeOfWhatLies cX4_codeOfWhatLies 3 (some .int) 1 := ⟨m_ml_X4_29, m_co_X4_codeOfWhatLies, m_ini_X4, by decide +kernel, by decide +kernel⟩
abbrev rm_X4_codeAt : Room := { frames := 1, cells := 0, slots := 0, locals := 22 }
def S_X4_codeAt_30 (σ : St) (t : Nat) (p1 : Int32) (v3 : Int32) (y0 : Int32) : Int32 := if y0 = 0 then v3 else if v3 ≤ (σ 13 t) then v3 else (σ 13 t)
set_option maxRecDepth 100000 in
set_option maxHeartbeats 4000000 in
theorem K_X4_codeAt_30 {p : Program} {l : Launch} {e : Env} {s : State} {m : MethodId} {args : Array Value} {below : List Frame} {meth : Method} {c : Code} {D : va_G} {E : En} {A : Nat → Prop} {post : Int32 → St → Prop} (C : CX p s m meth c cX4_codeAt RX4 5 D E A) {σ : St} (ok : OK E σ) {t : Nat} (ht : t < 3) {p1 : Int32} {v3 : Int32} {y0 : Int32} {H : Heap} {locs : List Loc} (h : HW D E σ A s H locs) (hr : meth.sig.returnType = some .int) {ls : Array Slot} (hl : lv_has ls 5 [(0, .ref (ead E (4 + t))), (1, .int p1), (2, .ref (ead E 1)), (3, .int v3)]) (hp : post (S_X4_codeAt_30 σ t p1 v3 y0) σ) : W p l e rm_X4_codeAt s m args below meth c H locs 0 0 (MQ below (va_Qi post (POB D E A) A) args s 0 0 A) (F0 m 30 ls [.int y0]) := by
  refine lv_istore (lv' := [(4, .int y0), (0, .ref (ead E (4 + t))), (1, .int p1), (2, .ref (ead E 1)), (3, .int v3)]) C.x C.b dX4_codeAt_30 hl (by decide) rfl (fun ls hl => ?_)
  refine lv_iload C.x C.b dX4_codeAt_32 (lv_at hl 0 rfl) ?_
  refine lv_if_eq (tgt := 52) C.x C.b dX4_codeAt_34 (by decide) (fun c1 => ?_) (fun c1 => ?_)
  · skip
    refine lv_iload_n C.x C.b dX4_codeAt_52 rfl (lv_at hl 4 rfl) ?_
    exact rtI C h hr rfl dX4_codeAt_53 (Eq.mp (congrArg (fun z => post z σ) (if_pos c1)) hp)
  · skip
    refine lv_aload_n C.x C.b dX4_codeAt_37 rfl (lv_at hl 1 rfl) ?_
    refine g_X4_33 C h ht dX4_codeAt_38 ?_
    refine lv_iload_n C.x C.b dX4_codeAt_41 rfl (lv_at hl 4 rfl) ?_
    refine lv_icmp_ge (tgt := 52) C.x C.b dX4_codeAt_42 (by decide) (fun c2 => ?_) (fun c2 => ?_)
    · skip
      refine lv_iload_n C.x C.b dX4_codeAt_52 rfl (lv_at hl 4 rfl) ?_
      exact rtI C h hr rfl dX4_codeAt_53 (Eq.mp (congrArg (fun z => post z σ) ((if_neg c1).trans (if_pos c2))) hp)
    · skip
      refine lv_aload_n C.x C.b dX4_codeAt_45 rfl (lv_at hl 1 rfl) ?_
      refine g_X4_33 C h ht dX4_codeAt_46 ?_
      refine lv_goto (tgt := 53) C.x C.b dX4_codeAt_49 (by decide) ?_
      exact rtI C h hr rfl dX4_codeAt_53 (Eq.mp (congrArg (fun z => post z σ) ((if_neg c1).trans (if_neg c2))) hp)
def S_X4_codeAt (σ : St) (t : Nat) (p1 : Int32) : Int32 := if (σ 12 t) = (-1) then S_X4_codeAt_30 σ t p1 (S_X4_codeOfWhatLies σ t) 0 else if 30 < (p1 - (σ 12 t)) then S_X4_codeAt_30 σ t p1 (S_X4_codeOfWhatLies σ t) 0 else S_X4_codeAt_30 σ t p1 (S_X4_codeOfWhatLies σ t) 1
set_option maxRecDepth 100000 in
set_option maxHeartbeats 4000000 in
theorem K_X4_codeAt_0 {p : Program} {l : Launch} {e : Env} {s : State} {m : MethodId} {args : Array Value} {below : List Frame} {meth : Method} {c : Code} {D : va_G} {E : En} {A : Nat → Prop} {post : Int32 → St → Prop} (C : CX p s m meth c cX4_codeAt RX4 5 D E A) {σ : St} (ok : OK E σ) {t : Nat} (ht : t < 3) {p1 : Int32} {H : Heap} {locs : List Loc} (h : HW D E σ A s H locs) (hr : meth.sig.returnType = some .int) {ls : Array Slot} (hl : lv_has ls 5 [(0, .ref (ead E (4 + t))), (1, .int p1), (2, .ref (ead E 1))]) (hp : post (S_X4_codeAt σ t p1) σ) : W p l e rm_X4_codeAt s m args below meth c H locs 0 0 (MQ below (va_Qi post (POB D E A) A) args s 0 0 A) (F0 m 0 ls []) := by
  refine lv_aload_n C.x C.b dX4_codeAt_0 rfl (lv_at hl 0 rfl) ?_
  refine lv_aload_n C.x C.b dX4_codeAt_1 rfl (lv_at hl 2 rfl) ?_
  refine caVi (As := [.ref (ead E 1)]) (rest := []) (q0 := 4 + t) (ci := 4) C h (M_X4_codeOfWhatLies l D E _ ok t ht) cw_X4_29 m_im_X4_codeOfWhatLies m_se_X4_codeOfWhatLies rfl rfl ⟨Nat.le_of_ble_eq_true rfl, Nat.le_of_ble_eq_true rfl⟩ (wd_t _ ht) rfl hl rfl (Nat.le_of_ble_eq_true rfl) dX4_codeAt_2 ⟨Nat.le_of_ble_eq_true rfl, Nat.le_of_ble_eq_true rfl⟩ (fun r u H locs w1 h => ?_)
  obtain ⟨rfl, rfl⟩ := w1
  refine lv_istore_n (lv' := [(3, .int (S_X4_codeOfWhatLies σ t)), (0, .ref (ead E (4 + t))), (1, .int p1), (2, .ref (ead E 1))]) C.x C.b dX4_codeAt_5 rfl hl (by decide) rfl (fun ls hl => ?_)
  refine lv_aload_n C.x C.b dX4_codeAt_6 rfl (lv_at hl 1 rfl) ?_
  refine g_X4_18 C h ht dX4_codeAt_7 ?_
  refine lv_iconst (v := (-1)) C.x C.b dX4_codeAt_10 (by decide) ?_
  refine lv_icmp_eq (tgt := 29) C.x C.b dX4_codeAt_11 (by decide) (fun c2 => ?_) (fun c2 => ?_)
  · skip
    refine lv_iconst (v := 0) C.x C.b dX4_codeAt_29 (by decide) ?_
    exact K_X4_codeAt_30 (v3 := (S_X4_codeOfWhatLies σ t)) (y0 := 0) C ok ht h hr (lv_sub hl [1, 2, 3, 0] rfl) (Eq.mp (congrArg (fun z => post z σ) (if_pos c2)) hp)
  · skip
    refine lv_iload_n C.x C.b dX4_codeAt_14 rfl (lv_at hl 2 rfl) ?_
    refine lv_aload_n C.x C.b dX4_codeAt_15 rfl (lv_at hl 1 rfl) ?_
    refine g_X4_18 C h ht dX4_codeAt_16 ?_
    refine lv_isub C.x C.b dX4_codeAt_19 ?_
    refine lv_bipush (v := 30) C.x C.b dX4_codeAt_20 (by decide) ?_
    refine lv_icmp_gt (tgt := 29) C.x C.b dX4_codeAt_22 (by decide) (fun c3 => ?_) (fun c3 => ?_)
    · skip
      refine lv_iconst (v := 0) C.x C.b dX4_codeAt_29 (by decide) ?_
      exact K_X4_codeAt_30 (v3 := (S_X4_codeOfWhatLies σ t)) (y0 := 0) C ok ht h hr (lv_sub hl [1, 2, 3, 0] rfl) (Eq.mp (congrArg (fun z => post z σ) ((if_neg c2).trans (if_pos c3))) hp)
    · skip
      refine lv_iconst (v := 1) C.x C.b dX4_codeAt_25 (by decide) ?_
      refine lv_goto (tgt := 30) C.x C.b dX4_codeAt_26 (by decide) ?_
      exact K_X4_codeAt_30 (v3 := (S_X4_codeOfWhatLies σ t)) (y0 := 1) C ok ht h hr (lv_sub hl [1, 2, 3, 0] rfl) (Eq.mp (congrArg (fun z => post z σ) ((if_neg c2).trans (if_neg c3))) hp)
theorem M_X4_codeAt (l : Launch) (D : va_G) (E : En) (σ : St) (ok : OK E σ) (t : Nat) (ht : t < 3) (p1 : Int32) : CO l yX4_codeAt cX4_codeAt 5 (some .int) rm_X4_codeAt [.ref (ead E (4 + t)), .int p1, .ref (ead E 1)] D E σ (fun A => va_Qi (fun r u => (S_X4_codeAt σ t p1) = r ∧ σ = u) (POB D E A) A) 0 0 :=
  CO.of RX4 (by decide +kernel) rfl (Nat.le_of_ble_eq_true rfl) (fun p e s m below meth c A ls C h hr hl => K_X4_codeAt_0 C ok ht h hr hl ⟨rfl, rfl⟩)
-- X4_iceOver iceOver()V
abbrev rm_X4_iceOver : Room := { frames := 0, cells := 0, slots := 0, locals := 0 }
def S_X4_iceOver_15 (σ : St) (t : Nat) : St := (up2 (up2 σ 9 t 3) 10 t 1)
set_option maxRecDepth 100000 in
set_option maxHeartbeats 4000000 in
theorem K_X4_iceOver_15 {p : Program} {l : Launch} {e : Env} {s : State} {m : MethodId} {args : Array Value} {below : List Frame} {meth : Method} {c : Code} {D : va_G} {E : En} {A : Nat → Prop} {post : St → Prop} (C : CX p s m meth c cX4_iceOver RX4 1 D E A) {σ : St} (ok : OK E σ) {t : Nat} (ht : t < 3) {H : Heap} {locs : List Loc} (h : HW D E σ A s H locs) (hr : meth.sig.returnType = none) {ls : Array Slot} (hl : lv_has ls 1 [(0, .ref (ead E (4 + t)))]) (hp : post (S_X4_iceOver_15 σ t)) : W p l e rm_X4_iceOver s m args below meth c H locs 0 0 (MQ below (va_Qv post (POB D E A) A) args s 0 0 A) (F0 m 15 ls []) := by
  refine lv_aload_n C.x C.b dX4_iceOver_15 rfl (lv_at hl 0 rfl) ?_
  refine lv_iconst (v := 3) C.x C.b dX4_iceOver_16 (by decide) ?_
  refine p_X4_9 C h ht dX4_iceOver_17 (fun H locs h => ?_)
  refine lv_aload_n C.x C.b dX4_iceOver_20 rfl (lv_at hl 0 rfl) ?_
  refine lv_iconst (v := 1) C.x C.b dX4_iceOver_21 (by decide) ?_
  refine p_X4_26 C h ht dX4_iceOver_22 (fun H locs h => ?_)
  exact rtV C h hr dX4_iceOver_25 hp
def S_X4_iceOver (σ : St) (t : Nat) : St := if (σ 9 t) = 0 then S_X4_iceOver_15 σ t else if (σ 9 t) = 1 then S_X4_iceOver_15 σ t else σ
set_option maxRecDepth 100000 in
set_option maxHeartbeats 4000000 in
theorem K_X4_iceOver_0 {p : Program} {l : Launch} {e : Env} {s : State} {m : MethodId} {args : Array Value} {below : List Frame} {meth : Method} {c : Code} {D : va_G} {E : En} {A : Nat → Prop} {post : St → Prop} (C : CX p s m meth c cX4_iceOver RX4 1 D E A) {σ : St} (ok : OK E σ) {t : Nat} (ht : t < 3) {H : Heap} {locs : List Loc} (h : HW D E σ A s H locs) (hr : meth.sig.returnType = none) {ls : Array Slot} (hl : lv_has ls 1 [(0, .ref (ead E (4 + t)))]) (hp : post (S_X4_iceOver σ t)) : W p l e rm_X4_iceOver s m args below meth c H locs 0 0 (MQ below (va_Qv post (POB D E A) A) args s 0 0 A) (F0 m 0 ls []) := by
  refine lv_aload_n C.x C.b dX4_iceOver_0 rfl (lv_at hl 0 rfl) ?_
  refine g_X4_9 C h ht dX4_iceOver_1 ?_
  refine lv_if_eq (tgt := 15) C.x C.b dX4_iceOver_4 (by decide) (fun c1 => ?_) (fun c1 => ?_)
  · skip
    exact K_X4_iceOver_15 C ok ht h hr (lv_sub hl [0] rfl) (Eq.mp (congrArg (fun z => post z) (if_pos c1)) hp)
  · skip
    refine lv_aload_n C.x C.b dX4_iceOver_7 rfl (lv_at hl 0 rfl) ?_
    refine g_X4_9 C h ht dX4_iceOver_8 ?_
    refine lv_iconst (v := 1) C.x C.b dX4_iceOver_11 (by decide) ?_
    refine lv_icmp_ne (tgt := 25) C.x C.b dX4_iceOver_12 (by decide) (fun c2 => ?_) (fun c2 => ?_)
    · skip
      exact rtV C h hr dX4_iceOver_25 (Eq.mp (congrArg (fun z => post z) ((if_neg c1).trans (if_neg c2))) hp)
    · skip
      exact K_X4_iceOver_15 C ok ht h hr (lv_sub hl [0] rfl) (Eq.mp (congrArg (fun z => post z) ((if_neg c1).trans (if_pos c2))) hp)
theorem M_X4_iceOver (l : Launch) (D : va_G) (E : En) (σ : St) (ok : OK E σ) (t : Nat) (ht : t < 3) : CO l yX4_iceOver cX4_iceOver 1 none rm_X4_iceOver [.ref (ead E (4 + t))] D E σ (fun A => va_Qv (fun u => (S_X4_iceOver σ t) = u) (POB D E A) A) 0 0 :=
  CO.of RX4 (by decide +kernel) rfl (Nat.le_of_ble_eq_true rfl) (fun p e s m below meth c A ls C h hr hl => K_X4_iceOver_0 C ok ht h hr hl rfl)
theorem S_X4_iceOver_15_fr {f i : Nat} (σ : St) (t : Nat) (hf : ∀ w ∈ [9, 10], f ≠ w) : (S_X4_iceOver_15 σ t) f i = σ f i := by
  unfold S_X4_iceOver_15
  (repeat' split) <;> first | with_reducible rfl | (simp only [up2_f (hf 9 (by decide)), up2_f (hf 10 (by decide))]; done)
theorem S_X4_iceOver_fr {f i : Nat} (σ : St) (t : Nat) (hf : ∀ w ∈ [9, 10], f ≠ w) : (S_X4_iceOver σ t) f i = σ f i := by
  unfold S_X4_iceOver
  (repeat' split) <;> first | with_reducible rfl | (simp only [up2_f (hf 9 (by decide)), up2_f (hf 10 (by decide)), S_X4_iceOver_15_fr _ _ hf]; done)
theorem S_X4_iceOver_ok {E : En} {σ : St} (ok : OK E σ) (t : Nat) : OK E (S_X4_iceOver σ t) :=
  ok.of_fr (fun f i hf => S_X4_iceOver_fr σ t (fun w hw q => absurd (show w ∈ [1, 3, 33, 43, 55, 66] by rw [← q]; exact hf) ((by decide : ∀ w ∈ [9, 10], w ∉ [1, 3, 33, 43, 55, 66]) w hw)))
-- X4_addDepth addDepth(I)V
abbrev rm_X4_addDepth : Room := { frames := 1, cells := 0, slots := 0, locals := 21 }
def S_X4_addDepth (σ : St) (t : Nat) (p1 : Int32) : St := (up2 σ 10 t (if 5000 < ((σ 10 t) + p1) then 5000 else ((σ 10 t) + p1)))
set_option maxRecDepth 100000 in
set_option maxHeartbeats 4000000 in
theorem K_X4_addDepth_0 {p : Program} {l : Launch} {e : Env} {s : State} {m : MethodId} {args : Array Value} {below : List Frame} {meth : Method} {c : Code} {D : va_G} {E : En} {A : Nat → Prop} {post : St → Prop} (C : CX p s m meth c cX4_addDepth RX4 2 D E A) {σ : St} (ok : OK E σ) {t : Nat} (ht : t < 3) {p1 : Int32} {H : Heap} {locs : List Loc} (h : HW D E σ A s H locs) (hr : meth.sig.returnType = none) {ls : Array Slot} (hl : lv_has ls 2 [(0, .ref (ead E (4 + t))), (1, .int p1)]) (hp : post (S_X4_addDepth σ t p1)) : W p l e rm_X4_addDepth s m args below meth c H locs 0 0 (MQ below (va_Qv post (POB D E A) A) args s 0 0 A) (F0 m 0 ls []) := by
  refine lv_aload_n C.x C.b dX4_addDepth_0 rfl (lv_at hl 0 rfl) ?_
  refine lv_aload_n C.x C.b dX4_addDepth_1 rfl (lv_at hl 0 rfl) ?_
  refine g_X4_26 C h ht dX4_addDepth_2 ?_
  refine lv_iload_n C.x C.b dX4_addDepth_5 rfl (lv_at hl 1 rfl) ?_
  refine lv_iadd C.x C.b dX4_addDepth_6 ?_
  refine lv_sipush (v := 5000) C.x C.b dX4_addDepth_7 (by decide) ?_
  refine va_mmin C.x C.b (C.ml.trans hl.1.symm) C.ow (C.w _ m_ml_X4_63) (C.w _ m_st_Lib_Math_min_name) (C.w _ m_ini__java_lang_Math_) (C.w _ m_co_Lib_Math_min_name) (Nat.le_of_ble_eq_true rfl) (Nat.le_of_ble_eq_true rfl) (Nat.le_of_ble_eq_true rfl) (Nat.le_of_ble_eq_true rfl) dX4_addDepth_10 ?_
  refine p_X4_26 C h ht dX4_addDepth_13 (fun H locs h => ?_)
  exact rtV C h hr dX4_addDepth_16 hp
theorem M_X4_addDepth (l : Launch) (D : va_G) (E : En) (σ : St) (ok : OK E σ) (t : Nat) (ht : t < 3) (p1 : Int32) : CO l yX4_addDepth cX4_addDepth 2 none rm_X4_addDepth [.ref (ead E (4 + t)), .int p1] D E σ (fun A => va_Qv (fun u => (S_X4_addDepth σ t p1) = u) (POB D E A) A) 0 0 :=
  CO.of RX4 (by decide +kernel) rfl (Nat.le_of_ble_eq_true rfl) (fun p e s m below meth c A ls C h hr hl => K_X4_addDepth_0 C ok ht h hr hl rfl)
theorem S_X4_addDepth_fr {f i : Nat} (σ : St) (t : Nat) (p1 : Int32) (hf : ∀ w ∈ [10], f ≠ w) : (S_X4_addDepth σ t p1) f i = σ f i := by
  unfold S_X4_addDepth
  (repeat' split) <;> first | with_reducible rfl | (simp only [up2_f (hf 10 (by decide))]; done)
theorem S_X4_addDepth_ok {E : En} {σ : St} (ok : OK E σ) (t : Nat) (p1 : Int32) : OK E (S_X4_addDepth σ t p1) :=
  ok.of_fr (fun f i hf => S_X4_addDepth_fr σ t p1 (fun w hw q => absurd (show w ∈ [1, 3, 33, 43, 55, 66] by rw [← q]; exact hf) ((by decide : ∀ w ∈ [10], w ∉ [1, 3, 33, 43, 55, 66]) w hw)))
-- X4_snowOn snowOn(I)V
theorem cw_X4_60 : CWd RX4 60 yX4_addDepth cX4_addDepth 2 none 1 := ⟨m_ml_X4_60, m_co_X4_addDepth, m_ini_X4, by decide +kernel, by decide +kernel⟩
abbrev rm_X4_snowOn : Room := { frames := 2, cells := 0, slots := 0, locals := 42 }
def S_X4_snowOn_13 (σ : St) (t : Nat) (p1 : Int32) : St := (S_X4_addDepth σ t p1)
set_option maxRecDepth 100000 in
set_option maxHeartbeats 4000000 in
theorem K_X4_snowOn_13 {p : Program} {l : Launch} {e : Env} {s : State} {m : MethodId} {args : Array Value} {below : List Frame} {meth : Method} {c : Code} {D : va_G} {E : En} {A : Nat → Prop} {post : St → Prop} (C : CX p s m meth c cX4_snowOn RX4 2 D E A) {σ : St} (ok : OK E σ) {t : Nat} (ht : t < 3) {p1 : Int32} {H : Heap} {locs : List Loc} (h : HW D E σ A s H locs) (hr : meth.sig.returnType = none) {ls : Array Slot} (hl : lv_has ls 2 [(0, .ref (ead E (4 + t))), (1, .int p1)]) (hp : post (S_X4_snowOn_13 σ t p1)) : W p l e rm_X4_snowOn s m args below meth c H locs 0 0 (MQ below (va_Qv post (POB D E A) A) args s 0 0 A) (F0 m 13 ls []) := by
  refine lv_aload_n C.x C.b dX4_snowOn_13 rfl (lv_at hl 0 rfl) ?_
  refine lv_iload_n C.x C.b dX4_snowOn_14 rfl (lv_at hl 1 rfl) ?_
  refine caVv (As := [.int p1]) (rest := []) (q0 := 4 + t) (ci := 4) C h (M_X4_addDepth l D E _ ok t ht p1) cw_X4_60 m_im_X4_addDepth m_se_X4_addDepth rfl rfl ⟨Nat.le_of_ble_eq_true rfl, Nat.le_of_ble_eq_true rfl⟩ (wd_t _ ht) rfl hl rfl (Nat.le_of_ble_eq_true rfl) dX4_snowOn_15 ⟨Nat.le_of_ble_eq_true rfl, Nat.le_of_ble_eq_true rfl⟩ (fun u H locs w1 h => ?_)
  subst w1
  exact rtV C h hr dX4_snowOn_18 hp
def S_X4_snowOn (σ : St) (t : Nat) (p1 : Int32) : St := if (σ 9 t) = 3 then S_X4_snowOn_13 σ t p1 else S_X4_snowOn_13 (up2 σ 9 t 2) t p1
set_option maxRecDepth 100000 in
set_option maxHeartbeats 4000000 in
theorem K_X4_snowOn_0 {p : Program} {l : Launch} {e : Env} {s : State} {m : MethodId} {args : Array Value} {below : List Frame} {meth : Method} {c : Code} {D : va_G} {E : En} {A : Nat → Prop} {post : St → Prop} (C : CX p s m meth c cX4_snowOn RX4 2 D E A) {σ : St} (ok : OK E σ) {t : Nat} (ht : t < 3) {p1 : Int32} {H : Heap} {locs : List Loc} (h : HW D E σ A s H locs) (hr : meth.sig.returnType = none) {ls : Array Slot} (hl : lv_has ls 2 [(0, .ref (ead E (4 + t))), (1, .int p1)]) (hp : post (S_X4_snowOn σ t p1)) : W p l e rm_X4_snowOn s m args below meth c H locs 0 0 (MQ below (va_Qv post (POB D E A) A) args s 0 0 A) (F0 m 0 ls []) := by
  refine lv_aload_n C.x C.b dX4_snowOn_0 rfl (lv_at hl 0 rfl) ?_
  refine g_X4_9 C h ht dX4_snowOn_1 ?_
  refine lv_iconst (v := 3) C.x C.b dX4_snowOn_4 (by decide) ?_
  refine lv_icmp_eq (tgt := 13) C.x C.b dX4_snowOn_5 (by decide) (fun c1 => ?_) (fun c1 => ?_)
  · skip
    exact K_X4_snowOn_13 C ok ht h hr (lv_sub hl [0, 1] rfl) (Eq.mp (congrArg (fun z => post z) (if_pos c1)) hp)
  · skip
    refine lv_aload_n C.x C.b dX4_snowOn_8 rfl (lv_at hl 0 rfl) ?_
    refine lv_iconst (v := 2) C.x C.b dX4_snowOn_9 (by decide) ?_
    refine p_X4_9 C h ht dX4_snowOn_10 (fun H locs h => ?_)
    exact K_X4_snowOn_13 C (ok.up (by decide) _ _) ht h hr (lv_sub hl [0, 1] rfl) (Eq.mp (congrArg (fun z => post z) (if_neg c1)) hp)
theorem M_X4_snowOn (l : Launch) (D : va_G) (E : En) (σ : St) (ok : OK E σ) (t : Nat) (ht : t < 3) (p1 : Int32) : CO l yX4_snowOn cX4_snowOn 2 none rm_X4_snowOn [.ref (ead E (4 + t)), .int p1] D E σ (fun A => va_Qv (fun u => (S_X4_snowOn σ t p1) = u) (POB D E A) A) 0 0 :=
  CO.of RX4 (by decide +kernel) rfl (Nat.le_of_ble_eq_true rfl) (fun p e s m below meth c A ls C h hr hl => K_X4_snowOn_0 C ok ht h hr hl rfl)
theorem S_X4_snowOn_13_fr {f i : Nat} (σ : St) (t : Nat) (p1 : Int32) (hf : ∀ w ∈ [9, 10], f ≠ w) : (S_X4_snowOn_13 σ t p1) f i = σ f i := by
  unfold S_X4_snowOn_13
  (repeat' split) <;> first | with_reducible rfl | (simp only [up2_f (hf 9 (by decide)), up2_f (hf 10 (by decide)), S_X4_addDepth_fr _ _ _ (fun w hw => hf w ((by decide : ∀ w ∈ [10], w ∈ [9, 10]) w hw))]; done)
theorem S_X4_snowOn_fr {f i : Nat} (σ : St) (t : Nat) (p1 : Int32) (hf : ∀ w ∈ [9, 10], f ≠ w) : (S_X4_snowOn σ t p1) f i = σ f i := by
  unfold S_X4_snowOn
  (repeat' split) <;> first | with_reducible rfl | (simp only [up2_f (hf 9 (by decide)), up2_f (hf 10 (by decide)), S_X4_addDepth_fr _ _ _ (fun w hw => hf w ((by decide : ∀ w ∈ [10], w ∈ [9, 10]) w hw)), S_X4_snowOn_13_fr _ _ _ hf]; done)
theorem S_X4_snowOn_ok {E : En} {σ : St} (ok : OK E σ) (t : Nat) (p1 : Int32) : OK E (S_X4_snowOn σ t p1) :=
  ok.of_fr (fun f i hf => S_X4_snowOn_fr σ t p1 (fun w hw q => absurd (show w ∈ [1, 3, 33, 43, 55, 66] by rw [← q]; exact hf) ((by decide : ∀ w ∈ [9, 10], w ∉ [1, 3, 33, 43, 55, 66]) w hw)))
-- X4_rainOn rainOn(IZ)V
abbrev rm_X4_rainOn : Room := { frames := 2, cells := 0, slots := 0, locals := 42 }
def S_X4_rainOn (σ : St) (t : Nat) (p1 : Int32) (p2 : Int32) : St := if p2 = 0 then (if (σ 9 t) = 0 then (up2 (up2 σ 9 t 1) 10 t 0) else σ) else (S_X4_addDepth (up2 σ 9 t 3) t p1)
set_option maxRecDepth 100000 in
set_option maxHeartbeats 4000000 in
theorem K_X4_rainOn_0 {p : Program} {l : Launch} {e : Env} {s : State} {m : MethodId} {args : Array Value} {below : List Frame} {meth : Method} {c : Code} {D : va_G} {E : En} {A : Nat → Prop} {post : St → Prop} (C : CX p s m meth c cX4_rainOn RX4 3 D E A) {σ : St} (ok : OK E σ) {t : Nat} (ht : t < 3) {p1 : Int32} {p2 : Int32} {H : Heap} {locs : List Loc} (h : HW D E σ A s H locs) (hr : meth.sig.returnType = none) {ls : Array Slot} (hl : lv_has ls 3 [(0, .ref (ead E (4 + t))), (1, .int p1), (2, .int p2)]) (hp : post (S_X4_rainOn σ t p1 p2)) : W p l e rm_X4_rainOn s m args below meth c H locs 0 0 (MQ below (va_Qv post (POB D E A) A) args s 0 0 A) (F0 m 0 ls []) := by
  refine lv_iload_n C.x C.b dX4_rainOn_0 rfl (lv_at hl 2 rfl) ?_
  refine lv_if_eq (tgt := 17) C.x C.b dX4_rainOn_1 (by decide) (fun c1 => ?_) (fun c1 => ?_)
  · skip
    refine lv_aload_n C.x C.b dX4_rainOn_17 rfl (lv_at hl 0 rfl) ?_
    refine g_X4_9 C h ht dX4_rainOn_18 ?_
    refine lv_if_ne (tgt := 34) C.x C.b dX4_rainOn_21 (by decide) (fun c2 => ?_) (fun c2 => ?_)
    · skip
      exact rtV C h hr dX4_rainOn_34 (Eq.mp (congrArg (fun z => post z) ((if_pos c1).trans (if_neg c2))) hp)
    · skip
      refine lv_aload_n C.x C.b dX4_rainOn_24 rfl (lv_at hl 0 rfl) ?_
      refine lv_iconst (v := 1) C.x C.b dX4_rainOn_25 (by decide) ?_
      refine p_X4_9 C h ht dX4_rainOn_26 (fun H locs h => ?_)
      refine lv_aload_n C.x C.b dX4_rainOn_29 rfl (lv_at hl 0 rfl) ?_
      refine lv_iconst (v := 0) C.x C.b dX4_rainOn_30 (by decide) ?_
      refine p_X4_26 C h ht dX4_rainOn_31 (fun H locs h => ?_)
      exact rtV C h hr dX4_rainOn_34 (Eq.mp (congrArg (fun z => post z) ((if_pos c1).trans (if_pos c2))) hp)
  · skip
    refine lv_aload_n C.x C.b dX4_rainOn_4 rfl (lv_at hl 0 rfl) ?_
    refine lv_iconst (v := 3) C.x C.b dX4_rainOn_5 (by decide) ?_
    refine p_X4_9 C h ht dX4_rainOn_6 (fun H locs h => ?_)
    refine lv_aload_n C.x C.b dX4_rainOn_9 rfl (lv_at hl 0 rfl) ?_
    refine lv_iload_n C.x C.b dX4_rainOn_10 rfl (lv_at hl 1 rfl) ?_
    refine caVv (As := [.int p1]) (rest := []) (q0 := 4 + t) (ci := 4) C h (M_X4_addDepth l D E _ (ok.up (by decide) _ _) t ht p1) cw_X4_60 m_im_X4_addDepth m_se_X4_addDepth rfl rfl ⟨Nat.le_of_ble_eq_true rfl, Nat.le_of_ble_eq_true rfl⟩ (wd_t _ ht) rfl hl rfl (Nat.le_of_ble_eq_true rfl) dX4_rainOn_11 ⟨Nat.le_of_ble_eq_true rfl, Nat.le_of_ble_eq_true rfl⟩ (fun u H locs w3 h => ?_)
    subst w3
    refine lv_goto (tgt := 34) C.x C.b dX4_rainOn_14 (by decide) ?_
    exact rtV C h hr dX4_rainOn_34 (Eq.mp (congrArg (fun z => post z) (if_neg c1)) hp)
theorem M_X4_rainOn (l : Launch) (D : va_G) (E : En) (σ : St) (ok : OK E σ) (t : Nat) (ht : t < 3) (p1 : Int32) (p2 : Int32) : CO l yX4_rainOn cX4_rainOn 3 none rm_X4_rainOn [.ref (ead E (4 + t)), .int p1, .int p2] D E σ (fun A => va_Qv (fun u => (S_X4_rainOn σ t p1 p2) = u) (POB D E A) A) 0 0 :=
  CO.of RX4 (by decide +kernel) rfl (Nat.le_of_ble_eq_true rfl) (fun p e s m below meth c A ls C h hr hl => K_X4_rainOn_0 C ok ht h hr hl rfl)
theorem S_X4_rainOn_fr {f i : Nat} (σ : St) (t : Nat) (p1 : Int32) (p2 : Int32) (hf : ∀ w ∈ [9, 10], f ≠ w) : (S_X4_rainOn σ t p1 p2) f i = σ f i := by
  unfold S_X4_rainOn
  (repeat' split) <;> first | with_reducible rfl | (simp only [up2_f (hf 9 (by decide)), up2_f (hf 10 (by decide)), S_X4_addDepth_fr _ _ _ (fun w hw => hf w ((by decide : ∀ w ∈ [10], w ∈ [9, 10]) w hw))]; done)
theorem S_X4_rainOn_ok {E : En} {σ : St} (ok : OK E σ) (t : Nat) (p1 : Int32) (p2 : Int32) : OK E (S_X4_rainOn σ t p1 p2) :=
  ok.of_fr (fun f i hf => S_X4_rainOn_fr σ t p1 p2 (fun w hw q => absurd (show w ∈ [1, 3, 33, 43, 55, 66] by rw [← q]; exact hf) ((by decide : ∀ w ∈ [9, 10], w ∉ [1, 3, 33, 43, 55, 66]) w hw)))
-- X4_melt melt()V
abbrev rm_X4_melt : Room := { frames := 0, cells := 0, slots := 0, locals := 0 }
def S_X4_melt_27 (σ : St) (t : Nat) : St := if 0 < (σ 10 t) then σ else (up2 (up2 σ 9 t 1) 10 t 0)
set_option maxRecDepth 100000 in
set_option maxHeartbeats 4000000 in
theorem K_X4_melt_27 {p : Program} {l : Launch} {e : Env} {s : State} {m : MethodId} {args : Array Value} {below : List Frame} {meth : Method} {c : Code} {D : va_G} {E : En} {A : Nat → Prop} {post : St → Prop} (C : CX p s m meth c cX4_melt RX4 1 D E A) {σ : St} (ok : OK E σ) {t : Nat} (ht : t < 3) {H : Heap} {locs : List Loc} (h : HW D E σ A s H locs) (hr : meth.sig.returnType = none) {ls : Array Slot} (hl : lv_has ls 1 [(0, .ref (ead E (4 + t)))]) (hp : post (S_X4_melt_27 σ t)) : W p l e rm_X4_melt s m args below meth c H locs 0 0 (MQ below (va_Qv post (POB D E A) A) args s 0 0 A) (F0 m 27 ls []) := by
  refine lv_aload_n C.x C.b dX4_melt_27 rfl (lv_at hl 0 rfl) ?_
  refine g_X4_26 C h ht dX4_melt_28 ?_
  refine lv_if_gt (tgt := 44) C.x C.b dX4_melt_31 (by decide) (fun c1 => ?_) (fun c1 => ?_)
  · skip
    exact rtV C h hr dX4_melt_44 (Eq.mp (congrArg (fun z => post z) (if_pos c1)) hp)
  · skip
    refine lv_aload_n C.x C.b dX4_melt_34 rfl (lv_at hl 0 rfl) ?_
    refine lv_iconst (v := 1) C.x C.b dX4_melt_35 (by decide) ?_
    refine p_X4_9 C h ht dX4_melt_36 (fun H locs h => ?_)
    refine lv_aload_n C.x C.b dX4_melt_39 rfl (lv_at hl 0 rfl) ?_
    refine lv_iconst (v := 0) C.x C.b dX4_melt_40 (by decide) ?_
    refine p_X4_26 C h ht dX4_melt_41 (fun H locs h => ?_)
    exact rtV C h hr dX4_melt_44 (Eq.mp (congrArg (fun z => post z) (if_neg c1)) hp)
def S_X4_melt (σ : St) (t : Nat) : St := if (σ 9 t) = 2 then S_X4_melt_27 (up2 σ 10 t ((σ 10 t) - 2)) t else if (σ 9 t) = 3 then S_X4_melt_27 (up2 σ 10 t ((σ 10 t) - 2)) t else σ
set_option maxRecDepth 100000 in
set_option maxHeartbeats 4000000 in
theorem K_X4_melt_0 {p : Program} {l : Launch} {e : Env} {s : State} {m : MethodId} {args : Array Value} {below : List Frame} {meth : Method} {c : Code} {D : va_G} {E : En} {A : Nat → Prop} {post : St → Prop} (C : CX p s m meth c cX4_melt RX4 1 D E A) {σ : St} (ok : OK E σ) {t : Nat} (ht : t < 3) {H : Heap} {locs : List Loc} (h : HW D E σ A s H locs) (hr : meth.sig.returnType = none) {ls : Array Slot} (hl : lv_has ls 1 [(0, .ref (ead E (4 + t)))]) (hp : post (S_X4_melt σ t)) : W p l e rm_X4_melt s m args below meth c H locs 0 0 (MQ below (va_Qv post (POB D E A) A) args s 0 0 A) (F0 m 0 ls []) := by
  refine lv_aload_n C.x C.b dX4_melt_0 rfl (lv_at hl 0 rfl) ?_
  refine g_X4_9 C h ht dX4_melt_1 ?_
  refine lv_iconst (v := 2) C.x C.b dX4_melt_4 (by decide) ?_
  refine lv_icmp_eq (tgt := 17) C.x C.b dX4_melt_5 (by decide) (fun c1 => ?_) (fun c1 => ?_)
  · skip
    refine lv_aload_n C.x C.b dX4_melt_17 rfl (lv_at hl 0 rfl) ?_
    refine lv_dup C.x C.b dX4_melt_18 rfl ?_
    refine g_X4_26 C h ht dX4_melt_19 ?_
    refine lv_iconst (v := 2) C.x C.b dX4_melt_22 (by decide) ?_
    refine lv_isub C.x C.b dX4_melt_23 ?_
    refine p_X4_26 C h ht dX4_melt_24 (fun H locs h => ?_)
    exact K_X4_melt_27 C (ok.up (by decide) _ _) ht h hr (lv_sub hl [0] rfl) (Eq.mp (congrArg (fun z => post z) (if_pos c1)) hp)
  · skip
    refine lv_aload_n C.x C.b dX4_melt_8 rfl (lv_at hl 0 rfl) ?_
    refine g_X4_9 C h ht dX4_melt_9 ?_
    refine lv_iconst (v := 3) C.x C.b dX4_melt_12 (by decide) ?_
    refine lv_icmp_eq (tgt := 17) C.x C.b dX4_melt_13 (by decide) (fun c2 => ?_) (fun c2 => ?_)
    · skip
      refine lv_aload_n C.x C.b dX4_melt_17 rfl (lv_at hl 0 rfl) ?_
      refine lv_dup C.x C.b dX4_melt_18 rfl ?_
      refine g_X4_26 C h ht dX4_melt_19 ?_
      refine lv_iconst (v := 2) C.x C.b dX4_melt_22 (by decide) ?_
      refine lv_isub C.x C.b dX4_melt_23 ?_
      refine p_X4_26 C h ht dX4_melt_24 (fun H locs h => ?_)
      exact K_X4_melt_27 C (ok.up (by decide) _ _) ht h hr (lv_sub hl [0] rfl) (Eq.mp (congrArg (fun z => post z) ((if_neg c1).trans (if_pos c2))) hp)
    · skip
      exact rtV C h hr dX4_melt_16 (Eq.mp (congrArg (fun z => post z) ((if_neg c1).trans (if_neg c2))) hp)
theorem M_X4_melt (l : Launch) (D : va_G) (E : En) (σ : St) (ok : OK E σ) (t : Nat) (ht : t < 3) : CO l yX4_melt cX4_melt 1 none rm_X4_melt [.ref (ead E (4 + t))] D E σ (fun A => va_Qv (fun u => (S_X4_melt σ t) = u) (POB D E A) A) 0 0 :=
  CO.of RX4 (by decide +kernel) rfl (Nat.le_of_ble_eq_true rfl) (fun p e s m below meth c A ls C h hr hl => K_X4_melt_0 C ok ht h hr hl rfl)
theorem S_X4_melt_27_fr {f i : Nat} (σ : St) (t : Nat) (hf : ∀ w ∈ [9, 10], f ≠ w) : (S_X4_melt_27 σ t) f i = σ f i := by
  unfold S_X4_melt_27
  (repeat' split) <;> first | with_reducible rfl | (simp only [up2_f (hf 9 (by decide)), up2_f (hf 10 (by decide))]; done)
theorem S_X4_melt_fr {f i : Nat} (σ : St) (t : Nat) (hf : ∀ w ∈ [9, 10], f ≠ w) : (S_X4_melt σ t) f i = σ f i := by
  unfold S_X4_melt
  (repeat' split) <;> first | with_reducible rfl | (simp only [up2_f (hf 9 (by decide)), up2_f (hf 10 (by decide)), S_X4_melt_27_fr _ _ hf]; done)
theorem S_X4_melt_ok {E : En} {σ : St} (ok : OK E σ) (t : Nat) : OK E (S_X4_melt σ t) :=
  ok.of_fr (fun f i hf => S_X4_melt_fr σ t (fun w hw q => absurd (show w ∈ [1, 3, 33, 43, 55, 66] by rw [← q]; exact hf) ((by decide : ∀ w ∈ [9, 10], w ∉ [1, 3, 33, 43, 55, 66]) w hw)))
-- X4_ploughUpTo ploughUpTo(I)I
abbrev rm_X4_ploughUpTo : Room := { frames := 1, cells := 0, slots := 0, locals := 21 }
def S_X4_ploughUpTo (σ : St) (t : Nat) (p1 : Int32) : Int32 × St := if (σ 9 t) = 2 then ((if p1 < (σ 10 t) then p1 else (σ 10 t)), (up2 σ 10 t ((σ 10 t) - (if p1 < (σ 10 t) then p1 else (σ 10 t))))) else (0, σ)
set_option maxRecDepth 100000 in
set_option maxHeartbeats 4000000 in
theorem K_X4_ploughUpTo_0 {p : Program} {l : Launch} {e : Env} {s : State} {m : MethodId} {args : Array Value} {below : List Frame} {meth : Method} {c : Code} {D : va_G} {E : En} {A : Nat → Prop} {post : Int32 → St → Prop} (C : CX p s m meth c cX4_ploughUpTo RX4 3 D E A) {σ : St} (ok : OK E σ) {t : Nat} (ht : t < 3) {p1 : Int32} {H : Heap} {locs : List Loc} (h : HW D E σ A s H locs) (hr : meth.sig.returnType = some .int) {ls : Array Slot} (hl : lv_has ls 3 [(0, .ref (ead E (4 + t))), (1, .int p1)]) (hp : post (S_X4_ploughUpTo σ t p1).1 (S_X4_ploughUpTo σ t p1).2) : W p l e rm_X4_ploughUpTo s m args below meth c H locs 0 0 (MQ below (va_Qi post (POB D E A) A) args s 0 0 A) (F0 m 0 ls []) := by
  refine lv_aload_n C.x C.b dX4_ploughUpTo_0 rfl (lv_at hl 0 rfl) ?_
  refine g_X4_9 C h ht dX4_ploughUpTo_1 ?_
  refine lv_iconst (v := 2) C.x C.b dX4_ploughUpTo_4 (by decide) ?_
  refine lv_icmp_eq (tgt := 10) C.x C.b dX4_ploughUpTo_5 (by decide) (fun c1 => ?_) (fun c1 => ?_)
  · skip
    refine lv_aload_n C.x C.b dX4_ploughUpTo_10 rfl (lv_at hl 0 rfl) ?_
    refine g_X4_26 C h ht dX4_ploughUpTo_11 ?_
    refine lv_iload_n C.x C.b dX4_ploughUpTo_14 rfl (lv_at hl 1 rfl) ?_
    refine va_mmin C.x C.b (C.ml.trans hl.1.symm) C.ow (C.w _ m_ml_X4_63) (C.w _ m_st_Lib_Math_min_name) (C.w _ m_ini__java_lang_Math_) (C.w _ m_co_Lib_Math_min_name) (Nat.le_of_ble_eq_true rfl) (Nat.le_of_ble_eq_true rfl) (Nat.le_of_ble_eq_true rfl) (Nat.le_of_ble_eq_true rfl) dX4_ploughUpTo_15 ?_
    refine lv_istore_n (lv' := [(2, .int (if p1 < (σ 10 t) then p1 else (σ 10 t))), (0, .ref (ead E (4 + t))), (1, .int p1)]) C.x C.b dX4_ploughUpTo_18 rfl hl (by decide) rfl (fun ls hl => ?_)
    refine lv_aload_n C.x C.b dX4_ploughUpTo_19 rfl (lv_at hl 1 rfl) ?_
    refine lv_dup C.x C.b dX4_ploughUpTo_20 rfl ?_
    refine g_X4_26 C h ht dX4_ploughUpTo_21 ?_
    refine lv_iload_n C.x C.b dX4_ploughUpTo_24 rfl (lv_at hl 0 rfl) ?_
    refine lv_isub C.x C.b dX4_ploughUpTo_25 ?_
    refine p_X4_26 C h ht dX4_ploughUpTo_26 (fun H locs h => ?_)
    refine lv_iload_n C.x C.b dX4_ploughUpTo_29 rfl (lv_at hl 0 rfl) ?_
    exact rtI C h hr rfl dX4_ploughUpTo_30 (Eq.mp (congrArg (fun z : Int32 × St => post z.1 z.2) (if_pos c1)) hp)
  · skip
    refine lv_iconst (v := 0) C.x C.b dX4_ploughUpTo_8 (by decide) ?_
    exact rtI C h hr rfl dX4_ploughUpTo_9 (Eq.mp (congrArg (fun z : Int32 × St => post z.1 z.2) (if_neg c1)) hp)
theorem M_X4_ploughUpTo (l : Launch) (D : va_G) (E : En) (σ : St) (ok : OK E σ) (t : Nat) (ht : t < 3) (p1 : Int32) : CO l yX4_ploughUpTo cX4_ploughUpTo 3 (some .int) rm_X4_ploughUpTo [.ref (ead E (4 + t)), .int p1] D E σ (fun A => va_Qi (fun r u => (S_X4_ploughUpTo σ t p1).1 = r ∧ (S_X4_ploughUpTo σ t p1).2 = u) (POB D E A) A) 0 0 :=
  CO.of RX4 (by decide +kernel) rfl (Nat.le_of_ble_eq_true rfl) (fun p e s m below meth c A ls C h hr hl => K_X4_ploughUpTo_0 C ok ht h hr hl ⟨rfl, rfl⟩)
theorem S_X4_ploughUpTo_fr {f i : Nat} (σ : St) (t : Nat) (p1 : Int32) (hf : ∀ w ∈ [10], f ≠ w) : (S_X4_ploughUpTo σ t p1).2 f i = σ f i := by
  unfold S_X4_ploughUpTo
  (repeat' split) <;> first | with_reducible rfl | (simp only [up2_f (hf 10 (by decide))]; done)
theorem S_X4_ploughUpTo_ok {E : En} {σ : St} (ok : OK E σ) (t : Nat) (p1 : Int32) : OK E (S_X4_ploughUpTo σ t p1).2 :=
  ok.of_fr (fun f i hf => S_X4_ploughUpTo_fr σ t p1 (fun w hw q => absurd (show w ∈ [1, 3, 33, 43, 55, 66] by rw [← q]; exact hf) ((by decide : ∀ w ∈ [10], w ∉ [1, 3, 33, 43, 55, 66]) w hw)))
-- X4_wetIfBare wetIfBare()V
abbrev rm_X4_wetIfBare : Room := { frames := 0, cells := 0, slots := 0, locals := 0 }
def S_X4_wetIfBare (σ : St) (t : Nat) : St := if (σ 9 t) = 2 then (if (σ 10 t) = 0 then (up2 σ 9 t 1) else σ) else σ
set_option maxRecDepth 100000 in
set_option maxHeartbeats 4000000 in
theorem K_X4_wetIfBare_0 {p : Program} {l : Launch} {e : Env} {s : State} {m : MethodId} {args : Array Value} {below : List Frame} {meth : Method} {c : Code} {D : va_G} {E : En} {A : Nat → Prop} {post : St → Prop} (C : CX p s m meth c cX4_wetIfBare RX4 1 D E A) {σ : St} (ok : OK E σ) {t : Nat} (ht : t < 3) {H : Heap} {locs : List Loc} (h : HW D E σ A s H locs) (hr : meth.sig.returnType = none) {ls : Array Slot} (hl : lv_has ls 1 [(0, .ref (ead E (4 + t)))]) (hp : post (S_X4_wetIfBare σ t)) : W p l e rm_X4_wetIfBare s m args below meth c H locs 0 0 (MQ below (va_Qv post (POB D E A) A) args s 0 0 A) (F0 m 0 ls []) := by
  refine lv_aload_n C.x C.b dX4_wetIfBare_0 rfl (lv_at hl 0 rfl) ?_
  refine g_X4_9 C h ht dX4_wetIfBare_1 ?_
  refine lv_iconst (v := 2) C.x C.b dX4_wetIfBare_4 (by decide) ?_
  refine lv_icmp_ne (tgt := 20) C.x C.b dX4_wetIfBare_5 (by decide) (fun c1 => ?_) (fun c1 => ?_)
  · skip
    exact rtV C h hr dX4_wetIfBare_20 (Eq.mp (congrArg (fun z => post z) (if_neg c1)) hp)
  · skip
    refine lv_aload_n C.x C.b dX4_wetIfBare_8 rfl (lv_at hl 0 rfl) ?_
    refine g_X4_26 C h ht dX4_wetIfBare_9 ?_
    refine lv_if_ne (tgt := 20) C.x C.b dX4_wetIfBare_12 (by decide) (fun c2 => ?_) (fun c2 => ?_)
    · skip
      exact rtV C h hr dX4_wetIfBare_20 (Eq.mp (congrArg (fun z => post z) ((if_pos c1).trans (if_neg c2))) hp)
    · skip
      refine lv_aload_n C.x C.b dX4_wetIfBare_15 rfl (lv_at hl 0 rfl) ?_
      refine lv_iconst (v := 1) C.x C.b dX4_wetIfBare_16 (by decide) ?_
      refine p_X4_9 C h ht dX4_wetIfBare_17 (fun H locs h => ?_)
      exact rtV C h hr dX4_wetIfBare_20 (Eq.mp (congrArg (fun z => post z) ((if_pos c1).trans (if_pos c2))) hp)
theorem M_X4_wetIfBare (l : Launch) (D : va_G) (E : En) (σ : St) (ok : OK E σ) (t : Nat) (ht : t < 3) : CO l yX4_wetIfBare cX4_wetIfBare 1 none rm_X4_wetIfBare [.ref (ead E (4 + t))] D E σ (fun A => va_Qv (fun u => (S_X4_wetIfBare σ t) = u) (POB D E A) A) 0 0 :=
  CO.of RX4 (by decide +kernel) rfl (Nat.le_of_ble_eq_true rfl) (fun p e s m below meth c A ls C h hr hl => K_X4_wetIfBare_0 C ok ht h hr hl rfl)
theorem S_X4_wetIfBare_fr {f i : Nat} (σ : St) (t : Nat) (hf : ∀ w ∈ [9], f ≠ w) : (S_X4_wetIfBare σ t) f i = σ f i := by
  unfold S_X4_wetIfBare
  (repeat' split) <;> first | with_reducible rfl | (simp only [up2_f (hf 9 (by decide))]; done)
theorem S_X4_wetIfBare_ok {E : En} {σ : St} (ok : OK E σ) (t : Nat) : OK E (S_X4_wetIfBare σ t) :=
  ok.of_fr (fun f i hf => S_X4_wetIfBare_fr σ t (fun w hw q => absurd (show w ∈ [1, 3, 33, 43, 55, 66] by rw [← q]; exact hf) ((by decide : ∀ w ∈ [9], w ∉ [1, 3, 33, 43, 55, 66]) w hw)))
-- X4_liveMinute liveMinute(ILIcePad$Weather;)V
theorem cw_X4_36 : CWd RX4 36 yX4_isSprayedAt cX4_isSprayedAt 2 (some .boolean) 1 := ⟨m_ml_X4_36, m_co_X4_isSprayedAt, m_ini_X4, by decide +kernel, by decide +kernel⟩
theorem cw_X4_46 : CWd RX4 46 yX4_snowOn cX4_snowOn 2 none 1 := ⟨m_ml_X4_46, m_co_X4_snowOn, m_ini_X4, by decide +kernel, by decide +kernel⟩
theorem cw_X4_50 : CWd RX4 50 yX4_rainOn cX4_rainOn 3 none 2 := ⟨m_ml_X4_50, m_co_X4_rainOn, m_ini_X4, by decide +kernel, by decide +kernel⟩
theorem cw_X4_54 : CWd RX4 54 yX4_iceOver cX4_iceOver 1 none 0 := ⟨m_ml_X4_54, m_co_X4_iceOver, m_ini_X4, by decide +kernel, by decide +kernel⟩
theorem cw_X4_57 : CWd RX4 57 yX4_melt cX4_melt 1 none 0 := ⟨m_ml_X4_57, m_co_X4_melt, m_ini_X4, by decide +kernel, by decide +kernel⟩
abbrev rm_X4_liveMinute : Room := { frames := 3, cells := 0, slots := 0, locals := 64 }
def S_X4_liveMinute_89 (σ : St) (t : Nat) (p1 : Int32) (v3 : Int32) : St := if v3 = 0 then σ else if (σ 9 t) = 1 then (S_X4_iceOver σ t) else σ
set_option maxRecDepth 100000 in
set_option maxHeartbeats 4000000 in
theorem K_X4_liveMinute_89 {p : Program} {l : Launch} {e : Env} {s : State} {m : MethodId} {args : Array Value} {below : List Frame} {meth : Method} {c : Code} {D : va_G} {E : En} {A : Nat → Prop} {post : St → Prop} (C : CX p s m meth c cX4_liveMinute RX4 4 D E A) {σ : St} (ok : OK E σ) {t : Nat} (ht : t < 3) {p1 : Int32} {v3 : Int32} {H : Heap} {locs : List Loc} (h : HW D E σ A s H locs) (hr : meth.sig.returnType = none) {ls : Array Slot} (hl : lv_has ls 4 [(0, .ref (ead E (4 + t))), (1, .int p1), (2, .ref (ead E 1)), (3, .int v3)]) (hp : post (S_X4_liveMinute_89 σ t p1 v3)) : W p l e rm_X4_liveMinute s m args below meth c H locs 0 0 (MQ below (va_Qv post (POB D E A) A) args s 0 0 A) (F0 m 89 ls []) := by
  refine lv_iload_n C.x C.b dX4_liveMinute_89 rfl (lv_at hl 3 rfl) ?_
  refine lv_if_eq (tgt := 105) C.x C.b dX4_liveMinute_90 (by decide) (fun c1 => ?_) (fun c1 => ?_)
  · skip
    exact rtV C h hr dX4_liveMinute_105 (Eq.mp (congrArg (fun z => post z) (if_pos c1)) hp)
  · skip
    refine lv_aload_n C.x C.b dX4_liveMinute_93 rfl (lv_at hl 0 rfl) ?_
    refine g_X4_9 C h ht dX4_liveMinute_94 ?_
    refine lv_iconst (v := 1) C.x C.b dX4_liveMinute_97 (by decide) ?_
    refine lv_icmp_ne (tgt := 105) C.x C.b dX4_liveMinute_98 (by decide) (fun c2 => ?_) (fun c2 => ?_)
    · skip
      exact rtV C h hr dX4_liveMinute_105 (Eq.mp (congrArg (fun z => post z) ((if_neg c1).trans (if_neg c2))) hp)
    · skip
      refine lv_aload_n C.x C.b dX4_liveMinute_101 rfl (lv_at hl 0 rfl) ?_
      refine caVv (As := []) (rest := []) (q0 := 4 + t) (ci := 4) C h (M_X4_iceOver l D E _ ok t ht) cw_X4_54 m_im_X4_iceOver m_se_X4_iceOver rfl rfl ⟨Nat.le_of_ble_eq_true rfl, Nat.le_of_ble_eq_true rfl⟩ (wd_t _ ht) rfl hl rfl (Nat.le_of_ble_eq_true rfl) dX4_liveMinute_102 ⟨Nat.le_of_ble_eq_true rfl, Nat.le_of_ble_eq_true rfl⟩ (fun u H locs w3 h => ?_)
      subst w3
      exact rtV C h hr dX4_liveMinute_105 (Eq.mp (congrArg (fun z => post z) ((if_neg c1).trans (if_pos c2))) hp)
def S_X4_liveMinute_76 (σ : St) (t : Nat) (p1 : Int32) (v3 : Int32) : St := if (σ 2 0) ≤ 20 then S_X4_liveMinute_89 σ t p1 v3 else S_X4_liveMinute_89 (S_X4_melt σ t) t p1 v3
set_option maxRecDepth 100000 in
set_option maxHeartbeats 4000000 in
theorem K_X4_liveMinute_76 {p : Program} {l : Launch} {e : Env} {s : State} {m : MethodId} {args : Array Value} {below : List Frame} {meth : Method} {c : Code} {D : va_G} {E : En} {A : Nat → Prop} {post : St → Prop} (C : CX p s m meth c cX4_liveMinute RX4 4 D E A) {σ : St} (ok : OK E σ) {t : Nat} (ht : t < 3) {p1 : Int32} {v3 : Int32} {H : Heap} {locs : List Loc} (h : HW D E σ A s H locs) (hr : meth.sig.returnType = none) {ls : Array Slot} (hl : lv_has ls 4 [(0, .ref (ead E (4 + t))), (1, .int p1), (2, .ref (ead E 1)), (3, .int v3)]) (hp : post (S_X4_liveMinute_76 σ t p1 v3)) : W p l e rm_X4_liveMinute s m args below meth c H locs 0 0 (MQ below (va_Qv post (POB D E A) A) args s 0 0 A) (F0 m 76 ls []) := by
  refine lv_aload_n C.x C.b dX4_liveMinute_76 rfl (lv_at hl 2 rfl) ?_
  refine g_X4_21 C h dX4_liveMinute_77 ?_
  refine lv_bipush (v := 20) C.x C.b dX4_liveMinute_80 (by decide) ?_
  refine lv_icmp_le (tgt := 89) C.x C.b dX4_liveMinute_82 (by decide) (fun c1 => ?_) (fun c1 => ?_)
  · skip
    exact K_X4_liveMinute_89 (v3 := v3) C ok ht h hr (lv_sub hl [0, 1, 2, 3] rfl) (Eq.mp (congrArg (fun z => post z) (if_pos c1)) hp)
  · skip
    refine lv_aload_n C.x C.b dX4_liveMinute_85 rfl (lv_at hl 0 rfl) ?_
    refine caVv (As := []) (rest := []) (q0 := 4 + t) (ci := 4) C h (M_X4_melt l D E _ ok t ht) cw_X4_57 m_im_X4_melt m_se_X4_melt rfl rfl ⟨Nat.le_of_ble_eq_true rfl, Nat.le_of_ble_eq_true rfl⟩ (wd_t _ ht) rfl hl rfl (Nat.le_of_ble_eq_true rfl) dX4_liveMinute_86 ⟨Nat.le_of_ble_eq_true rfl, Nat.le_of_ble_eq_true rfl⟩ (fun u H locs w2 h => ?_)
    subst w2
    exact K_X4_liveMinute_89 (v3 := v3) C (S_X4_melt_ok ok t) ht h hr (lv_sub hl [0, 1, 2, 3] rfl) (Eq.mp (congrArg (fun z => post z) (if_neg c1)) hp)
def S_X4_liveMinute_20 (σ : St) (t : Nat) (p1 : Int32) (y0 : Int32) : St := if (σ 3 0) = 1 then S_X4_liveMinute_76 (S_X4_snowOn σ t (σ 4 0)) t p1 y0 else if (σ 3 0) = 2 then S_X4_liveMinute_76 (S_X4_rainOn σ t (σ 4 0) y0) t p1 y0 else if (σ 3 0) = 3 then (if y0 = 0 then S_X4_liveMinute_76 σ t p1 y0 else S_X4_liveMinute_76 (S_X4_iceOver σ t) t p1 y0) else S_X4_liveMinute_76 σ t p1 y0
set_option maxRecDepth 100000 in
set_option maxHeartbeats 4000000 in
theorem K_X4_liveMinute_20 {p : Program} {l : Launch} {e : Env} {s : State} {m : MethodId} {args : Array Value} {below : List Frame} {meth : Method} {c : Code} {D : va_G} {E : En} {A : Nat → Prop} {post : St → Prop} (C : CX p s m meth c cX4_liveMinute RX4 4 D E A) {σ : St} (ok : OK E σ) {t : Nat} (ht : t < 3) {p1 : Int32} {y0 : Int32} {H : Heap} {locs : List Loc} (h : HW D E σ A s H locs) (hr : meth.sig.returnType = none) {ls : Array Slot} (hl : lv_has ls 4 [(0, .ref (ead E (4 + t))), (1, .int p1), (2, .ref (ead E 1))]) (hp : post (S_X4_liveMinute_20 σ t p1 y0)) : W p l e rm_X4_liveMinute s m args below meth c H locs 0 0 (MQ below (va_Qv post (POB D E A) A) args s 0 0 A) (F0 m 20 ls [.int y0]) := by
  refine lv_istore_n (lv' := [(3, .int y0), (0, .ref (ead E (4 + t))), (1, .int p1), (2, .ref (ead E 1))]) C.x C.b dX4_liveMinute_20 rfl hl (by decide) rfl (fun ls hl => ?_)
  refine lv_aload_n C.x C.b dX4_liveMinute_21 rfl (lv_at hl 3 rfl) ?_
  refine g_X4_40 C h dX4_liveMinute_22 ?_
  refine lv_iconst (v := 1) C.x C.b dX4_liveMinute_25 (by decide) ?_
  refine lv_icmp_ne (tgt := 40) C.x C.b dX4_liveMinute_26 (by decide) (fun c1 => ?_) (fun c1 => ?_)
  · skip
    refine lv_aload_n C.x C.b dX4_liveMinute_40 rfl (lv_at hl 3 rfl) ?_
    refine g_X4_40 C h dX4_liveMinute_41 ?_
    refine lv_iconst (v := 2) C.x C.b dX4_liveMinute_44 (by decide) ?_
    refine lv_icmp_ne (tgt := 60) C.x C.b dX4_liveMinute_45 (by decide) (fun c2 => ?_) (fun c2 => ?_)
    · skip
      refine lv_aload_n C.x C.b dX4_liveMinute_60 rfl (lv_at hl 3 rfl) ?_
      refine g_X4_40 C h dX4_liveMinute_61 ?_
      refine lv_iconst (v := 3) C.x C.b dX4_liveMinute_64 (by decide) ?_
      refine lv_icmp_ne (tgt := 76) C.x C.b dX4_liveMinute_65 (by decide) (fun c3 => ?_) (fun c3 => ?_)
      · skip
        exact K_X4_liveMinute_76 (v3 := y0) C ok ht h hr (lv_sub hl [1, 2, 3, 0] rfl) (Eq.mp (congrArg (fun z => post z) ((if_neg c1).trans ((if_neg c2).trans (if_neg c3)))) hp)
      · skip
        refine lv_iload_n C.x C.b dX4_liveMinute_68 rfl (lv_at hl 0 rfl) ?_
        refine lv_if_eq (tgt := 76) C.x C.b dX4_liveMinute_69 (by decide) (fun c4 => ?_) (fun c4 => ?_)
        · skip
          exact K_X4_liveMinute_76 (v3 := y0) C ok ht h hr (lv_sub hl [1, 2, 3, 0] rfl) (Eq.mp (congrArg (fun z => post z) ((if_neg c1).trans ((if_neg c2).trans ((if_pos c3).trans (if_pos c4))))) hp)
        · skip
          refine lv_aload_n C.x C.b dX4_liveMinute_72 rfl (lv_at hl 1 rfl) ?_
          refine caVv (As := []) (rest := []) (q0 := 4 + t) (ci := 4) C h (M_X4_iceOver l D E _ ok t ht) cw_X4_54 m_im_X4_iceOver m_se_X4_iceOver rfl rfl ⟨Nat.le_of_ble_eq_true rfl, Nat.le_of_ble_eq_true rfl⟩ (wd_t _ ht) rfl hl rfl (Nat.le_of_ble_eq_true rfl) dX4_liveMinute_73 ⟨Nat.le_of_ble_eq_true rfl, Nat.le_of_ble_eq_true rfl⟩ (fun u H locs w5 h => ?_)
          subst w5
          exact K_X4_liveMinute_76 (v3 := y0) C (S_X4_iceOver_ok ok t) ht h hr (lv_sub hl [1, 2, 3, 0] rfl) (Eq.mp (congrArg (fun z => post z) ((if_neg c1).trans ((if_neg c2).trans ((if_pos c3).trans (if_neg c4))))) hp)
    · skip
      refine lv_aload_n C.x C.b dX4_liveMinute_48 rfl (lv_at hl 1 rfl) ?_
      refine lv_aload_n C.x C.b dX4_liveMinute_49 rfl (lv_at hl 3 rfl) ?_
      refine g_X4_43 C h dX4_liveMinute_50 ?_
      refine lv_iload_n C.x C.b dX4_liveMinute_53 rfl (lv_at hl 0 rfl) ?_
      refine caVv (As := [.int (σ 4 0), .int y0]) (rest := []) (q0 := 4 + t) (ci := 4) C h (M_X4_rainOn l D E _ ok t ht (σ 4 0) y0) cw_X4_50 m_im_X4_rainOn m_se_X4_rainOn rfl rfl ⟨Nat.le_of_ble_eq_true rfl, Nat.le_of_ble_eq_true rfl⟩ (wd_t _ ht) rfl hl rfl (Nat.le_of_ble_eq_true rfl) dX4_liveMinute_54 ⟨Nat.le_of_ble_eq_true rfl, Nat.le_of_ble_eq_true rfl⟩ (fun u H locs w6 h => ?_)
      subst w6
      refine lv_goto (tgt := 76) C.x C.b dX4_liveMinute_57 (by decide) ?_
      exact K_X4_liveMinute_76 (v3 := y0) C (S_X4_rainOn_ok ok t (σ 4 0) y0) ht h hr (lv_sub hl [1, 2, 3, 0] rfl) (Eq.mp (congrArg (fun z => post z) ((if_neg c1).trans (if_pos c2))) hp)
  · skip
    refine lv_aload_n C.x C.b dX4_liveMinute_29 rfl (lv_at hl 1 rfl) ?_
    refine lv_aload_n C.x C.b dX4_liveMinute_30 rfl (lv_at hl 3 rfl) ?_
    refine g_X4_43 C h dX4_liveMinute_31 ?_
    refine caVv (As := [.int (σ 4 0)]) (rest := []) (q0 := 4 + t) (ci := 4) C h (M_X4_snowOn l D E _ ok t ht (σ 4 0)) cw_X4_46 m_im_X4_snowOn m_se_X4_snowOn rfl rfl ⟨Nat.le_of_ble_eq_true rfl, Nat.le_of_ble_eq_true rfl⟩ (wd_t _ ht) rfl hl rfl (Nat.le_of_ble_eq_true rfl) dX4_liveMinute_34 ⟨Nat.le_of_ble_eq_true rfl, Nat.le_of_ble_eq_true rfl⟩ (fun u H locs w7 h => ?_)
    subst w7
    refine lv_goto (tgt := 76) C.x C.b dX4_liveMinute_37 (by decide) ?_
    exact K_X4_liveMinute_76 (v3 := y0) C (S_X4_snowOn_ok ok t (σ 4 0)) ht h hr (lv_sub hl [1, 2, 3, 0] rfl) (Eq.mp (congrArg (fun z => post z) (if_pos c1)) hp)
def S_X4_liveMinute (σ : St) (t : Nat) (p1 : Int32) : St := if 0 ≤ (σ 2 0) then S_X4_liveMinute_20 σ t p1 0 else if (S_X4_isSprayedAt σ t p1) = 0 then S_X4_liveMinute_20 σ t p1 1 else S_X4_liveMinute_20 σ t p1 0
set_option maxRecDepth 100000 in
set_option maxHeartbeats 4000000 in
theorem K_X4_liveMinute_0 {p : Program} {l : Launch} {e : Env} {s : State} {m : MethodId} {args : Array Value} {below : List Frame} {meth : Method} {c : Code} {D : va_G} {E : En} {A : Nat → Prop} {post : St → Prop} (C : CX p s m meth c cX4_liveMinute RX4 4 D E A) {σ : St} (ok : OK E σ) {t : Nat} (ht : t < 3) {p1 : Int32} {H : Heap} {locs : List Loc} (h : HW D E σ A s H locs) (hr : meth.sig.returnType = none) {ls : Array Slot} (hl : lv_has ls 4 [(0, .ref (ead E (4 + t))), (1, .int p1), (2, .ref (ead E 1))]) (hp : post (S_X4_liveMinute σ t p1)) : W p l e rm_X4_liveMinute s m args below meth c H locs 0 0 (MQ below (va_Qv post (POB D E A) A) args s 0 0 A) (F0 m 0 ls []) := by
  refine lv_aload_n C.x C.b dX4_liveMinute_0 rfl (lv_at hl 2 rfl) ?_
  refine g_X4_21 C h dX4_liveMinute_1 ?_
  refine lv_if_ge (tgt := 19) C.x C.b dX4_liveMinute_4 (by decide) (fun c1 => ?_) (fun c1 => ?_)
  · skip
    refine lv_iconst (v := 0) C.x C.b dX4_liveMinute_19 (by decide) ?_
    exact K_X4_liveMinute_20 (y0 := 0) C ok ht h hr (lv_sub hl [0, 1, 2] rfl) (Eq.mp (congrArg (fun z => post z) (if_pos c1)) hp)
  · skip
    refine lv_aload_n C.x C.b dX4_liveMinute_7 rfl (lv_at hl 0 rfl) ?_
    refine lv_iload_n C.x C.b dX4_liveMinute_8 rfl (lv_at hl 1 rfl) ?_
    refine caVi (As := [.int p1]) (rest := []) (q0 := 4 + t) (ci := 4) C h (M_X4_isSprayedAt l D E _ ok t ht p1) cw_X4_36 m_im_X4_isSprayedAt m_se_X4_isSprayedAt rfl rfl ⟨Nat.le_of_ble_eq_true rfl, Nat.le_of_ble_eq_true rfl⟩ (wd_t _ ht) rfl hl rfl (Nat.le_of_ble_eq_true rfl) dX4_liveMinute_9 ⟨Nat.le_of_ble_eq_true rfl, Nat.le_of_ble_eq_true rfl⟩ (fun r u H locs w2 h => ?_)
    obtain ⟨rfl, rfl⟩ := w2
    refine lv_if_ne (tgt := 19) C.x C.b dX4_liveMinute_12 (by decide) (fun c3 => ?_) (fun c3 => ?_)
    · skip
      refine lv_iconst (v := 0) C.x C.b dX4_liveMinute_19 (by decide) ?_
      exact K_X4_liveMinute_20 (y0 := 0) C ok ht h hr (lv_sub hl [0, 1, 2] rfl) (Eq.mp (congrArg (fun z => post z) ((if_neg c1).trans (if_neg c3))) hp)
    · skip
      refine lv_iconst (v := 1) C.x C.b dX4_liveMinute_15 (by decide) ?_
      refine lv_goto (tgt := 20) C.x C.b dX4_liveMinute_16 (by decide) ?_
      exact K_X4_liveMinute_20 (y0 := 1) C ok ht h hr (lv_sub hl [0, 1, 2] rfl) (Eq.mp (congrArg (fun z => post z) ((if_neg c1).trans (if_pos c3))) hp)
theorem M_X4_liveMinute (l : Launch) (D : va_G) (E : En) (σ : St) (ok : OK E σ) (t : Nat) (ht : t < 3) (p1 : Int32) : CO l yX4_liveMinute cX4_liveMinute 4 none rm_X4_liveMinute [.ref (ead E (4 + t)), .int p1, .ref (ead E 1)] D E σ (fun A => va_Qv (fun u => (S_X4_liveMinute σ t p1) = u) (POB D E A) A) 0 0 :=
  CO.of RX4 (by decide +kernel) rfl (Nat.le_of_ble_eq_true rfl) (fun p e s m below meth c A ls C h hr hl => K_X4_liveMinute_0 C ok ht h hr hl rfl)
theorem S_X4_liveMinute_89_fr {f i : Nat} (σ : St) (t : Nat) (p1 : Int32) (v3 : Int32) (hf : ∀ w ∈ [9, 10], f ≠ w) : (S_X4_liveMinute_89 σ t p1 v3) f i = σ f i := by
  unfold S_X4_liveMinute_89
  (repeat' split) <;> first | with_reducible rfl | (simp only [up2_f (hf 9 (by decide)), up2_f (hf 10 (by decide)), S_X4_iceOver_fr _ _ (fun w hw => hf w ((by decide : ∀ w ∈ [9, 10], w ∈ [9, 10]) w hw)), S_X4_melt_fr _ _ (fun w hw => hf w ((by decide : ∀ w ∈ [9, 10], w ∈ [9, 10]) w hw)), S_X4_rainOn_fr _ _ _ _ (fun w hw => hf w ((by decide : ∀ w ∈ [9, 10], w ∈ [9, 10]) w hw)), S_X4_snowOn_fr _ _ _ (fun w hw => hf w ((by decide : ∀ w ∈ [9, 10], w ∈ [9, 10]) w hw))]; done)
theorem S_X4_liveMinute_76_fr {f i : Nat} (σ : St) (t : Nat) (p1 : Int32) (v3 : Int32) (hf : ∀ w ∈ [9, 10], f ≠ w) : (S_X4_liveMinute_76 σ t p1 v3) f i = σ f i := by
  unfold S_X4_liveMinute_76
  (repeat' split) <;> first | with_reducible rfl | (simp only [up2_f (hf 9 (by decide)), up2_f (hf 10 (by decide)), S_X4_iceOver_fr _ _ (fun w hw => hf w ((by decide : ∀ w ∈ [9, 10], w ∈ [9, 10]) w hw)), S_X4_melt_fr _ _ (fun w hw => hf w ((by decide : ∀ w ∈ [9, 10], w ∈ [9, 10]) w hw)), S_X4_rainOn_fr _ _ _ _ (fun w hw => hf w ((by decide : ∀ w ∈ [9, 10], w ∈ [9, 10]) w hw)), S_X4_snowOn_fr _ _ _ (fun w hw => hf w ((by decide : ∀ w ∈ [9, 10], w ∈ [9, 10]) w hw)), S_X4_liveMinute_89_fr _ _ _ _ hf]; done)
theorem S_X4_liveMinute_20_fr {f i : Nat} (σ : St) (t : Nat) (p1 : Int32) (y0 : Int32) (hf : ∀ w ∈ [9, 10], f ≠ w) : (S_X4_liveMinute_20 σ t p1 y0) f i = σ f i := by
  unfold S_X4_liveMinute_20
  (repeat' split) <;> first | with_reducible rfl | (simp only [up2_f (hf 9 (by decide)), up2_f (hf 10 (by decide)), S_X4_iceOver_fr _ _ (fun w hw => hf w ((by decide : ∀ w ∈ [9, 10], w ∈ [9, 10]) w hw)), S_X4_melt_fr _ _ (fun w hw => hf w ((by decide : ∀ w ∈ [9, 10], w ∈ [9, 10]) w hw)), S_X4_rainOn_fr _ _ _ _ (fun w hw => hf w ((by decide : ∀ w ∈ [9, 10], w ∈ [9, 10]) w hw)), S_X4_snowOn_fr _ _ _ (fun w hw => hf w ((by decide : ∀ w ∈ [9, 10], w ∈ [9, 10]) w hw)), S_X4_liveMinute_89_fr _ _ _ _ hf, S_X4_liveMinute_76_fr _ _ _ _ hf]; done)
theorem S_X4_liveMinute_fr {f i : Nat} (σ : St) (t : Nat) (p1 : Int32) (hf : ∀ w ∈ [9, 10], f ≠ w) : (S_X4_liveMinute σ t p1) f i = σ f i := by
  unfold S_X4_liveMinute
  (repeat' split) <;> first | with_reducible rfl | (simp only [up2_f (hf 9 (by decide)), up2_f (hf 10 (by decide)), S_X4_iceOver_fr _ _ (fun w hw => hf w ((by decide : ∀ w ∈ [9, 10], w ∈ [9, 10]) w hw)), S_X4_melt_fr _ _ (fun w hw => hf w ((by decide : ∀ w ∈ [9, 10], w ∈ [9, 10]) w hw)), S_X4_rainOn_fr _ _ _ _ (fun w hw => hf w ((by decide : ∀ w ∈ [9, 10], w ∈ [9, 10]) w hw)), S_X4_snowOn_fr _ _ _ (fun w hw => hf w ((by decide : ∀ w ∈ [9, 10], w ∈ [9, 10]) w hw)), S_X4_liveMinute_89_fr _ _ _ _ hf, S_X4_liveMinute_76_fr _ _ _ _ hf, S_X4_liveMinute_20_fr _ _ _ _ hf]; done)
theorem S_X4_liveMinute_ok {E : En} {σ : St} (ok : OK E σ) (t : Nat) (p1 : Int32) : OK E (S_X4_liveMinute σ t p1) :=
  ok.of_fr (fun f i hf => S_X4_liveMinute_fr σ t p1 (fun w hw q => absurd (show w ∈ [1, 3, 33, 43, 55, 66] by rw [← q]; exact hf) ((by decide : ∀ w ∈ [9, 10], w ∉ [1, 3, 33, 43, 55, 66]) w hw)))
