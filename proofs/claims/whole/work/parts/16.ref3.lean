/-! methods walked (by program; wip/whole/gen) -/
-- X7_weather weather(IIII)V
abbrev rm_X7_weather : Room := { frames := 1, cells := 0, slots := 0, locals := 22 }
def S_X7_weather_49 (σ : St) (p1 : Int32) (p2 : Int32) (p3 : Int32) (p4 : Int32) (y0 : Int32) : St := if y0 = 0 then (up2 (up2 (up2 (up2 (up2 σ 40 0 y0) 42 0 p1) 43 0 p2) 44 0 p3) 45 0 p4) else (up2 σ 40 0 y0)
set_option maxRecDepth 100000 in
set_option maxHeartbeats 4000000 in
theorem K_X7_weather_49 {p : Program} {l : Launch} {e : Env} {s : State} {m : MethodId} {args : Array Value} {below : List Frame} {meth : Method} {c : Code} {D : va_G} {E : En} {A : Nat → Prop} {post : St → Prop} (C : CX p s m meth c cX7_weather RX7 5 D E A) {σ : St} (ok : OK E σ) {p1 : Int32} {p2 : Int32} {p3 : Int32} {p4 : Int32} {y0 : Int32} {H : Heap} {locs : List Loc} (h : HW D E σ A s H locs) (hr : meth.sig.returnType = none) {ls : Array Slot} (hl : lv_has ls 5 [(0, .ref (ead E 15)), (1, .int p1), (2, .int p2), (3, .int p3), (4, .int p4)]) (hp : post (S_X7_weather_49 σ p1 p2 p3 p4 y0)) : W p l e rm_X7_weather s m args below meth c H locs 0 0 (MQ below (va_Qv post (POB D E A) A) args s 0 0 A) (F0 m 49 ls [.int y0, .ref (ead E 15)]) := by
  refine p_X7_74 C h dX7_weather_49 (fun H locs h => ?_)
  refine lv_aload_n C.x C.b dX7_weather_52 rfl (lv_at hl 0 rfl) ?_
  refine g_X7_74 C h dX7_weather_53 ?_
  refine lv_if_ne (tgt := 80) C.x C.b dX7_weather_56 (by decide) (fun c1 => ?_) (fun c1 => ?_)
  · skip
    exact rtV C h hr dX7_weather_80 (Eq.mp (congrArg (fun z => post z) (if_neg c1)) hp)
  · skip
    refine lv_aload_n C.x C.b dX7_weather_59 rfl (lv_at hl 0 rfl) ?_
    refine lv_iload_n C.x C.b dX7_weather_60 rfl (lv_at hl 1 rfl) ?_
    refine p_X7_84 C h dX7_weather_61 (fun H locs h => ?_)
    refine lv_aload_n C.x C.b dX7_weather_64 rfl (lv_at hl 0 rfl) ?_
    refine lv_iload_n C.x C.b dX7_weather_65 rfl (lv_at hl 2 rfl) ?_
    refine p_X7_87 C h dX7_weather_66 (fun H locs h => ?_)
    refine lv_aload_n C.x C.b dX7_weather_69 rfl (lv_at hl 0 rfl) ?_
    refine lv_iload_n C.x C.b dX7_weather_70 rfl (lv_at hl 3 rfl) ?_
    refine p_X7_90 C h dX7_weather_71 (fun H locs h => ?_)
    refine lv_aload_n C.x C.b dX7_weather_74 rfl (lv_at hl 0 rfl) ?_
    refine lv_iload C.x C.b dX7_weather_75 (lv_at hl 4 rfl) ?_
    refine p_X7_93 C h dX7_weather_77 (fun H locs h => ?_)
    exact rtV C h hr dX7_weather_80 (Eq.mp (congrArg (fun z => post z) (if_pos c1)) hp)
def S_X7_weather (σ : St) (p1 : Int32) (p2 : Int32) (p3 : Int32) (p4 : Int32) : St := if (S_X7_in p1 (-400) 400) = 0 then S_X7_weather_49 σ p1 p2 p3 p4 1 else if (S_X7_in p2 0 3) = 0 then S_X7_weather_49 σ p1 p2 p3 p4 1 else if (S_X7_in p3 0 30) = 0 then S_X7_weather_49 σ p1 p2 p3 p4 1 else if (S_X7_in p4 0 60) = 0 then S_X7_weather_49 σ p1 p2 p3 p4 1 else S_X7_weather_49 σ p1 p2 p3 p4 0
set_option maxRecDepth 100000 in
set_option maxHeartbeats 4000000 in
theorem K_X7_weather_0 {p : Program} {l : Launch} {e : Env} {s : State} {m : MethodId} {args : Array Value} {below : List Frame} {meth : Method} {c : Code} {D : va_G} {E : En} {A : Nat → Prop} {post : St → Prop} (C : CX p s m meth c cX7_weather RX7 5 D E A) {σ : St} (ok : OK E σ) {p1 : Int32} {p2 : Int32} {p3 : Int32} {p4 : Int32} {H : Heap} {locs : List Loc} (h : HW D E σ A s H locs) (hr : meth.sig.returnType = none) {ls : Array Slot} (hl : lv_has ls 5 [(0, .ref (ead E 15)), (1, .int p1), (2, .int p2), (3, .int p3), (4, .int p4)]) (hp : post (S_X7_weather σ p1 p2 p3 p4)) : W p l e rm_X7_weather s m args below meth c H locs 0 0 (MQ below (va_Qv post (POB D E A) A) args s 0 0 A) (F0 m 0 ls []) := by
  refine lv_aload_n C.x C.b dX7_weather_0 rfl (lv_at hl 0 rfl) ?_
  refine lv_iload_n C.x C.b dX7_weather_1 rfl (lv_at hl 1 rfl) ?_
  refine lv_sipush (v := (-400)) C.x C.b dX7_weather_2 (by decide) ?_
  refine lv_sipush (v := 400) C.x C.b dX7_weather_5 (by decide) ?_
  refine caSi (As := [.int p1, .int (-400), .int 400]) (rest := [.ref (ead E 15)]) C h (M_X7_in l D E _ ok p1 (-400) 400) cw_X7_77 m_st_X7_in rfl rfl ⟨Nat.le_of_ble_eq_true rfl, Nat.le_of_ble_eq_true rfl⟩ hl rfl (Nat.le_of_ble_eq_true rfl) dX7_weather_8 ⟨Nat.le_of_ble_eq_true rfl, Nat.le_of_ble_eq_true rfl⟩ (fun r u H locs w1 h => ?_)
  obtain ⟨rfl, rfl⟩ := w1
  refine lv_if_eq (tgt := 48) C.x C.b dX7_weather_11 (by decide) (fun c2 => ?_) (fun c2 => ?_)
  · skip
    refine lv_iconst (v := 1) C.x C.b dX7_weather_48 (by decide) ?_
    exact K_X7_weather_49 (y0 := 1) C ok h hr (lv_sub hl [0, 1, 2, 3, 4] rfl) (Eq.mp (congrArg (fun z => post z) (if_pos c2)) hp)
  · skip
    refine lv_iload_n C.x C.b dX7_weather_14 rfl (lv_at hl 2 rfl) ?_
    refine lv_iconst (v := 0) C.x C.b dX7_weather_15 (by decide) ?_
    refine lv_iconst (v := 3) C.x C.b dX7_weather_16 (by decide) ?_
    refine caSi (As := [.int p2, .int 0, .int 3]) (rest := [.ref (ead E 15)]) C h (M_X7_in l D E _ ok p2 0 3) cw_X7_77 m_st_X7_in rfl rfl ⟨Nat.le_of_ble_eq_true rfl, Nat.le_of_ble_eq_true rfl⟩ hl rfl (Nat.le_of_ble_eq_true rfl) dX7_weather_17 ⟨Nat.le_of_ble_eq_true rfl, Nat.le_of_ble_eq_true rfl⟩ (fun r u H locs w3 h => ?_)
    obtain ⟨rfl, rfl⟩ := w3
    refine lv_if_eq (tgt := 48) C.x C.b dX7_weather_20 (by decide) (fun c4 => ?_) (fun c4 => ?_)
    · skip
      refine lv_iconst (v := 1) C.x C.b dX7_weather_48 (by decide) ?_
      exact K_X7_weather_49 (y0 := 1) C ok h hr (lv_sub hl [0, 1, 2, 3, 4] rfl) (Eq.mp (congrArg (fun z => post z) ((if_neg c2).trans (if_pos c4))) hp)
    · skip
      refine lv_iload_n C.x C.b dX7_weather_23 rfl (lv_at hl 3 rfl) ?_
      refine lv_iconst (v := 0) C.x C.b dX7_weather_24 (by decide) ?_
      refine lv_bipush (v := 30) C.x C.b dX7_weather_25 (by decide) ?_
      refine caSi (As := [.int p3, .int 0, .int 30]) (rest := [.ref (ead E 15)]) C h (M_X7_in l D E _ ok p3 0 30) cw_X7_77 m_st_X7_in rfl rfl ⟨Nat.le_of_ble_eq_true rfl, Nat.le_of_ble_eq_true rfl⟩ hl rfl (Nat.le_of_ble_eq_true rfl) dX7_weather_27 ⟨Nat.le_of_ble_eq_true rfl, Nat.le_of_ble_eq_true rfl⟩ (fun r u H locs w5 h => ?_)
      obtain ⟨rfl, rfl⟩ := w5
      refine lv_if_eq (tgt := 48) C.x C.b dX7_weather_30 (by decide) (fun c6 => ?_) (fun c6 => ?_)
      · skip
        refine lv_iconst (v := 1) C.x C.b dX7_weather_48 (by decide) ?_
        exact K_X7_weather_49 (y0 := 1) C ok h hr (lv_sub hl [0, 1, 2, 3, 4] rfl) (Eq.mp (congrArg (fun z => post z) ((if_neg c2).trans ((if_neg c4).trans (if_pos c6)))) hp)
      · skip
        refine lv_iload C.x C.b dX7_weather_33 (lv_at hl 4 rfl) ?_
        refine lv_iconst (v := 0) C.x C.b dX7_weather_35 (by decide) ?_
        refine lv_bipush (v := 60) C.x C.b dX7_weather_36 (by decide) ?_
        refine caSi (As := [.int p4, .int 0, .int 60]) (rest := [.ref (ead E 15)]) C h (M_X7_in l D E _ ok p4 0 60) cw_X7_77 m_st_X7_in rfl rfl ⟨Nat.le_of_ble_eq_true rfl, Nat.le_of_ble_eq_true rfl⟩ hl rfl (Nat.le_of_ble_eq_true rfl) dX7_weather_38 ⟨Nat.le_of_ble_eq_true rfl, Nat.le_of_ble_eq_true rfl⟩ (fun r u H locs w7 h => ?_)
        obtain ⟨rfl, rfl⟩ := w7
        refine lv_if_eq (tgt := 48) C.x C.b dX7_weather_41 (by decide) (fun c8 => ?_) (fun c8 => ?_)
        · skip
          refine lv_iconst (v := 1) C.x C.b dX7_weather_48 (by decide) ?_
          exact K_X7_weather_49 (y0 := 1) C ok h hr (lv_sub hl [0, 1, 2, 3, 4] rfl) (Eq.mp (congrArg (fun z => post z) ((if_neg c2).trans ((if_neg c4).trans ((if_neg c6).trans (if_pos c8))))) hp)
        · skip
          refine lv_iconst (v := 0) C.x C.b dX7_weather_44 (by decide) ?_
          refine lv_goto (tgt := 49) C.x C.b dX7_weather_45 (by decide) ?_
          exact K_X7_weather_49 (y0 := 0) C ok h hr (lv_sub hl [0, 1, 2, 3, 4] rfl) (Eq.mp (congrArg (fun z => post z) ((if_neg c2).trans ((if_neg c4).trans ((if_neg c6).trans (if_neg c8))))) hp)
theorem M_X7_weather (l : Launch) (D : va_G) (E : En) (σ : St) (ok : OK E σ) (p1 : Int32) (p2 : Int32) (p3 : Int32) (p4 : Int32) : CO l yX7_weather cX7_weather 5 none rm_X7_weather [.ref (ead E 15), .int p1, .int p2, .int p3, .int p4] D E σ (fun A => va_Qv (fun u => (S_X7_weather σ p1 p2 p3 p4) = u) (POB D E A) A) 0 0 :=
  CO.of RX7 (by decide +kernel) rfl (Nat.le_of_ble_eq_true rfl) (fun p e s m below meth c A ls C h hr hl => K_X7_weather_0 C ok h hr hl rfl)
-- X7_spray spray(I)I
theorem cw_X7_96 : CWd RX7 96 yX7_isThird cX7_isThird 1 (some .boolean) 1 := ⟨m_ml_X7_96, m_co_X7_isThird, m_ini_X7, by decide +kernel, by decide +kernel⟩
abbrev rm_X7_spray : Room := { frames := 2, cells := 0, slots := 0, locals := 42 }
def S_X7_spray_13 (σ : St) (p1 : Int32) (y0 : Int32) : Int32 × St := if y0 ≤ 0 then (((σ 41 0) + 60), (up2 (up2 σ 40 0 y0) 48 p1.toNatClampNeg ((σ 41 0) + 60))) else (0, (up2 σ 40 0 y0))
set_option maxRecDepth 100000 in
set_option maxHeartbeats 4000000 in
theorem K_X7_spray_13 {p : Program} {l : Launch} {e : Env} {s : State} {m : MethodId} {args : Array Value} {below : List Frame} {meth : Method} {c : Code} {D : va_G} {E : En} {A : Nat → Prop} {post : Int32 → St → Prop} (C : CX p s m meth c cX7_spray RX7 2 D E A) {σ : St} (ok : OK E σ) {p1 : Int32} {y0 : Int32} (hq : y0 ≤ 0 → vp_in p1 3) {H : Heap} {locs : List Loc} (h : HW D E σ A s H locs) (hr : meth.sig.returnType = some .int) {ls : Array Slot} (hl : lv_has ls 2 [(0, .ref (ead E 15)), (1, .int p1)]) (hp : post (S_X7_spray_13 σ p1 y0).1 (S_X7_spray_13 σ p1 y0).2) : W p l e rm_X7_spray s m args below meth c H locs 0 0 (MQ below (va_Qi post (POB D E A) A) args s 0 0 A) (F0 m 13 ls [.int y0, .ref (ead E 15)]) := by
  refine p_X7_74 C h dX7_spray_13 (fun H locs h => ?_)
  refine lv_aload_n C.x C.b dX7_spray_16 rfl (lv_at hl 0 rfl) ?_
  refine g_X7_74 C h dX7_spray_17 ?_
  refine lv_if_le (tgt := 25) C.x C.b dX7_spray_20 (by decide) (fun c1 => ?_) (fun c1 => ?_)
  · skip
    have h1 : vp_in p1 3 := hq c1
    refine lv_aload_n C.x C.b dX7_spray_25 rfl (lv_at hl 0 rfl) ?_
    refine g_X7_16 C h dX7_spray_26 ?_
    refine lv_iload_n C.x C.b dX7_spray_29 rfl (lv_at hl 1 rfl) ?_
    refine lv_aload_n C.x C.b dX7_spray_30 rfl (lv_at hl 0 rfl) ?_
    refine g_X7_100 C h dX7_spray_31 ?_
    refine lv_bipush (v := 60) C.x C.b dX7_spray_34 (by decide) ?_
    refine lv_iadd C.x C.b dX7_spray_36 ?_
    refine as_18 C h h1 dX7_spray_37 (fun H locs h => ?_)
    refine lv_aload_n C.x C.b dX7_spray_38 rfl (lv_at hl 0 rfl) ?_
    refine g_X7_100 C h dX7_spray_39 ?_
    refine lv_bipush (v := 60) C.x C.b dX7_spray_42 (by decide) ?_
    refine lv_iadd C.x C.b dX7_spray_44 ?_
    exact rtI C h hr rfl dX7_spray_45 (Eq.mp (congrArg (fun z : Int32 × St => post z.1 z.2) (if_pos c1)) hp)
  · skip
    refine lv_iconst (v := 0) C.x C.b dX7_spray_23 (by decide) ?_
    exact rtI C h hr rfl dX7_spray_24 (Eq.mp (congrArg (fun z : Int32 × St => post z.1 z.2) (if_neg c1)) hp)
def S_X7_spray (σ : St) (p1 : Int32) : Int32 × St := if (S_X7_isThird p1) = 0 then S_X7_spray_13 σ p1 1 else S_X7_spray_13 σ p1 0
set_option maxRecDepth 100000 in
set_option maxHeartbeats 4000000 in
theorem K_X7_spray_0 {p : Program} {l : Launch} {e : Env} {s : State} {m : MethodId} {args : Array Value} {below : List Frame} {meth : Method} {c : Code} {D : va_G} {E : En} {A : Nat → Prop} {post : Int32 → St → Prop} (C : CX p s m meth c cX7_spray RX7 2 D E A) {σ : St} (ok : OK E σ) {p1 : Int32} {H : Heap} {locs : List Loc} (h : HW D E σ A s H locs) (hr : meth.sig.returnType = some .int) {ls : Array Slot} (hl : lv_has ls 2 [(0, .ref (ead E 15)), (1, .int p1)]) (hp : post (S_X7_spray σ p1).1 (S_X7_spray σ p1).2) : W p l e rm_X7_spray s m args below meth c H locs 0 0 (MQ below (va_Qi post (POB D E A) A) args s 0 0 A) (F0 m 0 ls []) := by
  refine lv_aload_n C.x C.b dX7_spray_0 rfl (lv_at hl 0 rfl) ?_
  refine lv_iload_n C.x C.b dX7_spray_1 rfl (lv_at hl 1 rfl) ?_
  refine caSi (As := [.int p1]) (rest := [.ref (ead E 15)]) C h (M_X7_isThird l D E _ ok p1) cw_X7_96 m_st_X7_isThird rfl rfl ⟨Nat.le_of_ble_eq_true rfl, Nat.le_of_ble_eq_true rfl⟩ hl rfl (Nat.le_of_ble_eq_true rfl) dX7_spray_2 ⟨Nat.le_of_ble_eq_true rfl, Nat.le_of_ble_eq_true rfl⟩ (fun r u H locs w1 h => ?_)
  obtain ⟨rfl, rfl⟩ := w1
  refine lv_if_eq (tgt := 12) C.x C.b dX7_spray_5 (by decide) (fun c2 => ?_) (fun c2 => ?_)
  · skip
    refine lv_iconst (v := 1) C.x C.b dX7_spray_12 (by decide) ?_
    exact K_X7_spray_13 (y0 := 1) C ok (by first | exact fun _ => in_02 c2 | exact fun q => absurd q (by decide)) h hr (lv_sub hl [0, 1] rfl) (Eq.mp (congrArg (fun z : Int32 × St => post z.1 z.2) (if_pos c2)) hp)
  · skip
    refine lv_iconst (v := 0) C.x C.b dX7_spray_8 (by decide) ?_
    refine lv_goto (tgt := 13) C.x C.b dX7_spray_9 (by decide) ?_
    exact K_X7_spray_13 (y0 := 0) C ok (by first | exact fun _ => in_02 c2 | exact fun q => absurd q (by decide)) h hr (lv_sub hl [0, 1] rfl) (Eq.mp (congrArg (fun z : Int32 × St => post z.1 z.2) (if_neg c2)) hp)
theorem M_X7_spray (l : Launch) (D : va_G) (E : En) (σ : St) (ok : OK E σ) (p1 : Int32) : CO l yX7_spray cX7_spray 2 (some .int) rm_X7_spray [.ref (ead E 15), .int p1] D E σ (fun A => va_Qi (fun r u => (S_X7_spray σ p1).1 = r ∧ (S_X7_spray σ p1).2 = u) (POB D E A) A) 0 0 :=
  CO.of RX7 (by decide +kernel) rfl (Nat.le_of_ble_eq_true rfl) (fun p e s m below meth c A ls C h hr hl => K_X7_spray_0 C ok h hr hl ⟨rfl, rfl⟩)
-- X7_close close(II)I
abbrev rm_X7_close : Room := { frames := 1, cells := 0, slots := 0, locals := 22 }
def S_X7_close_27 (σ : St) (p1 : Int32) (p2 : Int32) (y0 : Int32) : Int32 × St := if y0 ≤ 0 then (((σ 41 0) + p1), (up2 (up2 (up2 σ 40 0 y0) 51 0 ((σ 41 0) + p1)) 52 0 p2)) else (0, (up2 σ 40 0 y0))
set_option maxRecDepth 100000 in
set_option maxHeartbeats 4000000 in
theorem K_X7_close_27 {p : Program} {l : Launch} {e : Env} {s : State} {m : MethodId} {args : Array Value} {below : List Frame} {meth : Method} {c : Code} {D : va_G} {E : En} {A : Nat → Prop} {post : Int32 → St → Prop} (C : CX p s m meth c cX7_close RX7 3 D E A) {σ : St} (ok : OK E σ) {p1 : Int32} {p2 : Int32} {y0 : Int32} {H : Heap} {locs : List Loc} (h : HW D E σ A s H locs) (hr : meth.sig.returnType = some .int) {ls : Array Slot} (hl : lv_has ls 3 [(0, .ref (ead E 15)), (1, .int p1), (2, .int p2)]) (hp : post (S_X7_close_27 σ p1 p2 y0).1 (S_X7_close_27 σ p1 p2 y0).2) : W p l e rm_X7_close s m args below meth c H locs 0 0 (MQ below (va_Qi post (POB D E A) A) args s 0 0 A) (F0 m 27 ls [.int y0, .ref (ead E 15)]) := by
  refine p_X7_74 C h dX7_close_27 (fun H locs h => ?_)
  refine lv_aload_n C.x C.b dX7_close_30 rfl (lv_at hl 0 rfl) ?_
  refine g_X7_74 C h dX7_close_31 ?_
  refine lv_if_le (tgt := 39) C.x C.b dX7_close_34 (by decide) (fun c1 => ?_) (fun c1 => ?_)
  · skip
    refine lv_aload_n C.x C.b dX7_close_39 rfl (lv_at hl 0 rfl) ?_
    refine lv_aload_n C.x C.b dX7_close_40 rfl (lv_at hl 0 rfl) ?_
    refine g_X7_100 C h dX7_close_41 ?_
    refine lv_iload_n C.x C.b dX7_close_44 rfl (lv_at hl 1 rfl) ?_
    refine lv_iadd C.x C.b dX7_close_45 ?_
    refine p_X7_25 C h dX7_close_46 (fun H locs h => ?_)
    refine lv_aload_n C.x C.b dX7_close_49 rfl (lv_at hl 0 rfl) ?_
    refine lv_iload_n C.x C.b dX7_close_50 rfl (lv_at hl 2 rfl) ?_
    refine p_X7_103 C h dX7_close_51 (fun H locs h => ?_)
    refine lv_aload_n C.x C.b dX7_close_54 rfl (lv_at hl 0 rfl) ?_
    refine g_X7_25 C h dX7_close_55 ?_
    exact rtI C h hr rfl dX7_close_58 (Eq.mp (congrArg (fun z : Int32 × St => post z.1 z.2) (if_pos c1)) hp)
  · skip
    refine lv_iconst (v := 0) C.x C.b dX7_close_37 (by decide) ?_
    exact rtI C h hr rfl dX7_close_38 (Eq.mp (congrArg (fun z : Int32 × St => post z.1 z.2) (if_neg c1)) hp)
def S_X7_close (σ : St) (p1 : Int32) (p2 : Int32) : Int32 × St := if (S_X7_in p1 1 500) = 0 then S_X7_close_27 σ p1 p2 1 else if (S_X7_in p2 0 11) = 0 then S_X7_close_27 σ p1 p2 1 else S_X7_close_27 σ p1 p2 0
set_option maxRecDepth 100000 in
set_option maxHeartbeats 4000000 in
theorem K_X7_close_0 {p : Program} {l : Launch} {e : Env} {s : State} {m : MethodId} {args : Array Value} {below : List Frame} {meth : Method} {c : Code} {D : va_G} {E : En} {A : Nat → Prop} {post : Int32 → St → Prop} (C : CX p s m meth c cX7_close RX7 3 D E A) {σ : St} (ok : OK E σ) {p1 : Int32} {p2 : Int32} {H : Heap} {locs : List Loc} (h : HW D E σ A s H locs) (hr : meth.sig.returnType = some .int) {ls : Array Slot} (hl : lv_has ls 3 [(0, .ref (ead E 15)), (1, .int p1), (2, .int p2)]) (hp : post (S_X7_close σ p1 p2).1 (S_X7_close σ p1 p2).2) : W p l e rm_X7_close s m args below meth c H locs 0 0 (MQ below (va_Qi post (POB D E A) A) args s 0 0 A) (F0 m 0 ls []) := by
  refine lv_aload_n C.x C.b dX7_close_0 rfl (lv_at hl 0 rfl) ?_
  refine lv_iload_n C.x C.b dX7_close_1 rfl (lv_at hl 1 rfl) ?_
  refine lv_iconst (v := 1) C.x C.b dX7_close_2 (by decide) ?_
  refine lv_sipush (v := 500) C.x C.b dX7_close_3 (by decide) ?_
  refine caSi (As := [.int p1, .int 1, .int 500]) (rest := [.ref (ead E 15)]) C h (M_X7_in l D E _ ok p1 1 500) cw_X7_77 m_st_X7_in rfl rfl ⟨Nat.le_of_ble_eq_true rfl, Nat.le_of_ble_eq_true rfl⟩ hl rfl (Nat.le_of_ble_eq_true rfl) dX7_close_6 ⟨Nat.le_of_ble_eq_true rfl, Nat.le_of_ble_eq_true rfl⟩ (fun r u H locs w1 h => ?_)
  obtain ⟨rfl, rfl⟩ := w1
  refine lv_if_eq (tgt := 26) C.x C.b dX7_close_9 (by decide) (fun c2 => ?_) (fun c2 => ?_)
  · skip
    refine lv_iconst (v := 1) C.x C.b dX7_close_26 (by decide) ?_
    exact K_X7_close_27 (y0 := 1) C ok h hr (lv_sub hl [0, 1, 2] rfl) (Eq.mp (congrArg (fun z : Int32 × St => post z.1 z.2) (if_pos c2)) hp)
  · skip
    refine lv_iload_n C.x C.b dX7_close_12 rfl (lv_at hl 2 rfl) ?_
    refine lv_iconst (v := 0) C.x C.b dX7_close_13 (by decide) ?_
    refine lv_bipush (v := 11) C.x C.b dX7_close_14 (by decide) ?_
    refine caSi (As := [.int p2, .int 0, .int 11]) (rest := [.ref (ead E 15)]) C h (M_X7_in l D E _ ok p2 0 11) cw_X7_77 m_st_X7_in rfl rfl ⟨Nat.le_of_ble_eq_true rfl, Nat.le_of_ble_eq_true rfl⟩ hl rfl (Nat.le_of_ble_eq_true rfl) dX7_close_16 ⟨Nat.le_of_ble_eq_true rfl, Nat.le_of_ble_eq_true rfl⟩ (fun r u H locs w3 h => ?_)
    obtain ⟨rfl, rfl⟩ := w3
    refine lv_if_eq (tgt := 26) C.x C.b dX7_close_19 (by decide) (fun c4 => ?_) (fun c4 => ?_)
    · skip
      refine lv_iconst (v := 1) C.x C.b dX7_close_26 (by decide) ?_
      exact K_X7_close_27 (y0 := 1) C ok h hr (lv_sub hl [0, 1, 2] rfl) (Eq.mp (congrArg (fun z : Int32 × St => post z.1 z.2) ((if_neg c2).trans (if_pos c4))) hp)
    · skip
      refine lv_iconst (v := 0) C.x C.b dX7_close_22 (by decide) ?_
      refine lv_goto (tgt := 27) C.x C.b dX7_close_23 (by decide) ?_
      exact K_X7_close_27 (y0 := 0) C ok h hr (lv_sub hl [0, 1, 2] rfl) (Eq.mp (congrArg (fun z : Int32 × St => post z.1 z.2) ((if_neg c2).trans (if_neg c4))) hp)
theorem M_X7_close (l : Launch) (D : va_G) (E : En) (σ : St) (ok : OK E σ) (p1 : Int32) (p2 : Int32) : CO l yX7_close cX7_close 3 (some .int) rm_X7_close [.ref (ead E 15), .int p1, .int p2] D E σ (fun A => va_Qi (fun r u => (S_X7_close σ p1 p2).1 = r ∧ (S_X7_close σ p1 p2).2 = u) (POB D E A) A) 0 0 :=
  CO.of RX7 (by decide +kernel) rfl (Nat.le_of_ble_eq_true rfl) (fun p e s m below meth c A ls C h hr hl => K_X7_close_0 C ok h hr hl ⟨rfl, rfl⟩)
-- X7_pilot pilot(II)I
abbrev rm_X7_pilot : Room := { frames := 2, cells := 0, slots := 0, locals := 43 }
def S_X7_pilot_27 (σ : St) (p1 : Int32) (p2 : Int32) (y0 : Int32) : Int32 × St := if y0 ≤ 0 then ((S_X7_codeOf (up2 (up2 (up2 σ 40 0 y0) 49 p1.toNatClampNeg p2) 50 p1.toNatClampNeg (σ 41 0)) p1), (up2 (up2 (up2 σ 40 0 y0) 49 p1.toNatClampNeg p2) 50 p1.toNatClampNeg (σ 41 0))) else (0, (up2 σ 40 0 y0))
set_option maxRecDepth 100000 in
set_option maxHeartbeats 4000000 in
theorem K_X7_pilot_27 {p : Program} {l : Launch} {e : Env} {s : State} {m : MethodId} {args : Array Value} {below : List Frame} {meth : Method} {c : Code} {D : va_G} {E : En} {A : Nat → Prop} {post : Int32 → St → Prop} (C : CX p s m meth c cX7_pilot RX7 3 D E A) {σ : St} (ok : OK E σ) {p1 : Int32} {p2 : Int32} {y0 : Int32} (hq : y0 ≤ 0 → vp_in p1 3) {H : Heap} {locs : List Loc} (h : HW D E σ A s H locs) (hr : meth.sig.returnType = some .int) {ls : Array Slot} (hl : lv_has ls 3 [(0, .ref (ead E 15)), (1, .int p1), (2, .int p2)]) (hp : post (S_X7_pilot_27 σ p1 p2 y0).1 (S_X7_pilot_27 σ p1 p2 y0).2) : W p l e rm_X7_pilot s m args below meth c H locs 0 0 (MQ below (va_Qi post (POB D E A) A) args s 0 0 A) (F0 m 27 ls [.int y0, .ref (ead E 15)]) := by
  refine p_X7_74 C h dX7_pilot_27 (fun H locs h => ?_)
  refine lv_aload_n C.x C.b dX7_pilot_30 rfl (lv_at hl 0 rfl) ?_
  refine g_X7_74 C h dX7_pilot_31 ?_
  refine lv_if_le (tgt := 39) C.x C.b dX7_pilot_34 (by decide) (fun c1 => ?_) (fun c1 => ?_)
  · skip
    have h1 : vp_in p1 3 := hq c1
    refine lv_aload_n C.x C.b dX7_pilot_39 rfl (lv_at hl 0 rfl) ?_
    refine g_X7_19 C h dX7_pilot_40 ?_
    refine lv_iload_n C.x C.b dX7_pilot_43 rfl (lv_at hl 1 rfl) ?_
    refine lv_iload_n C.x C.b dX7_pilot_44 rfl (lv_at hl 2 rfl) ?_
    refine as_19 C h h1 dX7_pilot_45 (fun H locs h => ?_)
    refine lv_aload_n C.x C.b dX7_pilot_46 rfl (lv_at hl 0 rfl) ?_
    refine g_X7_22 C h dX7_pilot_47 ?_
    refine lv_iload_n C.x C.b dX7_pilot_50 rfl (lv_at hl 1 rfl) ?_
    refine lv_aload_n C.x C.b dX7_pilot_51 rfl (lv_at hl 0 rfl) ?_
    refine g_X7_100 C h dX7_pilot_52 ?_
    refine as_20 C h h1 dX7_pilot_55 (fun H locs h => ?_)
    refine lv_aload_n C.x C.b dX7_pilot_56 rfl (lv_at hl 0 rfl) ?_
    refine lv_iload_n C.x C.b dX7_pilot_57 rfl (lv_at hl 1 rfl) ?_
    refine caVi (As := [.int p1]) (rest := []) (q0 := 15) (ci := 7) C h (M_X7_codeOf l D E _ (((ok.up (by decide) _ _).up (by decide) _ _).up (by decide) _ _) p1 h1) cw_X7_110 m_im_X7_codeOf m_se_X7_codeOf rfl rfl ⟨Nat.le_of_ble_eq_true rfl, Nat.le_of_ble_eq_true rfl⟩ rfl rfl hl rfl (Nat.le_of_ble_eq_true rfl) dX7_pilot_58 ⟨Nat.le_of_ble_eq_true rfl, Nat.le_of_ble_eq_true rfl⟩ (fun r u H locs w2 h => ?_)
    obtain ⟨rfl, rfl⟩ := w2
    exact rtI C h hr rfl dX7_pilot_61 (Eq.mp (congrArg (fun z : Int32 × St => post z.1 z.2) (if_pos c1)) hp)
  · skip
    refine lv_iconst (v := 0) C.x C.b dX7_pilot_37 (by decide) ?_
    exact rtI C h hr rfl dX7_pilot_38 (Eq.mp (congrArg (fun z : Int32 × St => post z.1 z.2) (if_neg c1)) hp)
def S_X7_pilot (σ : St) (p1 : Int32) (p2 : Int32) : Int32 × St := if (S_X7_isThird p1) = 0 then S_X7_pilot_27 σ p1 p2 1 else if (S_X7_in p2 0 6) = 0 then S_X7_pilot_27 σ p1 p2 2 else S_X7_pilot_27 σ p1 p2 0
set_option maxRecDepth 100000 in
set_option maxHeartbeats 4000000 in
theorem K_X7_pilot_0 {p : Program} {l : Launch} {e : Env} {s : State} {m : MethodId} {args : Array Value} {below : List Frame} {meth : Method} {c : Code} {D : va_G} {E : En} {A : Nat → Prop} {post : Int32 → St → Prop} (C : CX p s m meth c cX7_pilot RX7 3 D E A) {σ : St} (ok : OK E σ) {p1 : Int32} {p2 : Int32} {H : Heap} {locs : List Loc} (h : HW D E σ A s H locs) (hr : meth.sig.returnType = some .int) {ls : Array Slot} (hl : lv_has ls 3 [(0, .ref (ead E 15)), (1, .int p1), (2, .int p2)]) (hp : post (S_X7_pilot σ p1 p2).1 (S_X7_pilot σ p1 p2).2) : W p l e rm_X7_pilot s m args below meth c H locs 0 0 (MQ below (va_Qi post (POB D E A) A) args s 0 0 A) (F0 m 0 ls []) := by
  refine lv_aload_n C.x C.b dX7_pilot_0 rfl (lv_at hl 0 rfl) ?_
  refine lv_iload_n C.x C.b dX7_pilot_1 rfl (lv_at hl 1 rfl) ?_
  refine caSi (As := [.int p1]) (rest := [.ref (ead E 15)]) C h (M_X7_isThird l D E _ ok p1) cw_X7_96 m_st_X7_isThird rfl rfl ⟨Nat.le_of_ble_eq_true rfl, Nat.le_of_ble_eq_true rfl⟩ hl rfl (Nat.le_of_ble_eq_true rfl) dX7_pilot_2 ⟨Nat.le_of_ble_eq_true rfl, Nat.le_of_ble_eq_true rfl⟩ (fun r u H locs w1 h => ?_)
  obtain ⟨rfl, rfl⟩ := w1
  refine lv_if_ne (tgt := 12) C.x C.b dX7_pilot_5 (by decide) (fun c2 => ?_) (fun c2 => ?_)
  · skip
    refine lv_iload_n C.x C.b dX7_pilot_12 rfl (lv_at hl 2 rfl) ?_
    refine lv_iconst (v := 0) C.x C.b dX7_pilot_13 (by decide) ?_
    refine lv_bipush (v := 6) C.x C.b dX7_pilot_14 (by decide) ?_
    refine caSi (As := [.int p2, .int 0, .int 6]) (rest := [.ref (ead E 15)]) C h (M_X7_in l D E _ ok p2 0 6) cw_X7_77 m_st_X7_in rfl rfl ⟨Nat.le_of_ble_eq_true rfl, Nat.le_of_ble_eq_true rfl⟩ hl rfl (Nat.le_of_ble_eq_true rfl) dX7_pilot_16 ⟨Nat.le_of_ble_eq_true rfl, Nat.le_of_ble_eq_true rfl⟩ (fun r u H locs w3 h => ?_)
    obtain ⟨rfl, rfl⟩ := w3
    refine lv_if_eq (tgt := 26) C.x C.b dX7_pilot_19 (by decide) (fun c4 => ?_) (fun c4 => ?_)
    · skip
      refine lv_iconst (v := 2) C.x C.b dX7_pilot_26 (by decide) ?_
      exact K_X7_pilot_27 (y0 := 2) C ok (by first | exact fun _ => in_02 c2 | exact fun q => absurd q (by decide)) h hr (lv_sub hl [0, 1, 2] rfl) (Eq.mp (congrArg (fun z : Int32 × St => post z.1 z.2) ((if_neg c2).trans (if_pos c4))) hp)
    · skip
      refine lv_iconst (v := 0) C.x C.b dX7_pilot_22 (by decide) ?_
      refine lv_goto (tgt := 27) C.x C.b dX7_pilot_23 (by decide) ?_
      exact K_X7_pilot_27 (y0 := 0) C ok (by first | exact fun _ => in_02 c2 | exact fun q => absurd q (by decide)) h hr (lv_sub hl [0, 1, 2] rfl) (Eq.mp (congrArg (fun z : Int32 × St => post z.1 z.2) ((if_neg c2).trans (if_neg c4))) hp)
  · skip
    refine lv_iconst (v := 1) C.x C.b dX7_pilot_8 (by decide) ?_
    refine lv_goto (tgt := 27) C.x C.b dX7_pilot_9 (by decide) ?_
    exact K_X7_pilot_27 (y0 := 1) C ok (by first | exact fun _ => in_02 c2 | exact fun q => absurd q (by decide)) h hr (lv_sub hl [0, 1, 2] rfl) (Eq.mp (congrArg (fun z : Int32 × St => post z.1 z.2) (if_pos c2)) hp)
theorem M_X7_pilot (l : Launch) (D : va_G) (E : En) (σ : St) (ok : OK E σ) (p1 : Int32) (p2 : Int32) : CO l yX7_pilot cX7_pilot 3 (some .int) rm_X7_pilot [.ref (ead E 15), .int p1, .int p2] D E σ (fun A => va_Qi (fun r u => (S_X7_pilot σ p1 p2).1 = r ∧ (S_X7_pilot σ p1 p2).2 = u) (POB D E A) A) 0 0 :=
  CO.of RX7 (by decide +kernel) rfl (Nat.le_of_ble_eq_true rfl) (fun p e s m below meth c A ls C h hr hl => K_X7_pilot_0 C ok h hr hl ⟨rfl, rfl⟩)
-- X7_supply supply(II)I
theorem cw_X7_113 : CWd RX7 113 yX7_isFluid cX7_isFluid 1 (some .boolean) 1 := ⟨m_ml_X7_113, m_co_X7_isFluid, m_ini_X7, by decide +kernel, by decide +kernel⟩
abbrev rm_X7_supply : Room := { frames := 2, cells := 0, slots := 0, locals := 42 }
def S_X7_supply_45 (σ : St) (p1 : Int32) (p2 : Int32) (y0 : Int32) : Int32 × St := if y0 ≤ 0 then (((σ 53 p1.toNatClampNeg) + p2), (up2 (up2 (up2 σ 40 0 y0) 53 p1.toNatClampNeg ((σ 53 p1.toNatClampNeg) + p2)) 68 0 ((σ 68 0) + p2))) else (0, (up2 σ 40 0 y0))
set_option maxRecDepth 100000 in
set_option maxHeartbeats 4000000 in
theorem K_X7_supply_45 {p : Program} {l : Launch} {e : Env} {s : State} {m : MethodId} {args : Array Value} {below : List Frame} {meth : Method} {c : Code} {D : va_G} {E : En} {A : Nat → Prop} {post : Int32 → St → Prop} (C : CX p s m meth c cX7_supply RX7 3 D E A) {σ : St} (ok : OK E σ) {p1 : Int32} {p2 : Int32} {y0 : Int32} (hq : y0 ≤ 0 → vp_in p1 3) {H : Heap} {locs : List Loc} (h : HW D E σ A s H locs) (hr : meth.sig.returnType = some .int) {ls : Array Slot} (hl : lv_has ls 3 [(0, .ref (ead E 15)), (1, .int p1), (2, .int p2)]) (hp : post (S_X7_supply_45 σ p1 p2 y0).1 (S_X7_supply_45 σ p1 p2 y0).2) : W p l e rm_X7_supply s m args below meth c H locs 0 0 (MQ below (va_Qi post (POB D E A) A) args s 0 0 A) (F0 m 45 ls [.int y0, .ref (ead E 15)]) := by
  refine p_X7_74 C h dX7_supply_45 (fun H locs h => ?_)
  refine lv_aload_n C.x C.b dX7_supply_48 rfl (lv_at hl 0 rfl) ?_
  refine g_X7_74 C h dX7_supply_49 ?_
  refine lv_if_le (tgt := 57) C.x C.b dX7_supply_52 (by decide) (fun c1 => ?_) (fun c1 => ?_)
  · skip
    have h1 : vp_in p1 3 := hq c1
    refine lv_aload_n C.x C.b dX7_supply_57 rfl (lv_at hl 0 rfl) ?_
    refine g_X7_29 C h dX7_supply_58 ?_
    refine lv_iload_n C.x C.b dX7_supply_61 rfl (lv_at hl 1 rfl) ?_
    refine lv_dup2_11 C.x C.b dX7_supply_62 rfl rfl ?_
    refine al_21 C h h1 dX7_supply_63 ?_
    refine lv_iload_n C.x C.b dX7_supply_64 rfl (lv_at hl 2 rfl) ?_
    refine lv_iadd C.x C.b dX7_supply_65 ?_
    refine as_21 C h h1 dX7_supply_66 (fun H locs h => ?_)
    refine lv_aload_n C.x C.b dX7_supply_67 rfl (lv_at hl 0 rfl) ?_
    refine lv_dup C.x C.b dX7_supply_68 rfl ?_
    refine g_X7_117 C h dX7_supply_69 ?_
    refine lv_iload_n C.x C.b dX7_supply_72 rfl (lv_at hl 2 rfl) ?_
    refine lv_iadd C.x C.b dX7_supply_73 ?_
    refine p_X7_117 C h dX7_supply_74 (fun H locs h => ?_)
    refine lv_aload_n C.x C.b dX7_supply_77 rfl (lv_at hl 0 rfl) ?_
    refine g_X7_29 C h dX7_supply_78 ?_
    refine lv_iload_n C.x C.b dX7_supply_81 rfl (lv_at hl 1 rfl) ?_
    refine al_21 C h h1 dX7_supply_82 ?_
    refine top_eq (up2_s (up2 σ 40 0 y0) 53 p1.toNatClampNeg ((σ 53 p1.toNatClampNeg) + p2)) ?_
    exact rtI C h hr rfl dX7_supply_83 (Eq.mp (congrArg (fun z : Int32 × St => post z.1 z.2) (if_pos c1)) hp)
  · skip
    refine lv_iconst (v := 0) C.x C.b dX7_supply_55 (by decide) ?_
    exact rtI C h hr rfl dX7_supply_56 (Eq.mp (congrArg (fun z : Int32 × St => post z.1 z.2) (if_neg c1)) hp)
def S_X7_supply (σ : St) (p1 : Int32) (p2 : Int32) : Int32 × St := if (S_X7_isFluid p1) = 0 then S_X7_supply_45 σ p1 p2 1 else if (S_X7_in p2 1 10000) = 0 then S_X7_supply_45 σ p1 p2 2 else if ((σ 53 p1.toNatClampNeg) + p2) ≤ 100000 then S_X7_supply_45 σ p1 p2 0 else S_X7_supply_45 σ p1 p2 3
set_option maxRecDepth 100000 in
set_option maxHeartbeats 4000000 in
theorem K_X7_supply_0 {p : Program} {l : Launch} {e : Env} {s : State} {m : MethodId} {args : Array Value} {below : List Frame} {meth : Method} {c : Code} {D : va_G} {E : En} {A : Nat → Prop} {post : Int32 → St → Prop} (C : CX p s m meth c cX7_supply RX7 3 D E A) {σ : St} (ok : OK E σ) {p1 : Int32} {p2 : Int32} {H : Heap} {locs : List Loc} (h : HW D E σ A s H locs) (hr : meth.sig.returnType = some .int) {ls : Array Slot} (hl : lv_has ls 3 [(0, .ref (ead E 15)), (1, .int p1), (2, .int p2)]) (hp : post (S_X7_supply σ p1 p2).1 (S_X7_supply σ p1 p2).2) : W p l e rm_X7_supply s m args below meth c H locs 0 0 (MQ below (va_Qi post (POB D E A) A) args s 0 0 A) (F0 m 0 ls []) := by
  refine lv_aload_n C.x C.b dX7_supply_0 rfl (lv_at hl 0 rfl) ?_
  refine lv_iload_n C.x C.b dX7_supply_1 rfl (lv_at hl 1 rfl) ?_
  refine caSi (As := [.int p1]) (rest := [.ref (ead E 15)]) C h (M_X7_isFluid l D E _ ok p1) cw_X7_113 m_st_X7_isFluid rfl rfl ⟨Nat.le_of_ble_eq_true rfl, Nat.le_of_ble_eq_true rfl⟩ hl rfl (Nat.le_of_ble_eq_true rfl) dX7_supply_2 ⟨Nat.le_of_ble_eq_true rfl, Nat.le_of_ble_eq_true rfl⟩ (fun r u H locs w1 h => ?_)
  obtain ⟨rfl, rfl⟩ := w1
  refine lv_if_ne (tgt := 12) C.x C.b dX7_supply_5 (by decide) (fun c2 => ?_) (fun c2 => ?_)
  · skip
    have h1 : vp_in p1 3 := in_02 c2
    refine lv_iload_n C.x C.b dX7_supply_12 rfl (lv_at hl 2 rfl) ?_
    refine lv_iconst (v := 1) C.x C.b dX7_supply_13 (by decide) ?_
    refine lv_sipush (v := 10000) C.x C.b dX7_supply_14 (by decide) ?_
    refine caSi (As := [.int p2, .int 1, .int 10000]) (rest := [.ref (ead E 15)]) C h (M_X7_in l D E _ ok p2 1 10000) cw_X7_77 m_st_X7_in rfl rfl ⟨Nat.le_of_ble_eq_true rfl, Nat.le_of_ble_eq_true rfl⟩ hl rfl (Nat.le_of_ble_eq_true rfl) dX7_supply_17 ⟨Nat.le_of_ble_eq_true rfl, Nat.le_of_ble_eq_true rfl⟩ (fun r u H locs w3 h => ?_)
    obtain ⟨rfl, rfl⟩ := w3
    refine lv_if_ne (tgt := 27) C.x C.b dX7_supply_20 (by decide) (fun c4 => ?_) (fun c4 => ?_)
    · skip
      refine lv_aload_n C.x C.b dX7_supply_27 rfl (lv_at hl 0 rfl) ?_
      refine g_X7_29 C h dX7_supply_28 ?_
      refine lv_iload_n C.x C.b dX7_supply_31 rfl (lv_at hl 1 rfl) ?_
      refine al_21 C h h1 dX7_supply_32 ?_
      refine lv_iload_n C.x C.b dX7_supply_33 rfl (lv_at hl 2 rfl) ?_
      refine lv_iadd C.x C.b dX7_supply_34 ?_
      refine lv_ldc C.x C.b C.ow (C.w _ m_ld_X7_116) dX7_supply_35 ?_
      refine lv_icmp_le (tgt := 44) C.x C.b dX7_supply_37 (by decide) (fun c5 => ?_) (fun c5 => ?_)
      · skip
        refine lv_iconst (v := 0) C.x C.b dX7_supply_44 (by decide) ?_
        exact K_X7_supply_45 (y0 := 0) C ok (by first | exact fun _ => in_02 c2 | exact fun q => absurd q (by decide)) h hr (lv_sub hl [0, 1, 2] rfl) (Eq.mp (congrArg (fun z : Int32 × St => post z.1 z.2) ((if_neg c2).trans ((if_neg c4).trans (if_pos c5)))) hp)
      · skip
        refine lv_iconst (v := 3) C.x C.b dX7_supply_40 (by decide) ?_
        refine lv_goto (tgt := 45) C.x C.b dX7_supply_41 (by decide) ?_
        exact K_X7_supply_45 (y0 := 3) C ok (by first | exact fun _ => in_02 c2 | exact fun q => absurd q (by decide)) h hr (lv_sub hl [0, 1, 2] rfl) (Eq.mp (congrArg (fun z : Int32 × St => post z.1 z.2) ((if_neg c2).trans ((if_neg c4).trans (if_neg c5)))) hp)
    · skip
      refine lv_iconst (v := 2) C.x C.b dX7_supply_23 (by decide) ?_
      refine lv_goto (tgt := 45) C.x C.b dX7_supply_24 (by decide) ?_
      exact K_X7_supply_45 (y0 := 2) C ok (by first | exact fun _ => in_02 c2 | exact fun q => absurd q (by decide)) h hr (lv_sub hl [0, 1, 2] rfl) (Eq.mp (congrArg (fun z : Int32 × St => post z.1 z.2) ((if_neg c2).trans (if_pos c4))) hp)
  · skip
    refine lv_iconst (v := 1) C.x C.b dX7_supply_8 (by decide) ?_
    refine lv_goto (tgt := 45) C.x C.b dX7_supply_9 (by decide) ?_
    exact K_X7_supply_45 (y0 := 1) C ok (by first | exact fun _ => in_02 c2 | exact fun q => absurd q (by decide)) h hr (lv_sub hl [0, 1, 2] rfl) (Eq.mp (congrArg (fun z : Int32 × St => post z.1 z.2) (if_pos c2)) hp)
theorem M_X7_supply (l : Launch) (D : va_G) (E : En) (σ : St) (ok : OK E σ) (p1 : Int32) (p2 : Int32) : CO l yX7_supply cX7_supply 3 (some .int) rm_X7_supply [.ref (ead E 15), .int p1, .int p2] D E σ (fun A => va_Qi (fun r u => (S_X7_supply σ p1 p2).1 = r ∧ (S_X7_supply σ p1 p2).2 = u) (POB D E A) A) 0 0 :=
  CO.of RX7 (by decide +kernel) rfl (Nat.le_of_ble_eq_true rfl) (fun p e s m below meth c A ls C h hr hl => K_X7_supply_0 C ok h hr hl ⟨rfl, rfl⟩)
-- X7_table table(III)I
abbrev rm_X7_table : Room := { frames := 2, cells := 0, slots := 0, locals := 42 }
def S_X7_table_37 (σ : St) (p1 : Int32) (p2 : Int32) (p3 : Int32) (y0 : Int32) : Int32 × St := if y0 ≤ 0 then ((σ 54 (((4 * p1) + p2).toNatClampNeg)), (up2 (up2 σ 40 0 y0) 54 (((4 * p1) + p2).toNatClampNeg) p3)) else (0, (up2 σ 40 0 y0))
set_option maxRecDepth 100000 in
set_option maxHeartbeats 4000000 in
theorem K_X7_table_37 {p : Program} {l : Launch} {e : Env} {s : State} {m : MethodId} {args : Array Value} {below : List Frame} {meth : Method} {c : Code} {D : va_G} {E : En} {A : Nat → Prop} {post : Int32 → St → Prop} (C : CX p s m meth c cX7_table RX7 5 D E A) {σ : St} (ok : OK E σ) {p1 : Int32} {p2 : Int32} {p3 : Int32} {y0 : Int32} (hq : y0 ≤ 0 → vp_in p1 3 ∧ vp_in p2 4) {H : Heap} {locs : List Loc} (h : HW D E σ A s H locs) (hr : meth.sig.returnType = some .int) {ls : Array Slot} (hl : lv_has ls 5 [(0, .ref (ead E 15)), (1, .int p1), (2, .int p2), (3, .int p3)]) (hp : post (S_X7_table_37 σ p1 p2 p3 y0).1 (S_X7_table_37 σ p1 p2 p3 y0).2) : W p l e rm_X7_table s m args below meth c H locs 0 0 (MQ below (va_Qi post (POB D E A) A) args s 0 0 A) (F0 m 37 ls [.int y0, .ref (ead E 15)]) := by
  refine p_X7_74 C h dX7_table_37 (fun H locs h => ?_)
  refine lv_aload_n C.x C.b dX7_table_40 rfl (lv_at hl 0 rfl) ?_
  refine g_X7_74 C h dX7_table_41 ?_
  refine lv_if_le (tgt := 49) C.x C.b dX7_table_44 (by decide) (fun c1 => ?_) (fun c1 => ?_)
  · skip
    obtain ⟨h1, h2⟩ := hq c1
    refine lv_aload_n C.x C.b dX7_table_49 rfl (lv_at hl 0 rfl) ?_
    refine g_X7_32 C h dX7_table_50 ?_
    refine lv_iconst (v := 4) C.x C.b dX7_table_53 (by decide) ?_
    refine lv_iload_n C.x C.b dX7_table_54 rfl (lv_at hl 1 rfl) ?_
    refine lv_imul C.x C.b dX7_table_55 ?_
    refine lv_iload_n C.x C.b dX7_table_56 rfl (lv_at hl 2 rfl) ?_
    refine lv_iadd C.x C.b dX7_table_57 ?_
    refine al_22 C h (tb_in h1 h2) dX7_table_58 ?_
    refine lv_istore (lv' := [(4, .int (σ 54 (((4 * p1) + p2).toNatClampNeg))), (0, .ref (ead E 15)), (1, .int p1), (2, .int p2), (3, .int p3)]) C.x C.b dX7_table_59 hl (by decide) rfl (fun ls hl => ?_)
    refine lv_aload_n C.x C.b dX7_table_61 rfl (lv_at hl 1 rfl) ?_
    refine g_X7_32 C h dX7_table_62 ?_
    refine lv_iconst (v := 4) C.x C.b dX7_table_65 (by decide) ?_
    refine lv_iload_n C.x C.b dX7_table_66 rfl (lv_at hl 2 rfl) ?_
    refine lv_imul C.x C.b dX7_table_67 ?_
    refine lv_iload_n C.x C.b dX7_table_68 rfl (lv_at hl 3 rfl) ?_
    refine lv_iadd C.x C.b dX7_table_69 ?_
    refine lv_iload_n C.x C.b dX7_table_70 rfl (lv_at hl 4 rfl) ?_
    refine as_22 C h (tb_in h1 h2) dX7_table_71 (fun H locs h => ?_)
    refine lv_iload C.x C.b dX7_table_72 (lv_at hl 0 rfl) ?_
    exact rtI C h hr rfl dX7_table_74 (Eq.mp (congrArg (fun z : Int32 × St => post z.1 z.2) (if_pos c1)) hp)
  · skip
    refine lv_iconst (v := 0) C.x C.b dX7_table_47 (by decide) ?_
    exact rtI C h hr rfl dX7_table_48 (Eq.mp (congrArg (fun z : Int32 × St => post z.1 z.2) (if_neg c1)) hp)
def S_X7_table (σ : St) (p1 : Int32) (p2 : Int32) (p3 : Int32) : Int32 × St := if (S_X7_isFluid p1) = 0 then S_X7_table_37 σ p1 p2 p3 1 else if (S_X7_in p2 1 3) = 0 then S_X7_table_37 σ p1 p2 p3 2 else if (S_X7_in p3 1 1000) = 0 then S_X7_table_37 σ p1 p2 p3 2 else S_X7_table_37 σ p1 p2 p3 0
set_option maxRecDepth 100000 in
set_option maxHeartbeats 4000000 in
theorem K_X7_table_0 {p : Program} {l : Launch} {e : Env} {s : State} {m : MethodId} {args : Array Value} {below : List Frame} {meth : Method} {c : Code} {D : va_G} {E : En} {A : Nat → Prop} {post : Int32 → St → Prop} (C : CX p s m meth c cX7_table RX7 5 D E A) {σ : St} (ok : OK E σ) {p1 : Int32} {p2 : Int32} {p3 : Int32} {H : Heap} {locs : List Loc} (h : HW D E σ A s H locs) (hr : meth.sig.returnType = some .int) {ls : Array Slot} (hl : lv_has ls 5 [(0, .ref (ead E 15)), (1, .int p1), (2, .int p2), (3, .int p3)]) (hp : post (S_X7_table σ p1 p2 p3).1 (S_X7_table σ p1 p2 p3).2) : W p l e rm_X7_table s m args below meth c H locs 0 0 (MQ below (va_Qi post (POB D E A) A) args s 0 0 A) (F0 m 0 ls []) := by
  refine lv_aload_n C.x C.b dX7_table_0 rfl (lv_at hl 0 rfl) ?_
  refine lv_iload_n C.x C.b dX7_table_1 rfl (lv_at hl 1 rfl) ?_
  refine caSi (As := [.int p1]) (rest := [.ref (ead E 15)]) C h (M_X7_isFluid l D E _ ok p1) cw_X7_113 m_st_X7_isFluid rfl rfl ⟨Nat.le_of_ble_eq_true rfl, Nat.le_of_ble_eq_true rfl⟩ hl rfl (Nat.le_of_ble_eq_true rfl) dX7_table_2 ⟨Nat.le_of_ble_eq_true rfl, Nat.le_of_ble_eq_true rfl⟩ (fun r u H locs w1 h => ?_)
  obtain ⟨rfl, rfl⟩ := w1
  refine lv_if_ne (tgt := 12) C.x C.b dX7_table_5 (by decide) (fun c2 => ?_) (fun c2 => ?_)
  · skip
    refine lv_iload_n C.x C.b dX7_table_12 rfl (lv_at hl 2 rfl) ?_
    refine lv_iconst (v := 1) C.x C.b dX7_table_13 (by decide) ?_
    refine lv_iconst (v := 3) C.x C.b dX7_table_14 (by decide) ?_
    refine caSi (As := [.int p2, .int 1, .int 3]) (rest := [.ref (ead E 15)]) C h (M_X7_in l D E _ ok p2 1 3) cw_X7_77 m_st_X7_in rfl rfl ⟨Nat.le_of_ble_eq_true rfl, Nat.le_of_ble_eq_true rfl⟩ hl rfl (Nat.le_of_ble_eq_true rfl) dX7_table_15 ⟨Nat.le_of_ble_eq_true rfl, Nat.le_of_ble_eq_true rfl⟩ (fun r u H locs w3 h => ?_)
    obtain ⟨rfl, rfl⟩ := w3
    refine lv_if_eq (tgt := 36) C.x C.b dX7_table_18 (by decide) (fun c4 => ?_) (fun c4 => ?_)
    · skip
      refine lv_iconst (v := 2) C.x C.b dX7_table_36 (by decide) ?_
      exact K_X7_table_37 (y0 := 2) C ok (by first | exact fun _ => ⟨in_02 c2, in_13 c4⟩ | exact fun q => absurd q (by decide)) h hr (lv_sub hl [0, 1, 2, 3] rfl) (Eq.mp (congrArg (fun z : Int32 × St => post z.1 z.2) ((if_neg c2).trans (if_pos c4))) hp)
    · skip
      refine lv_iload_n C.x C.b dX7_table_21 rfl (lv_at hl 3 rfl) ?_
      refine lv_iconst (v := 1) C.x C.b dX7_table_22 (by decide) ?_
      refine lv_sipush (v := 1000) C.x C.b dX7_table_23 (by decide) ?_
      refine caSi (As := [.int p3, .int 1, .int 1000]) (rest := [.ref (ead E 15)]) C h (M_X7_in l D E _ ok p3 1 1000) cw_X7_77 m_st_X7_in rfl rfl ⟨Nat.le_of_ble_eq_true rfl, Nat.le_of_ble_eq_true rfl⟩ hl rfl (Nat.le_of_ble_eq_true rfl) dX7_table_26 ⟨Nat.le_of_ble_eq_true rfl, Nat.le_of_ble_eq_true rfl⟩ (fun r u H locs w5 h => ?_)
      obtain ⟨rfl, rfl⟩ := w5
      refine lv_if_eq (tgt := 36) C.x C.b dX7_table_29 (by decide) (fun c6 => ?_) (fun c6 => ?_)
      · skip
        refine lv_iconst (v := 2) C.x C.b dX7_table_36 (by decide) ?_
        exact K_X7_table_37 (y0 := 2) C ok (by first | exact fun _ => ⟨in_02 c2, in_13 c4⟩ | exact fun q => absurd q (by decide)) h hr (lv_sub hl [0, 1, 2, 3] rfl) (Eq.mp (congrArg (fun z : Int32 × St => post z.1 z.2) ((if_neg c2).trans ((if_neg c4).trans (if_pos c6)))) hp)
      · skip
        refine lv_iconst (v := 0) C.x C.b dX7_table_32 (by decide) ?_
        refine lv_goto (tgt := 37) C.x C.b dX7_table_33 (by decide) ?_
        exact K_X7_table_37 (y0 := 0) C ok (by first | exact fun _ => ⟨in_02 c2, in_13 c4⟩ | exact fun q => absurd q (by decide)) h hr (lv_sub hl [0, 1, 2, 3] rfl) (Eq.mp (congrArg (fun z : Int32 × St => post z.1 z.2) ((if_neg c2).trans ((if_neg c4).trans (if_neg c6)))) hp)
  · skip
    refine lv_iconst (v := 1) C.x C.b dX7_table_8 (by decide) ?_
    refine lv_goto (tgt := 37) C.x C.b dX7_table_9 (by decide) ?_
    exact K_X7_table_37 (y0 := 1) C ok (by first | exact fun q => absurd q (by decide)) h hr (lv_sub hl [0, 1, 2, 3] rfl) (Eq.mp (congrArg (fun z : Int32 × St => post z.1 z.2) (if_pos c2)) hp)
theorem M_X7_table (l : Launch) (D : va_G) (E : En) (σ : St) (ok : OK E σ) (p1 : Int32) (p2 : Int32) (p3 : Int32) : CO l yX7_table cX7_table 5 (some .int) rm_X7_table [.ref (ead E 15), .int p1, .int p2, .int p3] D E σ (fun A => va_Qi (fun r u => (S_X7_table σ p1 p2 p3).1 = r ∧ (S_X7_table σ p1 p2 p3).2 = u) (POB D E A) A) 0 0 :=
  CO.of RX7 (by decide +kernel) rfl (Nat.le_of_ble_eq_true rfl) (fun p e s m below meth c A ls C h hr hl => K_X7_table_0 C ok h hr hl ⟨rfl, rfl⟩)
-- X7_aircraft aircraft(III)I
abbrev rm_X7_aircraft : Room := { frames := 1, cells := 0, slots := 0, locals := 22 }
def S_X7_aircraft_52 (σ : St) (p1 : Int32) (p2 : Int32) (p3 : Int32) (y0 : Int32) : Int32 × St := if y0 ≤ 0 then ((((σ 55 0) + 1) - 1), (up2 (up2 (up2 (up2 (up2 (up2 (up2 σ 40 0 y0) 56 ((σ 55 0).toNatClampNeg) p1) 57 ((σ 55 0).toNatClampNeg) ((σ 41 0) + p2)) 58 ((σ 55 0).toNatClampNeg) ((σ 41 0) + p3)) 60 ((σ 55 0).toNatClampNeg) (-1)) 63 ((σ 55 0).toNatClampNeg) (-1)) 55 0 ((σ 55 0) + 1))) else (0, (up2 σ 40 0 y0))
set_option maxRecDepth 100000 in
set_option maxHeartbeats 4000000 in
theorem K_X7_aircraft_52 {p : Program} {l : Launch} {e : Env} {s : State} {m : MethodId} {args : Array Value} {below : List Frame} {meth : Method} {c : Code} {D : va_G} {E : En} {A : Nat → Prop} {post : Int32 → St → Prop} (C : CX p s m meth c cX7_aircraft RX7 4 D E A) {σ : St} (ok : OK E σ) {p1 : Int32} {p2 : Int32} {p3 : Int32} {y0 : Int32} (hq : y0 ≤ 0 → vp_in (σ 55 0) 20) {H : Heap} {locs : List Loc} (h : HW D E σ A s H locs) (hr : meth.sig.returnType = some .int) {ls : Array Slot} (hl : lv_has ls 4 [(0, .ref (ead E 15)), (1, .int p1), (2, .int p2), (3, .int p3)]) (hp : post (S_X7_aircraft_52 σ p1 p2 p3 y0).1 (S_X7_aircraft_52 σ p1 p2 p3 y0).2) : W p l e rm_X7_aircraft s m args below meth c H locs 0 0 (MQ below (va_Qi post (POB D E A) A) args s 0 0 A) (F0 m 52 ls [.int y0, .ref (ead E 15)]) := by
  refine p_X7_74 C h dX7_aircraft_52 (fun H locs h => ?_)
  refine lv_aload_n C.x C.b dX7_aircraft_55 rfl (lv_at hl 0 rfl) ?_
  refine g_X7_74 C h dX7_aircraft_56 ?_
  refine lv_if_le (tgt := 64) C.x C.b dX7_aircraft_59 (by decide) (fun c1 => ?_) (fun c1 => ?_)
  · skip
    have h1 : vp_in (σ 55 0) 20 := hq c1
    refine lv_aload_n C.x C.b dX7_aircraft_64 rfl (lv_at hl 0 rfl) ?_
    refine g_X7_35 C h dX7_aircraft_65 ?_
    refine lv_aload_n C.x C.b dX7_aircraft_68 rfl (lv_at hl 0 rfl) ?_
    refine g_X7_81 C h dX7_aircraft_69 ?_
    refine lv_iload_n C.x C.b dX7_aircraft_72 rfl (lv_at hl 1 rfl) ?_
    refine as_23 C h h1 dX7_aircraft_73 (fun H locs h => ?_)
    refine lv_aload_n C.x C.b dX7_aircraft_74 rfl (lv_at hl 0 rfl) ?_
    refine g_X7_38 C h dX7_aircraft_75 ?_
    refine lv_aload_n C.x C.b dX7_aircraft_78 rfl (lv_at hl 0 rfl) ?_
    refine g_X7_81 C h dX7_aircraft_79 ?_
    refine lv_aload_n C.x C.b dX7_aircraft_82 rfl (lv_at hl 0 rfl) ?_
    refine g_X7_100 C h dX7_aircraft_83 ?_
    refine lv_iload_n C.x C.b dX7_aircraft_86 rfl (lv_at hl 2 rfl) ?_
    refine lv_iadd C.x C.b dX7_aircraft_87 ?_
    refine as_24 C h h1 dX7_aircraft_88 (fun H locs h => ?_)
    refine lv_aload_n C.x C.b dX7_aircraft_89 rfl (lv_at hl 0 rfl) ?_
    refine g_X7_41 C h dX7_aircraft_90 ?_
    refine lv_aload_n C.x C.b dX7_aircraft_93 rfl (lv_at hl 0 rfl) ?_
    refine g_X7_81 C h dX7_aircraft_94 ?_
    refine lv_aload_n C.x C.b dX7_aircraft_97 rfl (lv_at hl 0 rfl) ?_
    refine g_X7_100 C h dX7_aircraft_98 ?_
    refine lv_iload_n C.x C.b dX7_aircraft_101 rfl (lv_at hl 3 rfl) ?_
    refine lv_iadd C.x C.b dX7_aircraft_102 ?_
    refine as_25 C h h1 dX7_aircraft_103 (fun H locs h => ?_)
    refine lv_aload_n C.x C.b dX7_aircraft_104 rfl (lv_at hl 0 rfl) ?_
    refine g_X7_47 C h dX7_aircraft_105 ?_
    refine lv_aload_n C.x C.b dX7_aircraft_108 rfl (lv_at hl 0 rfl) ?_
    refine g_X7_81 C h dX7_aircraft_109 ?_
    refine lv_iconst (v := (-1)) C.x C.b dX7_aircraft_112 (by decide) ?_
    refine as_27 C h h1 dX7_aircraft_113 (fun H locs h => ?_)
    refine lv_aload_n C.x C.b dX7_aircraft_114 rfl (lv_at hl 0 rfl) ?_
    refine g_X7_56 C h dX7_aircraft_115 ?_
    refine lv_aload_n C.x C.b dX7_aircraft_118 rfl (lv_at hl 0 rfl) ?_
    refine g_X7_81 C h dX7_aircraft_119 ?_
    refine lv_iconst (v := (-1)) C.x C.b dX7_aircraft_122 (by decide) ?_
    refine as_30 C h h1 dX7_aircraft_123 (fun H locs h => ?_)
    refine lv_aload_n C.x C.b dX7_aircraft_124 rfl (lv_at hl 0 rfl) ?_
    refine lv_dup C.x C.b dX7_aircraft_125 rfl ?_
    refine g_X7_81 C h dX7_aircraft_126 ?_
    refine lv_iconst (v := 1) C.x C.b dX7_aircraft_129 (by decide) ?_
    refine lv_iadd C.x C.b dX7_aircraft_130 ?_
    refine p_X7_81 C h dX7_aircraft_131 (fun H locs h => ?_)
    refine lv_aload_n C.x C.b dX7_aircraft_134 rfl (lv_at hl 0 rfl) ?_
    refine g_X7_81 C h dX7_aircraft_135 ?_
    refine lv_iconst (v := 1) C.x C.b dX7_aircraft_138 (by decide) ?_
    refine lv_isub C.x C.b dX7_aircraft_139 ?_
    exact rtI C h hr rfl dX7_aircraft_140 (Eq.mp (congrArg (fun z : Int32 × St => post z.1 z.2) (if_pos c1)) hp)
  · skip
    refine lv_iconst (v := 0) C.x C.b dX7_aircraft_62 (by decide) ?_
    exact rtI C h hr rfl dX7_aircraft_63 (Eq.mp (congrArg (fun z : Int32 × St => post z.1 z.2) (if_neg c1)) hp)
def S_X7_aircraft (σ : St) (p1 : Int32) (p2 : Int32) (p3 : Int32) : Int32 × St := if (S_X7_in p1 10 80) = 0 then S_X7_aircraft_52 σ p1 p2 p3 1 else if (S_X7_in p2 0 2000) = 0 then S_X7_aircraft_52 σ p1 p2 p3 1 else if (S_X7_in p3 0 2000) = 0 then S_X7_aircraft_52 σ p1 p2 p3 1 else if (σ 55 0) = 20 then S_X7_aircraft_52 σ p1 p2 p3 2 else S_X7_aircraft_52 σ p1 p2 p3 0
set_option maxRecDepth 100000 in
set_option maxHeartbeats 4000000 in
theorem K_X7_aircraft_0 {p : Program} {l : Launch} {e : Env} {s : State} {m : MethodId} {args : Array Value} {below : List Frame} {meth : Method} {c : Code} {D : va_G} {E : En} {A : Nat → Prop} {post : Int32 → St → Prop} (C : CX p s m meth c cX7_aircraft RX7 4 D E A) {σ : St} (ok : OK E σ) {p1 : Int32} {p2 : Int32} {p3 : Int32} {H : Heap} {locs : List Loc} (h : HW D E σ A s H locs) (hr : meth.sig.returnType = some .int) {ls : Array Slot} (hl : lv_has ls 4 [(0, .ref (ead E 15)), (1, .int p1), (2, .int p2), (3, .int p3)]) (hp : post (S_X7_aircraft σ p1 p2 p3).1 (S_X7_aircraft σ p1 p2 p3).2) : W p l e rm_X7_aircraft s m args below meth c H locs 0 0 (MQ below (va_Qi post (POB D E A) A) args s 0 0 A) (F0 m 0 ls []) := by
  refine lv_aload_n C.x C.b dX7_aircraft_0 rfl (lv_at hl 0 rfl) ?_
  refine lv_iload_n C.x C.b dX7_aircraft_1 rfl (lv_at hl 1 rfl) ?_
  refine lv_bipush (v := 10) C.x C.b dX7_aircraft_2 (by decide) ?_
  refine lv_bipush (v := 80) C.x C.b dX7_aircraft_4 (by decide) ?_
  refine caSi (As := [.int p1, .int 10, .int 80]) (rest := [.ref (ead E 15)]) C h (M_X7_in l D E _ ok p1 10 80) cw_X7_77 m_st_X7_in rfl rfl ⟨Nat.le_of_ble_eq_true rfl, Nat.le_of_ble_eq_true rfl⟩ hl rfl (Nat.le_of_ble_eq_true rfl) dX7_aircraft_6 ⟨Nat.le_of_ble_eq_true rfl, Nat.le_of_ble_eq_true rfl⟩ (fun r u H locs w1 h => ?_)
  obtain ⟨rfl, rfl⟩ := w1
  refine lv_if_eq (tgt := 34) C.x C.b dX7_aircraft_9 (by decide) (fun c2 => ?_) (fun c2 => ?_)
  · skip
    refine lv_iconst (v := 1) C.x C.b dX7_aircraft_34 (by decide) ?_
    refine lv_goto (tgt := 52) C.x C.b dX7_aircraft_35 (by decide) ?_
    exact K_X7_aircraft_52 (y0 := 1) C ok (by first | exact fun q => absurd q (by decide)) h hr (lv_sub hl [0, 1, 2, 3] rfl) (Eq.mp (congrArg (fun z : Int32 × St => post z.1 z.2) (if_pos c2)) hp)
  · skip
    refine lv_iload_n C.x C.b dX7_aircraft_12 rfl (lv_at hl 2 rfl) ?_
    refine lv_iconst (v := 0) C.x C.b dX7_aircraft_13 (by decide) ?_
    refine lv_sipush (v := 2000) C.x C.b dX7_aircraft_14 (by decide) ?_
    refine caSi (As := [.int p2, .int 0, .int 2000]) (rest := [.ref (ead E 15)]) C h (M_X7_in l D E _ ok p2 0 2000) cw_X7_77 m_st_X7_in rfl rfl ⟨Nat.le_of_ble_eq_true rfl, Nat.le_of_ble_eq_true rfl⟩ hl rfl (Nat.le_of_ble_eq_true rfl) dX7_aircraft_17 ⟨Nat.le_of_ble_eq_true rfl, Nat.le_of_ble_eq_true rfl⟩ (fun r u H locs w3 h => ?_)
    obtain ⟨rfl, rfl⟩ := w3
    refine lv_if_eq (tgt := 34) C.x C.b dX7_aircraft_20 (by decide) (fun c4 => ?_) (fun c4 => ?_)
    · skip
      refine lv_iconst (v := 1) C.x C.b dX7_aircraft_34 (by decide) ?_
      refine lv_goto (tgt := 52) C.x C.b dX7_aircraft_35 (by decide) ?_
      exact K_X7_aircraft_52 (y0 := 1) C ok (by first | exact fun q => absurd q (by decide)) h hr (lv_sub hl [0, 1, 2, 3] rfl) (Eq.mp (congrArg (fun z : Int32 × St => post z.1 z.2) ((if_neg c2).trans (if_pos c4))) hp)
    · skip
      refine lv_iload_n C.x C.b dX7_aircraft_23 rfl (lv_at hl 3 rfl) ?_
      refine lv_iconst (v := 0) C.x C.b dX7_aircraft_24 (by decide) ?_
      refine lv_sipush (v := 2000) C.x C.b dX7_aircraft_25 (by decide) ?_
      refine caSi (As := [.int p3, .int 0, .int 2000]) (rest := [.ref (ead E 15)]) C h (M_X7_in l D E _ ok p3 0 2000) cw_X7_77 m_st_X7_in rfl rfl ⟨Nat.le_of_ble_eq_true rfl, Nat.le_of_ble_eq_true rfl⟩ hl rfl (Nat.le_of_ble_eq_true rfl) dX7_aircraft_28 ⟨Nat.le_of_ble_eq_true rfl, Nat.le_of_ble_eq_true rfl⟩ (fun r u H locs w5 h => ?_)
      obtain ⟨rfl, rfl⟩ := w5
      refine lv_if_ne (tgt := 38) C.x C.b dX7_aircraft_31 (by decide) (fun c6 => ?_) (fun c6 => ?_)
      · skip
        refine lv_aload_n C.x C.b dX7_aircraft_38 rfl (lv_at hl 0 rfl) ?_
        refine g_X7_81 C h dX7_aircraft_39 ?_
        refine lv_bipush (v := 20) C.x C.b dX7_aircraft_42 (by decide) ?_
        refine lv_icmp_ne (tgt := 51) C.x C.b dX7_aircraft_44 (by decide) (fun c7 => ?_) (fun c7 => ?_)
        · skip
          refine lv_iconst (v := 0) C.x C.b dX7_aircraft_51 (by decide) ?_
          exact K_X7_aircraft_52 (y0 := 0) C ok (by first | exact fun _ => many_in ok c7 | exact fun q => absurd q (by decide)) h hr (lv_sub hl [0, 1, 2, 3] rfl) (Eq.mp (congrArg (fun z : Int32 × St => post z.1 z.2) ((if_neg c2).trans ((if_neg c4).trans ((if_neg c6).trans (if_neg c7))))) hp)
        · skip
          refine lv_iconst (v := 2) C.x C.b dX7_aircraft_47 (by decide) ?_
          refine lv_goto (tgt := 52) C.x C.b dX7_aircraft_48 (by decide) ?_
          exact K_X7_aircraft_52 (y0 := 2) C ok (by first | exact fun _ => many_in ok c7 | exact fun q => absurd q (by decide)) h hr (lv_sub hl [0, 1, 2, 3] rfl) (Eq.mp (congrArg (fun z : Int32 × St => post z.1 z.2) ((if_neg c2).trans ((if_neg c4).trans ((if_neg c6).trans (if_pos c7))))) hp)
      · skip
        refine lv_iconst (v := 1) C.x C.b dX7_aircraft_34 (by decide) ?_
        refine lv_goto (tgt := 52) C.x C.b dX7_aircraft_35 (by decide) ?_
        exact K_X7_aircraft_52 (y0 := 1) C ok (by first | exact fun q => absurd q (by decide)) h hr (lv_sub hl [0, 1, 2, 3] rfl) (Eq.mp (congrArg (fun z : Int32 × St => post z.1 z.2) ((if_neg c2).trans ((if_neg c4).trans (if_pos c6)))) hp)
theorem M_X7_aircraft (l : Launch) (D : va_G) (E : En) (σ : St) (ok : OK E σ) (p1 : Int32) (p2 : Int32) (p3 : Int32) : CO l yX7_aircraft cX7_aircraft 4 (some .int) rm_X7_aircraft [.ref (ead E 15), .int p1, .int p2, .int p3] D E σ (fun A => va_Qi (fun r u => (S_X7_aircraft σ p1 p2 p3).1 = r ∧ (S_X7_aircraft σ p1 p2 p3).2 = u) (POB D E A) A) 0 0 :=
  CO.of RX7 (by decide +kernel) rfl (Nat.le_of_ble_eq_true rfl) (fun p e s m below meth c A ls C h hr hl => K_X7_aircraft_0 C ok h hr hl ⟨rfl, rfl⟩)
-- X7_treat treat(IIIII)I
theorem cw_X7_120 : CWd RX7 120 yX7_isAircraft cX7_isAircraft 2 (some .boolean) 1 := ⟨m_ml_X7_120, m_co_X7_isAircraft, m_ini_X7, by decide +kernel, by decide +kernel⟩
theorem cw_X7_123 : CWd RX7 123 yX7_isFree cX7_isFree 4 (some .boolean) 1 := ⟨m_ml_X7_123, m_co_X7_isFree, m_ini_X7, by decide +kernel, by decide +kernel⟩
abbrev rm_X7_treat : Room := { frames := 2, cells := 0, slots := 0, locals := 43 }
def S_X7_treat_152 (σ : St) (p1 : Int32) (p2 : Int32) (p3 : Int32) (p4 : Int32) (p5 : Int32) (y0 : Int32) : Int32 × St := if y0 ≤ 0 then ((((σ 41 0) + 2) + (p4 / 100)), (up2 (up2 (up2 (up2 (up2 (up2 (up2 (up2 (up2 (up2 (up2 σ 40 0 y0) 59 p1.toNatClampNeg 1) 63 p1.toNatClampNeg p2) 64 p1.toNatClampNeg (((σ 41 0) + 2) + (p4 / 100))) 65 p1.toNatClampNeg (σ 41 0)) 66 p1.toNatClampNeg p3) 67 p1.toNatClampNeg p5) 61 p1.toNatClampNeg ((σ 61 p1.toNatClampNeg) + 1)) 53 p3.toNatClampNeg ((σ 53 p3.toNatClampNeg) - p4)) 62 p1.toNatClampNeg ((σ 62 p1.toNatClampNeg) + ((p4 * 20) / 100))) 69 0 ((σ 69 0) + (p4 - ((p4 * 20) / 100))))) else (0, (up2 σ 40 0 y0))
set_option maxRecDepth 100000 in
set_option maxHeartbeats 4000000 in
theorem K_X7_treat_152 {p : Program} {l : Launch} {e : Env} {s : State} {m : MethodId} {args : Array Value} {below : List Frame} {meth : Method} {c : Code} {D : va_G} {E : En} {A : Nat → Prop} {post : Int32 → St → Prop} (C : CX p s m meth c cX7_treat RX7 7 D E A) {σ : St} (ok : OK E σ) {p1 : Int32} {p2 : Int32} {p3 : Int32} {p4 : Int32} {p5 : Int32} {y0 : Int32} (hF : vp_in p1 20 ∧ vp_in p2 3 ∧ vp_in p3 3) {H : Heap} {locs : List Loc} (h : HW D E σ A s H locs) (hr : meth.sig.returnType = some .int) {ls : Array Slot} (hl : lv_has ls 7 [(0, .ref (ead E 15)), (1, .int p1), (2, .int p2), (3, .int p3), (4, .int p4), (5, .int p5)]) (hp : post (S_X7_treat_152 σ p1 p2 p3 p4 p5 y0).1 (S_X7_treat_152 σ p1 p2 p3 p4 p5 y0).2) : W p l e rm_X7_treat s m args below meth c H locs 0 0 (MQ below (va_Qi post (POB D E A) A) args s 0 0 A) (F0 m 152 ls [.int y0, .ref (ead E 15)]) := by
  refine p_X7_74 C h dX7_treat_152 (fun H locs h => ?_)
  refine lv_aload_n C.x C.b dX7_treat_155 rfl (lv_at hl 0 rfl) ?_
  refine g_X7_74 C h dX7_treat_156 ?_
  refine lv_if_le (tgt := 164) C.x C.b dX7_treat_159 (by decide) (fun c1 => ?_) (fun c1 => ?_)
  · skip
    refine lv_aload_n C.x C.b dX7_treat_164 rfl (lv_at hl 0 rfl) ?_
    refine g_X7_44 C h dX7_treat_165 ?_
    refine lv_iload_n C.x C.b dX7_treat_168 rfl (lv_at hl 1 rfl) ?_
    refine lv_iconst (v := 1) C.x C.b dX7_treat_169 (by decide) ?_
    refine as_26 C h hF.1 dX7_treat_170 (fun H locs h => ?_)
    refine lv_aload_n C.x C.b dX7_treat_171 rfl (lv_at hl 0 rfl) ?_
    refine g_X7_56 C h dX7_treat_172 ?_
    refine lv_iload_n C.x C.b dX7_treat_175 rfl (lv_at hl 1 rfl) ?_
    refine lv_iload_n C.x C.b dX7_treat_176 rfl (lv_at hl 2 rfl) ?_
    refine as_30 C h hF.1 dX7_treat_177 (fun H locs h => ?_)
    refine lv_aload_n C.x C.b dX7_treat_178 rfl (lv_at hl 0 rfl) ?_
    refine g_X7_59 C h dX7_treat_179 ?_
    refine lv_iload_n C.x C.b dX7_treat_182 rfl (lv_at hl 1 rfl) ?_
    refine lv_aload_n C.x C.b dX7_treat_183 rfl (lv_at hl 0 rfl) ?_
    refine g_X7_100 C h dX7_treat_184 ?_
    refine lv_iconst (v := 2) C.x C.b dX7_treat_187 (by decide) ?_
    refine lv_iadd C.x C.b dX7_treat_188 ?_
    refine lv_iload C.x C.b dX7_treat_189 (lv_at hl 4 rfl) ?_
    refine lv_bipush (v := 100) C.x C.b dX7_treat_191 (by decide) ?_
    refine lv_idiv C.x C.b dX7_treat_193 (by decide) ?_
    refine lv_iadd C.x C.b dX7_treat_194 ?_
    refine as_31 C h hF.1 dX7_treat_195 (fun H locs h => ?_)
    refine lv_aload_n C.x C.b dX7_treat_196 rfl (lv_at hl 0 rfl) ?_
    refine g_X7_62 C h dX7_treat_197 ?_
    refine lv_iload_n C.x C.b dX7_treat_200 rfl (lv_at hl 1 rfl) ?_
    refine lv_aload_n C.x C.b dX7_treat_201 rfl (lv_at hl 0 rfl) ?_
    refine g_X7_100 C h dX7_treat_202 ?_
    refine as_32 C h hF.1 dX7_treat_205 (fun H locs h => ?_)
    refine lv_aload_n C.x C.b dX7_treat_206 rfl (lv_at hl 0 rfl) ?_
    refine g_X7_65 C h dX7_treat_207 ?_
    refine lv_iload_n C.x C.b dX7_treat_210 rfl (lv_at hl 1 rfl) ?_
    refine lv_iload_n C.x C.b dX7_treat_211 rfl (lv_at hl 3 rfl) ?_
    refine as_33 C h hF.1 dX7_treat_212 (fun H locs h => ?_)
    refine lv_aload_n C.x C.b dX7_treat_213 rfl (lv_at hl 0 rfl) ?_
    refine g_X7_68 C h dX7_treat_214 ?_
    refine lv_iload_n C.x C.b dX7_treat_217 rfl (lv_at hl 1 rfl) ?_
    refine lv_iload C.x C.b dX7_treat_218 (lv_at hl 5 rfl) ?_
    refine as_34 C h hF.1 dX7_treat_220 (fun H locs h => ?_)
    refine lv_aload_n C.x C.b dX7_treat_221 rfl (lv_at hl 0 rfl) ?_
    refine g_X7_50 C h dX7_treat_222 ?_
    refine lv_iload_n C.x C.b dX7_treat_225 rfl (lv_at hl 1 rfl) ?_
    refine lv_dup2_11 C.x C.b dX7_treat_226 rfl rfl ?_
    refine al_28 C h hF.1 dX7_treat_227 ?_
    refine lv_iconst (v := 1) C.x C.b dX7_treat_228 (by decide) ?_
    refine lv_iadd C.x C.b dX7_treat_229 ?_
    refine as_28 C h hF.1 dX7_treat_230 (fun H locs h => ?_)
    refine lv_aload_n C.x C.b dX7_treat_231 rfl (lv_at hl 0 rfl) ?_
    refine g_X7_29 C h dX7_treat_232 ?_
    refine lv_iload_n C.x C.b dX7_treat_235 rfl (lv_at hl 3 rfl) ?_
    refine lv_dup2_11 C.x C.b dX7_treat_236 rfl rfl ?_
    refine al_21 C h hF.2.2 dX7_treat_237 ?_
    refine lv_iload C.x C.b dX7_treat_238 (lv_at hl 4 rfl) ?_
    refine lv_isub C.x C.b dX7_treat_240 ?_
    refine as_21 C h hF.2.2 dX7_treat_241 (fun H locs h => ?_)
    refine lv_aload_n C.x C.b dX7_treat_242 rfl (lv_at hl 0 rfl) ?_
    refine g_X7_53 C h dX7_treat_243 ?_
    refine lv_iload_n C.x C.b dX7_treat_246 rfl (lv_at hl 1 rfl) ?_
    refine lv_dup2_11 C.x C.b dX7_treat_247 rfl rfl ?_
    refine al_29 C h hF.1 dX7_treat_248 ?_
    refine lv_iload C.x C.b dX7_treat_249 (lv_at hl 4 rfl) ?_
    refine lv_bipush (v := 20) C.x C.b dX7_treat_251 (by decide) ?_
    refine lv_imul C.x C.b dX7_treat_253 ?_
    refine lv_bipush (v := 100) C.x C.b dX7_treat_254 (by decide) ?_
    refine lv_idiv C.x C.b dX7_treat_256 (by decide) ?_
    refine lv_iadd C.x C.b dX7_treat_257 ?_
    refine as_29 C h hF.1 dX7_treat_258 (fun H locs h => ?_)
    refine lv_aload_n C.x C.b dX7_treat_259 rfl (lv_at hl 0 rfl) ?_
    refine lv_dup C.x C.b dX7_treat_260 rfl ?_
    refine g_X7_126 C h dX7_treat_261 ?_
    refine lv_iload C.x C.b dX7_treat_264 (lv_at hl 4 rfl) ?_
    refine lv_iload C.x C.b dX7_treat_266 (lv_at hl 4 rfl) ?_
    refine lv_bipush (v := 20) C.x C.b dX7_treat_268 (by decide) ?_
    refine lv_imul C.x C.b dX7_treat_270 ?_
    refine lv_bipush (v := 100) C.x C.b dX7_treat_271 (by decide) ?_
    refine lv_idiv C.x C.b dX7_treat_273 (by decide) ?_
    refine lv_isub C.x C.b dX7_treat_274 ?_
    refine lv_iadd C.x C.b dX7_treat_275 ?_
    refine p_X7_126 C h dX7_treat_276 (fun H locs h => ?_)
    refine lv_aload_n C.x C.b dX7_treat_279 rfl (lv_at hl 0 rfl) ?_
    refine g_X7_59 C h dX7_treat_280 ?_
    refine lv_iload_n C.x C.b dX7_treat_283 rfl (lv_at hl 1 rfl) ?_
    refine al_31 C h hF.1 dX7_treat_284 ?_
    refine top_eq (up2_s (up2 (up2 (up2 σ 40 0 y0) 59 p1.toNatClampNeg 1) 63 p1.toNatClampNeg p2) 64 p1.toNatClampNeg (((σ 41 0) + 2) + (p4 / 100))) ?_
    exact rtI C h hr rfl dX7_treat_285 (Eq.mp (congrArg (fun z : Int32 × St => post z.1 z.2) (if_pos c1)) hp)
  · skip
    refine lv_iconst (v := 0) C.x C.b dX7_treat_162 (by decide) ?_
    exact rtI C h hr rfl dX7_treat_163 (Eq.mp (congrArg (fun z : Int32 × St => post z.1 z.2) (if_neg c1)) hp)
def S_X7_treat_139 (σ : St) (p1 : Int32) (p2 : Int32) (p3 : Int32) (p4 : Int32) (p5 : Int32) (y0 : Int32) : Int32 × St := if y0 = 0 then S_X7_treat_152 σ p1 p2 p3 p4 p5 3 else S_X7_treat_152 σ p1 p2 p3 p4 p5 0
set_option maxRecDepth 100000 in
set_option maxHeartbeats 4000000 in
theorem K_X7_treat_139 {p : Program} {l : Launch} {e : Env} {s : State} {m : MethodId} {args : Array Value} {below : List Frame} {meth : Method} {c : Code} {D : va_G} {E : En} {A : Nat → Prop} {post : Int32 → St → Prop} (C : CX p s m meth c cX7_treat RX7 7 D E A) {σ : St} (ok : OK E σ) {p1 : Int32} {p2 : Int32} {p3 : Int32} {p4 : Int32} {p5 : Int32} {y0 : Int32} (hF : vp_in p1 20 ∧ vp_in p2 3 ∧ vp_in p3 3) {H : Heap} {locs : List Loc} (h : HW D E σ A s H locs) (hr : meth.sig.returnType = some .int) {ls : Array Slot} (hl : lv_has ls 7 [(0, .ref (ead E 15)), (1, .int p1), (2, .int p2), (3, .int p3), (4, .int p4), (5, .int p5)]) (hp : post (S_X7_treat_139 σ p1 p2 p3 p4 p5 y0).1 (S_X7_treat_139 σ p1 p2 p3 p4 p5 y0).2) : W p l e rm_X7_treat s m args below meth c H locs 0 0 (MQ below (va_Qi post (POB D E A) A) args s 0 0 A) (F0 m 139 ls [.int y0]) := by
  refine lv_istore (lv' := [(6, .int y0), (0, .ref (ead E 15)), (1, .int p1), (2, .int p2), (3, .int p3), (4, .int p4), (5, .int p5)]) C.x C.b dX7_treat_139 hl (by decide) rfl (fun ls hl => ?_)
  refine lv_aload_n C.x C.b dX7_treat_141 rfl (lv_at hl 1 rfl) ?_
  refine lv_iload C.x C.b dX7_treat_142 (lv_at hl 0 rfl) ?_
  refine lv_if_eq (tgt := 151) C.x C.b dX7_treat_144 (by decide) (fun c1 => ?_) (fun c1 => ?_)
  · skip
    refine lv_iconst (v := 3) C.x C.b dX7_treat_151 (by decide) ?_
    exact K_X7_treat_152 (y0 := 3) C ok hF h hr (lv_sub hl [1, 2, 3, 4, 5, 6] rfl) (Eq.mp (congrArg (fun z : Int32 × St => post z.1 z.2) (if_pos c1)) hp)
  · skip
    refine lv_iconst (v := 0) C.x C.b dX7_treat_147 (by decide) ?_
    refine lv_goto (tgt := 152) C.x C.b dX7_treat_148 (by decide) ?_
    exact K_X7_treat_152 (y0 := 0) C ok hF h hr (lv_sub hl [1, 2, 3, 4, 5, 6] rfl) (Eq.mp (congrArg (fun z : Int32 × St => post z.1 z.2) (if_neg c1)) hp)
def S_X7_treat_68 (σ : St) (p1 : Int32) (p2 : Int32) (p3 : Int32) (p4 : Int32) (p5 : Int32) (y0 : Int32) : Int32 × St := if y0 ≤ 0 then (if (σ 59 p1.toNatClampNeg) = 0 then (if (S_X7_isFree (up2 σ 40 0 y0) p2) = 0 then S_X7_treat_139 (up2 σ 40 0 y0) p1 p2 p3 p4 p5 0 else if (40 + (20 * p2)) < (σ 56 p1.toNatClampNeg) then S_X7_treat_139 (up2 σ 40 0 y0) p1 p2 p3 p4 p5 0 else if (σ 53 p3.toNatClampNeg) < p4 then S_X7_treat_139 (up2 σ 40 0 y0) p1 p2 p3 p4 p5 0 else S_X7_treat_139 (up2 σ 40 0 y0) p1 p2 p3 p4 p5 1) else if (σ 59 p1.toNatClampNeg) = 2 then (if (S_X7_isFree (up2 σ 40 0 y0) p2) = 0 then S_X7_treat_139 (up2 σ 40 0 y0) p1 p2 p3 p4 p5 0 else if (40 + (20 * p2)) < (σ 56 p1.toNatClampNeg) then S_X7_treat_139 (up2 σ 40 0 y0) p1 p2 p3 p4 p5 0 else if (σ 53 p3.toNatClampNeg) < p4 then S_X7_treat_139 (up2 σ 40 0 y0) p1 p2 p3 p4 p5 0 else S_X7_treat_139 (up2 σ 40 0 y0) p1 p2 p3 p4 p5 1) else S_X7_treat_139 (up2 σ 40 0 y0) p1 p2 p3 p4 p5 0) else (0, (up2 σ 40 0 y0))
set_option maxRecDepth 100000 in
set_option maxHeartbeats 4000000 in
theorem K_X7_treat_68 {p : Program} {l : Launch} {e : Env} {s : State} {m : MethodId} {args : Array Value} {below : List Frame} {meth : Method} {c : Code} {D : va_G} {E : En} {A : Nat → Prop} {post : Int32 → St → Prop} (C : CX p s m meth c cX7_treat RX7 7 D E A) {σ : St} (ok : OK E σ) {p1 : Int32} {p2 : Int32} {p3 : Int32} {p4 : Int32} {p5 : Int32} {y0 : Int32} (hq : y0 ≤ 0 → vp_in p1 20 ∧ vp_in p2 3 ∧ vp_in p3 3) {H : Heap} {locs : List Loc} (h : HW D E σ A s H locs) (hr : meth.sig.returnType = some .int) {ls : Array Slot} (hl : lv_has ls 7 [(0, .ref (ead E 15)), (1, .int p1), (2, .int p2), (3, .int p3), (4, .int p4), (5, .int p5)]) (hp : post (S_X7_treat_68 σ p1 p2 p3 p4 p5 y0).1 (S_X7_treat_68 σ p1 p2 p3 p4 p5 y0).2) : W p l e rm_X7_treat s m args below meth c H locs 0 0 (MQ below (va_Qi post (POB D E A) A) args s 0 0 A) (F0 m 68 ls [.int y0, .ref (ead E 15)]) := by
  refine p_X7_74 C h dX7_treat_68 (fun H locs h => ?_)
  refine lv_aload_n C.x C.b dX7_treat_71 rfl (lv_at hl 0 rfl) ?_
  refine g_X7_74 C h dX7_treat_72 ?_
  refine lv_if_le (tgt := 80) C.x C.b dX7_treat_75 (by decide) (fun c1 => ?_) (fun c1 => ?_)
  · skip
    have hF := hq c1
    refine lv_aload_n C.x C.b dX7_treat_80 rfl (lv_at hl 0 rfl) ?_
    refine g_X7_44 C h dX7_treat_81 ?_
    refine lv_iload_n C.x C.b dX7_treat_84 rfl (lv_at hl 1 rfl) ?_
    refine al_26 C h hF.1 dX7_treat_85 ?_
    refine lv_if_eq (tgt := 99) C.x C.b dX7_treat_86 (by decide) (fun c2 => ?_) (fun c2 => ?_)
    · skip
      refine lv_aload_n C.x C.b dX7_treat_99 rfl (lv_at hl 0 rfl) ?_
      refine lv_iload_n C.x C.b dX7_treat_100 rfl (lv_at hl 2 rfl) ?_
      refine caVi (As := [.int p2]) (rest := []) (q0 := 15) (ci := 7) C h (M_X7_isFree l D E _ (ok.up (by decide) _ _) p2) cw_X7_123 m_im_X7_isFree m_se_X7_isFree rfl rfl ⟨Nat.le_of_ble_eq_true rfl, Nat.le_of_ble_eq_true rfl⟩ rfl rfl hl rfl (Nat.le_of_ble_eq_true rfl) dX7_treat_101 ⟨Nat.le_of_ble_eq_true rfl, Nat.le_of_ble_eq_true rfl⟩ (fun r u H locs w3 h => ?_)
      obtain ⟨rfl, rfl⟩ := w3
      refine lv_if_eq (tgt := 138) C.x C.b dX7_treat_104 (by decide) (fun c4 => ?_) (fun c4 => ?_)
      · skip
        refine lv_iconst (v := 0) C.x C.b dX7_treat_138 (by decide) ?_
        exact K_X7_treat_139 (y0 := 0) C (ok.up (by decide) _ _) (by first | exact hF) h hr (lv_sub hl [0, 1, 2, 3, 4, 5] rfl) (Eq.mp (congrArg (fun z : Int32 × St => post z.1 z.2) ((if_pos c1).trans ((if_pos c2).trans (if_pos c4)))) hp)
      · skip
        refine lv_aload_n C.x C.b dX7_treat_107 rfl (lv_at hl 0 rfl) ?_
        refine g_X7_35 C h dX7_treat_108 ?_
        refine lv_iload_n C.x C.b dX7_treat_111 rfl (lv_at hl 1 rfl) ?_
        refine al_23 C h hF.1 dX7_treat_112 ?_
        refine lv_bipush (v := 40) C.x C.b dX7_treat_113 (by decide) ?_
        refine lv_bipush (v := 20) C.x C.b dX7_treat_115 (by decide) ?_
        refine lv_iload_n C.x C.b dX7_treat_117 rfl (lv_at hl 2 rfl) ?_
        refine lv_imul C.x C.b dX7_treat_118 ?_
        refine lv_iadd C.x C.b dX7_treat_119 ?_
        refine lv_icmp_gt (tgt := 138) C.x C.b dX7_treat_120 (by decide) (fun c5 => ?_) (fun c5 => ?_)
        · skip
          refine lv_iconst (v := 0) C.x C.b dX7_treat_138 (by decide) ?_
          exact K_X7_treat_139 (y0 := 0) C (ok.up (by decide) _ _) (by first | exact hF) h hr (lv_sub hl [0, 1, 2, 3, 4, 5] rfl) (Eq.mp (congrArg (fun z : Int32 × St => post z.1 z.2) ((if_pos c1).trans ((if_pos c2).trans ((if_neg c4).trans (if_pos c5))))) hp)
        · skip
          refine lv_aload_n C.x C.b dX7_treat_123 rfl (lv_at hl 0 rfl) ?_
          refine g_X7_29 C h dX7_treat_124 ?_
          refine lv_iload_n C.x C.b dX7_treat_127 rfl (lv_at hl 3 rfl) ?_
          refine al_21 C h hF.2.2 dX7_treat_128 ?_
          refine lv_iload C.x C.b dX7_treat_129 (lv_at hl 4 rfl) ?_
          refine lv_icmp_lt (tgt := 138) C.x C.b dX7_treat_131 (by decide) (fun c6 => ?_) (fun c6 => ?_)
          · skip
            refine lv_iconst (v := 0) C.x C.b dX7_treat_138 (by decide) ?_
            exact K_X7_treat_139 (y0 := 0) C (ok.up (by decide) _ _) (by first | exact hF) h hr (lv_sub hl [0, 1, 2, 3, 4, 5] rfl) (Eq.mp (congrArg (fun z : Int32 × St => post z.1 z.2) ((if_pos c1).trans ((if_pos c2).trans ((if_neg c4).trans ((if_neg c5).trans (if_pos c6)))))) hp)
          · skip
            refine lv_iconst (v := 1) C.x C.b dX7_treat_134 (by decide) ?_
            refine lv_goto (tgt := 139) C.x C.b dX7_treat_135 (by decide) ?_
            exact K_X7_treat_139 (y0 := 1) C (ok.up (by decide) _ _) (by first | exact hF) h hr (lv_sub hl [0, 1, 2, 3, 4, 5] rfl) (Eq.mp (congrArg (fun z : Int32 × St => post z.1 z.2) ((if_pos c1).trans ((if_pos c2).trans ((if_neg c4).trans ((if_neg c5).trans (if_neg c6)))))) hp)
    · skip
      refine lv_aload_n C.x C.b dX7_treat_89 rfl (lv_at hl 0 rfl) ?_
      refine g_X7_44 C h dX7_treat_90 ?_
      refine lv_iload_n C.x C.b dX7_treat_93 rfl (lv_at hl 1 rfl) ?_
      refine al_26 C h hF.1 dX7_treat_94 ?_
      refine lv_iconst (v := 2) C.x C.b dX7_treat_95 (by decide) ?_
      refine lv_icmp_ne (tgt := 138) C.x C.b dX7_treat_96 (by decide) (fun c7 => ?_) (fun c7 => ?_)
      · skip
        refine lv_iconst (v := 0) C.x C.b dX7_treat_138 (by decide) ?_
        exact K_X7_treat_139 (y0 := 0) C (ok.up (by decide) _ _) (by first | exact hF) h hr (lv_sub hl [0, 1, 2, 3, 4, 5] rfl) (Eq.mp (congrArg (fun z : Int32 × St => post z.1 z.2) ((if_pos c1).trans ((if_neg c2).trans (if_neg c7)))) hp)
      · skip
        refine lv_aload_n C.x C.b dX7_treat_99 rfl (lv_at hl 0 rfl) ?_
        refine lv_iload_n C.x C.b dX7_treat_100 rfl (lv_at hl 2 rfl) ?_
        refine caVi (As := [.int p2]) (rest := []) (q0 := 15) (ci := 7) C h (M_X7_isFree l D E _ (ok.up (by decide) _ _) p2) cw_X7_123 m_im_X7_isFree m_se_X7_isFree rfl rfl ⟨Nat.le_of_ble_eq_true rfl, Nat.le_of_ble_eq_true rfl⟩ rfl rfl hl rfl (Nat.le_of_ble_eq_true rfl) dX7_treat_101 ⟨Nat.le_of_ble_eq_true rfl, Nat.le_of_ble_eq_true rfl⟩ (fun r u H locs w8 h => ?_)
        obtain ⟨rfl, rfl⟩ := w8
        refine lv_if_eq (tgt := 138) C.x C.b dX7_treat_104 (by decide) (fun c9 => ?_) (fun c9 => ?_)
        · skip
          refine lv_iconst (v := 0) C.x C.b dX7_treat_138 (by decide) ?_
          exact K_X7_treat_139 (y0 := 0) C (ok.up (by decide) _ _) (by first | exact hF) h hr (lv_sub hl [0, 1, 2, 3, 4, 5] rfl) (Eq.mp (congrArg (fun z : Int32 × St => post z.1 z.2) ((if_pos c1).trans ((if_neg c2).trans ((if_pos c7).trans (if_pos c9))))) hp)
        · skip
          refine lv_aload_n C.x C.b dX7_treat_107 rfl (lv_at hl 0 rfl) ?_
          refine g_X7_35 C h dX7_treat_108 ?_
          refine lv_iload_n C.x C.b dX7_treat_111 rfl (lv_at hl 1 rfl) ?_
          refine al_23 C h hF.1 dX7_treat_112 ?_
          refine lv_bipush (v := 40) C.x C.b dX7_treat_113 (by decide) ?_
          refine lv_bipush (v := 20) C.x C.b dX7_treat_115 (by decide) ?_
          refine lv_iload_n C.x C.b dX7_treat_117 rfl (lv_at hl 2 rfl) ?_
          refine lv_imul C.x C.b dX7_treat_118 ?_
          refine lv_iadd C.x C.b dX7_treat_119 ?_
          refine lv_icmp_gt (tgt := 138) C.x C.b dX7_treat_120 (by decide) (fun c10 => ?_) (fun c10 => ?_)
          · skip
            refine lv_iconst (v := 0) C.x C.b dX7_treat_138 (by decide) ?_
            exact K_X7_treat_139 (y0 := 0) C (ok.up (by decide) _ _) (by first | exact hF) h hr (lv_sub hl [0, 1, 2, 3, 4, 5] rfl) (Eq.mp (congrArg (fun z : Int32 × St => post z.1 z.2) ((if_pos c1).trans ((if_neg c2).trans ((if_pos c7).trans ((if_neg c9).trans (if_pos c10)))))) hp)
          · skip
            refine lv_aload_n C.x C.b dX7_treat_123 rfl (lv_at hl 0 rfl) ?_
            refine g_X7_29 C h dX7_treat_124 ?_
            refine lv_iload_n C.x C.b dX7_treat_127 rfl (lv_at hl 3 rfl) ?_
            refine al_21 C h hF.2.2 dX7_treat_128 ?_
            refine lv_iload C.x C.b dX7_treat_129 (lv_at hl 4 rfl) ?_
            refine lv_icmp_lt (tgt := 138) C.x C.b dX7_treat_131 (by decide) (fun c11 => ?_) (fun c11 => ?_)
            · skip
              refine lv_iconst (v := 0) C.x C.b dX7_treat_138 (by decide) ?_
              exact K_X7_treat_139 (y0 := 0) C (ok.up (by decide) _ _) (by first | exact hF) h hr (lv_sub hl [0, 1, 2, 3, 4, 5] rfl) (Eq.mp (congrArg (fun z : Int32 × St => post z.1 z.2) ((if_pos c1).trans ((if_neg c2).trans ((if_pos c7).trans ((if_neg c9).trans ((if_neg c10).trans (if_pos c11))))))) hp)
            · skip
              refine lv_iconst (v := 1) C.x C.b dX7_treat_134 (by decide) ?_
              refine lv_goto (tgt := 139) C.x C.b dX7_treat_135 (by decide) ?_
              exact K_X7_treat_139 (y0 := 1) C (ok.up (by decide) _ _) (by first | exact hF) h hr (lv_sub hl [0, 1, 2, 3, 4, 5] rfl) (Eq.mp (congrArg (fun z : Int32 × St => post z.1 z.2) ((if_pos c1).trans ((if_neg c2).trans ((if_pos c7).trans ((if_neg c9).trans ((if_neg c10).trans (if_neg c11))))))) hp)
  · skip
    refine lv_iconst (v := 0) C.x C.b dX7_treat_78 (by decide) ?_
    exact rtI C h hr rfl dX7_treat_79 (Eq.mp (congrArg (fun z : Int32 × St => post z.1 z.2) (if_neg c1)) hp)
def S_X7_treat (σ : St) (p1 : Int32) (p2 : Int32) (p3 : Int32) (p4 : Int32) (p5 : Int32) : Int32 × St := if (S_X7_isAircraft σ p1) = 0 then S_X7_treat_68 σ p1 p2 p3 p4 p5 1 else if (S_X7_in p2 0 2) = 0 then S_X7_treat_68 σ p1 p2 p3 p4 p5 1 else if (S_X7_isFluid p3) = 0 then S_X7_treat_68 σ p1 p2 p3 p4 p5 1 else if (S_X7_in p4 10 2000) = 0 then S_X7_treat_68 σ p1 p2 p3 p4 p5 2 else if p5 = 50 then S_X7_treat_68 σ p1 p2 p3 p4 p5 0 else if p5 = 75 then S_X7_treat_68 σ p1 p2 p3 p4 p5 0 else if p5 = 100 then S_X7_treat_68 σ p1 p2 p3 p4 p5 0 else S_X7_treat_68 σ p1 p2 p3 p4 p5 2
set_option maxRecDepth 100000 in
set_option maxHeartbeats 4000000 in
theorem K_X7_treat_0 {p : Program} {l : Launch} {e : Env} {s : State} {m : MethodId} {args : Array Value} {below : List Frame} {meth : Method} {c : Code} {D : va_G} {E : En} {A : Nat → Prop} {post : Int32 → St → Prop} (C : CX p s m meth c cX7_treat RX7 7 D E A) {σ : St} (ok : OK E σ) {p1 : Int32} {p2 : Int32} {p3 : Int32} {p4 : Int32} {p5 : Int32} {H : Heap} {locs : List Loc} (h : HW D E σ A s H locs) (hr : meth.sig.returnType = some .int) {ls : Array Slot} (hl : lv_has ls 7 [(0, .ref (ead E 15)), (1, .int p1), (2, .int p2), (3, .int p3), (4, .int p4), (5, .int p5)]) (hp : post (S_X7_treat σ p1 p2 p3 p4 p5).1 (S_X7_treat σ p1 p2 p3 p4 p5).2) : W p l e rm_X7_treat s m args below meth c H locs 0 0 (MQ below (va_Qi post (POB D E A) A) args s 0 0 A) (F0 m 0 ls []) := by
  refine lv_aload_n C.x C.b dX7_treat_0 rfl (lv_at hl 0 rfl) ?_
  refine lv_aload_n C.x C.b dX7_treat_1 rfl (lv_at hl 0 rfl) ?_
  refine lv_iload_n C.x C.b dX7_treat_2 rfl (lv_at hl 1 rfl) ?_
  refine caVi (As := [.int p1]) (rest := [.ref (ead E 15)]) (q0 := 15) (ci := 7) C h (M_X7_isAircraft l D E _ ok p1) cw_X7_120 m_im_X7_isAircraft m_se_X7_isAircraft rfl rfl ⟨Nat.le_of_ble_eq_true rfl, Nat.le_of_ble_eq_true rfl⟩ rfl rfl hl rfl (Nat.le_of_ble_eq_true rfl) dX7_treat_3 ⟨Nat.le_of_ble_eq_true rfl, Nat.le_of_ble_eq_true rfl⟩ (fun r u H locs w1 h => ?_)
  obtain ⟨rfl, rfl⟩ := w1
  refine lv_if_eq (tgt := 25) C.x C.b dX7_treat_6 (by decide) (fun c2 => ?_) (fun c2 => ?_)
  · skip
    refine lv_iconst (v := 1) C.x C.b dX7_treat_25 (by decide) ?_
    refine lv_goto (tgt := 68) C.x C.b dX7_treat_26 (by decide) ?_
    exact K_X7_treat_68 (y0 := 1) C ok (by first | exact fun q => absurd q (by decide)) h hr (lv_sub hl [0, 1, 2, 3, 4, 5] rfl) (Eq.mp (congrArg (fun z : Int32 × St => post z.1 z.2) (if_pos c2)) hp)
  · skip
    refine lv_iload_n C.x C.b dX7_treat_9 rfl (lv_at hl 2 rfl) ?_
    refine lv_iconst (v := 0) C.x C.b dX7_treat_10 (by decide) ?_
    refine lv_iconst (v := 2) C.x C.b dX7_treat_11 (by decide) ?_
    refine caSi (As := [.int p2, .int 0, .int 2]) (rest := [.ref (ead E 15)]) C h (M_X7_in l D E _ ok p2 0 2) cw_X7_77 m_st_X7_in rfl rfl ⟨Nat.le_of_ble_eq_true rfl, Nat.le_of_ble_eq_true rfl⟩ hl rfl (Nat.le_of_ble_eq_true rfl) dX7_treat_12 ⟨Nat.le_of_ble_eq_true rfl, Nat.le_of_ble_eq_true rfl⟩ (fun r u H locs w3 h => ?_)
    obtain ⟨rfl, rfl⟩ := w3
    refine lv_if_eq (tgt := 25) C.x C.b dX7_treat_15 (by decide) (fun c4 => ?_) (fun c4 => ?_)
    · skip
      refine lv_iconst (v := 1) C.x C.b dX7_treat_25 (by decide) ?_
      refine lv_goto (tgt := 68) C.x C.b dX7_treat_26 (by decide) ?_
      exact K_X7_treat_68 (y0 := 1) C ok (by first | exact fun q => absurd q (by decide)) h hr (lv_sub hl [0, 1, 2, 3, 4, 5] rfl) (Eq.mp (congrArg (fun z : Int32 × St => post z.1 z.2) ((if_neg c2).trans (if_pos c4))) hp)
    · skip
      refine lv_iload_n C.x C.b dX7_treat_18 rfl (lv_at hl 3 rfl) ?_
      refine caSi (As := [.int p3]) (rest := [.ref (ead E 15)]) C h (M_X7_isFluid l D E _ ok p3) cw_X7_113 m_st_X7_isFluid rfl rfl ⟨Nat.le_of_ble_eq_true rfl, Nat.le_of_ble_eq_true rfl⟩ hl rfl (Nat.le_of_ble_eq_true rfl) dX7_treat_19 ⟨Nat.le_of_ble_eq_true rfl, Nat.le_of_ble_eq_true rfl⟩ (fun r u H locs w5 h => ?_)
      obtain ⟨rfl, rfl⟩ := w5
      refine lv_if_ne (tgt := 29) C.x C.b dX7_treat_22 (by decide) (fun c6 => ?_) (fun c6 => ?_)
      · skip
        refine lv_iload C.x C.b dX7_treat_29 (lv_at hl 4 rfl) ?_
        refine lv_bipush (v := 10) C.x C.b dX7_treat_31 (by decide) ?_
        refine lv_sipush (v := 2000) C.x C.b dX7_treat_33 (by decide) ?_
        refine caSi (As := [.int p4, .int 10, .int 2000]) (rest := [.ref (ead E 15)]) C h (M_X7_in l D E _ ok p4 10 2000) cw_X7_77 m_st_X7_in rfl rfl ⟨Nat.le_of_ble_eq_true rfl, Nat.le_of_ble_eq_true rfl⟩ hl rfl (Nat.le_of_ble_eq_true rfl) dX7_treat_36 ⟨Nat.le_of_ble_eq_true rfl, Nat.le_of_ble_eq_true rfl⟩ (fun r u H locs w7 h => ?_)
        obtain ⟨rfl, rfl⟩ := w7
        refine lv_if_eq (tgt := 63) C.x C.b dX7_treat_39 (by decide) (fun c8 => ?_) (fun c8 => ?_)
        · skip
          refine lv_iconst (v := 2) C.x C.b dX7_treat_63 (by decide) ?_
          refine lv_goto (tgt := 68) C.x C.b dX7_treat_64 (by decide) ?_
          exact K_X7_treat_68 (y0 := 2) C ok (by first | exact fun _ => ⟨in_n ok c2, in_02 c4, in_02 c6⟩ | exact fun q => absurd q (by decide)) h hr (lv_sub hl [0, 1, 2, 3, 4, 5] rfl) (Eq.mp (congrArg (fun z : Int32 × St => post z.1 z.2) ((if_neg c2).trans ((if_neg c4).trans ((if_neg c6).trans (if_pos c8))))) hp)
        · skip
          refine lv_iload C.x C.b dX7_treat_42 (lv_at hl 5 rfl) ?_
          refine lv_bipush (v := 50) C.x C.b dX7_treat_44 (by decide) ?_
          refine lv_icmp_eq (tgt := 67) C.x C.b dX7_treat_46 (by decide) (fun c9 => ?_) (fun c9 => ?_)
          · skip
            refine lv_iconst (v := 0) C.x C.b dX7_treat_67 (by decide) ?_
            exact K_X7_treat_68 (y0 := 0) C ok (by first | exact fun _ => ⟨in_n ok c2, in_02 c4, in_02 c6⟩ | exact fun q => absurd q (by decide)) h hr (lv_sub hl [0, 1, 2, 3, 4, 5] rfl) (Eq.mp (congrArg (fun z : Int32 × St => post z.1 z.2) ((if_neg c2).trans ((if_neg c4).trans ((if_neg c6).trans ((if_neg c8).trans (if_pos c9)))))) hp)
          · skip
            refine lv_iload C.x C.b dX7_treat_49 (lv_at hl 5 rfl) ?_
            refine lv_bipush (v := 75) C.x C.b dX7_treat_51 (by decide) ?_
            refine lv_icmp_eq (tgt := 67) C.x C.b dX7_treat_53 (by decide) (fun c10 => ?_) (fun c10 => ?_)
            · skip
              refine lv_iconst (v := 0) C.x C.b dX7_treat_67 (by decide) ?_
              exact K_X7_treat_68 (y0 := 0) C ok (by first | exact fun _ => ⟨in_n ok c2, in_02 c4, in_02 c6⟩ | exact fun q => absurd q (by decide)) h hr (lv_sub hl [0, 1, 2, 3, 4, 5] rfl) (Eq.mp (congrArg (fun z : Int32 × St => post z.1 z.2) ((if_neg c2).trans ((if_neg c4).trans ((if_neg c6).trans ((if_neg c8).trans ((if_neg c9).trans (if_pos c10))))))) hp)
            · skip
              refine lv_iload C.x C.b dX7_treat_56 (lv_at hl 5 rfl) ?_
              refine lv_bipush (v := 100) C.x C.b dX7_treat_58 (by decide) ?_
              refine lv_icmp_eq (tgt := 67) C.x C.b dX7_treat_60 (by decide) (fun c11 => ?_) (fun c11 => ?_)
              · skip
                refine lv_iconst (v := 0) C.x C.b dX7_treat_67 (by decide) ?_
                exact K_X7_treat_68 (y0 := 0) C ok (by first | exact fun _ => ⟨in_n ok c2, in_02 c4, in_02 c6⟩ | exact fun q => absurd q (by decide)) h hr (lv_sub hl [0, 1, 2, 3, 4, 5] rfl) (Eq.mp (congrArg (fun z : Int32 × St => post z.1 z.2) ((if_neg c2).trans ((if_neg c4).trans ((if_neg c6).trans ((if_neg c8).trans ((if_neg c9).trans ((if_neg c10).trans (if_pos c11)))))))) hp)
              · skip
                refine lv_iconst (v := 2) C.x C.b dX7_treat_63 (by decide) ?_
                refine lv_goto (tgt := 68) C.x C.b dX7_treat_64 (by decide) ?_
                exact K_X7_treat_68 (y0 := 2) C ok (by first | exact fun _ => ⟨in_n ok c2, in_02 c4, in_02 c6⟩ | exact fun q => absurd q (by decide)) h hr (lv_sub hl [0, 1, 2, 3, 4, 5] rfl) (Eq.mp (congrArg (fun z : Int32 × St => post z.1 z.2) ((if_neg c2).trans ((if_neg c4).trans ((if_neg c6).trans ((if_neg c8).trans ((if_neg c9).trans ((if_neg c10).trans (if_neg c11)))))))) hp)
      · skip
        refine lv_iconst (v := 1) C.x C.b dX7_treat_25 (by decide) ?_
        refine lv_goto (tgt := 68) C.x C.b dX7_treat_26 (by decide) ?_
        exact K_X7_treat_68 (y0 := 1) C ok (by first | exact fun _ => ⟨in_n ok c2, in_02 c4, in_02 c6⟩ | exact fun q => absurd q (by decide)) h hr (lv_sub hl [0, 1, 2, 3, 4, 5] rfl) (Eq.mp (congrArg (fun z : Int32 × St => post z.1 z.2) ((if_neg c2).trans ((if_neg c4).trans (if_pos c6)))) hp)
theorem M_X7_treat (l : Launch) (D : va_G) (E : En) (σ : St) (ok : OK E σ) (p1 : Int32) (p2 : Int32) (p3 : Int32) (p4 : Int32) (p5 : Int32) : CO l yX7_treat cX7_treat 7 (some .int) rm_X7_treat [.ref (ead E 15), .int p1, .int p2, .int p3, .int p4, .int p5] D E σ (fun A => va_Qi (fun r u => (S_X7_treat σ p1 p2 p3 p4 p5).1 = r ∧ (S_X7_treat σ p1 p2 p3 p4 p5).2 = u) (POB D E A) A) 0 0 :=
  CO.of RX7 (by decide +kernel) rfl (Nat.le_of_ble_eq_true rfl) (fun p e s m below meth c A ls C h hr hl => K_X7_treat_0 C ok h hr hl ⟨rfl, rfl⟩)
-- X7_cancel cancel(I)I
abbrev rm_X7_cancel : Room := { frames := 2, cells := 0, slots := 0, locals := 43 }
def S_X7_cancel_38 (σ : St) (p1 : Int32) (y0 : Int32) : Int32 × St := if y0 ≤ 0 then ((σ 59 p1.toNatClampNeg), (S_X7_cancels (up2 σ 40 0 y0) p1)) else (0, (up2 σ 40 0 y0))
set_option maxRecDepth 100000 in
set_option maxHeartbeats 4000000 in
theorem K_X7_cancel_38 {p : Program} {l : Launch} {e : Env} {s : State} {m : MethodId} {args : Array Value} {below : List Frame} {meth : Method} {c : Code} {D : va_G} {E : En} {A : Nat → Prop} {post : Int32 → St → Prop} (C : CX p s m meth c cX7_cancel RX7 3 D E A) {σ : St} (ok : OK E σ) {p1 : Int32} {y0 : Int32} (hq : y0 ≤ 0 → vp_in p1 20) {H : Heap} {locs : List Loc} (h : HW D E σ A s H locs) (hr : meth.sig.returnType = some .int) {ls : Array Slot} (hl : lv_has ls 3 [(0, .ref (ead E 15)), (1, .int p1)]) (hp : post (S_X7_cancel_38 σ p1 y0).1 (S_X7_cancel_38 σ p1 y0).2) : W p l e rm_X7_cancel s m args below meth c H locs 0 0 (MQ below (va_Qi post (POB D E A) A) args s 0 0 A) (F0 m 38 ls [.int y0, .ref (ead E 15)]) := by
  refine p_X7_74 C h dX7_cancel_38 (fun H locs h => ?_)
  refine lv_aload_n C.x C.b dX7_cancel_41 rfl (lv_at hl 0 rfl) ?_
  refine g_X7_74 C h dX7_cancel_42 ?_
  refine lv_if_le (tgt := 50) C.x C.b dX7_cancel_45 (by decide) (fun c1 => ?_) (fun c1 => ?_)
  · skip
    have h1 : vp_in p1 20 := hq c1
    refine lv_aload_n C.x C.b dX7_cancel_50 rfl (lv_at hl 0 rfl) ?_
    refine g_X7_44 C h dX7_cancel_51 ?_
    refine lv_iload_n C.x C.b dX7_cancel_54 rfl (lv_at hl 1 rfl) ?_
    refine al_26 C h h1 dX7_cancel_55 ?_
    refine lv_istore_n (lv' := [(2, .int (σ 59 p1.toNatClampNeg)), (0, .ref (ead E 15)), (1, .int p1)]) C.x C.b dX7_cancel_56 rfl hl (by decide) rfl (fun ls hl => ?_)
    refine lv_aload_n C.x C.b dX7_cancel_57 rfl (lv_at hl 1 rfl) ?_
    refine lv_iload_n C.x C.b dX7_cancel_58 rfl (lv_at hl 2 rfl) ?_
    refine caVv (As := [.int p1]) (rest := []) (q0 := 15) (ci := 7) C h (M_X7_cancels l D E _ (ok.up (by decide) _ _) p1 h1) cw_X7_129 m_im_X7_cancels m_se_X7_cancels rfl rfl ⟨Nat.le_of_ble_eq_true rfl, Nat.le_of_ble_eq_true rfl⟩ rfl rfl hl rfl (Nat.le_of_ble_eq_true rfl) dX7_cancel_59 ⟨Nat.le_of_ble_eq_true rfl, Nat.le_of_ble_eq_true rfl⟩ (fun u H locs w2 h => ?_)
    subst w2
    refine lv_iload_n C.x C.b dX7_cancel_62 rfl (lv_at hl 0 rfl) ?_
    exact rtI C h hr rfl dX7_cancel_63 (Eq.mp (congrArg (fun z : Int32 × St => post z.1 z.2) (if_pos c1)) hp)
  · skip
    refine lv_iconst (v := 0) C.x C.b dX7_cancel_48 (by decide) ?_
    exact rtI C h hr rfl dX7_cancel_49 (Eq.mp (congrArg (fun z : Int32 × St => post z.1 z.2) (if_neg c1)) hp)
def S_X7_cancel (σ : St) (p1 : Int32) : Int32 × St := if (S_X7_isAircraft σ p1) = 0 then S_X7_cancel_38 σ p1 1 else if (σ 59 p1.toNatClampNeg) = 3 then S_X7_cancel_38 σ p1 2 else if (σ 59 p1.toNatClampNeg) = 4 then S_X7_cancel_38 σ p1 2 else S_X7_cancel_38 σ p1 0
set_option maxRecDepth 100000 in
set_option maxHeartbeats 4000000 in
theorem K_X7_cancel_0 {p : Program} {l : Launch} {e : Env} {s : State} {m : MethodId} {args : Array Value} {below : List Frame} {meth : Method} {c : Code} {D : va_G} {E : En} {A : Nat → Prop} {post : Int32 → St → Prop} (C : CX p s m meth c cX7_cancel RX7 3 D E A) {σ : St} (ok : OK E σ) {p1 : Int32} {H : Heap} {locs : List Loc} (h : HW D E σ A s H locs) (hr : meth.sig.returnType = some .int) {ls : Array Slot} (hl : lv_has ls 3 [(0, .ref (ead E 15)), (1, .int p1)]) (hp : post (S_X7_cancel σ p1).1 (S_X7_cancel σ p1).2) : W p l e rm_X7_cancel s m args below meth c H locs 0 0 (MQ below (va_Qi post (POB D E A) A) args s 0 0 A) (F0 m 0 ls []) := by
  refine lv_aload_n C.x C.b dX7_cancel_0 rfl (lv_at hl 0 rfl) ?_
  refine lv_aload_n C.x C.b dX7_cancel_1 rfl (lv_at hl 0 rfl) ?_
  refine lv_iload_n C.x C.b dX7_cancel_2 rfl (lv_at hl 1 rfl) ?_
  refine caVi (As := [.int p1]) (rest := [.ref (ead E 15)]) (q0 := 15) (ci := 7) C h (M_X7_isAircraft l D E _ ok p1) cw_X7_120 m_im_X7_isAircraft m_se_X7_isAircraft rfl rfl ⟨Nat.le_of_ble_eq_true rfl, Nat.le_of_ble_eq_true rfl⟩ rfl rfl hl rfl (Nat.le_of_ble_eq_true rfl) dX7_cancel_3 ⟨Nat.le_of_ble_eq_true rfl, Nat.le_of_ble_eq_true rfl⟩ (fun r u H locs w1 h => ?_)
  obtain ⟨rfl, rfl⟩ := w1
  refine lv_if_ne (tgt := 13) C.x C.b dX7_cancel_6 (by decide) (fun c2 => ?_) (fun c2 => ?_)
  · skip
    have h1 : vp_in p1 20 := in_n ok c2
    refine lv_aload_n C.x C.b dX7_cancel_13 rfl (lv_at hl 0 rfl) ?_
    refine g_X7_44 C h dX7_cancel_14 ?_
    refine lv_iload_n C.x C.b dX7_cancel_17 rfl (lv_at hl 1 rfl) ?_
    refine al_26 C h h1 dX7_cancel_18 ?_
    refine lv_iconst (v := 3) C.x C.b dX7_cancel_19 (by decide) ?_
    refine lv_icmp_eq (tgt := 33) C.x C.b dX7_cancel_20 (by decide) (fun c3 => ?_) (fun c3 => ?_)
    · skip
      refine lv_iconst (v := 2) C.x C.b dX7_cancel_33 (by decide) ?_
      refine lv_goto (tgt := 38) C.x C.b dX7_cancel_34 (by decide) ?_
      exact K_X7_cancel_38 (y0 := 2) C ok (by first | exact fun _ => in_n ok c2 | exact fun q => absurd q (by decide)) h hr (lv_sub hl [0, 1] rfl) (Eq.mp (congrArg (fun z : Int32 × St => post z.1 z.2) ((if_neg c2).trans (if_pos c3))) hp)
    · skip
      refine lv_aload_n C.x C.b dX7_cancel_23 rfl (lv_at hl 0 rfl) ?_
      refine g_X7_44 C h dX7_cancel_24 ?_
      refine lv_iload_n C.x C.b dX7_cancel_27 rfl (lv_at hl 1 rfl) ?_
      refine al_26 C h h1 dX7_cancel_28 ?_
      refine lv_iconst (v := 4) C.x C.b dX7_cancel_29 (by decide) ?_
      refine lv_icmp_ne (tgt := 37) C.x C.b dX7_cancel_30 (by decide) (fun c4 => ?_) (fun c4 => ?_)
      · skip
        refine lv_iconst (v := 0) C.x C.b dX7_cancel_37 (by decide) ?_
        exact K_X7_cancel_38 (y0 := 0) C ok (by first | exact fun _ => in_n ok c2 | exact fun q => absurd q (by decide)) h hr (lv_sub hl [0, 1] rfl) (Eq.mp (congrArg (fun z : Int32 × St => post z.1 z.2) ((if_neg c2).trans ((if_neg c3).trans (if_neg c4)))) hp)
      · skip
        refine lv_iconst (v := 2) C.x C.b dX7_cancel_33 (by decide) ?_
        refine lv_goto (tgt := 38) C.x C.b dX7_cancel_34 (by decide) ?_
        exact K_X7_cancel_38 (y0 := 2) C ok (by first | exact fun _ => in_n ok c2 | exact fun q => absurd q (by decide)) h hr (lv_sub hl [0, 1] rfl) (Eq.mp (congrArg (fun z : Int32 × St => post z.1 z.2) ((if_neg c2).trans ((if_neg c3).trans (if_pos c4)))) hp)
  · skip
    refine lv_iconst (v := 1) C.x C.b dX7_cancel_9 (by decide) ?_
    refine lv_goto (tgt := 38) C.x C.b dX7_cancel_10 (by decide) ?_
    exact K_X7_cancel_38 (y0 := 1) C ok (by first | exact fun _ => in_n ok c2 | exact fun q => absurd q (by decide)) h hr (lv_sub hl [0, 1] rfl) (Eq.mp (congrArg (fun z : Int32 × St => post z.1 z.2) (if_pos c2)) hp)
theorem M_X7_cancel (l : Launch) (D : va_G) (E : En) (σ : St) (ok : OK E σ) (p1 : Int32) : CO l yX7_cancel cX7_cancel 3 (some .int) rm_X7_cancel [.ref (ead E 15), .int p1] D E σ (fun A => va_Qi (fun r u => (S_X7_cancel σ p1).1 = r ∧ (S_X7_cancel σ p1).2 = u) (POB D E A) A) 0 0 :=
  CO.of RX7 (by decide +kernel) rfl (Nat.le_of_ble_eq_true rfl) (fun p e s m below meth c A ls C h hr hl => K_X7_cancel_0 C ok h hr hl ⟨rfl, rfl⟩)
-- X7_permit permit(I)I
abbrev rm_X7_permit : Room := { frames := 1, cells := 0, slots := 0, locals := 22 }
def S_X7_permit_16 (σ : St) (p1 : Int32) (y0 : Int32) : Int32 × St := if y0 ≤ 0 then ((σ 73 0), (up2 (up2 σ 40 0 y0) 73 0 p1)) else (0, (up2 σ 40 0 y0))
set_option maxRecDepth 100000 in
set_option maxHeartbeats 4000000 in
theorem K_X7_permit_16 {p : Program} {l : Launch} {e : Env} {s : State} {m : MethodId} {args : Array Value} {below : List Frame} {meth : Method} {c : Code} {D : va_G} {E : En} {A : Nat → Prop} {post : Int32 → St → Prop} (C : CX p s m meth c cX7_permit RX7 3 D E A) {σ : St} (ok : OK E σ) {p1 : Int32} {y0 : Int32} {H : Heap} {locs : List Loc} (h : HW D E σ A s H locs) (hr : meth.sig.returnType = some .int) {ls : Array Slot} (hl : lv_has ls 3 [(0, .ref (ead E 15)), (1, .int p1)]) (hp : post (S_X7_permit_16 σ p1 y0).1 (S_X7_permit_16 σ p1 y0).2) : W p l e rm_X7_permit s m args below meth c H locs 0 0 (MQ below (va_Qi post (POB D E A) A) args s 0 0 A) (F0 m 16 ls [.int y0, .ref (ead E 15)]) := by
  refine p_X7_74 C h dX7_permit_16 (fun H locs h => ?_)
  refine lv_aload_n C.x C.b dX7_permit_19 rfl (lv_at hl 0 rfl) ?_
  refine g_X7_74 C h dX7_permit_20 ?_
  refine lv_if_le (tgt := 28) C.x C.b dX7_permit_23 (by decide) (fun c1 => ?_) (fun c1 => ?_)
  · skip
    refine lv_aload_n C.x C.b dX7_permit_28 rfl (lv_at hl 0 rfl) ?_
    refine g_X7_71 C h dX7_permit_29 ?_
    refine lv_istore_n (lv' := [(2, .int (σ 73 0)), (0, .ref (ead E 15)), (1, .int p1)]) C.x C.b dX7_permit_32 rfl hl (by decide) rfl (fun ls hl => ?_)
    refine lv_aload_n C.x C.b dX7_permit_33 rfl (lv_at hl 1 rfl) ?_
    refine lv_iload_n C.x C.b dX7_permit_34 rfl (lv_at hl 2 rfl) ?_
    refine p_X7_71 C h dX7_permit_35 (fun H locs h => ?_)
    refine lv_iload_n C.x C.b dX7_permit_38 rfl (lv_at hl 0 rfl) ?_
    exact rtI C h hr rfl dX7_permit_39 (Eq.mp (congrArg (fun z : Int32 × St => post z.1 z.2) (if_pos c1)) hp)
  · skip
    refine lv_iconst (v := 0) C.x C.b dX7_permit_26 (by decide) ?_
    exact rtI C h hr rfl dX7_permit_27 (Eq.mp (congrArg (fun z : Int32 × St => post z.1 z.2) (if_neg c1)) hp)
def S_X7_permit (σ : St) (p1 : Int32) : Int32 × St := if (S_X7_in p1 0 100000) = 0 then S_X7_permit_16 σ p1 1 else S_X7_permit_16 σ p1 0
set_option maxRecDepth 100000 in
set_option maxHeartbeats 4000000 in
theorem K_X7_permit_0 {p : Program} {l : Launch} {e : Env} {s : State} {m : MethodId} {args : Array Value} {below : List Frame} {meth : Method} {c : Code} {D : va_G} {E : En} {A : Nat → Prop} {post : Int32 → St → Prop} (C : CX p s m meth c cX7_permit RX7 3 D E A) {σ : St} (ok : OK E σ) {p1 : Int32} {H : Heap} {locs : List Loc} (h : HW D E σ A s H locs) (hr : meth.sig.returnType = some .int) {ls : Array Slot} (hl : lv_has ls 3 [(0, .ref (ead E 15)), (1, .int p1)]) (hp : post (S_X7_permit σ p1).1 (S_X7_permit σ p1).2) : W p l e rm_X7_permit s m args below meth c H locs 0 0 (MQ below (va_Qi post (POB D E A) A) args s 0 0 A) (F0 m 0 ls []) := by
  refine lv_aload_n C.x C.b dX7_permit_0 rfl (lv_at hl 0 rfl) ?_
  refine lv_iload_n C.x C.b dX7_permit_1 rfl (lv_at hl 1 rfl) ?_
  refine lv_iconst (v := 0) C.x C.b dX7_permit_2 (by decide) ?_
  refine lv_ldc C.x C.b C.ow (C.w _ m_ld_X7_116) dX7_permit_3 ?_
  refine caSi (As := [.int p1, .int 0, .int 100000]) (rest := [.ref (ead E 15)]) C h (M_X7_in l D E _ ok p1 0 100000) cw_X7_77 m_st_X7_in rfl rfl ⟨Nat.le_of_ble_eq_true rfl, Nat.le_of_ble_eq_true rfl⟩ hl rfl (Nat.le_of_ble_eq_true rfl) dX7_permit_5 ⟨Nat.le_of_ble_eq_true rfl, Nat.le_of_ble_eq_true rfl⟩ (fun r u H locs w1 h => ?_)
  obtain ⟨rfl, rfl⟩ := w1
  refine lv_if_eq (tgt := 15) C.x C.b dX7_permit_8 (by decide) (fun c2 => ?_) (fun c2 => ?_)
  · skip
    refine lv_iconst (v := 1) C.x C.b dX7_permit_15 (by decide) ?_
    exact K_X7_permit_16 (y0 := 1) C ok h hr (lv_sub hl [0, 1] rfl) (Eq.mp (congrArg (fun z : Int32 × St => post z.1 z.2) (if_pos c2)) hp)
  · skip
    refine lv_iconst (v := 0) C.x C.b dX7_permit_11 (by decide) ?_
    refine lv_goto (tgt := 16) C.x C.b dX7_permit_12 (by decide) ?_
    exact K_X7_permit_16 (y0 := 0) C ok h hr (lv_sub hl [0, 1] rfl) (Eq.mp (congrArg (fun z : Int32 × St => post z.1 z.2) (if_neg c2)) hp)
theorem M_X7_permit (l : Launch) (D : va_G) (E : En) (σ : St) (ok : OK E σ) (p1 : Int32) : CO l yX7_permit cX7_permit 3 (some .int) rm_X7_permit [.ref (ead E 15), .int p1] D E σ (fun A => va_Qi (fun r u => (S_X7_permit σ p1).1 = r ∧ (S_X7_permit σ p1).2 = u) (POB D E A) A) 0 0 :=
  CO.of RX7 (by decide +kernel) rfl (Nat.le_of_ble_eq_true rfl) (fun p e s m below meth c A ls C h hr hl => K_X7_permit_0 C ok h hr hl ⟨rfl, rfl⟩)
-- X7_release release(I)I
abbrev rm_X7_release : Room := { frames := 1, cells := 0, slots := 0, locals := 22 }
def S_X7_release_41 (σ : St) (p1 : Int32) (y0 : Int32) : Int32 × St := if y0 ≤ 0 then (((σ 72 0) + p1), (up2 (up2 (up2 (up2 σ 40 0 y0) 69 0 ((σ 69 0) - p1)) 71 0 ((σ 71 0) + p1)) 72 0 ((σ 72 0) + p1))) else (0, (up2 σ 40 0 y0))
set_option maxRecDepth 100000 in
set_option maxHeartbeats 4000000 in
theorem K_X7_release_41 {p : Program} {l : Launch} {e : Env} {s : State} {m : MethodId} {args : Array Value} {below : List Frame} {meth : Method} {c : Code} {D : va_G} {E : En} {A : Nat → Prop} {post : Int32 → St → Prop} (C : CX p s m meth c cX7_release RX7 2 D E A) {σ : St} (ok : OK E σ) {p1 : Int32} {y0 : Int32} {H : Heap} {locs : List Loc} (h : HW D E σ A s H locs) (hr : meth.sig.returnType = some .int) {ls : Array Slot} (hl : lv_has ls 2 [(0, .ref (ead E 15)), (1, .int p1)]) (hp : post (S_X7_release_41 σ p1 y0).1 (S_X7_release_41 σ p1 y0).2) : W p l e rm_X7_release s m args below meth c H locs 0 0 (MQ below (va_Qi post (POB D E A) A) args s 0 0 A) (F0 m 41 ls [.int y0, .ref (ead E 15)]) := by
  refine p_X7_74 C h dX7_release_41 (fun H locs h => ?_)
  refine lv_aload_n C.x C.b dX7_release_44 rfl (lv_at hl 0 rfl) ?_
  refine g_X7_74 C h dX7_release_45 ?_
  refine lv_if_le (tgt := 53) C.x C.b dX7_release_48 (by decide) (fun c1 => ?_) (fun c1 => ?_)
  · skip
    refine lv_aload_n C.x C.b dX7_release_53 rfl (lv_at hl 0 rfl) ?_
    refine lv_dup C.x C.b dX7_release_54 rfl ?_
    refine g_X7_126 C h dX7_release_55 ?_
    refine lv_iload_n C.x C.b dX7_release_58 rfl (lv_at hl 1 rfl) ?_
    refine lv_isub C.x C.b dX7_release_59 ?_
    refine p_X7_126 C h dX7_release_60 (fun H locs h => ?_)
    refine lv_aload_n C.x C.b dX7_release_63 rfl (lv_at hl 0 rfl) ?_
    refine lv_dup C.x C.b dX7_release_64 rfl ?_
    refine g_X7_136 C h dX7_release_65 ?_
    refine lv_iload_n C.x C.b dX7_release_68 rfl (lv_at hl 1 rfl) ?_
    refine lv_iadd C.x C.b dX7_release_69 ?_
    refine p_X7_136 C h dX7_release_70 (fun H locs h => ?_)
    refine lv_aload_n C.x C.b dX7_release_73 rfl (lv_at hl 0 rfl) ?_
    refine lv_dup C.x C.b dX7_release_74 rfl ?_
    refine g_X7_133 C h dX7_release_75 ?_
    refine lv_iload_n C.x C.b dX7_release_78 rfl (lv_at hl 1 rfl) ?_
    refine lv_iadd C.x C.b dX7_release_79 ?_
    refine p_X7_133 C h dX7_release_80 (fun H locs h => ?_)
    refine lv_aload_n C.x C.b dX7_release_83 rfl (lv_at hl 0 rfl) ?_
    refine g_X7_133 C h dX7_release_84 ?_
    exact rtI C h hr rfl dX7_release_87 (Eq.mp (congrArg (fun z : Int32 × St => post z.1 z.2) (if_pos c1)) hp)
  · skip
    refine lv_iconst (v := 0) C.x C.b dX7_release_51 (by decide) ?_
    exact rtI C h hr rfl dX7_release_52 (Eq.mp (congrArg (fun z : Int32 × St => post z.1 z.2) (if_neg c1)) hp)
def S_X7_release (σ : St) (p1 : Int32) : Int32 × St := if (S_X7_in p1 1 100000) = 0 then S_X7_release_41 σ p1 1 else if (σ 69 0) < p1 then S_X7_release_41 σ p1 2 else if ((σ 72 0) + p1) ≤ (σ 73 0) then S_X7_release_41 σ p1 0 else S_X7_release_41 σ p1 2
set_option maxRecDepth 100000 in
set_option maxHeartbeats 4000000 in
theorem K_X7_release_0 {p : Program} {l : Launch} {e : Env} {s : State} {m : MethodId} {args : Array Value} {below : List Frame} {meth : Method} {c : Code} {D : va_G} {E : En} {A : Nat → Prop} {post : Int32 → St → Prop} (C : CX p s m meth c cX7_release RX7 2 D E A) {σ : St} (ok : OK E σ) {p1 : Int32} {H : Heap} {locs : List Loc} (h : HW D E σ A s H locs) (hr : meth.sig.returnType = some .int) {ls : Array Slot} (hl : lv_has ls 2 [(0, .ref (ead E 15)), (1, .int p1)]) (hp : post (S_X7_release σ p1).1 (S_X7_release σ p1).2) : W p l e rm_X7_release s m args below meth c H locs 0 0 (MQ below (va_Qi post (POB D E A) A) args s 0 0 A) (F0 m 0 ls []) := by
  refine lv_aload_n C.x C.b dX7_release_0 rfl (lv_at hl 0 rfl) ?_
  refine lv_iload_n C.x C.b dX7_release_1 rfl (lv_at hl 1 rfl) ?_
  refine lv_iconst (v := 1) C.x C.b dX7_release_2 (by decide) ?_
  refine lv_ldc C.x C.b C.ow (C.w _ m_ld_X7_116) dX7_release_3 ?_
  refine caSi (As := [.int p1, .int 1, .int 100000]) (rest := [.ref (ead E 15)]) C h (M_X7_in l D E _ ok p1 1 100000) cw_X7_77 m_st_X7_in rfl rfl ⟨Nat.le_of_ble_eq_true rfl, Nat.le_of_ble_eq_true rfl⟩ hl rfl (Nat.le_of_ble_eq_true rfl) dX7_release_5 ⟨Nat.le_of_ble_eq_true rfl, Nat.le_of_ble_eq_true rfl⟩ (fun r u H locs w1 h => ?_)
  obtain ⟨rfl, rfl⟩ := w1
  refine lv_if_ne (tgt := 15) C.x C.b dX7_release_8 (by decide) (fun c2 => ?_) (fun c2 => ?_)
  · skip
    refine lv_iload_n C.x C.b dX7_release_15 rfl (lv_at hl 1 rfl) ?_
    refine lv_aload_n C.x C.b dX7_release_16 rfl (lv_at hl 0 rfl) ?_
    refine g_X7_126 C h dX7_release_17 ?_
    refine lv_icmp_gt (tgt := 36) C.x C.b dX7_release_20 (by decide) (fun c3 => ?_) (fun c3 => ?_)
    · skip
      refine lv_iconst (v := 2) C.x C.b dX7_release_36 (by decide) ?_
      refine lv_goto (tgt := 41) C.x C.b dX7_release_37 (by decide) ?_
      exact K_X7_release_41 (y0 := 2) C ok h hr (lv_sub hl [0, 1] rfl) (Eq.mp (congrArg (fun z : Int32 × St => post z.1 z.2) ((if_neg c2).trans (if_pos c3))) hp)
    · skip
      refine lv_aload_n C.x C.b dX7_release_23 rfl (lv_at hl 0 rfl) ?_
      refine g_X7_133 C h dX7_release_24 ?_
      refine lv_iload_n C.x C.b dX7_release_27 rfl (lv_at hl 1 rfl) ?_
      refine lv_iadd C.x C.b dX7_release_28 ?_
      refine lv_aload_n C.x C.b dX7_release_29 rfl (lv_at hl 0 rfl) ?_
      refine g_X7_71 C h dX7_release_30 ?_
      refine lv_icmp_le (tgt := 40) C.x C.b dX7_release_33 (by decide) (fun c4 => ?_) (fun c4 => ?_)
      · skip
        refine lv_iconst (v := 0) C.x C.b dX7_release_40 (by decide) ?_
        exact K_X7_release_41 (y0 := 0) C ok h hr (lv_sub hl [0, 1] rfl) (Eq.mp (congrArg (fun z : Int32 × St => post z.1 z.2) ((if_neg c2).trans ((if_neg c3).trans (if_pos c4)))) hp)
      · skip
        refine lv_iconst (v := 2) C.x C.b dX7_release_36 (by decide) ?_
        refine lv_goto (tgt := 41) C.x C.b dX7_release_37 (by decide) ?_
        exact K_X7_release_41 (y0 := 2) C ok h hr (lv_sub hl [0, 1] rfl) (Eq.mp (congrArg (fun z : Int32 × St => post z.1 z.2) ((if_neg c2).trans ((if_neg c3).trans (if_neg c4)))) hp)
  · skip
    refine lv_iconst (v := 1) C.x C.b dX7_release_11 (by decide) ?_
    refine lv_goto (tgt := 41) C.x C.b dX7_release_12 (by decide) ?_
    exact K_X7_release_41 (y0 := 1) C ok h hr (lv_sub hl [0, 1] rfl) (Eq.mp (congrArg (fun z : Int32 × St => post z.1 z.2) (if_pos c2)) hp)
theorem M_X7_release (l : Launch) (D : va_G) (E : En) (σ : St) (ok : OK E σ) (p1 : Int32) : CO l yX7_release cX7_release 2 (some .int) rm_X7_release [.ref (ead E 15), .int p1] D E σ (fun A => va_Qi (fun r u => (S_X7_release σ p1).1 = r ∧ (S_X7_release σ p1).2 = u) (POB D E A) A) 0 0 :=
  CO.of RX7 (by decide +kernel) rfl (Nat.le_of_ble_eq_true rfl) (fun p e s m below meth c A ls C h hr hl => K_X7_release_0 C ok h hr hl ⟨rfl, rfl⟩)
-- X7_pass pass(I)I
theorem cw_X7_178 : CWd RX7 178 yX7_minute cX7_minute 3 none 0 := ⟨m_ml_X7_178, m_co_X7_minute, m_ini_X7, by decide +kernel, by decide +kernel⟩
abbrev rm_X7_pass : Room := { frames := 4, cells := 0, slots := 0, locals := 86 }
def S_X7_pass_22 : Nat → St → Int32 → Nat → Int32 × St
  | 0, σ, _, _ => (0, σ)
  | n + 1, σ, p1, j2 => if p1 ≤ (nI j2) then (if (σ 40 0) ≤ 0 then ((σ 41 0), σ) else (0, σ)) else if (σ 40 0) = 0 then S_X7_pass_22 n (S_X7_minute σ) p1 (j2 + 1) else if (σ 40 0) ≤ 0 then ((σ 41 0), σ) else (0, σ)
theorem S_X7_pass_22_s (n : Nat) (σ : St) (p1 : Int32) (j2 : Nat) : S_X7_pass_22 (n + 1) σ p1 j2 = if p1 ≤ (nI j2) then (if (σ 40 0) ≤ 0 then ((σ 41 0), σ) else (0, σ)) else if (σ 40 0) = 0 then S_X7_pass_22 n (S_X7_minute σ) p1 (j2 + 1) else if (σ 40 0) ≤ 0 then ((σ 41 0), σ) else (0, σ) := rfl
set_option maxRecDepth 100000 in
set_option maxHeartbeats 4000000 in
theorem K_X7_pass_22 {p : Program} {l : Launch} {e : Env} {s : State} {m : MethodId} {args : Array Value} {below : List Frame} {meth : Method} {c : Code} {D : va_G} {E : En} {A : Nat → Prop} {post : Int32 → St → Prop} (C : CX p s m meth c cX7_pass RX7 3 D E A) (hr : meth.sig.returnType = some .int) {p1 : Int32} : ∀ (n : Nat) {σ : St} (ok : OK E σ) {j2 : Nat} (hj : j2 + n = 501) (hb : j2 ≤ 500) (hq : σ 40 0 = 0 → p1 ≤ nI 500) {H : Heap} {locs : List Loc} (h : HW D E σ A s H locs) {ls : Array Slot} (hl : lv_has ls 3 [(0, .ref (ead E 15)), (1, .int p1), (2, .int (nI j2))]) (hp : post (S_X7_pass_22 n σ p1 j2).1 (S_X7_pass_22 n σ p1 j2).2), W p l e rm_X7_pass s m args below meth c H locs 0 0 (MQ below (va_Qi post (POB D E A) A) args s 0 0 A) (F0 m 22 ls []) := by
  intro n
  induction n with
  | zero =>
    intro σ ok j2 hj hb hq H locs h ls hl hp
    exfalso
    clear hp
    omega
  | succ n ih =>
    intro σ ok j2 hj hb hq H locs h ls hl hp
    refine lv_iload_n C.x C.b dX7_pass_22 rfl (lv_at hl 2 rfl) ?_
    refine lv_iload_n C.x C.b dX7_pass_23 rfl (lv_at hl 1 rfl) ?_
    refine lv_icmp_ge (tgt := 44) C.x C.b dX7_pass_24 (by decide) (fun c1 => ?_) (fun c1 => ?_)
    · skip
      refine lv_aload_n C.x C.b dX7_pass_44 rfl (lv_at hl 0 rfl) ?_
      refine g_X7_74 C h dX7_pass_45 ?_
      refine lv_if_le (tgt := 55) C.x C.b dX7_pass_48 (by decide) (fun c2 => ?_) (fun c2 => ?_)
      · skip
        refine lv_aload_n C.x C.b dX7_pass_55 rfl (lv_at hl 0 rfl) ?_
        refine g_X7_100 C h dX7_pass_56 ?_
        exact rtI C h hr rfl dX7_pass_59 (Eq.mp (congrArg (fun z : Int32 × St => post z.1 z.2) ((S_X7_pass_22_s n σ p1 j2).trans ((if_pos c1).trans (if_pos c2)))) hp)
      · skip
        refine lv_iconst (v := 0) C.x C.b dX7_pass_51 (by decide) ?_
        refine lv_goto (tgt := 59) C.x C.b dX7_pass_52 (by decide) ?_
        exact rtI C h hr rfl dX7_pass_59 (Eq.mp (congrArg (fun z : Int32 × St => post z.1 z.2) ((S_X7_pass_22_s n σ p1 j2).trans ((if_pos c1).trans (if_neg c2)))) hp)
    · skip
      refine lv_aload_n C.x C.b dX7_pass_27 rfl (lv_at hl 0 rfl) ?_
      refine g_X7_74 C h dX7_pass_28 ?_
      refine lv_if_ne (tgt := 44) C.x C.b dX7_pass_31 (by decide) (fun c3 => ?_) (fun c3 => ?_)
      · skip
        refine lv_aload_n C.x C.b dX7_pass_44 rfl (lv_at hl 0 rfl) ?_
        refine g_X7_74 C h dX7_pass_45 ?_
        refine lv_if_le (tgt := 55) C.x C.b dX7_pass_48 (by decide) (fun c4 => ?_) (fun c4 => ?_)
        · skip
          refine lv_aload_n C.x C.b dX7_pass_55 rfl (lv_at hl 0 rfl) ?_
          refine g_X7_100 C h dX7_pass_56 ?_
          exact rtI C h hr rfl dX7_pass_59 (Eq.mp (congrArg (fun z : Int32 × St => post z.1 z.2) ((S_X7_pass_22_s n σ p1 j2).trans ((if_neg c1).trans ((if_neg c3).trans (if_pos c4))))) hp)
        · skip
          refine lv_iconst (v := 0) C.x C.b dX7_pass_51 (by decide) ?_
          refine lv_goto (tgt := 59) C.x C.b dX7_pass_52 (by decide) ?_
          exact rtI C h hr rfl dX7_pass_59 (Eq.mp (congrArg (fun z : Int32 × St => post z.1 z.2) ((S_X7_pass_22_s n σ p1 j2).trans ((if_neg c1).trans ((if_neg c3).trans (if_neg c4))))) hp)
      · skip
        have h2 : j2 < 500 := lt_of_nle2 (by clear hp; omega) (by decide) (hq c3) c1
        refine lv_aload_n C.x C.b dX7_pass_34 rfl (lv_at hl 0 rfl) ?_
        refine caVv (As := []) (rest := []) (q0 := 15) (ci := 7) C h (M_X7_minute l D E _ ok) cw_X7_178 m_im_X7_minute m_se_X7_minute rfl rfl ⟨Nat.le_of_ble_eq_true rfl, Nat.le_of_ble_eq_true rfl⟩ rfl rfl hl rfl (Nat.le_of_ble_eq_true rfl) dX7_pass_35 ⟨Nat.le_of_ble_eq_true rfl, Nat.le_of_ble_eq_true rfl⟩ (fun u H locs w5 h => ?_)
        subst w5
        refine lv_iinc (v := nI (j2 + 1)) (lv' := [(2, .int (nI (j2 + 1))), (0, .ref (ead E 15)), (1, .int p1)]) C.x C.b dX7_pass_38 hl (k := 2) rfl (nI_1 _) (by decide) rfl (fun ls hl => ?_)
        refine lv_goto (tgt := 22) C.x C.b dX7_pass_41 (by decide) ?_
        exact ih (j2 := j2 + 1) (S_X7_minute_ok ok) (by clear hp; omega) (by clear hp; omega) (fun q => hq ((S_X7_minute_fr (f := 40) (i := 0) σ (by decide)).symm.trans q)) h (lv_sub hl [1, 2, 0] rfl) (Eq.mp (congrArg (fun z : Int32 × St => post z.1 z.2) ((S_X7_pass_22_s n σ p1 j2).trans ((if_neg c1).trans (if_pos c3)))) hp)
def S_X7_pass_17 (σ : St) (p1 : Int32) (y0 : Int32) : Int32 × St := S_X7_pass_22 501 (up2 σ 40 0 y0) p1 0
set_option maxRecDepth 100000 in
set_option maxHeartbeats 4000000 in
theorem K_X7_pass_17 {p : Program} {l : Launch} {e : Env} {s : State} {m : MethodId} {args : Array Value} {below : List Frame} {meth : Method} {c : Code} {D : va_G} {E : En} {A : Nat → Prop} {post : Int32 → St → Prop} (C : CX p s m meth c cX7_pass RX7 3 D E A) {σ : St} (ok : OK E σ) {p1 : Int32} {y0 : Int32} (hq : y0 = 0 → p1 ≤ nI 500) {H : Heap} {locs : List Loc} (h : HW D E σ A s H locs) (hr : meth.sig.returnType = some .int) {ls : Array Slot} (hl : lv_has ls 3 [(0, .ref (ead E 15)), (1, .int p1)]) (hp : post (S_X7_pass_17 σ p1 y0).1 (S_X7_pass_17 σ p1 y0).2) : W p l e rm_X7_pass s m args below meth c H locs 0 0 (MQ below (va_Qi post (POB D E A) A) args s 0 0 A) (F0 m 17 ls [.int y0, .ref (ead E 15)]) := by
  refine p_X7_74 C h dX7_pass_17 (fun H locs h => ?_)
  refine lv_iconst (v := 0) C.x C.b dX7_pass_20 (by decide) ?_
  refine lv_istore_n (lv' := [(2, .int 0), (0, .ref (ead E 15)), (1, .int p1)]) C.x C.b dX7_pass_21 rfl hl (by decide) rfl (fun ls hl => ?_)
  exact K_X7_pass_22 C hr 501 (j2 := 0) (ok.up (by decide) _ _) (by clear hp; omega) (by clear hp; omega) (show (up2 σ 40 0 y0) 40 0 = 0 → p1 ≤ nI 500 from hq) h (lv_sub hl [1, 2, 0] rfl) hp
def S_X7_pass (σ : St) (p1 : Int32) : Int32 × St := if (S_X7_in p1 1 500) = 0 then S_X7_pass_17 σ p1 1 else S_X7_pass_17 σ p1 0
set_option maxRecDepth 100000 in
set_option maxHeartbeats 4000000 in
theorem K_X7_pass_0 {p : Program} {l : Launch} {e : Env} {s : State} {m : MethodId} {args : Array Value} {below : List Frame} {meth : Method} {c : Code} {D : va_G} {E : En} {A : Nat → Prop} {post : Int32 → St → Prop} (C : CX p s m meth c cX7_pass RX7 3 D E A) {σ : St} (ok : OK E σ) {p1 : Int32} {H : Heap} {locs : List Loc} (h : HW D E σ A s H locs) (hr : meth.sig.returnType = some .int) {ls : Array Slot} (hl : lv_has ls 3 [(0, .ref (ead E 15)), (1, .int p1)]) (hp : post (S_X7_pass σ p1).1 (S_X7_pass σ p1).2) : W p l e rm_X7_pass s m args below meth c H locs 0 0 (MQ below (va_Qi post (POB D E A) A) args s 0 0 A) (F0 m 0 ls []) := by
  refine lv_aload_n C.x C.b dX7_pass_0 rfl (lv_at hl 0 rfl) ?_
  refine lv_iload_n C.x C.b dX7_pass_1 rfl (lv_at hl 1 rfl) ?_
  refine lv_iconst (v := 1) C.x C.b dX7_pass_2 (by decide) ?_
  refine lv_sipush (v := 500) C.x C.b dX7_pass_3 (by decide) ?_
  refine caSi (As := [.int p1, .int 1, .int 500]) (rest := [.ref (ead E 15)]) C h (M_X7_in l D E _ ok p1 1 500) cw_X7_77 m_st_X7_in rfl rfl ⟨Nat.le_of_ble_eq_true rfl, Nat.le_of_ble_eq_true rfl⟩ hl rfl (Nat.le_of_ble_eq_true rfl) dX7_pass_6 ⟨Nat.le_of_ble_eq_true rfl, Nat.le_of_ble_eq_true rfl⟩ (fun r u H locs w1 h => ?_)
  obtain ⟨rfl, rfl⟩ := w1
  refine lv_if_eq (tgt := 16) C.x C.b dX7_pass_9 (by decide) (fun c2 => ?_) (fun c2 => ?_)
  · skip
    refine lv_iconst (v := 1) C.x C.b dX7_pass_16 (by decide) ?_
    exact K_X7_pass_17 (y0 := 1) C ok (by first | exact fun _ => in_500 c2 | exact fun q => absurd q (by decide)) h hr (lv_sub hl [0, 1] rfl) (Eq.mp (congrArg (fun z : Int32 × St => post z.1 z.2) (if_pos c2)) hp)
  · skip
    refine lv_iconst (v := 0) C.x C.b dX7_pass_12 (by decide) ?_
    refine lv_goto (tgt := 17) C.x C.b dX7_pass_13 (by decide) ?_
    exact K_X7_pass_17 (y0 := 0) C ok (by first | exact fun _ => in_500 c2 | exact fun q => absurd q (by decide)) h hr (lv_sub hl [0, 1] rfl) (Eq.mp (congrArg (fun z : Int32 × St => post z.1 z.2) (if_neg c2)) hp)
theorem M_X7_pass (l : Launch) (D : va_G) (E : En) (σ : St) (ok : OK E σ) (p1 : Int32) : CO l yX7_pass cX7_pass 3 (some .int) rm_X7_pass [.ref (ead E 15), .int p1] D E σ (fun A => va_Qi (fun r u => (S_X7_pass σ p1).1 = r ∧ (S_X7_pass σ p1).2 = u) (POB D E A) A) 0 0 :=
  CO.of RX7 (by decide +kernel) rfl (Nat.le_of_ble_eq_true rfl) (fun p e s m below meth c A ls C h hr hl => K_X7_pass_0 C ok h hr hl ⟨rfl, rfl⟩)
-- X7_code code(I)I
abbrev rm_X7_code : Room := { frames := 2, cells := 0, slots := 0, locals := 43 }
def S_X7_code_13 (σ : St) (p1 : Int32) (y0 : Int32) : Int32 × St := if y0 ≤ 0 then ((S_X7_codeOf (up2 σ 40 0 y0) p1), (up2 σ 40 0 y0)) else (0, (up2 σ 40 0 y0))
set_option maxRecDepth 100000 in
set_option maxHeartbeats 4000000 in
theorem K_X7_code_13 {p : Program} {l : Launch} {e : Env} {s : State} {m : MethodId} {args : Array Value} {below : List Frame} {meth : Method} {c : Code} {D : va_G} {E : En} {A : Nat → Prop} {post : Int32 → St → Prop} (C : CX p s m meth c cX7_code RX7 2 D E A) {σ : St} (ok : OK E σ) {p1 : Int32} {y0 : Int32} (hq : y0 ≤ 0 → vp_in p1 3) {H : Heap} {locs : List Loc} (h : HW D E σ A s H locs) (hr : meth.sig.returnType = some .int) {ls : Array Slot} (hl : lv_has ls 2 [(0, .ref (ead E 15)), (1, .int p1)]) (hp : post (S_X7_code_13 σ p1 y0).1 (S_X7_code_13 σ p1 y0).2) : W p l e rm_X7_code s m args below meth c H locs 0 0 (MQ below (va_Qi post (POB D E A) A) args s 0 0 A) (F0 m 13 ls [.int y0, .ref (ead E 15)]) := by
  refine p_X7_74 C h dX7_code_13 (fun H locs h => ?_)
  refine lv_aload_n C.x C.b dX7_code_16 rfl (lv_at hl 0 rfl) ?_
  refine g_X7_74 C h dX7_code_17 ?_
  refine lv_if_le (tgt := 27) C.x C.b dX7_code_20 (by decide) (fun c1 => ?_) (fun c1 => ?_)
  · skip
    have h1 : vp_in p1 3 := hq c1
    refine lv_aload_n C.x C.b dX7_code_27 rfl (lv_at hl 0 rfl) ?_
    refine lv_iload_n C.x C.b dX7_code_28 rfl (lv_at hl 1 rfl) ?_
    refine caVi (As := [.int p1]) (rest := []) (q0 := 15) (ci := 7) C h (M_X7_codeOf l D E _ (ok.up (by decide) _ _) p1 h1) cw_X7_110 m_im_X7_codeOf m_se_X7_codeOf rfl rfl ⟨Nat.le_of_ble_eq_true rfl, Nat.le_of_ble_eq_true rfl⟩ rfl rfl hl rfl (Nat.le_of_ble_eq_true rfl) dX7_code_29 ⟨Nat.le_of_ble_eq_true rfl, Nat.le_of_ble_eq_true rfl⟩ (fun r u H locs w2 h => ?_)
    obtain ⟨rfl, rfl⟩ := w2
    exact rtI C h hr rfl dX7_code_32 (Eq.mp (congrArg (fun z : Int32 × St => post z.1 z.2) (if_pos c1)) hp)
  · skip
    refine lv_iconst (v := 0) C.x C.b dX7_code_23 (by decide) ?_
    refine lv_goto (tgt := 32) C.x C.b dX7_code_24 (by decide) ?_
    exact rtI C h hr rfl dX7_code_32 (Eq.mp (congrArg (fun z : Int32 × St => post z.1 z.2) (if_neg c1)) hp)
def S_X7_code (σ : St) (p1 : Int32) : Int32 × St := if (S_X7_isThird p1) = 0 then S_X7_code_13 σ p1 1 else S_X7_code_13 σ p1 0
set_option maxRecDepth 100000 in
set_option maxHeartbeats 4000000 in
theorem K_X7_code_0 {p : Program} {l : Launch} {e : Env} {s : State} {m : MethodId} {args : Array Value} {below : List Frame} {meth : Method} {c : Code} {D : va_G} {E : En} {A : Nat → Prop} {post : Int32 → St → Prop} (C : CX p s m meth c cX7_code RX7 2 D E A) {σ : St} (ok : OK E σ) {p1 : Int32} {H : Heap} {locs : List Loc} (h : HW D E σ A s H locs) (hr : meth.sig.returnType = some .int) {ls : Array Slot} (hl : lv_has ls 2 [(0, .ref (ead E 15)), (1, .int p1)]) (hp : post (S_X7_code σ p1).1 (S_X7_code σ p1).2) : W p l e rm_X7_code s m args below meth c H locs 0 0 (MQ below (va_Qi post (POB D E A) A) args s 0 0 A) (F0 m 0 ls []) := by
  refine lv_aload_n C.x C.b dX7_code_0 rfl (lv_at hl 0 rfl) ?_
  refine lv_iload_n C.x C.b dX7_code_1 rfl (lv_at hl 1 rfl) ?_
  refine caSi (As := [.int p1]) (rest := [.ref (ead E 15)]) C h (M_X7_isThird l D E _ ok p1) cw_X7_96 m_st_X7_isThird rfl rfl ⟨Nat.le_of_ble_eq_true rfl, Nat.le_of_ble_eq_true rfl⟩ hl rfl (Nat.le_of_ble_eq_true rfl) dX7_code_2 ⟨Nat.le_of_ble_eq_true rfl, Nat.le_of_ble_eq_true rfl⟩ (fun r u H locs w1 h => ?_)
  obtain ⟨rfl, rfl⟩ := w1
  refine lv_if_eq (tgt := 12) C.x C.b dX7_code_5 (by decide) (fun c2 => ?_) (fun c2 => ?_)
  · skip
    refine lv_iconst (v := 1) C.x C.b dX7_code_12 (by decide) ?_
    exact K_X7_code_13 (y0 := 1) C ok (by first | exact fun _ => in_02 c2 | exact fun q => absurd q (by decide)) h hr (lv_sub hl [0, 1] rfl) (Eq.mp (congrArg (fun z : Int32 × St => post z.1 z.2) (if_pos c2)) hp)
  · skip
    refine lv_iconst (v := 0) C.x C.b dX7_code_8 (by decide) ?_
    refine lv_goto (tgt := 13) C.x C.b dX7_code_9 (by decide) ?_
    exact K_X7_code_13 (y0 := 0) C ok (by first | exact fun _ => in_02 c2 | exact fun q => absurd q (by decide)) h hr (lv_sub hl [0, 1] rfl) (Eq.mp (congrArg (fun z : Int32 × St => post z.1 z.2) (if_neg c2)) hp)
theorem M_X7_code (l : Launch) (D : va_G) (E : En) (σ : St) (ok : OK E σ) (p1 : Int32) : CO l yX7_code cX7_code 2 (some .int) rm_X7_code [.ref (ead E 15), .int p1] D E σ (fun A => va_Qi (fun r u => (S_X7_code σ p1).1 = r ∧ (S_X7_code σ p1).2 = u) (POB D E A) A) 0 0 :=
  CO.of RX7 (by decide +kernel) rfl (Nat.le_of_ble_eq_true rfl) (fun p e s m below meth c A ls C h hr hl => K_X7_code_0 C ok h hr hl ⟨rfl, rfl⟩)
-- X7_thirdOf thirdOf(II)I
abbrev rm_X7_thirdOf : Room := { frames := 2, cells := 0, slots := 0, locals := 42 }
def S_X7_thirdOf_26 (σ : St) (p1 : Int32) (p2 : Int32) (y0 : Int32) : Int32 × St := if y0 ≤ 0 then (if p2 = 0 then ((σ 46 p1.toNatClampNeg), (up2 σ 40 0 y0)) else if p2 = 1 then ((σ 47 p1.toNatClampNeg), (up2 σ 40 0 y0)) else if p2 = 2 then (if (S_X7_isSprayed (up2 σ 40 0 y0) p1) = 0 then (0, (up2 σ 40 0 y0)) else (1, (up2 σ 40 0 y0))) else ((S_X7_lies (up2 σ 40 0 y0) p1), (up2 σ 40 0 y0))) else (0, (up2 σ 40 0 y0))
set_option maxRecDepth 100000 in
set_option maxHeartbeats 4000000 in
theorem K_X7_thirdOf_26 {p : Program} {l : Launch} {e : Env} {s : State} {m : MethodId} {args : Array Value} {below : List Frame} {meth : Method} {c : Code} {D : va_G} {E : En} {A : Nat → Prop} {post : Int32 → St → Prop} (C : CX p s m meth c cX7_thirdOf RX7 3 D E A) {σ : St} (ok : OK E σ) {p1 : Int32} {p2 : Int32} {y0 : Int32} (hq : y0 ≤ 0 → vp_in p1 3) {H : Heap} {locs : List Loc} (h : HW D E σ A s H locs) (hr : meth.sig.returnType = some .int) {ls : Array Slot} (hl : lv_has ls 3 [(0, .ref (ead E 15)), (1, .int p1), (2, .int p2)]) (hp : post (S_X7_thirdOf_26 σ p1 p2 y0).1 (S_X7_thirdOf_26 σ p1 p2 y0).2) : W p l e rm_X7_thirdOf s m args below meth c H locs 0 0 (MQ below (va_Qi post (POB D E A) A) args s 0 0 A) (F0 m 26 ls [.int y0, .ref (ead E 15)]) := by
  refine p_X7_74 C h dX7_thirdOf_26 (fun H locs h => ?_)
  refine lv_aload_n C.x C.b dX7_thirdOf_29 rfl (lv_at hl 0 rfl) ?_
  refine g_X7_74 C h dX7_thirdOf_30 ?_
  refine lv_if_le (tgt := 38) C.x C.b dX7_thirdOf_33 (by decide) (fun c1 => ?_) (fun c1 => ?_)
  · skip
    have h1 : vp_in p1 3 := hq c1
    refine lv_iload_n C.x C.b dX7_thirdOf_38 rfl (lv_at hl 2 rfl) ?_
    refine lv_if_ne (tgt := 51) C.x C.b dX7_thirdOf_39 (by decide) (fun c2 => ?_) (fun c2 => ?_)
    · skip
      refine lv_iload_n C.x C.b dX7_thirdOf_51 rfl (lv_at hl 2 rfl) ?_
      refine lv_iconst (v := 1) C.x C.b dX7_thirdOf_52 (by decide) ?_
      refine lv_icmp_ne (tgt := 65) C.x C.b dX7_thirdOf_53 (by decide) (fun c3 => ?_) (fun c3 => ?_)
      · skip
        refine lv_iload_n C.x C.b dX7_thirdOf_65 rfl (lv_at hl 2 rfl) ?_
        refine lv_iconst (v := 2) C.x C.b dX7_thirdOf_66 (by decide) ?_
        refine lv_icmp_ne (tgt := 86) C.x C.b dX7_thirdOf_67 (by decide) (fun c4 => ?_) (fun c4 => ?_)
        · skip
          refine lv_aload_n C.x C.b dX7_thirdOf_86 rfl (lv_at hl 0 rfl) ?_
          refine lv_iload_n C.x C.b dX7_thirdOf_87 rfl (lv_at hl 1 rfl) ?_
          refine caVi (As := [.int p1]) (rest := []) (q0 := 15) (ci := 7) C h (M_X7_lies l D E _ (ok.up (by decide) _ _) p1 h1) cw_X7_106 m_im_X7_lies m_se_X7_lies rfl rfl ⟨Nat.le_of_ble_eq_true rfl, Nat.le_of_ble_eq_true rfl⟩ rfl rfl hl rfl (Nat.le_of_ble_eq_true rfl) dX7_thirdOf_88 ⟨Nat.le_of_ble_eq_true rfl, Nat.le_of_ble_eq_true rfl⟩ (fun r u H locs w5 h => ?_)
          obtain ⟨rfl, rfl⟩ := w5
          exact rtI C h hr rfl dX7_thirdOf_91 (Eq.mp (congrArg (fun z : Int32 × St => post z.1 z.2) ((if_pos c1).trans ((if_neg c2).trans ((if_neg c3).trans (if_neg c4))))) hp)
        · skip
          refine lv_aload_n C.x C.b dX7_thirdOf_70 rfl (lv_at hl 0 rfl) ?_
          refine lv_iload_n C.x C.b dX7_thirdOf_71 rfl (lv_at hl 1 rfl) ?_
          refine caVi (As := [.int p1]) (rest := []) (q0 := 15) (ci := 7) C h (M_X7_isSprayed l D E _ (ok.up (by decide) _ _) p1 h1) cw_X7_139 m_im_X7_isSprayed m_se_X7_isSprayed rfl rfl ⟨Nat.le_of_ble_eq_true rfl, Nat.le_of_ble_eq_true rfl⟩ rfl rfl hl rfl (Nat.le_of_ble_eq_true rfl) dX7_thirdOf_72 ⟨Nat.le_of_ble_eq_true rfl, Nat.le_of_ble_eq_true rfl⟩ (fun r u H locs w6 h => ?_)
          obtain ⟨rfl, rfl⟩ := w6
          refine lv_if_eq (tgt := 82) C.x C.b dX7_thirdOf_75 (by decide) (fun c7 => ?_) (fun c7 => ?_)
          · skip
            refine lv_iconst (v := 0) C.x C.b dX7_thirdOf_82 (by decide) ?_
            refine lv_goto (tgt := 91) C.x C.b dX7_thirdOf_83 (by decide) ?_
            exact rtI C h hr rfl dX7_thirdOf_91 (Eq.mp (congrArg (fun z : Int32 × St => post z.1 z.2) ((if_pos c1).trans ((if_neg c2).trans ((if_neg c3).trans ((if_pos c4).trans (if_pos c7)))))) hp)
          · skip
            refine lv_iconst (v := 1) C.x C.b dX7_thirdOf_78 (by decide) ?_
            refine lv_goto (tgt := 91) C.x C.b dX7_thirdOf_79 (by decide) ?_
            exact rtI C h hr rfl dX7_thirdOf_91 (Eq.mp (congrArg (fun z : Int32 × St => post z.1 z.2) ((if_pos c1).trans ((if_neg c2).trans ((if_neg c3).trans ((if_pos c4).trans (if_neg c7)))))) hp)
      · skip
        refine lv_aload_n C.x C.b dX7_thirdOf_56 rfl (lv_at hl 0 rfl) ?_
        refine g_X7_13 C h dX7_thirdOf_57 ?_
        refine lv_iload_n C.x C.b dX7_thirdOf_60 rfl (lv_at hl 1 rfl) ?_
        refine al_17 C h h1 dX7_thirdOf_61 ?_
        refine lv_goto (tgt := 91) C.x C.b dX7_thirdOf_62 (by decide) ?_
        exact rtI C h hr rfl dX7_thirdOf_91 (Eq.mp (congrArg (fun z : Int32 × St => post z.1 z.2) ((if_pos c1).trans ((if_neg c2).trans (if_pos c3)))) hp)
    · skip
      refine lv_aload_n C.x C.b dX7_thirdOf_42 rfl (lv_at hl 0 rfl) ?_
      refine g_X7_7 C h dX7_thirdOf_43 ?_
      refine lv_iload_n C.x C.b dX7_thirdOf_46 rfl (lv_at hl 1 rfl) ?_
      refine al_16 C h h1 dX7_thirdOf_47 ?_
      refine lv_goto (tgt := 91) C.x C.b dX7_thirdOf_48 (by decide) ?_
      exact rtI C h hr rfl dX7_thirdOf_91 (Eq.mp (congrArg (fun z : Int32 × St => post z.1 z.2) ((if_pos c1).trans (if_pos c2))) hp)
  · skip
    refine lv_iconst (v := 0) C.x C.b dX7_thirdOf_36 (by decide) ?_
    exact rtI C h hr rfl dX7_thirdOf_37 (Eq.mp (congrArg (fun z : Int32 × St => post z.1 z.2) (if_neg c1)) hp)
def S_X7_thirdOf (σ : St) (p1 : Int32) (p2 : Int32) : Int32 × St := if (S_X7_isThird p1) = 0 then S_X7_thirdOf_26 σ p1 p2 1 else if (S_X7_in p2 0 3) = 0 then S_X7_thirdOf_26 σ p1 p2 2 else S_X7_thirdOf_26 σ p1 p2 0
set_option maxRecDepth 100000 in
set_option maxHeartbeats 4000000 in
theorem K_X7_thirdOf_0 {p : Program} {l : Launch} {e : Env} {s : State} {m : MethodId} {args : Array Value} {below : List Frame} {meth : Method} {c : Code} {D : va_G} {E : En} {A : Nat → Prop} {post : Int32 → St → Prop} (C : CX p s m meth c cX7_thirdOf RX7 3 D E A) {σ : St} (ok : OK E σ) {p1 : Int32} {p2 : Int32} {H : Heap} {locs : List Loc} (h : HW D E σ A s H locs) (hr : meth.sig.returnType = some .int) {ls : Array Slot} (hl : lv_has ls 3 [(0, .ref (ead E 15)), (1, .int p1), (2, .int p2)]) (hp : post (S_X7_thirdOf σ p1 p2).1 (S_X7_thirdOf σ p1 p2).2) : W p l e rm_X7_thirdOf s m args below meth c H locs 0 0 (MQ below (va_Qi post (POB D E A) A) args s 0 0 A) (F0 m 0 ls []) := by
  refine lv_aload_n C.x C.b dX7_thirdOf_0 rfl (lv_at hl 0 rfl) ?_
  refine lv_iload_n C.x C.b dX7_thirdOf_1 rfl (lv_at hl 1 rfl) ?_
  refine caSi (As := [.int p1]) (rest := [.ref (ead E 15)]) C h (M_X7_isThird l D E _ ok p1) cw_X7_96 m_st_X7_isThird rfl rfl ⟨Nat.le_of_ble_eq_true rfl, Nat.le_of_ble_eq_true rfl⟩ hl rfl (Nat.le_of_ble_eq_true rfl) dX7_thirdOf_2 ⟨Nat.le_of_ble_eq_true rfl, Nat.le_of_ble_eq_true rfl⟩ (fun r u H locs w1 h => ?_)
  obtain ⟨rfl, rfl⟩ := w1
  refine lv_if_ne (tgt := 12) C.x C.b dX7_thirdOf_5 (by decide) (fun c2 => ?_) (fun c2 => ?_)
  · skip
    refine lv_iload_n C.x C.b dX7_thirdOf_12 rfl (lv_at hl 2 rfl) ?_
    refine lv_iconst (v := 0) C.x C.b dX7_thirdOf_13 (by decide) ?_
    refine lv_iconst (v := 3) C.x C.b dX7_thirdOf_14 (by decide) ?_
    refine caSi (As := [.int p2, .int 0, .int 3]) (rest := [.ref (ead E 15)]) C h (M_X7_in l D E _ ok p2 0 3) cw_X7_77 m_st_X7_in rfl rfl ⟨Nat.le_of_ble_eq_true rfl, Nat.le_of_ble_eq_true rfl⟩ hl rfl (Nat.le_of_ble_eq_true rfl) dX7_thirdOf_15 ⟨Nat.le_of_ble_eq_true rfl, Nat.le_of_ble_eq_true rfl⟩ (fun r u H locs w3 h => ?_)
    obtain ⟨rfl, rfl⟩ := w3
    refine lv_if_eq (tgt := 25) C.x C.b dX7_thirdOf_18 (by decide) (fun c4 => ?_) (fun c4 => ?_)
    · skip
      refine lv_iconst (v := 2) C.x C.b dX7_thirdOf_25 (by decide) ?_
      exact K_X7_thirdOf_26 (y0 := 2) C ok (by first | exact fun _ => in_02 c2 | exact fun q => absurd q (by decide)) h hr (lv_sub hl [0, 1, 2] rfl) (Eq.mp (congrArg (fun z : Int32 × St => post z.1 z.2) ((if_neg c2).trans (if_pos c4))) hp)
    · skip
      refine lv_iconst (v := 0) C.x C.b dX7_thirdOf_21 (by decide) ?_
      refine lv_goto (tgt := 26) C.x C.b dX7_thirdOf_22 (by decide) ?_
      exact K_X7_thirdOf_26 (y0 := 0) C ok (by first | exact fun _ => in_02 c2 | exact fun q => absurd q (by decide)) h hr (lv_sub hl [0, 1, 2] rfl) (Eq.mp (congrArg (fun z : Int32 × St => post z.1 z.2) ((if_neg c2).trans (if_neg c4))) hp)
  · skip
    refine lv_iconst (v := 1) C.x C.b dX7_thirdOf_8 (by decide) ?_
    refine lv_goto (tgt := 26) C.x C.b dX7_thirdOf_9 (by decide) ?_
    exact K_X7_thirdOf_26 (y0 := 1) C ok (by first | exact fun _ => in_02 c2 | exact fun q => absurd q (by decide)) h hr (lv_sub hl [0, 1, 2] rfl) (Eq.mp (congrArg (fun z : Int32 × St => post z.1 z.2) (if_pos c2)) hp)
theorem M_X7_thirdOf (l : Launch) (D : va_G) (E : En) (σ : St) (ok : OK E σ) (p1 : Int32) (p2 : Int32) : CO l yX7_thirdOf cX7_thirdOf 3 (some .int) rm_X7_thirdOf [.ref (ead E 15), .int p1, .int p2] D E σ (fun A => va_Qi (fun r u => (S_X7_thirdOf σ p1 p2).1 = r ∧ (S_X7_thirdOf σ p1 p2).2 = u) (POB D E A) A) 0 0 :=
  CO.of RX7 (by decide +kernel) rfl (Nat.le_of_ble_eq_true rfl) (fun p e s m below meth c A ls C h hr hl => K_X7_thirdOf_0 C ok h hr hl ⟨rfl, rfl⟩)
-- X7_isGood isGood()Z
abbrev rm_X7_isGood : Room := { frames := 3, cells := 0, slots := 0, locals := 64 }
def S_X7_isGood (σ : St) : Int32 × St := if (S_X7_isClosed (up2 σ 40 0 0)) = 0 then (if (S_X7_areEnough (up2 σ 40 0 0)) = 0 then (0, (up2 σ 40 0 0)) else (1, (up2 σ 40 0 0))) else (0, (up2 σ 40 0 0))
set_option maxRecDepth 100000 in
set_option maxHeartbeats 4000000 in
theorem K_X7_isGood_0 {p : Program} {l : Launch} {e : Env} {s : State} {m : MethodId} {args : Array Value} {below : List Frame} {meth : Method} {c : Code} {D : va_G} {E : En} {A : Nat → Prop} {post : Int32 → St → Prop} (C : CX p s m meth c cX7_isGood RX7 1 D E A) {σ : St} (ok : OK E σ) {H : Heap} {locs : List Loc} (h : HW D E σ A s H locs) (hr : meth.sig.returnType = some .boolean) {ls : Array Slot} (hl : lv_has ls 1 [(0, .ref (ead E 15))]) (hp : post (S_X7_isGood σ).1 (S_X7_isGood σ).2) : W p l e rm_X7_isGood s m args below meth c H locs 0 0 (MQ below (va_Qi post (POB D E A) A) args s 0 0 A) (F0 m 0 ls []) := by
  refine lv_aload_n C.x C.b dX7_isGood_0 rfl (lv_at hl 0 rfl) ?_
  refine lv_iconst (v := 0) C.x C.b dX7_isGood_1 (by decide) ?_
  refine p_X7_74 C h dX7_isGood_2 (fun H locs h => ?_)
  refine lv_aload_n C.x C.b dX7_isGood_5 rfl (lv_at hl 0 rfl) ?_
  refine caVi (As := []) (rest := []) (q0 := 15) (ci := 7) C h (M_X7_isClosed l D E _ (ok.up (by decide) _ _)) cw_X7_160 m_im_X7_isClosed m_se_X7_isClosed rfl rfl ⟨Nat.le_of_ble_eq_true rfl, Nat.le_of_ble_eq_true rfl⟩ rfl rfl hl rfl (Nat.le_of_ble_eq_true rfl) dX7_isGood_6 ⟨Nat.le_of_ble_eq_true rfl, Nat.le_of_ble_eq_true rfl⟩ (fun r u H locs w1 h => ?_)
  obtain ⟨rfl, rfl⟩ := w1
  refine lv_if_ne (tgt := 23) C.x C.b dX7_isGood_9 (by decide) (fun c2 => ?_) (fun c2 => ?_)
  · skip
    refine lv_iconst (v := 0) C.x C.b dX7_isGood_23 (by decide) ?_
    exact rtI C h hr rfl dX7_isGood_24 (Eq.mp (congrArg (fun z : Int32 × St => post z.1 z.2) (if_neg c2)) hp)
  · skip
    refine lv_aload_n C.x C.b dX7_isGood_12 rfl (lv_at hl 0 rfl) ?_
    refine caVi (As := []) (rest := []) (q0 := 15) (ci := 7) C h (M_X7_areEnough l D E _ (ok.up (by decide) _ _)) cw_X7_172 m_im_X7_areEnough m_se_X7_areEnough rfl rfl ⟨Nat.le_of_ble_eq_true rfl, Nat.le_of_ble_eq_true rfl⟩ rfl rfl hl rfl (Nat.le_of_ble_eq_true rfl) dX7_isGood_13 ⟨Nat.le_of_ble_eq_true rfl, Nat.le_of_ble_eq_true rfl⟩ (fun r u H locs w3 h => ?_)
    obtain ⟨rfl, rfl⟩ := w3
    refine lv_if_eq (tgt := 23) C.x C.b dX7_isGood_16 (by decide) (fun c4 => ?_) (fun c4 => ?_)
    · skip
      refine lv_iconst (v := 0) C.x C.b dX7_isGood_23 (by decide) ?_
      exact rtI C h hr rfl dX7_isGood_24 (Eq.mp (congrArg (fun z : Int32 × St => post z.1 z.2) ((if_pos c2).trans (if_pos c4))) hp)
    · skip
      refine lv_iconst (v := 1) C.x C.b dX7_isGood_19 (by decide) ?_
      refine lv_goto (tgt := 24) C.x C.b dX7_isGood_20 (by decide) ?_
      exact rtI C h hr rfl dX7_isGood_24 (Eq.mp (congrArg (fun z : Int32 × St => post z.1 z.2) ((if_pos c2).trans (if_neg c4))) hp)
theorem M_X7_isGood (l : Launch) (D : va_G) (E : En) (σ : St) (ok : OK E σ) : CO l yX7_isGood cX7_isGood 1 (some .boolean) rm_X7_isGood [.ref (ead E 15)] D E σ (fun A => va_Qi (fun r u => (S_X7_isGood σ).1 = r ∧ (S_X7_isGood σ).2 = u) (POB D E A) A) 0 0 :=
  CO.of RX7 (by decide +kernel) rfl (Nat.le_of_ble_eq_true rfl) (fun p e s m below meth c A ls C h hr hl => K_X7_isGood_0 C ok h hr hl ⟨rfl, rfl⟩)
-- X7_aircraftOf aircraftOf(II)I
abbrev rm_X7_aircraftOf : Room := { frames := 2, cells := 0, slots := 0, locals := 43 }
def S_X7_aircraftOf_27 (σ : St) (p1 : Int32) (p2 : Int32) (y0 : Int32) : Int32 × St := if y0 ≤ 0 then (if 2 ≤ p2 then (if p2 = 2 then ((σ 61 p1.toNatClampNeg), (up2 σ 40 0 y0)) else if p2 = 3 then ((σ 62 p1.toNatClampNeg), (up2 σ 40 0 y0)) else ((σ 63 p1.toNatClampNeg), (up2 σ 40 0 y0))) else if p2 = 0 then ((σ 59 p1.toNatClampNeg), (up2 σ 40 0 y0)) else ((σ 60 p1.toNatClampNeg), (up2 σ 40 0 y0))) else (0, (up2 σ 40 0 y0))
set_option maxRecDepth 100000 in
set_option maxHeartbeats 4000000 in
theorem K_X7_aircraftOf_27 {p : Program} {l : Launch} {e : Env} {s : State} {m : MethodId} {args : Array Value} {below : List Frame} {meth : Method} {c : Code} {D : va_G} {E : En} {A : Nat → Prop} {post : Int32 → St → Prop} (C : CX p s m meth c cX7_aircraftOf RX7 3 D E A) {σ : St} (ok : OK E σ) {p1 : Int32} {p2 : Int32} {y0 : Int32} (hq : y0 ≤ 0 → vp_in p1 20) {H : Heap} {locs : List Loc} (h : HW D E σ A s H locs) (hr : meth.sig.returnType = some .int) {ls : Array Slot} (hl : lv_has ls 3 [(0, .ref (ead E 15)), (1, .int p1), (2, .int p2)]) (hp : post (S_X7_aircraftOf_27 σ p1 p2 y0).1 (S_X7_aircraftOf_27 σ p1 p2 y0).2) : W p l e rm_X7_aircraftOf s m args below meth c H locs 0 0 (MQ below (va_Qi post (POB D E A) A) args s 0 0 A) (F0 m 27 ls [.int y0, .ref (ead E 15)]) := by
  refine p_X7_74 C h dX7_aircraftOf_27 (fun H locs h => ?_)
  refine lv_aload_n C.x C.b dX7_aircraftOf_30 rfl (lv_at hl 0 rfl) ?_
  refine g_X7_74 C h dX7_aircraftOf_31 ?_
  refine lv_if_le (tgt := 39) C.x C.b dX7_aircraftOf_34 (by decide) (fun c1 => ?_) (fun c1 => ?_)
  · skip
    have h1 : vp_in p1 20 := hq c1
    refine lv_iload_n C.x C.b dX7_aircraftOf_39 rfl (lv_at hl 2 rfl) ?_
    refine lv_iconst (v := 2) C.x C.b dX7_aircraftOf_40 (by decide) ?_
    refine lv_icmp_ge (tgt := 64) C.x C.b dX7_aircraftOf_41 (by decide) (fun c2 => ?_) (fun c2 => ?_)
    · skip
      refine lv_iload_n C.x C.b dX7_aircraftOf_64 rfl (lv_at hl 2 rfl) ?_
      refine lv_iconst (v := 2) C.x C.b dX7_aircraftOf_65 (by decide) ?_
      refine lv_icmp_ne (tgt := 78) C.x C.b dX7_aircraftOf_66 (by decide) (fun c3 => ?_) (fun c3 => ?_)
      · skip
        refine lv_iload_n C.x C.b dX7_aircraftOf_78 rfl (lv_at hl 2 rfl) ?_
        refine lv_iconst (v := 3) C.x C.b dX7_aircraftOf_79 (by decide) ?_
        refine lv_icmp_ne (tgt := 92) C.x C.b dX7_aircraftOf_80 (by decide) (fun c4 => ?_) (fun c4 => ?_)
        · skip
          refine lv_aload_n C.x C.b dX7_aircraftOf_92 rfl (lv_at hl 0 rfl) ?_
          refine g_X7_56 C h dX7_aircraftOf_93 ?_
          refine lv_iload_n C.x C.b dX7_aircraftOf_96 rfl (lv_at hl 1 rfl) ?_
          refine al_30 C h h1 dX7_aircraftOf_97 ?_
          exact rtI C h hr rfl dX7_aircraftOf_98 (Eq.mp (congrArg (fun z : Int32 × St => post z.1 z.2) ((if_pos c1).trans ((if_pos c2).trans ((if_neg c3).trans (if_neg c4))))) hp)
        · skip
          refine lv_aload_n C.x C.b dX7_aircraftOf_83 rfl (lv_at hl 0 rfl) ?_
          refine g_X7_53 C h dX7_aircraftOf_84 ?_
          refine lv_iload_n C.x C.b dX7_aircraftOf_87 rfl (lv_at hl 1 rfl) ?_
          refine al_29 C h h1 dX7_aircraftOf_88 ?_
          refine lv_goto (tgt := 98) C.x C.b dX7_aircraftOf_89 (by decide) ?_
          exact rtI C h hr rfl dX7_aircraftOf_98 (Eq.mp (congrArg (fun z : Int32 × St => post z.1 z.2) ((if_pos c1).trans ((if_pos c2).trans ((if_neg c3).trans (if_pos c4))))) hp)
      · skip
        refine lv_aload_n C.x C.b dX7_aircraftOf_69 rfl (lv_at hl 0 rfl) ?_
        refine g_X7_50 C h dX7_aircraftOf_70 ?_
        refine lv_iload_n C.x C.b dX7_aircraftOf_73 rfl (lv_at hl 1 rfl) ?_
        refine al_28 C h h1 dX7_aircraftOf_74 ?_
        refine lv_goto (tgt := 98) C.x C.b dX7_aircraftOf_75 (by decide) ?_
        exact rtI C h hr rfl dX7_aircraftOf_98 (Eq.mp (congrArg (fun z : Int32 × St => post z.1 z.2) ((if_pos c1).trans ((if_pos c2).trans (if_pos c3)))) hp)
    · skip
      refine lv_iload_n C.x C.b dX7_aircraftOf_44 rfl (lv_at hl 2 rfl) ?_
      refine lv_if_ne (tgt := 57) C.x C.b dX7_aircraftOf_45 (by decide) (fun c5 => ?_) (fun c5 => ?_)
      · skip
        refine lv_aload_n C.x C.b dX7_aircraftOf_57 rfl (lv_at hl 0 rfl) ?_
        refine g_X7_47 C h dX7_aircraftOf_58 ?_
        refine lv_iload_n C.x C.b dX7_aircraftOf_61 rfl (lv_at hl 1 rfl) ?_
        refine al_27 C h h1 dX7_aircraftOf_62 ?_
        exact rtI C h hr rfl dX7_aircraftOf_63 (Eq.mp (congrArg (fun z : Int32 × St => post z.1 z.2) ((if_pos c1).trans ((if_neg c2).trans (if_neg c5)))) hp)
      · skip
        refine lv_aload_n C.x C.b dX7_aircraftOf_48 rfl (lv_at hl 0 rfl) ?_
        refine g_X7_44 C h dX7_aircraftOf_49 ?_
        refine lv_iload_n C.x C.b dX7_aircraftOf_52 rfl (lv_at hl 1 rfl) ?_
        refine al_26 C h h1 dX7_aircraftOf_53 ?_
        refine lv_goto (tgt := 63) C.x C.b dX7_aircraftOf_54 (by decide) ?_
        exact rtI C h hr rfl dX7_aircraftOf_63 (Eq.mp (congrArg (fun z : Int32 × St => post z.1 z.2) ((if_pos c1).trans ((if_neg c2).trans (if_pos c5)))) hp)
  · skip
    refine lv_iconst (v := 0) C.x C.b dX7_aircraftOf_37 (by decide) ?_
    exact rtI C h hr rfl dX7_aircraftOf_38 (Eq.mp (congrArg (fun z : Int32 × St => post z.1 z.2) (if_neg c1)) hp)
def S_X7_aircraftOf (σ : St) (p1 : Int32) (p2 : Int32) : Int32 × St := if (S_X7_isAircraft σ p1) = 0 then S_X7_aircraftOf_27 σ p1 p2 1 else if (S_X7_in p2 0 4) = 0 then S_X7_aircraftOf_27 σ p1 p2 2 else S_X7_aircraftOf_27 σ p1 p2 0
set_option maxRecDepth 100000 in
set_option maxHeartbeats 4000000 in
theorem K_X7_aircraftOf_0 {p : Program} {l : Launch} {e : Env} {s : State} {m : MethodId} {args : Array Value} {below : List Frame} {meth : Method} {c : Code} {D : va_G} {E : En} {A : Nat → Prop} {post : Int32 → St → Prop} (C : CX p s m meth c cX7_aircraftOf RX7 3 D E A) {σ : St} (ok : OK E σ) {p1 : Int32} {p2 : Int32} {H : Heap} {locs : List Loc} (h : HW D E σ A s H locs) (hr : meth.sig.returnType = some .int) {ls : Array Slot} (hl : lv_has ls 3 [(0, .ref (ead E 15)), (1, .int p1), (2, .int p2)]) (hp : post (S_X7_aircraftOf σ p1 p2).1 (S_X7_aircraftOf σ p1 p2).2) : W p l e rm_X7_aircraftOf s m args below meth c H locs 0 0 (MQ below (va_Qi post (POB D E A) A) args s 0 0 A) (F0 m 0 ls []) := by
  refine lv_aload_n C.x C.b dX7_aircraftOf_0 rfl (lv_at hl 0 rfl) ?_
  refine lv_aload_n C.x C.b dX7_aircraftOf_1 rfl (lv_at hl 0 rfl) ?_
  refine lv_iload_n C.x C.b dX7_aircraftOf_2 rfl (lv_at hl 1 rfl) ?_
  refine caVi (As := [.int p1]) (rest := [.ref (ead E 15)]) (q0 := 15) (ci := 7) C h (M_X7_isAircraft l D E _ ok p1) cw_X7_120 m_im_X7_isAircraft m_se_X7_isAircraft rfl rfl ⟨Nat.le_of_ble_eq_true rfl, Nat.le_of_ble_eq_true rfl⟩ rfl rfl hl rfl (Nat.le_of_ble_eq_true rfl) dX7_aircraftOf_3 ⟨Nat.le_of_ble_eq_true rfl, Nat.le_of_ble_eq_true rfl⟩ (fun r u H locs w1 h => ?_)
  obtain ⟨rfl, rfl⟩ := w1
  refine lv_if_ne (tgt := 13) C.x C.b dX7_aircraftOf_6 (by decide) (fun c2 => ?_) (fun c2 => ?_)
  · skip
    refine lv_iload_n C.x C.b dX7_aircraftOf_13 rfl (lv_at hl 2 rfl) ?_
    refine lv_iconst (v := 0) C.x C.b dX7_aircraftOf_14 (by decide) ?_
    refine lv_iconst (v := 4) C.x C.b dX7_aircraftOf_15 (by decide) ?_
    refine caSi (As := [.int p2, .int 0, .int 4]) (rest := [.ref (ead E 15)]) C h (M_X7_in l D E _ ok p2 0 4) cw_X7_77 m_st_X7_in rfl rfl ⟨Nat.le_of_ble_eq_true rfl, Nat.le_of_ble_eq_true rfl⟩ hl rfl (Nat.le_of_ble_eq_true rfl) dX7_aircraftOf_16 ⟨Nat.le_of_ble_eq_true rfl, Nat.le_of_ble_eq_true rfl⟩ (fun r u H locs w3 h => ?_)
    obtain ⟨rfl, rfl⟩ := w3
    refine lv_if_eq (tgt := 26) C.x C.b dX7_aircraftOf_19 (by decide) (fun c4 => ?_) (fun c4 => ?_)
    · skip
      refine lv_iconst (v := 2) C.x C.b dX7_aircraftOf_26 (by decide) ?_
      exact K_X7_aircraftOf_27 (y0 := 2) C ok (by first | exact fun _ => in_n ok c2 | exact fun q => absurd q (by decide)) h hr (lv_sub hl [0, 1, 2] rfl) (Eq.mp (congrArg (fun z : Int32 × St => post z.1 z.2) ((if_neg c2).trans (if_pos c4))) hp)
    · skip
      refine lv_iconst (v := 0) C.x C.b dX7_aircraftOf_22 (by decide) ?_
      refine lv_goto (tgt := 27) C.x C.b dX7_aircraftOf_23 (by decide) ?_
      exact K_X7_aircraftOf_27 (y0 := 0) C ok (by first | exact fun _ => in_n ok c2 | exact fun q => absurd q (by decide)) h hr (lv_sub hl [0, 1, 2] rfl) (Eq.mp (congrArg (fun z : Int32 × St => post z.1 z.2) ((if_neg c2).trans (if_neg c4))) hp)
  · skip
    refine lv_iconst (v := 1) C.x C.b dX7_aircraftOf_9 (by decide) ?_
    refine lv_goto (tgt := 27) C.x C.b dX7_aircraftOf_10 (by decide) ?_
    exact K_X7_aircraftOf_27 (y0 := 1) C ok (by first | exact fun _ => in_n ok c2 | exact fun q => absurd q (by decide)) h hr (lv_sub hl [0, 1, 2] rfl) (Eq.mp (congrArg (fun z : Int32 × St => post z.1 z.2) (if_pos c2)) hp)
theorem M_X7_aircraftOf (l : Launch) (D : va_G) (E : En) (σ : St) (ok : OK E σ) (p1 : Int32) (p2 : Int32) : CO l yX7_aircraftOf cX7_aircraftOf 3 (some .int) rm_X7_aircraftOf [.ref (ead E 15), .int p1, .int p2] D E σ (fun A => va_Qi (fun r u => (S_X7_aircraftOf σ p1 p2).1 = r ∧ (S_X7_aircraftOf σ p1 p2).2 = u) (POB D E A) A) 0 0 :=
  CO.of RX7 (by decide +kernel) rfl (Nat.le_of_ble_eq_true rfl) (fun p e s m below meth c A ls C h hr hl => K_X7_aircraftOf_0 C ok h hr hl ⟨rfl, rfl⟩)
-- X7_clock clock(I)D
abbrev rm_X7_clock : Room := { frames := 2, cells := 0, slots := 0, locals := 43 }
def S_X7_clock_27 (σ : St) (p1 : Int32) (y0 : Int32) : UInt64 × St := if y0 ≤ 0 then ((S_X7_clockOf (up2 σ 40 0 y0) p1), (up2 σ 40 0 y0)) else (FP.dconst0, (up2 σ 40 0 y0))
set_option maxRecDepth 100000 in
set_option maxHeartbeats 4000000 in
theorem K_X7_clock_27 {p : Program} {l : Launch} {e : Env} {s : State} {m : MethodId} {args : Array Value} {below : List Frame} {meth : Method} {c : Code} {D : va_G} {E : En} {A : Nat → Prop} {post : UInt64 → St → Prop} (C : CX p s m meth c cX7_clock RX7 2 D E A) {σ : St} (ok : OK E σ) {p1 : Int32} {y0 : Int32} (hq : y0 ≤ 0 → vp_in p1 20) {H : Heap} {locs : List Loc} (h : HW D E σ A s H locs) (hr : meth.sig.returnType = some .double) {ls : Array Slot} (hl : lv_has ls 2 [(0, .ref (ead E 15)), (1, .int p1)]) (hp : post (S_X7_clock_27 σ p1 y0).1 (S_X7_clock_27 σ p1 y0).2) : W p l e rm_X7_clock s m args below meth c H locs 0 0 (MQ below (va_Qd post (POB D E A) A) args s 0 0 A) (F0 m 27 ls [.int y0, .ref (ead E 15)]) := by
  refine p_X7_74 C h dX7_clock_27 (fun H locs h => ?_)
  refine lv_aload_n C.x C.b dX7_clock_30 rfl (lv_at hl 0 rfl) ?_
  refine g_X7_74 C h dX7_clock_31 ?_
  refine lv_if_le (tgt := 41) C.x C.b dX7_clock_34 (by decide) (fun c1 => ?_) (fun c1 => ?_)
  · skip
    have a1 : vp_in p1 20 := hq c1
    refine lv_aload_n C.x C.b dX7_clock_41 rfl (lv_at hl 0 rfl) ?_
    refine lv_iload_n C.x C.b dX7_clock_42 rfl (lv_at hl 1 rfl) ?_
    refine caVd (As := [.int p1]) (rest := []) (q0 := 15) (ci := 7) C h (M_X7_clockOf l D E _ (ok.up (by decide) _ _) p1 a1) cw_X7_153 m_im_X7_clockOf m_se_X7_clockOf rfl rfl ⟨Nat.le_of_ble_eq_true rfl, Nat.le_of_ble_eq_true rfl⟩ rfl rfl hl rfl (Nat.le_of_ble_eq_true rfl) dX7_clock_43 ⟨Nat.le_of_ble_eq_true rfl, Nat.le_of_ble_eq_true rfl⟩ (fun r u H locs w2 h => ?_)
    obtain ⟨rfl, rfl⟩ := w2
    exact rtD C h hr dX7_clock_46 (Eq.mp (congrArg (fun z : UInt64 × St => post z.1 z.2) (if_pos c1)) hp)
  · skip
    refine lv_dconst0 C.x C.b dX7_clock_37 ?_
    refine lv_goto (tgt := 46) C.x C.b dX7_clock_38 (by decide) ?_
    exact rtD C h hr dX7_clock_46 (Eq.mp (congrArg (fun z : UInt64 × St => post z.1 z.2) (if_neg c1)) hp)
def S_X7_clock (σ : St) (p1 : Int32) : UInt64 × St := if (S_X7_isAircraft σ p1) = 0 then S_X7_clock_27 σ p1 1 else if (σ 61 p1.toNatClampNeg) = 0 then S_X7_clock_27 σ p1 2 else S_X7_clock_27 σ p1 0
set_option maxRecDepth 100000 in
set_option maxHeartbeats 4000000 in
theorem K_X7_clock_0 {p : Program} {l : Launch} {e : Env} {s : State} {m : MethodId} {args : Array Value} {below : List Frame} {meth : Method} {c : Code} {D : va_G} {E : En} {A : Nat → Prop} {post : UInt64 → St → Prop} (C : CX p s m meth c cX7_clock RX7 2 D E A) {σ : St} (ok : OK E σ) {p1 : Int32} {H : Heap} {locs : List Loc} (h : HW D E σ A s H locs) (hr : meth.sig.returnType = some .double) {ls : Array Slot} (hl : lv_has ls 2 [(0, .ref (ead E 15)), (1, .int p1)]) (hp : post (S_X7_clock σ p1).1 (S_X7_clock σ p1).2) : W p l e rm_X7_clock s m args below meth c H locs 0 0 (MQ below (va_Qd post (POB D E A) A) args s 0 0 A) (F0 m 0 ls []) := by
  refine lv_aload_n C.x C.b dX7_clock_0 rfl (lv_at hl 0 rfl) ?_
  refine lv_aload_n C.x C.b dX7_clock_1 rfl (lv_at hl 0 rfl) ?_
  refine lv_iload_n C.x C.b dX7_clock_2 rfl (lv_at hl 1 rfl) ?_
  refine caVi (As := [.int p1]) (rest := [.ref (ead E 15)]) (q0 := 15) (ci := 7) C h (M_X7_isAircraft l D E _ ok p1) cw_X7_120 m_im_X7_isAircraft m_se_X7_isAircraft rfl rfl ⟨Nat.le_of_ble_eq_true rfl, Nat.le_of_ble_eq_true rfl⟩ rfl rfl hl rfl (Nat.le_of_ble_eq_true rfl) dX7_clock_3 ⟨Nat.le_of_ble_eq_true rfl, Nat.le_of_ble_eq_true rfl⟩ (fun r u H locs w1 h => ?_)
  obtain ⟨rfl, rfl⟩ := w1
  refine lv_if_ne (tgt := 13) C.x C.b dX7_clock_6 (by decide) (fun c2 => ?_) (fun c2 => ?_)
  · skip
    have a1 : vp_in p1 20 := in_n ok c2
    refine lv_aload_n C.x C.b dX7_clock_13 rfl (lv_at hl 0 rfl) ?_
    refine g_X7_50 C h dX7_clock_14 ?_
    refine lv_iload_n C.x C.b dX7_clock_17 rfl (lv_at hl 1 rfl) ?_
    refine al_28 C h a1 dX7_clock_18 ?_
    refine lv_if_ne (tgt := 26) C.x C.b dX7_clock_19 (by decide) (fun c3 => ?_) (fun c3 => ?_)
    · skip
      refine lv_iconst (v := 0) C.x C.b dX7_clock_26 (by decide) ?_
      exact K_X7_clock_27 (y0 := 0) C ok (by first | exact fun _ => in_n ok c2 | exact fun q => absurd q (by decide)) h hr (lv_sub hl [0, 1] rfl) (Eq.mp (congrArg (fun z : UInt64 × St => post z.1 z.2) ((if_neg c2).trans (if_neg c3))) hp)
    · skip
      refine lv_iconst (v := 2) C.x C.b dX7_clock_22 (by decide) ?_
      refine lv_goto (tgt := 27) C.x C.b dX7_clock_23 (by decide) ?_
      exact K_X7_clock_27 (y0 := 2) C ok (by first | exact fun _ => in_n ok c2 | exact fun q => absurd q (by decide)) h hr (lv_sub hl [0, 1] rfl) (Eq.mp (congrArg (fun z : UInt64 × St => post z.1 z.2) ((if_neg c2).trans (if_pos c3))) hp)
  · skip
    refine lv_iconst (v := 1) C.x C.b dX7_clock_9 (by decide) ?_
    refine lv_goto (tgt := 27) C.x C.b dX7_clock_10 (by decide) ?_
    exact K_X7_clock_27 (y0 := 1) C ok (by first | exact fun _ => in_n ok c2 | exact fun q => absurd q (by decide)) h hr (lv_sub hl [0, 1] rfl) (Eq.mp (congrArg (fun z : UInt64 × St => post z.1 z.2) (if_pos c2)) hp)
theorem M_X7_clock (l : Launch) (D : va_G) (E : En) (σ : St) (ok : OK E σ) (p1 : Int32) : CO l yX7_clock cX7_clock 2 (some .double) rm_X7_clock [.ref (ead E 15), .int p1] D E σ (fun A => va_Qd (fun r u => (S_X7_clock σ p1).1 = r ∧ (S_X7_clock σ p1).2 = u) (POB D E A) A) 0 0 :=
  CO.of RX7 (by decide +kernel) rfl (Nat.le_of_ble_eq_true rfl) (fun p e s m below meth c A ls C h hr hl => K_X7_clock_0 C ok h hr hl ⟨rfl, rfl⟩)
-- X7_whyNot whyNot(I)I
abbrev rm_X7_whyNot : Room := { frames := 3, cells := 0, slots := 0, locals := 64 }
def S_X7_whyNot_14 (σ : St) (p1 : Int32) (y0 : Int32) : Int32 × St := if y0 ≤ 0 then (if (σ 59 p1.toNatClampNeg) = 2 then (if (σ 57 p1.toNatClampNeg) ≤ (σ 41 0) then (if 0 ≤ (Op.cmpValue (FP.dcmp (S_X7_clockOf (up2 σ 40 0 y0) p1) FP.dconst0) CmpOp.g) then (if (S_X7_isClosed (up2 σ 40 0 y0)) = 0 then (if (S_X7_areEnough (up2 σ 40 0 y0)) = 0 then (5, (up2 σ 40 0 y0)) else (0, (up2 σ 40 0 y0))) else (4, (up2 σ 40 0 y0))) else (3, (up2 σ 40 0 y0))) else (2, (up2 σ 40 0 y0))) else (1, (up2 σ 40 0 y0))) else (0, (up2 σ 40 0 y0))
set_option maxRecDepth 100000 in
set_option maxHeartbeats 4000000 in
theorem K_X7_whyNot_14 {p : Program} {l : Launch} {e : Env} {s : State} {m : MethodId} {args : Array Value} {below : List Frame} {meth : Method} {c : Code} {D : va_G} {E : En} {A : Nat → Prop} {post : Int32 → St → Prop} (C : CX p s m meth c cX7_whyNot RX7 2 D E A) {σ : St} (ok : OK E σ) {p1 : Int32} {y0 : Int32} (hq : y0 ≤ 0 → vp_in p1 20) {H : Heap} {locs : List Loc} (h : HW D E σ A s H locs) (hr : meth.sig.returnType = some .int) {ls : Array Slot} (hl : lv_has ls 2 [(0, .ref (ead E 15)), (1, .int p1)]) (hp : post (S_X7_whyNot_14 σ p1 y0).1 (S_X7_whyNot_14 σ p1 y0).2) : W p l e rm_X7_whyNot s m args below meth c H locs 0 0 (MQ below (va_Qi post (POB D E A) A) args s 0 0 A) (F0 m 14 ls [.int y0, .ref (ead E 15)]) := by
  refine p_X7_74 C h dX7_whyNot_14 (fun H locs h => ?_)
  refine lv_aload_n C.x C.b dX7_whyNot_17 rfl (lv_at hl 0 rfl) ?_
  refine g_X7_74 C h dX7_whyNot_18 ?_
  refine lv_if_le (tgt := 26) C.x C.b dX7_whyNot_21 (by decide) (fun c1 => ?_) (fun c1 => ?_)
  · skip
    have a1 : vp_in p1 20 := hq c1
    refine lv_aload_n C.x C.b dX7_whyNot_26 rfl (lv_at hl 0 rfl) ?_
    refine g_X7_44 C h dX7_whyNot_27 ?_
    refine lv_iload_n C.x C.b dX7_whyNot_30 rfl (lv_at hl 1 rfl) ?_
    refine al_26 C h a1 dX7_whyNot_31 ?_
    refine lv_iconst (v := 2) C.x C.b dX7_whyNot_32 (by decide) ?_
    refine lv_icmp_eq (tgt := 38) C.x C.b dX7_whyNot_33 (by decide) (fun c2 => ?_) (fun c2 => ?_)
    · skip
      refine lv_aload_n C.x C.b dX7_whyNot_38 rfl (lv_at hl 0 rfl) ?_
      refine g_X7_38 C h dX7_whyNot_39 ?_
      refine lv_iload_n C.x C.b dX7_whyNot_42 rfl (lv_at hl 1 rfl) ?_
      refine al_24 C h a1 dX7_whyNot_43 ?_
      refine lv_aload_n C.x C.b dX7_whyNot_44 rfl (lv_at hl 0 rfl) ?_
      refine g_X7_100 C h dX7_whyNot_45 ?_
      refine lv_icmp_le (tgt := 55) C.x C.b dX7_whyNot_48 (by decide) (fun c3 => ?_) (fun c3 => ?_)
      · skip
        refine lv_aload_n C.x C.b dX7_whyNot_55 rfl (lv_at hl 0 rfl) ?_
        refine lv_iload_n C.x C.b dX7_whyNot_56 rfl (lv_at hl 1 rfl) ?_
        refine caVd (As := [.int p1]) (rest := []) (q0 := 15) (ci := 7) C h (M_X7_clockOf l D E _ (ok.up (by decide) _ _) p1 a1) cw_X7_153 m_im_X7_clockOf m_se_X7_clockOf rfl rfl ⟨Nat.le_of_ble_eq_true rfl, Nat.le_of_ble_eq_true rfl⟩ rfl rfl hl rfl (Nat.le_of_ble_eq_true rfl) dX7_whyNot_57 ⟨Nat.le_of_ble_eq_true rfl, Nat.le_of_ble_eq_true rfl⟩ (fun r u H locs w4 h => ?_)
        obtain ⟨rfl, rfl⟩ := w4
        refine lv_dconst0 C.x C.b dX7_whyNot_60 ?_
        refine lv_dcmp C.x C.b dX7_whyNot_61 ?_
        refine lv_if_ge (tgt := 69) C.x C.b dX7_whyNot_62 (by decide) (fun c5 => ?_) (fun c5 => ?_)
        · skip
          refine lv_aload_n C.x C.b dX7_whyNot_69 rfl (lv_at hl 0 rfl) ?_
          refine caVi (As := []) (rest := []) (q0 := 15) (ci := 7) C h (M_X7_isClosed l D E _ (ok.up (by decide) _ _)) cw_X7_160 m_im_X7_isClosed m_se_X7_isClosed rfl rfl ⟨Nat.le_of_ble_eq_true rfl, Nat.le_of_ble_eq_true rfl⟩ rfl rfl hl rfl (Nat.le_of_ble_eq_true rfl) dX7_whyNot_70 ⟨Nat.le_of_ble_eq_true rfl, Nat.le_of_ble_eq_true rfl⟩ (fun r u H locs w6 h => ?_)
          obtain ⟨rfl, rfl⟩ := w6
          refine lv_if_eq (tgt := 80) C.x C.b dX7_whyNot_73 (by decide) (fun c7 => ?_) (fun c7 => ?_)
          · skip
            refine lv_aload_n C.x C.b dX7_whyNot_80 rfl (lv_at hl 0 rfl) ?_
            refine caVi (As := []) (rest := []) (q0 := 15) (ci := 7) C h (M_X7_areEnough l D E _ (ok.up (by decide) _ _)) cw_X7_172 m_im_X7_areEnough m_se_X7_areEnough rfl rfl ⟨Nat.le_of_ble_eq_true rfl, Nat.le_of_ble_eq_true rfl⟩ rfl rfl hl rfl (Nat.le_of_ble_eq_true rfl) dX7_whyNot_81 ⟨Nat.le_of_ble_eq_true rfl, Nat.le_of_ble_eq_true rfl⟩ (fun r u H locs w8 h => ?_)
            obtain ⟨rfl, rfl⟩ := w8
            refine lv_if_eq (tgt := 91) C.x C.b dX7_whyNot_84 (by decide) (fun c9 => ?_) (fun c9 => ?_)
            · skip
              refine lv_iconst (v := 5) C.x C.b dX7_whyNot_91 (by decide) ?_
              exact rtI C h hr rfl dX7_whyNot_92 (Eq.mp (congrArg (fun z : Int32 × St => post z.1 z.2) ((if_pos c1).trans ((if_pos c2).trans ((if_pos c3).trans ((if_pos c5).trans ((if_pos c7).trans (if_pos c9))))))) hp)
            · skip
              refine lv_iconst (v := 0) C.x C.b dX7_whyNot_87 (by decide) ?_
              refine lv_goto (tgt := 92) C.x C.b dX7_whyNot_88 (by decide) ?_
              exact rtI C h hr rfl dX7_whyNot_92 (Eq.mp (congrArg (fun z : Int32 × St => post z.1 z.2) ((if_pos c1).trans ((if_pos c2).trans ((if_pos c3).trans ((if_pos c5).trans ((if_pos c7).trans (if_neg c9))))))) hp)
          · skip
            refine lv_iconst (v := 4) C.x C.b dX7_whyNot_76 (by decide) ?_
            refine lv_goto (tgt := 92) C.x C.b dX7_whyNot_77 (by decide) ?_
            exact rtI C h hr rfl dX7_whyNot_92 (Eq.mp (congrArg (fun z : Int32 × St => post z.1 z.2) ((if_pos c1).trans ((if_pos c2).trans ((if_pos c3).trans ((if_pos c5).trans (if_neg c7)))))) hp)
        · skip
          refine lv_iconst (v := 3) C.x C.b dX7_whyNot_65 (by decide) ?_
          refine lv_goto (tgt := 92) C.x C.b dX7_whyNot_66 (by decide) ?_
          exact rtI C h hr rfl dX7_whyNot_92 (Eq.mp (congrArg (fun z : Int32 × St => post z.1 z.2) ((if_pos c1).trans ((if_pos c2).trans ((if_pos c3).trans (if_neg c5))))) hp)
      · skip
        refine lv_iconst (v := 2) C.x C.b dX7_whyNot_51 (by decide) ?_
        refine lv_goto (tgt := 92) C.x C.b dX7_whyNot_52 (by decide) ?_
        exact rtI C h hr rfl dX7_whyNot_92 (Eq.mp (congrArg (fun z : Int32 × St => post z.1 z.2) ((if_pos c1).trans ((if_pos c2).trans (if_neg c3)))) hp)
    · skip
      refine lv_iconst (v := 1) C.x C.b dX7_whyNot_36 (by decide) ?_
      exact rtI C h hr rfl dX7_whyNot_37 (Eq.mp (congrArg (fun z : Int32 × St => post z.1 z.2) ((if_pos c1).trans (if_neg c2))) hp)
  · skip
    refine lv_iconst (v := 0) C.x C.b dX7_whyNot_24 (by decide) ?_
    exact rtI C h hr rfl dX7_whyNot_25 (Eq.mp (congrArg (fun z : Int32 × St => post z.1 z.2) (if_neg c1)) hp)
def S_X7_whyNot (σ : St) (p1 : Int32) : Int32 × St := if (S_X7_isAircraft σ p1) = 0 then S_X7_whyNot_14 σ p1 1 else S_X7_whyNot_14 σ p1 0
set_option maxRecDepth 100000 in
set_option maxHeartbeats 4000000 in
theorem K_X7_whyNot_0 {p : Program} {l : Launch} {e : Env} {s : State} {m : MethodId} {args : Array Value} {below : List Frame} {meth : Method} {c : Code} {D : va_G} {E : En} {A : Nat → Prop} {post : Int32 → St → Prop} (C : CX p s m meth c cX7_whyNot RX7 2 D E A) {σ : St} (ok : OK E σ) {p1 : Int32} {H : Heap} {locs : List Loc} (h : HW D E σ A s H locs) (hr : meth.sig.returnType = some .int) {ls : Array Slot} (hl : lv_has ls 2 [(0, .ref (ead E 15)), (1, .int p1)]) (hp : post (S_X7_whyNot σ p1).1 (S_X7_whyNot σ p1).2) : W p l e rm_X7_whyNot s m args below meth c H locs 0 0 (MQ below (va_Qi post (POB D E A) A) args s 0 0 A) (F0 m 0 ls []) := by
  refine lv_aload_n C.x C.b dX7_whyNot_0 rfl (lv_at hl 0 rfl) ?_
  refine lv_aload_n C.x C.b dX7_whyNot_1 rfl (lv_at hl 0 rfl) ?_
  refine lv_iload_n C.x C.b dX7_whyNot_2 rfl (lv_at hl 1 rfl) ?_
  refine caVi (As := [.int p1]) (rest := [.ref (ead E 15)]) (q0 := 15) (ci := 7) C h (M_X7_isAircraft l D E _ ok p1) cw_X7_120 m_im_X7_isAircraft m_se_X7_isAircraft rfl rfl ⟨Nat.le_of_ble_eq_true rfl, Nat.le_of_ble_eq_true rfl⟩ rfl rfl hl rfl (Nat.le_of_ble_eq_true rfl) dX7_whyNot_3 ⟨Nat.le_of_ble_eq_true rfl, Nat.le_of_ble_eq_true rfl⟩ (fun r u H locs w1 h => ?_)
  obtain ⟨rfl, rfl⟩ := w1
  refine lv_if_eq (tgt := 13) C.x C.b dX7_whyNot_6 (by decide) (fun c2 => ?_) (fun c2 => ?_)
  · skip
    refine lv_iconst (v := 1) C.x C.b dX7_whyNot_13 (by decide) ?_
    exact K_X7_whyNot_14 (y0 := 1) C ok (by first | exact fun _ => in_n ok c2 | exact fun q => absurd q (by decide)) h hr (lv_sub hl [0, 1] rfl) (Eq.mp (congrArg (fun z : Int32 × St => post z.1 z.2) (if_pos c2)) hp)
  · skip
    refine lv_iconst (v := 0) C.x C.b dX7_whyNot_9 (by decide) ?_
    refine lv_goto (tgt := 14) C.x C.b dX7_whyNot_10 (by decide) ?_
    exact K_X7_whyNot_14 (y0 := 0) C ok (by first | exact fun _ => in_n ok c2 | exact fun q => absurd q (by decide)) h hr (lv_sub hl [0, 1] rfl) (Eq.mp (congrArg (fun z : Int32 × St => post z.1 z.2) (if_neg c2)) hp)
theorem M_X7_whyNot (l : Launch) (D : va_G) (E : En) (σ : St) (ok : OK E σ) (p1 : Int32) : CO l yX7_whyNot cX7_whyNot 2 (some .int) rm_X7_whyNot [.ref (ead E 15), .int p1] D E σ (fun A => va_Qi (fun r u => (S_X7_whyNot σ p1).1 = r ∧ (S_X7_whyNot σ p1).2 = u) (POB D E A) A) 0 0 :=
  CO.of RX7 (by decide +kernel) rfl (Nat.le_of_ble_eq_true rfl) (fun p e s m below meth c A ls C h hr hl => K_X7_whyNot_0 C ok h hr hl ⟨rfl, rfl⟩)
-- X7_queue queue(I)I
theorem cw_X7_181 : CWd RX7 181 yX7_nextAfter cX7_nextAfter 5 (some .int) 1 := ⟨m_ml_X7_181, m_co_X7_nextAfter, m_ini_X7, by decide +kernel, by decide +kernel⟩
abbrev rm_X7_queue : Room := { frames := 2, cells := 0, slots := 0, locals := 49 }
def S_X7_queue_61 (σ : St) (p1 : Int32) (v2 : Int32) : Int32 × St := if (σ 40 0) ≤ 0 then (v2, σ) else (0, σ)
set_option maxRecDepth 100000 in
set_option maxHeartbeats 4000000 in
theorem K_X7_queue_61 {p : Program} {l : Launch} {e : Env} {s : State} {m : MethodId} {args : Array Value} {below : List Frame} {meth : Method} {c : Code} {D : va_G} {E : En} {A : Nat → Prop} {post : Int32 → St → Prop} (C : CX p s m meth c cX7_queue RX7 4 D E A) {σ : St} (ok : OK E σ) {p1 : Int32} {v2 : Int32} {H : Heap} {locs : List Loc} (h : HW D E σ A s H locs) (hr : meth.sig.returnType = some .int) {ls : Array Slot} (hl : lv_has ls 4 [(0, .ref (ead E 15)), (1, .int p1), (2, .int v2)]) (hp : post (S_X7_queue_61 σ p1 v2).1 (S_X7_queue_61 σ p1 v2).2) : W p l e rm_X7_queue s m args below meth c H locs 0 0 (MQ below (va_Qi post (POB D E A) A) args s 0 0 A) (F0 m 61 ls []) := by
  refine lv_aload_n C.x C.b dX7_queue_61 rfl (lv_at hl 0 rfl) ?_
  refine g_X7_74 C h dX7_queue_62 ?_
  refine lv_if_le (tgt := 72) C.x C.b dX7_queue_65 (by decide) (fun c1 => ?_) (fun c1 => ?_)
  · skip
    refine lv_iload_n C.x C.b dX7_queue_72 rfl (lv_at hl 2 rfl) ?_
    exact rtI C h hr rfl dX7_queue_73 (Eq.mp (congrArg (fun z : Int32 × St => post z.1 z.2) (if_pos c1)) hp)
  · skip
    refine lv_iconst (v := 0) C.x C.b dX7_queue_68 (by decide) ?_
    refine lv_goto (tgt := 73) C.x C.b dX7_queue_69 (by decide) ?_
    exact rtI C h hr rfl dX7_queue_73 (Eq.mp (congrArg (fun z : Int32 × St => post z.1 z.2) (if_neg c1)) hp)
def S_X7_queue_32 : Nat → St → Int32 → Int32 → Nat → Int32 × St
  | 0, σ, _, _, _ => (0, σ)
  | n + 1, σ, p1, v2, j3 => if p1 ≤ (nI j3) then S_X7_queue_61 σ p1 v2 else if v2 = (-1) then S_X7_queue_61 σ p1 v2 else if (σ 40 0) = 0 then S_X7_queue_32 n σ p1 (S_X7_nextAfter σ v2) (j3 + 1) else S_X7_queue_61 σ p1 v2
theorem S_X7_queue_32_s (n : Nat) (σ : St) (p1 : Int32) (v2 : Int32) (j3 : Nat) : S_X7_queue_32 (n + 1) σ p1 v2 j3 = if p1 ≤ (nI j3) then S_X7_queue_61 σ p1 v2 else if v2 = (-1) then S_X7_queue_61 σ p1 v2 else if (σ 40 0) = 0 then S_X7_queue_32 n σ p1 (S_X7_nextAfter σ v2) (j3 + 1) else S_X7_queue_61 σ p1 v2 := rfl
set_option maxRecDepth 100000 in
set_option maxHeartbeats 4000000 in
theorem K_X7_queue_32 {p : Program} {l : Launch} {e : Env} {s : State} {m : MethodId} {args : Array Value} {below : List Frame} {meth : Method} {c : Code} {D : va_G} {E : En} {A : Nat → Prop} {post : Int32 → St → Prop} (C : CX p s m meth c cX7_queue RX7 4 D E A) (hr : meth.sig.returnType = some .int) {p1 : Int32} : ∀ (n : Nat) {σ : St} (ok : OK E σ) {v2 : Int32} {j3 : Nat} (hj : j3 + n = p1.toNatClampNeg + 1) (hb : j3 ≤ p1.toNatClampNeg) (hv : v2 = -1 ∨ vp_in v2 20) {H : Heap} {locs : List Loc} (h : HW D E σ A s H locs) {ls : Array Slot} (hl : lv_has ls 4 [(0, .ref (ead E 15)), (1, .int p1), (2, .int v2), (3, .int (nI j3))]) (hp : post (S_X7_queue_32 n σ p1 v2 j3).1 (S_X7_queue_32 n σ p1 v2 j3).2), W p l e rm_X7_queue s m args below meth c H locs 0 0 (MQ below (va_Qi post (POB D E A) A) args s 0 0 A) (F0 m 32 ls []) := by
  intro n
  induction n with
  | zero =>
    intro σ ok v2 j3 hj hb hv H locs h ls hl hp
    exfalso
    clear hp
    omega
  | succ n ih =>
    intro σ ok v2 j3 hj hb hv H locs h ls hl hp
    refine lv_iload_n C.x C.b dX7_queue_32 rfl (lv_at hl 3 rfl) ?_
    refine lv_iload_n C.x C.b dX7_queue_33 rfl (lv_at hl 1 rfl) ?_
    refine lv_icmp_ge (tgt := 61) C.x C.b dX7_queue_34 (by decide) (fun c1 => ?_) (fun c1 => ?_)
    · skip
      exact K_X7_queue_61 (v2 := v2) C ok h hr (lv_sub hl [0, 1, 2] rfl) (Eq.mp (congrArg (fun z : Int32 × St => post z.1 z.2) ((S_X7_queue_32_s n σ p1 v2 j3).trans (if_pos c1))) hp)
    · skip
      have h3 : j3 < p1.toNatClampNeg := lt_clamp (by have := clamp_lt p1; clear hp; omega) c1
      refine lv_iload_n C.x C.b dX7_queue_37 rfl (lv_at hl 2 rfl) ?_
      refine lv_iconst (v := (-1)) C.x C.b dX7_queue_38 (by decide) ?_
      refine lv_icmp_eq (tgt := 61) C.x C.b dX7_queue_39 (by decide) (fun c2 => ?_) (fun c2 => ?_)
      · skip
        exact K_X7_queue_61 (v2 := v2) C ok h hr (lv_sub hl [0, 1, 2] rfl) (Eq.mp (congrArg (fun z : Int32 × St => post z.1 z.2) ((S_X7_queue_32_s n σ p1 v2 j3).trans ((if_neg c1).trans (if_pos c2)))) hp)
      · skip
        refine lv_aload_n C.x C.b dX7_queue_42 rfl (lv_at hl 0 rfl) ?_
        refine g_X7_74 C h dX7_queue_43 ?_
        refine lv_if_ne (tgt := 61) C.x C.b dX7_queue_46 (by decide) (fun c3 => ?_) (fun c3 => ?_)
        · skip
          exact K_X7_queue_61 (v2 := v2) C ok h hr (lv_sub hl [0, 1, 2] rfl) (Eq.mp (congrArg (fun z : Int32 × St => post z.1 z.2) ((S_X7_queue_32_s n σ p1 v2 j3).trans ((if_neg c1).trans ((if_neg c2).trans (if_neg c3))))) hp)
        · skip
          refine lv_aload_n C.x C.b dX7_queue_49 rfl (lv_at hl 0 rfl) ?_
          refine lv_iload_n C.x C.b dX7_queue_50 rfl (lv_at hl 2 rfl) ?_
          refine caVi (As := [.int v2]) (rest := []) (q0 := 15) (ci := 7) C h (M_X7_nextAfter l D E _ ok v2 hv) cw_X7_181 m_im_X7_nextAfter m_se_X7_nextAfter rfl rfl ⟨Nat.le_of_ble_eq_true rfl, Nat.le_of_ble_eq_true rfl⟩ rfl rfl hl rfl (Nat.le_of_ble_eq_true rfl) dX7_queue_51 ⟨Nat.le_of_ble_eq_true rfl, Nat.le_of_ble_eq_true rfl⟩ (fun r u H locs w4 h => ?_)
          obtain ⟨rfl, rfl⟩ := w4
          refine lv_istore_n (lv' := [(2, .int (S_X7_nextAfter σ v2)), (0, .ref (ead E 15)), (1, .int p1), (3, .int (nI j3))]) C.x C.b dX7_queue_54 rfl hl (by decide) rfl (fun ls hl => ?_)
          refine lv_iinc (v := nI (j3 + 1)) (lv' := [(3, .int (nI (j3 + 1))), (2, .int (S_X7_nextAfter σ v2)), (0, .ref (ead E 15)), (1, .int p1)]) C.x C.b dX7_queue_55 hl (k := 3) rfl (nI_1 _) (by decide) rfl (fun ls hl => ?_)
          refine lv_goto (tgt := 32) C.x C.b dX7_queue_58 (by decide) ?_
          exact ih (v2 := (S_X7_nextAfter σ v2)) (j3 := j3 + 1) ok (by clear hp; omega) (by clear hp; omega) (by first | exact hv | exact next_in ok _) h (lv_sub hl [2, 3, 1, 0] rfl) (Eq.mp (congrArg (fun z : Int32 × St => post z.1 z.2) ((S_X7_queue_32_s n σ p1 v2 j3).trans ((if_neg c1).trans ((if_neg c2).trans (if_pos c3))))) hp)
def S_X7_queue_29 (σ : St) (p1 : Int32) (y0 : Int32) : Int32 × St := S_X7_queue_32 (p1.toNatClampNeg + 1) σ p1 y0 0
set_option maxRecDepth 100000 in
set_option maxHeartbeats 4000000 in
theorem K_X7_queue_29 {p : Program} {l : Launch} {e : Env} {s : State} {m : MethodId} {args : Array Value} {below : List Frame} {meth : Method} {c : Code} {D : va_G} {E : En} {A : Nat → Prop} {post : Int32 → St → Prop} (C : CX p s m meth c cX7_queue RX7 4 D E A) {σ : St} (ok : OK E σ) {p1 : Int32} {y0 : Int32} (hv : y0 = -1 ∨ vp_in y0 20) {H : Heap} {locs : List Loc} (h : HW D E σ A s H locs) (hr : meth.sig.returnType = some .int) {ls : Array Slot} (hl : lv_has ls 4 [(0, .ref (ead E 15)), (1, .int p1)]) (hp : post (S_X7_queue_29 σ p1 y0).1 (S_X7_queue_29 σ p1 y0).2) : W p l e rm_X7_queue s m args below meth c H locs 0 0 (MQ below (va_Qi post (POB D E A) A) args s 0 0 A) (F0 m 29 ls [.int y0]) := by
  refine lv_istore_n (lv' := [(2, .int y0), (0, .ref (ead E 15)), (1, .int p1)]) C.x C.b dX7_queue_29 rfl hl (by decide) rfl (fun ls hl => ?_)
  refine lv_iconst (v := 0) C.x C.b dX7_queue_30 (by decide) ?_
  refine lv_istore_n (lv' := [(3, .int 0), (2, .int y0), (0, .ref (ead E 15)), (1, .int p1)]) C.x C.b dX7_queue_31 rfl hl (by decide) rfl (fun ls hl => ?_)
  exact K_X7_queue_32 C hr (p1.toNatClampNeg + 1) (v2 := y0) (j3 := 0) ok (by clear hp; omega) (by clear hp; omega) (by first | exact hv | exact next_in ok _) h (lv_sub hl [2, 3, 1, 0] rfl) hp
def S_X7_queue_10 (σ : St) (p1 : Int32) (y0 : Int32) : Int32 × St := if y0 ≤ 0 then S_X7_queue_29 (up2 σ 40 0 y0) p1 (S_X7_nextAfter (up2 σ 40 0 y0) (-1)) else S_X7_queue_29 (up2 σ 40 0 y0) p1 (-1)
set_option maxRecDepth 100000 in
set_option maxHeartbeats 4000000 in
theorem K_X7_queue_10 {p : Program} {l : Launch} {e : Env} {s : State} {m : MethodId} {args : Array Value} {below : List Frame} {meth : Method} {c : Code} {D : va_G} {E : En} {A : Nat → Prop} {post : Int32 → St → Prop} (C : CX p s m meth c cX7_queue RX7 4 D E A) {σ : St} (ok : OK E σ) {p1 : Int32} {y0 : Int32} {H : Heap} {locs : List Loc} (h : HW D E σ A s H locs) (hr : meth.sig.returnType = some .int) {ls : Array Slot} (hl : lv_has ls 4 [(0, .ref (ead E 15)), (1, .int p1)]) (hp : post (S_X7_queue_10 σ p1 y0).1 (S_X7_queue_10 σ p1 y0).2) : W p l e rm_X7_queue s m args below meth c H locs 0 0 (MQ below (va_Qi post (POB D E A) A) args s 0 0 A) (F0 m 10 ls [.int y0, .ref (ead E 15)]) := by
  refine p_X7_74 C h dX7_queue_10 (fun H locs h => ?_)
  refine lv_aload_n C.x C.b dX7_queue_13 rfl (lv_at hl 0 rfl) ?_
  refine g_X7_74 C h dX7_queue_14 ?_
  refine lv_if_le (tgt := 24) C.x C.b dX7_queue_17 (by decide) (fun c1 => ?_) (fun c1 => ?_)
  · skip
    refine lv_aload_n C.x C.b dX7_queue_24 rfl (lv_at hl 0 rfl) ?_
    refine lv_iconst (v := (-1)) C.x C.b dX7_queue_25 (by decide) ?_
    refine caVi (As := [.int (-1)]) (rest := []) (q0 := 15) (ci := 7) C h (M_X7_nextAfter l D E _ (ok.up (by decide) _ _) (-1) (Or.inl rfl)) cw_X7_181 m_im_X7_nextAfter m_se_X7_nextAfter rfl rfl ⟨Nat.le_of_ble_eq_true rfl, Nat.le_of_ble_eq_true rfl⟩ rfl rfl hl rfl (Nat.le_of_ble_eq_true rfl) dX7_queue_26 ⟨Nat.le_of_ble_eq_true rfl, Nat.le_of_ble_eq_true rfl⟩ (fun r u H locs w2 h => ?_)
    obtain ⟨rfl, rfl⟩ := w2
    exact K_X7_queue_29 (y0 := (S_X7_nextAfter (up2 σ 40 0 y0) (-1))) C (ok.up (by decide) _ _) (by first | exact Or.inl rfl | exact next_in (ok.up (by decide) _ _) _) h hr (lv_sub hl [0, 1] rfl) (Eq.mp (congrArg (fun z : Int32 × St => post z.1 z.2) (if_pos c1)) hp)
  · skip
    refine lv_iconst (v := (-1)) C.x C.b dX7_queue_20 (by decide) ?_
    refine lv_goto (tgt := 29) C.x C.b dX7_queue_21 (by decide) ?_
    exact K_X7_queue_29 (y0 := (-1)) C (ok.up (by decide) _ _) (by first | exact Or.inl rfl | exact next_in (ok.up (by decide) _ _) _) h hr (lv_sub hl [0, 1] rfl) (Eq.mp (congrArg (fun z : Int32 × St => post z.1 z.2) (if_neg c1)) hp)
def S_X7_queue (σ : St) (p1 : Int32) : Int32 × St := if p1 < 0 then S_X7_queue_10 σ p1 1 else S_X7_queue_10 σ p1 0
set_option maxRecDepth 100000 in
set_option maxHeartbeats 4000000 in
theorem K_X7_queue_0 {p : Program} {l : Launch} {e : Env} {s : State} {m : MethodId} {args : Array Value} {below : List Frame} {meth : Method} {c : Code} {D : va_G} {E : En} {A : Nat → Prop} {post : Int32 → St → Prop} (C : CX p s m meth c cX7_queue RX7 4 D E A) {σ : St} (ok : OK E σ) {p1 : Int32} {H : Heap} {locs : List Loc} (h : HW D E σ A s H locs) (hr : meth.sig.returnType = some .int) {ls : Array Slot} (hl : lv_has ls 4 [(0, .ref (ead E 15)), (1, .int p1)]) (hp : post (S_X7_queue σ p1).1 (S_X7_queue σ p1).2) : W p l e rm_X7_queue s m args below meth c H locs 0 0 (MQ below (va_Qi post (POB D E A) A) args s 0 0 A) (F0 m 0 ls []) := by
  refine lv_aload_n C.x C.b dX7_queue_0 rfl (lv_at hl 0 rfl) ?_
  refine lv_iload_n C.x C.b dX7_queue_1 rfl (lv_at hl 1 rfl) ?_
  refine lv_if_lt (tgt := 9) C.x C.b dX7_queue_2 (by decide) (fun c1 => ?_) (fun c1 => ?_)
  · skip
    refine lv_iconst (v := 1) C.x C.b dX7_queue_9 (by decide) ?_
    exact K_X7_queue_10 (y0 := 1) C ok h hr (lv_sub hl [0, 1] rfl) (Eq.mp (congrArg (fun z : Int32 × St => post z.1 z.2) (if_pos c1)) hp)
  · skip
    refine lv_iconst (v := 0) C.x C.b dX7_queue_5 (by decide) ?_
    refine lv_goto (tgt := 10) C.x C.b dX7_queue_6 (by decide) ?_
    exact K_X7_queue_10 (y0 := 0) C ok h hr (lv_sub hl [0, 1] rfl) (Eq.mp (congrArg (fun z : Int32 × St => post z.1 z.2) (if_neg c1)) hp)
theorem M_X7_queue (l : Launch) (D : va_G) (E : En) (σ : St) (ok : OK E σ) (p1 : Int32) : CO l yX7_queue cX7_queue 4 (some .int) rm_X7_queue [.ref (ead E 15), .int p1] D E σ (fun A => va_Qi (fun r u => (S_X7_queue σ p1).1 = r ∧ (S_X7_queue σ p1).2 = u) (POB D E A) A) 0 0 :=
  CO.of RX7 (by decide +kernel) rfl (Nat.le_of_ble_eq_true rfl) (fun p e s m below meth c A ls C h hr hl => K_X7_queue_0 C ok h hr hl ⟨rfl, rfl⟩)
-- X7_sum sum(I)I
abbrev rm_X7_sum : Room := { frames := 1, cells := 0, slots := 0, locals := 22 }
def S_X7_sum_55 (σ : St) (p1 : Int32) (v2 : Int32) : Int32 × St := if 3 ≤ p1 then (if p1 = 3 then ((σ 69 0), σ) else if p1 = 4 then ((σ 70 0), σ) else if p1 = 5 then ((σ 71 0), σ) else ((σ 74 0), σ)) else if p1 = 0 then ((σ 68 0), σ) else if p1 = 1 then ((((σ 53 ((0 : Int32).toNatClampNeg)) + (σ 53 ((1 : Int32).toNatClampNeg))) + (σ 53 ((2 : Int32).toNatClampNeg))), σ) else (v2, σ)
set_option maxRecDepth 100000 in
set_option maxHeartbeats 4000000 in
theorem K_X7_sum_55 {p : Program} {l : Launch} {e : Env} {s : State} {m : MethodId} {args : Array Value} {below : List Frame} {meth : Method} {c : Code} {D : va_G} {E : En} {A : Nat → Prop} {post : Int32 → St → Prop} (C : CX p s m meth c cX7_sum RX7 4 D E A) {σ : St} (ok : OK E σ) {p1 : Int32} {v2 : Int32} {H : Heap} {locs : List Loc} (h : HW D E σ A s H locs) (hr : meth.sig.returnType = some .int) {ls : Array Slot} (hl : lv_has ls 4 [(0, .ref (ead E 15)), (1, .int p1), (2, .int v2)]) (hp : post (S_X7_sum_55 σ p1 v2).1 (S_X7_sum_55 σ p1 v2).2) : W p l e rm_X7_sum s m args below meth c H locs 0 0 (MQ below (va_Qi post (POB D E A) A) args s 0 0 A) (F0 m 55 ls []) := by
  refine lv_iload_n C.x C.b dX7_sum_55 rfl (lv_at hl 1 rfl) ?_
  refine lv_iconst (v := 3) C.x C.b dX7_sum_56 (by decide) ?_
  refine lv_icmp_ge (tgt := 101) C.x C.b dX7_sum_57 (by decide) (fun c1 => ?_) (fun c1 => ?_)
  · skip
    refine lv_iload_n C.x C.b dX7_sum_101 rfl (lv_at hl 1 rfl) ?_
    refine lv_iconst (v := 3) C.x C.b dX7_sum_102 (by decide) ?_
    refine lv_icmp_ne (tgt := 113) C.x C.b dX7_sum_103 (by decide) (fun c2 => ?_) (fun c2 => ?_)
    · skip
      refine lv_iload_n C.x C.b dX7_sum_113 rfl (lv_at hl 1 rfl) ?_
      refine lv_iconst (v := 4) C.x C.b dX7_sum_114 (by decide) ?_
      refine lv_icmp_ne (tgt := 125) C.x C.b dX7_sum_115 (by decide) (fun c3 => ?_) (fun c3 => ?_)
      · skip
        refine lv_iload_n C.x C.b dX7_sum_125 rfl (lv_at hl 1 rfl) ?_
        refine lv_iconst (v := 5) C.x C.b dX7_sum_126 (by decide) ?_
        refine lv_icmp_ne (tgt := 137) C.x C.b dX7_sum_127 (by decide) (fun c4 => ?_) (fun c4 => ?_)
        · skip
          refine lv_aload_n C.x C.b dX7_sum_137 rfl (lv_at hl 0 rfl) ?_
          refine g_X7_142 C h dX7_sum_138 ?_
          exact rtI C h hr rfl dX7_sum_141 (Eq.mp (congrArg (fun z : Int32 × St => post z.1 z.2) ((if_pos c1).trans ((if_neg c2).trans ((if_neg c3).trans (if_neg c4))))) hp)
        · skip
          refine lv_aload_n C.x C.b dX7_sum_130 rfl (lv_at hl 0 rfl) ?_
          refine g_X7_136 C h dX7_sum_131 ?_
          refine lv_goto (tgt := 141) C.x C.b dX7_sum_134 (by decide) ?_
          exact rtI C h hr rfl dX7_sum_141 (Eq.mp (congrArg (fun z : Int32 × St => post z.1 z.2) ((if_pos c1).trans ((if_neg c2).trans ((if_neg c3).trans (if_pos c4))))) hp)
      · skip
        refine lv_aload_n C.x C.b dX7_sum_118 rfl (lv_at hl 0 rfl) ?_
        refine g_X7_169 C h dX7_sum_119 ?_
        refine lv_goto (tgt := 141) C.x C.b dX7_sum_122 (by decide) ?_
        exact rtI C h hr rfl dX7_sum_141 (Eq.mp (congrArg (fun z : Int32 × St => post z.1 z.2) ((if_pos c1).trans ((if_neg c2).trans (if_pos c3)))) hp)
    · skip
      refine lv_aload_n C.x C.b dX7_sum_106 rfl (lv_at hl 0 rfl) ?_
      refine g_X7_126 C h dX7_sum_107 ?_
      refine lv_goto (tgt := 141) C.x C.b dX7_sum_110 (by decide) ?_
      exact rtI C h hr rfl dX7_sum_141 (Eq.mp (congrArg (fun z : Int32 × St => post z.1 z.2) ((if_pos c1).trans (if_pos c2))) hp)
  · skip
    refine lv_iload_n C.x C.b dX7_sum_60 rfl (lv_at hl 1 rfl) ?_
    refine lv_if_ne (tgt := 71) C.x C.b dX7_sum_61 (by decide) (fun c5 => ?_) (fun c5 => ?_)
    · skip
      refine lv_iload_n C.x C.b dX7_sum_71 rfl (lv_at hl 1 rfl) ?_
      refine lv_iconst (v := 1) C.x C.b dX7_sum_72 (by decide) ?_
      refine lv_icmp_ne (tgt := 99) C.x C.b dX7_sum_73 (by decide) (fun c6 => ?_) (fun c6 => ?_)
      · skip
        refine lv_iload_n C.x C.b dX7_sum_99 rfl (lv_at hl 2 rfl) ?_
        exact rtI C h hr rfl dX7_sum_100 (Eq.mp (congrArg (fun z : Int32 × St => post z.1 z.2) ((if_neg c1).trans ((if_neg c5).trans (if_neg c6)))) hp)
      · skip
        refine lv_aload_n C.x C.b dX7_sum_76 rfl (lv_at hl 0 rfl) ?_
        refine g_X7_29 C h dX7_sum_77 ?_
        refine lv_iconst (v := 0) C.x C.b dX7_sum_80 (by decide) ?_
        refine al_21 C h in3_0 dX7_sum_81 ?_
        refine lv_aload_n C.x C.b dX7_sum_82 rfl (lv_at hl 0 rfl) ?_
        refine g_X7_29 C h dX7_sum_83 ?_
        refine lv_iconst (v := 1) C.x C.b dX7_sum_86 (by decide) ?_
        refine al_21 C h in3_1 dX7_sum_87 ?_
        refine lv_iadd C.x C.b dX7_sum_88 ?_
        refine lv_aload_n C.x C.b dX7_sum_89 rfl (lv_at hl 0 rfl) ?_
        refine g_X7_29 C h dX7_sum_90 ?_
        refine lv_iconst (v := 2) C.x C.b dX7_sum_93 (by decide) ?_
        refine al_21 C h in3_2 dX7_sum_94 ?_
        refine lv_iadd C.x C.b dX7_sum_95 ?_
        refine lv_goto (tgt := 100) C.x C.b dX7_sum_96 (by decide) ?_
        exact rtI C h hr rfl dX7_sum_100 (Eq.mp (congrArg (fun z : Int32 × St => post z.1 z.2) ((if_neg c1).trans ((if_neg c5).trans (if_pos c6)))) hp)
    · skip
      refine lv_aload_n C.x C.b dX7_sum_64 rfl (lv_at hl 0 rfl) ?_
      refine g_X7_117 C h dX7_sum_65 ?_
      refine lv_goto (tgt := 100) C.x C.b dX7_sum_68 (by decide) ?_
      exact rtI C h hr rfl dX7_sum_100 (Eq.mp (congrArg (fun z : Int32 × St => post z.1 z.2) ((if_neg c1).trans (if_pos c5))) hp)
def S_X7_sum_32 : Nat → St → Int32 → Int32 → Nat → Int32 × St
  | 0, σ, _, _, _ => (0, σ)
  | n + 1, σ, p1, v2, j3 => if (σ 55 0) ≤ (nI j3) then S_X7_sum_55 σ p1 v2 else S_X7_sum_32 n σ p1 (v2 + (σ 62 j3)) (j3 + 1)
theorem S_X7_sum_32_s (n : Nat) (σ : St) (p1 : Int32) (v2 : Int32) (j3 : Nat) : S_X7_sum_32 (n + 1) σ p1 v2 j3 = if (σ 55 0) ≤ (nI j3) then S_X7_sum_55 σ p1 v2 else S_X7_sum_32 n σ p1 (v2 + (σ 62 j3)) (j3 + 1) := rfl
set_option maxRecDepth 100000 in
set_option maxHeartbeats 4000000 in
theorem K_X7_sum_32 {p : Program} {l : Launch} {e : Env} {s : State} {m : MethodId} {args : Array Value} {below : List Frame} {meth : Method} {c : Code} {D : va_G} {E : En} {A : Nat → Prop} {post : Int32 → St → Prop} (C : CX p s m meth c cX7_sum RX7 4 D E A) (hr : meth.sig.returnType = some .int) {p1 : Int32} : ∀ (n : Nat) {σ : St} (ok : OK E σ) {v2 : Int32} {j3 : Nat} (hj : j3 + n = 21) (hb : j3 ≤ 20) {H : Heap} {locs : List Loc} (h : HW D E σ A s H locs) {ls : Array Slot} (hl : lv_has ls 4 [(0, .ref (ead E 15)), (1, .int p1), (2, .int v2), (3, .int (nI j3))]) (hp : post (S_X7_sum_32 n σ p1 v2 j3).1 (S_X7_sum_32 n σ p1 v2 j3).2), W p l e rm_X7_sum s m args below meth c H locs 0 0 (MQ below (va_Qi post (POB D E A) A) args s 0 0 A) (F0 m 32 ls []) := by
  intro n
  induction n with
  | zero =>
    intro σ ok v2 j3 hj hb H locs h ls hl hp
    exfalso
    clear hp
    omega
  | succ n ih =>
    intro σ ok v2 j3 hj hb H locs h ls hl hp
    refine lv_iload_n C.x C.b dX7_sum_32 rfl (lv_at hl 3 rfl) ?_
    refine lv_aload_n C.x C.b dX7_sum_33 rfl (lv_at hl 0 rfl) ?_
    refine g_X7_81 C h dX7_sum_34 ?_
    refine lv_icmp_ge (tgt := 55) C.x C.b dX7_sum_37 (by decide) (fun c1 => ?_) (fun c1 => ?_)
    · skip
      exact K_X7_sum_55 (v2 := v2) C ok h hr (lv_sub hl [0, 1, 2] rfl) (Eq.mp (congrArg (fun z : Int32 × St => post z.1 z.2) ((S_X7_sum_32_s n σ p1 v2 j3).trans (if_pos c1))) hp)
    · skip
      have h3 : j3 < en E := ok.lt' (by clear hp; omega) c1
      refine lv_iload_n C.x C.b dX7_sum_40 rfl (lv_at hl 2 rfl) ?_
      refine lv_aload_n C.x C.b dX7_sum_41 rfl (lv_at hl 0 rfl) ?_
      refine g_X7_53 C h dX7_sum_42 ?_
      refine lv_iload_n C.x C.b dX7_sum_45 rfl (lv_at hl 3 rfl) ?_
      refine aln_29 C h (Nat.lt_of_lt_of_le h3 ok.le) dX7_sum_46 ?_
      refine lv_iadd C.x C.b dX7_sum_47 ?_
      refine lv_istore_n (lv' := [(2, .int (v2 + (σ 62 j3))), (0, .ref (ead E 15)), (1, .int p1), (3, .int (nI j3))]) C.x C.b dX7_sum_48 rfl hl (by decide) rfl (fun ls hl => ?_)
      refine lv_iinc (v := nI (j3 + 1)) (lv' := [(3, .int (nI (j3 + 1))), (2, .int (v2 + (σ 62 j3))), (0, .ref (ead E 15)), (1, .int p1)]) C.x C.b dX7_sum_49 hl (k := 3) rfl (nI_1 _) (by decide) rfl (fun ls hl => ?_)
      refine lv_goto (tgt := 32) C.x C.b dX7_sum_52 (by decide) ?_
      exact ih (v2 := (v2 + (σ 62 j3))) (j3 := j3 + 1) ok (by clear hp; omega) (by clear hp; have := ok.le; omega) h (lv_sub hl [2, 3, 1, 0] rfl) (Eq.mp (congrArg (fun z : Int32 × St => post z.1 z.2) ((S_X7_sum_32_s n σ p1 v2 j3).trans (if_neg c1))) hp)
def S_X7_sum_16 (σ : St) (p1 : Int32) (y0 : Int32) : Int32 × St := if y0 ≤ 0 then S_X7_sum_32 21 (up2 σ 40 0 y0) p1 0 0 else (0, (up2 σ 40 0 y0))
set_option maxRecDepth 100000 in
set_option maxHeartbeats 4000000 in
theorem K_X7_sum_16 {p : Program} {l : Launch} {e : Env} {s : State} {m : MethodId} {args : Array Value} {below : List Frame} {meth : Method} {c : Code} {D : va_G} {E : En} {A : Nat → Prop} {post : Int32 → St → Prop} (C : CX p s m meth c cX7_sum RX7 4 D E A) {σ : St} (ok : OK E σ) {p1 : Int32} {y0 : Int32} {H : Heap} {locs : List Loc} (h : HW D E σ A s H locs) (hr : meth.sig.returnType = some .int) {ls : Array Slot} (hl : lv_has ls 4 [(0, .ref (ead E 15)), (1, .int p1)]) (hp : post (S_X7_sum_16 σ p1 y0).1 (S_X7_sum_16 σ p1 y0).2) : W p l e rm_X7_sum s m args below meth c H locs 0 0 (MQ below (va_Qi post (POB D E A) A) args s 0 0 A) (F0 m 16 ls [.int y0, .ref (ead E 15)]) := by
  refine p_X7_74 C h dX7_sum_16 (fun H locs h => ?_)
  refine lv_aload_n C.x C.b dX7_sum_19 rfl (lv_at hl 0 rfl) ?_
  refine g_X7_74 C h dX7_sum_20 ?_
  refine lv_if_le (tgt := 28) C.x C.b dX7_sum_23 (by decide) (fun c1 => ?_) (fun c1 => ?_)
  · skip
    refine lv_iconst (v := 0) C.x C.b dX7_sum_28 (by decide) ?_
    refine lv_istore_n (lv' := [(2, .int 0), (0, .ref (ead E 15)), (1, .int p1)]) C.x C.b dX7_sum_29 rfl hl (by decide) rfl (fun ls hl => ?_)
    refine lv_iconst (v := 0) C.x C.b dX7_sum_30 (by decide) ?_
    refine lv_istore_n (lv' := [(3, .int 0), (2, .int 0), (0, .ref (ead E 15)), (1, .int p1)]) C.x C.b dX7_sum_31 rfl hl (by decide) rfl (fun ls hl => ?_)
    exact K_X7_sum_32 C hr 21 (v2 := 0) (j3 := 0) (ok.up (by decide) _ _) (by clear hp; omega) (by clear hp; have := ok.le; omega) h (lv_sub hl [2, 3, 1, 0] rfl) (Eq.mp (congrArg (fun z : Int32 × St => post z.1 z.2) (if_pos c1)) hp)
  · skip
    refine lv_iconst (v := 0) C.x C.b dX7_sum_26 (by decide) ?_
    exact rtI C h hr rfl dX7_sum_27 (Eq.mp (congrArg (fun z : Int32 × St => post z.1 z.2) (if_neg c1)) hp)
def S_X7_sum (σ : St) (p1 : Int32) : Int32 × St := if (S_X7_in p1 0 6) = 0 then S_X7_sum_16 σ p1 1 else S_X7_sum_16 σ p1 0
set_option maxRecDepth 100000 in
set_option maxHeartbeats 4000000 in
theorem K_X7_sum_0 {p : Program} {l : Launch} {e : Env} {s : State} {m : MethodId} {args : Array Value} {below : List Frame} {meth : Method} {c : Code} {D : va_G} {E : En} {A : Nat → Prop} {post : Int32 → St → Prop} (C : CX p s m meth c cX7_sum RX7 4 D E A) {σ : St} (ok : OK E σ) {p1 : Int32} {H : Heap} {locs : List Loc} (h : HW D E σ A s H locs) (hr : meth.sig.returnType = some .int) {ls : Array Slot} (hl : lv_has ls 4 [(0, .ref (ead E 15)), (1, .int p1)]) (hp : post (S_X7_sum σ p1).1 (S_X7_sum σ p1).2) : W p l e rm_X7_sum s m args below meth c H locs 0 0 (MQ below (va_Qi post (POB D E A) A) args s 0 0 A) (F0 m 0 ls []) := by
  refine lv_aload_n C.x C.b dX7_sum_0 rfl (lv_at hl 0 rfl) ?_
  refine lv_iload_n C.x C.b dX7_sum_1 rfl (lv_at hl 1 rfl) ?_
  refine lv_iconst (v := 0) C.x C.b dX7_sum_2 (by decide) ?_
  refine lv_bipush (v := 6) C.x C.b dX7_sum_3 (by decide) ?_
  refine caSi (As := [.int p1, .int 0, .int 6]) (rest := [.ref (ead E 15)]) C h (M_X7_in l D E _ ok p1 0 6) cw_X7_77 m_st_X7_in rfl rfl ⟨Nat.le_of_ble_eq_true rfl, Nat.le_of_ble_eq_true rfl⟩ hl rfl (Nat.le_of_ble_eq_true rfl) dX7_sum_5 ⟨Nat.le_of_ble_eq_true rfl, Nat.le_of_ble_eq_true rfl⟩ (fun r u H locs w1 h => ?_)
  obtain ⟨rfl, rfl⟩ := w1
  refine lv_if_eq (tgt := 15) C.x C.b dX7_sum_8 (by decide) (fun c2 => ?_) (fun c2 => ?_)
  · skip
    refine lv_iconst (v := 1) C.x C.b dX7_sum_15 (by decide) ?_
    exact K_X7_sum_16 (y0 := 1) C ok h hr (lv_sub hl [0, 1] rfl) (Eq.mp (congrArg (fun z : Int32 × St => post z.1 z.2) (if_pos c2)) hp)
  · skip
    refine lv_iconst (v := 0) C.x C.b dX7_sum_11 (by decide) ?_
    refine lv_goto (tgt := 16) C.x C.b dX7_sum_12 (by decide) ?_
    exact K_X7_sum_16 (y0 := 0) C ok h hr (lv_sub hl [0, 1] rfl) (Eq.mp (congrArg (fun z : Int32 × St => post z.1 z.2) (if_neg c2)) hp)
theorem M_X7_sum (l : Launch) (D : va_G) (E : En) (σ : St) (ok : OK E σ) (p1 : Int32) : CO l yX7_sum cX7_sum 4 (some .int) rm_X7_sum [.ref (ead E 15), .int p1] D E σ (fun A => va_Qi (fun r u => (S_X7_sum σ p1).1 = r ∧ (S_X7_sum σ p1).2 = u) (POB D E A) A) 0 0 :=
  CO.of RX7 (by decide +kernel) rfl (Nat.le_of_ble_eq_true rfl) (fun p e s m below meth c A ls C h hr hl => K_X7_sum_0 C ok h hr hl ⟨rfl, rfl⟩)
