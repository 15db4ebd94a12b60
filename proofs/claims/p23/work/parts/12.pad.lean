/-! methods walked (by program; wip/p23/gen) -/
-- X0_isOver isOver()Z
abbrev rm_X0_isOver : Room := { frames := 0, cells := 0, slots := 0, locals := 0 }
def S_X0_isOver (σ : St) (t : Nat) : Int32 := if (σ 28 t) = 3 then 1 else if (σ 28 t) = 4 then 1 else 0
set_option maxRecDepth 100000 in
set_option maxHeartbeats 4000000 in
theorem K_X0_isOver_0 {p : Program} {l : Launch} {e : Env} {s : State} {m : MethodId} {args : Array Value} {below : List Frame} {meth : Method} {c : Code} {D : va_G} {E : En} {A : Nat → Prop} {post : Int32 → St → Prop} (C : CX p s m meth c cX0_isOver RX0 1 D E A) {σ : St} (ok : OK E σ) {t : Nat} (ht : t < en E) {H : Heap} {locs : List Loc} (h : HW D E σ A s H locs) (hr : meth.sig.returnType = some .boolean) {ls : Array Slot} (hl : lv_has ls 1 [(0, .ref (ead E (17 + t)))]) (hp : post (S_X0_isOver σ t) σ) : W p l e rm_X0_isOver s m args below meth c H locs 0 0 (MQ below (va_Qi post (POB D E A) A) args s 0 0 A) (F0 m 0 ls []) := by
  refine lv_aload_n C.x C.b dX0_isOver_0 rfl (lv_at hl 0 rfl) ?_
  refine g_X0_9 C h ht dX0_isOver_1 ?_
  refine lv_iconst (v := 3) C.x C.b dX0_isOver_4 (by decide) ?_
  refine lv_icmp_eq (tgt := 16) C.x C.b dX0_isOver_5 (by decide) (fun c1 => ?_) (fun c1 => ?_)
  · skip
    refine lv_iconst (v := 1) C.x C.b dX0_isOver_16 (by decide) ?_
    refine lv_goto (tgt := 21) C.x C.b dX0_isOver_17 (by decide) ?_
    exact rtI C h hr rfl dX0_isOver_21 (Eq.mp (congrArg (fun z => post z σ) (if_pos c1)) hp)
  · skip
    refine lv_aload_n C.x C.b dX0_isOver_8 rfl (lv_at hl 0 rfl) ?_
    refine g_X0_9 C h ht dX0_isOver_9 ?_
    refine lv_iconst (v := 4) C.x C.b dX0_isOver_12 (by decide) ?_
    refine lv_icmp_ne (tgt := 20) C.x C.b dX0_isOver_13 (by decide) (fun c2 => ?_) (fun c2 => ?_)
    · skip
      refine lv_iconst (v := 0) C.x C.b dX0_isOver_20 (by decide) ?_
      exact rtI C h hr rfl dX0_isOver_21 (Eq.mp (congrArg (fun z => post z σ) ((if_neg c1).trans (if_neg c2))) hp)
    · skip
      refine lv_iconst (v := 1) C.x C.b dX0_isOver_16 (by decide) ?_
      refine lv_goto (tgt := 21) C.x C.b dX0_isOver_17 (by decide) ?_
      exact rtI C h hr rfl dX0_isOver_21 (Eq.mp (congrArg (fun z => post z σ) ((if_neg c1).trans (if_pos c2))) hp)
theorem M_X0_isOver (l : Launch) (D : va_G) (E : En) (σ : St) (ok : OK E σ) (t : Nat) (ht : t < en E) : CO l yX0_isOver cX0_isOver 1 (some .boolean) rm_X0_isOver [.ref (ead E (17 + t))] D E σ (fun A => va_Qi (fun r u => (S_X0_isOver σ t) = r ∧ σ = u) (POB D E A) A) 0 0 :=
  CO.of RX0 (by decide +kernel) rfl (Nat.le_of_ble_eq_true rfl) (fun p e s m below meth c A ls C h hr hl => K_X0_isOver_0 C ok ht h hr hl ⟨rfl, rfl⟩)
-- X0_beginTreatment beginTreatment(III)I
abbrev rm_X0_beginTreatment : Room := { frames := 0, cells := 0, slots := 0, locals := 0 }
def S_X0_beginTreatment (σ : St) (t : Nat) (p1 : Int32) (p2 : Int32) (p3 : Int32) : Int32 × St := ((p2 - ((p2 * 20) / 100)), (up2 (up2 (up2 (up2 (up2 (up2 σ 28 t 1) 32 t p1) 30 t ((σ 30 t) + 1)) 31 t ((σ 31 t) + ((p2 * 20) / 100))) 35 t p3) 36 t ((p3 + 2) + (p2 / 100))))
set_option maxRecDepth 100000 in
set_option maxHeartbeats 4000000 in
theorem K_X0_beginTreatment_0 {p : Program} {l : Launch} {e : Env} {s : State} {m : MethodId} {args : Array Value} {below : List Frame} {meth : Method} {c : Code} {D : va_G} {E : En} {A : Nat → Prop} {post : Int32 → St → Prop} (C : CX p s m meth c cX0_beginTreatment RX0 5 D E A) {σ : St} (ok : OK E σ) {t : Nat} (ht : t < en E) {p1 : Int32} {p2 : Int32} {p3 : Int32} {H : Heap} {locs : List Loc} (h : HW D E σ A s H locs) (hr : meth.sig.returnType = some .int) {ls : Array Slot} (hl : lv_has ls 5 [(0, .ref (ead E (17 + t))), (1, .int p1), (2, .int p2), (3, .int p3)]) (hp : post (S_X0_beginTreatment σ t p1 p2 p3).1 (S_X0_beginTreatment σ t p1 p2 p3).2) : W p l e rm_X0_beginTreatment s m args below meth c H locs 0 0 (MQ below (va_Qi post (POB D E A) A) args s 0 0 A) (F0 m 0 ls []) := by
  refine lv_iload_n C.x C.b dX0_beginTreatment_0 rfl (lv_at hl 2 rfl) ?_
  refine lv_bipush (v := 20) C.x C.b dX0_beginTreatment_1 (by decide) ?_
  refine lv_imul C.x C.b dX0_beginTreatment_3 ?_
  refine lv_bipush (v := 100) C.x C.b dX0_beginTreatment_4 (by decide) ?_
  refine lv_idiv C.x C.b dX0_beginTreatment_6 (by decide) ?_
  refine lv_istore (lv' := [(4, .int ((p2 * 20) / 100)), (0, .ref (ead E (17 + t))), (1, .int p1), (2, .int p2), (3, .int p3)]) C.x C.b dX0_beginTreatment_7 hl (by decide) rfl (fun ls hl => ?_)
  refine lv_aload_n C.x C.b dX0_beginTreatment_9 rfl (lv_at hl 1 rfl) ?_
  refine lv_iconst (v := 1) C.x C.b dX0_beginTreatment_10 (by decide) ?_
  refine p_X0_9 C h ht dX0_beginTreatment_11 (fun H locs h => ?_)
  refine lv_aload_n C.x C.b dX0_beginTreatment_14 rfl (lv_at hl 1 rfl) ?_
  refine lv_iload_n C.x C.b dX0_beginTreatment_15 rfl (lv_at hl 2 rfl) ?_
  refine p_X0_27 C h ht dX0_beginTreatment_16 (fun H locs h => ?_)
  refine lv_aload_n C.x C.b dX0_beginTreatment_19 rfl (lv_at hl 1 rfl) ?_
  refine lv_dup C.x C.b dX0_beginTreatment_20 rfl ?_
  refine g_X0_30 C h ht dX0_beginTreatment_21 ?_
  refine lv_iconst (v := 1) C.x C.b dX0_beginTreatment_24 (by decide) ?_
  refine lv_iadd C.x C.b dX0_beginTreatment_25 ?_
  refine p_X0_30 C h ht dX0_beginTreatment_26 (fun H locs h => ?_)
  refine lv_aload_n C.x C.b dX0_beginTreatment_29 rfl (lv_at hl 1 rfl) ?_
  refine lv_dup C.x C.b dX0_beginTreatment_30 rfl ?_
  refine g_X0_33 C h ht dX0_beginTreatment_31 ?_
  refine lv_iload C.x C.b dX0_beginTreatment_34 (lv_at hl 0 rfl) ?_
  refine lv_iadd C.x C.b dX0_beginTreatment_36 ?_
  refine p_X0_33 C h ht dX0_beginTreatment_37 (fun H locs h => ?_)
  refine lv_aload_n C.x C.b dX0_beginTreatment_40 rfl (lv_at hl 1 rfl) ?_
  refine lv_iload_n C.x C.b dX0_beginTreatment_41 rfl (lv_at hl 4 rfl) ?_
  refine p_X0_36 C h ht dX0_beginTreatment_42 (fun H locs h => ?_)
  refine lv_aload_n C.x C.b dX0_beginTreatment_45 rfl (lv_at hl 1 rfl) ?_
  refine lv_iload_n C.x C.b dX0_beginTreatment_46 rfl (lv_at hl 4 rfl) ?_
  refine lv_iconst (v := 2) C.x C.b dX0_beginTreatment_47 (by decide) ?_
  refine lv_iadd C.x C.b dX0_beginTreatment_48 ?_
  refine lv_iload_n C.x C.b dX0_beginTreatment_49 rfl (lv_at hl 3 rfl) ?_
  refine lv_bipush (v := 100) C.x C.b dX0_beginTreatment_50 (by decide) ?_
  refine lv_idiv C.x C.b dX0_beginTreatment_52 (by decide) ?_
  refine lv_iadd C.x C.b dX0_beginTreatment_53 ?_
  refine p_X0_39 C h ht dX0_beginTreatment_54 (fun H locs h => ?_)
  refine lv_iload_n C.x C.b dX0_beginTreatment_57 rfl (lv_at hl 3 rfl) ?_
  refine lv_iload C.x C.b dX0_beginTreatment_58 (lv_at hl 0 rfl) ?_
  refine lv_isub C.x C.b dX0_beginTreatment_60 ?_
  exact rtI C h hr rfl dX0_beginTreatment_61 hp
theorem M_X0_beginTreatment (l : Launch) (D : va_G) (E : En) (σ : St) (ok : OK E σ) (t : Nat) (ht : t < en E) (p1 : Int32) (p2 : Int32) (p3 : Int32) : CO l yX0_beginTreatment cX0_beginTreatment 5 (some .int) rm_X0_beginTreatment [.ref (ead E (17 + t)), .int p1, .int p2, .int p3] D E σ (fun A => va_Qi (fun r u => (S_X0_beginTreatment σ t p1 p2 p3).1 = r ∧ (S_X0_beginTreatment σ t p1 p2 p3).2 = u) (POB D E A) A) 0 0 :=
  CO.of RX0 (by decide +kernel) rfl (Nat.le_of_ble_eq_true rfl) (fun p e s m below meth c A ls C h hr hl => K_X0_beginTreatment_0 C ok ht h hr hl ⟨rfl, rfl⟩)
theorem S_X0_beginTreatment_fr {f i : Nat} (σ : St) (t : Nat) (p1 : Int32) (p2 : Int32) (p3 : Int32) (hf : ∀ w ∈ [28, 30, 31, 32, 35, 36], f ≠ w) : (S_X0_beginTreatment σ t p1 p2 p3).2 f i = σ f i := by
  unfold S_X0_beginTreatment
  (repeat' split) <;> first | with_reducible rfl | (simp only [up2_f (hf 28 (by decide)), up2_f (hf 30 (by decide)), up2_f (hf 31 (by decide)), up2_f (hf 32 (by decide)), up2_f (hf 35 (by decide)), up2_f (hf 36 (by decide))]; done)
theorem S_X0_beginTreatment_ok {E : En} {σ : St} (ok : OK E σ) (t : Nat) (p1 : Int32) (p2 : Int32) (p3 : Int32) : OK E (S_X0_beginTreatment σ t p1 p2 p3).2 :=
  ok.of_fr (fun f i hf => S_X0_beginTreatment_fr σ t p1 p2 p3 (fun w hw q => absurd (show w ∈ [1, 3, 33, 43, 55, 66] by rw [← q]; exact hf) ((by decide : ∀ w ∈ [28, 30, 31, 32, 35, 36], w ∉ [1, 3, 33, 43, 55, 66]) w hw)))
-- X6_clockLeft clockLeft(LIcePad$Aircraft;)D
theorem cw_X6_258 : CWd RX6 258 yX2_holdsFor cX2_holdsFor 4 (some .double) 3 := ⟨m_ml_X6_258, m_co_X2_holdsFor, m_ini_X2, by decide +kernel, by decide +kernel⟩
abbrev rm_X6_clockLeft : Room := { frames := 2, cells := 0, slots := 0, locals := 43 }
def S_X6_clockLeft (σ : St) (k : Nat) : UInt64 := (FP.dsub (S_X2_holdsFor σ (σ 33 k) (σ 34 k)) (FP.i2d ((σ 0 0) - (σ 35 k))))
set_option maxRecDepth 100000 in
set_option maxHeartbeats 4000000 in
theorem K_X6_clockLeft_0 {p : Program} {l : Launch} {e : Env} {s : State} {m : MethodId} {args : Array Value} {below : List Frame} {meth : Method} {c : Code} {D : va_G} {E : En} {A : Nat → Prop} {post : UInt64 → St → Prop} (C : CX p s m meth c cX6_clockLeft RX6 2 D E A) {σ : St} (ok : OK E σ) {k : Nat} (hk : k < en E) {H : Heap} {locs : List Loc} (h : HW D E σ A s H locs) (hr : meth.sig.returnType = some .double) {ls : Array Slot} (hl : lv_has ls 2 [(0, .ref (ead E 0)), (1, .ref (ead E (17 + k)))]) (hp : post (S_X6_clockLeft σ k) σ) : W p l e rm_X6_clockLeft s m args below meth c H locs 0 0 (MQ below (va_Qd post (POB D E A) A) args s 0 0 A) (F0 m 0 ls []) := by
  refine lv_aload_n C.x C.b dX6_clockLeft_0 rfl (lv_at hl 0 rfl) ?_
  refine g_X6_26 C h dX6_clockLeft_1 ?_
  refine lv_aload_n C.x C.b dX6_clockLeft_4 rfl (lv_at hl 1 rfl) ?_
  refine g_X6_137 C h hk dX6_clockLeft_5 ?_
  refine lv_aload_n C.x C.b dX6_clockLeft_8 rfl (lv_at hl 1 rfl) ?_
  refine g_X6_140 C h hk dX6_clockLeft_9 ?_
  refine lv_aload_n C.x C.b dX6_clockLeft_12 rfl (lv_at hl 0 rfl) ?_
  refine g_X6_10 C h dX6_clockLeft_13 ?_
  refine caVd (As := [.int (σ 33 k), .int (σ 34 k), .ref (ead E 1)]) (rest := []) (q0 := 7) (ci := 2) C h (M_X2_holdsFor l D E _ ok (σ 33 k) (σ 34 k) (ok.2.2.2.2.2.1 k)) cw_X6_258 m_im_X2_holdsFor m_se_X2_holdsFor rfl rfl ⟨Nat.le_of_ble_eq_true rfl, Nat.le_of_ble_eq_true rfl⟩ rfl rfl hl rfl (Nat.le_of_ble_eq_true rfl) dX6_clockLeft_16 ⟨Nat.le_of_ble_eq_true rfl, Nat.le_of_ble_eq_true rfl⟩ (fun r u H locs w1 h => ?_)
  obtain ⟨rfl, rfl⟩ := w1
  refine lv_aload_n C.x C.b dX6_clockLeft_19 rfl (lv_at hl 0 rfl) ?_
  refine g_X6_64 C h dX6_clockLeft_20 ?_
  refine lv_aload_n C.x C.b dX6_clockLeft_23 rfl (lv_at hl 1 rfl) ?_
  refine g_X6_262 C h hk dX6_clockLeft_24 ?_
  refine lv_isub C.x C.b dX6_clockLeft_27 ?_
  refine lv_i2d C.x C.b dX6_clockLeft_28 ?_
  refine lv_dsub C.x C.b dX6_clockLeft_29 (nan_of (mg_left (holds_mag _ _ _) _) (by decide)) ?_
  exact rtD C h hr dX6_clockLeft_30 hp
theorem M_X6_clockLeft (l : Launch) (D : va_G) (E : En) (σ : St) (ok : OK E σ) (k : Nat) (hk : k < en E) : CO l yX6_clockLeft cX6_clockLeft 2 (some .double) rm_X6_clockLeft [.ref (ead E 0), .ref (ead E (17 + k))] D E σ (fun A => va_Qd (fun r u => (S_X6_clockLeft σ k) = r ∧ σ = u) (POB D E A) A) 0 0 :=
  CO.of RX6 (by decide +kernel) rfl (Nat.le_of_ble_eq_true rfl) (fun p e s m below meth c A ls C h hr hl => K_X6_clockLeft_0 C ok hk h hr hl ⟨rfl, rfl⟩)
theorem clock_mag (σ : St) (k : Nat) : (S_X6_clockLeft σ k).toNat % 2 ^ 63 < 1089 * 2 ^ 52 := mg_left (holds_mag _ _ _) _
-- X6_goesAhead goesAhead(II)Z
theorem cw_X6_198 : CWd RX6 198 yX6_clockLeft cX6_clockLeft 2 (some .double) 1 := ⟨m_ml_X6_198, m_co_X6_clockLeft, m_ini_X6, by decide +kernel, by decide +kernel⟩
abbrev rm_X6_goesAhead : Room := { frames := 3, cells := 0, slots := 0, locals := 64 }
def S_X6_goesAhead (σ : St) (p1 : Int32) (p2 : Int32) : Int32 := if (Op.cmpValue (FP.dcmp (S_X6_clockLeft σ p1.toNatClampNeg) (S_X6_clockLeft σ p2.toNatClampNeg)) CmpOp.g) < 0 then 1 else if (Op.cmpValue (FP.dcmp (S_X6_clockLeft σ p1.toNatClampNeg) (S_X6_clockLeft σ p2.toNatClampNeg)) CmpOp.l) = 0 then (if p2 ≤ p1 then 0 else 1) else 0
set_option maxRecDepth 100000 in
set_option maxHeartbeats 4000000 in
theorem K_X6_goesAhead_0 {p : Program} {l : Launch} {e : Env} {s : State} {m : MethodId} {args : Array Value} {below : List Frame} {meth : Method} {c : Code} {D : va_G} {E : En} {A : Nat → Prop} {post : Int32 → St → Prop} (C : CX p s m meth c cX6_goesAhead RX6 7 D E A) {σ : St} (ok : OK E σ) {p1 : Int32} {p2 : Int32} (a1 : IN E p1) (a2 : IN E p2) {H : Heap} {locs : List Loc} (h : HW D E σ A s H locs) (hr : meth.sig.returnType = some .boolean) {ls : Array Slot} (hl : lv_has ls 7 [(0, .ref (ead E 0)), (1, .int p1), (2, .int p2)]) (hp : post (S_X6_goesAhead σ p1 p2) σ) : W p l e rm_X6_goesAhead s m args below meth c H locs 0 0 (MQ below (va_Qi post (POB D E A) A) args s 0 0 A) (F0 m 0 ls []) := by
  refine lv_aload_n C.x C.b dX6_goesAhead_0 rfl (lv_at hl 0 rfl) ?_
  refine lv_aload_n C.x C.b dX6_goesAhead_1 rfl (lv_at hl 0 rfl) ?_
  refine g_X6_39 C h dX6_goesAhead_2 ?_
  refine lv_iload_n C.x C.b dX6_goesAhead_5 rfl (lv_at hl 1 rfl) ?_
  refine al_14 C h a1.1 a1.2 dX6_goesAhead_6 ?_
  refine caVd (As := [.ref (ead E (17 + p1.toNatClampNeg))]) (rest := []) (q0 := 0) (ci := 6) C h (M_X6_clockLeft l D E _ ok p1.toNatClampNeg a1.2) cw_X6_198 m_im_X6_clockLeft m_se_X6_clockLeft rfl rfl ⟨Nat.le_of_ble_eq_true rfl, Nat.le_of_ble_eq_true rfl⟩ rfl rfl hl rfl (Nat.le_of_ble_eq_true rfl) dX6_goesAhead_7 ⟨Nat.le_of_ble_eq_true rfl, Nat.le_of_ble_eq_true rfl⟩ (fun r u H locs w1 h => ?_)
  obtain ⟨rfl, rfl⟩ := w1
  refine lv_dstore_n (lv' := [(3, .double (S_X6_clockLeft σ p1.toNatClampNeg)), (0, .ref (ead E 0)), (1, .int p1), (2, .int p2)]) C.x C.b dX6_goesAhead_10 rfl hl (by decide) rfl (fun ls hl => ?_)
  refine lv_aload_n C.x C.b dX6_goesAhead_11 rfl (lv_at hl 1 rfl) ?_
  refine lv_aload_n C.x C.b dX6_goesAhead_12 rfl (lv_at hl 1 rfl) ?_
  refine g_X6_39 C h dX6_goesAhead_13 ?_
  refine lv_iload_n C.x C.b dX6_goesAhead_16 rfl (lv_at hl 3 rfl) ?_
  refine al_14 C h a2.1 a2.2 dX6_goesAhead_17 ?_
  refine caVd (As := [.ref (ead E (17 + p2.toNatClampNeg))]) (rest := []) (q0 := 0) (ci := 6) C h (M_X6_clockLeft l D E _ ok p2.toNatClampNeg a2.2) cw_X6_198 m_im_X6_clockLeft m_se_X6_clockLeft rfl rfl ⟨Nat.le_of_ble_eq_true rfl, Nat.le_of_ble_eq_true rfl⟩ rfl rfl hl rfl (Nat.le_of_ble_eq_true rfl) dX6_goesAhead_18 ⟨Nat.le_of_ble_eq_true rfl, Nat.le_of_ble_eq_true rfl⟩ (fun r u H locs w2 h => ?_)
  obtain ⟨rfl, rfl⟩ := w2
  refine lv_dstore (lv' := [(5, .double (S_X6_clockLeft σ p2.toNatClampNeg)), (3, .double (S_X6_clockLeft σ p1.toNatClampNeg)), (0, .ref (ead E 0)), (1, .int p1), (2, .int p2)]) C.x C.b dX6_goesAhead_21 hl (by decide) rfl (fun ls hl => ?_)
  refine lv_dload_n C.x C.b dX6_goesAhead_23 rfl (lv_at hl 1 rfl) ?_
  refine lv_dload C.x C.b dX6_goesAhead_24 (lv_at hl 0 rfl) ?_
  refine lv_dcmp C.x C.b dX6_goesAhead_26 ?_
  refine lv_if_lt (tgt := 42) C.x C.b dX6_goesAhead_27 (by decide) (fun c3 => ?_) (fun c3 => ?_)
  · skip
    refine lv_iconst (v := 1) C.x C.b dX6_goesAhead_42 (by decide) ?_
    refine lv_goto (tgt := 47) C.x C.b dX6_goesAhead_43 (by decide) ?_
    exact rtI C h hr rfl dX6_goesAhead_47 (Eq.mp (congrArg (fun z => post z σ) (if_pos c3)) hp)
  · skip
    refine lv_dload_n C.x C.b dX6_goesAhead_30 rfl (lv_at hl 1 rfl) ?_
    refine lv_dload C.x C.b dX6_goesAhead_31 (lv_at hl 0 rfl) ?_
    refine lv_dcmp C.x C.b dX6_goesAhead_33 ?_
    refine lv_if_ne (tgt := 46) C.x C.b dX6_goesAhead_34 (by decide) (fun c4 => ?_) (fun c4 => ?_)
    · skip
      refine lv_iconst (v := 0) C.x C.b dX6_goesAhead_46 (by decide) ?_
      exact rtI C h hr rfl dX6_goesAhead_47 (Eq.mp (congrArg (fun z => post z σ) ((if_neg c3).trans (if_neg c4))) hp)
    · skip
      refine lv_iload_n C.x C.b dX6_goesAhead_37 rfl (lv_at hl 3 rfl) ?_
      refine lv_iload_n C.x C.b dX6_goesAhead_38 rfl (lv_at hl 4 rfl) ?_
      refine lv_icmp_ge (tgt := 46) C.x C.b dX6_goesAhead_39 (by decide) (fun c5 => ?_) (fun c5 => ?_)
      · skip
        refine lv_iconst (v := 0) C.x C.b dX6_goesAhead_46 (by decide) ?_
        exact rtI C h hr rfl dX6_goesAhead_47 (Eq.mp (congrArg (fun z => post z σ) ((if_neg c3).trans ((if_pos c4).trans (if_pos c5)))) hp)
      · skip
        refine lv_iconst (v := 1) C.x C.b dX6_goesAhead_42 (by decide) ?_
        refine lv_goto (tgt := 47) C.x C.b dX6_goesAhead_43 (by decide) ?_
        exact rtI C h hr rfl dX6_goesAhead_47 (Eq.mp (congrArg (fun z => post z σ) ((if_neg c3).trans ((if_pos c4).trans (if_neg c5)))) hp)
theorem M_X6_goesAhead (l : Launch) (D : va_G) (E : En) (σ : St) (ok : OK E σ) (p1 : Int32) (p2 : Int32) (a1 : IN E p1) (a2 : IN E p2) : CO l yX6_goesAhead cX6_goesAhead 7 (some .boolean) rm_X6_goesAhead [.ref (ead E 0), .int p1, .int p2] D E σ (fun A => va_Qi (fun r u => (S_X6_goesAhead σ p1 p2) = r ∧ σ = u) (POB D E A) A) 0 0 :=
  CO.of RX6 (by decide +kernel) rfl (Nat.le_of_ble_eq_true rfl) (fun p e s m below meth c A ls C h hr hl => K_X6_goesAhead_0 C ok a1 a2 h hr hl ⟨rfl, rfl⟩)
-- X6_litresOnFleet litresOnFleet()I
abbrev rm_X6_litresOnFleet : Room := { frames := 0, cells := 0, slots := 0, locals := 0 }
def S_X6_litresOnFleet_4 : Nat → St → Int32 → Nat → Int32
  | 0, _, _, _ => 0
  | n + 1, σ, v1, j2 => if (σ 1 0) ≤ (nI j2) then v1 else S_X6_litresOnFleet_4 n σ (v1 + (σ 31 j2)) (j2 + 1)
theorem S_X6_litresOnFleet_4_s (n : Nat) (σ : St) (v1 : Int32) (j2 : Nat) : S_X6_litresOnFleet_4 (n + 1) σ v1 j2 = if (σ 1 0) ≤ (nI j2) then v1 else S_X6_litresOnFleet_4 n σ (v1 + (σ 31 j2)) (j2 + 1) := rfl
set_option maxRecDepth 100000 in
set_option maxHeartbeats 4000000 in
theorem K_X6_litresOnFleet_4 {p : Program} {l : Launch} {e : Env} {s : State} {m : MethodId} {args : Array Value} {below : List Frame} {meth : Method} {c : Code} {D : va_G} {E : En} {A : Nat → Prop} {post : Int32 → St → Prop} (C : CX p s m meth c cX6_litresOnFleet RX6 3 D E A) (hr : meth.sig.returnType = some .int) : ∀ (n : Nat) {σ : St} (ok : OK E σ) {v1 : Int32} {j2 : Nat} (hj : j2 + n = 21) (hb : j2 ≤ 20) {H : Heap} {locs : List Loc} (h : HW D E σ A s H locs) {ls : Array Slot} (hl : lv_has ls 3 [(0, .ref (ead E 0)), (1, .int v1), (2, .int (nI j2))]) (hp : post (S_X6_litresOnFleet_4 n σ v1 j2) σ), W p l e rm_X6_litresOnFleet s m args below meth c H locs 0 0 (MQ below (va_Qi post (POB D E A) A) args s 0 0 A) (F0 m 4 ls []) := by
  intro n
  induction n with
  | zero =>
    intro σ ok v1 j2 hj hb H locs h ls hl hp
    exfalso
    omega
  | succ n ih =>
    intro σ ok v1 j2 hj hb H locs h ls hl hp
    refine lv_iload_n C.x C.b dX6_litresOnFleet_4 rfl (lv_at hl 2 rfl) ?_
    refine lv_aload_n C.x C.b dX6_litresOnFleet_5 rfl (lv_at hl 0 rfl) ?_
    refine g_X6_108 C h dX6_litresOnFleet_6 ?_
    refine lv_icmp_ge (tgt := 30) C.x C.b dX6_litresOnFleet_9 (by decide) (fun c1 => ?_) (fun c1 => ?_)
    · skip
      refine lv_iload_n C.x C.b dX6_litresOnFleet_30 rfl (lv_at hl 1 rfl) ?_
      exact rtI C h hr rfl dX6_litresOnFleet_31 (Eq.mp (congrArg (fun z => post z σ) ((S_X6_litresOnFleet_4_s n σ v1 j2).trans (if_pos c1))) hp)
    · skip
      have h2 : j2 < en E := ok.lt (by omega) c1
      refine lv_iload_n C.x C.b dX6_litresOnFleet_12 rfl (lv_at hl 1 rfl) ?_
      refine lv_aload_n C.x C.b dX6_litresOnFleet_13 rfl (lv_at hl 0 rfl) ?_
      refine g_X6_39 C h dX6_litresOnFleet_14 ?_
      refine lv_iload_n C.x C.b dX6_litresOnFleet_17 rfl (lv_at hl 2 rfl) ?_
      refine aln_14 C h ok h2 dX6_litresOnFleet_18 ?_
      refine g_X6_192 C h h2 dX6_litresOnFleet_19 ?_
      refine lv_iadd C.x C.b dX6_litresOnFleet_22 ?_
      refine lv_istore_n (lv' := [(1, .int (v1 + (σ 31 j2))), (0, .ref (ead E 0)), (2, .int (nI j2))]) C.x C.b dX6_litresOnFleet_23 rfl hl (by decide) rfl (fun ls hl => ?_)
      refine lv_iinc (v := nI (j2 + 1)) (lv' := [(2, .int (nI (j2 + 1))), (1, .int (v1 + (σ 31 j2))), (0, .ref (ead E 0))]) C.x C.b dX6_litresOnFleet_24 hl (k := 2) rfl (nI_1 _) (by decide) rfl (fun ls hl => ?_)
      refine lv_goto (tgt := 4) C.x C.b dX6_litresOnFleet_27 (by decide) ?_
      exact ih (v1 := (v1 + (σ 31 j2))) (j2 := j2 + 1) ok (by omega) (by have := ok.le; omega) h (lv_sub hl [2, 1, 0] rfl) (Eq.mp (congrArg (fun z => post z σ) ((S_X6_litresOnFleet_4_s n σ v1 j2).trans (if_neg c1))) hp)
def S_X6_litresOnFleet (σ : St) : Int32 := S_X6_litresOnFleet_4 21 σ 0 0
set_option maxRecDepth 100000 in
set_option maxHeartbeats 4000000 in
theorem K_X6_litresOnFleet_0 {p : Program} {l : Launch} {e : Env} {s : State} {m : MethodId} {args : Array Value} {below : List Frame} {meth : Method} {c : Code} {D : va_G} {E : En} {A : Nat → Prop} {post : Int32 → St → Prop} (C : CX p s m meth c cX6_litresOnFleet RX6 3 D E A) {σ : St} (ok : OK E σ) {H : Heap} {locs : List Loc} (h : HW D E σ A s H locs) (hr : meth.sig.returnType = some .int) {ls : Array Slot} (hl : lv_has ls 3 [(0, .ref (ead E 0))]) (hp : post (S_X6_litresOnFleet σ) σ) : W p l e rm_X6_litresOnFleet s m args below meth c H locs 0 0 (MQ below (va_Qi post (POB D E A) A) args s 0 0 A) (F0 m 0 ls []) := by
  refine lv_iconst (v := 0) C.x C.b dX6_litresOnFleet_0 (by decide) ?_
  refine lv_istore_n (lv' := [(1, .int 0), (0, .ref (ead E 0))]) C.x C.b dX6_litresOnFleet_1 rfl hl (by decide) rfl (fun ls hl => ?_)
  refine lv_iconst (v := 0) C.x C.b dX6_litresOnFleet_2 (by decide) ?_
  refine lv_istore_n (lv' := [(2, .int 0), (1, .int 0), (0, .ref (ead E 0))]) C.x C.b dX6_litresOnFleet_3 rfl hl (by decide) rfl (fun ls hl => ?_)
  exact K_X6_litresOnFleet_4 C hr 21 (v1 := 0) (j2 := 0) ok (by omega) (by have := ok.le; omega) h (lv_sub hl [2, 1, 0] rfl) hp
theorem M_X6_litresOnFleet (l : Launch) (D : va_G) (E : En) (σ : St) (ok : OK E σ) : CO l yX6_litresOnFleet cX6_litresOnFleet 3 (some .int) rm_X6_litresOnFleet [.ref (ead E 0)] D E σ (fun A => va_Qi (fun r u => (S_X6_litresOnFleet σ) = r ∧ σ = u) (POB D E A) A) 0 0 :=
  CO.of RX6 (by decide +kernel) rfl (Nat.le_of_ble_eq_true rfl) (fun p e s m below meth c A ls C h hr hl => K_X6_litresOnFleet_0 C ok h hr hl ⟨rfl, rfl⟩)
-- X6_endTreatments endTreatments()V
abbrev rm_X6_endTreatments : Room := { frames := 0, cells := 0, slots := 0, locals := 0 }
def S_X6_endTreatments_2 : Nat → St → Nat → St
  | 0, σ, _ => σ
  | n + 1, σ, j1 => if (σ 1 0) ≤ (nI j1) then σ else if (σ 28 j1) = 1 then (if (σ 0 0) < (σ 36 j1) then S_X6_endTreatments_2 n σ (j1 + 1) else S_X6_endTreatments_2 n (up2 σ 28 j1 2) (j1 + 1)) else S_X6_endTreatments_2 n σ (j1 + 1)
theorem S_X6_endTreatments_2_s (n : Nat) (σ : St) (j1 : Nat) : S_X6_endTreatments_2 (n + 1) σ j1 = if (σ 1 0) ≤ (nI j1) then σ else if (σ 28 j1) = 1 then (if (σ 0 0) < (σ 36 j1) then S_X6_endTreatments_2 n σ (j1 + 1) else S_X6_endTreatments_2 n (up2 σ 28 j1 2) (j1 + 1)) else S_X6_endTreatments_2 n σ (j1 + 1) := rfl
set_option maxRecDepth 100000 in
set_option maxHeartbeats 4000000 in
theorem K_X6_endTreatments_2 {p : Program} {l : Launch} {e : Env} {s : State} {m : MethodId} {args : Array Value} {below : List Frame} {meth : Method} {c : Code} {D : va_G} {E : En} {A : Nat → Prop} {post : St → Prop} (C : CX p s m meth c cX6_endTreatments RX6 2 D E A) (hr : meth.sig.returnType = none) : ∀ (n : Nat) {σ : St} (ok : OK E σ) {j1 : Nat} (hj : j1 + n = 21) (hb : j1 ≤ 20) {H : Heap} {locs : List Loc} (h : HW D E σ A s H locs) {ls : Array Slot} (hl : lv_has ls 2 [(0, .ref (ead E 0)), (1, .int (nI j1))]) (hp : post (S_X6_endTreatments_2 n σ j1)), W p l e rm_X6_endTreatments s m args below meth c H locs 0 0 (MQ below (va_Qv post (POB D E A) A) args s 0 0 A) (F0 m 2 ls []) := by
  intro n
  induction n with
  | zero =>
    intro σ ok j1 hj hb H locs h ls hl hp
    exfalso
    omega
  | succ n ih =>
    intro σ ok j1 hj hb H locs h ls hl hp
    refine lv_iload_n C.x C.b dX6_endTreatments_2 rfl (lv_at hl 1 rfl) ?_
    refine lv_aload_n C.x C.b dX6_endTreatments_3 rfl (lv_at hl 0 rfl) ?_
    refine g_X6_108 C h dX6_endTreatments_4 ?_
    refine lv_icmp_ge (tgt := 55) C.x C.b dX6_endTreatments_7 (by decide) (fun c1 => ?_) (fun c1 => ?_)
    · skip
      exact rtV C h hr dX6_endTreatments_55 (Eq.mp (congrArg (fun z => post z) ((S_X6_endTreatments_2_s n σ j1).trans (if_pos c1))) hp)
    · skip
      have h1 : j1 < en E := ok.lt (by omega) c1
      refine lv_aload_n C.x C.b dX6_endTreatments_10 rfl (lv_at hl 0 rfl) ?_
      refine g_X6_39 C h dX6_endTreatments_11 ?_
      refine lv_iload_n C.x C.b dX6_endTreatments_14 rfl (lv_at hl 1 rfl) ?_
      refine aln_14 C h ok h1 dX6_endTreatments_15 ?_
      refine g_X6_120 C h h1 dX6_endTreatments_16 ?_
      refine lv_iconst (v := 1) C.x C.b dX6_endTreatments_19 (by decide) ?_
      refine lv_icmp_ne (tgt := 49) C.x C.b dX6_endTreatments_20 (by decide) (fun c2 => ?_) (fun c2 => ?_)
      · skip
        refine lv_iinc (v := nI (j1 + 1)) (lv' := [(1, .int (nI (j1 + 1))), (0, .ref (ead E 0))]) C.x C.b dX6_endTreatments_49 hl (k := 1) rfl (nI_1 _) (by decide) rfl (fun ls hl => ?_)
        refine lv_goto (tgt := 2) C.x C.b dX6_endTreatments_52 (by decide) ?_
        exact ih (j1 := j1 + 1) ok (by omega) (by have := ok.le; omega) h (lv_sub hl [1, 0] rfl) (Eq.mp (congrArg (fun z => post z) ((S_X6_endTreatments_2_s n σ j1).trans ((if_neg c1).trans (if_neg c2)))) hp)
      · skip
        refine lv_aload_n C.x C.b dX6_endTreatments_23 rfl (lv_at hl 0 rfl) ?_
        refine g_X6_39 C h dX6_endTreatments_24 ?_
        refine lv_iload_n C.x C.b dX6_endTreatments_27 rfl (lv_at hl 1 rfl) ?_
        refine aln_14 C h ok h1 dX6_endTreatments_28 ?_
        refine g_X6_143 C h h1 dX6_endTreatments_29 ?_
        refine lv_aload_n C.x C.b dX6_endTreatments_32 rfl (lv_at hl 0 rfl) ?_
        refine g_X6_64 C h dX6_endTreatments_33 ?_
        refine lv_icmp_gt (tgt := 49) C.x C.b dX6_endTreatments_36 (by decide) (fun c3 => ?_) (fun c3 => ?_)
        · skip
          refine lv_iinc (v := nI (j1 + 1)) (lv' := [(1, .int (nI (j1 + 1))), (0, .ref (ead E 0))]) C.x C.b dX6_endTreatments_49 hl (k := 1) rfl (nI_1 _) (by decide) rfl (fun ls hl => ?_)
          refine lv_goto (tgt := 2) C.x C.b dX6_endTreatments_52 (by decide) ?_
          exact ih (j1 := j1 + 1) ok (by omega) (by have := ok.le; omega) h (lv_sub hl [1, 0] rfl) (Eq.mp (congrArg (fun z => post z) ((S_X6_endTreatments_2_s n σ j1).trans ((if_neg c1).trans ((if_pos c2).trans (if_pos c3))))) hp)
        · skip
          refine lv_aload_n C.x C.b dX6_endTreatments_39 rfl (lv_at hl 0 rfl) ?_
          refine g_X6_39 C h dX6_endTreatments_40 ?_
          refine lv_iload_n C.x C.b dX6_endTreatments_43 rfl (lv_at hl 1 rfl) ?_
          refine aln_14 C h ok h1 dX6_endTreatments_44 ?_
          refine lv_iconst (v := 2) C.x C.b dX6_endTreatments_45 (by decide) ?_
          refine p_X6_120 C h h1 dX6_endTreatments_46 (fun H locs h => ?_)
          refine lv_iinc (v := nI (j1 + 1)) (lv' := [(1, .int (nI (j1 + 1))), (0, .ref (ead E 0))]) C.x C.b dX6_endTreatments_49 hl (k := 1) rfl (nI_1 _) (by decide) rfl (fun ls hl => ?_)
          refine lv_goto (tgt := 2) C.x C.b dX6_endTreatments_52 (by decide) ?_
          exact ih (j1 := j1 + 1) (ok.up (by decide) _ _) (by omega) (by have := ok.le; omega) h (lv_sub hl [1, 0] rfl) (Eq.mp (congrArg (fun z => post z) ((S_X6_endTreatments_2_s n σ j1).trans ((if_neg c1).trans ((if_pos c2).trans (if_neg c3))))) hp)
def S_X6_endTreatments (σ : St) : St := S_X6_endTreatments_2 21 σ 0
set_option maxRecDepth 100000 in
set_option maxHeartbeats 4000000 in
theorem K_X6_endTreatments_0 {p : Program} {l : Launch} {e : Env} {s : State} {m : MethodId} {args : Array Value} {below : List Frame} {meth : Method} {c : Code} {D : va_G} {E : En} {A : Nat → Prop} {post : St → Prop} (C : CX p s m meth c cX6_endTreatments RX6 2 D E A) {σ : St} (ok : OK E σ) {H : Heap} {locs : List Loc} (h : HW D E σ A s H locs) (hr : meth.sig.returnType = none) {ls : Array Slot} (hl : lv_has ls 2 [(0, .ref (ead E 0))]) (hp : post (S_X6_endTreatments σ)) : W p l e rm_X6_endTreatments s m args below meth c H locs 0 0 (MQ below (va_Qv post (POB D E A) A) args s 0 0 A) (F0 m 0 ls []) := by
  refine lv_iconst (v := 0) C.x C.b dX6_endTreatments_0 (by decide) ?_
  refine lv_istore_n (lv' := [(1, .int 0), (0, .ref (ead E 0))]) C.x C.b dX6_endTreatments_1 rfl hl (by decide) rfl (fun ls hl => ?_)
  exact K_X6_endTreatments_2 C hr 21 (j1 := 0) ok (by omega) (by have := ok.le; omega) h (lv_sub hl [1, 0] rfl) hp
theorem M_X6_endTreatments (l : Launch) (D : va_G) (E : En) (σ : St) (ok : OK E σ) : CO l yX6_endTreatments cX6_endTreatments 2 none rm_X6_endTreatments [.ref (ead E 0)] D E σ (fun A => va_Qv (fun u => (S_X6_endTreatments σ) = u) (POB D E A) A) 0 0 :=
  CO.of RX6 (by decide +kernel) rfl (Nat.le_of_ble_eq_true rfl) (fun p e s m below meth c A ls C h hr hl => K_X6_endTreatments_0 C ok h hr hl rfl)
theorem S_X6_endTreatments_2_fr {f i : Nat} : ∀ (n : Nat) (σ : St) (j1 : Nat) (hf : ∀ w ∈ [28], f ≠ w), (S_X6_endTreatments_2 n σ j1) f i = σ f i
  | 0, σ, j1, hf => rfl
  | n + 1, σ, j1, hf => by
    rw [S_X6_endTreatments_2_s]
    (repeat' split) <;> first | with_reducible rfl | (simp only [S_X6_endTreatments_2_fr n _ _ hf, up2_f (hf 28 (by decide))]; done)
theorem S_X6_endTreatments_fr {f i : Nat} (σ : St) (hf : ∀ w ∈ [28], f ≠ w) : (S_X6_endTreatments σ) f i = σ f i := by
  unfold S_X6_endTreatments
  (repeat' split) <;> first | with_reducible rfl | (simp only [up2_f (hf 28 (by decide)), S_X6_endTreatments_2_fr _ _ _ hf]; done)
theorem S_X6_endTreatments_ok {E : En} {σ : St} (ok : OK E σ) : OK E (S_X6_endTreatments σ) :=
  ok.of_fr (fun f i hf => S_X6_endTreatments_fr σ (fun w hw q => absurd (show w ∈ [1, 3, 33, 43, 55, 66] by rw [← q]; exact hf) ((by decide : ∀ w ∈ [28], w ∉ [1, 3, 33, 43, 55, 66]) w hw)))
-- X6_cancelBehindDuty cancelBehindDuty()V
theorem cw_X6_146 : CWd RX6 146 yX0_isOver cX0_isOver 1 (some .boolean) 0 := ⟨m_ml_X6_146, m_co_X0_isOver, m_ini_X0, by decide +kernel, by decide +kernel⟩
abbrev rm_X6_cancelBehindDuty : Room := { frames := 1, cells := 0, slots := 0, locals := 20 }
def S_X6_cancelBehindDuty_2 : Nat → St → Nat → St
  | 0, σ, _ => σ
  | n + 1, σ, j1 => if (σ 1 0) ≤ (nI j1) then σ else if (S_X0_isOver σ j1) = 0 then (if (σ 0 0) ≤ (σ 27 j1) then S_X6_cancelBehindDuty_2 n σ (j1 + 1) else S_X6_cancelBehindDuty_2 n (up2 σ 28 j1 4) (j1 + 1)) else S_X6_cancelBehindDuty_2 n σ (j1 + 1)
theorem S_X6_cancelBehindDuty_2_s (n : Nat) (σ : St) (j1 : Nat) : S_X6_cancelBehindDuty_2 (n + 1) σ j1 = if (σ 1 0) ≤ (nI j1) then σ else if (S_X0_isOver σ j1) = 0 then (if (σ 0 0) ≤ (σ 27 j1) then S_X6_cancelBehindDuty_2 n σ (j1 + 1) else S_X6_cancelBehindDuty_2 n (up2 σ 28 j1 4) (j1 + 1)) else S_X6_cancelBehindDuty_2 n σ (j1 + 1) := rfl
set_option maxRecDepth 100000 in
set_option maxHeartbeats 4000000 in
theorem K_X6_cancelBehindDuty_2 {p : Program} {l : Launch} {e : Env} {s : State} {m : MethodId} {args : Array Value} {below : List Frame} {meth : Method} {c : Code} {D : va_G} {E : En} {A : Nat → Prop} {post : St → Prop} (C : CX p s m meth c cX6_cancelBehindDuty RX6 2 D E A) (hr : meth.sig.returnType = none) : ∀ (n : Nat) {σ : St} (ok : OK E σ) {j1 : Nat} (hj : j1 + n = 21) (hb : j1 ≤ 20) {H : Heap} {locs : List Loc} (h : HW D E σ A s H locs) {ls : Array Slot} (hl : lv_has ls 2 [(0, .ref (ead E 0)), (1, .int (nI j1))]) (hp : post (S_X6_cancelBehindDuty_2 n σ j1)), W p l e rm_X6_cancelBehindDuty s m args below meth c H locs 0 0 (MQ below (va_Qv post (POB D E A) A) args s 0 0 A) (F0 m 2 ls []) := by
  intro n
  induction n with
  | zero =>
    intro σ ok j1 hj hb H locs h ls hl hp
    exfalso
    omega
  | succ n ih =>
    intro σ ok j1 hj hb H locs h ls hl hp
    refine lv_iload_n C.x C.b dX6_cancelBehindDuty_2 rfl (lv_at hl 1 rfl) ?_
    refine lv_aload_n C.x C.b dX6_cancelBehindDuty_3 rfl (lv_at hl 0 rfl) ?_
    refine g_X6_108 C h dX6_cancelBehindDuty_4 ?_
    refine lv_icmp_ge (tgt := 54) C.x C.b dX6_cancelBehindDuty_7 (by decide) (fun c1 => ?_) (fun c1 => ?_)
    · skip
      exact rtV C h hr dX6_cancelBehindDuty_54 (Eq.mp (congrArg (fun z => post z) ((S_X6_cancelBehindDuty_2_s n σ j1).trans (if_pos c1))) hp)
    · skip
      have h1 : j1 < en E := ok.lt (by omega) c1
      refine lv_aload_n C.x C.b dX6_cancelBehindDuty_10 rfl (lv_at hl 0 rfl) ?_
      refine g_X6_39 C h dX6_cancelBehindDuty_11 ?_
      refine lv_iload_n C.x C.b dX6_cancelBehindDuty_14 rfl (lv_at hl 1 rfl) ?_
      refine aln_14 C h ok h1 dX6_cancelBehindDuty_15 ?_
      refine caVi (As := []) (rest := []) (q0 := 17 + j1) (ci := 0) C h (M_X0_isOver l D E _ ok j1 h1) cw_X6_146 m_im_X0_isOver m_se_X0_isOver rfl rfl ⟨Nat.le_of_ble_eq_true rfl, Nat.le_of_ble_eq_true rfl⟩ (wd_k _ h1) rfl hl rfl (Nat.le_of_ble_eq_true rfl) dX6_cancelBehindDuty_16 ⟨Nat.le_of_ble_eq_true rfl, Nat.le_of_ble_eq_true rfl⟩ (fun r u H locs w2 h => ?_)
      obtain ⟨rfl, rfl⟩ := w2
      refine lv_if_ne (tgt := 48) C.x C.b dX6_cancelBehindDuty_19 (by decide) (fun c3 => ?_) (fun c3 => ?_)
      · skip
        refine lv_iinc (v := nI (j1 + 1)) (lv' := [(1, .int (nI (j1 + 1))), (0, .ref (ead E 0))]) C.x C.b dX6_cancelBehindDuty_48 hl (k := 1) rfl (nI_1 _) (by decide) rfl (fun ls hl => ?_)
        refine lv_goto (tgt := 2) C.x C.b dX6_cancelBehindDuty_51 (by decide) ?_
        exact ih (j1 := j1 + 1) ok (by omega) (by have := ok.le; omega) h (lv_sub hl [1, 0] rfl) (Eq.mp (congrArg (fun z => post z) ((S_X6_cancelBehindDuty_2_s n σ j1).trans ((if_neg c1).trans (if_neg c3)))) hp)
      · skip
        refine lv_aload_n C.x C.b dX6_cancelBehindDuty_22 rfl (lv_at hl 0 rfl) ?_
        refine g_X6_39 C h dX6_cancelBehindDuty_23 ?_
        refine lv_iload_n C.x C.b dX6_cancelBehindDuty_26 rfl (lv_at hl 1 rfl) ?_
        refine aln_14 C h ok h1 dX6_cancelBehindDuty_27 ?_
        refine g_X6_251 C h h1 dX6_cancelBehindDuty_28 ?_
        refine lv_aload_n C.x C.b dX6_cancelBehindDuty_31 rfl (lv_at hl 0 rfl) ?_
        refine g_X6_64 C h dX6_cancelBehindDuty_32 ?_
        refine lv_icmp_ge (tgt := 48) C.x C.b dX6_cancelBehindDuty_35 (by decide) (fun c4 => ?_) (fun c4 => ?_)
        · skip
          refine lv_iinc (v := nI (j1 + 1)) (lv' := [(1, .int (nI (j1 + 1))), (0, .ref (ead E 0))]) C.x C.b dX6_cancelBehindDuty_48 hl (k := 1) rfl (nI_1 _) (by decide) rfl (fun ls hl => ?_)
          refine lv_goto (tgt := 2) C.x C.b dX6_cancelBehindDuty_51 (by decide) ?_
          exact ih (j1 := j1 + 1) ok (by omega) (by have := ok.le; omega) h (lv_sub hl [1, 0] rfl) (Eq.mp (congrArg (fun z => post z) ((S_X6_cancelBehindDuty_2_s n σ j1).trans ((if_neg c1).trans ((if_pos c3).trans (if_pos c4))))) hp)
        · skip
          refine lv_aload_n C.x C.b dX6_cancelBehindDuty_38 rfl (lv_at hl 0 rfl) ?_
          refine g_X6_39 C h dX6_cancelBehindDuty_39 ?_
          refine lv_iload_n C.x C.b dX6_cancelBehindDuty_42 rfl (lv_at hl 1 rfl) ?_
          refine aln_14 C h ok h1 dX6_cancelBehindDuty_43 ?_
          refine lv_iconst (v := 4) C.x C.b dX6_cancelBehindDuty_44 (by decide) ?_
          refine p_X6_120 C h h1 dX6_cancelBehindDuty_45 (fun H locs h => ?_)
          refine lv_iinc (v := nI (j1 + 1)) (lv' := [(1, .int (nI (j1 + 1))), (0, .ref (ead E 0))]) C.x C.b dX6_cancelBehindDuty_48 hl (k := 1) rfl (nI_1 _) (by decide) rfl (fun ls hl => ?_)
          refine lv_goto (tgt := 2) C.x C.b dX6_cancelBehindDuty_51 (by decide) ?_
          exact ih (j1 := j1 + 1) (ok.up (by decide) _ _) (by omega) (by have := ok.le; omega) h (lv_sub hl [1, 0] rfl) (Eq.mp (congrArg (fun z => post z) ((S_X6_cancelBehindDuty_2_s n σ j1).trans ((if_neg c1).trans ((if_pos c3).trans (if_neg c4))))) hp)
def S_X6_cancelBehindDuty (σ : St) : St := S_X6_cancelBehindDuty_2 21 σ 0
set_option maxRecDepth 100000 in
set_option maxHeartbeats 4000000 in
theorem K_X6_cancelBehindDuty_0 {p : Program} {l : Launch} {e : Env} {s : State} {m : MethodId} {args : Array Value} {below : List Frame} {meth : Method} {c : Code} {D : va_G} {E : En} {A : Nat → Prop} {post : St → Prop} (C : CX p s m meth c cX6_cancelBehindDuty RX6 2 D E A) {σ : St} (ok : OK E σ) {H : Heap} {locs : List Loc} (h : HW D E σ A s H locs) (hr : meth.sig.returnType = none) {ls : Array Slot} (hl : lv_has ls 2 [(0, .ref (ead E 0))]) (hp : post (S_X6_cancelBehindDuty σ)) : W p l e rm_X6_cancelBehindDuty s m args below meth c H locs 0 0 (MQ below (va_Qv post (POB D E A) A) args s 0 0 A) (F0 m 0 ls []) := by
  refine lv_iconst (v := 0) C.x C.b dX6_cancelBehindDuty_0 (by decide) ?_
  refine lv_istore_n (lv' := [(1, .int 0), (0, .ref (ead E 0))]) C.x C.b dX6_cancelBehindDuty_1 rfl hl (by decide) rfl (fun ls hl => ?_)
  exact K_X6_cancelBehindDuty_2 C hr 21 (j1 := 0) ok (by omega) (by have := ok.le; omega) h (lv_sub hl [1, 0] rfl) hp
theorem M_X6_cancelBehindDuty (l : Launch) (D : va_G) (E : En) (σ : St) (ok : OK E σ) : CO l yX6_cancelBehindDuty cX6_cancelBehindDuty 2 none rm_X6_cancelBehindDuty [.ref (ead E 0)] D E σ (fun A => va_Qv (fun u => (S_X6_cancelBehindDuty σ) = u) (POB D E A) A) 0 0 :=
  CO.of RX6 (by decide +kernel) rfl (Nat.le_of_ble_eq_true rfl) (fun p e s m below meth c A ls C h hr hl => K_X6_cancelBehindDuty_0 C ok h hr hl rfl)
theorem S_X6_cancelBehindDuty_2_fr {f i : Nat} : ∀ (n : Nat) (σ : St) (j1 : Nat) (hf : ∀ w ∈ [28], f ≠ w), (S_X6_cancelBehindDuty_2 n σ j1) f i = σ f i
  | 0, σ, j1, hf => rfl
  | n + 1, σ, j1, hf => by
    rw [S_X6_cancelBehindDuty_2_s]
    (repeat' split) <;> first | with_reducible rfl | (simp only [S_X6_cancelBehindDuty_2_fr n _ _ hf, up2_f (hf 28 (by decide))]; done)
theorem S_X6_cancelBehindDuty_fr {f i : Nat} (σ : St) (hf : ∀ w ∈ [28], f ≠ w) : (S_X6_cancelBehindDuty σ) f i = σ f i := by
  unfold S_X6_cancelBehindDuty
  (repeat' split) <;> first | with_reducible rfl | (simp only [up2_f (hf 28 (by decide)), S_X6_cancelBehindDuty_2_fr _ _ _ hf]; done)
theorem S_X6_cancelBehindDuty_ok {E : En} {σ : St} (ok : OK E σ) : OK E (S_X6_cancelBehindDuty σ) :=
  ok.of_fr (fun f i hf => S_X6_cancelBehindDuty_fr σ (fun w hw q => absurd (show w ∈ [1, 3, 33, 43, 55, 66] by rw [← q]; exact hf) ((by decide : ∀ w ∈ [28], w ∉ [1, 3, 33, 43, 55, 66]) w hw)))
-- X6_sendBackWithoutClock sendBackWithoutClock()V
abbrev rm_X6_sendBackWithoutClock : Room := { frames := 3, cells := 0, slots := 0, locals := 64 }
def S_X6_sendBackWithoutClock_2 : Nat → St → Nat → St
  | 0, σ, _ => σ
  | n + 1, σ, j1 => if (σ 1 0) ≤ (nI j1) then σ else if (σ 28 j1) = 2 then (if 0 ≤ (Op.cmpValue (FP.dcmp (S_X6_clockLeft σ j1) FP.dconst0) CmpOp.g) then S_X6_sendBackWithoutClock_2 n σ (j1 + 1) else S_X6_sendBackWithoutClock_2 n (up2 σ 28 j1 0) (j1 + 1)) else S_X6_sendBackWithoutClock_2 n σ (j1 + 1)
theorem S_X6_sendBackWithoutClock_2_s (n : Nat) (σ : St) (j1 : Nat) : S_X6_sendBackWithoutClock_2 (n + 1) σ j1 = if (σ 1 0) ≤ (nI j1) then σ else if (σ 28 j1) = 2 then (if 0 ≤ (Op.cmpValue (FP.dcmp (S_X6_clockLeft σ j1) FP.dconst0) CmpOp.g) then S_X6_sendBackWithoutClock_2 n σ (j1 + 1) else S_X6_sendBackWithoutClock_2 n (up2 σ 28 j1 0) (j1 + 1)) else S_X6_sendBackWithoutClock_2 n σ (j1 + 1) := rfl
set_option maxRecDepth 100000 in
set_option maxHeartbeats 4000000 in
theorem K_X6_sendBackWithoutClock_2 {p : Program} {l : Launch} {e : Env} {s : State} {m : MethodId} {args : Array Value} {below : List Frame} {meth : Method} {c : Code} {D : va_G} {E : En} {A : Nat → Prop} {post : St → Prop} (C : CX p s m meth c cX6_sendBackWithoutClock RX6 2 D E A) (hr : meth.sig.returnType = none) : ∀ (n : Nat) {σ : St} (ok : OK E σ) {j1 : Nat} (hj : j1 + n = 21) (hb : j1 ≤ 20) {H : Heap} {locs : List Loc} (h : HW D E σ A s H locs) {ls : Array Slot} (hl : lv_has ls 2 [(0, .ref (ead E 0)), (1, .int (nI j1))]) (hp : post (S_X6_sendBackWithoutClock_2 n σ j1)), W p l e rm_X6_sendBackWithoutClock s m args below meth c H locs 0 0 (MQ below (va_Qv post (POB D E A) A) args s 0 0 A) (F0 m 2 ls []) := by
  intro n
  induction n with
  | zero =>
    intro σ ok j1 hj hb H locs h ls hl hp
    exfalso
    omega
  | succ n ih =>
    intro σ ok j1 hj hb H locs h ls hl hp
    refine lv_iload_n C.x C.b dX6_sendBackWithoutClock_2 rfl (lv_at hl 1 rfl) ?_
    refine lv_aload_n C.x C.b dX6_sendBackWithoutClock_3 rfl (lv_at hl 0 rfl) ?_
    refine g_X6_108 C h dX6_sendBackWithoutClock_4 ?_
    refine lv_icmp_ge (tgt := 54) C.x C.b dX6_sendBackWithoutClock_7 (by decide) (fun c1 => ?_) (fun c1 => ?_)
    · skip
      exact rtV C h hr dX6_sendBackWithoutClock_54 (Eq.mp (congrArg (fun z => post z) ((S_X6_sendBackWithoutClock_2_s n σ j1).trans (if_pos c1))) hp)
    · skip
      have h1 : j1 < en E := ok.lt (by omega) c1
      refine lv_aload_n C.x C.b dX6_sendBackWithoutClock_10 rfl (lv_at hl 0 rfl) ?_
      refine g_X6_39 C h dX6_sendBackWithoutClock_11 ?_
      refine lv_iload_n C.x C.b dX6_sendBackWithoutClock_14 rfl (lv_at hl 1 rfl) ?_
      refine aln_14 C h ok h1 dX6_sendBackWithoutClock_15 ?_
      refine g_X6_120 C h h1 dX6_sendBackWithoutClock_16 ?_
      refine lv_iconst (v := 2) C.x C.b dX6_sendBackWithoutClock_19 (by decide) ?_
      refine lv_icmp_ne (tgt := 48) C.x C.b dX6_sendBackWithoutClock_20 (by decide) (fun c2 => ?_) (fun c2 => ?_)
      · skip
        refine lv_iinc (v := nI (j1 + 1)) (lv' := [(1, .int (nI (j1 + 1))), (0, .ref (ead E 0))]) C.x C.b dX6_sendBackWithoutClock_48 hl (k := 1) rfl (nI_1 _) (by decide) rfl (fun ls hl => ?_)
        refine lv_goto (tgt := 2) C.x C.b dX6_sendBackWithoutClock_51 (by decide) ?_
        exact ih (j1 := j1 + 1) ok (by omega) (by have := ok.le; omega) h (lv_sub hl [1, 0] rfl) (Eq.mp (congrArg (fun z => post z) ((S_X6_sendBackWithoutClock_2_s n σ j1).trans ((if_neg c1).trans (if_neg c2)))) hp)
      · skip
        refine lv_aload_n C.x C.b dX6_sendBackWithoutClock_23 rfl (lv_at hl 0 rfl) ?_
        refine lv_aload_n C.x C.b dX6_sendBackWithoutClock_24 rfl (lv_at hl 0 rfl) ?_
        refine g_X6_39 C h dX6_sendBackWithoutClock_25 ?_
        refine lv_iload_n C.x C.b dX6_sendBackWithoutClock_28 rfl (lv_at hl 1 rfl) ?_
        refine aln_14 C h ok h1 dX6_sendBackWithoutClock_29 ?_
        refine caVd (As := [.ref (ead E (17 + j1))]) (rest := []) (q0 := 0) (ci := 6) C h (M_X6_clockLeft l D E _ ok j1 h1) cw_X6_198 m_im_X6_clockLeft m_se_X6_clockLeft rfl rfl ⟨Nat.le_of_ble_eq_true rfl, Nat.le_of_ble_eq_true rfl⟩ rfl rfl hl rfl (Nat.le_of_ble_eq_true rfl) dX6_sendBackWithoutClock_30 ⟨Nat.le_of_ble_eq_true rfl, Nat.le_of_ble_eq_true rfl⟩ (fun r u H locs w3 h => ?_)
        obtain ⟨rfl, rfl⟩ := w3
        refine lv_dconst0 C.x C.b dX6_sendBackWithoutClock_33 ?_
        refine lv_dcmp C.x C.b dX6_sendBackWithoutClock_34 ?_
        refine lv_if_ge (tgt := 48) C.x C.b dX6_sendBackWithoutClock_35 (by decide) (fun c4 => ?_) (fun c4 => ?_)
        · skip
          refine lv_iinc (v := nI (j1 + 1)) (lv' := [(1, .int (nI (j1 + 1))), (0, .ref (ead E 0))]) C.x C.b dX6_sendBackWithoutClock_48 hl (k := 1) rfl (nI_1 _) (by decide) rfl (fun ls hl => ?_)
          refine lv_goto (tgt := 2) C.x C.b dX6_sendBackWithoutClock_51 (by decide) ?_
          exact ih (j1 := j1 + 1) ok (by omega) (by have := ok.le; omega) h (lv_sub hl [1, 0] rfl) (Eq.mp (congrArg (fun z => post z) ((S_X6_sendBackWithoutClock_2_s n σ j1).trans ((if_neg c1).trans ((if_pos c2).trans (if_pos c4))))) hp)
        · skip
          refine lv_aload_n C.x C.b dX6_sendBackWithoutClock_38 rfl (lv_at hl 0 rfl) ?_
          refine g_X6_39 C h dX6_sendBackWithoutClock_39 ?_
          refine lv_iload_n C.x C.b dX6_sendBackWithoutClock_42 rfl (lv_at hl 1 rfl) ?_
          refine aln_14 C h ok h1 dX6_sendBackWithoutClock_43 ?_
          refine lv_iconst (v := 0) C.x C.b dX6_sendBackWithoutClock_44 (by decide) ?_
          refine p_X6_120 C h h1 dX6_sendBackWithoutClock_45 (fun H locs h => ?_)
          refine lv_iinc (v := nI (j1 + 1)) (lv' := [(1, .int (nI (j1 + 1))), (0, .ref (ead E 0))]) C.x C.b dX6_sendBackWithoutClock_48 hl (k := 1) rfl (nI_1 _) (by decide) rfl (fun ls hl => ?_)
          refine lv_goto (tgt := 2) C.x C.b dX6_sendBackWithoutClock_51 (by decide) ?_
          exact ih (j1 := j1 + 1) (ok.up (by decide) _ _) (by omega) (by have := ok.le; omega) h (lv_sub hl [1, 0] rfl) (Eq.mp (congrArg (fun z => post z) ((S_X6_sendBackWithoutClock_2_s n σ j1).trans ((if_neg c1).trans ((if_pos c2).trans (if_neg c4))))) hp)
def S_X6_sendBackWithoutClock (σ : St) : St := S_X6_sendBackWithoutClock_2 21 σ 0
set_option maxRecDepth 100000 in
set_option maxHeartbeats 4000000 in
theorem K_X6_sendBackWithoutClock_0 {p : Program} {l : Launch} {e : Env} {s : State} {m : MethodId} {args : Array Value} {below : List Frame} {meth : Method} {c : Code} {D : va_G} {E : En} {A : Nat → Prop} {post : St → Prop} (C : CX p s m meth c cX6_sendBackWithoutClock RX6 2 D E A) {σ : St} (ok : OK E σ) {H : Heap} {locs : List Loc} (h : HW D E σ A s H locs) (hr : meth.sig.returnType = none) {ls : Array Slot} (hl : lv_has ls 2 [(0, .ref (ead E 0))]) (hp : post (S_X6_sendBackWithoutClock σ)) : W p l e rm_X6_sendBackWithoutClock s m args below meth c H locs 0 0 (MQ below (va_Qv post (POB D E A) A) args s 0 0 A) (F0 m 0 ls []) := by
  refine lv_iconst (v := 0) C.x C.b dX6_sendBackWithoutClock_0 (by decide) ?_
  refine lv_istore_n (lv' := [(1, .int 0), (0, .ref (ead E 0))]) C.x C.b dX6_sendBackWithoutClock_1 rfl hl (by decide) rfl (fun ls hl => ?_)
  exact K_X6_sendBackWithoutClock_2 C hr 21 (j1 := 0) ok (by omega) (by have := ok.le; omega) h (lv_sub hl [1, 0] rfl) hp
theorem M_X6_sendBackWithoutClock (l : Launch) (D : va_G) (E : En) (σ : St) (ok : OK E σ) : CO l yX6_sendBackWithoutClock cX6_sendBackWithoutClock 2 none rm_X6_sendBackWithoutClock [.ref (ead E 0)] D E σ (fun A => va_Qv (fun u => (S_X6_sendBackWithoutClock σ) = u) (POB D E A) A) 0 0 :=
  CO.of RX6 (by decide +kernel) rfl (Nat.le_of_ble_eq_true rfl) (fun p e s m below meth c A ls C h hr hl => K_X6_sendBackWithoutClock_0 C ok h hr hl rfl)
theorem S_X6_sendBackWithoutClock_2_fr {f i : Nat} : ∀ (n : Nat) (σ : St) (j1 : Nat) (hf : ∀ w ∈ [28], f ≠ w), (S_X6_sendBackWithoutClock_2 n σ j1) f i = σ f i
  | 0, σ, j1, hf => rfl
  | n + 1, σ, j1, hf => by
    rw [S_X6_sendBackWithoutClock_2_s]
    (repeat' split) <;> first | with_reducible rfl | (simp only [S_X6_sendBackWithoutClock_2_fr n _ _ hf, up2_f (hf 28 (by decide))]; done)
theorem S_X6_sendBackWithoutClock_fr {f i : Nat} (σ : St) (hf : ∀ w ∈ [28], f ≠ w) : (S_X6_sendBackWithoutClock σ) f i = σ f i := by
  unfold S_X6_sendBackWithoutClock
  (repeat' split) <;> first | with_reducible rfl | (simp only [up2_f (hf 28 (by decide)), S_X6_sendBackWithoutClock_2_fr _ _ _ hf]; done)
theorem S_X6_sendBackWithoutClock_ok {E : En} {σ : St} (ok : OK E σ) : OK E (S_X6_sendBackWithoutClock σ) :=
  ok.of_fr (fun f i hf => S_X6_sendBackWithoutClock_fr σ (fun w hw q => absurd (show w ∈ [1, 3, 33, 43, 55, 66] by rw [← q]; exact hf) ((by decide : ∀ w ∈ [28], w ∉ [1, 3, 33, 43, 55, 66]) w hw)))
-- X6_letOneLeave letOneLeave()V
theorem cw_X6_254 : CWd RX6 254 yX6_goesAhead cX6_goesAhead 7 (some .boolean) 2 := ⟨m_ml_X6_254, m_co_X6_goesAhead, m_ini_X6, by decide +kernel, by decide +kernel⟩
abbrev rm_X6_letOneLeave : Room := { frames := 4, cells := 0, slots := 0, locals := 90 }
def S_X6_letOneLeave_73 (σ : St) (v1 : Int32) : St := if v1 = (-1) then σ else (up2 (up2 σ 28 v1.toNatClampNeg 3) 29 v1.toNatClampNeg (σ 0 0))
set_option maxRecDepth 100000 in
set_option maxHeartbeats 4000000 in
theorem K_X6_letOneLeave_73 {p : Program} {l : Launch} {e : Env} {s : State} {m : MethodId} {args : Array Value} {below : List Frame} {meth : Method} {c : Code} {D : va_G} {E : En} {A : Nat → Prop} {post : St → Prop} (C : CX p s m meth c cX6_letOneLeave RX6 4 D E A) {σ : St} (ok : OK E σ) {v1 : Int32} (hv : v1 = -1 ∨ IN E v1) {H : Heap} {locs : List Loc} (h : HW D E σ A s H locs) (hr : meth.sig.returnType = none) {ls : Array Slot} (hl : lv_has ls 4 [(0, .ref (ead E 0)), (1, .int v1)]) (hp : post (S_X6_letOneLeave_73 σ v1)) : W p l e rm_X6_letOneLeave s m args below meth c H locs 0 0 (MQ below (va_Qv post (POB D E A) A) args s 0 0 A) (F0 m 73 ls []) := by
  refine lv_iload_n C.x C.b dX6_letOneLeave_73 rfl (lv_at hl 1 rfl) ?_
  refine lv_iconst (v := (-1)) C.x C.b dX6_letOneLeave_74 (by decide) ?_
  refine lv_icmp_eq (tgt := 101) C.x C.b dX6_letOneLeave_75 (by decide) (fun c1 => ?_) (fun c1 => ?_)
  · skip
    exact rtV C h hr dX6_letOneLeave_101 (Eq.mp (congrArg (fun z => post z) (if_pos c1)) hp)
  · skip
    refine lv_aload_n C.x C.b dX6_letOneLeave_78 rfl (lv_at hl 0 rfl) ?_
    refine g_X6_39 C h dX6_letOneLeave_79 ?_
    refine lv_iload_n C.x C.b dX6_letOneLeave_82 rfl (lv_at hl 1 rfl) ?_
    refine al_14 C h ((hv.resolve_left c1).1) ((hv.resolve_left c1).2) dX6_letOneLeave_83 ?_
    refine lv_iconst (v := 3) C.x C.b dX6_letOneLeave_84 (by decide) ?_
    refine p_X6_120 C h (hv.resolve_left c1).2 dX6_letOneLeave_85 (fun H locs h => ?_)
    refine lv_aload_n C.x C.b dX6_letOneLeave_88 rfl (lv_at hl 0 rfl) ?_
    refine g_X6_39 C h dX6_letOneLeave_89 ?_
    refine lv_iload_n C.x C.b dX6_letOneLeave_92 rfl (lv_at hl 1 rfl) ?_
    refine al_14 C h ((hv.resolve_left c1).1) ((hv.resolve_left c1).2) dX6_letOneLeave_93 ?_
    refine lv_aload_n C.x C.b dX6_letOneLeave_94 rfl (lv_at hl 0 rfl) ?_
    refine g_X6_64 C h dX6_letOneLeave_95 ?_
    refine p_X6_186 C h (hv.resolve_left c1).2 dX6_letOneLeave_98 (fun H locs h => ?_)
    exact rtV C h hr dX6_letOneLeave_101 (Eq.mp (congrArg (fun z => post z) (if_neg c1)) hp)
def S_X6_letOneLeave_4 : Nat → St → Int32 → Nat → St
  | 0, σ, _, _ => σ
  | n + 1, σ, v1, j2 => if (σ 1 0) ≤ (nI j2) then S_X6_letOneLeave_73 σ v1 else if (σ 28 j2) = 2 then (if (σ 0 0) < (σ 26 j2) then S_X6_letOneLeave_4 n σ v1 (j2 + 1) else if v1 = (-1) then S_X6_letOneLeave_4 n σ (nI j2) (j2 + 1) else if (S_X6_goesAhead σ (nI j2) v1) = 0 then S_X6_letOneLeave_4 n σ v1 (j2 + 1) else S_X6_letOneLeave_4 n σ (nI j2) (j2 + 1)) else S_X6_letOneLeave_4 n σ v1 (j2 + 1)
theorem S_X6_letOneLeave_4_s (n : Nat) (σ : St) (v1 : Int32) (j2 : Nat) : S_X6_letOneLeave_4 (n + 1) σ v1 j2 = if (σ 1 0) ≤ (nI j2) then S_X6_letOneLeave_73 σ v1 else if (σ 28 j2) = 2 then (if (σ 0 0) < (σ 26 j2) then S_X6_letOneLeave_4 n σ v1 (j2 + 1) else if v1 = (-1) then S_X6_letOneLeave_4 n σ (nI j2) (j2 + 1) else if (S_X6_goesAhead σ (nI j2) v1) = 0 then S_X6_letOneLeave_4 n σ v1 (j2 + 1) else S_X6_letOneLeave_4 n σ (nI j2) (j2 + 1)) else S_X6_letOneLeave_4 n σ v1 (j2 + 1) := rfl
set_option maxRecDepth 100000 in
set_option maxHeartbeats 4000000 in
theorem K_X6_letOneLeave_4 {p : Program} {l : Launch} {e : Env} {s : State} {m : MethodId} {args : Array Value} {below : List Frame} {meth : Method} {c : Code} {D : va_G} {E : En} {A : Nat → Prop} {post : St → Prop} (C : CX p s m meth c cX6_letOneLeave RX6 4 D E A) (hr : meth.sig.returnType = none) : ∀ (n : Nat) {σ : St} (ok : OK E σ) {v1 : Int32} {j2 : Nat} (hj : j2 + n = 21) (hb : j2 ≤ 20) (hv : v1 = -1 ∨ IN E v1) {H : Heap} {locs : List Loc} (h : HW D E σ A s H locs) {ls : Array Slot} (hl : lv_has ls 4 [(0, .ref (ead E 0)), (1, .int v1), (2, .int (nI j2))]) (hp : post (S_X6_letOneLeave_4 n σ v1 j2)), W p l e rm_X6_letOneLeave s m args below meth c H locs 0 0 (MQ below (va_Qv post (POB D E A) A) args s 0 0 A) (F0 m 4 ls []) := by
  intro n
  induction n with
  | zero =>
    intro σ ok v1 j2 hj hb hv H locs h ls hl hp
    exfalso
    omega
  | succ n ih =>
    intro σ ok v1 j2 hj hb hv H locs h ls hl hp
    refine lv_iload_n C.x C.b dX6_letOneLeave_4 rfl (lv_at hl 2 rfl) ?_
    refine lv_aload_n C.x C.b dX6_letOneLeave_5 rfl (lv_at hl 0 rfl) ?_
    refine g_X6_108 C h dX6_letOneLeave_6 ?_
    refine lv_icmp_ge (tgt := 73) C.x C.b dX6_letOneLeave_9 (by decide) (fun c1 => ?_) (fun c1 => ?_)
    · skip
      exact K_X6_letOneLeave_73 (v1 := v1) C ok hv h hr (lv_sub hl [0, 1] rfl) (Eq.mp (congrArg (fun z => post z) ((S_X6_letOneLeave_4_s n σ v1 j2).trans (if_pos c1))) hp)
    · skip
      have h2 : j2 < en E := ok.lt (by omega) c1
      refine lv_aload_n C.x C.b dX6_letOneLeave_12 rfl (lv_at hl 0 rfl) ?_
      refine g_X6_39 C h dX6_letOneLeave_13 ?_
      refine lv_iload_n C.x C.b dX6_letOneLeave_16 rfl (lv_at hl 2 rfl) ?_
      refine aln_14 C h ok h2 dX6_letOneLeave_17 ?_
      refine g_X6_120 C h h2 dX6_letOneLeave_18 ?_
      refine lv_iconst (v := 2) C.x C.b dX6_letOneLeave_21 (by decide) ?_
      refine lv_icmp_ne (tgt := 45) C.x C.b dX6_letOneLeave_22 (by decide) (fun c2 => ?_) (fun c2 => ?_)
      · skip
        refine lv_iconst (v := 0) C.x C.b dX6_letOneLeave_45 (by decide) ?_
        refine lv_istore_n (lv' := [(3, .int 0), (0, .ref (ead E 0)), (1, .int v1), (2, .int (nI j2))]) C.x C.b dX6_letOneLeave_46 rfl hl (by decide) rfl (fun ls hl => ?_)
        refine lv_iload_n C.x C.b dX6_letOneLeave_47 rfl (lv_at hl 0 rfl) ?_
        refine lv_if_eq (tgt := 67) C.x C.b dX6_letOneLeave_48 (by decide) (fun _ => ?_) (fun q => absurd q (by decide))
        refine lv_iinc (v := nI (j2 + 1)) (lv' := [(2, .int (nI (j2 + 1))), (3, .int 0), (0, .ref (ead E 0)), (1, .int v1)]) C.x C.b dX6_letOneLeave_67 hl (k := 3) rfl (nI_1 _) (by decide) rfl (fun ls hl => ?_)
        refine lv_goto (tgt := 4) C.x C.b dX6_letOneLeave_70 (by decide) ?_
        exact ih (v1 := v1) (j2 := j2 + 1) ok (by omega) (by have := ok.le; omega) (by first | exact Or.inl rfl | exact hv | exact Or.inr (IN.of ok h2)) h (lv_sub hl [2, 3, 0] rfl) (Eq.mp (congrArg (fun z => post z) ((S_X6_letOneLeave_4_s n σ v1 j2).trans ((if_neg c1).trans (if_neg c2)))) hp)
      · skip
        refine lv_aload_n C.x C.b dX6_letOneLeave_25 rfl (lv_at hl 0 rfl) ?_
        refine g_X6_39 C h dX6_letOneLeave_26 ?_
        refine lv_iload_n C.x C.b dX6_letOneLeave_29 rfl (lv_at hl 2 rfl) ?_
        refine aln_14 C h ok h2 dX6_letOneLeave_30 ?_
        refine g_X6_202 C h h2 dX6_letOneLeave_31 ?_
        refine lv_aload_n C.x C.b dX6_letOneLeave_34 rfl (lv_at hl 0 rfl) ?_
        refine g_X6_64 C h dX6_letOneLeave_35 ?_
        refine lv_icmp_gt (tgt := 45) C.x C.b dX6_letOneLeave_38 (by decide) (fun c4 => ?_) (fun c4 => ?_)
        · skip
          refine lv_iconst (v := 0) C.x C.b dX6_letOneLeave_45 (by decide) ?_
          refine lv_istore_n (lv' := [(3, .int 0), (0, .ref (ead E 0)), (1, .int v1), (2, .int (nI j2))]) C.x C.b dX6_letOneLeave_46 rfl hl (by decide) rfl (fun ls hl => ?_)
          refine lv_iload_n C.x C.b dX6_letOneLeave_47 rfl (lv_at hl 0 rfl) ?_
          refine lv_if_eq (tgt := 67) C.x C.b dX6_letOneLeave_48 (by decide) (fun _ => ?_) (fun q => absurd q (by decide))
          refine lv_iinc (v := nI (j2 + 1)) (lv' := [(2, .int (nI (j2 + 1))), (3, .int 0), (0, .ref (ead E 0)), (1, .int v1)]) C.x C.b dX6_letOneLeave_67 hl (k := 3) rfl (nI_1 _) (by decide) rfl (fun ls hl => ?_)
          refine lv_goto (tgt := 4) C.x C.b dX6_letOneLeave_70 (by decide) ?_
          exact ih (v1 := v1) (j2 := j2 + 1) ok (by omega) (by have := ok.le; omega) (by first | exact Or.inl rfl | exact hv | exact Or.inr (IN.of ok h2)) h (lv_sub hl [2, 3, 0] rfl) (Eq.mp (congrArg (fun z => post z) ((S_X6_letOneLeave_4_s n σ v1 j2).trans ((if_neg c1).trans ((if_pos c2).trans (if_pos c4))))) hp)
        · skip
          refine lv_iconst (v := 1) C.x C.b dX6_letOneLeave_41 (by decide) ?_
          refine lv_goto (tgt := 46) C.x C.b dX6_letOneLeave_42 (by decide) ?_
          refine lv_istore_n (lv' := [(3, .int 1), (0, .ref (ead E 0)), (1, .int v1), (2, .int (nI j2))]) C.x C.b dX6_letOneLeave_46 rfl hl (by decide) rfl (fun ls hl => ?_)
          refine lv_iload_n C.x C.b dX6_letOneLeave_47 rfl (lv_at hl 0 rfl) ?_
          refine lv_if_eq (tgt := 67) C.x C.b dX6_letOneLeave_48 (by decide) (fun q => absurd q (by decide)) (fun _ => ?_)
          refine lv_iload_n C.x C.b dX6_letOneLeave_51 rfl (lv_at hl 2 rfl) ?_
          refine lv_iconst (v := (-1)) C.x C.b dX6_letOneLeave_52 (by decide) ?_
          refine lv_icmp_eq (tgt := 65) C.x C.b dX6_letOneLeave_53 (by decide) (fun c7 => ?_) (fun c7 => ?_)
          · skip
            refine lv_iload_n C.x C.b dX6_letOneLeave_65 rfl (lv_at hl 3 rfl) ?_
            refine lv_istore_n (lv' := [(1, .int (nI j2)), (3, .int 1), (0, .ref (ead E 0)), (2, .int (nI j2))]) C.x C.b dX6_letOneLeave_66 rfl hl (by decide) rfl (fun ls hl => ?_)
            refine lv_iinc (v := nI (j2 + 1)) (lv' := [(2, .int (nI (j2 + 1))), (1, .int (nI j2)), (3, .int 1), (0, .ref (ead E 0))]) C.x C.b dX6_letOneLeave_67 hl (k := 3) rfl (nI_1 _) (by decide) rfl (fun ls hl => ?_)
            refine lv_goto (tgt := 4) C.x C.b dX6_letOneLeave_70 (by decide) ?_
            exact ih (v1 := nI j2) (j2 := j2 + 1) ok (by omega) (by have := ok.le; omega) (by first | exact Or.inl rfl | exact hv | exact Or.inr (IN.of ok h2)) h (lv_sub hl [3, 1, 0] rfl) (Eq.mp (congrArg (fun z => post z) ((S_X6_letOneLeave_4_s n σ v1 j2).trans ((if_neg c1).trans ((if_pos c2).trans ((if_neg c4).trans (if_pos c7)))))) hp)
          · skip
            refine lv_aload_n C.x C.b dX6_letOneLeave_56 rfl (lv_at hl 1 rfl) ?_
            refine lv_iload_n C.x C.b dX6_letOneLeave_57 rfl (lv_at hl 3 rfl) ?_
            refine lv_iload_n C.x C.b dX6_letOneLeave_58 rfl (lv_at hl 2 rfl) ?_
            refine caVi (As := [.int (nI j2), .int v1]) (rest := []) (q0 := 0) (ci := 6) C h (M_X6_goesAhead l D E _ ok (nI j2) v1 (IN.of ok h2) (hv.resolve_left c7)) cw_X6_254 m_im_X6_goesAhead m_se_X6_goesAhead rfl rfl ⟨Nat.le_of_ble_eq_true rfl, Nat.le_of_ble_eq_true rfl⟩ rfl rfl hl rfl (Nat.le_of_ble_eq_true rfl) dX6_letOneLeave_59 ⟨Nat.le_of_ble_eq_true rfl, Nat.le_of_ble_eq_true rfl⟩ (fun r u H locs w8 h => ?_)
            obtain ⟨rfl, rfl⟩ := w8
            refine lv_if_eq (tgt := 67) C.x C.b dX6_letOneLeave_62 (by decide) (fun c9 => ?_) (fun c9 => ?_)
            · skip
              refine lv_iinc (v := nI (j2 + 1)) (lv' := [(2, .int (nI (j2 + 1))), (3, .int 1), (0, .ref (ead E 0)), (1, .int v1)]) C.x C.b dX6_letOneLeave_67 hl (k := 3) rfl (nI_1 _) (by decide) rfl (fun ls hl => ?_)
              refine lv_goto (tgt := 4) C.x C.b dX6_letOneLeave_70 (by decide) ?_
              exact ih (v1 := v1) (j2 := j2 + 1) ok (by omega) (by have := ok.le; omega) (by first | exact Or.inl rfl | exact hv | exact Or.inr (IN.of ok h2)) h (lv_sub hl [2, 3, 0] rfl) (Eq.mp (congrArg (fun z => post z) ((S_X6_letOneLeave_4_s n σ v1 j2).trans ((if_neg c1).trans ((if_pos c2).trans ((if_neg c4).trans ((if_neg c7).trans (if_pos c9))))))) hp)
            · skip
              refine lv_iload_n C.x C.b dX6_letOneLeave_65 rfl (lv_at hl 3 rfl) ?_
              refine lv_istore_n (lv' := [(1, .int (nI j2)), (3, .int 1), (0, .ref (ead E 0)), (2, .int (nI j2))]) C.x C.b dX6_letOneLeave_66 rfl hl (by decide) rfl (fun ls hl => ?_)
              refine lv_iinc (v := nI (j2 + 1)) (lv' := [(2, .int (nI (j2 + 1))), (1, .int (nI j2)), (3, .int 1), (0, .ref (ead E 0))]) C.x C.b dX6_letOneLeave_67 hl (k := 3) rfl (nI_1 _) (by decide) rfl (fun ls hl => ?_)
              refine lv_goto (tgt := 4) C.x C.b dX6_letOneLeave_70 (by decide) ?_
              exact ih (v1 := nI j2) (j2 := j2 + 1) ok (by omega) (by have := ok.le; omega) (by first | exact Or.inl rfl | exact hv | exact Or.inr (IN.of ok h2)) h (lv_sub hl [3, 1, 0] rfl) (Eq.mp (congrArg (fun z => post z) ((S_X6_letOneLeave_4_s n σ v1 j2).trans ((if_neg c1).trans ((if_pos c2).trans ((if_neg c4).trans ((if_neg c7).trans (if_neg c9))))))) hp)
def S_X6_letOneLeave (σ : St) : St := S_X6_letOneLeave_4 21 σ (-1) 0
set_option maxRecDepth 100000 in
set_option maxHeartbeats 4000000 in
theorem K_X6_letOneLeave_0 {p : Program} {l : Launch} {e : Env} {s : State} {m : MethodId} {args : Array Value} {below : List Frame} {meth : Method} {c : Code} {D : va_G} {E : En} {A : Nat → Prop} {post : St → Prop} (C : CX p s m meth c cX6_letOneLeave RX6 4 D E A) {σ : St} (ok : OK E σ) {H : Heap} {locs : List Loc} (h : HW D E σ A s H locs) (hr : meth.sig.returnType = none) {ls : Array Slot} (hl : lv_has ls 4 [(0, .ref (ead E 0))]) (hp : post (S_X6_letOneLeave σ)) : W p l e rm_X6_letOneLeave s m args below meth c H locs 0 0 (MQ below (va_Qv post (POB D E A) A) args s 0 0 A) (F0 m 0 ls []) := by
  refine lv_iconst (v := (-1)) C.x C.b dX6_letOneLeave_0 (by decide) ?_
  refine lv_istore_n (lv' := [(1, .int (-1)), (0, .ref (ead E 0))]) C.x C.b dX6_letOneLeave_1 rfl hl (by decide) rfl (fun ls hl => ?_)
  refine lv_iconst (v := 0) C.x C.b dX6_letOneLeave_2 (by decide) ?_
  refine lv_istore_n (lv' := [(2, .int 0), (1, .int (-1)), (0, .ref (ead E 0))]) C.x C.b dX6_letOneLeave_3 rfl hl (by decide) rfl (fun ls hl => ?_)
  exact K_X6_letOneLeave_4 C hr 21 (v1 := (-1)) (j2 := 0) ok (by omega) (by have := ok.le; omega) (by first | exact Or.inl rfl | exact hv | exact Or.inr (IN.of ok h2)) h (lv_sub hl [2, 1, 0] rfl) hp
theorem M_X6_letOneLeave (l : Launch) (D : va_G) (E : En) (σ : St) (ok : OK E σ) : CO l yX6_letOneLeave cX6_letOneLeave 4 none rm_X6_letOneLeave [.ref (ead E 0)] D E σ (fun A => va_Qv (fun u => (S_X6_letOneLeave σ) = u) (POB D E A) A) 0 0 :=
  CO.of RX6 (by decide +kernel) rfl (Nat.le_of_ble_eq_true rfl) (fun p e s m below meth c A ls C h hr hl => K_X6_letOneLeave_0 C ok h hr hl rfl)
theorem S_X6_letOneLeave_73_fr {f i : Nat} (σ : St) (v1 : Int32) (hf : ∀ w ∈ [28, 29], f ≠ w) : (S_X6_letOneLeave_73 σ v1) f i = σ f i := by
  unfold S_X6_letOneLeave_73
  (repeat' split) <;> first | with_reducible rfl | (simp only [up2_f (hf 28 (by decide)), up2_f (hf 29 (by decide))]; done)
theorem S_X6_letOneLeave_4_fr {f i : Nat} : ∀ (n : Nat) (σ : St) (v1 : Int32) (j2 : Nat) (hf : ∀ w ∈ [28, 29], f ≠ w), (S_X6_letOneLeave_4 n σ v1 j2) f i = σ f i
  | 0, σ, v1, j2, hf => rfl
  | n + 1, σ, v1, j2, hf => by
    rw [S_X6_letOneLeave_4_s]
    (repeat' split) <;> first | with_reducible rfl | (simp only [S_X6_letOneLeave_4_fr n _ _ _ hf, up2_f (hf 28 (by decide)), up2_f (hf 29 (by decide)), S_X6_letOneLeave_73_fr _ _ hf]; done)
theorem S_X6_letOneLeave_fr {f i : Nat} (σ : St) (hf : ∀ w ∈ [28, 29], f ≠ w) : (S_X6_letOneLeave σ) f i = σ f i := by
  unfold S_X6_letOneLeave
  (repeat' split) <;> first | with_reducible rfl | (simp only [up2_f (hf 28 (by decide)), up2_f (hf 29 (by decide)), S_X6_letOneLeave_73_fr _ _ hf, S_X6_letOneLeave_4_fr _ _ _ _ hf]; done)
theorem S_X6_letOneLeave_ok {E : En} {σ : St} (ok : OK E σ) : OK E (S_X6_letOneLeave σ) :=
  ok.of_fr (fun f i hf => S_X6_letOneLeave_fr σ (fun w hw q => absurd (show w ∈ [1, 3, 33, 43, 55, 66] by rw [← q]; exact hf) ((by decide : ∀ w ∈ [28, 29], w ∉ [1, 3, 33, 43, 55, 66]) w hw)))
-- X6_padIsFree padIsFree(I)Z
abbrev rm_X6_padIsFree : Room := { frames := 0, cells := 0, slots := 0, locals := 0 }
def S_X6_padIsFree_2 : Nat → St → Int32 → Nat → Int32
  | 0, _, _, _ => 0
  | n + 1, σ, p1, j2 => if (σ 1 0) ≤ (nI j2) then 1 else if (σ 28 j2) = 1 then (if (σ 32 j2) = p1 then 0 else S_X6_padIsFree_2 n σ p1 (j2 + 1)) else S_X6_padIsFree_2 n σ p1 (j2 + 1)
theorem S_X6_padIsFree_2_s (n : Nat) (σ : St) (p1 : Int32) (j2 : Nat) : S_X6_padIsFree_2 (n + 1) σ p1 j2 = if (σ 1 0) ≤ (nI j2) then 1 else if (σ 28 j2) = 1 then (if (σ 32 j2) = p1 then 0 else S_X6_padIsFree_2 n σ p1 (j2 + 1)) else S_X6_padIsFree_2 n σ p1 (j2 + 1) := rfl
set_option maxRecDepth 100000 in
set_option maxHeartbeats 4000000 in
theorem K_X6_padIsFree_2 {p : Program} {l : Launch} {e : Env} {s : State} {m : MethodId} {args : Array Value} {below : List Frame} {meth : Method} {c : Code} {D : va_G} {E : En} {A : Nat → Prop} {post : Int32 → St → Prop} (C : CX p s m meth c cX6_padIsFree RX6 3 D E A) (hr : meth.sig.returnType = some .boolean) {p1 : Int32} : ∀ (n : Nat) {σ : St} (ok : OK E σ) {j2 : Nat} (hj : j2 + n = 21) (hb : j2 ≤ 20) {H : Heap} {locs : List Loc} (h : HW D E σ A s H locs) {ls : Array Slot} (hl : lv_has ls 3 [(0, .ref (ead E 0)), (1, .int p1), (2, .int (nI j2))]) (hp : post (S_X6_padIsFree_2 n σ p1 j2) σ), W p l e rm_X6_padIsFree s m args below meth c H locs 0 0 (MQ below (va_Qi post (POB D E A) A) args s 0 0 A) (F0 m 2 ls []) := by
  intro n
  induction n with
  | zero =>
    intro σ ok j2 hj hb H locs h ls hl hp
    exfalso
    omega
  | succ n ih =>
    intro σ ok j2 hj hb H locs h ls hl hp
    refine lv_iload_n C.x C.b dX6_padIsFree_2 rfl (lv_at hl 2 rfl) ?_
    refine lv_aload_n C.x C.b dX6_padIsFree_3 rfl (lv_at hl 0 rfl) ?_
    refine g_X6_108 C h dX6_padIsFree_4 ?_
    refine lv_icmp_ge (tgt := 44) C.x C.b dX6_padIsFree_7 (by decide) (fun c1 => ?_) (fun c1 => ?_)
    · skip
      refine lv_iconst (v := 1) C.x C.b dX6_padIsFree_44 (by decide) ?_
      exact rtI C h hr rfl dX6_padIsFree_45 (Eq.mp (congrArg (fun z => post z σ) ((S_X6_padIsFree_2_s n σ p1 j2).trans (if_pos c1))) hp)
    · skip
      have h2 : j2 < en E := ok.lt (by omega) c1
      refine lv_aload_n C.x C.b dX6_padIsFree_10 rfl (lv_at hl 0 rfl) ?_
      refine g_X6_39 C h dX6_padIsFree_11 ?_
      refine lv_iload_n C.x C.b dX6_padIsFree_14 rfl (lv_at hl 2 rfl) ?_
      refine aln_14 C h ok h2 dX6_padIsFree_15 ?_
      refine g_X6_120 C h h2 dX6_padIsFree_16 ?_
      refine lv_iconst (v := 1) C.x C.b dX6_padIsFree_19 (by decide) ?_
      refine lv_icmp_ne (tgt := 38) C.x C.b dX6_padIsFree_20 (by decide) (fun c2 => ?_) (fun c2 => ?_)
      · skip
        refine lv_iinc (v := nI (j2 + 1)) (lv' := [(2, .int (nI (j2 + 1))), (0, .ref (ead E 0)), (1, .int p1)]) C.x C.b dX6_padIsFree_38 hl (k := 2) rfl (nI_1 _) (by decide) rfl (fun ls hl => ?_)
        refine lv_goto (tgt := 2) C.x C.b dX6_padIsFree_41 (by decide) ?_
        exact ih (j2 := j2 + 1) ok (by omega) (by have := ok.le; omega) h (lv_sub hl [1, 2, 0] rfl) (Eq.mp (congrArg (fun z => post z σ) ((S_X6_padIsFree_2_s n σ p1 j2).trans ((if_neg c1).trans (if_neg c2)))) hp)
      · skip
        refine lv_aload_n C.x C.b dX6_padIsFree_23 rfl (lv_at hl 0 rfl) ?_
        refine g_X6_39 C h dX6_padIsFree_24 ?_
        refine lv_iload_n C.x C.b dX6_padIsFree_27 rfl (lv_at hl 2 rfl) ?_
        refine aln_14 C h ok h2 dX6_padIsFree_28 ?_
        refine g_X6_195 C h h2 dX6_padIsFree_29 ?_
        refine lv_iload_n C.x C.b dX6_padIsFree_32 rfl (lv_at hl 1 rfl) ?_
        refine lv_icmp_ne (tgt := 38) C.x C.b dX6_padIsFree_33 (by decide) (fun c3 => ?_) (fun c3 => ?_)
        · skip
          refine lv_iinc (v := nI (j2 + 1)) (lv' := [(2, .int (nI (j2 + 1))), (0, .ref (ead E 0)), (1, .int p1)]) C.x C.b dX6_padIsFree_38 hl (k := 2) rfl (nI_1 _) (by decide) rfl (fun ls hl => ?_)
          refine lv_goto (tgt := 2) C.x C.b dX6_padIsFree_41 (by decide) ?_
          exact ih (j2 := j2 + 1) ok (by omega) (by have := ok.le; omega) h (lv_sub hl [1, 2, 0] rfl) (Eq.mp (congrArg (fun z => post z σ) ((S_X6_padIsFree_2_s n σ p1 j2).trans ((if_neg c1).trans ((if_pos c2).trans (if_neg c3))))) hp)
        · skip
          refine lv_iconst (v := 0) C.x C.b dX6_padIsFree_36 (by decide) ?_
          exact rtI C h hr rfl dX6_padIsFree_37 (Eq.mp (congrArg (fun z => post z σ) ((S_X6_padIsFree_2_s n σ p1 j2).trans ((if_neg c1).trans ((if_pos c2).trans (if_pos c3))))) hp)
def S_X6_padIsFree (σ : St) (p1 : Int32) : Int32 := S_X6_padIsFree_2 21 σ p1 0
set_option maxRecDepth 100000 in
set_option maxHeartbeats 4000000 in
theorem K_X6_padIsFree_0 {p : Program} {l : Launch} {e : Env} {s : State} {m : MethodId} {args : Array Value} {below : List Frame} {meth : Method} {c : Code} {D : va_G} {E : En} {A : Nat → Prop} {post : Int32 → St → Prop} (C : CX p s m meth c cX6_padIsFree RX6 3 D E A) {σ : St} (ok : OK E σ) {p1 : Int32} {H : Heap} {locs : List Loc} (h : HW D E σ A s H locs) (hr : meth.sig.returnType = some .boolean) {ls : Array Slot} (hl : lv_has ls 3 [(0, .ref (ead E 0)), (1, .int p1)]) (hp : post (S_X6_padIsFree σ p1) σ) : W p l e rm_X6_padIsFree s m args below meth c H locs 0 0 (MQ below (va_Qi post (POB D E A) A) args s 0 0 A) (F0 m 0 ls []) := by
  refine lv_iconst (v := 0) C.x C.b dX6_padIsFree_0 (by decide) ?_
  refine lv_istore_n (lv' := [(2, .int 0), (0, .ref (ead E 0)), (1, .int p1)]) C.x C.b dX6_padIsFree_1 rfl hl (by decide) rfl (fun ls hl => ?_)
  exact K_X6_padIsFree_2 C hr 21 (j2 := 0) ok (by omega) (by have := ok.le; omega) h (lv_sub hl [1, 2, 0] rfl) hp
theorem M_X6_padIsFree (l : Launch) (D : va_G) (E : En) (σ : St) (ok : OK E σ) (p1 : Int32) : CO l yX6_padIsFree cX6_padIsFree 3 (some .boolean) rm_X6_padIsFree [.ref (ead E 0), .int p1] D E σ (fun A => va_Qi (fun r u => (S_X6_padIsFree σ p1) = r ∧ σ = u) (POB D E A) A) 0 0 :=
  CO.of RX6 (by decide +kernel) rfl (Nat.le_of_ble_eq_true rfl) (fun p e s m below meth c A ls C h hr hl => K_X6_padIsFree_0 C ok h hr hl ⟨rfl, rfl⟩)
-- X6_placeInQueue placeInQueue(I)I
abbrev rm_X6_placeInQueue : Room := { frames := 4, cells := 0, slots := 0, locals := 90 }
def S_X6_placeInQueue_4 : Nat → St → Int32 → Int32 → Nat → Int32
  | 0, _, _, _, _ => 0
  | n + 1, σ, p1, v2, j3 => if (σ 1 0) ≤ (nI j3) then v2 else if (nI j3) = p1 then S_X6_placeInQueue_4 n σ p1 v2 (j3 + 1) else if (σ 28 j3) = 2 then (if (S_X6_goesAhead σ (nI j3) p1) = 0 then S_X6_placeInQueue_4 n σ p1 v2 (j3 + 1) else S_X6_placeInQueue_4 n σ p1 (v2 + 1) (j3 + 1)) else S_X6_placeInQueue_4 n σ p1 v2 (j3 + 1)
theorem S_X6_placeInQueue_4_s (n : Nat) (σ : St) (p1 : Int32) (v2 : Int32) (j3 : Nat) : S_X6_placeInQueue_4 (n + 1) σ p1 v2 j3 = if (σ 1 0) ≤ (nI j3) then v2 else if (nI j3) = p1 then S_X6_placeInQueue_4 n σ p1 v2 (j3 + 1) else if (σ 28 j3) = 2 then (if (S_X6_goesAhead σ (nI j3) p1) = 0 then S_X6_placeInQueue_4 n σ p1 v2 (j3 + 1) else S_X6_placeInQueue_4 n σ p1 (v2 + 1) (j3 + 1)) else S_X6_placeInQueue_4 n σ p1 v2 (j3 + 1) := rfl
set_option maxRecDepth 100000 in
set_option maxHeartbeats 4000000 in
theorem K_X6_placeInQueue_4 {p : Program} {l : Launch} {e : Env} {s : State} {m : MethodId} {args : Array Value} {below : List Frame} {meth : Method} {c : Code} {D : va_G} {E : En} {A : Nat → Prop} {post : Int32 → St → Prop} (C : CX p s m meth c cX6_placeInQueue RX6 4 D E A) (hr : meth.sig.returnType = some .int) {p1 : Int32} : ∀ (n : Nat) {σ : St} (ok : OK E σ) {v2 : Int32} {j3 : Nat} (a1 : IN E p1) (hj : j3 + n = 21) (hb : j3 ≤ 20) {H : Heap} {locs : List Loc} (h : HW D E σ A s H locs) {ls : Array Slot} (hl : lv_has ls 4 [(0, .ref (ead E 0)), (1, .int p1), (2, .int v2), (3, .int (nI j3))]) (hp : post (S_X6_placeInQueue_4 n σ p1 v2 j3) σ), W p l e rm_X6_placeInQueue s m args below meth c H locs 0 0 (MQ below (va_Qi post (POB D E A) A) args s 0 0 A) (F0 m 4 ls []) := by
  intro n
  induction n with
  | zero =>
    intro σ ok v2 j3 a1 hj hb H locs h ls hl hp
    exfalso
    omega
  | succ n ih =>
    intro σ ok v2 j3 a1 hj hb H locs h ls hl hp
    refine lv_iload_n C.x C.b dX6_placeInQueue_4 rfl (lv_at hl 3 rfl) ?_
    refine lv_aload_n C.x C.b dX6_placeInQueue_5 rfl (lv_at hl 0 rfl) ?_
    refine g_X6_108 C h dX6_placeInQueue_6 ?_
    refine lv_icmp_ge (tgt := 48) C.x C.b dX6_placeInQueue_9 (by decide) (fun c1 => ?_) (fun c1 => ?_)
    · skip
      refine lv_iload_n C.x C.b dX6_placeInQueue_48 rfl (lv_at hl 2 rfl) ?_
      exact rtI C h hr rfl dX6_placeInQueue_49 (Eq.mp (congrArg (fun z => post z σ) ((S_X6_placeInQueue_4_s n σ p1 v2 j3).trans (if_pos c1))) hp)
    · skip
      have h3 : j3 < en E := ok.lt (by omega) c1
      refine lv_iload_n C.x C.b dX6_placeInQueue_12 rfl (lv_at hl 3 rfl) ?_
      refine lv_iload_n C.x C.b dX6_placeInQueue_13 rfl (lv_at hl 1 rfl) ?_
      refine lv_icmp_eq (tgt := 42) C.x C.b dX6_placeInQueue_14 (by decide) (fun c2 => ?_) (fun c2 => ?_)
      · skip
        refine lv_iinc (v := nI (j3 + 1)) (lv' := [(3, .int (nI (j3 + 1))), (0, .ref (ead E 0)), (1, .int p1), (2, .int v2)]) C.x C.b dX6_placeInQueue_42 hl (k := 3) rfl (nI_1 _) (by decide) rfl (fun ls hl => ?_)
        refine lv_goto (tgt := 4) C.x C.b dX6_placeInQueue_45 (by decide) ?_
        exact ih (v2 := v2) (j3 := j3 + 1) ok a1 (by omega) (by have := ok.le; omega) h (lv_sub hl [1, 2, 3, 0] rfl) (Eq.mp (congrArg (fun z => post z σ) ((S_X6_placeInQueue_4_s n σ p1 v2 j3).trans ((if_neg c1).trans (if_pos c2)))) hp)
      · skip
        refine lv_aload_n C.x C.b dX6_placeInQueue_17 rfl (lv_at hl 0 rfl) ?_
        refine g_X6_39 C h dX6_placeInQueue_18 ?_
        refine lv_iload_n C.x C.b dX6_placeInQueue_21 rfl (lv_at hl 3 rfl) ?_
        refine aln_14 C h ok h3 dX6_placeInQueue_22 ?_
        refine g_X6_120 C h h3 dX6_placeInQueue_23 ?_
        refine lv_iconst (v := 2) C.x C.b dX6_placeInQueue_26 (by decide) ?_
        refine lv_icmp_ne (tgt := 42) C.x C.b dX6_placeInQueue_27 (by decide) (fun c3 => ?_) (fun c3 => ?_)
        · skip
          refine lv_iinc (v := nI (j3 + 1)) (lv' := [(3, .int (nI (j3 + 1))), (0, .ref (ead E 0)), (1, .int p1), (2, .int v2)]) C.x C.b dX6_placeInQueue_42 hl (k := 3) rfl (nI_1 _) (by decide) rfl (fun ls hl => ?_)
          refine lv_goto (tgt := 4) C.x C.b dX6_placeInQueue_45 (by decide) ?_
          exact ih (v2 := v2) (j3 := j3 + 1) ok a1 (by omega) (by have := ok.le; omega) h (lv_sub hl [1, 2, 3, 0] rfl) (Eq.mp (congrArg (fun z => post z σ) ((S_X6_placeInQueue_4_s n σ p1 v2 j3).trans ((if_neg c1).trans ((if_neg c2).trans (if_neg c3))))) hp)
        · skip
          refine lv_aload_n C.x C.b dX6_placeInQueue_30 rfl (lv_at hl 0 rfl) ?_
          refine lv_iload_n C.x C.b dX6_placeInQueue_31 rfl (lv_at hl 3 rfl) ?_
          refine lv_iload_n C.x C.b dX6_placeInQueue_32 rfl (lv_at hl 1 rfl) ?_
          refine caVi (As := [.int (nI j3), .int p1]) (rest := []) (q0 := 0) (ci := 6) C h (M_X6_goesAhead l D E _ ok (nI j3) p1 (IN.of ok h3) a1) cw_X6_254 m_im_X6_goesAhead m_se_X6_goesAhead rfl rfl ⟨Nat.le_of_ble_eq_true rfl, Nat.le_of_ble_eq_true rfl⟩ rfl rfl hl rfl (Nat.le_of_ble_eq_true rfl) dX6_placeInQueue_33 ⟨Nat.le_of_ble_eq_true rfl, Nat.le_of_ble_eq_true rfl⟩ (fun r u H locs w4 h => ?_)
          obtain ⟨rfl, rfl⟩ := w4
          refine lv_if_eq (tgt := 42) C.x C.b dX6_placeInQueue_36 (by decide) (fun c5 => ?_) (fun c5 => ?_)
          · skip
            refine lv_iinc (v := nI (j3 + 1)) (lv' := [(3, .int (nI (j3 + 1))), (0, .ref (ead E 0)), (1, .int p1), (2, .int v2)]) C.x C.b dX6_placeInQueue_42 hl (k := 3) rfl (nI_1 _) (by decide) rfl (fun ls hl => ?_)
            refine lv_goto (tgt := 4) C.x C.b dX6_placeInQueue_45 (by decide) ?_
            exact ih (v2 := v2) (j3 := j3 + 1) ok a1 (by omega) (by have := ok.le; omega) h (lv_sub hl [1, 2, 3, 0] rfl) (Eq.mp (congrArg (fun z => post z σ) ((S_X6_placeInQueue_4_s n σ p1 v2 j3).trans ((if_neg c1).trans ((if_neg c2).trans ((if_pos c3).trans (if_pos c5)))))) hp)
          · skip
            refine lv_iinc (v := (v2 + 1)) (lv' := [(2, .int (v2 + 1)), (0, .ref (ead E 0)), (1, .int p1), (3, .int (nI j3))]) C.x C.b dX6_placeInQueue_39 hl (k := 2) rfl rfl (by decide) rfl (fun ls hl => ?_)
            refine lv_iinc (v := nI (j3 + 1)) (lv' := [(3, .int (nI (j3 + 1))), (2, .int (v2 + 1)), (0, .ref (ead E 0)), (1, .int p1)]) C.x C.b dX6_placeInQueue_42 hl (k := 3) rfl (nI_1 _) (by decide) rfl (fun ls hl => ?_)
            refine lv_goto (tgt := 4) C.x C.b dX6_placeInQueue_45 (by decide) ?_
            exact ih (v2 := (v2 + 1)) (j3 := j3 + 1) ok a1 (by omega) (by have := ok.le; omega) h (lv_sub hl [2, 3, 1, 0] rfl) (Eq.mp (congrArg (fun z => post z σ) ((S_X6_placeInQueue_4_s n σ p1 v2 j3).trans ((if_neg c1).trans ((if_neg c2).trans ((if_pos c3).trans (if_neg c5)))))) hp)
def S_X6_placeInQueue (σ : St) (p1 : Int32) : Int32 := S_X6_placeInQueue_4 21 σ p1 0 0
set_option maxRecDepth 100000 in
set_option maxHeartbeats 4000000 in
theorem K_X6_placeInQueue_0 {p : Program} {l : Launch} {e : Env} {s : State} {m : MethodId} {args : Array Value} {below : List Frame} {meth : Method} {c : Code} {D : va_G} {E : En} {A : Nat → Prop} {post : Int32 → St → Prop} (C : CX p s m meth c cX6_placeInQueue RX6 4 D E A) {σ : St} (ok : OK E σ) {p1 : Int32} (a1 : IN E p1) {H : Heap} {locs : List Loc} (h : HW D E σ A s H locs) (hr : meth.sig.returnType = some .int) {ls : Array Slot} (hl : lv_has ls 4 [(0, .ref (ead E 0)), (1, .int p1)]) (hp : post (S_X6_placeInQueue σ p1) σ) : W p l e rm_X6_placeInQueue s m args below meth c H locs 0 0 (MQ below (va_Qi post (POB D E A) A) args s 0 0 A) (F0 m 0 ls []) := by
  refine lv_iconst (v := 0) C.x C.b dX6_placeInQueue_0 (by decide) ?_
  refine lv_istore_n (lv' := [(2, .int 0), (0, .ref (ead E 0)), (1, .int p1)]) C.x C.b dX6_placeInQueue_1 rfl hl (by decide) rfl (fun ls hl => ?_)
  refine lv_iconst (v := 0) C.x C.b dX6_placeInQueue_2 (by decide) ?_
  refine lv_istore_n (lv' := [(3, .int 0), (2, .int 0), (0, .ref (ead E 0)), (1, .int p1)]) C.x C.b dX6_placeInQueue_3 rfl hl (by decide) rfl (fun ls hl => ?_)
  exact K_X6_placeInQueue_4 C hr 21 (v2 := 0) (j3 := 0) ok a1 (by omega) (by have := ok.le; omega) h (lv_sub hl [2, 3, 1, 0] rfl) hp
theorem M_X6_placeInQueue (l : Launch) (D : va_G) (E : En) (σ : St) (ok : OK E σ) (p1 : Int32) (a1 : IN E p1) : CO l yX6_placeInQueue cX6_placeInQueue 4 (some .int) rm_X6_placeInQueue [.ref (ead E 0), .int p1] D E σ (fun A => va_Qi (fun r u => (S_X6_placeInQueue σ p1) = r ∧ σ = u) (POB D E A) A) 0 0 :=
  CO.of RX6 (by decide +kernel) rfl (Nat.le_of_ble_eq_true rfl) (fun p e s m below meth c A ls C h hr hl => K_X6_placeInQueue_0 C ok a1 h hr hl ⟨rfl, rfl⟩)
-- X6_liveMinute liveMinute()V
theorem cw_X6_234 : CWd RX6 234 yX3_liveMinute cX3_liveMinute 4 none 2 := ⟨m_ml_X6_234, m_co_X3_liveMinute, m_ini_X3, by decide +kernel, by decide +kernel⟩
theorem cw_X6_237 : CWd RX6 237 yX6_endTreatments cX6_endTreatments 2 none 0 := ⟨m_ml_X6_237, m_co_X6_endTreatments, m_ini_X6, by decide +kernel, by decide +kernel⟩
theorem cw_X6_240 : CWd RX6 240 yX1_cleanMinute cX1_cleanMinute 2 none 0 := ⟨m_ml_X6_240, m_co_X1_cleanMinute, m_ini_X1, by decide +kernel, by decide +kernel⟩
theorem cw_X6_242 : CWd RX6 242 yX6_cancelBehindDuty cX6_cancelBehindDuty 2 none 0 := ⟨m_ml_X6_242, m_co_X6_cancelBehindDuty, m_ini_X6, by decide +kernel, by decide +kernel⟩
theorem cw_X6_245 : CWd RX6 245 yX6_sendBackWithoutClock cX6_sendBackWithoutClock 2 none 0 := ⟨m_ml_X6_245, m_co_X6_sendBackWithoutClock, m_ini_X6, by decide +kernel, by decide +kernel⟩
theorem cw_X6_182 : CWd RX6 182 yX3_isUsableAt cX3_isUsableAt 3 (some .boolean) 2 := ⟨m_ml_X6_182, m_co_X3_isUsableAt, m_ini_X3, by decide +kernel, by decide +kernel⟩
theorem cw_X6_248 : CWd RX6 248 yX6_letOneLeave cX6_letOneLeave 4 none 0 := ⟨m_ml_X6_248, m_co_X6_letOneLeave, m_ini_X6, by decide +kernel, by decide +kernel⟩
abbrev rm_X6_liveMinute : Room := { frames := 5, cells := 0, slots := 0, locals := 113 }
def S_X6_liveMinute_44 (σ : St) : St := if (S_X3_isUsableAt σ (σ 0 0)) = 0 then σ else (S_X6_letOneLeave σ)
set_option maxRecDepth 100000 in
set_option maxHeartbeats 4000000 in
theorem K_X6_liveMinute_44 {p : Program} {l : Launch} {e : Env} {s : State} {m : MethodId} {args : Array Value} {below : List Frame} {meth : Method} {c : Code} {D : va_G} {E : En} {A : Nat → Prop} {post : St → Prop} (C : CX p s m meth c cX6_liveMinute RX6 1 D E A) {σ : St} (ok : OK E σ) {H : Heap} {locs : List Loc} (h : HW D E σ A s H locs) (hr : meth.sig.returnType = none) {ls : Array Slot} (hl : lv_has ls 1 [(0, .ref (ead E 0))]) (hp : post (S_X6_liveMinute_44 σ)) : W p l e rm_X6_liveMinute s m args below meth c H locs 0 0 (MQ below (va_Qv post (POB D E A) A) args s 0 0 A) (F0 m 44 ls []) := by
  refine lv_aload_n C.x C.b dX6_liveMinute_44 rfl (lv_at hl 0 rfl) ?_
  refine g_X6_19 C h dX6_liveMinute_45 ?_
  refine lv_aload_n C.x C.b dX6_liveMinute_48 rfl (lv_at hl 0 rfl) ?_
  refine g_X6_64 C h dX6_liveMinute_49 ?_
  refine lv_aload_n C.x C.b dX6_liveMinute_52 rfl (lv_at hl 0 rfl) ?_
  refine g_X6_10 C h dX6_liveMinute_53 ?_
  refine caVi (As := [.int (σ 0 0), .ref (ead E 1)]) (rest := []) (q0 := 2) (ci := 3) C h (M_X3_isUsableAt l D E _ ok (σ 0 0)) cw_X6_182 m_im_X3_isUsableAt m_se_X3_isUsableAt rfl rfl ⟨Nat.le_of_ble_eq_true rfl, Nat.le_of_ble_eq_true rfl⟩ rfl rfl hl rfl (Nat.le_of_ble_eq_true rfl) dX6_liveMinute_56 ⟨Nat.le_of_ble_eq_true rfl, Nat.le_of_ble_eq_true rfl⟩ (fun r u H locs w1 h => ?_)
  obtain ⟨rfl, rfl⟩ := w1
  refine lv_if_eq (tgt := 66) C.x C.b dX6_liveMinute_59 (by decide) (fun c2 => ?_) (fun c2 => ?_)
  · skip
    exact rtV C h hr dX6_liveMinute_66 (Eq.mp (congrArg (fun z => post z) (if_pos c2)) hp)
  · skip
    refine lv_aload_n C.x C.b dX6_liveMinute_62 rfl (lv_at hl 0 rfl) ?_
    refine caVv (As := []) (rest := []) (q0 := 0) (ci := 6) C h (M_X6_letOneLeave l D E _ ok) cw_X6_248 m_im_X6_letOneLeave m_se_X6_letOneLeave rfl rfl ⟨Nat.le_of_ble_eq_true rfl, Nat.le_of_ble_eq_true rfl⟩ rfl rfl hl rfl (Nat.le_of_ble_eq_true rfl) dX6_liveMinute_63 ⟨Nat.le_of_ble_eq_true rfl, Nat.le_of_ble_eq_true rfl⟩ (fun u H locs w3 h => ?_)
    subst w3
    exact rtV C h hr dX6_liveMinute_66 (Eq.mp (congrArg (fun z => post z) (if_neg c2)) hp)
def S_X6_liveMinute (σ : St) : St := S_X6_liveMinute_44 (S_X6_sendBackWithoutClock (S_X6_cancelBehindDuty (S_X1_cleanMinute (S_X6_endTreatments (S_X3_liveMinute (up2 σ 0 0 ((σ 0 0) + 1)) ((σ 0 0) + 1))))))
set_option maxRecDepth 100000 in
set_option maxHeartbeats 4000000 in
theorem K_X6_liveMinute_0 {p : Program} {l : Launch} {e : Env} {s : State} {m : MethodId} {args : Array Value} {below : List Frame} {meth : Method} {c : Code} {D : va_G} {E : En} {A : Nat → Prop} {post : St → Prop} (C : CX p s m meth c cX6_liveMinute RX6 1 D E A) {σ : St} (ok : OK E σ) {H : Heap} {locs : List Loc} (h : HW D E σ A s H locs) (hr : meth.sig.returnType = none) {ls : Array Slot} (hl : lv_has ls 1 [(0, .ref (ead E 0))]) (hp : post (S_X6_liveMinute σ)) : W p l e rm_X6_liveMinute s m args below meth c H locs 0 0 (MQ below (va_Qv post (POB D E A) A) args s 0 0 A) (F0 m 0 ls []) := by
  refine lv_aload_n C.x C.b dX6_liveMinute_0 rfl (lv_at hl 0 rfl) ?_
  refine lv_dup C.x C.b dX6_liveMinute_1 rfl ?_
  refine g_X6_64 C h dX6_liveMinute_2 ?_
  refine lv_iconst (v := 1) C.x C.b dX6_liveMinute_5 (by decide) ?_
  refine lv_iadd C.x C.b dX6_liveMinute_6 ?_
  refine p_X6_64 C h dX6_liveMinute_7 (fun H locs h => ?_)
  refine lv_aload_n C.x C.b dX6_liveMinute_10 rfl (lv_at hl 0 rfl) ?_
  refine g_X6_19 C h dX6_liveMinute_11 ?_
  refine lv_aload_n C.x C.b dX6_liveMinute_14 rfl (lv_at hl 0 rfl) ?_
  refine g_X6_64 C h dX6_liveMinute_15 ?_
  refine lv_aload_n C.x C.b dX6_liveMinute_18 rfl (lv_at hl 0 rfl) ?_
  refine g_X6_10 C h dX6_liveMinute_19 ?_
  refine caVv (As := [.int ((σ 0 0) + 1), .ref (ead E 1)]) (rest := []) (q0 := 2) (ci := 3) C h (M_X3_liveMinute l D E _ (ok.up (by decide) _ _) ((σ 0 0) + 1)) cw_X6_234 m_im_X3_liveMinute m_se_X3_liveMinute rfl rfl ⟨Nat.le_of_ble_eq_true rfl, Nat.le_of_ble_eq_true rfl⟩ rfl rfl hl rfl (Nat.le_of_ble_eq_true rfl) dX6_liveMinute_22 ⟨Nat.le_of_ble_eq_true rfl, Nat.le_of_ble_eq_true rfl⟩ (fun u H locs w1 h => ?_)
  subst w1
  refine lv_aload_n C.x C.b dX6_liveMinute_25 rfl (lv_at hl 0 rfl) ?_
  refine caVv (As := []) (rest := []) (q0 := 0) (ci := 6) C h (M_X6_endTreatments l D E _ (S_X3_liveMinute_ok (ok.up (by decide) _ _) ((σ 0 0) + 1))) cw_X6_237 m_im_X6_endTreatments m_se_X6_endTreatments rfl rfl ⟨Nat.le_of_ble_eq_true rfl, Nat.le_of_ble_eq_true rfl⟩ rfl rfl hl rfl (Nat.le_of_ble_eq_true rfl) dX6_liveMinute_26 ⟨Nat.le_of_ble_eq_true rfl, Nat.le_of_ble_eq_true rfl⟩ (fun u H locs w2 h => ?_)
  subst w2
  refine lv_aload_n C.x C.b dX6_liveMinute_29 rfl (lv_at hl 0 rfl) ?_
  refine g_X6_33 C h dX6_liveMinute_30 ?_
  refine caVv (As := []) (rest := []) (q0 := 13) (ci := 1) C h (M_X1_cleanMinute l D E _ (S_X6_endTreatments_ok (S_X3_liveMinute_ok (ok.up (by decide) _ _) ((σ 0 0) + 1)))) cw_X6_240 m_im_X1_cleanMinute m_se_X1_cleanMinute rfl rfl ⟨Nat.le_of_ble_eq_true rfl, Nat.le_of_ble_eq_true rfl⟩ rfl rfl hl rfl (Nat.le_of_ble_eq_true rfl) dX6_liveMinute_33 ⟨Nat.le_of_ble_eq_true rfl, Nat.le_of_ble_eq_true rfl⟩ (fun u H locs w3 h => ?_)
  subst w3
  refine lv_aload_n C.x C.b dX6_liveMinute_36 rfl (lv_at hl 0 rfl) ?_
  refine caVv (As := []) (rest := []) (q0 := 0) (ci := 6) C h (M_X6_cancelBehindDuty l D E _ (S_X1_cleanMinute_ok (S_X6_endTreatments_ok (S_X3_liveMinute_ok (ok.up (by decide) _ _) ((σ 0 0) + 1))))) cw_X6_242 m_im_X6_cancelBehindDuty m_se_X6_cancelBehindDuty rfl rfl ⟨Nat.le_of_ble_eq_true rfl, Nat.le_of_ble_eq_true rfl⟩ rfl rfl hl rfl (Nat.le_of_ble_eq_true rfl) dX6_liveMinute_37 ⟨Nat.le_of_ble_eq_true rfl, Nat.le_of_ble_eq_true rfl⟩ (fun u H locs w4 h => ?_)
  subst w4
  refine lv_aload_n C.x C.b dX6_liveMinute_40 rfl (lv_at hl 0 rfl) ?_
  refine caVv (As := []) (rest := []) (q0 := 0) (ci := 6) C h (M_X6_sendBackWithoutClock l D E _ (S_X6_cancelBehindDuty_ok (S_X1_cleanMinute_ok (S_X6_endTreatments_ok (S_X3_liveMinute_ok (ok.up (by decide) _ _) ((σ 0 0) + 1)))))) cw_X6_245 m_im_X6_sendBackWithoutClock m_se_X6_sendBackWithoutClock rfl rfl ⟨Nat.le_of_ble_eq_true rfl, Nat.le_of_ble_eq_true rfl⟩ rfl rfl hl rfl (Nat.le_of_ble_eq_true rfl) dX6_liveMinute_41 ⟨Nat.le_of_ble_eq_true rfl, Nat.le_of_ble_eq_true rfl⟩ (fun u H locs w5 h => ?_)
  subst w5
  exact K_X6_liveMinute_44 C (S_X6_sendBackWithoutClock_ok (S_X6_cancelBehindDuty_ok (S_X1_cleanMinute_ok (S_X6_endTreatments_ok (S_X3_liveMinute_ok (ok.up (by decide) _ _) ((σ 0 0) + 1)))))) h hr (lv_sub hl [0] rfl) hp
theorem M_X6_liveMinute (l : Launch) (D : va_G) (E : En) (σ : St) (ok : OK E σ) : CO l yX6_liveMinute cX6_liveMinute 1 none rm_X6_liveMinute [.ref (ead E 0)] D E σ (fun A => va_Qv (fun u => (S_X6_liveMinute σ) = u) (POB D E A) A) 0 0 :=
  CO.of RX6 (by decide +kernel) rfl (Nat.le_of_ble_eq_true rfl) (fun p e s m below meth c A ls C h hr hl => K_X6_liveMinute_0 C ok h hr hl rfl)
theorem S_X6_liveMinute_44_fr {f i : Nat} (σ : St) (hf : ∀ w ∈ [0, 8, 9, 10, 19, 20, 28, 29], f ≠ w) : (S_X6_liveMinute_44 σ) f i = σ f i := by
  unfold S_X6_liveMinute_44
  (repeat' split) <;> first | with_reducible rfl | (simp only [up2_f (hf 0 (by decide)), up2_f (hf 8 (by decide)), up2_f (hf 9 (by decide)), up2_f (hf 10 (by decide)), up2_f (hf 19 (by decide)), up2_f (hf 20 (by decide)), up2_f (hf 28 (by decide)), up2_f (hf 29 (by decide)), S_X1_cleanMinute_fr _  (fun w hw => hf w ((by decide : ∀ w ∈ [19, 20], w ∈ [0, 8, 9, 10, 19, 20, 28, 29]) w hw)), S_X3_liveMinute_fr _ _ (fun w hw => hf w ((by decide : ∀ w ∈ [8, 9, 10], w ∈ [0, 8, 9, 10, 19, 20, 28, 29]) w hw)), S_X6_cancelBehindDuty_fr _  (fun w hw => hf w ((by decide : ∀ w ∈ [28], w ∈ [0, 8, 9, 10, 19, 20, 28, 29]) w hw)), S_X6_endTreatments_fr _  (fun w hw => hf w ((by decide : ∀ w ∈ [28], w ∈ [0, 8, 9, 10, 19, 20, 28, 29]) w hw)), S_X6_letOneLeave_fr _  (fun w hw => hf w ((by decide : ∀ w ∈ [28, 29], w ∈ [0, 8, 9, 10, 19, 20, 28, 29]) w hw)), S_X6_sendBackWithoutClock_fr _  (fun w hw => hf w ((by decide : ∀ w ∈ [28], w ∈ [0, 8, 9, 10, 19, 20, 28, 29]) w hw))]; done)
theorem S_X6_liveMinute_fr {f i : Nat} (σ : St) (hf : ∀ w ∈ [0, 8, 9, 10, 19, 20, 28, 29], f ≠ w) : (S_X6_liveMinute σ) f i = σ f i := by
  unfold S_X6_liveMinute
  (repeat' split) <;> first | with_reducible rfl | (simp only [up2_f (hf 0 (by decide)), up2_f (hf 8 (by decide)), up2_f (hf 9 (by decide)), up2_f (hf 10 (by decide)), up2_f (hf 19 (by decide)), up2_f (hf 20 (by decide)), up2_f (hf 28 (by decide)), up2_f (hf 29 (by decide)), S_X1_cleanMinute_fr _  (fun w hw => hf w ((by decide : ∀ w ∈ [19, 20], w ∈ [0, 8, 9, 10, 19, 20, 28, 29]) w hw)), S_X3_liveMinute_fr _ _ (fun w hw => hf w ((by decide : ∀ w ∈ [8, 9, 10], w ∈ [0, 8, 9, 10, 19, 20, 28, 29]) w hw)), S_X6_cancelBehindDuty_fr _  (fun w hw => hf w ((by decide : ∀ w ∈ [28], w ∈ [0, 8, 9, 10, 19, 20, 28, 29]) w hw)), S_X6_endTreatments_fr _  (fun w hw => hf w ((by decide : ∀ w ∈ [28], w ∈ [0, 8, 9, 10, 19, 20, 28, 29]) w hw)), S_X6_letOneLeave_fr _  (fun w hw => hf w ((by decide : ∀ w ∈ [28, 29], w ∈ [0, 8, 9, 10, 19, 20, 28, 29]) w hw)), S_X6_sendBackWithoutClock_fr _  (fun w hw => hf w ((by decide : ∀ w ∈ [28], w ∈ [0, 8, 9, 10, 19, 20, 28, 29]) w hw)), S_X6_liveMinute_44_fr _  hf]; done)
theorem S_X6_liveMinute_ok {E : En} {σ : St} (ok : OK E σ) : OK E (S_X6_liveMinute σ) :=
  ok.of_fr (fun f i hf => S_X6_liveMinute_fr σ (fun w hw q => absurd (show w ∈ [1, 3, 33, 43, 55, 66] by rw [← q]; exact hf) ((by decide : ∀ w ∈ [0, 8, 9, 10, 19, 20, 28, 29], w ∉ [1, 3, 33, 43, 55, 66]) w hw)))
