/-! methods walked (by program; wip/p23/gen) -/
-- X3_isClosedAt isClosedAt(I)Z
abbrev rm_X3_isClosedAt : Room := { frames := 0, cells := 0, slots := 0, locals := 0 }
def S_X3_isClosedAt (σ : St) (p1 : Int32) : Int32 := if (σ 6 0) < p1 then 0 else 1
set_option maxRecDepth 100000 in
set_option maxHeartbeats 4000000 in
theorem K_X3_isClosedAt_0 {p : Program} {l : Launch} {e : Env} {s : State} {m : MethodId} {args : Array Value} {below : List Frame} {meth : Method} {c : Code} {D : va_G} {E : En} {A : Nat → Prop} {post : Int32 → St → Prop} (C : CX p s m meth c cX3_isClosedAt RX3 2 D E A) {σ : St} (ok : OK E σ) {p1 : Int32} {H : Heap} {locs : List Loc} (h : HW D E σ A s H locs) (hr : meth.sig.returnType = some .boolean) {ls : Array Slot} (hl : lv_has ls 2 [(0, .ref (ead E 2)), (1, .int p1)]) (hp : post (S_X3_isClosedAt σ p1) σ) : W p l e rm_X3_isClosedAt s m args below meth c H locs 0 0 (MQ below (va_Qi post (POB D E A) A) args s 0 0 A) (F0 m 0 ls []) := by
  refine lv_iload_n C.x C.b dX3_isClosedAt_0 rfl (lv_at hl 1 rfl) ?_
  refine lv_aload_n C.x C.b dX3_isClosedAt_1 rfl (lv_at hl 0 rfl) ?_
  refine g_X3_9 C h dX3_isClosedAt_2 ?_
  refine lv_icmp_gt (tgt := 12) C.x C.b dX3_isClosedAt_5 (by decide) (fun c1 => ?_) (fun c1 => ?_)
  · skip
    refine lv_iconst (v := 0) C.x C.b dX3_isClosedAt_12 (by decide) ?_
    exact rtI C h hr rfl dX3_isClosedAt_13 (Eq.mp (congrArg (fun z => post z σ) (if_pos c1)) hp)
  · skip
    refine lv_iconst (v := 1) C.x C.b dX3_isClosedAt_8 (by decide) ?_
    refine lv_goto (tgt := 13) C.x C.b dX3_isClosedAt_9 (by decide) ?_
    exact rtI C h hr rfl dX3_isClosedAt_13 (Eq.mp (congrArg (fun z => post z σ) (if_neg c1)) hp)
theorem M_X3_isClosedAt (l : Launch) (D : va_G) (E : En) (σ : St) (ok : OK E σ) (p1 : Int32) : CO l yX3_isClosedAt cX3_isClosedAt 2 (some .boolean) rm_X3_isClosedAt [.ref (ead E 2), .int p1] D E σ (fun A => va_Qi (fun r u => (S_X3_isClosedAt σ p1) = r ∧ σ = u) (POB D E A) A) 0 0 :=
  CO.of RX3 (by decide +kernel) rfl (Nat.le_of_ble_eq_true rfl) (fun p e s m below meth c A ls C h hr hl => K_X3_isClosedAt_0 C ok h hr hl ⟨rfl, rfl⟩)
-- X3_codesSufficeAt codesSufficeAt(ILIcePad$Weather;)Z
theorem cw_X3_22 : CWd RX3 22 yX5_codeNeeded cX5_codeNeeded 1 (some .int) 0 := ⟨m_ml_X3_22, m_co_X5_codeNeeded, m_ini_X5, by decide +kernel, by decide +kernel⟩
theorem cw_X3_28 : CWd RX3 28 yX4_codeAt cX4_codeAt 5 (some .int) 2 := ⟨m_ml_X3_28, m_co_X4_codeAt, m_ini_X4, by decide +kernel, by decide +kernel⟩
abbrev rm_X3_codesSufficeAt : Room := { frames := 2, cells := 0, slots := 0, locals := 46 }
def S_X3_codesSufficeAt_8 : Nat → St → Int32 → Int32 → Nat → Int32
  | 0, _, _, _, _ => 0
  | n + 1, σ, p1, v3, j4 => if 3 ≤ (nI j4) then 1 else if v3 ≤ (S_X4_codeAt σ j4 p1) then S_X3_codesSufficeAt_8 n σ p1 v3 (j4 + 1) else 0
theorem S_X3_codesSufficeAt_8_s (n : Nat) (σ : St) (p1 : Int32) (v3 : Int32) (j4 : Nat) : S_X3_codesSufficeAt_8 (n + 1) σ p1 v3 j4 = if 3 ≤ (nI j4) then 1 else if v3 ≤ (S_X4_codeAt σ j4 p1) then S_X3_codesSufficeAt_8 n σ p1 v3 (j4 + 1) else 0 := rfl
set_option maxRecDepth 100000 in
set_option maxHeartbeats 4000000 in
theorem K_X3_codesSufficeAt_8 {p : Program} {l : Launch} {e : Env} {s : State} {m : MethodId} {args : Array Value} {below : List Frame} {meth : Method} {c : Code} {D : va_G} {E : En} {A : Nat → Prop} {post : Int32 → St → Prop} (C : CX p s m meth c cX3_codesSufficeAt RX3 5 D E A) (hr : meth.sig.returnType = some .boolean) {p1 : Int32} : ∀ (n : Nat) {σ : St} (ok : OK E σ) {v3 : Int32} {j4 : Nat} (hj : j4 + n = 4) (hb : j4 ≤ 3) {H : Heap} {locs : List Loc} (h : HW D E σ A s H locs) {ls : Array Slot} (hl : lv_has ls 5 [(0, .ref (ead E 2)), (1, .int p1), (2, .ref (ead E 1)), (3, .int v3), (4, .int (nI j4))]) (hp : post (S_X3_codesSufficeAt_8 n σ p1 v3 j4) σ), W p l e rm_X3_codesSufficeAt s m args below meth c H locs 0 0 (MQ below (va_Qi post (POB D E A) A) args s 0 0 A) (F0 m 8 ls []) := by
  intro n
  induction n with
  | zero =>
    intro σ ok v3 j4 hj hb H locs h ls hl hp
    exfalso
    omega
  | succ n ih =>
    intro σ ok v3 j4 hj hb H locs h ls hl hp
    refine lv_iload C.x C.b dX3_codesSufficeAt_8 (lv_at hl 4 rfl) ?_
    refine lv_aload_n C.x C.b dX3_codesSufficeAt_10 rfl (lv_at hl 0 rfl) ?_
    refine g_X3_17 C h dX3_codesSufficeAt_11 ?_
    refine an_3 C h dX3_codesSufficeAt_14 ?_
    refine lv_icmp_ge (tgt := 42) C.x C.b dX3_codesSufficeAt_15 (by decide) (fun c1 => ?_) (fun c1 => ?_)
    · skip
      refine lv_iconst (v := 1) C.x C.b dX3_codesSufficeAt_42 (by decide) ?_
      exact rtI C h hr rfl dX3_codesSufficeAt_43 (Eq.mp (congrArg (fun z => post z σ) ((S_X3_codesSufficeAt_8_s n σ p1 v3 j4).trans (if_pos c1))) hp)
    · skip
      have h4 : j4 < 3 := lt_of_nle (by omega) (by decide) c1
      refine lv_aload_n C.x C.b dX3_codesSufficeAt_18 rfl (lv_at hl 0 rfl) ?_
      refine g_X3_17 C h dX3_codesSufficeAt_19 ?_
      refine lv_iload C.x C.b dX3_codesSufficeAt_22 (lv_at hl 4 rfl) ?_
      refine aln_3 C h h4 dX3_codesSufficeAt_24 ?_
      refine lv_iload_n C.x C.b dX3_codesSufficeAt_25 rfl (lv_at hl 1 rfl) ?_
      refine lv_aload_n C.x C.b dX3_codesSufficeAt_26 rfl (lv_at hl 2 rfl) ?_
      refine caVi (As := [.int p1, .ref (ead E 1)]) (rest := []) (q0 := 4 + j4) (ci := 4) C h (M_X4_codeAt l D E _ ok j4 h4 p1) cw_X3_28 m_im_X4_codeAt m_se_X4_codeAt rfl rfl ⟨Nat.le_of_ble_eq_true rfl, Nat.le_of_ble_eq_true rfl⟩ (wd_t _ h4) rfl hl rfl (Nat.le_of_ble_eq_true rfl) dX3_codesSufficeAt_27 ⟨Nat.le_of_ble_eq_true rfl, Nat.le_of_ble_eq_true rfl⟩ (fun r u H locs w2 h => ?_)
      obtain ⟨rfl, rfl⟩ := w2
      refine lv_iload_n C.x C.b dX3_codesSufficeAt_30 rfl (lv_at hl 3 rfl) ?_
      refine lv_icmp_ge (tgt := 36) C.x C.b dX3_codesSufficeAt_31 (by decide) (fun c3 => ?_) (fun c3 => ?_)
      · skip
        refine lv_iinc (v := nI (j4 + 1)) (lv' := [(4, .int (nI (j4 + 1))), (0, .ref (ead E 2)), (1, .int p1), (2, .ref (ead E 1)), (3, .int v3)]) C.x C.b dX3_codesSufficeAt_36 hl (k := 4) rfl (nI_1 _) (by decide) rfl (fun ls hl => ?_)
        refine lv_goto (tgt := 8) C.x C.b dX3_codesSufficeAt_39 (by decide) ?_
        exact ih (v3 := v3) (j4 := j4 + 1) ok (by omega) (by omega) h (lv_sub hl [1, 2, 3, 4, 0] rfl) (Eq.mp (congrArg (fun z => post z σ) ((S_X3_codesSufficeAt_8_s n σ p1 v3 j4).trans ((if_neg c1).trans (if_pos c3)))) hp)
      · skip
        refine lv_iconst (v := 0) C.x C.b dX3_codesSufficeAt_34 (by decide) ?_
        exact rtI C h hr rfl dX3_codesSufficeAt_35 (Eq.mp (congrArg (fun z => post z σ) ((S_X3_codesSufficeAt_8_s n σ p1 v3 j4).trans ((if_neg c1).trans (if_neg c3)))) hp)
def S_X3_codesSufficeAt (σ : St) (p1 : Int32) : Int32 := S_X3_codesSufficeAt_8 4 σ p1 (S_X5_codeNeeded σ) 0
set_option maxRecDepth 100000 in
set_option maxHeartbeats 4000000 in
theorem K_X3_codesSufficeAt_0 {p : Program} {l : Launch} {e : Env} {s : State} {m : MethodId} {args : Array Value} {below : List Frame} {meth : Method} {c : Code} {D : va_G} {E : En} {A : Nat → Prop} {post : Int32 → St → Prop} (C : CX p s m meth c cX3_codesSufficeAt RX3 5 D E A) {σ : St} (ok : OK E σ) {p1 : Int32} {H : Heap} {locs : List Loc} (h : HW D E σ A s H locs) (hr : meth.sig.returnType = some .boolean) {ls : Array Slot} (hl : lv_has ls 5 [(0, .ref (ead E 2)), (1, .int p1), (2, .ref (ead E 1))]) (hp : post (S_X3_codesSufficeAt σ p1) σ) : W p l e rm_X3_codesSufficeAt s m args below meth c H locs 0 0 (MQ below (va_Qi post (POB D E A) A) args s 0 0 A) (F0 m 0 ls []) := by
  refine lv_aload_n C.x C.b dX3_codesSufficeAt_0 rfl (lv_at hl 2 rfl) ?_
  refine caVi (As := []) (rest := []) (q0 := 1) (ci := 5) C h (M_X5_codeNeeded l D E _ ok) cw_X3_22 m_im_X5_codeNeeded m_se_X5_codeNeeded rfl rfl ⟨Nat.le_of_ble_eq_true rfl, Nat.le_of_ble_eq_true rfl⟩ rfl rfl hl rfl (Nat.le_of_ble_eq_true rfl) dX3_codesSufficeAt_1 ⟨Nat.le_of_ble_eq_true rfl, Nat.le_of_ble_eq_true rfl⟩ (fun r u H locs w1 h => ?_)
  obtain ⟨rfl, rfl⟩ := w1
  refine lv_istore_n (lv' := [(3, .int (S_X5_codeNeeded σ)), (0, .ref (ead E 2)), (1, .int p1), (2, .ref (ead E 1))]) C.x C.b dX3_codesSufficeAt_4 rfl hl (by decide) rfl (fun ls hl => ?_)
  refine lv_iconst (v := 0) C.x C.b dX3_codesSufficeAt_5 (by decide) ?_
  refine lv_istore (lv' := [(4, .int 0), (3, .int (S_X5_codeNeeded σ)), (0, .ref (ead E 2)), (1, .int p1), (2, .ref (ead E 1))]) C.x C.b dX3_codesSufficeAt_6 hl (by decide) rfl (fun ls hl => ?_)
  exact K_X3_codesSufficeAt_8 C hr 4 (v3 := (S_X5_codeNeeded σ)) (j4 := 0) ok (by omega) (by omega) h (lv_sub hl [2, 3, 4, 1, 0] rfl) hp
theorem M_X3_codesSufficeAt (l : Launch) (D : va_G) (E : En) (σ : St) (ok : OK E σ) (p1 : Int32) : CO l yX3_codesSufficeAt cX3_codesSufficeAt 5 (some .boolean) rm_X3_codesSufficeAt [.ref (ead E 2), .int p1, .ref (ead E 1)] D E σ (fun A => va_Qi (fun r u => (S_X3_codesSufficeAt σ p1) = r ∧ σ = u) (POB D E A) A) 0 0 :=
  CO.of RX3 (by decide +kernel) rfl (Nat.le_of_ble_eq_true rfl) (fun p e s m below meth c A ls C h hr hl => K_X3_codesSufficeAt_0 C ok h hr hl ⟨rfl, rfl⟩)
-- X3_isUsableAt isUsableAt(ILIcePad$Weather;)Z
theorem cw_X3_32 : CWd RX3 32 yX3_isClosedAt cX3_isClosedAt 2 (some .boolean) 1 := ⟨m_ml_X3_32, m_co_X3_isClosedAt, m_ini_X3, by decide +kernel, by decide +kernel⟩
theorem cw_X3_36 : CWd RX3 36 yX3_codesSufficeAt cX3_codesSufficeAt 5 (some .boolean) 2 := ⟨m_ml_X3_36, m_co_X3_codesSufficeAt, m_ini_X3, by decide +kernel, by decide +kernel⟩
abbrev rm_X3_isUsableAt : Room := { frames := 3, cells := 0, slots := 0, locals := 70 }
def S_X3_isUsableAt (σ : St) (p1 : Int32) : Int32 := if (S_X3_isClosedAt σ p1) = 0 then (if (S_X3_codesSufficeAt σ p1) = 0 then 0 else 1) else 0
set_option maxRecDepth 100000 in
set_option maxHeartbeats 4000000 in
theorem K_X3_isUsableAt_0 {p : Program} {l : Launch} {e : Env} {s : State} {m : MethodId} {args : Array Value} {below : List Frame} {meth : Method} {c : Code} {D : va_G} {E : En} {A : Nat → Prop} {post : Int32 → St → Prop} (C : CX p s m meth c cX3_isUsableAt RX3 3 D E A) {σ : St} (ok : OK E σ) {p1 : Int32} {H : Heap} {locs : List Loc} (h : HW D E σ A s H locs) (hr : meth.sig.returnType = some .boolean) {ls : Array Slot} (hl : lv_has ls 3 [(0, .ref (ead E 2)), (1, .int p1), (2, .ref (ead E 1))]) (hp : post (S_X3_isUsableAt σ p1) σ) : W p l e rm_X3_isUsableAt s m args below meth c H locs 0 0 (MQ below (va_Qi post (POB D E A) A) args s 0 0 A) (F0 m 0 ls []) := by
  refine lv_aload_n C.x C.b dX3_isUsableAt_0 rfl (lv_at hl 0 rfl) ?_
  refine lv_iload_n C.x C.b dX3_isUsableAt_1 rfl (lv_at hl 1 rfl) ?_
  refine caVi (As := [.int p1]) (rest := []) (q0 := 2) (ci := 3) C h (M_X3_isClosedAt l D E _ ok p1) cw_X3_32 m_im_X3_isClosedAt m_se_X3_isClosedAt rfl rfl ⟨Nat.le_of_ble_eq_true rfl, Nat.le_of_ble_eq_true rfl⟩ rfl rfl hl rfl (Nat.le_of_ble_eq_true rfl) dX3_isUsableAt_2 ⟨Nat.le_of_ble_eq_true rfl, Nat.le_of_ble_eq_true rfl⟩ (fun r u H locs w1 h => ?_)
  obtain ⟨rfl, rfl⟩ := w1
  refine lv_if_ne (tgt := 21) C.x C.b dX3_isUsableAt_5 (by decide) (fun c2 => ?_) (fun c2 => ?_)
  · skip
    refine lv_iconst (v := 0) C.x C.b dX3_isUsableAt_21 (by decide) ?_
    exact rtI C h hr rfl dX3_isUsableAt_22 (Eq.mp (congrArg (fun z => post z σ) (if_neg c2)) hp)
  · skip
    refine lv_aload_n C.x C.b dX3_isUsableAt_8 rfl (lv_at hl 0 rfl) ?_
    refine lv_iload_n C.x C.b dX3_isUsableAt_9 rfl (lv_at hl 1 rfl) ?_
    refine lv_aload_n C.x C.b dX3_isUsableAt_10 rfl (lv_at hl 2 rfl) ?_
    refine caVi (As := [.int p1, .ref (ead E 1)]) (rest := []) (q0 := 2) (ci := 3) C h (M_X3_codesSufficeAt l D E _ ok p1) cw_X3_36 m_im_X3_codesSufficeAt m_se_X3_codesSufficeAt rfl rfl ⟨Nat.le_of_ble_eq_true rfl, Nat.le_of_ble_eq_true rfl⟩ rfl rfl hl rfl (Nat.le_of_ble_eq_true rfl) dX3_isUsableAt_11 ⟨Nat.le_of_ble_eq_true rfl, Nat.le_of_ble_eq_true rfl⟩ (fun r u H locs w3 h => ?_)
    obtain ⟨rfl, rfl⟩ := w3
    refine lv_if_eq (tgt := 21) C.x C.b dX3_isUsableAt_14 (by decide) (fun c4 => ?_) (fun c4 => ?_)
    · skip
      refine lv_iconst (v := 0) C.x C.b dX3_isUsableAt_21 (by decide) ?_
      exact rtI C h hr rfl dX3_isUsableAt_22 (Eq.mp (congrArg (fun z => post z σ) ((if_pos c2).trans (if_pos c4))) hp)
    · skip
      refine lv_iconst (v := 1) C.x C.b dX3_isUsableAt_17 (by decide) ?_
      refine lv_goto (tgt := 22) C.x C.b dX3_isUsableAt_18 (by decide) ?_
      exact rtI C h hr rfl dX3_isUsableAt_22 (Eq.mp (congrArg (fun z => post z σ) ((if_pos c2).trans (if_neg c4))) hp)
theorem M_X3_isUsableAt (l : Launch) (D : va_G) (E : En) (σ : St) (ok : OK E σ) (p1 : Int32) : CO l yX3_isUsableAt cX3_isUsableAt 3 (some .boolean) rm_X3_isUsableAt [.ref (ead E 2), .int p1, .ref (ead E 1)] D E σ (fun A => va_Qi (fun r u => (S_X3_isUsableAt σ p1) = r ∧ σ = u) (POB D E A) A) 0 0 :=
  CO.of RX3 (by decide +kernel) rfl (Nat.le_of_ble_eq_true rfl) (fun p e s m below meth c A ls C h hr hl => K_X3_isUsableAt_0 C ok h hr hl ⟨rfl, rfl⟩)
-- X3_plough plough()V
theorem cw_X3_50 : CWd RX3 50 yX4_ploughUpTo cX4_ploughUpTo 3 (some .int) 1 := ⟨m_ml_X3_50, m_co_X4_ploughUpTo, m_ini_X4, by decide +kernel, by decide +kernel⟩
theorem cw_X3_57 : CWd RX3 57 yX4_wetIfBare cX4_wetIfBare 1 none 0 := ⟨m_ml_X3_57, m_co_X4_wetIfBare, m_ini_X4, by decide +kernel, by decide +kernel⟩
abbrev rm_X3_plough : Room := { frames := 2, cells := 0, slots := 0, locals := 43 }
def S_X3_plough_10 : Nat → St → Int32 → Nat → St
  | 0, σ, _, _ => σ
  | n + 1, σ, v1, j2 => if 3 ≤ (nI j2) then σ else S_X3_plough_10 n (S_X4_wetIfBare (up2 (S_X4_ploughUpTo σ j2 v1).2 8 0 (((S_X4_ploughUpTo σ j2 v1).2 8 0) + ((S_X4_ploughUpTo σ j2 v1).1))) j2) (v1 - ((S_X4_ploughUpTo σ j2 v1).1)) (j2 + 1)
theorem S_X3_plough_10_s (n : Nat) (σ : St) (v1 : Int32) (j2 : Nat) : S_X3_plough_10 (n + 1) σ v1 j2 = if 3 ≤ (nI j2) then σ else S_X3_plough_10 n (S_X4_wetIfBare (up2 (S_X4_ploughUpTo σ j2 v1).2 8 0 (((S_X4_ploughUpTo σ j2 v1).2 8 0) + ((S_X4_ploughUpTo σ j2 v1).1))) j2) (v1 - ((S_X4_ploughUpTo σ j2 v1).1)) (j2 + 1) := rfl
set_option maxRecDepth 100000 in
set_option maxHeartbeats 4000000 in
theorem K_X3_plough_10 {p : Program} {l : Launch} {e : Env} {s : State} {m : MethodId} {args : Array Value} {below : List Frame} {meth : Method} {c : Code} {D : va_G} {E : En} {A : Nat → Prop} {post : St → Prop} (C : CX p s m meth c cX3_plough RX3 4 D E A) (hr : meth.sig.returnType = none) : ∀ (n : Nat) {σ : St} (ok : OK E σ) {v1 : Int32} {j2 : Nat} (hj : j2 + n = 4) (hb : j2 ≤ 3) {H : Heap} {locs : List Loc} (h : HW D E σ A s H locs) {ls : Array Slot} (hl : lv_has ls 4 [(0, .ref (ead E 2)), (1, .int v1), (2, .int (nI j2))]) (hp : post (S_X3_plough_10 n σ v1 j2)), W p l e rm_X3_plough s m args below meth c H locs 0 0 (MQ below (va_Qv post (POB D E A) A) args s 0 0 A) (F0 m 10 ls []) := by
  intro n
  induction n with
  | zero =>
    intro σ ok v1 j2 hj hb H locs h ls hl hp
    exfalso
    omega
  | succ n ih =>
    intro σ ok v1 j2 hj hb H locs h ls hl hp
    refine lv_iload_n C.x C.b dX3_plough_10 rfl (lv_at hl 2 rfl) ?_
    refine lv_aload_n C.x C.b dX3_plough_11 rfl (lv_at hl 0 rfl) ?_
    refine g_X3_17 C h dX3_plough_12 ?_
    refine an_3 C h dX3_plough_15 ?_
    refine lv_icmp_ge (tgt := 59) C.x C.b dX3_plough_16 (by decide) (fun c1 => ?_) (fun c1 => ?_)
    · skip
      exact rtV C h hr dX3_plough_59 (Eq.mp (congrArg (fun z => post z) ((S_X3_plough_10_s n σ v1 j2).trans (if_pos c1))) hp)
    · skip
      have h2 : j2 < 3 := lt_of_nle (by omega) (by decide) c1
      refine lv_aload_n C.x C.b dX3_plough_19 rfl (lv_at hl 0 rfl) ?_
      refine g_X3_17 C h dX3_plough_20 ?_
      refine lv_iload_n C.x C.b dX3_plough_23 rfl (lv_at hl 2 rfl) ?_
      refine aln_3 C h h2 dX3_plough_24 ?_
      refine lv_iload_n C.x C.b dX3_plough_25 rfl (lv_at hl 1 rfl) ?_
      refine caVi (As := [.int v1]) (rest := []) (q0 := 4 + j2) (ci := 4) C h (M_X4_ploughUpTo l D E _ ok j2 h2 v1) cw_X3_50 m_im_X4_ploughUpTo m_se_X4_ploughUpTo rfl rfl ⟨Nat.le_of_ble_eq_true rfl, Nat.le_of_ble_eq_true rfl⟩ (wd_t _ h2) rfl hl rfl (Nat.le_of_ble_eq_true rfl) dX3_plough_26 ⟨Nat.le_of_ble_eq_true rfl, Nat.le_of_ble_eq_true rfl⟩ (fun r u H locs w2 h => ?_)
      obtain ⟨rfl, rfl⟩ := w2
      refine lv_istore_n (lv' := [(3, .int ((S_X4_ploughUpTo σ j2 v1).1)), (0, .ref (ead E 2)), (1, .int v1), (2, .int (nI j2))]) C.x C.b dX3_plough_29 rfl hl (by decide) rfl (fun ls hl => ?_)
      refine lv_iload_n C.x C.b dX3_plough_30 rfl (lv_at hl 2 rfl) ?_
      refine lv_iload_n C.x C.b dX3_plough_31 rfl (lv_at hl 0 rfl) ?_
      refine lv_isub C.x C.b dX3_plough_32 ?_
      refine lv_istore_n (lv' := [(1, .int (v1 - ((S_X4_ploughUpTo σ j2 v1).1))), (3, .int ((S_X4_ploughUpTo σ j2 v1).1)), (0, .ref (ead E 2)), (2, .int (nI j2))]) C.x C.b dX3_plough_33 rfl hl (by decide) rfl (fun ls hl => ?_)
      refine lv_aload_n C.x C.b dX3_plough_34 rfl (lv_at hl 2 rfl) ?_
      refine lv_dup C.x C.b dX3_plough_35 rfl ?_
      refine g_X3_54 C h dX3_plough_36 ?_
      refine lv_iload_n C.x C.b dX3_plough_39 rfl (lv_at hl 1 rfl) ?_
      refine lv_iadd C.x C.b dX3_plough_40 ?_
      refine p_X3_54 C h dX3_plough_41 (fun H locs h => ?_)
      refine lv_aload_n C.x C.b dX3_plough_44 rfl (lv_at hl 2 rfl) ?_
      refine g_X3_17 C h dX3_plough_45 ?_
      refine lv_iload_n C.x C.b dX3_plough_48 rfl (lv_at hl 3 rfl) ?_
      refine aln_3 C h h2 dX3_plough_49 ?_
      refine caVv (As := []) (rest := []) (q0 := 4 + j2) (ci := 4) C h (M_X4_wetIfBare l D E _ ((S_X4_ploughUpTo_ok ok j2 v1).up (by decide) _ _) j2 h2) cw_X3_57 m_im_X4_wetIfBare m_se_X4_wetIfBare rfl rfl ⟨Nat.le_of_ble_eq_true rfl, Nat.le_of_ble_eq_true rfl⟩ (wd_t _ h2) rfl hl rfl (Nat.le_of_ble_eq_true rfl) dX3_plough_50 ⟨Nat.le_of_ble_eq_true rfl, Nat.le_of_ble_eq_true rfl⟩ (fun u H locs w3 h => ?_)
      subst w3
      refine lv_iinc (v := nI (j2 + 1)) (lv' := [(2, .int (nI (j2 + 1))), (1, .int (v1 - ((S_X4_ploughUpTo σ j2 v1).1))), (3, .int ((S_X4_ploughUpTo σ j2 v1).1)), (0, .ref (ead E 2))]) C.x C.b dX3_plough_53 hl (k := 3) rfl (nI_1 _) (by decide) rfl (fun ls hl => ?_)
      refine lv_goto (tgt := 10) C.x C.b dX3_plough_56 (by decide) ?_
      exact ih (v1 := (v1 - ((S_X4_ploughUpTo σ j2 v1).1))) (j2 := j2 + 1) (S_X4_wetIfBare_ok ((S_X4_ploughUpTo_ok ok j2 v1).up (by decide) _ _) j2) (by omega) (by omega) h (lv_sub hl [3, 1, 0] rfl) (Eq.mp (congrArg (fun z => post z) ((S_X3_plough_10_s n σ v1 j2).trans (if_neg c1))) hp)
def S_X3_plough (σ : St) : St := S_X3_plough_10 4 σ ((σ 7 0) * 40) 0
set_option maxRecDepth 100000 in
set_option maxHeartbeats 4000000 in
theorem K_X3_plough_0 {p : Program} {l : Launch} {e : Env} {s : State} {m : MethodId} {args : Array Value} {below : List Frame} {meth : Method} {c : Code} {D : va_G} {E : En} {A : Nat → Prop} {post : St → Prop} (C : CX p s m meth c cX3_plough RX3 4 D E A) {σ : St} (ok : OK E σ) {H : Heap} {locs : List Loc} (h : HW D E σ A s H locs) (hr : meth.sig.returnType = none) {ls : Array Slot} (hl : lv_has ls 4 [(0, .ref (ead E 2))]) (hp : post (S_X3_plough σ)) : W p l e rm_X3_plough s m args below meth c H locs 0 0 (MQ below (va_Qv post (POB D E A) A) args s 0 0 A) (F0 m 0 ls []) := by
  refine lv_aload_n C.x C.b dX3_plough_0 rfl (lv_at hl 0 rfl) ?_
  refine g_X3_47 C h dX3_plough_1 ?_
  refine lv_bipush (v := 40) C.x C.b dX3_plough_4 (by decide) ?_
  refine lv_imul C.x C.b dX3_plough_6 ?_
  refine lv_istore_n (lv' := [(1, .int ((σ 7 0) * 40)), (0, .ref (ead E 2))]) C.x C.b dX3_plough_7 rfl hl (by decide) rfl (fun ls hl => ?_)
  refine lv_iconst (v := 0) C.x C.b dX3_plough_8 (by decide) ?_
  refine lv_istore_n (lv' := [(2, .int 0), (1, .int ((σ 7 0) * 40)), (0, .ref (ead E 2))]) C.x C.b dX3_plough_9 rfl hl (by decide) rfl (fun ls hl => ?_)
  exact K_X3_plough_10 C hr 4 (v1 := ((σ 7 0) * 40)) (j2 := 0) ok (by omega) (by omega) h (lv_sub hl [2, 1, 0] rfl) hp
theorem M_X3_plough (l : Launch) (D : va_G) (E : En) (σ : St) (ok : OK E σ) : CO l yX3_plough cX3_plough 4 none rm_X3_plough [.ref (ead E 2)] D E σ (fun A => va_Qv (fun u => (S_X3_plough σ) = u) (POB D E A) A) 0 0 :=
  CO.of RX3 (by decide +kernel) rfl (Nat.le_of_ble_eq_true rfl) (fun p e s m below meth c A ls C h hr hl => K_X3_plough_0 C ok h hr hl rfl)
theorem S_X3_plough_10_fr {f i : Nat} : ∀ (n : Nat) (σ : St) (v1 : Int32) (j2 : Nat) (hf : ∀ w ∈ [8, 9, 10], f ≠ w), (S_X3_plough_10 n σ v1 j2) f i = σ f i
  | 0, σ, v1, j2, hf => rfl
  | n + 1, σ, v1, j2, hf => by
    rw [S_X3_plough_10_s]
    (repeat' split) <;> first | with_reducible rfl | (simp only [S_X3_plough_10_fr n _ _ _ hf, up2_f (hf 8 (by decide)), up2_f (hf 9 (by decide)), up2_f (hf 10 (by decide)), S_X4_ploughUpTo_fr _ _ _ (fun w hw => hf w ((by decide : ∀ w ∈ [10], w ∈ [8, 9, 10]) w hw)), S_X4_wetIfBare_fr _ _ (fun w hw => hf w ((by decide : ∀ w ∈ [9], w ∈ [8, 9, 10]) w hw))]; done)
theorem S_X3_plough_fr {f i : Nat} (σ : St) (hf : ∀ w ∈ [8, 9, 10], f ≠ w) : (S_X3_plough σ) f i = σ f i := by
  unfold S_X3_plough
  (repeat' split) <;> first | with_reducible rfl | (simp only [up2_f (hf 8 (by decide)), up2_f (hf 9 (by decide)), up2_f (hf 10 (by decide)), S_X4_ploughUpTo_fr _ _ _ (fun w hw => hf w ((by decide : ∀ w ∈ [10], w ∈ [8, 9, 10]) w hw)), S_X4_wetIfBare_fr _ _ (fun w hw => hf w ((by decide : ∀ w ∈ [9], w ∈ [8, 9, 10]) w hw)), S_X3_plough_10_fr _ _ _ _ hf]; done)
theorem S_X3_plough_ok {E : En} {σ : St} (ok : OK E σ) : OK E (S_X3_plough σ) :=
  ok.of_fr (fun f i hf => S_X3_plough_fr σ (fun w hw q => absurd (show w ∈ [1, 3, 33, 43, 55, 66] by rw [← q]; exact hf) ((by decide : ∀ w ∈ [8, 9, 10], w ∉ [1, 3, 33, 43, 55, 66]) w hw)))
-- X3_liveMinute liveMinute(ILIcePad$Weather;)V
theorem cw_X3_40 : CWd RX3 40 yX4_liveMinute cX4_liveMinute 4 none 2 := ⟨m_ml_X3_40, m_co_X4_liveMinute, m_ini_X4, by decide +kernel, by decide +kernel⟩
theorem cw_X3_44 : CWd RX3 44 yX3_plough cX3_plough 4 none 0 := ⟨m_ml_X3_44, m_co_X3_plough, m_ini_X3, by decide +kernel, by decide +kernel⟩
abbrev rm_X3_liveMinute : Room := { frames := 4, cells := 0, slots := 0, locals := 87 }
def S_X3_liveMinute_28 (σ : St) (p1 : Int32) : St := if (S_X3_isClosedAt σ p1) = 0 then σ else (S_X3_plough σ)
set_option maxRecDepth 100000 in
set_option maxHeartbeats 4000000 in
theorem K_X3_liveMinute_28 {p : Program} {l : Launch} {e : Env} {s : State} {m : MethodId} {args : Array Value} {below : List Frame} {meth : Method} {c : Code} {D : va_G} {E : En} {A : Nat → Prop} {post : St → Prop} (C : CX p s m meth c cX3_liveMinute RX3 4 D E A) {σ : St} (ok : OK E σ) {p1 : Int32} {H : Heap} {locs : List Loc} (h : HW D E σ A s H locs) (hr : meth.sig.returnType = none) {ls : Array Slot} (hl : lv_has ls 4 [(0, .ref (ead E 2)), (1, .int p1), (2, .ref (ead E 1))]) (hp : post (S_X3_liveMinute_28 σ p1)) : W p l e rm_X3_liveMinute s m args below meth c H locs 0 0 (MQ below (va_Qv post (POB D E A) A) args s 0 0 A) (F0 m 28 ls []) := by
  refine lv_aload_n C.x C.b dX3_liveMinute_28 rfl (lv_at hl 0 rfl) ?_
  refine lv_iload_n C.x C.b dX3_liveMinute_29 rfl (lv_at hl 1 rfl) ?_
  refine caVi (As := [.int p1]) (rest := []) (q0 := 2) (ci := 3) C h (M_X3_isClosedAt l D E _ ok p1) cw_X3_32 m_im_X3_isClosedAt m_se_X3_isClosedAt rfl rfl ⟨Nat.le_of_ble_eq_true rfl, Nat.le_of_ble_eq_true rfl⟩ rfl rfl hl rfl (Nat.le_of_ble_eq_true rfl) dX3_liveMinute_30 ⟨Nat.le_of_ble_eq_true rfl, Nat.le_of_ble_eq_true rfl⟩ (fun r u H locs w1 h => ?_)
  obtain ⟨rfl, rfl⟩ := w1
  refine lv_if_eq (tgt := 40) C.x C.b dX3_liveMinute_33 (by decide) (fun c2 => ?_) (fun c2 => ?_)
  · skip
    exact rtV C h hr dX3_liveMinute_40 (Eq.mp (congrArg (fun z => post z) (if_pos c2)) hp)
  · skip
    refine lv_aload_n C.x C.b dX3_liveMinute_36 rfl (lv_at hl 0 rfl) ?_
    refine caVv (As := []) (rest := []) (q0 := 2) (ci := 3) C h (M_X3_plough l D E _ ok) cw_X3_44 m_im_X3_plough m_se_X3_plough rfl rfl ⟨Nat.le_of_ble_eq_true rfl, Nat.le_of_ble_eq_true rfl⟩ rfl rfl hl rfl (Nat.le_of_ble_eq_true rfl) dX3_liveMinute_37 ⟨Nat.le_of_ble_eq_true rfl, Nat.le_of_ble_eq_true rfl⟩ (fun u H locs w3 h => ?_)
    subst w3
    exact rtV C h hr dX3_liveMinute_40 (Eq.mp (congrArg (fun z => post z) (if_neg c2)) hp)
def S_X3_liveMinute_2 : Nat → St → Int32 → Nat → St
  | 0, σ, _, _ => σ
  | n + 1, σ, p1, j3 => if 3 ≤ (nI j3) then S_X3_liveMinute_28 σ p1 else S_X3_liveMinute_2 n (S_X4_liveMinute σ j3 p1) p1 (j3 + 1)
theorem S_X3_liveMinute_2_s (n : Nat) (σ : St) (p1 : Int32) (j3 : Nat) : S_X3_liveMinute_2 (n + 1) σ p1 j3 = if 3 ≤ (nI j3) then S_X3_liveMinute_28 σ p1 else S_X3_liveMinute_2 n (S_X4_liveMinute σ j3 p1) p1 (j3 + 1) := rfl
set_option maxRecDepth 100000 in
set_option maxHeartbeats 4000000 in
theorem K_X3_liveMinute_2 {p : Program} {l : Launch} {e : Env} {s : State} {m : MethodId} {args : Array Value} {below : List Frame} {meth : Method} {c : Code} {D : va_G} {E : En} {A : Nat → Prop} {post : St → Prop} (C : CX p s m meth c cX3_liveMinute RX3 4 D E A) (hr : meth.sig.returnType = none) {p1 : Int32} : ∀ (n : Nat) {σ : St} (ok : OK E σ) {j3 : Nat} (hj : j3 + n = 4) (hb : j3 ≤ 3) {H : Heap} {locs : List Loc} (h : HW D E σ A s H locs) {ls : Array Slot} (hl : lv_has ls 4 [(0, .ref (ead E 2)), (1, .int p1), (2, .ref (ead E 1)), (3, .int (nI j3))]) (hp : post (S_X3_liveMinute_2 n σ p1 j3)), W p l e rm_X3_liveMinute s m args below meth c H locs 0 0 (MQ below (va_Qv post (POB D E A) A) args s 0 0 A) (F0 m 2 ls []) := by
  intro n
  induction n with
  | zero =>
    intro σ ok j3 hj hb H locs h ls hl hp
    exfalso
    omega
  | succ n ih =>
    intro σ ok j3 hj hb H locs h ls hl hp
    refine lv_iload_n C.x C.b dX3_liveMinute_2 rfl (lv_at hl 3 rfl) ?_
    refine lv_aload_n C.x C.b dX3_liveMinute_3 rfl (lv_at hl 0 rfl) ?_
    refine g_X3_17 C h dX3_liveMinute_4 ?_
    refine an_3 C h dX3_liveMinute_7 ?_
    refine lv_icmp_ge (tgt := 28) C.x C.b dX3_liveMinute_8 (by decide) (fun c1 => ?_) (fun c1 => ?_)
    · skip
      exact K_X3_liveMinute_28 C ok h hr (lv_sub hl [0, 1, 2] rfl) (Eq.mp (congrArg (fun z => post z) ((S_X3_liveMinute_2_s n σ p1 j3).trans (if_pos c1))) hp)
    · skip
      have h3 : j3 < 3 := lt_of_nle (by omega) (by decide) c1
      refine lv_aload_n C.x C.b dX3_liveMinute_11 rfl (lv_at hl 0 rfl) ?_
      refine g_X3_17 C h dX3_liveMinute_12 ?_
      refine lv_iload_n C.x C.b dX3_liveMinute_15 rfl (lv_at hl 3 rfl) ?_
      refine aln_3 C h h3 dX3_liveMinute_16 ?_
      refine lv_iload_n C.x C.b dX3_liveMinute_17 rfl (lv_at hl 1 rfl) ?_
      refine lv_aload_n C.x C.b dX3_liveMinute_18 rfl (lv_at hl 2 rfl) ?_
      refine caVv (As := [.int p1, .ref (ead E 1)]) (rest := []) (q0 := 4 + j3) (ci := 4) C h (M_X4_liveMinute l D E _ ok j3 h3 p1) cw_X3_40 m_im_X4_liveMinute m_se_X4_liveMinute rfl rfl ⟨Nat.le_of_ble_eq_true rfl, Nat.le_of_ble_eq_true rfl⟩ (wd_t _ h3) rfl hl rfl (Nat.le_of_ble_eq_true rfl) dX3_liveMinute_19 ⟨Nat.le_of_ble_eq_true rfl, Nat.le_of_ble_eq_true rfl⟩ (fun u H locs w2 h => ?_)
      subst w2
      refine lv_iinc (v := nI (j3 + 1)) (lv' := [(3, .int (nI (j3 + 1))), (0, .ref (ead E 2)), (1, .int p1), (2, .ref (ead E 1))]) C.x C.b dX3_liveMinute_22 hl (k := 3) rfl (nI_1 _) (by decide) rfl (fun ls hl => ?_)
      refine lv_goto (tgt := 2) C.x C.b dX3_liveMinute_25 (by decide) ?_
      exact ih (j3 := j3 + 1) (S_X4_liveMinute_ok ok j3 p1) (by omega) (by omega) h (lv_sub hl [1, 2, 3, 0] rfl) (Eq.mp (congrArg (fun z => post z) ((S_X3_liveMinute_2_s n σ p1 j3).trans (if_neg c1))) hp)
def S_X3_liveMinute (σ : St) (p1 : Int32) : St := S_X3_liveMinute_2 4 σ p1 0
set_option maxRecDepth 100000 in
set_option maxHeartbeats 4000000 in
theorem K_X3_liveMinute_0 {p : Program} {l : Launch} {e : Env} {s : State} {m : MethodId} {args : Array Value} {below : List Frame} {meth : Method} {c : Code} {D : va_G} {E : En} {A : Nat → Prop} {post : St → Prop} (C : CX p s m meth c cX3_liveMinute RX3 4 D E A) {σ : St} (ok : OK E σ) {p1 : Int32} {H : Heap} {locs : List Loc} (h : HW D E σ A s H locs) (hr : meth.sig.returnType = none) {ls : Array Slot} (hl : lv_has ls 4 [(0, .ref (ead E 2)), (1, .int p1), (2, .ref (ead E 1))]) (hp : post (S_X3_liveMinute σ p1)) : W p l e rm_X3_liveMinute s m args below meth c H locs 0 0 (MQ below (va_Qv post (POB D E A) A) args s 0 0 A) (F0 m 0 ls []) := by
  refine lv_iconst (v := 0) C.x C.b dX3_liveMinute_0 (by decide) ?_
  refine lv_istore_n (lv' := [(3, .int 0), (0, .ref (ead E 2)), (1, .int p1), (2, .ref (ead E 1))]) C.x C.b dX3_liveMinute_1 rfl hl (by decide) rfl (fun ls hl => ?_)
  exact K_X3_liveMinute_2 C hr 4 (j3 := 0) ok (by omega) (by omega) h (lv_sub hl [1, 2, 3, 0] rfl) hp
theorem M_X3_liveMinute (l : Launch) (D : va_G) (E : En) (σ : St) (ok : OK E σ) (p1 : Int32) : CO l yX3_liveMinute cX3_liveMinute 4 none rm_X3_liveMinute [.ref (ead E 2), .int p1, .ref (ead E 1)] D E σ (fun A => va_Qv (fun u => (S_X3_liveMinute σ p1) = u) (POB D E A) A) 0 0 :=
  CO.of RX3 (by decide +kernel) rfl (Nat.le_of_ble_eq_true rfl) (fun p e s m below meth c A ls C h hr hl => K_X3_liveMinute_0 C ok h hr hl rfl)
theorem S_X3_liveMinute_28_fr {f i : Nat} (σ : St) (p1 : Int32) (hf : ∀ w ∈ [8, 9, 10], f ≠ w) : (S_X3_liveMinute_28 σ p1) f i = σ f i := by
  unfold S_X3_liveMinute_28
  (repeat' split) <;> first | with_reducible rfl | (simp only [up2_f (hf 8 (by decide)), up2_f (hf 9 (by decide)), up2_f (hf 10 (by decide)), S_X3_plough_fr _  (fun w hw => hf w ((by decide : ∀ w ∈ [8, 9, 10], w ∈ [8, 9, 10]) w hw)), S_X4_liveMinute_fr _ _ _ (fun w hw => hf w ((by decide : ∀ w ∈ [9, 10], w ∈ [8, 9, 10]) w hw))]; done)
theorem S_X3_liveMinute_2_fr {f i : Nat} : ∀ (n : Nat) (σ : St) (p1 : Int32) (j3 : Nat) (hf : ∀ w ∈ [8, 9, 10], f ≠ w), (S_X3_liveMinute_2 n σ p1 j3) f i = σ f i
  | 0, σ, p1, j3, hf => rfl
  | n + 1, σ, p1, j3, hf => by
    rw [S_X3_liveMinute_2_s]
    (repeat' split) <;> first | with_reducible rfl | (simp only [S_X3_liveMinute_2_fr n _ _ _ hf, up2_f (hf 8 (by decide)), up2_f (hf 9 (by decide)), up2_f (hf 10 (by decide)), S_X3_plough_fr _  (fun w hw => hf w ((by decide : ∀ w ∈ [8, 9, 10], w ∈ [8, 9, 10]) w hw)), S_X4_liveMinute_fr _ _ _ (fun w hw => hf w ((by decide : ∀ w ∈ [9, 10], w ∈ [8, 9, 10]) w hw)), S_X3_liveMinute_28_fr _ _ hf]; done)
theorem S_X3_liveMinute_fr {f i : Nat} (σ : St) (p1 : Int32) (hf : ∀ w ∈ [8, 9, 10], f ≠ w) : (S_X3_liveMinute σ p1) f i = σ f i := by
  unfold S_X3_liveMinute
  (repeat' split) <;> first | with_reducible rfl | (simp only [up2_f (hf 8 (by decide)), up2_f (hf 9 (by decide)), up2_f (hf 10 (by decide)), S_X3_plough_fr _  (fun w hw => hf w ((by decide : ∀ w ∈ [8, 9, 10], w ∈ [8, 9, 10]) w hw)), S_X4_liveMinute_fr _ _ _ (fun w hw => hf w ((by decide : ∀ w ∈ [9, 10], w ∈ [8, 9, 10]) w hw)), S_X3_liveMinute_28_fr _ _ hf, S_X3_liveMinute_2_fr _ _ _ _ hf]; done)
theorem S_X3_liveMinute_ok {E : En} {σ : St} (ok : OK E σ) (p1 : Int32) : OK E (S_X3_liveMinute σ p1) :=
  ok.of_fr (fun f i hf => S_X3_liveMinute_fr σ p1 (fun w hw q => absurd (show w ∈ [1, 3, 33, 43, 55, 66] by rw [← q]; exact hf) ((by decide : ∀ w ∈ [8, 9, 10], w ∉ [1, 3, 33, 43, 55, 66]) w hw)))
-- X1_riverOn riverOn(I)I
abbrev rm_X1_riverOn : Room := { frames := 0, cells := 0, slots := 0, locals := 0 }
def S_X1_riverOn (σ : St) (p1 : Int32) : Int32 := if p1 = (σ 23 0) then (σ 24 0) else 0
set_option maxRecDepth 100000 in
set_option maxHeartbeats 4000000 in
theorem K_X1_riverOn_0 {p : Program} {l : Launch} {e : Env} {s : State} {m : MethodId} {args : Array Value} {below : List Frame} {meth : Method} {c : Code} {D : va_G} {E : En} {A : Nat → Prop} {post : Int32 → St → Prop} (C : CX p s m meth c cX1_riverOn RX1 2 D E A) {σ : St} (ok : OK E σ) {p1 : Int32} {H : Heap} {locs : List Loc} (h : HW D E σ A s H locs) (hr : meth.sig.returnType = some .int) {ls : Array Slot} (hl : lv_has ls 2 [(0, .ref (ead E 13)), (1, .int p1)]) (hp : post (S_X1_riverOn σ p1) σ) : W p l e rm_X1_riverOn s m args below meth c H locs 0 0 (MQ below (va_Qi post (POB D E A) A) args s 0 0 A) (F0 m 0 ls []) := by
  refine lv_iload_n C.x C.b dX1_riverOn_0 rfl (lv_at hl 1 rfl) ?_
  refine lv_aload_n C.x C.b dX1_riverOn_1 rfl (lv_at hl 0 rfl) ?_
  refine g_X1_15 C h dX1_riverOn_2 ?_
  refine lv_icmp_ne (tgt := 15) C.x C.b dX1_riverOn_5 (by decide) (fun c1 => ?_) (fun c1 => ?_)
  · skip
    refine lv_iconst (v := 0) C.x C.b dX1_riverOn_15 (by decide) ?_
    exact rtI C h hr rfl dX1_riverOn_16 (Eq.mp (congrArg (fun z => post z σ) (if_neg c1)) hp)
  · skip
    refine lv_aload_n C.x C.b dX1_riverOn_8 rfl (lv_at hl 0 rfl) ?_
    refine g_X1_18 C h dX1_riverOn_9 ?_
    refine lv_goto (tgt := 16) C.x C.b dX1_riverOn_12 (by decide) ?_
    exact rtI C h hr rfl dX1_riverOn_16 (Eq.mp (congrArg (fun z => post z σ) (if_pos c1)) hp)
theorem M_X1_riverOn (l : Launch) (D : va_G) (E : En) (σ : St) (ok : OK E σ) (p1 : Int32) : CO l yX1_riverOn cX1_riverOn 2 (some .int) rm_X1_riverOn [.ref (ead E 13), .int p1] D E σ (fun A => va_Qi (fun r u => (S_X1_riverOn σ p1) = r ∧ σ = u) (POB D E A) A) 0 0 :=
  CO.of RX1 (by decide +kernel) rfl (Nat.le_of_ble_eq_true rfl) (fun p e s m below meth c A ls C h hr hl => K_X1_riverOn_0 C ok h hr hl ⟨rfl, rfl⟩)
-- X1_cleanMinute cleanMinute()V
abbrev rm_X1_cleanMinute : Room := { frames := 1, cells := 0, slots := 0, locals := 21 }
def S_X1_cleanMinute (σ : St) : St := (up2 (up2 σ 19 0 ((σ 19 0) - (if 3 < (σ 19 0) then 3 else (σ 19 0)))) 20 0 ((σ 20 0) + (if 3 < (σ 19 0) then 3 else (σ 19 0))))
set_option maxRecDepth 100000 in
set_option maxHeartbeats 4000000 in
theorem K_X1_cleanMinute_0 {p : Program} {l : Launch} {e : Env} {s : State} {m : MethodId} {args : Array Value} {below : List Frame} {meth : Method} {c : Code} {D : va_G} {E : En} {A : Nat → Prop} {post : St → Prop} (C : CX p s m meth c cX1_cleanMinute RX1 2 D E A) {σ : St} (ok : OK E σ) {H : Heap} {locs : List Loc} (h : HW D E σ A s H locs) (hr : meth.sig.returnType = none) {ls : Array Slot} (hl : lv_has ls 2 [(0, .ref (ead E 13))]) (hp : post (S_X1_cleanMinute σ)) : W p l e rm_X1_cleanMinute s m args below meth c H locs 0 0 (MQ below (va_Qv post (POB D E A) A) args s 0 0 A) (F0 m 0 ls []) := by
  refine lv_aload_n C.x C.b dX1_cleanMinute_0 rfl (lv_at hl 0 rfl) ?_
  refine g_X1_21 C h dX1_cleanMinute_1 ?_
  refine lv_iconst (v := 3) C.x C.b dX1_cleanMinute_4 (by decide) ?_
  refine va_mmin C.x C.b (C.ml.trans hl.1.symm) C.ow (C.w _ m_ml_X1_24) (C.w _ m_st_Lib_Math_min_name) (C.w _ m_ini__java_lang_Math_) (C.w _ m_co_Lib_Math_min_name) (Nat.le_of_ble_eq_true rfl) (Nat.le_of_ble_eq_true rfl) (Nat.le_of_ble_eq_true rfl) (Nat.le_of_ble_eq_true rfl) dX1_cleanMinute_5 ?_
  refine lv_istore_n (lv' := [(1, .int (if 3 < (σ 19 0) then 3 else (σ 19 0))), (0, .ref (ead E 13))]) C.x C.b dX1_cleanMinute_8 rfl hl (by decide) rfl (fun ls hl => ?_)
  refine lv_aload_n C.x C.b dX1_cleanMinute_9 rfl (lv_at hl 1 rfl) ?_
  refine lv_dup C.x C.b dX1_cleanMinute_10 rfl ?_
  refine g_X1_21 C h dX1_cleanMinute_11 ?_
  refine lv_iload_n C.x C.b dX1_cleanMinute_14 rfl (lv_at hl 0 rfl) ?_
  refine lv_isub C.x C.b dX1_cleanMinute_15 ?_
  refine p_X1_21 C h dX1_cleanMinute_16 (fun H locs h => ?_)
  refine lv_aload_n C.x C.b dX1_cleanMinute_19 rfl (lv_at hl 1 rfl) ?_
  refine lv_dup C.x C.b dX1_cleanMinute_20 rfl ?_
  refine g_X1_30 C h dX1_cleanMinute_21 ?_
  refine lv_iload_n C.x C.b dX1_cleanMinute_24 rfl (lv_at hl 0 rfl) ?_
  refine lv_iadd C.x C.b dX1_cleanMinute_25 ?_
  refine p_X1_30 C h dX1_cleanMinute_26 (fun H locs h => ?_)
  exact rtV C h hr dX1_cleanMinute_29 hp
theorem M_X1_cleanMinute (l : Launch) (D : va_G) (E : En) (σ : St) (ok : OK E σ) : CO l yX1_cleanMinute cX1_cleanMinute 2 none rm_X1_cleanMinute [.ref (ead E 13)] D E σ (fun A => va_Qv (fun u => (S_X1_cleanMinute σ) = u) (POB D E A) A) 0 0 :=
  CO.of RX1 (by decide +kernel) rfl (Nat.le_of_ble_eq_true rfl) (fun p e s m below meth c A ls C h hr hl => K_X1_cleanMinute_0 C ok h hr hl rfl)
theorem S_X1_cleanMinute_fr {f i : Nat} (σ : St) (hf : ∀ w ∈ [19, 20], f ≠ w) : (S_X1_cleanMinute σ) f i = σ f i := by
  unfold S_X1_cleanMinute
  (repeat' split) <;> first | with_reducible rfl | (simp only [up2_f (hf 19 (by decide)), up2_f (hf 20 (by decide))]; done)
theorem S_X1_cleanMinute_ok {E : En} {σ : St} (ok : OK E σ) : OK E (S_X1_cleanMinute σ) :=
  ok.of_fr (fun f i hf => S_X1_cleanMinute_fr σ (fun w hw q => absurd (show w ∈ [1, 3, 33, 43, 55, 66] by rw [← q]; exact hf) ((by decide : ∀ w ∈ [19, 20], w ∉ [1, 3, 33, 43, 55, 66]) w hw)))
-- X2_inTanks inTanks()I
abbrev rm_X2_inTanks : Room := { frames := 0, cells := 0, slots := 0, locals := 0 }
def S_X2_inTanks_4 : Nat → St → Int32 → Nat → Int32
  | 0, _, _, _ => 0
  | n + 1, σ, v1, j2 => if 3 ≤ (nI j2) then v1 else S_X2_inTanks_4 n σ (v1 + (σ 14 j2)) (j2 + 1)
theorem S_X2_inTanks_4_s (n : Nat) (σ : St) (v1 : Int32) (j2 : Nat) : S_X2_inTanks_4 (n + 1) σ v1 j2 = if 3 ≤ (nI j2) then v1 else S_X2_inTanks_4 n σ (v1 + (σ 14 j2)) (j2 + 1) := rfl
set_option maxRecDepth 100000 in
set_option maxHeartbeats 4000000 in
theorem K_X2_inTanks_4 {p : Program} {l : Launch} {e : Env} {s : State} {m : MethodId} {args : Array Value} {below : List Frame} {meth : Method} {c : Code} {D : va_G} {E : En} {A : Nat → Prop} {post : Int32 → St → Prop} (C : CX p s m meth c cX2_inTanks RX2 3 D E A) (hr : meth.sig.returnType = some .int) : ∀ (n : Nat) {σ : St} (ok : OK E σ) {v1 : Int32} {j2 : Nat} (hj : j2 + n = 4) (hb : j2 ≤ 3) {H : Heap} {locs : List Loc} (h : HW D E σ A s H locs) {ls : Array Slot} (hl : lv_has ls 3 [(0, .ref (ead E 7)), (1, .int v1), (2, .int (nI j2))]) (hp : post (S_X2_inTanks_4 n σ v1 j2) σ), W p l e rm_X2_inTanks s m args below meth c H locs 0 0 (MQ below (va_Qi post (POB D E A) A) args s 0 0 A) (F0 m 4 ls []) := by
  intro n
  induction n with
  | zero =>
    intro σ ok v1 j2 hj hb H locs h ls hl hp
    exfalso
    omega
  | succ n ih =>
    intro σ ok v1 j2 hj hb H locs h ls hl hp
    refine lv_iload_n C.x C.b dX2_inTanks_4 rfl (lv_at hl 2 rfl) ?_
    refine lv_aload_n C.x C.b dX2_inTanks_5 rfl (lv_at hl 0 rfl) ?_
    refine g_X2_9 C h dX2_inTanks_6 ?_
    refine an_8 C h dX2_inTanks_9 ?_
    refine lv_icmp_ge (tgt := 28) C.x C.b dX2_inTanks_10 (by decide) (fun c1 => ?_) (fun c1 => ?_)
    · skip
      refine lv_iload_n C.x C.b dX2_inTanks_28 rfl (lv_at hl 1 rfl) ?_
      exact rtI C h hr rfl dX2_inTanks_29 (Eq.mp (congrArg (fun z => post z σ) ((S_X2_inTanks_4_s n σ v1 j2).trans (if_pos c1))) hp)
    · skip
      have h2 : j2 < 3 := lt_of_nle (by omega) (by decide) c1
      refine lv_iload_n C.x C.b dX2_inTanks_13 rfl (lv_at hl 1 rfl) ?_
      refine lv_aload_n C.x C.b dX2_inTanks_14 rfl (lv_at hl 0 rfl) ?_
      refine g_X2_9 C h dX2_inTanks_15 ?_
      refine lv_iload_n C.x C.b dX2_inTanks_18 rfl (lv_at hl 2 rfl) ?_
      refine aln_8 C h h2 dX2_inTanks_19 ?_
      refine lv_iadd C.x C.b dX2_inTanks_20 ?_
      refine lv_istore_n (lv' := [(1, .int (v1 + (σ 14 j2))), (0, .ref (ead E 7)), (2, .int (nI j2))]) C.x C.b dX2_inTanks_21 rfl hl (by decide) rfl (fun ls hl => ?_)
      refine lv_iinc (v := nI (j2 + 1)) (lv' := [(2, .int (nI (j2 + 1))), (1, .int (v1 + (σ 14 j2))), (0, .ref (ead E 7))]) C.x C.b dX2_inTanks_22 hl (k := 2) rfl (nI_1 _) (by decide) rfl (fun ls hl => ?_)
      refine lv_goto (tgt := 4) C.x C.b dX2_inTanks_25 (by decide) ?_
      exact ih (v1 := (v1 + (σ 14 j2))) (j2 := j2 + 1) ok (by omega) (by omega) h (lv_sub hl [2, 1, 0] rfl) (Eq.mp (congrArg (fun z => post z σ) ((S_X2_inTanks_4_s n σ v1 j2).trans (if_neg c1))) hp)
def S_X2_inTanks (σ : St) : Int32 := S_X2_inTanks_4 4 σ 0 0
set_option maxRecDepth 100000 in
set_option maxHeartbeats 4000000 in
theorem K_X2_inTanks_0 {p : Program} {l : Launch} {e : Env} {s : State} {m : MethodId} {args : Array Value} {below : List Frame} {meth : Method} {c : Code} {D : va_G} {E : En} {A : Nat → Prop} {post : Int32 → St → Prop} (C : CX p s m meth c cX2_inTanks RX2 3 D E A) {σ : St} (ok : OK E σ) {H : Heap} {locs : List Loc} (h : HW D E σ A s H locs) (hr : meth.sig.returnType = some .int) {ls : Array Slot} (hl : lv_has ls 3 [(0, .ref (ead E 7))]) (hp : post (S_X2_inTanks σ) σ) : W p l e rm_X2_inTanks s m args below meth c H locs 0 0 (MQ below (va_Qi post (POB D E A) A) args s 0 0 A) (F0 m 0 ls []) := by
  refine lv_iconst (v := 0) C.x C.b dX2_inTanks_0 (by decide) ?_
  refine lv_istore_n (lv' := [(1, .int 0), (0, .ref (ead E 7))]) C.x C.b dX2_inTanks_1 rfl hl (by decide) rfl (fun ls hl => ?_)
  refine lv_iconst (v := 0) C.x C.b dX2_inTanks_2 (by decide) ?_
  refine lv_istore_n (lv' := [(2, .int 0), (1, .int 0), (0, .ref (ead E 7))]) C.x C.b dX2_inTanks_3 rfl hl (by decide) rfl (fun ls hl => ?_)
  exact K_X2_inTanks_4 C hr 4 (v1 := 0) (j2 := 0) ok (by omega) (by omega) h (lv_sub hl [2, 1, 0] rfl) hp
theorem M_X2_inTanks (l : Launch) (D : va_G) (E : En) (σ : St) (ok : OK E σ) : CO l yX2_inTanks cX2_inTanks 3 (some .int) rm_X2_inTanks [.ref (ead E 7)] D E σ (fun A => va_Qi (fun r u => (S_X2_inTanks σ) = r ∧ σ = u) (POB D E A) A) 0 0 :=
  CO.of RX2 (by decide +kernel) rfl (Nat.le_of_ble_eq_true rfl) (fun p e s m below meth c A ls C h hr hl => K_X2_inTanks_0 C ok h hr hl ⟨rfl, rfl⟩)
-- X5_holdFactor holdFactor()D
abbrev rm_X5_holdFactor : Room := { frames := 0, cells := 0, slots := 0, locals := 0 }
def S_X5_holdFactor (σ : St) : UInt64 := if (σ 2 0) < (-30) then (if (σ 2 0) < (-100) then 4602678819172646912 else 4604930618986332160) else FP.dconst1
set_option maxRecDepth 100000 in
set_option maxHeartbeats 4000000 in
theorem K_X5_holdFactor_0 {p : Program} {l : Launch} {e : Env} {s : State} {m : MethodId} {args : Array Value} {below : List Frame} {meth : Method} {c : Code} {D : va_G} {E : En} {A : Nat → Prop} {post : UInt64 → St → Prop} (C : CX p s m meth c cX5_holdFactor RX5 1 D E A) {σ : St} (ok : OK E σ) {H : Heap} {locs : List Loc} (h : HW D E σ A s H locs) (hr : meth.sig.returnType = some .double) {ls : Array Slot} (hl : lv_has ls 1 [(0, .ref (ead E 1))]) (hp : post (S_X5_holdFactor σ) σ) : W p l e rm_X5_holdFactor s m args below meth c H locs 0 0 (MQ below (va_Qd post (POB D E A) A) args s 0 0 A) (F0 m 0 ls []) := by
  refine lv_aload_n C.x C.b dX5_holdFactor_0 rfl (lv_at hl 0 rfl) ?_
  refine g_X5_13 C h dX5_holdFactor_1 ?_
  refine lv_bipush (v := (-30)) C.x C.b dX5_holdFactor_4 (by decide) ?_
  refine lv_icmp_lt (tgt := 11) C.x C.b dX5_holdFactor_6 (by decide) (fun c1 => ?_) (fun c1 => ?_)
  · skip
    refine lv_aload_n C.x C.b dX5_holdFactor_11 rfl (lv_at hl 0 rfl) ?_
    refine g_X5_13 C h dX5_holdFactor_12 ?_
    refine lv_bipush (v := (-100)) C.x C.b dX5_holdFactor_15 (by decide) ?_
    refine lv_icmp_lt (tgt := 26) C.x C.b dX5_holdFactor_17 (by decide) (fun c2 => ?_) (fun c2 => ?_)
    · skip
      refine lv_ldc2d C.x C.b C.ow (C.w _ m_cd_X5_18) dX5_holdFactor_26 ?_
      exact rtD C h hr dX5_holdFactor_29 (Eq.mp (congrArg (fun z => post z σ) ((if_pos c1).trans (if_pos c2))) hp)
    · skip
      refine lv_ldc2d C.x C.b C.ow (C.w _ m_cd_X5_16) dX5_holdFactor_20 ?_
      refine lv_goto (tgt := 29) C.x C.b dX5_holdFactor_23 (by decide) ?_
      exact rtD C h hr dX5_holdFactor_29 (Eq.mp (congrArg (fun z => post z σ) ((if_pos c1).trans (if_neg c2))) hp)
  · skip
    refine lv_dconst1 C.x C.b dX5_holdFactor_9 ?_
    exact rtD C h hr dX5_holdFactor_10 (Eq.mp (congrArg (fun z => post z σ) (if_neg c1)) hp)
theorem M_X5_holdFactor (l : Launch) (D : va_G) (E : En) (σ : St) (ok : OK E σ) : CO l yX5_holdFactor cX5_holdFactor 1 (some .double) rm_X5_holdFactor [.ref (ead E 1)] D E σ (fun A => va_Qd (fun r u => (S_X5_holdFactor σ) = r ∧ σ = u) (POB D E A) A) 0 0 :=
  CO.of RX5 (by decide +kernel) rfl (Nat.le_of_ble_eq_true rfl) (fun p e s m below meth c A ls C h hr hl => K_X5_holdFactor_0 C ok h hr hl ⟨rfl, rfl⟩)
theorem hold_mag (σ : St) : (S_X5_holdFactor σ).toNat % 2 ^ 63 < 1024 * 2 ^ 52 := by
  unfold S_X5_holdFactor
  (repeat' split) <;> decide +kernel
-- X2_holdsFor holdsFor(IILIcePad$Weather;)D
theorem cw_X2_36 : CWd RX2 36 yX5_holdFactor cX5_holdFactor 1 (some .double) 0 := ⟨m_ml_X2_36, m_co_X5_holdFactor, m_ini_X5, by decide +kernel, by decide +kernel⟩
abbrev rm_X2_holdsFor : Room := { frames := 1, cells := 0, slots := 0, locals := 20 }
def S_X2_holdsFor (σ : St) (p1 : Int32) (p2 : Int32) : UInt64 := if (σ 3 0) = 0 then 4696837146684686336 else (FP.dmul (FP.dmul (FP.i2d (σ (15 + p1.toNatClampNeg) (σ 3 0).toNatClampNeg)) (FP.ddiv (FP.i2d p2) 4636737291354636288)) (S_X5_holdFactor σ))
set_option maxRecDepth 100000 in
set_option maxHeartbeats 4000000 in
theorem K_X2_holdsFor_0 {p : Program} {l : Launch} {e : Env} {s : State} {m : MethodId} {args : Array Value} {below : List Frame} {meth : Method} {c : Code} {D : va_G} {E : En} {A : Nat → Prop} {post : UInt64 → St → Prop} (C : CX p s m meth c cX2_holdsFor RX2 4 D E A) {σ : St} (ok : OK E σ) {p1 : Int32} {p2 : Int32} (hp1 : vp_in p1 3) {H : Heap} {locs : List Loc} (h : HW D E σ A s H locs) (hr : meth.sig.returnType = some .double) {ls : Array Slot} (hl : lv_has ls 4 [(0, .ref (ead E 7)), (1, .int p1), (2, .int p2), (3, .ref (ead E 1))]) (hp : post (S_X2_holdsFor σ p1 p2) σ) : W p l e rm_X2_holdsFor s m args below meth c H locs 0 0 (MQ below (va_Qd post (POB D E A) A) args s 0 0 A) (F0 m 0 ls []) := by
  refine lv_aload_n C.x C.b dX2_holdsFor_0 rfl (lv_at hl 3 rfl) ?_
  refine g_X2_26 C h dX2_holdsFor_1 ?_
  refine lv_if_ne (tgt := 11) C.x C.b dX2_holdsFor_4 (by decide) (fun c1 => ?_) (fun c1 => ?_)
  · skip
    refine lv_aload_n C.x C.b dX2_holdsFor_11 rfl (lv_at hl 0 rfl) ?_
    refine g_X2_17 C h dX2_holdsFor_12 ?_
    refine lv_iload_n C.x C.b dX2_holdsFor_15 rfl (lv_at hl 1 rfl) ?_
    refine al_9 C h hp1 dX2_holdsFor_16 ?_
    refine lv_aload_n C.x C.b dX2_holdsFor_17 rfl (lv_at hl 3 rfl) ?_
    refine g_X2_26 C h dX2_holdsFor_18 ?_
    refine al_r C h (vp_lt hp1) ok.2.2.2.1 dX2_holdsFor_21 ?_
    refine lv_i2d C.x C.b dX2_holdsFor_22 ?_
    refine lv_iload_n C.x C.b dX2_holdsFor_23 rfl (lv_at hl 2 rfl) ?_
    refine lv_i2d C.x C.b dX2_holdsFor_24 ?_
    refine lv_ldc2d C.x C.b C.ow (C.w _ m_cd_X2_34) dX2_holdsFor_25 ?_
    refine lv_ddiv C.x C.b dX2_holdsFor_28 (nan_of (mg_hundred _) (by decide)) ?_
    refine lv_dmul C.x C.b dX2_holdsFor_29 (nan_of (mg_table _ _) (by decide)) ?_
    refine lv_aload_n C.x C.b dX2_holdsFor_30 rfl (lv_at hl 3 rfl) ?_
    refine caVd (As := []) (rest := [.double (FP.dmul (FP.i2d (σ (15 + p1.toNatClampNeg) (σ 3 0).toNatClampNeg)) (FP.ddiv (FP.i2d p2) 4636737291354636288))]) (q0 := 1) (ci := 5) C h (M_X5_holdFactor l D E _ ok) cw_X2_36 m_im_X5_holdFactor m_se_X5_holdFactor rfl rfl ⟨Nat.le_of_ble_eq_true rfl, Nat.le_of_ble_eq_true rfl⟩ rfl rfl hl rfl (Nat.le_of_ble_eq_true rfl) dX2_holdsFor_31 ⟨Nat.le_of_ble_eq_true rfl, Nat.le_of_ble_eq_true rfl⟩ (fun r u H locs w2 h => ?_)
    obtain ⟨rfl, rfl⟩ := w2
    refine lv_dmul C.x C.b dX2_holdsFor_34 (nan_of (mg_hold _ _ (hold_mag σ)) (by decide)) ?_
    exact rtD C h hr dX2_holdsFor_35 (Eq.mp (congrArg (fun z => post z σ) (if_neg c1)) hp)
  · skip
    refine lv_ldc2d C.x C.b C.ow (C.w _ m_cd_X2_32) dX2_holdsFor_7 ?_
    exact rtD C h hr dX2_holdsFor_10 (Eq.mp (congrArg (fun z => post z σ) (if_pos c1)) hp)
theorem M_X2_holdsFor (l : Launch) (D : va_G) (E : En) (σ : St) (ok : OK E σ) (p1 : Int32) (p2 : Int32) (hp1 : vp_in p1 3) : CO l yX2_holdsFor cX2_holdsFor 4 (some .double) rm_X2_holdsFor [.ref (ead E 7), .int p1, .int p2, .ref (ead E 1)] D E σ (fun A => va_Qd (fun r u => (S_X2_holdsFor σ p1 p2) = r ∧ σ = u) (POB D E A) A) 0 0 :=
  CO.of RX2 (by decide +kernel) rfl (Nat.le_of_ble_eq_true rfl) (fun p e s m below meth c A ls C h hr hl => K_X2_holdsFor_0 C ok hp1 h hr hl ⟨rfl, rfl⟩)
theorem holds_mag (σ : St) (p1 p2 : Int32) : (S_X2_holdsFor σ p1 p2).toNat % 2 ^ 63 < 1087 * 2 ^ 52 := by
  unfold S_X2_holdsFor
  split
  · decide +kernel
  · exact mg_hold _ _ (hold_mag σ)
