/-! methods walked (by program; wip/p23/gen) -/
-- X6_requireIndex requireIndex(II)V
abbrev rm_X6_requireIndex : Room := { frames := 6, cells := 1, slots := 6, locals := 100 }
def S_X6_requireIndex (p0 : Int32) (p1 : Int32) : Nat := if p0 < 0 then 1 else if p0 < p1 then 0 else 1
set_option maxRecDepth 100000 in
set_option maxHeartbeats 4000000 in
theorem K_X6_requireIndex_0 {p : Program} {l : Launch} {e : Env} {s : State} {m : MethodId} {args : Array Value} {below : List Frame} {meth : Method} {c : Code} {D : va_G} {E : En} {A : Nat → Prop} {post : St → Prop} {thr : Nat} (hfl : l.stackTraces = false) (C : CX p s m meth c cX6_requireIndex RX6 2 D E A) {σ : St} (ok : OK E σ) {p0 : Int32} {p1 : Int32} {H : Heap} {locs : List Loc} (h : HW D E σ A s H locs) (hr : meth.sig.returnType = none) (hex : ∀ x ∈ c.exceptionTable.toList, False) {ls : Array Slot} (hl : lv_has ls 2 [(0, .int p0), (1, .int p1)]) (hp : (S_X6_requireIndex p0 p1) = 0 → post σ) (hT : thr = (S_X6_requireIndex p0 p1)) : W p l e rm_X6_requireIndex s m args below meth c H locs 0 0 (vx_MQ below (va_Qv post (POB D E A) A) (XT D E σ A thr) args s 1 6 A) (F0 m 0 ls []) := by
  refine lv_iload_n C.x C.b dX6_requireIndex_0 rfl (lv_at hl 0 rfl) ?_
  refine lv_if_lt (tgt := 9) C.x C.b dX6_requireIndex_1 (by decide) (fun c1 => ?_) (fun c1 => ?_)
  · skip
    exact thW (ik := 211) (is := 265) (ic := 215) (k := 1) hfl C h hex hl (by decide) (hT.trans (if_pos c1)) (by decide +kernel) m_cl_X6_211 m_ini__java_lang_IndexOutOfBoundsException_ C.sx.1.2.1 xg_1 xb_1 xo_1 dX6_requireIndex_9 dX6_requireIndex_12 dX6_requireIndex_13 dX6_requireIndex_16 dX6_requireIndex_19 (Nat.le_of_ble_eq_true rfl) (Nat.le_of_ble_eq_true rfl) (Nat.le_of_ble_eq_true rfl) (Nat.le_of_ble_eq_true rfl) (Nat.le_of_ble_eq_true rfl) (Nat.le_of_ble_eq_true rfl)
  · skip
    refine lv_iload_n C.x C.b dX6_requireIndex_4 rfl (lv_at hl 0 rfl) ?_
    refine lv_iload_n C.x C.b dX6_requireIndex_5 rfl (lv_at hl 1 rfl) ?_
    refine lv_icmp_lt (tgt := 20) C.x C.b dX6_requireIndex_6 (by decide) (fun c2 => ?_) (fun c2 => ?_)
    · skip
      refine vx_ret ?_
      refine W.widen (k := 1) (n := 6) (Nat.le_of_ble_eq_true rfl) (Nat.le_of_ble_eq_true rfl) ?_
      exact rtV C h hr dX6_requireIndex_20 ((Eq.mp (congrArg (fun z : Nat => (z = 0 → post σ)) ((if_neg c1).trans (if_pos c2))) hp) rfl)
    · skip
      exact thW (ik := 211) (is := 265) (ic := 215) (k := 1) hfl C h hex hl (by decide) (hT.trans ((if_neg c1).trans (if_neg c2))) (by decide +kernel) m_cl_X6_211 m_ini__java_lang_IndexOutOfBoundsException_ C.sx.1.2.1 xg_1 xb_1 xo_1 dX6_requireIndex_9 dX6_requireIndex_12 dX6_requireIndex_13 dX6_requireIndex_16 dX6_requireIndex_19 (Nat.le_of_ble_eq_true rfl) (Nat.le_of_ble_eq_true rfl) (Nat.le_of_ble_eq_true rfl) (Nat.le_of_ble_eq_true rfl) (Nat.le_of_ble_eq_true rfl) (Nat.le_of_ble_eq_true rfl)
theorem M_X6_requireIndex (l : Launch) (hfl : l.stackTraces = false) (D : va_G) (E : En) (σ : St) (ok : OK E σ) (p0 : Int32) (p1 : Int32) : CT l yX6_requireIndex cX6_requireIndex 2 none rm_X6_requireIndex [.int p0, .int p1] D E σ (fun A => va_Qv (fun u => (S_X6_requireIndex p0 p1) = 0 ∧ σ = u) (POB D E A) A) (S_X6_requireIndex p0 p1) 1 6 :=
  CT.of RX6 (by decide +kernel) rfl (Nat.le_of_ble_eq_true rfl) (fun p e s m below meth c A ls C h hr hex hl => K_X6_requireIndex_0 hfl C ok h hr hex hl (fun q => ⟨q, rfl⟩) rfl)
theorem ri_of {x y : Int32} (h : S_X6_requireIndex x y = 0) : ¬ x < 0 ∧ x < y := by
  unfold S_X6_requireIndex at h
  split at h
  · exact absurd h (by decide)
  · rename_i q
    split at h
    · rename_i q2
      exact ⟨q, q2⟩
    · exact absurd h (by decide)
theorem ri_3 {x : Int32} (h : S_X6_requireIndex x 3 = 0) : vp_in x 3 := by
  obtain ⟨h1, h2⟩ := ri_of h
  rw [vp_in_iff]
  rw [Int32.lt_iff_toInt_lt] at h1 h2
  have e0 : (0 : Int32).toInt = 0 := by decide
  have e3 : (3 : Int32).toInt = 3 := by decide
  omega
theorem ri_n {E : En} {σ : St} {x : Int32} (ok : OK E σ) (h : S_X6_requireIndex x (σ 1 0) = 0) : IN E x := by
  obtain ⟨h1, h2⟩ := ri_of h
  have hle := ok.le
  rw [ok.n] at h2
  rw [Int32.lt_iff_toInt_lt] at h1 h2
  rw [nI_toInt (by omega)] at h2
  have e0 : (0 : Int32).toInt = 0 := by decide
  have hx : vp_in x (en E) := by
    rw [vp_in_iff]
    omega
  obtain ⟨j, hj, rfl⟩ := vp_in_of hx (by omega)
  exact IN.of ok hj
-- X6_requireRange requireRange(III)V
abbrev rm_X6_requireRange : Room := { frames := 6, cells := 1, slots := 6, locals := 100 }
def S_X6_requireRange (p0 : Int32) (p1 : Int32) (p2 : Int32) : Nat := if p0 < p1 then 2 else if p0 ≤ p2 then 0 else 2
set_option maxRecDepth 100000 in
set_option maxHeartbeats 4000000 in
theorem K_X6_requireRange_0 {p : Program} {l : Launch} {e : Env} {s : State} {m : MethodId} {args : Array Value} {below : List Frame} {meth : Method} {c : Code} {D : va_G} {E : En} {A : Nat → Prop} {post : St → Prop} {thr : Nat} (hfl : l.stackTraces = false) (C : CX p s m meth c cX6_requireRange RX6 3 D E A) {σ : St} (ok : OK E σ) {p0 : Int32} {p1 : Int32} {p2 : Int32} {H : Heap} {locs : List Loc} (h : HW D E σ A s H locs) (hr : meth.sig.returnType = none) (hex : ∀ x ∈ c.exceptionTable.toList, False) {ls : Array Slot} (hl : lv_has ls 3 [(0, .int p0), (1, .int p1), (2, .int p2)]) (hp : (S_X6_requireRange p0 p1 p2) = 0 → post σ) (hT : thr = (S_X6_requireRange p0 p1 p2)) : W p l e rm_X6_requireRange s m args below meth c H locs 0 0 (vx_MQ below (va_Qv post (POB D E A) A) (XT D E σ A thr) args s 1 6 A) (F0 m 0 ls []) := by
  refine lv_iload_n C.x C.b dX6_requireRange_0 rfl (lv_at hl 0 rfl) ?_
  refine lv_iload_n C.x C.b dX6_requireRange_1 rfl (lv_at hl 1 rfl) ?_
  refine lv_icmp_lt (tgt := 10) C.x C.b dX6_requireRange_2 (by decide) (fun c1 => ?_) (fun c1 => ?_)
  · skip
    exact thW (ik := 267) (is := 269) (ic := 271) (k := 2) hfl C h hex hl (by decide) (hT.trans (if_pos c1)) (by decide +kernel) m_cl_X6_267 m_ini__java_lang_IllegalArgumentException_ C.sx.1.2.2.1 xg_2 xb_2 xo_2 dX6_requireRange_10 dX6_requireRange_13 dX6_requireRange_14 dX6_requireRange_17 dX6_requireRange_20 (Nat.le_of_ble_eq_true rfl) (Nat.le_of_ble_eq_true rfl) (Nat.le_of_ble_eq_true rfl) (Nat.le_of_ble_eq_true rfl) (Nat.le_of_ble_eq_true rfl) (Nat.le_of_ble_eq_true rfl)
  · skip
    refine lv_iload_n C.x C.b dX6_requireRange_5 rfl (lv_at hl 0 rfl) ?_
    refine lv_iload_n C.x C.b dX6_requireRange_6 rfl (lv_at hl 2 rfl) ?_
    refine lv_icmp_le (tgt := 21) C.x C.b dX6_requireRange_7 (by decide) (fun c2 => ?_) (fun c2 => ?_)
    · skip
      refine vx_ret ?_
      refine W.widen (k := 1) (n := 6) (Nat.le_of_ble_eq_true rfl) (Nat.le_of_ble_eq_true rfl) ?_
      exact rtV C h hr dX6_requireRange_21 ((Eq.mp (congrArg (fun z : Nat => (z = 0 → post σ)) ((if_neg c1).trans (if_pos c2))) hp) rfl)
    · skip
      exact thW (ik := 267) (is := 269) (ic := 271) (k := 2) hfl C h hex hl (by decide) (hT.trans ((if_neg c1).trans (if_neg c2))) (by decide +kernel) m_cl_X6_267 m_ini__java_lang_IllegalArgumentException_ C.sx.1.2.2.1 xg_2 xb_2 xo_2 dX6_requireRange_10 dX6_requireRange_13 dX6_requireRange_14 dX6_requireRange_17 dX6_requireRange_20 (Nat.le_of_ble_eq_true rfl) (Nat.le_of_ble_eq_true rfl) (Nat.le_of_ble_eq_true rfl) (Nat.le_of_ble_eq_true rfl) (Nat.le_of_ble_eq_true rfl) (Nat.le_of_ble_eq_true rfl)
theorem M_X6_requireRange (l : Launch) (hfl : l.stackTraces = false) (D : va_G) (E : En) (σ : St) (ok : OK E σ) (p0 : Int32) (p1 : Int32) (p2 : Int32) : CT l yX6_requireRange cX6_requireRange 3 none rm_X6_requireRange [.int p0, .int p1, .int p2] D E σ (fun A => va_Qv (fun u => (S_X6_requireRange p0 p1 p2) = 0 ∧ σ = u) (POB D E A) A) (S_X6_requireRange p0 p1 p2) 1 6 :=
  CT.of RX6 (by decide +kernel) rfl (Nat.le_of_ble_eq_true rfl) (fun p e s m below meth c A ls C h hr hex hl => K_X6_requireRange_0 hfl C ok h hr hex hl (fun q => ⟨q, rfl⟩) rfl)
theorem rr_of {x lo hi : Int32} (h : S_X6_requireRange x lo hi = 0) : ¬ x < lo ∧ ¬ hi < x := by
  unfold S_X6_requireRange at h
  split at h
  · exact absurd h (by decide)
  · rename_i q
    split at h
    · rename_i q2
      exact ⟨q, by rw [Int32.lt_iff_toInt_lt]; rw [Int32.le_iff_toInt_le] at q2; omega⟩
    · exact absurd h (by decide)
theorem rr_fall {x : Int32} (h : S_X6_requireRange x 1 3 = 0) : vp_in x 4 := by
  obtain ⟨h1, h2⟩ := rr_of h
  rw [vp_in_iff]
  rw [Int32.lt_iff_toInt_lt] at h1 h2
  have e1 : (1 : Int32).toInt = 1 := by decide
  have e3 : (3 : Int32).toInt = 3 := by decide
  omega
theorem rr_500 {x : Int32} (h : S_X6_requireRange x 1 500 = 0) : x ≤ nI 500 := by
  obtain ⟨h1, h2⟩ := rr_of h
  rw [Int32.le_iff_toInt_le, nI_toInt (by decide)]
  rw [Int32.lt_iff_toInt_lt] at h2
  have e5 : (500 : Int32).toInt = 500 := by decide
  omega
theorem nar_of {x : Int32} (h : x = 0 ∨ x = 1) : narrow .boolean (.int x) = .int x := by
  rcases h with rfl | rfl <;> rfl
theorem usable_01 (σ : St) (p : Int32) : S_X3_isUsableAt σ p = 0 ∨ S_X3_isUsableAt σ p = 1 := by
  unfold S_X3_isUsableAt
  (repeat' split) <;> first | exact Or.inl rfl | exact Or.inr rfl
-- X6_requireStrength requireStrength(I)V
abbrev rm_X6_requireStrength : Room := { frames := 6, cells := 1, slots := 6, locals := 100 }
def S_X6_requireStrength (p0 : Int32) : Nat := if p0 = 50 then 0 else if p0 = 75 then 0 else if p0 = 100 then 0 else 2
set_option maxRecDepth 100000 in
set_option maxHeartbeats 4000000 in
theorem K_X6_requireStrength_0 {p : Program} {l : Launch} {e : Env} {s : State} {m : MethodId} {args : Array Value} {below : List Frame} {meth : Method} {c : Code} {D : va_G} {E : En} {A : Nat → Prop} {post : St → Prop} {thr : Nat} (hfl : l.stackTraces = false) (C : CX p s m meth c cX6_requireStrength RX6 1 D E A) {σ : St} (ok : OK E σ) {p0 : Int32} {H : Heap} {locs : List Loc} (h : HW D E σ A s H locs) (hr : meth.sig.returnType = none) (hex : ∀ x ∈ c.exceptionTable.toList, False) {ls : Array Slot} (hl : lv_has ls 1 [(0, .int p0)]) (hp : (S_X6_requireStrength p0) = 0 → post σ) (hT : thr = (S_X6_requireStrength p0)) : W p l e rm_X6_requireStrength s m args below meth c H locs 0 0 (vx_MQ below (va_Qv post (POB D E A) A) (XT D E σ A thr) args s 1 6 A) (F0 m 0 ls []) := by
  refine lv_iload_n C.x C.b dX6_requireStrength_0 rfl (lv_at hl 0 rfl) ?_
  refine lv_bipush (v := 50) C.x C.b dX6_requireStrength_1 (by decide) ?_
  refine lv_icmp_eq (tgt := 29) C.x C.b dX6_requireStrength_3 (by decide) (fun c1 => ?_) (fun c1 => ?_)
  · skip
    refine vx_ret ?_
    refine W.widen (k := 1) (n := 6) (Nat.le_of_ble_eq_true rfl) (Nat.le_of_ble_eq_true rfl) ?_
    exact rtV C h hr dX6_requireStrength_29 ((Eq.mp (congrArg (fun z : Nat => (z = 0 → post σ)) (if_pos c1)) hp) rfl)
  · skip
    refine lv_iload_n C.x C.b dX6_requireStrength_6 rfl (lv_at hl 0 rfl) ?_
    refine lv_bipush (v := 75) C.x C.b dX6_requireStrength_7 (by decide) ?_
    refine lv_icmp_eq (tgt := 29) C.x C.b dX6_requireStrength_9 (by decide) (fun c2 => ?_) (fun c2 => ?_)
    · skip
      refine vx_ret ?_
      refine W.widen (k := 1) (n := 6) (Nat.le_of_ble_eq_true rfl) (Nat.le_of_ble_eq_true rfl) ?_
      exact rtV C h hr dX6_requireStrength_29 ((Eq.mp (congrArg (fun z : Nat => (z = 0 → post σ)) ((if_neg c1).trans (if_pos c2))) hp) rfl)
    · skip
      refine lv_iload_n C.x C.b dX6_requireStrength_12 rfl (lv_at hl 0 rfl) ?_
      refine lv_bipush (v := 100) C.x C.b dX6_requireStrength_13 (by decide) ?_
      refine lv_icmp_eq (tgt := 29) C.x C.b dX6_requireStrength_15 (by decide) (fun c3 => ?_) (fun c3 => ?_)
      · skip
        refine vx_ret ?_
        refine W.widen (k := 1) (n := 6) (Nat.le_of_ble_eq_true rfl) (Nat.le_of_ble_eq_true rfl) ?_
        exact rtV C h hr dX6_requireStrength_29 ((Eq.mp (congrArg (fun z : Nat => (z = 0 → post σ)) ((if_neg c1).trans ((if_neg c2).trans (if_pos c3)))) hp) rfl)
      · skip
        exact thW (ik := 267) (is := 272) (ic := 271) (k := 2) hfl C h hex hl (by decide) (hT.trans ((if_neg c1).trans ((if_neg c2).trans (if_neg c3)))) (by decide +kernel) m_cl_X6_267 m_ini__java_lang_IllegalArgumentException_ C.sx.1.2.2.2.1 xg_2 xb_2 xo_2 dX6_requireStrength_18 dX6_requireStrength_21 dX6_requireStrength_22 dX6_requireStrength_25 dX6_requireStrength_28 (Nat.le_of_ble_eq_true rfl) (Nat.le_of_ble_eq_true rfl) (Nat.le_of_ble_eq_true rfl) (Nat.le_of_ble_eq_true rfl) (Nat.le_of_ble_eq_true rfl) (Nat.le_of_ble_eq_true rfl)
theorem M_X6_requireStrength (l : Launch) (hfl : l.stackTraces = false) (D : va_G) (E : En) (σ : St) (ok : OK E σ) (p0 : Int32) : CT l yX6_requireStrength cX6_requireStrength 1 none rm_X6_requireStrength [.int p0] D E σ (fun A => va_Qv (fun u => (S_X6_requireStrength p0) = 0 ∧ σ = u) (POB D E A) A) (S_X6_requireStrength p0) 1 6 :=
  CT.of RX6 (by decide +kernel) rfl (Nat.le_of_ble_eq_true rfl) (fun p e s m below meth c A ls C h hr hex hl => K_X6_requireStrength_0 hfl C ok h hr hex hl (fun q => ⟨q, rfl⟩) rfl)
-- X6_requirePossible requirePossible(Z)V
abbrev rm_X6_requirePossible : Room := { frames := 6, cells := 1, slots := 6, locals := 100 }
def S_X6_requirePossible (p0 : Int32) : Nat := if p0 = 0 then 3 else 0
set_option maxRecDepth 100000 in
set_option maxHeartbeats 4000000 in
theorem K_X6_requirePossible_0 {p : Program} {l : Launch} {e : Env} {s : State} {m : MethodId} {args : Array Value} {below : List Frame} {meth : Method} {c : Code} {D : va_G} {E : En} {A : Nat → Prop} {post : St → Prop} {thr : Nat} (hfl : l.stackTraces = false) (C : CX p s m meth c cX6_requirePossible RX6 1 D E A) {σ : St} (ok : OK E σ) {p0 : Int32} {H : Heap} {locs : List Loc} (h : HW D E σ A s H locs) (hr : meth.sig.returnType = none) (hex : ∀ x ∈ c.exceptionTable.toList, False) {ls : Array Slot} (hl : lv_has ls 1 [(0, .int p0)]) (hp : (S_X6_requirePossible p0) = 0 → post σ) (hT : thr = (S_X6_requirePossible p0)) : W p l e rm_X6_requirePossible s m args below meth c H locs 0 0 (vx_MQ below (va_Qv post (POB D E A) A) (XT D E σ A thr) args s 1 6 A) (F0 m 0 ls []) := by
  refine lv_iload_n C.x C.b dX6_requirePossible_0 rfl (lv_at hl 0 rfl) ?_
  refine lv_if_ne (tgt := 15) C.x C.b dX6_requirePossible_1 (by decide) (fun c1 => ?_) (fun c1 => ?_)
  · skip
    refine vx_ret ?_
    refine W.widen (k := 1) (n := 6) (Nat.le_of_ble_eq_true rfl) (Nat.le_of_ble_eq_true rfl) ?_
    exact rtV C h hr dX6_requirePossible_15 ((Eq.mp (congrArg (fun z : Nat => (z = 0 → post σ)) (if_neg c1)) hp) rfl)
  · skip
    exact thW (ik := 274) (is := 276) (ic := 278) (k := 3) hfl C h hex hl (by decide) (hT.trans (if_pos c1)) (by decide +kernel) m_cl_X6_274 m_ini__java_lang_IllegalStateException_ C.sx.1.2.2.2.2 xg_3 xb_3 xo_3 dX6_requirePossible_4 dX6_requirePossible_7 dX6_requirePossible_8 dX6_requirePossible_11 dX6_requirePossible_14 (Nat.le_of_ble_eq_true rfl) (Nat.le_of_ble_eq_true rfl) (Nat.le_of_ble_eq_true rfl) (Nat.le_of_ble_eq_true rfl) (Nat.le_of_ble_eq_true rfl) (Nat.le_of_ble_eq_true rfl)
theorem M_X6_requirePossible (l : Launch) (hfl : l.stackTraces = false) (D : va_G) (E : En) (σ : St) (ok : OK E σ) (p0 : Int32) : CT l yX6_requirePossible cX6_requirePossible 1 none rm_X6_requirePossible [.int p0] D E σ (fun A => va_Qv (fun u => (S_X6_requirePossible p0) = 0 ∧ σ = u) (POB D E A) A) (S_X6_requirePossible p0) 1 6 :=
  CT.of RX6 (by decide +kernel) rfl (Nat.le_of_ble_eq_true rfl) (fun p e s m below meth c A ls C h hr hex hl => K_X6_requirePossible_0 hfl C ok h hr hex hl (fun q => ⟨q, rfl⟩) rfl)
-- X6_weather weather(IIII)V
theorem cw_X6_43 : CWd RX6 43 yX6_requireRange cX6_requireRange 3 none 3 := ⟨m_ml_X6_43, m_co_X6_requireRange, m_ini_X6, by decide +kernel, by decide +kernel⟩
abbrev rm_X6_weather : Room := { frames := 7, cells := 10, slots := 60, locals := 122 }
def S_X6_weather (σ : St) (p1 : Int32) (p2 : Int32) (p3 : Int32) (p4 : Int32) : Nat × St := if (S_X6_requireRange p1 (-400) 400) = 0 then (if (S_X6_requireRange p2 0 3) = 0 then (if (S_X6_requireRange p3 0 30) = 0 then (if (S_X6_requireRange p4 0 60) = 0 then (0, (up2 (up2 (up2 (up2 σ 2 0 p1) 3 0 p2) 4 0 p3) 5 0 p4)) else ((S_X6_requireRange p4 0 60), σ)) else ((S_X6_requireRange p3 0 30), σ)) else ((S_X6_requireRange p2 0 3), σ)) else ((S_X6_requireRange p1 (-400) 400), σ)
set_option maxRecDepth 100000 in
set_option maxHeartbeats 4000000 in
theorem K_X6_weather_0 {p : Program} {l : Launch} {e : Env} {s : State} {m : MethodId} {args : Array Value} {below : List Frame} {meth : Method} {c : Code} {D : va_G} {E : En} {A : Nat → Prop} {post : St → Prop} {thr : Nat} (hfl : l.stackTraces = false) (C : CX p s m meth c cX6_weather RX6 5 D E A) {σ : St} (ok : OK E σ) {p1 : Int32} {p2 : Int32} {p3 : Int32} {p4 : Int32} {H : Heap} {locs : List Loc} (h : HW D E σ A s H locs) (hr : meth.sig.returnType = none) (hex : ∀ x ∈ c.exceptionTable.toList, False) {ls : Array Slot} (hl : lv_has ls 5 [(0, .ref (ead E 0)), (1, .int p1), (2, .int p2), (3, .int p3), (4, .int p4)]) (hp : (S_X6_weather σ p1 p2 p3 p4).1 = 0 → post (S_X6_weather σ p1 p2 p3 p4).2) (hT : thr = (S_X6_weather σ p1 p2 p3 p4).1) : W p l e rm_X6_weather s m args below meth c H locs 0 0 (vx_MQ below (va_Qv post (POB D E A) A) (XT D E σ A thr) args s 10 60 A) (F0 m 0 ls []) := by
  refine lv_iload_n C.x C.b dX6_weather_0 rfl (lv_at hl 1 rfl) ?_
  refine lv_sipush (v := (-400)) C.x C.b dX6_weather_1 (by decide) ?_
  refine lv_sipush (v := 400) C.x C.b dX6_weather_4 (by decide) ?_
  refine cxSv (As := [.int p1, .int (-400), .int 400]) (rest := []) C h (M_X6_requireRange l hfl D E _ ok p1 (-400) 400) cw_X6_43 m_st_X6_requireRange rfl rfl ⟨Nat.le_of_ble_eq_true rfl, Nat.le_of_ble_eq_true rfl⟩ hl rfl (Nat.le_of_ble_eq_true rfl) dX6_weather_7 ⟨Nat.le_of_ble_eq_true rfl, Nat.le_of_ble_eq_true rfl⟩ (fun q1k0 ce q9 H locs q1k q1e h h1 h2 h3 => ?_) (fun u H locs q1w h => ?_)
  · exact goX C h hex q1k (hT.trans ((congrArg (fun z : Nat × St => z.1) (if_neg (fun z => q1k (q1e.symm.trans z)))).trans q1e)) h1 h2 h3 (Nat.le_of_ble_eq_true rfl) (Nat.le_of_ble_eq_true rfl)
  · skip
    obtain ⟨c2, rfl⟩ := q1w
    refine lv_iload_n C.x C.b dX6_weather_10 rfl (lv_at hl 2 rfl) ?_
    refine lv_iconst (v := 0) C.x C.b dX6_weather_11 (by decide) ?_
    refine lv_iconst (v := 3) C.x C.b dX6_weather_12 (by decide) ?_
    refine cxSv (As := [.int p2, .int 0, .int 3]) (rest := []) C h (M_X6_requireRange l hfl D E _ ok p2 0 3) cw_X6_43 m_st_X6_requireRange rfl rfl ⟨Nat.le_of_ble_eq_true rfl, Nat.le_of_ble_eq_true rfl⟩ hl rfl (Nat.le_of_ble_eq_true rfl) dX6_weather_13 ⟨Nat.le_of_ble_eq_true rfl, Nat.le_of_ble_eq_true rfl⟩ (fun q3k0 ce q9 H locs q3k q3e h h1 h2 h3 => ?_) (fun u H locs q3w h => ?_)
    · exact goX C h hex q3k (hT.trans ((congrArg (fun z : Nat × St => z.1) ((if_pos c2).trans (if_neg (fun z => q3k (q3e.symm.trans z))))).trans q3e)) h1 h2 h3 (Nat.le_of_ble_eq_true rfl) (Nat.le_of_ble_eq_true rfl)
    · skip
      obtain ⟨c4, rfl⟩ := q3w
      refine lv_iload_n C.x C.b dX6_weather_16 rfl (lv_at hl 3 rfl) ?_
      refine lv_iconst (v := 0) C.x C.b dX6_weather_17 (by decide) ?_
      refine lv_bipush (v := 30) C.x C.b dX6_weather_18 (by decide) ?_
      refine cxSv (As := [.int p3, .int 0, .int 30]) (rest := []) C h (M_X6_requireRange l hfl D E _ ok p3 0 30) cw_X6_43 m_st_X6_requireRange rfl rfl ⟨Nat.le_of_ble_eq_true rfl, Nat.le_of_ble_eq_true rfl⟩ hl rfl (Nat.le_of_ble_eq_true rfl) dX6_weather_20 ⟨Nat.le_of_ble_eq_true rfl, Nat.le_of_ble_eq_true rfl⟩ (fun q5k0 ce q9 H locs q5k q5e h h1 h2 h3 => ?_) (fun u H locs q5w h => ?_)
      · exact goX C h hex q5k (hT.trans ((congrArg (fun z : Nat × St => z.1) ((if_pos c2).trans ((if_pos c4).trans (if_neg (fun z => q5k (q5e.symm.trans z)))))).trans q5e)) h1 h2 h3 (Nat.le_of_ble_eq_true rfl) (Nat.le_of_ble_eq_true rfl)
      · skip
        obtain ⟨c6, rfl⟩ := q5w
        refine lv_iload C.x C.b dX6_weather_23 (lv_at hl 4 rfl) ?_
        refine lv_iconst (v := 0) C.x C.b dX6_weather_25 (by decide) ?_
        refine lv_bipush (v := 60) C.x C.b dX6_weather_26 (by decide) ?_
        refine cxSv (As := [.int p4, .int 0, .int 60]) (rest := []) C h (M_X6_requireRange l hfl D E _ ok p4 0 60) cw_X6_43 m_st_X6_requireRange rfl rfl ⟨Nat.le_of_ble_eq_true rfl, Nat.le_of_ble_eq_true rfl⟩ hl rfl (Nat.le_of_ble_eq_true rfl) dX6_weather_28 ⟨Nat.le_of_ble_eq_true rfl, Nat.le_of_ble_eq_true rfl⟩ (fun q7k0 ce q9 H locs q7k q7e h h1 h2 h3 => ?_) (fun u H locs q7w h => ?_)
        · exact goX C h hex q7k (hT.trans ((congrArg (fun z : Nat × St => z.1) ((if_pos c2).trans ((if_pos c4).trans ((if_pos c6).trans (if_neg (fun z => q7k (q7e.symm.trans z))))))).trans q7e)) h1 h2 h3 (Nat.le_of_ble_eq_true rfl) (Nat.le_of_ble_eq_true rfl)
        · skip
          obtain ⟨c8, rfl⟩ := q7w
          refine lv_aload_n C.x C.b dX6_weather_31 rfl (lv_at hl 0 rfl) ?_
          refine g_X6_10 C h dX6_weather_32 ?_
          refine lv_iload_n C.x C.b dX6_weather_35 rfl (lv_at hl 1 rfl) ?_
          refine p_X6_47 C h dX6_weather_36 (fun H locs h => ?_)
          refine lv_aload_n C.x C.b dX6_weather_39 rfl (lv_at hl 0 rfl) ?_
          refine g_X6_10 C h dX6_weather_40 ?_
          refine lv_iload_n C.x C.b dX6_weather_43 rfl (lv_at hl 2 rfl) ?_
          refine p_X6_51 C h dX6_weather_44 (fun H locs h => ?_)
          refine lv_aload_n C.x C.b dX6_weather_47 rfl (lv_at hl 0 rfl) ?_
          refine g_X6_10 C h dX6_weather_48 ?_
          refine lv_iload_n C.x C.b dX6_weather_51 rfl (lv_at hl 3 rfl) ?_
          refine p_X6_54 C h dX6_weather_52 (fun H locs h => ?_)
          refine lv_aload_n C.x C.b dX6_weather_55 rfl (lv_at hl 0 rfl) ?_
          refine g_X6_10 C h dX6_weather_56 ?_
          refine lv_iload C.x C.b dX6_weather_59 (lv_at hl 4 rfl) ?_
          refine p_X6_57 C h dX6_weather_61 (fun H locs h => ?_)
          refine vx_ret ?_
          refine W.widen (k := 10) (n := 60) (Nat.le_of_ble_eq_true rfl) (Nat.le_of_ble_eq_true rfl) ?_
          exact rtV C h hr dX6_weather_64 ((Eq.mp (congrArg (fun z : Nat × St => (z.1 = 0 → post z.2)) ((if_pos c2).trans ((if_pos c4).trans ((if_pos c6).trans (if_pos c8))))) hp) rfl)
theorem M_X6_weather (l : Launch) (hfl : l.stackTraces = false) (D : va_G) (E : En) (σ : St) (ok : OK E σ) (p1 : Int32) (p2 : Int32) (p3 : Int32) (p4 : Int32) : CT l yX6_weather cX6_weather 5 none rm_X6_weather [.ref (ead E 0), .int p1, .int p2, .int p3, .int p4] D E σ (fun A => va_Qv (fun u => (S_X6_weather σ p1 p2 p3 p4).1 = 0 ∧ (S_X6_weather σ p1 p2 p3 p4).2 = u) (POB D E A) A) (S_X6_weather σ p1 p2 p3 p4).1 10 60 :=
  CT.of RX6 (by decide +kernel) rfl (Nat.le_of_ble_eq_true rfl) (fun p e s m below meth c A ls C h hr hex hl => K_X6_weather_0 hfl C ok h hr hex hl (fun q => ⟨q, rfl⟩) rfl)
-- X6_spray spray(I)I
theorem cw_X6_60 : CWd RX6 60 yX6_requireIndex cX6_requireIndex 2 none 2 := ⟨m_ml_X6_60, m_co_X6_requireIndex, m_ini_X6, by decide +kernel, by decide +kernel⟩
abbrev rm_X6_spray : Room := { frames := 7, cells := 10, slots := 60, locals := 121 }
def S_X6_spray (σ : St) (p1 : Int32) : Nat × Int32 × St := if (S_X6_requireIndex p1 3) = 0 then (0, ((σ 0 0) + 60), (up2 σ 11 p1.toNatClampNeg ((σ 0 0) + 60))) else ((S_X6_requireIndex p1 3), 0, σ)
set_option maxRecDepth 100000 in
set_option maxHeartbeats 4000000 in
theorem K_X6_spray_0 {p : Program} {l : Launch} {e : Env} {s : State} {m : MethodId} {args : Array Value} {below : List Frame} {meth : Method} {c : Code} {D : va_G} {E : En} {A : Nat → Prop} {post : Int32 → St → Prop} {thr : Nat} (hfl : l.stackTraces = false) (C : CX p s m meth c cX6_spray RX6 3 D E A) {σ : St} (ok : OK E σ) {p1 : Int32} {H : Heap} {locs : List Loc} (h : HW D E σ A s H locs) (hr : meth.sig.returnType = some .int) (hex : ∀ x ∈ c.exceptionTable.toList, False) {ls : Array Slot} (hl : lv_has ls 3 [(0, .ref (ead E 0)), (1, .int p1)]) (hp : (S_X6_spray σ p1).1 = 0 → post (S_X6_spray σ p1).2.1 (S_X6_spray σ p1).2.2) (hT : thr = (S_X6_spray σ p1).1) : W p l e rm_X6_spray s m args below meth c H locs 0 0 (vx_MQ below (va_Qi post (POB D E A) A) (XT D E σ A thr) args s 10 60 A) (F0 m 0 ls []) := by
  refine lv_iload_n C.x C.b dX6_spray_0 rfl (lv_at hl 1 rfl) ?_
  refine lv_iconst (v := 3) C.x C.b dX6_spray_1 (by decide) ?_
  refine cxSv (As := [.int p1, .int 3]) (rest := []) C h (M_X6_requireIndex l hfl D E _ ok p1 3) cw_X6_60 m_st_X6_requireIndex rfl rfl ⟨Nat.le_of_ble_eq_true rfl, Nat.le_of_ble_eq_true rfl⟩ hl rfl (Nat.le_of_ble_eq_true rfl) dX6_spray_2 ⟨Nat.le_of_ble_eq_true rfl, Nat.le_of_ble_eq_true rfl⟩ (fun q1k0 ce q9 H locs q1k q1e h h1 h2 h3 => ?_) (fun u H locs q1w h => ?_)
  · exact goX C h hex q1k (hT.trans ((congrArg (fun z : Nat × Int32 × St => z.1) (if_neg (fun z => q1k (q1e.symm.trans z)))).trans q1e)) h1 h2 h3 (Nat.le_of_ble_eq_true rfl) (Nat.le_of_ble_eq_true rfl)
  · skip
    obtain ⟨c2, rfl⟩ := q1w
    have h1 : vp_in p1 3 := ri_3 c2
    refine lv_aload_n C.x C.b dX6_spray_5 rfl (lv_at hl 0 rfl) ?_
    refine g_X6_64 C h dX6_spray_6 ?_
    refine lv_bipush (v := 60) C.x C.b dX6_spray_9 (by decide) ?_
    refine lv_iadd C.x C.b dX6_spray_11 ?_
    refine lv_istore_n (lv' := [(2, .int ((σ 0 0) + 60)), (0, .ref (ead E 0)), (1, .int p1)]) C.x C.b dX6_spray_12 rfl hl (by decide) rfl (fun ls hl => ?_)
    refine lv_aload_n C.x C.b dX6_spray_13 rfl (lv_at hl 1 rfl) ?_
    refine g_X6_19 C h dX6_spray_14 ?_
    refine g_X6_67 C h dX6_spray_17 ?_
    refine lv_iload_n C.x C.b dX6_spray_20 rfl (lv_at hl 2 rfl) ?_
    refine al_3 C h h1 dX6_spray_21 ?_
    refine lv_iload_n C.x C.b dX6_spray_22 rfl (lv_at hl 0 rfl) ?_
    refine p_X6_71 C h (vp_lt h1) dX6_spray_23 (fun H locs h => ?_)
    refine lv_iload_n C.x C.b dX6_spray_26 rfl (lv_at hl 0 rfl) ?_
    refine vx_ret ?_
    refine W.widen (k := 10) (n := 60) (Nat.le_of_ble_eq_true rfl) (Nat.le_of_ble_eq_true rfl) ?_
    exact rtI C h hr rfl dX6_spray_27 ((Eq.mp (congrArg (fun z : Nat × Int32 × St => (z.1 = 0 → post z.2.1 z.2.2)) (if_pos c2)) hp) rfl)
theorem M_X6_spray (l : Launch) (hfl : l.stackTraces = false) (D : va_G) (E : En) (σ : St) (ok : OK E σ) (p1 : Int32) : CT l yX6_spray cX6_spray 3 (some .int) rm_X6_spray [.ref (ead E 0), .int p1] D E σ (fun A => va_Qi (fun r u => (S_X6_spray σ p1).1 = 0 ∧ (S_X6_spray σ p1).2.1 = r ∧ (S_X6_spray σ p1).2.2 = u) (POB D E A) A) (S_X6_spray σ p1).1 10 60 :=
  CT.of RX6 (by decide +kernel) rfl (Nat.le_of_ble_eq_true rfl) (fun p e s m below meth c A ls C h hr hex hl => K_X6_spray_0 hfl C ok h hr hex hl (fun q => ⟨q, rfl, rfl⟩) rfl)
-- X6_close close(II)I
abbrev rm_X6_close : Room := { frames := 7, cells := 10, slots := 60, locals := 122 }
def S_X6_close (σ : St) (p1 : Int32) (p2 : Int32) : Nat × Int32 × St := if (S_X6_requireRange p1 1 500) = 0 then (if (S_X6_requireRange p2 0 11) = 0 then (0, ((σ 0 0) + p1), (up2 (up2 σ 6 0 ((σ 0 0) + p1)) 7 0 p2)) else ((S_X6_requireRange p2 0 11), 0, σ)) else ((S_X6_requireRange p1 1 500), 0, σ)
set_option maxRecDepth 100000 in
set_option maxHeartbeats 4000000 in
theorem K_X6_close_0 {p : Program} {l : Launch} {e : Env} {s : State} {m : MethodId} {args : Array Value} {below : List Frame} {meth : Method} {c : Code} {D : va_G} {E : En} {A : Nat → Prop} {post : Int32 → St → Prop} {thr : Nat} (hfl : l.stackTraces = false) (C : CX p s m meth c cX6_close RX6 3 D E A) {σ : St} (ok : OK E σ) {p1 : Int32} {p2 : Int32} {H : Heap} {locs : List Loc} (h : HW D E σ A s H locs) (hr : meth.sig.returnType = some .int) (hex : ∀ x ∈ c.exceptionTable.toList, False) {ls : Array Slot} (hl : lv_has ls 3 [(0, .ref (ead E 0)), (1, .int p1), (2, .int p2)]) (hp : (S_X6_close σ p1 p2).1 = 0 → post (S_X6_close σ p1 p2).2.1 (S_X6_close σ p1 p2).2.2) (hT : thr = (S_X6_close σ p1 p2).1) : W p l e rm_X6_close s m args below meth c H locs 0 0 (vx_MQ below (va_Qi post (POB D E A) A) (XT D E σ A thr) args s 10 60 A) (F0 m 0 ls []) := by
  refine lv_iload_n C.x C.b dX6_close_0 rfl (lv_at hl 1 rfl) ?_
  refine lv_iconst (v := 1) C.x C.b dX6_close_1 (by decide) ?_
  refine lv_sipush (v := 500) C.x C.b dX6_close_2 (by decide) ?_
  refine cxSv (As := [.int p1, .int 1, .int 500]) (rest := []) C h (M_X6_requireRange l hfl D E _ ok p1 1 500) cw_X6_43 m_st_X6_requireRange rfl rfl ⟨Nat.le_of_ble_eq_true rfl, Nat.le_of_ble_eq_true rfl⟩ hl rfl (Nat.le_of_ble_eq_true rfl) dX6_close_5 ⟨Nat.le_of_ble_eq_true rfl, Nat.le_of_ble_eq_true rfl⟩ (fun q1k0 ce q9 H locs q1k q1e h h1 h2 h3 => ?_) (fun u H locs q1w h => ?_)
  · exact goX C h hex q1k (hT.trans ((congrArg (fun z : Nat × Int32 × St => z.1) (if_neg (fun z => q1k (q1e.symm.trans z)))).trans q1e)) h1 h2 h3 (Nat.le_of_ble_eq_true rfl) (Nat.le_of_ble_eq_true rfl)
  · skip
    obtain ⟨c2, rfl⟩ := q1w
    refine lv_iload_n C.x C.b dX6_close_8 rfl (lv_at hl 2 rfl) ?_
    refine lv_iconst (v := 0) C.x C.b dX6_close_9 (by decide) ?_
    refine lv_bipush (v := 11) C.x C.b dX6_close_10 (by decide) ?_
    refine cxSv (As := [.int p2, .int 0, .int 11]) (rest := []) C h (M_X6_requireRange l hfl D E _ ok p2 0 11) cw_X6_43 m_st_X6_requireRange rfl rfl ⟨Nat.le_of_ble_eq_true rfl, Nat.le_of_ble_eq_true rfl⟩ hl rfl (Nat.le_of_ble_eq_true rfl) dX6_close_12 ⟨Nat.le_of_ble_eq_true rfl, Nat.le_of_ble_eq_true rfl⟩ (fun q3k0 ce q9 H locs q3k q3e h h1 h2 h3 => ?_) (fun u H locs q3w h => ?_)
    · exact goX C h hex q3k (hT.trans ((congrArg (fun z : Nat × Int32 × St => z.1) ((if_pos c2).trans (if_neg (fun z => q3k (q3e.symm.trans z))))).trans q3e)) h1 h2 h3 (Nat.le_of_ble_eq_true rfl) (Nat.le_of_ble_eq_true rfl)
    · skip
      obtain ⟨c4, rfl⟩ := q3w
      refine lv_aload_n C.x C.b dX6_close_15 rfl (lv_at hl 0 rfl) ?_
      refine g_X6_19 C h dX6_close_16 ?_
      refine lv_aload_n C.x C.b dX6_close_19 rfl (lv_at hl 0 rfl) ?_
      refine g_X6_64 C h dX6_close_20 ?_
      refine lv_iload_n C.x C.b dX6_close_23 rfl (lv_at hl 1 rfl) ?_
      refine lv_iadd C.x C.b dX6_close_24 ?_
      refine p_X6_76 C h dX6_close_25 (fun H locs h => ?_)
      refine lv_aload_n C.x C.b dX6_close_28 rfl (lv_at hl 0 rfl) ?_
      refine g_X6_19 C h dX6_close_29 ?_
      refine lv_iload_n C.x C.b dX6_close_32 rfl (lv_at hl 2 rfl) ?_
      refine p_X6_79 C h dX6_close_33 (fun H locs h => ?_)
      refine lv_aload_n C.x C.b dX6_close_36 rfl (lv_at hl 0 rfl) ?_
      refine g_X6_19 C h dX6_close_37 ?_
      refine g_X6_76 C h dX6_close_40 ?_
      refine vx_ret ?_
      refine W.widen (k := 10) (n := 60) (Nat.le_of_ble_eq_true rfl) (Nat.le_of_ble_eq_true rfl) ?_
      exact rtI C h hr rfl dX6_close_43 ((Eq.mp (congrArg (fun z : Nat × Int32 × St => (z.1 = 0 → post z.2.1 z.2.2)) ((if_pos c2).trans (if_pos c4))) hp) rfl)
theorem M_X6_close (l : Launch) (hfl : l.stackTraces = false) (D : va_G) (E : En) (σ : St) (ok : OK E σ) (p1 : Int32) (p2 : Int32) : CT l yX6_close cX6_close 3 (some .int) rm_X6_close [.ref (ead E 0), .int p1, .int p2] D E σ (fun A => va_Qi (fun r u => (S_X6_close σ p1 p2).1 = 0 ∧ (S_X6_close σ p1 p2).2.1 = r ∧ (S_X6_close σ p1 p2).2.2 = u) (POB D E A) A) (S_X6_close σ p1 p2).1 10 60 :=
  CT.of RX6 (by decide +kernel) rfl (Nat.le_of_ble_eq_true rfl) (fun p e s m below meth c A ls C h hr hex hl => K_X6_close_0 hfl C ok h hr hex hl (fun q => ⟨q, rfl, rfl⟩) rfl)
-- X6_pilot pilot(II)I
theorem cw_X6_88 : CWd RX6 88 yX4_codeAt cX4_codeAt 5 (some .int) 2 := ⟨m_ml_X6_88, m_co_X4_codeAt, m_ini_X4, by decide +kernel, by decide +kernel⟩
abbrev rm_X6_pilot : Room := { frames := 7, cells := 10, slots := 60, locals := 122 }
def S_X6_pilot (σ : St) (p1 : Int32) (p2 : Int32) : Nat × Int32 × St := if (S_X6_requireIndex p1 3) = 0 then (if (S_X6_requireRange p2 0 6) = 0 then (0, (S_X4_codeAt (up2 (up2 σ 12 p1.toNatClampNeg (σ 0 0)) 13 p1.toNatClampNeg p2) p1.toNatClampNeg (σ 0 0)), (up2 (up2 σ 12 p1.toNatClampNeg (σ 0 0)) 13 p1.toNatClampNeg p2)) else ((S_X6_requireRange p2 0 6), 0, σ)) else ((S_X6_requireIndex p1 3), 0, σ)
set_option maxRecDepth 100000 in
set_option maxHeartbeats 4000000 in
theorem K_X6_pilot_0 {p : Program} {l : Launch} {e : Env} {s : State} {m : MethodId} {args : Array Value} {below : List Frame} {meth : Method} {c : Code} {D : va_G} {E : En} {A : Nat → Prop} {post : Int32 → St → Prop} {thr : Nat} (hfl : l.stackTraces = false) (C : CX p s m meth c cX6_pilot RX6 4 D E A) {σ : St} (ok : OK E σ) {p1 : Int32} {p2 : Int32} {H : Heap} {locs : List Loc} (h : HW D E σ A s H locs) (hr : meth.sig.returnType = some .int) (hex : ∀ x ∈ c.exceptionTable.toList, False) {ls : Array Slot} (hl : lv_has ls 4 [(0, .ref (ead E 0)), (1, .int p1), (2, .int p2)]) (hp : (S_X6_pilot σ p1 p2).1 = 0 → post (S_X6_pilot σ p1 p2).2.1 (S_X6_pilot σ p1 p2).2.2) (hT : thr = (S_X6_pilot σ p1 p2).1) : W p l e rm_X6_pilot s m args below meth c H locs 0 0 (vx_MQ below (va_Qi post (POB D E A) A) (XT D E σ A thr) args s 10 60 A) (F0 m 0 ls []) := by
  refine lv_iload_n C.x C.b dX6_pilot_0 rfl (lv_at hl 1 rfl) ?_
  refine lv_iconst (v := 3) C.x C.b dX6_pilot_1 (by decide) ?_
  refine cxSv (As := [.int p1, .int 3]) (rest := []) C h (M_X6_requireIndex l hfl D E _ ok p1 3) cw_X6_60 m_st_X6_requireIndex rfl rfl ⟨Nat.le_of_ble_eq_true rfl, Nat.le_of_ble_eq_true rfl⟩ hl rfl (Nat.le_of_ble_eq_true rfl) dX6_pilot_2 ⟨Nat.le_of_ble_eq_true rfl, Nat.le_of_ble_eq_true rfl⟩ (fun q1k0 ce q9 H locs q1k q1e h h1 h2 h3 => ?_) (fun u H locs q1w h => ?_)
  · exact goX C h hex q1k (hT.trans ((congrArg (fun z : Nat × Int32 × St => z.1) (if_neg (fun z => q1k (q1e.symm.trans z)))).trans q1e)) h1 h2 h3 (Nat.le_of_ble_eq_true rfl) (Nat.le_of_ble_eq_true rfl)
  · skip
    obtain ⟨c2, rfl⟩ := q1w
    have h1 : vp_in p1 3 := ri_3 c2
    refine lv_iload_n C.x C.b dX6_pilot_5 rfl (lv_at hl 2 rfl) ?_
    refine lv_iconst (v := 0) C.x C.b dX6_pilot_6 (by decide) ?_
    refine lv_bipush (v := 6) C.x C.b dX6_pilot_7 (by decide) ?_
    refine cxSv (As := [.int p2, .int 0, .int 6]) (rest := []) C h (M_X6_requireRange l hfl D E _ ok p2 0 6) cw_X6_43 m_st_X6_requireRange rfl rfl ⟨Nat.le_of_ble_eq_true rfl, Nat.le_of_ble_eq_true rfl⟩ hl rfl (Nat.le_of_ble_eq_true rfl) dX6_pilot_9 ⟨Nat.le_of_ble_eq_true rfl, Nat.le_of_ble_eq_true rfl⟩ (fun q3k0 ce q9 H locs q3k q3e h h1 h2 h3 => ?_) (fun u H locs q3w h => ?_)
    · exact goX C h hex q3k (hT.trans ((congrArg (fun z : Nat × Int32 × St => z.1) ((if_pos c2).trans (if_neg (fun z => q3k (q3e.symm.trans z))))).trans q3e)) h1 h2 h3 (Nat.le_of_ble_eq_true rfl) (Nat.le_of_ble_eq_true rfl)
    · skip
      obtain ⟨c4, rfl⟩ := q3w
      refine lv_aload_n C.x C.b dX6_pilot_12 rfl (lv_at hl 0 rfl) ?_
      refine g_X6_19 C h dX6_pilot_13 ?_
      refine g_X6_67 C h dX6_pilot_16 ?_
      refine lv_iload_n C.x C.b dX6_pilot_19 rfl (lv_at hl 1 rfl) ?_
      refine al_3 C h h1 dX6_pilot_20 ?_
      refine lv_astore_n (lv' := [(3, .ref (ead E (4 + p1.toNatClampNeg))), (0, .ref (ead E 0)), (1, .int p1), (2, .int p2)]) C.x C.b dX6_pilot_21 rfl hl (by decide) rfl (fun ls hl => ?_)
      refine lv_aload_n C.x C.b dX6_pilot_22 rfl (lv_at hl 0 rfl) ?_
      refine lv_aload_n C.x C.b dX6_pilot_23 rfl (lv_at hl 1 rfl) ?_
      refine g_X6_64 C h dX6_pilot_24 ?_
      refine p_X6_82 C h (vp_lt h1) dX6_pilot_27 (fun H locs h => ?_)
      refine lv_aload_n C.x C.b dX6_pilot_30 rfl (lv_at hl 0 rfl) ?_
      refine lv_iload_n C.x C.b dX6_pilot_31 rfl (lv_at hl 3 rfl) ?_
      refine p_X6_85 C h (vp_lt h1) dX6_pilot_32 (fun H locs h => ?_)
      refine lv_aload_n C.x C.b dX6_pilot_35 rfl (lv_at hl 0 rfl) ?_
      refine lv_aload_n C.x C.b dX6_pilot_36 rfl (lv_at hl 1 rfl) ?_
      refine g_X6_64 C h dX6_pilot_37 ?_
      refine lv_aload_n C.x C.b dX6_pilot_40 rfl (lv_at hl 1 rfl) ?_
      refine g_X6_10 C h dX6_pilot_41 ?_
      refine caVi (As := [.int (σ 0 0), .ref (ead E 1)]) (rest := []) (q0 := 4 + p1.toNatClampNeg) (ci := 4) C h (M_X4_codeAt l D E _ ((ok.up (by decide) _ _).up (by decide) _ _) p1.toNatClampNeg (vp_lt h1) (σ 0 0)) cw_X6_88 m_im_X4_codeAt m_se_X4_codeAt rfl rfl ⟨Nat.le_of_ble_eq_true rfl, Nat.le_of_ble_eq_true rfl⟩ (wd_t _ (vp_lt h1)) rfl hl rfl (Nat.le_of_ble_eq_true rfl) dX6_pilot_44 ⟨Nat.le_of_ble_eq_true rfl, Nat.le_of_ble_eq_true rfl⟩ (fun r u H locs w5 h => ?_)
      obtain ⟨rfl, rfl⟩ := w5
      refine vx_ret ?_
      refine W.widen (k := 10) (n := 60) (Nat.le_of_ble_eq_true rfl) (Nat.le_of_ble_eq_true rfl) ?_
      exact rtI C h hr rfl dX6_pilot_47 ((Eq.mp (congrArg (fun z : Nat × Int32 × St => (z.1 = 0 → post z.2.1 z.2.2)) ((if_pos c2).trans (if_pos c4))) hp) rfl)
theorem M_X6_pilot (l : Launch) (hfl : l.stackTraces = false) (D : va_G) (E : En) (σ : St) (ok : OK E σ) (p1 : Int32) (p2 : Int32) : CT l yX6_pilot cX6_pilot 4 (some .int) rm_X6_pilot [.ref (ead E 0), .int p1, .int p2] D E σ (fun A => va_Qi (fun r u => (S_X6_pilot σ p1 p2).1 = 0 ∧ (S_X6_pilot σ p1 p2).2.1 = r ∧ (S_X6_pilot σ p1 p2).2.2 = u) (POB D E A) A) (S_X6_pilot σ p1 p2).1 10 60 :=
  CT.of RX6 (by decide +kernel) rfl (Nat.le_of_ble_eq_true rfl) (fun p e s m below meth c A ls C h hr hex hl => K_X6_pilot_0 hfl C ok h hr hex hl (fun q => ⟨q, rfl, rfl⟩) rfl)
-- X6_supply supply(II)I
theorem cw_X6_97 : CWd RX6 97 yX6_requirePossible cX6_requirePossible 1 none 1 := ⟨m_ml_X6_97, m_co_X6_requirePossible, m_ini_X6, by decide +kernel, by decide +kernel⟩
abbrev rm_X6_supply : Room := { frames := 7, cells := 10, slots := 60, locals := 122 }
def S_X6_supply_34 (σ : St) (p1 : Int32) (p2 : Int32) (y0 : Int32) : Nat × Int32 × St := if (S_X6_requirePossible y0) = 0 then (0, ((σ 14 p1.toNatClampNeg) + p2), (up2 (up2 σ 14 p1.toNatClampNeg ((σ 14 p1.toNatClampNeg) + p2)) 18 0 ((σ 18 0) + p2))) else ((S_X6_requirePossible y0), 0, σ)
set_option maxRecDepth 100000 in
set_option maxHeartbeats 4000000 in
theorem K_X6_supply_34 {p : Program} {l : Launch} {e : Env} {s : State} {m : MethodId} {args : Array Value} {below : List Frame} {meth : Method} {c : Code} {D : va_G} {E : En} {A : Nat → Prop} {post : Int32 → St → Prop} {thr : Nat} (hfl : l.stackTraces = false) (C : CX p s m meth c cX6_supply RX6 3 D E A) {σ : St} (ok : OK E σ) {p1 : Int32} {p2 : Int32} {y0 : Int32} (h1 : vp_in p1 3) {H : Heap} {locs : List Loc} (h : HW D E σ A s H locs) (hr : meth.sig.returnType = some .int) (hex : ∀ x ∈ c.exceptionTable.toList, False) {ls : Array Slot} (hl : lv_has ls 3 [(0, .ref (ead E 0)), (1, .int p1), (2, .int p2)]) (hp : (S_X6_supply_34 σ p1 p2 y0).1 = 0 → post (S_X6_supply_34 σ p1 p2 y0).2.1 (S_X6_supply_34 σ p1 p2 y0).2.2) (hT : thr = (S_X6_supply_34 σ p1 p2 y0).1) : W p l e rm_X6_supply s m args below meth c H locs 2 12 (vx_MQ below (va_Qi post (POB D E A) A) (XT D E σ A thr) args s 10 60 A) (F0 m 34 ls [.int y0]) := by
  refine cxSv (As := [.int y0]) (rest := []) C h (M_X6_requirePossible l hfl D E _ ok y0) cw_X6_97 m_st_X6_requirePossible rfl rfl ⟨Nat.le_of_ble_eq_true rfl, Nat.le_of_ble_eq_true rfl⟩ hl rfl (Nat.le_of_ble_eq_true rfl) dX6_supply_34 ⟨Nat.le_of_ble_eq_true rfl, Nat.le_of_ble_eq_true rfl⟩ (fun q1k0 ce q9 H locs q1k q1e h h1 h2 h3 => ?_) (fun u H locs q1w h => ?_)
  · exact goX C h hex q1k (hT.trans ((congrArg (fun z : Nat × Int32 × St => z.1) (if_neg (fun z => q1k (q1e.symm.trans z)))).trans q1e)) h1 h2 h3 (Nat.le_of_ble_eq_true rfl) (Nat.le_of_ble_eq_true rfl)
  · skip
    obtain ⟨c2, rfl⟩ := q1w
    refine lv_aload_n C.x C.b dX6_supply_37 rfl (lv_at hl 0 rfl) ?_
    refine g_X6_26 C h dX6_supply_38 ?_
    refine g_X6_92 C h dX6_supply_41 ?_
    refine lv_iload_n C.x C.b dX6_supply_44 rfl (lv_at hl 1 rfl) ?_
    refine lv_dup2_11 C.x C.b dX6_supply_45 rfl rfl ?_
    refine al_8 C h h1 dX6_supply_46 ?_
    refine lv_iload_n C.x C.b dX6_supply_47 rfl (lv_at hl 2 rfl) ?_
    refine lv_iadd C.x C.b dX6_supply_48 ?_
    refine as_8 C h h1 dX6_supply_49 (fun H locs h => ?_)
    refine lv_aload_n C.x C.b dX6_supply_50 rfl (lv_at hl 0 rfl) ?_
    refine g_X6_26 C h dX6_supply_51 ?_
    refine lv_dup C.x C.b dX6_supply_54 rfl ?_
    refine g_X6_101 C h dX6_supply_55 ?_
    refine lv_iload_n C.x C.b dX6_supply_58 rfl (lv_at hl 2 rfl) ?_
    refine lv_iadd C.x C.b dX6_supply_59 ?_
    refine p_X6_101 C h dX6_supply_60 (fun H locs h => ?_)
    refine lv_aload_n C.x C.b dX6_supply_63 rfl (lv_at hl 0 rfl) ?_
    refine g_X6_26 C h dX6_supply_64 ?_
    refine g_X6_92 C h dX6_supply_67 ?_
    refine lv_iload_n C.x C.b dX6_supply_70 rfl (lv_at hl 1 rfl) ?_
    refine al_8 C h h1 dX6_supply_71 ?_
    refine top_eq (up2_s σ 14 p1.toNatClampNeg ((σ 14 p1.toNatClampNeg) + p2)) ?_
    refine vx_ret ?_
    refine W.widen (k := 10) (n := 60) (Nat.le_of_ble_eq_true rfl) (Nat.le_of_ble_eq_true rfl) ?_
    exact rtI C h hr rfl dX6_supply_72 ((Eq.mp (congrArg (fun z : Nat × Int32 × St => (z.1 = 0 → post z.2.1 z.2.2)) (if_pos c2)) hp) rfl)
def S_X6_supply (σ : St) (p1 : Int32) (p2 : Int32) : Nat × Int32 × St := if (S_X6_requireIndex p1 3) = 0 then (if (S_X6_requireRange p2 1 10000) = 0 then (if 100000 < ((σ 14 p1.toNatClampNeg) + p2) then S_X6_supply_34 σ p1 p2 0 else S_X6_supply_34 σ p1 p2 1) else ((S_X6_requireRange p2 1 10000), 0, σ)) else ((S_X6_requireIndex p1 3), 0, σ)
set_option maxRecDepth 100000 in
set_option maxHeartbeats 4000000 in
theorem K_X6_supply_0 {p : Program} {l : Launch} {e : Env} {s : State} {m : MethodId} {args : Array Value} {below : List Frame} {meth : Method} {c : Code} {D : va_G} {E : En} {A : Nat → Prop} {post : Int32 → St → Prop} {thr : Nat} (hfl : l.stackTraces = false) (C : CX p s m meth c cX6_supply RX6 3 D E A) {σ : St} (ok : OK E σ) {p1 : Int32} {p2 : Int32} {H : Heap} {locs : List Loc} (h : HW D E σ A s H locs) (hr : meth.sig.returnType = some .int) (hex : ∀ x ∈ c.exceptionTable.toList, False) {ls : Array Slot} (hl : lv_has ls 3 [(0, .ref (ead E 0)), (1, .int p1), (2, .int p2)]) (hp : (S_X6_supply σ p1 p2).1 = 0 → post (S_X6_supply σ p1 p2).2.1 (S_X6_supply σ p1 p2).2.2) (hT : thr = (S_X6_supply σ p1 p2).1) : W p l e rm_X6_supply s m args below meth c H locs 0 0 (vx_MQ below (va_Qi post (POB D E A) A) (XT D E σ A thr) args s 10 60 A) (F0 m 0 ls []) := by
  refine lv_iload_n C.x C.b dX6_supply_0 rfl (lv_at hl 1 rfl) ?_
  refine lv_iconst (v := 3) C.x C.b dX6_supply_1 (by decide) ?_
  refine cxSv (As := [.int p1, .int 3]) (rest := []) C h (M_X6_requireIndex l hfl D E _ ok p1 3) cw_X6_60 m_st_X6_requireIndex rfl rfl ⟨Nat.le_of_ble_eq_true rfl, Nat.le_of_ble_eq_true rfl⟩ hl rfl (Nat.le_of_ble_eq_true rfl) dX6_supply_2 ⟨Nat.le_of_ble_eq_true rfl, Nat.le_of_ble_eq_true rfl⟩ (fun q1k0 ce q9 H locs q1k q1e h h1 h2 h3 => ?_) (fun u H locs q1w h => ?_)
  · exact goX C h hex q1k (hT.trans ((congrArg (fun z : Nat × Int32 × St => z.1) (if_neg (fun z => q1k (q1e.symm.trans z)))).trans q1e)) h1 h2 h3 (Nat.le_of_ble_eq_true rfl) (Nat.le_of_ble_eq_true rfl)
  · skip
    obtain ⟨c2, rfl⟩ := q1w
    have h1 : vp_in p1 3 := ri_3 c2
    refine lv_iload_n C.x C.b dX6_supply_5 rfl (lv_at hl 2 rfl) ?_
    refine lv_iconst (v := 1) C.x C.b dX6_supply_6 (by decide) ?_
    refine lv_sipush (v := 10000) C.x C.b dX6_supply_7 (by decide) ?_
    refine cxSv (As := [.int p2, .int 1, .int 10000]) (rest := []) C h (M_X6_requireRange l hfl D E _ ok p2 1 10000) cw_X6_43 m_st_X6_requireRange rfl rfl ⟨Nat.le_of_ble_eq_true rfl, Nat.le_of_ble_eq_true rfl⟩ hl rfl (Nat.le_of_ble_eq_true rfl) dX6_supply_10 ⟨Nat.le_of_ble_eq_true rfl, Nat.le_of_ble_eq_true rfl⟩ (fun q3k0 ce q9 H locs q3k q3e h h1 h2 h3 => ?_) (fun u H locs q3w h => ?_)
    · exact goX C h hex q3k (hT.trans ((congrArg (fun z : Nat × Int32 × St => z.1) ((if_pos c2).trans (if_neg (fun z => q3k (q3e.symm.trans z))))).trans q3e)) h1 h2 h3 (Nat.le_of_ble_eq_true rfl) (Nat.le_of_ble_eq_true rfl)
    · skip
      obtain ⟨c4, rfl⟩ := q3w
      refine lv_aload_n C.x C.b dX6_supply_13 rfl (lv_at hl 0 rfl) ?_
      refine g_X6_26 C h dX6_supply_14 ?_
      refine g_X6_92 C h dX6_supply_17 ?_
      refine lv_iload_n C.x C.b dX6_supply_20 rfl (lv_at hl 1 rfl) ?_
      refine al_8 C h h1 dX6_supply_21 ?_
      refine lv_iload_n C.x C.b dX6_supply_22 rfl (lv_at hl 2 rfl) ?_
      refine lv_iadd C.x C.b dX6_supply_23 ?_
      refine lv_ldc C.x C.b C.ow (C.w _ m_ld_X6_96) dX6_supply_24 ?_
      refine lv_icmp_gt (tgt := 33) C.x C.b dX6_supply_26 (by decide) (fun c5 => ?_) (fun c5 => ?_)
      · skip
        refine lv_iconst (v := 0) C.x C.b dX6_supply_33 (by decide) ?_
        exact K_X6_supply_34 (y0 := 0) hfl C ok h1 h hr hex (lv_sub hl [0, 1, 2] rfl) (Eq.mp (congrArg (fun z : Nat × Int32 × St => (z.1 = 0 → post z.2.1 z.2.2)) ((if_pos c2).trans ((if_pos c4).trans (if_pos c5)))) hp) (hT.trans (congrArg (fun z : Nat × Int32 × St => z.1) ((if_pos c2).trans ((if_pos c4).trans (if_pos c5)))))
      · skip
        refine lv_iconst (v := 1) C.x C.b dX6_supply_29 (by decide) ?_
        refine lv_goto (tgt := 34) C.x C.b dX6_supply_30 (by decide) ?_
        exact K_X6_supply_34 (y0 := 1) hfl C ok h1 h hr hex (lv_sub hl [0, 1, 2] rfl) (Eq.mp (congrArg (fun z : Nat × Int32 × St => (z.1 = 0 → post z.2.1 z.2.2)) ((if_pos c2).trans ((if_pos c4).trans (if_neg c5)))) hp) (hT.trans (congrArg (fun z : Nat × Int32 × St => z.1) ((if_pos c2).trans ((if_pos c4).trans (if_neg c5)))))
theorem M_X6_supply (l : Launch) (hfl : l.stackTraces = false) (D : va_G) (E : En) (σ : St) (ok : OK E σ) (p1 : Int32) (p2 : Int32) : CT l yX6_supply cX6_supply 3 (some .int) rm_X6_supply [.ref (ead E 0), .int p1, .int p2] D E σ (fun A => va_Qi (fun r u => (S_X6_supply σ p1 p2).1 = 0 ∧ (S_X6_supply σ p1 p2).2.1 = r ∧ (S_X6_supply σ p1 p2).2.2 = u) (POB D E A) A) (S_X6_supply σ p1 p2).1 10 60 :=
  CT.of RX6 (by decide +kernel) rfl (Nat.le_of_ble_eq_true rfl) (fun p e s m below meth c A ls C h hr hex hl => K_X6_supply_0 hfl C ok h hr hex hl (fun q => ⟨q, rfl, rfl⟩) rfl)
-- X6_treat treat(IIIII)I
theorem cw_X6_116 : CWd RX6 116 yX6_requireStrength cX6_requireStrength 1 none 1 := ⟨m_ml_X6_116, m_co_X6_requireStrength, m_ini_X6, by decide +kernel, by decide +kernel⟩
theorem cw_X6_123 : CWd RX6 123 yX6_padIsFree cX6_padIsFree 3 (some .boolean) 1 := ⟨m_ml_X6_123, m_co_X6_padIsFree, m_ini_X6, by decide +kernel, by decide +kernel⟩
theorem cw_X6_133 : CWd RX6 133 yX0_beginTreatment cX0_beginTreatment 5 (some .int) 3 := ⟨m_ml_X6_133, m_co_X0_beginTreatment, m_ini_X0, by decide +kernel, by decide +kernel⟩
abbrev rm_X6_treat : Room := { frames := 7, cells := 10, slots := 60, locals := 122 }
def S_X6_treat_117 (σ : St) (p1 : Int32) (p2 : Int32) (p3 : Int32) (p4 : Int32) (p5 : Int32) (y0 : Int32) : Nat × Int32 × St := if (S_X6_requirePossible y0) = 0 then (0, ((S_X0_beginTreatment (up2 σ 14 p3.toNatClampNeg ((σ 14 p3.toNatClampNeg) - p4)) p1.toNatClampNeg p2 p4 (σ 0 0)).2 36 p1.toNatClampNeg), (up2 (up2 (up2 (S_X0_beginTreatment (up2 σ 14 p3.toNatClampNeg ((σ 14 p3.toNatClampNeg) - p4)) p1.toNatClampNeg p2 p4 (σ 0 0)).2 19 0 ((σ 19 0) + ((S_X0_beginTreatment (up2 σ 14 p3.toNatClampNeg ((σ 14 p3.toNatClampNeg) - p4)) p1.toNatClampNeg p2 p4 (σ 0 0)).1))) 33 p1.toNatClampNeg p3) 34 p1.toNatClampNeg p5)) else ((S_X6_requirePossible y0), 0, σ)
set_option maxRecDepth 100000 in
set_option maxHeartbeats 4000000 in
theorem K_X6_treat_117 {p : Program} {l : Launch} {e : Env} {s : State} {m : MethodId} {args : Array Value} {below : List Frame} {meth : Method} {c : Code} {D : va_G} {E : En} {A : Nat → Prop} {post : Int32 → St → Prop} {thr : Nat} (hfl : l.stackTraces = false) (C : CX p s m meth c cX6_treat RX6 7 D E A) {σ : St} (ok : OK E σ) {p1 : Int32} {p2 : Int32} {p3 : Int32} {p4 : Int32} {p5 : Int32} {y0 : Int32} (h1 : IN E p1) (h2 : vp_in p2 3) (h3 : vp_in p3 3) {H : Heap} {locs : List Loc} (h : HW D E σ A s H locs) (hr : meth.sig.returnType = some .int) (hex : ∀ x ∈ c.exceptionTable.toList, False) {ls : Array Slot} (hl : lv_has ls 7 [(0, .ref (ead E 0)), (1, .int p1), (2, .int p2), (3, .int p3), (4, .int p4), (5, .int p5), (6, .ref (ead E (17 + p1.toNatClampNeg)))]) (hp : (S_X6_treat_117 σ p1 p2 p3 p4 p5 y0).1 = 0 → post (S_X6_treat_117 σ p1 p2 p3 p4 p5 y0).2.1 (S_X6_treat_117 σ p1 p2 p3 p4 p5 y0).2.2) (hT : thr = (S_X6_treat_117 σ p1 p2 p3 p4 p5 y0).1) : W p l e rm_X6_treat s m args below meth c H locs 7 42 (vx_MQ below (va_Qi post (POB D E A) A) (XT D E σ A thr) args s 10 60 A) (F0 m 117 ls [.int y0]) := by
  refine cxSv (As := [.int y0]) (rest := []) C h (M_X6_requirePossible l hfl D E _ ok y0) cw_X6_97 m_st_X6_requirePossible rfl rfl ⟨Nat.le_of_ble_eq_true rfl, Nat.le_of_ble_eq_true rfl⟩ hl rfl (Nat.le_of_ble_eq_true rfl) dX6_treat_117 ⟨Nat.le_of_ble_eq_true rfl, Nat.le_of_ble_eq_true rfl⟩ (fun q1k0 ce q9 H locs q1k q1e h h1 h2 h3 => ?_) (fun u H locs q1w h => ?_)
  · exact goX C h hex q1k (hT.trans ((congrArg (fun z : Nat × Int32 × St => z.1) (if_neg (fun z => q1k (q1e.symm.trans z)))).trans q1e)) h1 h2 h3 (Nat.le_of_ble_eq_true rfl) (Nat.le_of_ble_eq_true rfl)
  · skip
    obtain ⟨c2, rfl⟩ := q1w
    refine lv_aload_n C.x C.b dX6_treat_120 rfl (lv_at hl 0 rfl) ?_
    refine g_X6_26 C h dX6_treat_121 ?_
    refine g_X6_92 C h dX6_treat_124 ?_
    refine lv_iload_n C.x C.b dX6_treat_127 rfl (lv_at hl 3 rfl) ?_
    refine lv_dup2_11 C.x C.b dX6_treat_128 rfl rfl ?_
    refine al_8 C h h3 dX6_treat_129 ?_
    refine lv_iload C.x C.b dX6_treat_130 (lv_at hl 4 rfl) ?_
    refine lv_isub C.x C.b dX6_treat_132 ?_
    refine as_8 C h h3 dX6_treat_133 (fun H locs h => ?_)
    refine lv_aload_n C.x C.b dX6_treat_134 rfl (lv_at hl 0 rfl) ?_
    refine g_X6_33 C h dX6_treat_135 ?_
    refine lv_dup C.x C.b dX6_treat_138 rfl ?_
    refine g_X6_130 C h dX6_treat_139 ?_
    refine lv_aload C.x C.b dX6_treat_142 (lv_at hl 6 rfl) ?_
    refine lv_iload_n C.x C.b dX6_treat_144 rfl (lv_at hl 2 rfl) ?_
    refine lv_iload C.x C.b dX6_treat_145 (lv_at hl 4 rfl) ?_
    refine lv_aload_n C.x C.b dX6_treat_147 rfl (lv_at hl 0 rfl) ?_
    refine g_X6_64 C h dX6_treat_148 ?_
    refine caVi (As := [.int p2, .int p4, .int (σ 0 0)]) (rest := [.int (σ 19 0), .ref (ead E 13)]) (q0 := 17 + p1.toNatClampNeg) (ci := 0) C h (M_X0_beginTreatment l D E _ (ok.up (by decide) _ _) p1.toNatClampNeg h1.2 p2 p4 (σ 0 0)) cw_X6_133 m_im_X0_beginTreatment m_se_X0_beginTreatment rfl rfl ⟨Nat.le_of_ble_eq_true rfl, Nat.le_of_ble_eq_true rfl⟩ (wd_k _ h1.2) rfl hl rfl (Nat.le_of_ble_eq_true rfl) dX6_treat_151 ⟨Nat.le_of_ble_eq_true rfl, Nat.le_of_ble_eq_true rfl⟩ (fun r u H locs w3 h => ?_)
    obtain ⟨rfl, rfl⟩ := w3
    refine lv_iadd C.x C.b dX6_treat_154 ?_
    refine p_X6_130 C h dX6_treat_155 (fun H locs h => ?_)
    refine lv_aload C.x C.b dX6_treat_158 (lv_at hl 6 rfl) ?_
    refine lv_iload_n C.x C.b dX6_treat_160 rfl (lv_at hl 3 rfl) ?_
    refine p_X6_137 C h h1.2 dX6_treat_161 (fun H locs h => ?_)
    refine lv_aload C.x C.b dX6_treat_164 (lv_at hl 6 rfl) ?_
    refine lv_iload C.x C.b dX6_treat_166 (lv_at hl 5 rfl) ?_
    refine p_X6_140 C h h1.2 dX6_treat_168 (fun H locs h => ?_)
    refine lv_aload C.x C.b dX6_treat_171 (lv_at hl 6 rfl) ?_
    refine g_X6_143 C h h1.2 dX6_treat_173 ?_
    refine vx_ret ?_
    refine W.widen (k := 10) (n := 60) (Nat.le_of_ble_eq_true rfl) (Nat.le_of_ble_eq_true rfl) ?_
    exact rtI C h hr rfl dX6_treat_176 ((Eq.mp (congrArg (fun z : Nat × Int32 × St => (z.1 = 0 → post z.2.1 z.2.2)) (if_pos c2)) hp) rfl)
def S_X6_treat_95 (σ : St) (p1 : Int32) (p2 : Int32) (p3 : Int32) (p4 : Int32) (p5 : Int32) (y0 : Int32) : Nat × Int32 × St := if (S_X6_requirePossible y0) = 0 then (if (σ 14 p3.toNatClampNeg) < p4 then S_X6_treat_117 σ p1 p2 p3 p4 p5 0 else S_X6_treat_117 σ p1 p2 p3 p4 p5 1) else ((S_X6_requirePossible y0), 0, σ)
set_option maxRecDepth 100000 in
set_option maxHeartbeats 4000000 in
theorem K_X6_treat_95 {p : Program} {l : Launch} {e : Env} {s : State} {m : MethodId} {args : Array Value} {below : List Frame} {meth : Method} {c : Code} {D : va_G} {E : En} {A : Nat → Prop} {post : Int32 → St → Prop} {thr : Nat} (hfl : l.stackTraces = false) (C : CX p s m meth c cX6_treat RX6 7 D E A) {σ : St} (ok : OK E σ) {p1 : Int32} {p2 : Int32} {p3 : Int32} {p4 : Int32} {p5 : Int32} {y0 : Int32} (h1 : IN E p1) (h2 : vp_in p2 3) (h3 : vp_in p3 3) {H : Heap} {locs : List Loc} (h : HW D E σ A s H locs) (hr : meth.sig.returnType = some .int) (hex : ∀ x ∈ c.exceptionTable.toList, False) {ls : Array Slot} (hl : lv_has ls 7 [(0, .ref (ead E 0)), (1, .int p1), (2, .int p2), (3, .int p3), (4, .int p4), (5, .int p5), (6, .ref (ead E (17 + p1.toNatClampNeg)))]) (hp : (S_X6_treat_95 σ p1 p2 p3 p4 p5 y0).1 = 0 → post (S_X6_treat_95 σ p1 p2 p3 p4 p5 y0).2.1 (S_X6_treat_95 σ p1 p2 p3 p4 p5 y0).2.2) (hT : thr = (S_X6_treat_95 σ p1 p2 p3 p4 p5 y0).1) : W p l e rm_X6_treat s m args below meth c H locs 6 36 (vx_MQ below (va_Qi post (POB D E A) A) (XT D E σ A thr) args s 10 60 A) (F0 m 95 ls [.int y0]) := by
  refine cxSv (As := [.int y0]) (rest := []) C h (M_X6_requirePossible l hfl D E _ ok y0) cw_X6_97 m_st_X6_requirePossible rfl rfl ⟨Nat.le_of_ble_eq_true rfl, Nat.le_of_ble_eq_true rfl⟩ hl rfl (Nat.le_of_ble_eq_true rfl) dX6_treat_95 ⟨Nat.le_of_ble_eq_true rfl, Nat.le_of_ble_eq_true rfl⟩ (fun q1k0 ce q9 H locs q1k q1e h h1 h2 h3 => ?_) (fun u H locs q1w h => ?_)
  · exact goX C h hex q1k (hT.trans ((congrArg (fun z : Nat × Int32 × St => z.1) (if_neg (fun z => q1k (q1e.symm.trans z)))).trans q1e)) h1 h2 h3 (Nat.le_of_ble_eq_true rfl) (Nat.le_of_ble_eq_true rfl)
  · skip
    obtain ⟨c2, rfl⟩ := q1w
    refine lv_iload C.x C.b dX6_treat_98 (lv_at hl 4 rfl) ?_
    refine lv_aload_n C.x C.b dX6_treat_100 rfl (lv_at hl 0 rfl) ?_
    refine g_X6_26 C h dX6_treat_101 ?_
    refine g_X6_92 C h dX6_treat_104 ?_
    refine lv_iload_n C.x C.b dX6_treat_107 rfl (lv_at hl 3 rfl) ?_
    refine al_8 C h h3 dX6_treat_108 ?_
    refine lv_icmp_gt (tgt := 116) C.x C.b dX6_treat_109 (by decide) (fun c3 => ?_) (fun c3 => ?_)
    · skip
      refine lv_iconst (v := 0) C.x C.b dX6_treat_116 (by decide) ?_
      exact K_X6_treat_117 (y0 := 0) hfl C ok h1 h2 h3 h hr hex (lv_sub hl [0, 1, 2, 3, 4, 5, 6] rfl) (Eq.mp (congrArg (fun z : Nat × Int32 × St => (z.1 = 0 → post z.2.1 z.2.2)) ((if_pos c2).trans (if_pos c3))) hp) (hT.trans (congrArg (fun z : Nat × Int32 × St => z.1) ((if_pos c2).trans (if_pos c3))))
    · skip
      refine lv_iconst (v := 1) C.x C.b dX6_treat_112 (by decide) ?_
      refine lv_goto (tgt := 117) C.x C.b dX6_treat_113 (by decide) ?_
      exact K_X6_treat_117 (y0 := 1) hfl C ok h1 h2 h3 h hr hex (lv_sub hl [0, 1, 2, 3, 4, 5, 6] rfl) (Eq.mp (congrArg (fun z : Nat × Int32 × St => (z.1 = 0 → post z.2.1 z.2.2)) ((if_pos c2).trans (if_neg c3))) hp) (hT.trans (congrArg (fun z : Nat × Int32 × St => z.1) ((if_pos c2).trans (if_neg c3))))
def S_X6_treat_66 (σ : St) (p1 : Int32) (p2 : Int32) (p3 : Int32) (p4 : Int32) (p5 : Int32) (y0 : Int32) : Nat × Int32 × St := if (S_X6_requirePossible y0) = 0 then (if (S_X6_padIsFree σ p2) = 0 then S_X6_treat_95 σ p1 p2 p3 p4 p5 0 else if (padI p2) < (σ 25 p1.toNatClampNeg) then S_X6_treat_95 σ p1 p2 p3 p4 p5 0 else S_X6_treat_95 σ p1 p2 p3 p4 p5 1) else ((S_X6_requirePossible y0), 0, σ)
set_option maxRecDepth 100000 in
set_option maxHeartbeats 4000000 in
theorem K_X6_treat_66 {p : Program} {l : Launch} {e : Env} {s : State} {m : MethodId} {args : Array Value} {below : List Frame} {meth : Method} {c : Code} {D : va_G} {E : En} {A : Nat → Prop} {post : Int32 → St → Prop} {thr : Nat} (hfl : l.stackTraces = false) (C : CX p s m meth c cX6_treat RX6 7 D E A) {σ : St} (ok : OK E σ) {p1 : Int32} {p2 : Int32} {p3 : Int32} {p4 : Int32} {p5 : Int32} {y0 : Int32} (h1 : IN E p1) (h2 : vp_in p2 3) (h3 : vp_in p3 3) {H : Heap} {locs : List Loc} (h : HW D E σ A s H locs) (hr : meth.sig.returnType = some .int) (hex : ∀ x ∈ c.exceptionTable.toList, False) {ls : Array Slot} (hl : lv_has ls 7 [(0, .ref (ead E 0)), (1, .int p1), (2, .int p2), (3, .int p3), (4, .int p4), (5, .int p5), (6, .ref (ead E (17 + p1.toNatClampNeg)))]) (hp : (S_X6_treat_66 σ p1 p2 p3 p4 p5 y0).1 = 0 → post (S_X6_treat_66 σ p1 p2 p3 p4 p5 y0).2.1 (S_X6_treat_66 σ p1 p2 p3 p4 p5 y0).2.2) (hT : thr = (S_X6_treat_66 σ p1 p2 p3 p4 p5 y0).1) : W p l e rm_X6_treat s m args below meth c H locs 5 30 (vx_MQ below (va_Qi post (POB D E A) A) (XT D E σ A thr) args s 10 60 A) (F0 m 66 ls [.int y0]) := by
  refine cxSv (As := [.int y0]) (rest := []) C h (M_X6_requirePossible l hfl D E _ ok y0) cw_X6_97 m_st_X6_requirePossible rfl rfl ⟨Nat.le_of_ble_eq_true rfl, Nat.le_of_ble_eq_true rfl⟩ hl rfl (Nat.le_of_ble_eq_true rfl) dX6_treat_66 ⟨Nat.le_of_ble_eq_true rfl, Nat.le_of_ble_eq_true rfl⟩ (fun q1k0 ce q9 H locs q1k q1e h h1 h2 h3 => ?_) (fun u H locs q1w h => ?_)
  · exact goX C h hex q1k (hT.trans ((congrArg (fun z : Nat × Int32 × St => z.1) (if_neg (fun z => q1k (q1e.symm.trans z)))).trans q1e)) h1 h2 h3 (Nat.le_of_ble_eq_true rfl) (Nat.le_of_ble_eq_true rfl)
  · skip
    obtain ⟨c2, rfl⟩ := q1w
    refine lv_aload_n C.x C.b dX6_treat_69 rfl (lv_at hl 0 rfl) ?_
    refine lv_iload_n C.x C.b dX6_treat_70 rfl (lv_at hl 2 rfl) ?_
    refine caVi (As := [.int p2]) (rest := []) (q0 := 0) (ci := 6) C h (M_X6_padIsFree l D E _ ok p2) cw_X6_123 m_im_X6_padIsFree m_se_X6_padIsFree rfl rfl ⟨Nat.le_of_ble_eq_true rfl, Nat.le_of_ble_eq_true rfl⟩ rfl rfl hl rfl (Nat.le_of_ble_eq_true rfl) dX6_treat_71 ⟨Nat.le_of_ble_eq_true rfl, Nat.le_of_ble_eq_true rfl⟩ (fun r u H locs w3 h => ?_)
    obtain ⟨rfl, rfl⟩ := w3
    refine lv_if_eq (tgt := 94) C.x C.b dX6_treat_74 (by decide) (fun c4 => ?_) (fun c4 => ?_)
    · skip
      refine lv_iconst (v := 0) C.x C.b dX6_treat_94 (by decide) ?_
      exact K_X6_treat_95 (y0 := 0) hfl C ok h1 h2 h3 h hr hex (lv_sub hl [0, 1, 2, 3, 4, 5, 6] rfl) (Eq.mp (congrArg (fun z : Nat × Int32 × St => (z.1 = 0 → post z.2.1 z.2.2)) ((if_pos c2).trans (if_pos c4))) hp) (hT.trans (congrArg (fun z : Nat × Int32 × St => z.1) ((if_pos c2).trans (if_pos c4))))
    · skip
      refine lv_aload C.x C.b dX6_treat_77 (lv_at hl 6 rfl) ?_
      refine g_X6_127 C h h1.2 dX6_treat_79 ?_
      refine gs_113 C h dX6_treat_82 (fun tp hT5 => ?_)
      refine lv_iload_n C.x C.b dX6_treat_85 rfl (lv_at hl 2 rfl) ?_
      refine al_p C h hT5 h2 dX6_treat_86 ?_
      refine lv_icmp_gt (tgt := 94) C.x C.b dX6_treat_87 (by decide) (fun c6 => ?_) (fun c6 => ?_)
      · skip
        refine lv_iconst (v := 0) C.x C.b dX6_treat_94 (by decide) ?_
        exact K_X6_treat_95 (y0 := 0) hfl C ok h1 h2 h3 h hr hex (lv_sub hl [0, 1, 2, 3, 4, 5, 6] rfl) (Eq.mp (congrArg (fun z : Nat × Int32 × St => (z.1 = 0 → post z.2.1 z.2.2)) ((if_pos c2).trans ((if_neg c4).trans (if_pos c6)))) hp) (hT.trans (congrArg (fun z : Nat × Int32 × St => z.1) ((if_pos c2).trans ((if_neg c4).trans (if_pos c6)))))
      · skip
        refine lv_iconst (v := 1) C.x C.b dX6_treat_90 (by decide) ?_
        refine lv_goto (tgt := 95) C.x C.b dX6_treat_91 (by decide) ?_
        exact K_X6_treat_95 (y0 := 1) hfl C ok h1 h2 h3 h hr hex (lv_sub hl [0, 1, 2, 3, 4, 5, 6] rfl) (Eq.mp (congrArg (fun z : Nat × Int32 × St => (z.1 = 0 → post z.2.1 z.2.2)) ((if_pos c2).trans ((if_neg c4).trans (if_neg c6)))) hp) (hT.trans (congrArg (fun z : Nat × Int32 × St => z.1) ((if_pos c2).trans ((if_neg c4).trans (if_neg c6)))))
def S_X6_treat (σ : St) (p1 : Int32) (p2 : Int32) (p3 : Int32) (p4 : Int32) (p5 : Int32) : Nat × Int32 × St := if (S_X6_requireIndex p1 (σ 1 0)) = 0 then (if (S_X6_requireIndex p2 3) = 0 then (if (S_X6_requireIndex p3 3) = 0 then (if (S_X6_requireRange p4 10 2000) = 0 then (if (S_X6_requireStrength p5) = 0 then (if (σ 28 p1.toNatClampNeg) = 0 then S_X6_treat_66 σ p1 p2 p3 p4 p5 1 else if (σ 28 p1.toNatClampNeg) = 2 then S_X6_treat_66 σ p1 p2 p3 p4 p5 1 else S_X6_treat_66 σ p1 p2 p3 p4 p5 0) else ((S_X6_requireStrength p5), 0, σ)) else ((S_X6_requireRange p4 10 2000), 0, σ)) else ((S_X6_requireIndex p3 3), 0, σ)) else ((S_X6_requireIndex p2 3), 0, σ)) else ((S_X6_requireIndex p1 (σ 1 0)), 0, σ)
set_option maxRecDepth 100000 in
set_option maxHeartbeats 4000000 in
theorem K_X6_treat_0 {p : Program} {l : Launch} {e : Env} {s : State} {m : MethodId} {args : Array Value} {below : List Frame} {meth : Method} {c : Code} {D : va_G} {E : En} {A : Nat → Prop} {post : Int32 → St → Prop} {thr : Nat} (hfl : l.stackTraces = false) (C : CX p s m meth c cX6_treat RX6 7 D E A) {σ : St} (ok : OK E σ) {p1 : Int32} {p2 : Int32} {p3 : Int32} {p4 : Int32} {p5 : Int32} {H : Heap} {locs : List Loc} (h : HW D E σ A s H locs) (hr : meth.sig.returnType = some .int) (hex : ∀ x ∈ c.exceptionTable.toList, False) {ls : Array Slot} (hl : lv_has ls 7 [(0, .ref (ead E 0)), (1, .int p1), (2, .int p2), (3, .int p3), (4, .int p4), (5, .int p5)]) (hp : (S_X6_treat σ p1 p2 p3 p4 p5).1 = 0 → post (S_X6_treat σ p1 p2 p3 p4 p5).2.1 (S_X6_treat σ p1 p2 p3 p4 p5).2.2) (hT : thr = (S_X6_treat σ p1 p2 p3 p4 p5).1) : W p l e rm_X6_treat s m args below meth c H locs 0 0 (vx_MQ below (va_Qi post (POB D E A) A) (XT D E σ A thr) args s 10 60 A) (F0 m 0 ls []) := by
  refine lv_iload_n C.x C.b dX6_treat_0 rfl (lv_at hl 1 rfl) ?_
  refine lv_aload_n C.x C.b dX6_treat_1 rfl (lv_at hl 0 rfl) ?_
  refine g_X6_108 C h dX6_treat_2 ?_
  refine cxSv (As := [.int p1, .int (σ 1 0)]) (rest := []) C h (M_X6_requireIndex l hfl D E _ ok p1 (σ 1 0)) cw_X6_60 m_st_X6_requireIndex rfl rfl ⟨Nat.le_of_ble_eq_true rfl, Nat.le_of_ble_eq_true rfl⟩ hl rfl (Nat.le_of_ble_eq_true rfl) dX6_treat_5 ⟨Nat.le_of_ble_eq_true rfl, Nat.le_of_ble_eq_true rfl⟩ (fun q1k0 ce q9 H locs q1k q1e h h1 h2 h3 => ?_) (fun u H locs q1w h => ?_)
  · exact goX C h hex q1k (hT.trans ((congrArg (fun z : Nat × Int32 × St => z.1) (if_neg (fun z => q1k (q1e.symm.trans z)))).trans q1e)) h1 h2 h3 (Nat.le_of_ble_eq_true rfl) (Nat.le_of_ble_eq_true rfl)
  · skip
    obtain ⟨c2, rfl⟩ := q1w
    have h1 : IN E p1 := ri_n ok c2
    refine lv_iload_n C.x C.b dX6_treat_8 rfl (lv_at hl 2 rfl) ?_
    refine gs_113 C h dX6_treat_9 (fun tp hT3 => ?_)
    refine an_p C h hT3 dX6_treat_12 ?_
    refine cxSv (As := [.int p2, .int 3]) (rest := []) C h (M_X6_requireIndex l hfl D E _ ok p2 3) cw_X6_60 m_st_X6_requireIndex rfl rfl ⟨Nat.le_of_ble_eq_true rfl, Nat.le_of_ble_eq_true rfl⟩ hl rfl (Nat.le_of_ble_eq_true rfl) dX6_treat_13 ⟨Nat.le_of_ble_eq_true rfl, Nat.le_of_ble_eq_true rfl⟩ (fun q4k0 ce q9 H locs q4k q4e h h1 h2 h3 => ?_) (fun u H locs q4w h => ?_)
    · exact goX C h hex q4k (hT.trans ((congrArg (fun z : Nat × Int32 × St => z.1) ((if_pos c2).trans (if_neg (fun z => q4k (q4e.symm.trans z))))).trans q4e)) h1 h2 h3 (Nat.le_of_ble_eq_true rfl) (Nat.le_of_ble_eq_true rfl)
    · skip
      obtain ⟨c5, rfl⟩ := q4w
      have h2 : vp_in p2 3 := ri_3 c5
      refine lv_iload_n C.x C.b dX6_treat_16 rfl (lv_at hl 3 rfl) ?_
      refine lv_iconst (v := 3) C.x C.b dX6_treat_17 (by decide) ?_
      refine cxSv (As := [.int p3, .int 3]) (rest := []) C h (M_X6_requireIndex l hfl D E _ ok p3 3) cw_X6_60 m_st_X6_requireIndex rfl rfl ⟨Nat.le_of_ble_eq_true rfl, Nat.le_of_ble_eq_true rfl⟩ hl rfl (Nat.le_of_ble_eq_true rfl) dX6_treat_18 ⟨Nat.le_of_ble_eq_true rfl, Nat.le_of_ble_eq_true rfl⟩ (fun q6k0 ce q9 H locs q6k q6e h h1 h2 h3 => ?_) (fun u H locs q6w h => ?_)
      · exact goX C h hex q6k (hT.trans ((congrArg (fun z : Nat × Int32 × St => z.1) ((if_pos c2).trans ((if_pos c5).trans (if_neg (fun z => q6k (q6e.symm.trans z)))))).trans q6e)) h1 h2 h3 (Nat.le_of_ble_eq_true rfl) (Nat.le_of_ble_eq_true rfl)
      · skip
        obtain ⟨c7, rfl⟩ := q6w
        have h3 : vp_in p3 3 := ri_3 c7
        refine lv_iload C.x C.b dX6_treat_21 (lv_at hl 4 rfl) ?_
        refine lv_bipush (v := 10) C.x C.b dX6_treat_23 (by decide) ?_
        refine lv_sipush (v := 2000) C.x C.b dX6_treat_25 (by decide) ?_
        refine cxSv (As := [.int p4, .int 10, .int 2000]) (rest := []) C h (M_X6_requireRange l hfl D E _ ok p4 10 2000) cw_X6_43 m_st_X6_requireRange rfl rfl ⟨Nat.le_of_ble_eq_true rfl, Nat.le_of_ble_eq_true rfl⟩ hl rfl (Nat.le_of_ble_eq_true rfl) dX6_treat_28 ⟨Nat.le_of_ble_eq_true rfl, Nat.le_of_ble_eq_true rfl⟩ (fun q8k0 ce q9 H locs q8k q8e h h1 h2 h3 => ?_) (fun u H locs q8w h => ?_)
        · exact goX C h hex q8k (hT.trans ((congrArg (fun z : Nat × Int32 × St => z.1) ((if_pos c2).trans ((if_pos c5).trans ((if_pos c7).trans (if_neg (fun z => q8k (q8e.symm.trans z))))))).trans q8e)) h1 h2 h3 (Nat.le_of_ble_eq_true rfl) (Nat.le_of_ble_eq_true rfl)
        · skip
          obtain ⟨c9, rfl⟩ := q8w
          refine lv_iload C.x C.b dX6_treat_31 (lv_at hl 5 rfl) ?_
          refine cxSv (As := [.int p5]) (rest := []) C h (M_X6_requireStrength l hfl D E _ ok p5) cw_X6_116 m_st_X6_requireStrength rfl rfl ⟨Nat.le_of_ble_eq_true rfl, Nat.le_of_ble_eq_true rfl⟩ hl rfl (Nat.le_of_ble_eq_true rfl) dX6_treat_33 ⟨Nat.le_of_ble_eq_true rfl, Nat.le_of_ble_eq_true rfl⟩ (fun q10k0 ce q9 H locs q10k q10e h h1 h2 h3 => ?_) (fun u H locs q10w h => ?_)
          · exact goX C h hex q10k (hT.trans ((congrArg (fun z : Nat × Int32 × St => z.1) ((if_pos c2).trans ((if_pos c5).trans ((if_pos c7).trans ((if_pos c9).trans (if_neg (fun z => q10k (q10e.symm.trans z)))))))).trans q10e)) h1 h2 h3 (Nat.le_of_ble_eq_true rfl) (Nat.le_of_ble_eq_true rfl)
          · skip
            obtain ⟨c11, rfl⟩ := q10w
            refine lv_aload_n C.x C.b dX6_treat_36 rfl (lv_at hl 0 rfl) ?_
            refine g_X6_39 C h dX6_treat_37 ?_
            refine lv_iload_n C.x C.b dX6_treat_40 rfl (lv_at hl 1 rfl) ?_
            refine al_14 C h h1.1 h1.2 dX6_treat_41 ?_
            refine lv_astore (lv' := [(6, .ref (ead E (17 + p1.toNatClampNeg))), (0, .ref (ead E 0)), (1, .int p1), (2, .int p2), (3, .int p3), (4, .int p4), (5, .int p5)]) C.x C.b dX6_treat_42 hl (by decide) rfl (fun ls hl => ?_)
            refine lv_aload C.x C.b dX6_treat_44 (lv_at hl 0 rfl) ?_
            refine g_X6_120 C h h1.2 dX6_treat_46 ?_
            refine lv_if_eq (tgt := 61) C.x C.b dX6_treat_49 (by decide) (fun c12 => ?_) (fun c12 => ?_)
            · skip
              refine lv_iconst (v := 1) C.x C.b dX6_treat_61 (by decide) ?_
              refine lv_goto (tgt := 66) C.x C.b dX6_treat_62 (by decide) ?_
              exact K_X6_treat_66 (y0 := 1) hfl C ok h1 h2 h3 h hr hex (lv_sub hl [1, 2, 3, 4, 5, 6, 0] rfl) (Eq.mp (congrArg (fun z : Nat × Int32 × St => (z.1 = 0 → post z.2.1 z.2.2)) ((if_pos c2).trans ((if_pos c5).trans ((if_pos c7).trans ((if_pos c9).trans ((if_pos c11).trans (if_pos c12))))))) hp) (hT.trans (congrArg (fun z : Nat × Int32 × St => z.1) ((if_pos c2).trans ((if_pos c5).trans ((if_pos c7).trans ((if_pos c9).trans ((if_pos c11).trans (if_pos c12))))))))
            · skip
              refine lv_aload C.x C.b dX6_treat_52 (lv_at hl 0 rfl) ?_
              refine g_X6_120 C h h1.2 dX6_treat_54 ?_
              refine lv_iconst (v := 2) C.x C.b dX6_treat_57 (by decide) ?_
              refine lv_icmp_ne (tgt := 65) C.x C.b dX6_treat_58 (by decide) (fun c13 => ?_) (fun c13 => ?_)
              · skip
                refine lv_iconst (v := 0) C.x C.b dX6_treat_65 (by decide) ?_
                exact K_X6_treat_66 (y0 := 0) hfl C ok h1 h2 h3 h hr hex (lv_sub hl [1, 2, 3, 4, 5, 6, 0] rfl) (Eq.mp (congrArg (fun z : Nat × Int32 × St => (z.1 = 0 → post z.2.1 z.2.2)) ((if_pos c2).trans ((if_pos c5).trans ((if_pos c7).trans ((if_pos c9).trans ((if_pos c11).trans ((if_neg c12).trans (if_neg c13)))))))) hp) (hT.trans (congrArg (fun z : Nat × Int32 × St => z.1) ((if_pos c2).trans ((if_pos c5).trans ((if_pos c7).trans ((if_pos c9).trans ((if_pos c11).trans ((if_neg c12).trans (if_neg c13)))))))))
              · skip
                refine lv_iconst (v := 1) C.x C.b dX6_treat_61 (by decide) ?_
                refine lv_goto (tgt := 66) C.x C.b dX6_treat_62 (by decide) ?_
                exact K_X6_treat_66 (y0 := 1) hfl C ok h1 h2 h3 h hr hex (lv_sub hl [1, 2, 3, 4, 5, 6, 0] rfl) (Eq.mp (congrArg (fun z : Nat × Int32 × St => (z.1 = 0 → post z.2.1 z.2.2)) ((if_pos c2).trans ((if_pos c5).trans ((if_pos c7).trans ((if_pos c9).trans ((if_pos c11).trans ((if_neg c12).trans (if_pos c13)))))))) hp) (hT.trans (congrArg (fun z : Nat × Int32 × St => z.1) ((if_pos c2).trans ((if_pos c5).trans ((if_pos c7).trans ((if_pos c9).trans ((if_pos c11).trans ((if_neg c12).trans (if_pos c13)))))))))
theorem M_X6_treat (l : Launch) (hfl : l.stackTraces = false) (D : va_G) (E : En) (σ : St) (ok : OK E σ) (p1 : Int32) (p2 : Int32) (p3 : Int32) (p4 : Int32) (p5 : Int32) : CT l yX6_treat cX6_treat 7 (some .int) rm_X6_treat [.ref (ead E 0), .int p1, .int p2, .int p3, .int p4, .int p5] D E σ (fun A => va_Qi (fun r u => (S_X6_treat σ p1 p2 p3 p4 p5).1 = 0 ∧ (S_X6_treat σ p1 p2 p3 p4 p5).2.1 = r ∧ (S_X6_treat σ p1 p2 p3 p4 p5).2.2 = u) (POB D E A) A) (S_X6_treat σ p1 p2 p3 p4 p5).1 10 60 :=
  CT.of RX6 (by decide +kernel) rfl (Nat.le_of_ble_eq_true rfl) (fun p e s m below meth c A ls C h hr hex hl => K_X6_treat_0 hfl C ok h hr hex hl (fun q => ⟨q, rfl, rfl⟩) rfl)
-- X6_cancel cancel(I)I
abbrev rm_X6_cancel : Room := { frames := 7, cells := 10, slots := 60, locals := 121 }
def S_X6_cancel_27 (σ : St) (p1 : Int32) (y0 : Int32) : Nat × Int32 × St := if (S_X6_requirePossible y0) = 0 then (0, (σ 28 p1.toNatClampNeg), (up2 σ 28 p1.toNatClampNeg 4)) else ((S_X6_requirePossible y0), 0, σ)
set_option maxRecDepth 100000 in
set_option maxHeartbeats 4000000 in
theorem K_X6_cancel_27 {p : Program} {l : Launch} {e : Env} {s : State} {m : MethodId} {args : Array Value} {below : List Frame} {meth : Method} {c : Code} {D : va_G} {E : En} {A : Nat → Prop} {post : Int32 → St → Prop} {thr : Nat} (hfl : l.stackTraces = false) (C : CX p s m meth c cX6_cancel RX6 4 D E A) {σ : St} (ok : OK E σ) {p1 : Int32} {y0 : Int32} (h1 : IN E p1) {H : Heap} {locs : List Loc} (h : HW D E σ A s H locs) (hr : meth.sig.returnType = some .int) (hex : ∀ x ∈ c.exceptionTable.toList, False) {ls : Array Slot} (hl : lv_has ls 4 [(0, .ref (ead E 0)), (1, .int p1), (2, .ref (ead E (17 + p1.toNatClampNeg)))]) (hp : (S_X6_cancel_27 σ p1 y0).1 = 0 → post (S_X6_cancel_27 σ p1 y0).2.1 (S_X6_cancel_27 σ p1 y0).2.2) (hT : thr = (S_X6_cancel_27 σ p1 y0).1) : W p l e rm_X6_cancel s m args below meth c H locs 1 6 (vx_MQ below (va_Qi post (POB D E A) A) (XT D E σ A thr) args s 10 60 A) (F0 m 27 ls [.int y0]) := by
  refine cxSv (As := [.int y0]) (rest := []) C h (M_X6_requirePossible l hfl D E _ ok y0) cw_X6_97 m_st_X6_requirePossible rfl rfl ⟨Nat.le_of_ble_eq_true rfl, Nat.le_of_ble_eq_true rfl⟩ hl rfl (Nat.le_of_ble_eq_true rfl) dX6_cancel_27 ⟨Nat.le_of_ble_eq_true rfl, Nat.le_of_ble_eq_true rfl⟩ (fun q1k0 ce q9 H locs q1k q1e h h1 h2 h3 => ?_) (fun u H locs q1w h => ?_)
  · exact goX C h hex q1k (hT.trans ((congrArg (fun z : Nat × Int32 × St => z.1) (if_neg (fun z => q1k (q1e.symm.trans z)))).trans q1e)) h1 h2 h3 (Nat.le_of_ble_eq_true rfl) (Nat.le_of_ble_eq_true rfl)
  · skip
    obtain ⟨c2, rfl⟩ := q1w
    refine lv_aload_n C.x C.b dX6_cancel_30 rfl (lv_at hl 2 rfl) ?_
    refine g_X6_120 C h h1.2 dX6_cancel_31 ?_
    refine lv_istore_n (lv' := [(3, .int (σ 28 p1.toNatClampNeg)), (0, .ref (ead E 0)), (1, .int p1), (2, .ref (ead E (17 + p1.toNatClampNeg)))]) C.x C.b dX6_cancel_34 rfl hl (by decide) rfl (fun ls hl => ?_)
    refine lv_aload_n C.x C.b dX6_cancel_35 rfl (lv_at hl 3 rfl) ?_
    refine lv_iconst (v := 4) C.x C.b dX6_cancel_36 (by decide) ?_
    refine p_X6_120 C h h1.2 dX6_cancel_37 (fun H locs h => ?_)
    refine lv_iload_n C.x C.b dX6_cancel_40 rfl (lv_at hl 0 rfl) ?_
    refine vx_ret ?_
    refine W.widen (k := 10) (n := 60) (Nat.le_of_ble_eq_true rfl) (Nat.le_of_ble_eq_true rfl) ?_
    exact rtI C h hr rfl dX6_cancel_41 ((Eq.mp (congrArg (fun z : Nat × Int32 × St => (z.1 = 0 → post z.2.1 z.2.2)) (if_pos c2)) hp) rfl)
def S_X6_cancel (σ : St) (p1 : Int32) : Nat × Int32 × St := if (S_X6_requireIndex p1 (σ 1 0)) = 0 then (if (S_X0_isOver σ p1.toNatClampNeg) = 0 then S_X6_cancel_27 σ p1 1 else S_X6_cancel_27 σ p1 0) else ((S_X6_requireIndex p1 (σ 1 0)), 0, σ)
set_option maxRecDepth 100000 in
set_option maxHeartbeats 4000000 in
theorem K_X6_cancel_0 {p : Program} {l : Launch} {e : Env} {s : State} {m : MethodId} {args : Array Value} {below : List Frame} {meth : Method} {c : Code} {D : va_G} {E : En} {A : Nat → Prop} {post : Int32 → St → Prop} {thr : Nat} (hfl : l.stackTraces = false) (C : CX p s m meth c cX6_cancel RX6 4 D E A) {σ : St} (ok : OK E σ) {p1 : Int32} {H : Heap} {locs : List Loc} (h : HW D E σ A s H locs) (hr : meth.sig.returnType = some .int) (hex : ∀ x ∈ c.exceptionTable.toList, False) {ls : Array Slot} (hl : lv_has ls 4 [(0, .ref (ead E 0)), (1, .int p1)]) (hp : (S_X6_cancel σ p1).1 = 0 → post (S_X6_cancel σ p1).2.1 (S_X6_cancel σ p1).2.2) (hT : thr = (S_X6_cancel σ p1).1) : W p l e rm_X6_cancel s m args below meth c H locs 0 0 (vx_MQ below (va_Qi post (POB D E A) A) (XT D E σ A thr) args s 10 60 A) (F0 m 0 ls []) := by
  refine lv_iload_n C.x C.b dX6_cancel_0 rfl (lv_at hl 1 rfl) ?_
  refine lv_aload_n C.x C.b dX6_cancel_1 rfl (lv_at hl 0 rfl) ?_
  refine g_X6_108 C h dX6_cancel_2 ?_
  refine cxSv (As := [.int p1, .int (σ 1 0)]) (rest := []) C h (M_X6_requireIndex l hfl D E _ ok p1 (σ 1 0)) cw_X6_60 m_st_X6_requireIndex rfl rfl ⟨Nat.le_of_ble_eq_true rfl, Nat.le_of_ble_eq_true rfl⟩ hl rfl (Nat.le_of_ble_eq_true rfl) dX6_cancel_5 ⟨Nat.le_of_ble_eq_true rfl, Nat.le_of_ble_eq_true rfl⟩ (fun q1k0 ce q9 H locs q1k q1e h h1 h2 h3 => ?_) (fun u H locs q1w h => ?_)
  · exact goX C h hex q1k (hT.trans ((congrArg (fun z : Nat × Int32 × St => z.1) (if_neg (fun z => q1k (q1e.symm.trans z)))).trans q1e)) h1 h2 h3 (Nat.le_of_ble_eq_true rfl) (Nat.le_of_ble_eq_true rfl)
  · skip
    obtain ⟨c2, rfl⟩ := q1w
    have h1 : IN E p1 := ri_n ok c2
    refine lv_aload_n C.x C.b dX6_cancel_8 rfl (lv_at hl 0 rfl) ?_
    refine g_X6_39 C h dX6_cancel_9 ?_
    refine lv_iload_n C.x C.b dX6_cancel_12 rfl (lv_at hl 1 rfl) ?_
    refine al_14 C h h1.1 h1.2 dX6_cancel_13 ?_
    refine lv_astore_n (lv' := [(2, .ref (ead E (17 + p1.toNatClampNeg))), (0, .ref (ead E 0)), (1, .int p1)]) C.x C.b dX6_cancel_14 rfl hl (by decide) rfl (fun ls hl => ?_)
    refine lv_aload_n C.x C.b dX6_cancel_15 rfl (lv_at hl 0 rfl) ?_
    refine caVi (As := []) (rest := []) (q0 := 17 + p1.toNatClampNeg) (ci := 0) C h (M_X0_isOver l D E _ ok p1.toNatClampNeg h1.2) cw_X6_146 m_im_X0_isOver m_se_X0_isOver rfl rfl ⟨Nat.le_of_ble_eq_true rfl, Nat.le_of_ble_eq_true rfl⟩ (wd_k _ h1.2) rfl hl rfl (Nat.le_of_ble_eq_true rfl) dX6_cancel_16 ⟨Nat.le_of_ble_eq_true rfl, Nat.le_of_ble_eq_true rfl⟩ (fun r u H locs w3 h => ?_)
    obtain ⟨rfl, rfl⟩ := w3
    refine lv_if_ne (tgt := 26) C.x C.b dX6_cancel_19 (by decide) (fun c4 => ?_) (fun c4 => ?_)
    · skip
      refine lv_iconst (v := 0) C.x C.b dX6_cancel_26 (by decide) ?_
      exact K_X6_cancel_27 (y0 := 0) hfl C ok h1 h hr hex (lv_sub hl [1, 2, 0] rfl) (Eq.mp (congrArg (fun z : Nat × Int32 × St => (z.1 = 0 → post z.2.1 z.2.2)) ((if_pos c2).trans (if_neg c4))) hp) (hT.trans (congrArg (fun z : Nat × Int32 × St => z.1) ((if_pos c2).trans (if_neg c4))))
    · skip
      refine lv_iconst (v := 1) C.x C.b dX6_cancel_22 (by decide) ?_
      refine lv_goto (tgt := 27) C.x C.b dX6_cancel_23 (by decide) ?_
      exact K_X6_cancel_27 (y0 := 1) hfl C ok h1 h hr hex (lv_sub hl [1, 2, 0] rfl) (Eq.mp (congrArg (fun z : Nat × Int32 × St => (z.1 = 0 → post z.2.1 z.2.2)) ((if_pos c2).trans (if_pos c4))) hp) (hT.trans (congrArg (fun z : Nat × Int32 × St => z.1) ((if_pos c2).trans (if_pos c4))))
theorem M_X6_cancel (l : Launch) (hfl : l.stackTraces = false) (D : va_G) (E : En) (σ : St) (ok : OK E σ) (p1 : Int32) : CT l yX6_cancel cX6_cancel 4 (some .int) rm_X6_cancel [.ref (ead E 0), .int p1] D E σ (fun A => va_Qi (fun r u => (S_X6_cancel σ p1).1 = 0 ∧ (S_X6_cancel σ p1).2.1 = r ∧ (S_X6_cancel σ p1).2.2 = u) (POB D E A) A) (S_X6_cancel σ p1).1 10 60 :=
  CT.of RX6 (by decide +kernel) rfl (Nat.le_of_ble_eq_true rfl) (fun p e s m below meth c A ls C h hr hex hl => K_X6_cancel_0 hfl C ok h hr hex hl (fun q => ⟨q, rfl, rfl⟩) rfl)
-- X6_release release(I)I
theorem cw_X6_153 : CWd RX6 153 yX1_riverOn cX1_riverOn 2 (some .int) 1 := ⟨m_ml_X6_153, m_co_X1_riverOn, m_ini_X1, by decide +kernel, by decide +kernel⟩
abbrev rm_X6_release : Room := { frames := 7, cells := 10, slots := 60, locals := 122 }
def S_X6_release_54 (σ : St) (p1 : Int32) (v2 : Int32) (v3 : Int32) (y0 : Int32) : Nat × Int32 × St := if (S_X6_requirePossible y0) = 0 then (0, v3, (up2 (up2 (up2 (up2 σ 19 0 ((σ 19 0) - p1)) 21 0 ((σ 21 0) + p1)) 23 0 v2) 24 0 v3)) else ((S_X6_requirePossible y0), 0, σ)
set_option maxRecDepth 100000 in
set_option maxHeartbeats 4000000 in
theorem K_X6_release_54 {p : Program} {l : Launch} {e : Env} {s : State} {m : MethodId} {args : Array Value} {below : List Frame} {meth : Method} {c : Code} {D : va_G} {E : En} {A : Nat → Prop} {post : Int32 → St → Prop} {thr : Nat} (hfl : l.stackTraces = false) (C : CX p s m meth c cX6_release RX6 4 D E A) {σ : St} (ok : OK E σ) {p1 : Int32} {v2 : Int32} {v3 : Int32} {y0 : Int32} {H : Heap} {locs : List Loc} (h : HW D E σ A s H locs) (hr : meth.sig.returnType = some .int) (hex : ∀ x ∈ c.exceptionTable.toList, False) {ls : Array Slot} (hl : lv_has ls 4 [(0, .ref (ead E 0)), (1, .int p1), (2, .int v2), (3, .int v3)]) (hp : (S_X6_release_54 σ p1 v2 v3 y0).1 = 0 → post (S_X6_release_54 σ p1 v2 v3 y0).2.1 (S_X6_release_54 σ p1 v2 v3 y0).2.2) (hT : thr = (S_X6_release_54 σ p1 v2 v3 y0).1) : W p l e rm_X6_release s m args below meth c H locs 1 6 (vx_MQ below (va_Qi post (POB D E A) A) (XT D E σ A thr) args s 10 60 A) (F0 m 54 ls [.int y0]) := by
  refine cxSv (As := [.int y0]) (rest := []) C h (M_X6_requirePossible l hfl D E _ ok y0) cw_X6_97 m_st_X6_requirePossible rfl rfl ⟨Nat.le_of_ble_eq_true rfl, Nat.le_of_ble_eq_true rfl⟩ hl rfl (Nat.le_of_ble_eq_true rfl) dX6_release_54 ⟨Nat.le_of_ble_eq_true rfl, Nat.le_of_ble_eq_true rfl⟩ (fun q1k0 ce q9 H locs q1k q1e h h1 h2 h3 => ?_) (fun u H locs q1w h => ?_)
  · exact goX C h hex q1k (hT.trans ((congrArg (fun z : Nat × Int32 × St => z.1) (if_neg (fun z => q1k (q1e.symm.trans z)))).trans q1e)) h1 h2 h3 (Nat.le_of_ble_eq_true rfl) (Nat.le_of_ble_eq_true rfl)
  · skip
    obtain ⟨c2, rfl⟩ := q1w
    refine lv_aload_n C.x C.b dX6_release_57 rfl (lv_at hl 0 rfl) ?_
    refine g_X6_33 C h dX6_release_58 ?_
    refine lv_dup C.x C.b dX6_release_61 rfl ?_
    refine g_X6_130 C h dX6_release_62 ?_
    refine lv_iload_n C.x C.b dX6_release_65 rfl (lv_at hl 1 rfl) ?_
    refine lv_isub C.x C.b dX6_release_66 ?_
    refine p_X6_130 C h dX6_release_67 (fun H locs h => ?_)
    refine lv_aload_n C.x C.b dX6_release_70 rfl (lv_at hl 0 rfl) ?_
    refine g_X6_33 C h dX6_release_71 ?_
    refine lv_dup C.x C.b dX6_release_74 rfl ?_
    refine g_X6_157 C h dX6_release_75 ?_
    refine lv_iload_n C.x C.b dX6_release_78 rfl (lv_at hl 1 rfl) ?_
    refine lv_iadd C.x C.b dX6_release_79 ?_
    refine p_X6_157 C h dX6_release_80 (fun H locs h => ?_)
    refine lv_aload_n C.x C.b dX6_release_83 rfl (lv_at hl 0 rfl) ?_
    refine g_X6_33 C h dX6_release_84 ?_
    refine lv_iload_n C.x C.b dX6_release_87 rfl (lv_at hl 2 rfl) ?_
    refine p_X6_160 C h dX6_release_88 (fun H locs h => ?_)
    refine lv_aload_n C.x C.b dX6_release_91 rfl (lv_at hl 0 rfl) ?_
    refine g_X6_33 C h dX6_release_92 ?_
    refine lv_iload_n C.x C.b dX6_release_95 rfl (lv_at hl 3 rfl) ?_
    refine p_X6_163 C h dX6_release_96 (fun H locs h => ?_)
    refine lv_iload_n C.x C.b dX6_release_99 rfl (lv_at hl 3 rfl) ?_
    refine vx_ret ?_
    refine W.widen (k := 10) (n := 60) (Nat.le_of_ble_eq_true rfl) (Nat.le_of_ble_eq_true rfl) ?_
    exact rtI C h hr rfl dX6_release_100 ((Eq.mp (congrArg (fun z : Nat × Int32 × St => (z.1 = 0 → post z.2.1 z.2.2)) (if_pos c2)) hp) rfl)
def S_X6_release (σ : St) (p1 : Int32) : Nat × Int32 × St := if (S_X6_requireRange p1 1 100000) = 0 then (if (σ 19 0) < p1 then S_X6_release_54 σ p1 ((σ 0 0) / 1440) ((S_X1_riverOn σ ((σ 0 0) / 1440)) + p1) 0 else if (σ 22 0) < ((S_X1_riverOn σ ((σ 0 0) / 1440)) + p1) then S_X6_release_54 σ p1 ((σ 0 0) / 1440) ((S_X1_riverOn σ ((σ 0 0) / 1440)) + p1) 0 else S_X6_release_54 σ p1 ((σ 0 0) / 1440) ((S_X1_riverOn σ ((σ 0 0) / 1440)) + p1) 1) else ((S_X6_requireRange p1 1 100000), 0, σ)
set_option maxRecDepth 100000 in
set_option maxHeartbeats 4000000 in
theorem K_X6_release_0 {p : Program} {l : Launch} {e : Env} {s : State} {m : MethodId} {args : Array Value} {below : List Frame} {meth : Method} {c : Code} {D : va_G} {E : En} {A : Nat → Prop} {post : Int32 → St → Prop} {thr : Nat} (hfl : l.stackTraces = false) (C : CX p s m meth c cX6_release RX6 4 D E A) {σ : St} (ok : OK E σ) {p1 : Int32} {H : Heap} {locs : List Loc} (h : HW D E σ A s H locs) (hr : meth.sig.returnType = some .int) (hex : ∀ x ∈ c.exceptionTable.toList, False) {ls : Array Slot} (hl : lv_has ls 4 [(0, .ref (ead E 0)), (1, .int p1)]) (hp : (S_X6_release σ p1).1 = 0 → post (S_X6_release σ p1).2.1 (S_X6_release σ p1).2.2) (hT : thr = (S_X6_release σ p1).1) : W p l e rm_X6_release s m args below meth c H locs 0 0 (vx_MQ below (va_Qi post (POB D E A) A) (XT D E σ A thr) args s 10 60 A) (F0 m 0 ls []) := by
  refine lv_iload_n C.x C.b dX6_release_0 rfl (lv_at hl 1 rfl) ?_
  refine lv_iconst (v := 1) C.x C.b dX6_release_1 (by decide) ?_
  refine lv_ldc C.x C.b C.ow (C.w _ m_ld_X6_96) dX6_release_2 ?_
  refine cxSv (As := [.int p1, .int 1, .int 100000]) (rest := []) C h (M_X6_requireRange l hfl D E _ ok p1 1 100000) cw_X6_43 m_st_X6_requireRange rfl rfl ⟨Nat.le_of_ble_eq_true rfl, Nat.le_of_ble_eq_true rfl⟩ hl rfl (Nat.le_of_ble_eq_true rfl) dX6_release_4 ⟨Nat.le_of_ble_eq_true rfl, Nat.le_of_ble_eq_true rfl⟩ (fun q1k0 ce q9 H locs q1k q1e h h1 h2 h3 => ?_) (fun u H locs q1w h => ?_)
  · exact goX C h hex q1k (hT.trans ((congrArg (fun z : Nat × Int32 × St => z.1) (if_neg (fun z => q1k (q1e.symm.trans z)))).trans q1e)) h1 h2 h3 (Nat.le_of_ble_eq_true rfl) (Nat.le_of_ble_eq_true rfl)
  · skip
    obtain ⟨c2, rfl⟩ := q1w
    refine lv_aload_n C.x C.b dX6_release_7 rfl (lv_at hl 0 rfl) ?_
    refine g_X6_64 C h dX6_release_8 ?_
    refine lv_sipush (v := 1440) C.x C.b dX6_release_11 (by decide) ?_
    refine lv_idiv C.x C.b dX6_release_14 (by decide) ?_
    refine lv_istore_n (lv' := [(2, .int ((σ 0 0) / 1440)), (0, .ref (ead E 0)), (1, .int p1)]) C.x C.b dX6_release_15 rfl hl (by decide) rfl (fun ls hl => ?_)
    refine lv_aload_n C.x C.b dX6_release_16 rfl (lv_at hl 1 rfl) ?_
    refine g_X6_33 C h dX6_release_17 ?_
    refine lv_iload_n C.x C.b dX6_release_20 rfl (lv_at hl 0 rfl) ?_
    refine caVi (As := [.int ((σ 0 0) / 1440)]) (rest := []) (q0 := 13) (ci := 1) C h (M_X1_riverOn l D E _ ok ((σ 0 0) / 1440)) cw_X6_153 m_im_X1_riverOn m_se_X1_riverOn rfl rfl ⟨Nat.le_of_ble_eq_true rfl, Nat.le_of_ble_eq_true rfl⟩ rfl rfl hl rfl (Nat.le_of_ble_eq_true rfl) dX6_release_21 ⟨Nat.le_of_ble_eq_true rfl, Nat.le_of_ble_eq_true rfl⟩ (fun r u H locs w3 h => ?_)
    obtain ⟨rfl, rfl⟩ := w3
    refine lv_iload_n C.x C.b dX6_release_24 rfl (lv_at hl 2 rfl) ?_
    refine lv_iadd C.x C.b dX6_release_25 ?_
    refine lv_istore_n (lv' := [(3, .int ((S_X1_riverOn σ ((σ 0 0) / 1440)) + p1)), (2, .int ((σ 0 0) / 1440)), (0, .ref (ead E 0)), (1, .int p1)]) C.x C.b dX6_release_26 rfl hl (by decide) rfl (fun ls hl => ?_)
    refine lv_iload_n C.x C.b dX6_release_27 rfl (lv_at hl 3 rfl) ?_
    refine lv_aload_n C.x C.b dX6_release_28 rfl (lv_at hl 2 rfl) ?_
    refine g_X6_33 C h dX6_release_29 ?_
    refine g_X6_130 C h dX6_release_32 ?_
    refine lv_icmp_gt (tgt := 53) C.x C.b dX6_release_35 (by decide) (fun c4 => ?_) (fun c4 => ?_)
    · skip
      refine lv_iconst (v := 0) C.x C.b dX6_release_53 (by decide) ?_
      exact K_X6_release_54 (v2 := ((σ 0 0) / 1440)) (v3 := ((S_X1_riverOn σ ((σ 0 0) / 1440)) + p1)) (y0 := 0) hfl C ok h hr hex (lv_sub hl [2, 3, 1, 0] rfl) (Eq.mp (congrArg (fun z : Nat × Int32 × St => (z.1 = 0 → post z.2.1 z.2.2)) ((if_pos c2).trans (if_pos c4))) hp) (hT.trans (congrArg (fun z : Nat × Int32 × St => z.1) ((if_pos c2).trans (if_pos c4))))
    · skip
      refine lv_iload_n C.x C.b dX6_release_38 rfl (lv_at hl 0 rfl) ?_
      refine lv_aload_n C.x C.b dX6_release_39 rfl (lv_at hl 2 rfl) ?_
      refine g_X6_33 C h dX6_release_40 ?_
      refine g_X6_150 C h dX6_release_43 ?_
      refine lv_icmp_gt (tgt := 53) C.x C.b dX6_release_46 (by decide) (fun c5 => ?_) (fun c5 => ?_)
      · skip
        refine lv_iconst (v := 0) C.x C.b dX6_release_53 (by decide) ?_
        exact K_X6_release_54 (v2 := ((σ 0 0) / 1440)) (v3 := ((S_X1_riverOn σ ((σ 0 0) / 1440)) + p1)) (y0 := 0) hfl C ok h hr hex (lv_sub hl [2, 3, 1, 0] rfl) (Eq.mp (congrArg (fun z : Nat × Int32 × St => (z.1 = 0 → post z.2.1 z.2.2)) ((if_pos c2).trans ((if_neg c4).trans (if_pos c5)))) hp) (hT.trans (congrArg (fun z : Nat × Int32 × St => z.1) ((if_pos c2).trans ((if_neg c4).trans (if_pos c5)))))
      · skip
        refine lv_iconst (v := 1) C.x C.b dX6_release_49 (by decide) ?_
        refine lv_goto (tgt := 54) C.x C.b dX6_release_50 (by decide) ?_
        exact K_X6_release_54 (v2 := ((σ 0 0) / 1440)) (v3 := ((S_X1_riverOn σ ((σ 0 0) / 1440)) + p1)) (y0 := 1) hfl C ok h hr hex (lv_sub hl [2, 3, 1, 0] rfl) (Eq.mp (congrArg (fun z : Nat × Int32 × St => (z.1 = 0 → post z.2.1 z.2.2)) ((if_pos c2).trans ((if_neg c4).trans (if_neg c5)))) hp) (hT.trans (congrArg (fun z : Nat × Int32 × St => z.1) ((if_pos c2).trans ((if_neg c4).trans (if_neg c5)))))
theorem M_X6_release (l : Launch) (hfl : l.stackTraces = false) (D : va_G) (E : En) (σ : St) (ok : OK E σ) (p1 : Int32) : CT l yX6_release cX6_release 4 (some .int) rm_X6_release [.ref (ead E 0), .int p1] D E σ (fun A => va_Qi (fun r u => (S_X6_release σ p1).1 = 0 ∧ (S_X6_release σ p1).2.1 = r ∧ (S_X6_release σ p1).2.2 = u) (POB D E A) A) (S_X6_release σ p1).1 10 60 :=
  CT.of RX6 (by decide +kernel) rfl (Nat.le_of_ble_eq_true rfl) (fun p e s m below meth c A ls C h hr hex hl => K_X6_release_0 hfl C ok h hr hex hl (fun q => ⟨q, rfl, rfl⟩) rfl)
-- X6_pass pass(I)I
theorem cw_X6_166 : CWd RX6 166 yX6_liveMinute cX6_liveMinute 1 none 0 := ⟨m_ml_X6_166, m_co_X6_liveMinute, m_ini_X6, by decide +kernel, by decide +kernel⟩
abbrev rm_X6_pass : Room := { frames := 7, cells := 10, slots := 60, locals := 133 }
def S_X6_pass_10 : Nat → St → Int32 → Nat → Nat × Int32 × St
  | 0, σ, _, _ => (0, 0, σ)
  | n + 1, σ, p1, j2 => if p1 ≤ (nI j2) then (0, (σ 0 0), σ) else S_X6_pass_10 n (S_X6_liveMinute σ) p1 (j2 + 1)
theorem S_X6_pass_10_s (n : Nat) (σ : St) (p1 : Int32) (j2 : Nat) : S_X6_pass_10 (n + 1) σ p1 j2 = if p1 ≤ (nI j2) then (0, (σ 0 0), σ) else S_X6_pass_10 n (S_X6_liveMinute σ) p1 (j2 + 1) := rfl
set_option maxRecDepth 100000 in
set_option maxHeartbeats 4000000 in
theorem K_X6_pass_10 {p : Program} {l : Launch} {e : Env} {s : State} {m : MethodId} {args : Array Value} {below : List Frame} {meth : Method} {c : Code} {D : va_G} {E : En} {A : Nat → Prop} {post : Int32 → St → Prop} {σ0 : St} {thr : Nat} (hfl : l.stackTraces = false) (C : CX p s m meth c cX6_pass RX6 3 D E A) (hr : meth.sig.returnType = some .int) (hex : ∀ x ∈ c.exceptionTable.toList, False) {p1 : Int32} : ∀ (n : Nat) {σ : St} (ok : OK E σ) {j2 : Nat} (hj : j2 + n = 501) (hb : j2 ≤ 500) (hq : p1 ≤ nI 500) {H : Heap} {locs : List Loc} (h : HW D E σ A s H locs) {ls : Array Slot} (hl : lv_has ls 3 [(0, .ref (ead E 0)), (1, .int p1), (2, .int (nI j2))]) (hp : (S_X6_pass_10 n σ p1 j2).1 = 0 → post (S_X6_pass_10 n σ p1 j2).2.1 (S_X6_pass_10 n σ p1 j2).2.2) (hT : thr = (S_X6_pass_10 n σ p1 j2).1), W p l e rm_X6_pass s m args below meth c H locs 1 6 (vx_MQ below (va_Qi post (POB D E A) A) (XT D E σ0 A thr) args s 10 60 A) (F0 m 10 ls []) := by
  intro n
  induction n with
  | zero =>
    intro σ ok j2 hj hb hq H locs h ls hl hp hT
    exfalso
    clear hp hT
    omega
  | succ n ih =>
    intro σ ok j2 hj hb hq H locs h ls hl hp hT
    refine lv_iload_n C.x C.b dX6_pass_10 rfl (lv_at hl 2 rfl) ?_
    refine lv_iload_n C.x C.b dX6_pass_11 rfl (lv_at hl 1 rfl) ?_
    refine lv_icmp_ge (tgt := 25) C.x C.b dX6_pass_12 (by decide) (fun c1 => ?_) (fun c1 => ?_)
    · skip
      refine lv_aload_n C.x C.b dX6_pass_25 rfl (lv_at hl 0 rfl) ?_
      refine g_X6_64 C h dX6_pass_26 ?_
      refine vx_ret ?_
      refine W.widen (k := 10) (n := 60) (Nat.le_of_ble_eq_true rfl) (Nat.le_of_ble_eq_true rfl) ?_
      exact rtI C h hr rfl dX6_pass_29 ((Eq.mp (congrArg (fun z : Nat × Int32 × St => (z.1 = 0 → post z.2.1 z.2.2)) ((S_X6_pass_10_s n σ p1 j2).trans (if_pos c1))) hp) rfl)
    · skip
      have h2 : j2 < 500 := lt_of_nle2 (by clear hp hT; omega) (by decide) hq c1
      refine lv_aload_n C.x C.b dX6_pass_15 rfl (lv_at hl 0 rfl) ?_
      refine caVv (As := []) (rest := []) (q0 := 0) (ci := 6) C h (M_X6_liveMinute l D E _ ok) cw_X6_166 m_im_X6_liveMinute m_se_X6_liveMinute rfl rfl ⟨Nat.le_of_ble_eq_true rfl, Nat.le_of_ble_eq_true rfl⟩ rfl rfl hl rfl (Nat.le_of_ble_eq_true rfl) dX6_pass_16 ⟨Nat.le_of_ble_eq_true rfl, Nat.le_of_ble_eq_true rfl⟩ (fun u H locs w2 h => ?_)
      subst w2
      refine lv_iinc (v := nI (j2 + 1)) (lv' := [(2, .int (nI (j2 + 1))), (0, .ref (ead E 0)), (1, .int p1)]) C.x C.b dX6_pass_19 hl (k := 2) rfl (nI_1 _) (by decide) rfl (fun ls hl => ?_)
      refine lv_goto (tgt := 10) C.x C.b dX6_pass_22 (by decide) ?_
      exact ih (j2 := j2 + 1) (S_X6_liveMinute_ok ok) (by clear hp hT; omega) (by clear hp hT; omega) hq h (lv_sub hl [1, 2, 0] rfl) (Eq.mp (congrArg (fun z : Nat × Int32 × St => (z.1 = 0 → post z.2.1 z.2.2)) ((S_X6_pass_10_s n σ p1 j2).trans (if_neg c1))) hp) (hT.trans (congrArg (fun z : Nat × Int32 × St => z.1) ((S_X6_pass_10_s n σ p1 j2).trans (if_neg c1))))
def S_X6_pass (σ : St) (p1 : Int32) : Nat × Int32 × St := if (S_X6_requireRange p1 1 500) = 0 then S_X6_pass_10 501 σ p1 0 else ((S_X6_requireRange p1 1 500), 0, σ)
set_option maxRecDepth 100000 in
set_option maxHeartbeats 4000000 in
theorem K_X6_pass_0 {p : Program} {l : Launch} {e : Env} {s : State} {m : MethodId} {args : Array Value} {below : List Frame} {meth : Method} {c : Code} {D : va_G} {E : En} {A : Nat → Prop} {post : Int32 → St → Prop} {thr : Nat} (hfl : l.stackTraces = false) (C : CX p s m meth c cX6_pass RX6 3 D E A) {σ : St} (ok : OK E σ) {p1 : Int32} {H : Heap} {locs : List Loc} (h : HW D E σ A s H locs) (hr : meth.sig.returnType = some .int) (hex : ∀ x ∈ c.exceptionTable.toList, False) {ls : Array Slot} (hl : lv_has ls 3 [(0, .ref (ead E 0)), (1, .int p1)]) (hp : (S_X6_pass σ p1).1 = 0 → post (S_X6_pass σ p1).2.1 (S_X6_pass σ p1).2.2) (hT : thr = (S_X6_pass σ p1).1) : W p l e rm_X6_pass s m args below meth c H locs 0 0 (vx_MQ below (va_Qi post (POB D E A) A) (XT D E σ A thr) args s 10 60 A) (F0 m 0 ls []) := by
  refine lv_iload_n C.x C.b dX6_pass_0 rfl (lv_at hl 1 rfl) ?_
  refine lv_iconst (v := 1) C.x C.b dX6_pass_1 (by decide) ?_
  refine lv_sipush (v := 500) C.x C.b dX6_pass_2 (by decide) ?_
  refine cxSv (As := [.int p1, .int 1, .int 500]) (rest := []) C h (M_X6_requireRange l hfl D E _ ok p1 1 500) cw_X6_43 m_st_X6_requireRange rfl rfl ⟨Nat.le_of_ble_eq_true rfl, Nat.le_of_ble_eq_true rfl⟩ hl rfl (Nat.le_of_ble_eq_true rfl) dX6_pass_5 ⟨Nat.le_of_ble_eq_true rfl, Nat.le_of_ble_eq_true rfl⟩ (fun q1k0 ce q9 H locs q1k q1e h h1 h2 h3 => ?_) (fun u H locs q1w h => ?_)
  · exact goX C h hex q1k (hT.trans ((congrArg (fun z : Nat × Int32 × St => z.1) (if_neg (fun z => q1k (q1e.symm.trans z)))).trans q1e)) h1 h2 h3 (Nat.le_of_ble_eq_true rfl) (Nat.le_of_ble_eq_true rfl)
  · skip
    obtain ⟨c2, rfl⟩ := q1w
    refine lv_iconst (v := 0) C.x C.b dX6_pass_8 (by decide) ?_
    refine lv_istore_n (lv' := [(2, .int 0), (0, .ref (ead E 0)), (1, .int p1)]) C.x C.b dX6_pass_9 rfl hl (by decide) rfl (fun ls hl => ?_)
    exact K_X6_pass_10 hfl C hr hex 501 (j2 := 0) ok (by clear hp hT; omega) (by clear hp hT; omega) (rr_500 c2) h (lv_sub hl [1, 2, 0] rfl) (Eq.mp (congrArg (fun z : Nat × Int32 × St => (z.1 = 0 → post z.2.1 z.2.2)) (if_pos c2)) hp) (hT.trans (congrArg (fun z : Nat × Int32 × St => z.1) (if_pos c2)))
theorem M_X6_pass (l : Launch) (hfl : l.stackTraces = false) (D : va_G) (E : En) (σ : St) (ok : OK E σ) (p1 : Int32) : CT l yX6_pass cX6_pass 3 (some .int) rm_X6_pass [.ref (ead E 0), .int p1] D E σ (fun A => va_Qi (fun r u => (S_X6_pass σ p1).1 = 0 ∧ (S_X6_pass σ p1).2.1 = r ∧ (S_X6_pass σ p1).2.2 = u) (POB D E A) A) (S_X6_pass σ p1).1 10 60 :=
  CT.of RX6 (by decide +kernel) rfl (Nat.le_of_ble_eq_true rfl) (fun p e s m below meth c A ls C h hr hex hl => K_X6_pass_0 hfl C ok h hr hex hl (fun q => ⟨q, rfl, rfl⟩) rfl)
-- X6_code code(I)I
abbrev rm_X6_code : Room := { frames := 7, cells := 10, slots := 60, locals := 121 }
def S_X6_code (σ : St) (p1 : Int32) : Nat × Int32 × St := if (S_X6_requireIndex p1 3) = 0 then (0, (S_X4_codeAt σ p1.toNatClampNeg (σ 0 0)), σ) else ((S_X6_requireIndex p1 3), 0, σ)
set_option maxRecDepth 100000 in
set_option maxHeartbeats 4000000 in
theorem K_X6_code_0 {p : Program} {l : Launch} {e : Env} {s : State} {m : MethodId} {args : Array Value} {below : List Frame} {meth : Method} {c : Code} {D : va_G} {E : En} {A : Nat → Prop} {post : Int32 → St → Prop} {thr : Nat} (hfl : l.stackTraces = false) (C : CX p s m meth c cX6_code RX6 2 D E A) {σ : St} (ok : OK E σ) {p1 : Int32} {H : Heap} {locs : List Loc} (h : HW D E σ A s H locs) (hr : meth.sig.returnType = some .int) (hex : ∀ x ∈ c.exceptionTable.toList, False) {ls : Array Slot} (hl : lv_has ls 2 [(0, .ref (ead E 0)), (1, .int p1)]) (hp : (S_X6_code σ p1).1 = 0 → post (S_X6_code σ p1).2.1 (S_X6_code σ p1).2.2) (hT : thr = (S_X6_code σ p1).1) : W p l e rm_X6_code s m args below meth c H locs 0 0 (vx_MQ below (va_Qi post (POB D E A) A) (XT D E σ A thr) args s 10 60 A) (F0 m 0 ls []) := by
  refine lv_iload_n C.x C.b dX6_code_0 rfl (lv_at hl 1 rfl) ?_
  refine lv_iconst (v := 3) C.x C.b dX6_code_1 (by decide) ?_
  refine cxSv (As := [.int p1, .int 3]) (rest := []) C h (M_X6_requireIndex l hfl D E _ ok p1 3) cw_X6_60 m_st_X6_requireIndex rfl rfl ⟨Nat.le_of_ble_eq_true rfl, Nat.le_of_ble_eq_true rfl⟩ hl rfl (Nat.le_of_ble_eq_true rfl) dX6_code_2 ⟨Nat.le_of_ble_eq_true rfl, Nat.le_of_ble_eq_true rfl⟩ (fun q1k0 ce q9 H locs q1k q1e h h1 h2 h3 => ?_) (fun u H locs q1w h => ?_)
  · exact goX C h hex q1k (hT.trans ((congrArg (fun z : Nat × Int32 × St => z.1) (if_neg (fun z => q1k (q1e.symm.trans z)))).trans q1e)) h1 h2 h3 (Nat.le_of_ble_eq_true rfl) (Nat.le_of_ble_eq_true rfl)
  · skip
    obtain ⟨c2, rfl⟩ := q1w
    have h1 : vp_in p1 3 := ri_3 c2
    refine lv_aload_n C.x C.b dX6_code_5 rfl (lv_at hl 0 rfl) ?_
    refine g_X6_19 C h dX6_code_6 ?_
    refine g_X6_67 C h dX6_code_9 ?_
    refine lv_iload_n C.x C.b dX6_code_12 rfl (lv_at hl 1 rfl) ?_
    refine al_3 C h h1 dX6_code_13 ?_
    refine lv_aload_n C.x C.b dX6_code_14 rfl (lv_at hl 0 rfl) ?_
    refine g_X6_64 C h dX6_code_15 ?_
    refine lv_aload_n C.x C.b dX6_code_18 rfl (lv_at hl 0 rfl) ?_
    refine g_X6_10 C h dX6_code_19 ?_
    refine caVi (As := [.int (σ 0 0), .ref (ead E 1)]) (rest := []) (q0 := 4 + p1.toNatClampNeg) (ci := 4) C h (M_X4_codeAt l D E _ ok p1.toNatClampNeg (vp_lt h1) (σ 0 0)) cw_X6_88 m_im_X4_codeAt m_se_X4_codeAt rfl rfl ⟨Nat.le_of_ble_eq_true rfl, Nat.le_of_ble_eq_true rfl⟩ (wd_t _ (vp_lt h1)) rfl hl rfl (Nat.le_of_ble_eq_true rfl) dX6_code_22 ⟨Nat.le_of_ble_eq_true rfl, Nat.le_of_ble_eq_true rfl⟩ (fun r u H locs w3 h => ?_)
    obtain ⟨rfl, rfl⟩ := w3
    refine vx_ret ?_
    refine W.widen (k := 10) (n := 60) (Nat.le_of_ble_eq_true rfl) (Nat.le_of_ble_eq_true rfl) ?_
    exact rtI C h hr rfl dX6_code_25 ((Eq.mp (congrArg (fun z : Nat × Int32 × St => (z.1 = 0 → post z.2.1 z.2.2)) (if_pos c2)) hp) rfl)
theorem M_X6_code (l : Launch) (hfl : l.stackTraces = false) (D : va_G) (E : En) (σ : St) (ok : OK E σ) (p1 : Int32) : CT l yX6_code cX6_code 2 (some .int) rm_X6_code [.ref (ead E 0), .int p1] D E σ (fun A => va_Qi (fun r u => (S_X6_code σ p1).1 = 0 ∧ (S_X6_code σ p1).2.1 = r ∧ (S_X6_code σ p1).2.2 = u) (POB D E A) A) (S_X6_code σ p1).1 10 60 :=
  CT.of RX6 (by decide +kernel) rfl (Nat.le_of_ble_eq_true rfl) (fun p e s m below meth c A ls C h hr hex hl => K_X6_code_0 hfl C ok h hr hex hl (fun q => ⟨q, rfl, rfl⟩) rfl)
-- X6_thirdOf thirdOf(II)I
theorem cw_X6_175 : CWd RX6 175 yX4_isSprayedAt cX4_isSprayedAt 2 (some .boolean) 1 := ⟨m_ml_X6_175, m_co_X4_isSprayedAt, m_ini_X4, by decide +kernel, by decide +kernel⟩
theorem cw_X6_178 : CWd RX6 178 yX4_codeOfWhatLies cX4_codeOfWhatLies 3 (some .int) 1 := ⟨m_ml_X6_178, m_co_X4_codeOfWhatLies, m_ini_X4, by decide +kernel, by decide +kernel⟩
abbrev rm_X6_thirdOf : Room := { frames := 7, cells := 10, slots := 60, locals := 122 }
def S_X6_thirdOf (σ : St) (p1 : Int32) (p2 : Int32) : Nat × Int32 × St := if (S_X6_requireIndex p1 3) = 0 then (if (S_X6_requireRange p2 0 3) = 0 then (if p2 = 0 then (0, (σ 9 p1.toNatClampNeg), σ) else if p2 = 1 then (0, (σ 10 p1.toNatClampNeg), σ) else if p2 = 2 then (if (S_X4_isSprayedAt σ p1.toNatClampNeg (σ 0 0)) = 0 then (0, 0, σ) else (0, 1, σ)) else (0, (S_X4_codeOfWhatLies σ p1.toNatClampNeg), σ)) else ((S_X6_requireRange p2 0 3), 0, σ)) else ((S_X6_requireIndex p1 3), 0, σ)
set_option maxRecDepth 100000 in
set_option maxHeartbeats 4000000 in
theorem K_X6_thirdOf_0 {p : Program} {l : Launch} {e : Env} {s : State} {m : MethodId} {args : Array Value} {below : List Frame} {meth : Method} {c : Code} {D : va_G} {E : En} {A : Nat → Prop} {post : Int32 → St → Prop} {thr : Nat} (hfl : l.stackTraces = false) (C : CX p s m meth c cX6_thirdOf RX6 4 D E A) {σ : St} (ok : OK E σ) {p1 : Int32} {p2 : Int32} {H : Heap} {locs : List Loc} (h : HW D E σ A s H locs) (hr : meth.sig.returnType = some .int) (hex : ∀ x ∈ c.exceptionTable.toList, False) {ls : Array Slot} (hl : lv_has ls 4 [(0, .ref (ead E 0)), (1, .int p1), (2, .int p2)]) (hp : (S_X6_thirdOf σ p1 p2).1 = 0 → post (S_X6_thirdOf σ p1 p2).2.1 (S_X6_thirdOf σ p1 p2).2.2) (hT : thr = (S_X6_thirdOf σ p1 p2).1) : W p l e rm_X6_thirdOf s m args below meth c H locs 0 0 (vx_MQ below (va_Qi post (POB D E A) A) (XT D E σ A thr) args s 10 60 A) (F0 m 0 ls []) := by
  refine lv_iload_n C.x C.b dX6_thirdOf_0 rfl (lv_at hl 1 rfl) ?_
  refine lv_iconst (v := 3) C.x C.b dX6_thirdOf_1 (by decide) ?_
  refine cxSv (As := [.int p1, .int 3]) (rest := []) C h (M_X6_requireIndex l hfl D E _ ok p1 3) cw_X6_60 m_st_X6_requireIndex rfl rfl ⟨Nat.le_of_ble_eq_true rfl, Nat.le_of_ble_eq_true rfl⟩ hl rfl (Nat.le_of_ble_eq_true rfl) dX6_thirdOf_2 ⟨Nat.le_of_ble_eq_true rfl, Nat.le_of_ble_eq_true rfl⟩ (fun q1k0 ce q9 H locs q1k q1e h h1 h2 h3 => ?_) (fun u H locs q1w h => ?_)
  · exact goX C h hex q1k (hT.trans ((congrArg (fun z : Nat × Int32 × St => z.1) (if_neg (fun z => q1k (q1e.symm.trans z)))).trans q1e)) h1 h2 h3 (Nat.le_of_ble_eq_true rfl) (Nat.le_of_ble_eq_true rfl)
  · skip
    obtain ⟨c2, rfl⟩ := q1w
    have h1 : vp_in p1 3 := ri_3 c2
    refine lv_iload_n C.x C.b dX6_thirdOf_5 rfl (lv_at hl 2 rfl) ?_
    refine lv_iconst (v := 0) C.x C.b dX6_thirdOf_6 (by decide) ?_
    refine lv_iconst (v := 3) C.x C.b dX6_thirdOf_7 (by decide) ?_
    refine cxSv (As := [.int p2, .int 0, .int 3]) (rest := []) C h (M_X6_requireRange l hfl D E _ ok p2 0 3) cw_X6_43 m_st_X6_requireRange rfl rfl ⟨Nat.le_of_ble_eq_true rfl, Nat.le_of_ble_eq_true rfl⟩ hl rfl (Nat.le_of_ble_eq_true rfl) dX6_thirdOf_8 ⟨Nat.le_of_ble_eq_true rfl, Nat.le_of_ble_eq_true rfl⟩ (fun q3k0 ce q9 H locs q3k q3e h h1 h2 h3 => ?_) (fun u H locs q3w h => ?_)
    · exact goX C h hex q3k (hT.trans ((congrArg (fun z : Nat × Int32 × St => z.1) ((if_pos c2).trans (if_neg (fun z => q3k (q3e.symm.trans z))))).trans q3e)) h1 h2 h3 (Nat.le_of_ble_eq_true rfl) (Nat.le_of_ble_eq_true rfl)
    · skip
      obtain ⟨c4, rfl⟩ := q3w
      refine lv_aload_n C.x C.b dX6_thirdOf_11 rfl (lv_at hl 0 rfl) ?_
      refine g_X6_19 C h dX6_thirdOf_12 ?_
      refine g_X6_67 C h dX6_thirdOf_15 ?_
      refine lv_iload_n C.x C.b dX6_thirdOf_18 rfl (lv_at hl 1 rfl) ?_
      refine al_3 C h h1 dX6_thirdOf_19 ?_
      refine lv_astore_n (lv' := [(3, .ref (ead E (4 + p1.toNatClampNeg))), (0, .ref (ead E 0)), (1, .int p1), (2, .int p2)]) C.x C.b dX6_thirdOf_20 rfl hl (by decide) rfl (fun ls hl => ?_)
      refine lv_iload_n C.x C.b dX6_thirdOf_21 rfl (lv_at hl 3 rfl) ?_
      by_cases c5 : p2 = 0
      · skip
        refine lv_tableIn (off := 26) (tgt := 48) C.x C.b dX6_thirdOf_22 (by rw [c5]; decide) (by rw [c5]; decide) (by rw [c5]; decide) (by decide) ?_
        refine lv_aload_n C.x C.b dX6_thirdOf_48 rfl (lv_at hl 0 rfl) ?_
        refine g_X6_169 C h (vp_lt h1) dX6_thirdOf_49 ?_
        refine vx_ret ?_
        refine W.widen (k := 10) (n := 60) (Nat.le_of_ble_eq_true rfl) (Nat.le_of_ble_eq_true rfl) ?_
        exact rtI C h hr rfl dX6_thirdOf_52 ((Eq.mp (congrArg (fun z : Nat × Int32 × St => (z.1 = 0 → post z.2.1 z.2.2)) ((if_pos c2).trans ((if_pos c4).trans (if_pos c5)))) hp) rfl)
      · skip
        by_cases c6 : p2 = 1
        · skip
          refine lv_tableIn (off := 31) (tgt := 53) C.x C.b dX6_thirdOf_22 (by rw [c6]; decide) (by rw [c6]; decide) (by rw [c6]; decide) (by decide) ?_
          refine lv_aload_n C.x C.b dX6_thirdOf_53 rfl (lv_at hl 0 rfl) ?_
          refine g_X6_172 C h (vp_lt h1) dX6_thirdOf_54 ?_
          refine vx_ret ?_
          refine W.widen (k := 10) (n := 60) (Nat.le_of_ble_eq_true rfl) (Nat.le_of_ble_eq_true rfl) ?_
          exact rtI C h hr rfl dX6_thirdOf_57 ((Eq.mp (congrArg (fun z : Nat × Int32 × St => (z.1 = 0 → post z.2.1 z.2.2)) ((if_pos c2).trans ((if_pos c4).trans ((if_neg c5).trans (if_pos c6))))) hp) rfl)
        · skip
          by_cases c7 : p2 = 2
          · skip
            refine lv_tableIn (off := 36) (tgt := 58) C.x C.b dX6_thirdOf_22 (by rw [c7]; decide) (by rw [c7]; decide) (by rw [c7]; decide) (by decide) ?_
            refine lv_aload_n C.x C.b dX6_thirdOf_58 rfl (lv_at hl 0 rfl) ?_
            refine lv_aload_n C.x C.b dX6_thirdOf_59 rfl (lv_at hl 1 rfl) ?_
            refine g_X6_64 C h dX6_thirdOf_60 ?_
            refine caVi (As := [.int (σ 0 0)]) (rest := []) (q0 := 4 + p1.toNatClampNeg) (ci := 4) C h (M_X4_isSprayedAt l D E _ ok p1.toNatClampNeg (vp_lt h1) (σ 0 0)) cw_X6_175 m_im_X4_isSprayedAt m_se_X4_isSprayedAt rfl rfl ⟨Nat.le_of_ble_eq_true rfl, Nat.le_of_ble_eq_true rfl⟩ (wd_t _ (vp_lt h1)) rfl hl rfl (Nat.le_of_ble_eq_true rfl) dX6_thirdOf_63 ⟨Nat.le_of_ble_eq_true rfl, Nat.le_of_ble_eq_true rfl⟩ (fun r u H locs w8 h => ?_)
            obtain ⟨rfl, rfl⟩ := w8
            refine lv_if_eq (tgt := 73) C.x C.b dX6_thirdOf_66 (by decide) (fun c9 => ?_) (fun c9 => ?_)
            · skip
              refine lv_iconst (v := 0) C.x C.b dX6_thirdOf_73 (by decide) ?_
              refine vx_ret ?_
              refine W.widen (k := 10) (n := 60) (Nat.le_of_ble_eq_true rfl) (Nat.le_of_ble_eq_true rfl) ?_
              exact rtI C h hr rfl dX6_thirdOf_74 ((Eq.mp (congrArg (fun z : Nat × Int32 × St => (z.1 = 0 → post z.2.1 z.2.2)) ((if_pos c2).trans ((if_pos c4).trans ((if_neg c5).trans ((if_neg c6).trans ((if_pos c7).trans (if_pos c9))))))) hp) rfl)
            · skip
              refine lv_iconst (v := 1) C.x C.b dX6_thirdOf_69 (by decide) ?_
              refine lv_goto (tgt := 74) C.x C.b dX6_thirdOf_70 (by decide) ?_
              refine vx_ret ?_
              refine W.widen (k := 10) (n := 60) (Nat.le_of_ble_eq_true rfl) (Nat.le_of_ble_eq_true rfl) ?_
              exact rtI C h hr rfl dX6_thirdOf_74 ((Eq.mp (congrArg (fun z : Nat × Int32 × St => (z.1 = 0 → post z.2.1 z.2.2)) ((if_pos c2).trans ((if_pos c4).trans ((if_neg c5).trans ((if_neg c6).trans ((if_pos c7).trans (if_neg c9))))))) hp) rfl)
          · skip
            refine lv_tableOut (tgt := 75) C.x C.b dX6_thirdOf_22 (sw_out2 c5 c6 c7) (by decide) ?_
            refine lv_aload_n C.x C.b dX6_thirdOf_75 rfl (lv_at hl 0 rfl) ?_
            refine lv_aload_n C.x C.b dX6_thirdOf_76 rfl (lv_at hl 1 rfl) ?_
            refine g_X6_10 C h dX6_thirdOf_77 ?_
            refine caVi (As := [.ref (ead E 1)]) (rest := []) (q0 := 4 + p1.toNatClampNeg) (ci := 4) C h (M_X4_codeOfWhatLies l D E _ ok p1.toNatClampNeg (vp_lt h1)) cw_X6_178 m_im_X4_codeOfWhatLies m_se_X4_codeOfWhatLies rfl rfl ⟨Nat.le_of_ble_eq_true rfl, Nat.le_of_ble_eq_true rfl⟩ (wd_t _ (vp_lt h1)) rfl hl rfl (Nat.le_of_ble_eq_true rfl) dX6_thirdOf_80 ⟨Nat.le_of_ble_eq_true rfl, Nat.le_of_ble_eq_true rfl⟩ (fun r u H locs w10 h => ?_)
            obtain ⟨rfl, rfl⟩ := w10
            refine vx_ret ?_
            refine W.widen (k := 10) (n := 60) (Nat.le_of_ble_eq_true rfl) (Nat.le_of_ble_eq_true rfl) ?_
            exact rtI C h hr rfl dX6_thirdOf_83 ((Eq.mp (congrArg (fun z : Nat × Int32 × St => (z.1 = 0 → post z.2.1 z.2.2)) ((if_pos c2).trans ((if_pos c4).trans ((if_neg c5).trans ((if_neg c6).trans (if_neg c7)))))) hp) rfl)
theorem M_X6_thirdOf (l : Launch) (hfl : l.stackTraces = false) (D : va_G) (E : En) (σ : St) (ok : OK E σ) (p1 : Int32) (p2 : Int32) : CT l yX6_thirdOf cX6_thirdOf 4 (some .int) rm_X6_thirdOf [.ref (ead E 0), .int p1, .int p2] D E σ (fun A => va_Qi (fun r u => (S_X6_thirdOf σ p1 p2).1 = 0 ∧ (S_X6_thirdOf σ p1 p2).2.1 = r ∧ (S_X6_thirdOf σ p1 p2).2.2 = u) (POB D E A) A) (S_X6_thirdOf σ p1 p2).1 10 60 :=
  CT.of RX6 (by decide +kernel) rfl (Nat.le_of_ble_eq_true rfl) (fun p e s m below meth c A ls C h hr hex hl => K_X6_thirdOf_0 hfl C ok h hr hex hl (fun q => ⟨q, rfl, rfl⟩) rfl)
-- X6_isGood isGood()Z
abbrev rm_X6_isGood : Room := { frames := 4, cells := 0, slots := 0, locals := 92 }
def S_X6_isGood (σ : St) : Int32 := (S_X3_isUsableAt σ (σ 0 0))
set_option maxRecDepth 100000 in
set_option maxHeartbeats 4000000 in
theorem K_X6_isGood_0 {p : Program} {l : Launch} {e : Env} {s : State} {m : MethodId} {args : Array Value} {below : List Frame} {meth : Method} {c : Code} {D : va_G} {E : En} {A : Nat → Prop} {post : Int32 → St → Prop} (C : CX p s m meth c cX6_isGood RX6 1 D E A) {σ : St} (ok : OK E σ) {H : Heap} {locs : List Loc} (h : HW D E σ A s H locs) (hr : meth.sig.returnType = some .boolean) {ls : Array Slot} (hl : lv_has ls 1 [(0, .ref (ead E 0))]) (hp : post (S_X6_isGood σ) σ) : W p l e rm_X6_isGood s m args below meth c H locs 0 0 (MQ below (va_Qi post (POB D E A) A) args s 0 0 A) (F0 m 0 ls []) := by
  refine lv_aload_n C.x C.b dX6_isGood_0 rfl (lv_at hl 0 rfl) ?_
  refine g_X6_19 C h dX6_isGood_1 ?_
  refine lv_aload_n C.x C.b dX6_isGood_4 rfl (lv_at hl 0 rfl) ?_
  refine g_X6_64 C h dX6_isGood_5 ?_
  refine lv_aload_n C.x C.b dX6_isGood_8 rfl (lv_at hl 0 rfl) ?_
  refine g_X6_10 C h dX6_isGood_9 ?_
  refine caVi (As := [.int (σ 0 0), .ref (ead E 1)]) (rest := []) (q0 := 2) (ci := 3) C h (M_X3_isUsableAt l D E _ ok (σ 0 0)) cw_X6_182 m_im_X3_isUsableAt m_se_X3_isUsableAt rfl rfl ⟨Nat.le_of_ble_eq_true rfl, Nat.le_of_ble_eq_true rfl⟩ rfl rfl hl rfl (Nat.le_of_ble_eq_true rfl) dX6_isGood_12 ⟨Nat.le_of_ble_eq_true rfl, Nat.le_of_ble_eq_true rfl⟩ (fun r u H locs w1 h => ?_)
  obtain ⟨rfl, rfl⟩ := w1
  exact rtI C h hr (nar_of (usable_01 _ _)) dX6_isGood_15 hp
theorem M_X6_isGood (l : Launch) (D : va_G) (E : En) (σ : St) (ok : OK E σ) : CO l yX6_isGood cX6_isGood 1 (some .boolean) rm_X6_isGood [.ref (ead E 0)] D E σ (fun A => va_Qi (fun r u => (S_X6_isGood σ) = r ∧ σ = u) (POB D E A) A) 0 0 :=
  CO.of RX6 (by decide +kernel) rfl (Nat.le_of_ble_eq_true rfl) (fun p e s m below meth c A ls C h hr hl => K_X6_isGood_0 C ok h hr hl ⟨rfl, rfl⟩)
-- X6_aircraftOf aircraftOf(II)I
abbrev rm_X6_aircraftOf : Room := { frames := 7, cells := 10, slots := 60, locals := 122 }
def S_X6_aircraftOf (σ : St) (p1 : Int32) (p2 : Int32) : Nat × Int32 × St := if (S_X6_requireIndex p1 (σ 1 0)) = 0 then (if (S_X6_requireRange p2 0 4) = 0 then (if p2 = 0 then (0, (σ 28 p1.toNatClampNeg), σ) else if p2 = 1 then (0, (σ 29 p1.toNatClampNeg), σ) else if p2 = 2 then (0, (σ 30 p1.toNatClampNeg), σ) else if p2 = 3 then (0, (σ 31 p1.toNatClampNeg), σ) else if (σ 28 p1.toNatClampNeg) = 1 then (0, (σ 32 p1.toNatClampNeg), σ) else (0, (-1), σ)) else ((S_X6_requireRange p2 0 4), 0, σ)) else ((S_X6_requireIndex p1 (σ 1 0)), 0, σ)
set_option maxRecDepth 100000 in
set_option maxHeartbeats 4000000 in
theorem K_X6_aircraftOf_0 {p : Program} {l : Launch} {e : Env} {s : State} {m : MethodId} {args : Array Value} {below : List Frame} {meth : Method} {c : Code} {D : va_G} {E : En} {A : Nat → Prop} {post : Int32 → St → Prop} {thr : Nat} (hfl : l.stackTraces = false) (C : CX p s m meth c cX6_aircraftOf RX6 4 D E A) {σ : St} (ok : OK E σ) {p1 : Int32} {p2 : Int32} {H : Heap} {locs : List Loc} (h : HW D E σ A s H locs) (hr : meth.sig.returnType = some .int) (hex : ∀ x ∈ c.exceptionTable.toList, False) {ls : Array Slot} (hl : lv_has ls 4 [(0, .ref (ead E 0)), (1, .int p1), (2, .int p2)]) (hp : (S_X6_aircraftOf σ p1 p2).1 = 0 → post (S_X6_aircraftOf σ p1 p2).2.1 (S_X6_aircraftOf σ p1 p2).2.2) (hT : thr = (S_X6_aircraftOf σ p1 p2).1) : W p l e rm_X6_aircraftOf s m args below meth c H locs 0 0 (vx_MQ below (va_Qi post (POB D E A) A) (XT D E σ A thr) args s 10 60 A) (F0 m 0 ls []) := by
  refine lv_iload_n C.x C.b dX6_aircraftOf_0 rfl (lv_at hl 1 rfl) ?_
  refine lv_aload_n C.x C.b dX6_aircraftOf_1 rfl (lv_at hl 0 rfl) ?_
  refine g_X6_108 C h dX6_aircraftOf_2 ?_
  refine cxSv (As := [.int p1, .int (σ 1 0)]) (rest := []) C h (M_X6_requireIndex l hfl D E _ ok p1 (σ 1 0)) cw_X6_60 m_st_X6_requireIndex rfl rfl ⟨Nat.le_of_ble_eq_true rfl, Nat.le_of_ble_eq_true rfl⟩ hl rfl (Nat.le_of_ble_eq_true rfl) dX6_aircraftOf_5 ⟨Nat.le_of_ble_eq_true rfl, Nat.le_of_ble_eq_true rfl⟩ (fun q1k0 ce q9 H locs q1k q1e h h1 h2 h3 => ?_) (fun u H locs q1w h => ?_)
  · exact goX C h hex q1k (hT.trans ((congrArg (fun z : Nat × Int32 × St => z.1) (if_neg (fun z => q1k (q1e.symm.trans z)))).trans q1e)) h1 h2 h3 (Nat.le_of_ble_eq_true rfl) (Nat.le_of_ble_eq_true rfl)
  · skip
    obtain ⟨c2, rfl⟩ := q1w
    have h1 : IN E p1 := ri_n ok c2
    refine lv_iload_n C.x C.b dX6_aircraftOf_8 rfl (lv_at hl 2 rfl) ?_
    refine lv_iconst (v := 0) C.x C.b dX6_aircraftOf_9 (by decide) ?_
    refine lv_iconst (v := 4) C.x C.b dX6_aircraftOf_10 (by decide) ?_
    refine cxSv (As := [.int p2, .int 0, .int 4]) (rest := []) C h (M_X6_requireRange l hfl D E _ ok p2 0 4) cw_X6_43 m_st_X6_requireRange rfl rfl ⟨Nat.le_of_ble_eq_true rfl, Nat.le_of_ble_eq_true rfl⟩ hl rfl (Nat.le_of_ble_eq_true rfl) dX6_aircraftOf_11 ⟨Nat.le_of_ble_eq_true rfl, Nat.le_of_ble_eq_true rfl⟩ (fun q3k0 ce q9 H locs q3k q3e h h1 h2 h3 => ?_) (fun u H locs q3w h => ?_)
    · exact goX C h hex q3k (hT.trans ((congrArg (fun z : Nat × Int32 × St => z.1) ((if_pos c2).trans (if_neg (fun z => q3k (q3e.symm.trans z))))).trans q3e)) h1 h2 h3 (Nat.le_of_ble_eq_true rfl) (Nat.le_of_ble_eq_true rfl)
    · skip
      obtain ⟨c4, rfl⟩ := q3w
      refine lv_aload_n C.x C.b dX6_aircraftOf_14 rfl (lv_at hl 0 rfl) ?_
      refine g_X6_39 C h dX6_aircraftOf_15 ?_
      refine lv_iload_n C.x C.b dX6_aircraftOf_18 rfl (lv_at hl 1 rfl) ?_
      refine al_14 C h h1.1 h1.2 dX6_aircraftOf_19 ?_
      refine lv_astore_n (lv' := [(3, .ref (ead E (17 + p1.toNatClampNeg))), (0, .ref (ead E 0)), (1, .int p1), (2, .int p2)]) C.x C.b dX6_aircraftOf_20 rfl hl (by decide) rfl (fun ls hl => ?_)
      refine lv_iload_n C.x C.b dX6_aircraftOf_21 rfl (lv_at hl 3 rfl) ?_
      by_cases c5 : p2 = 0
      · skip
        refine lv_tableIn (off := 30) (tgt := 52) C.x C.b dX6_aircraftOf_22 (by rw [c5]; decide) (by rw [c5]; decide) (by rw [c5]; decide) (by decide) ?_
        refine lv_aload_n C.x C.b dX6_aircraftOf_52 rfl (lv_at hl 0 rfl) ?_
        refine g_X6_120 C h h1.2 dX6_aircraftOf_53 ?_
        refine vx_ret ?_
        refine W.widen (k := 10) (n := 60) (Nat.le_of_ble_eq_true rfl) (Nat.le_of_ble_eq_true rfl) ?_
        exact rtI C h hr rfl dX6_aircraftOf_56 ((Eq.mp (congrArg (fun z : Nat × Int32 × St => (z.1 = 0 → post z.2.1 z.2.2)) ((if_pos c2).trans ((if_pos c4).trans (if_pos c5)))) hp) rfl)
      · skip
        by_cases c6 : p2 = 1
        · skip
          refine lv_tableIn (off := 35) (tgt := 57) C.x C.b dX6_aircraftOf_22 (by rw [c6]; decide) (by rw [c6]; decide) (by rw [c6]; decide) (by decide) ?_
          refine lv_aload_n C.x C.b dX6_aircraftOf_57 rfl (lv_at hl 0 rfl) ?_
          refine g_X6_186 C h h1.2 dX6_aircraftOf_58 ?_
          refine vx_ret ?_
          refine W.widen (k := 10) (n := 60) (Nat.le_of_ble_eq_true rfl) (Nat.le_of_ble_eq_true rfl) ?_
          exact rtI C h hr rfl dX6_aircraftOf_61 ((Eq.mp (congrArg (fun z : Nat × Int32 × St => (z.1 = 0 → post z.2.1 z.2.2)) ((if_pos c2).trans ((if_pos c4).trans ((if_neg c5).trans (if_pos c6))))) hp) rfl)
        · skip
          by_cases c7 : p2 = 2
          · skip
            refine lv_tableIn (off := 40) (tgt := 62) C.x C.b dX6_aircraftOf_22 (by rw [c7]; decide) (by rw [c7]; decide) (by rw [c7]; decide) (by decide) ?_
            refine lv_aload_n C.x C.b dX6_aircraftOf_62 rfl (lv_at hl 0 rfl) ?_
            refine g_X6_189 C h h1.2 dX6_aircraftOf_63 ?_
            refine vx_ret ?_
            refine W.widen (k := 10) (n := 60) (Nat.le_of_ble_eq_true rfl) (Nat.le_of_ble_eq_true rfl) ?_
            exact rtI C h hr rfl dX6_aircraftOf_66 ((Eq.mp (congrArg (fun z : Nat × Int32 × St => (z.1 = 0 → post z.2.1 z.2.2)) ((if_pos c2).trans ((if_pos c4).trans ((if_neg c5).trans ((if_neg c6).trans (if_pos c7)))))) hp) rfl)
          · skip
            by_cases c8 : p2 = 3
            · skip
              refine lv_tableIn (off := 45) (tgt := 67) C.x C.b dX6_aircraftOf_22 (by rw [c8]; decide) (by rw [c8]; decide) (by rw [c8]; decide) (by decide) ?_
              refine lv_aload_n C.x C.b dX6_aircraftOf_67 rfl (lv_at hl 0 rfl) ?_
              refine g_X6_192 C h h1.2 dX6_aircraftOf_68 ?_
              refine vx_ret ?_
              refine W.widen (k := 10) (n := 60) (Nat.le_of_ble_eq_true rfl) (Nat.le_of_ble_eq_true rfl) ?_
              exact rtI C h hr rfl dX6_aircraftOf_71 ((Eq.mp (congrArg (fun z : Nat × Int32 × St => (z.1 = 0 → post z.2.1 z.2.2)) ((if_pos c2).trans ((if_pos c4).trans ((if_neg c5).trans ((if_neg c6).trans ((if_neg c7).trans (if_pos c8))))))) hp) rfl)
            · skip
              refine lv_tableOut (tgt := 72) C.x C.b dX6_aircraftOf_22 (sw_out3 c5 c6 c7 c8) (by decide) ?_
              refine lv_aload_n C.x C.b dX6_aircraftOf_72 rfl (lv_at hl 0 rfl) ?_
              refine g_X6_120 C h h1.2 dX6_aircraftOf_73 ?_
              refine lv_iconst (v := 1) C.x C.b dX6_aircraftOf_76 (by decide) ?_
              refine lv_icmp_ne (tgt := 87) C.x C.b dX6_aircraftOf_77 (by decide) (fun c9 => ?_) (fun c9 => ?_)
              · skip
                refine lv_iconst (v := (-1)) C.x C.b dX6_aircraftOf_87 (by decide) ?_
                refine vx_ret ?_
                refine W.widen (k := 10) (n := 60) (Nat.le_of_ble_eq_true rfl) (Nat.le_of_ble_eq_true rfl) ?_
                exact rtI C h hr rfl dX6_aircraftOf_88 ((Eq.mp (congrArg (fun z : Nat × Int32 × St => (z.1 = 0 → post z.2.1 z.2.2)) ((if_pos c2).trans ((if_pos c4).trans ((if_neg c5).trans ((if_neg c6).trans ((if_neg c7).trans ((if_neg c8).trans (if_neg c9)))))))) hp) rfl)
              · skip
                refine lv_aload_n C.x C.b dX6_aircraftOf_80 rfl (lv_at hl 0 rfl) ?_
                refine g_X6_195 C h h1.2 dX6_aircraftOf_81 ?_
                refine lv_goto (tgt := 88) C.x C.b dX6_aircraftOf_84 (by decide) ?_
                refine vx_ret ?_
                refine W.widen (k := 10) (n := 60) (Nat.le_of_ble_eq_true rfl) (Nat.le_of_ble_eq_true rfl) ?_
                exact rtI C h hr rfl dX6_aircraftOf_88 ((Eq.mp (congrArg (fun z : Nat × Int32 × St => (z.1 = 0 → post z.2.1 z.2.2)) ((if_pos c2).trans ((if_pos c4).trans ((if_neg c5).trans ((if_neg c6).trans ((if_neg c7).trans ((if_neg c8).trans (if_pos c9)))))))) hp) rfl)
theorem M_X6_aircraftOf (l : Launch) (hfl : l.stackTraces = false) (D : va_G) (E : En) (σ : St) (ok : OK E σ) (p1 : Int32) (p2 : Int32) : CT l yX6_aircraftOf cX6_aircraftOf 4 (some .int) rm_X6_aircraftOf [.ref (ead E 0), .int p1, .int p2] D E σ (fun A => va_Qi (fun r u => (S_X6_aircraftOf σ p1 p2).1 = 0 ∧ (S_X6_aircraftOf σ p1 p2).2.1 = r ∧ (S_X6_aircraftOf σ p1 p2).2.2 = u) (POB D E A) A) (S_X6_aircraftOf σ p1 p2).1 10 60 :=
  CT.of RX6 (by decide +kernel) rfl (Nat.le_of_ble_eq_true rfl) (fun p e s m below meth c A ls C h hr hex hl => K_X6_aircraftOf_0 hfl C ok h hr hex hl (fun q => ⟨q, rfl, rfl⟩) rfl)
-- X6_clock clock(I)D
abbrev rm_X6_clock : Room := { frames := 7, cells := 10, slots := 60, locals := 121 }
def S_X6_clock_25 (σ : St) (p1 : Int32) (y0 : Int32) : Nat × UInt64 × St := if (S_X6_requirePossible y0) = 0 then (0, (S_X6_clockLeft σ p1.toNatClampNeg), σ) else ((S_X6_requirePossible y0), 0, σ)
set_option maxRecDepth 100000 in
set_option maxHeartbeats 4000000 in
theorem K_X6_clock_25 {p : Program} {l : Launch} {e : Env} {s : State} {m : MethodId} {args : Array Value} {below : List Frame} {meth : Method} {c : Code} {D : va_G} {E : En} {A : Nat → Prop} {post : UInt64 → St → Prop} {thr : Nat} (hfl : l.stackTraces = false) (C : CX p s m meth c cX6_clock RX6 2 D E A) {σ : St} (ok : OK E σ) {p1 : Int32} {y0 : Int32} (h1 : IN E p1) {H : Heap} {locs : List Loc} (h : HW D E σ A s H locs) (hr : meth.sig.returnType = some .double) (hex : ∀ x ∈ c.exceptionTable.toList, False) {ls : Array Slot} (hl : lv_has ls 2 [(0, .ref (ead E 0)), (1, .int p1)]) (hp : (S_X6_clock_25 σ p1 y0).1 = 0 → post (S_X6_clock_25 σ p1 y0).2.1 (S_X6_clock_25 σ p1 y0).2.2) (hT : thr = (S_X6_clock_25 σ p1 y0).1) : W p l e rm_X6_clock s m args below meth c H locs 1 6 (vx_MQ below (va_Qd post (POB D E A) A) (XT D E σ A thr) args s 10 60 A) (F0 m 25 ls [.int y0]) := by
  refine cxSv (As := [.int y0]) (rest := []) C h (M_X6_requirePossible l hfl D E _ ok y0) cw_X6_97 m_st_X6_requirePossible rfl rfl ⟨Nat.le_of_ble_eq_true rfl, Nat.le_of_ble_eq_true rfl⟩ hl rfl (Nat.le_of_ble_eq_true rfl) dX6_clock_25 ⟨Nat.le_of_ble_eq_true rfl, Nat.le_of_ble_eq_true rfl⟩ (fun q1k0 ce q9 H locs q1k q1e h h1 h2 h3 => ?_) (fun u H locs q1w h => ?_)
  · exact goX C h hex q1k (hT.trans ((congrArg (fun z : Nat × UInt64 × St => z.1) (if_neg (fun z => q1k (q1e.symm.trans z)))).trans q1e)) h1 h2 h3 (Nat.le_of_ble_eq_true rfl) (Nat.le_of_ble_eq_true rfl)
  · skip
    obtain ⟨c2, rfl⟩ := q1w
    refine lv_aload_n C.x C.b dX6_clock_28 rfl (lv_at hl 0 rfl) ?_
    refine lv_aload_n C.x C.b dX6_clock_29 rfl (lv_at hl 0 rfl) ?_
    refine g_X6_39 C h dX6_clock_30 ?_
    refine lv_iload_n C.x C.b dX6_clock_33 rfl (lv_at hl 1 rfl) ?_
    refine al_14 C h h1.1 h1.2 dX6_clock_34 ?_
    refine caVd (As := [.ref (ead E (17 + p1.toNatClampNeg))]) (rest := []) (q0 := 0) (ci := 6) C h (M_X6_clockLeft l D E _ ok p1.toNatClampNeg h1.2) cw_X6_198 m_im_X6_clockLeft m_se_X6_clockLeft rfl rfl ⟨Nat.le_of_ble_eq_true rfl, Nat.le_of_ble_eq_true rfl⟩ rfl rfl hl rfl (Nat.le_of_ble_eq_true rfl) dX6_clock_35 ⟨Nat.le_of_ble_eq_true rfl, Nat.le_of_ble_eq_true rfl⟩ (fun r u H locs w3 h => ?_)
    obtain ⟨rfl, rfl⟩ := w3
    refine vx_ret ?_
    refine W.widen (k := 10) (n := 60) (Nat.le_of_ble_eq_true rfl) (Nat.le_of_ble_eq_true rfl) ?_
    exact rtD C h hr dX6_clock_38 ((Eq.mp (congrArg (fun z : Nat × UInt64 × St => (z.1 = 0 → post z.2.1 z.2.2)) (if_pos c2)) hp) rfl)
def S_X6_clock (σ : St) (p1 : Int32) : Nat × UInt64 × St := if (S_X6_requireIndex p1 (σ 1 0)) = 0 then (if (σ 30 p1.toNatClampNeg) ≤ 0 then S_X6_clock_25 σ p1 0 else S_X6_clock_25 σ p1 1) else ((S_X6_requireIndex p1 (σ 1 0)), 0, σ)
set_option maxRecDepth 100000 in
set_option maxHeartbeats 4000000 in
theorem K_X6_clock_0 {p : Program} {l : Launch} {e : Env} {s : State} {m : MethodId} {args : Array Value} {below : List Frame} {meth : Method} {c : Code} {D : va_G} {E : En} {A : Nat → Prop} {post : UInt64 → St → Prop} {thr : Nat} (hfl : l.stackTraces = false) (C : CX p s m meth c cX6_clock RX6 2 D E A) {σ : St} (ok : OK E σ) {p1 : Int32} {H : Heap} {locs : List Loc} (h : HW D E σ A s H locs) (hr : meth.sig.returnType = some .double) (hex : ∀ x ∈ c.exceptionTable.toList, False) {ls : Array Slot} (hl : lv_has ls 2 [(0, .ref (ead E 0)), (1, .int p1)]) (hp : (S_X6_clock σ p1).1 = 0 → post (S_X6_clock σ p1).2.1 (S_X6_clock σ p1).2.2) (hT : thr = (S_X6_clock σ p1).1) : W p l e rm_X6_clock s m args below meth c H locs 0 0 (vx_MQ below (va_Qd post (POB D E A) A) (XT D E σ A thr) args s 10 60 A) (F0 m 0 ls []) := by
  refine lv_iload_n C.x C.b dX6_clock_0 rfl (lv_at hl 1 rfl) ?_
  refine lv_aload_n C.x C.b dX6_clock_1 rfl (lv_at hl 0 rfl) ?_
  refine g_X6_108 C h dX6_clock_2 ?_
  refine cxSv (As := [.int p1, .int (σ 1 0)]) (rest := []) C h (M_X6_requireIndex l hfl D E _ ok p1 (σ 1 0)) cw_X6_60 m_st_X6_requireIndex rfl rfl ⟨Nat.le_of_ble_eq_true rfl, Nat.le_of_ble_eq_true rfl⟩ hl rfl (Nat.le_of_ble_eq_true rfl) dX6_clock_5 ⟨Nat.le_of_ble_eq_true rfl, Nat.le_of_ble_eq_true rfl⟩ (fun q1k0 ce q9 H locs q1k q1e h h1 h2 h3 => ?_) (fun u H locs q1w h => ?_)
  · exact goX C h hex q1k (hT.trans ((congrArg (fun z : Nat × UInt64 × St => z.1) (if_neg (fun z => q1k (q1e.symm.trans z)))).trans q1e)) h1 h2 h3 (Nat.le_of_ble_eq_true rfl) (Nat.le_of_ble_eq_true rfl)
  · skip
    obtain ⟨c2, rfl⟩ := q1w
    have h1 : IN E p1 := ri_n ok c2
    refine lv_aload_n C.x C.b dX6_clock_8 rfl (lv_at hl 0 rfl) ?_
    refine g_X6_39 C h dX6_clock_9 ?_
    refine lv_iload_n C.x C.b dX6_clock_12 rfl (lv_at hl 1 rfl) ?_
    refine al_14 C h h1.1 h1.2 dX6_clock_13 ?_
    refine g_X6_189 C h h1.2 dX6_clock_14 ?_
    refine lv_if_le (tgt := 24) C.x C.b dX6_clock_17 (by decide) (fun c3 => ?_) (fun c3 => ?_)
    · skip
      refine lv_iconst (v := 0) C.x C.b dX6_clock_24 (by decide) ?_
      exact K_X6_clock_25 (y0 := 0) hfl C ok h1 h hr hex (lv_sub hl [0, 1] rfl) (Eq.mp (congrArg (fun z : Nat × UInt64 × St => (z.1 = 0 → post z.2.1 z.2.2)) ((if_pos c2).trans (if_pos c3))) hp) (hT.trans (congrArg (fun z : Nat × UInt64 × St => z.1) ((if_pos c2).trans (if_pos c3))))
    · skip
      refine lv_iconst (v := 1) C.x C.b dX6_clock_20 (by decide) ?_
      refine lv_goto (tgt := 25) C.x C.b dX6_clock_21 (by decide) ?_
      exact K_X6_clock_25 (y0 := 1) hfl C ok h1 h hr hex (lv_sub hl [0, 1] rfl) (Eq.mp (congrArg (fun z : Nat × UInt64 × St => (z.1 = 0 → post z.2.1 z.2.2)) ((if_pos c2).trans (if_neg c3))) hp) (hT.trans (congrArg (fun z : Nat × UInt64 × St => z.1) ((if_pos c2).trans (if_neg c3))))
theorem M_X6_clock (l : Launch) (hfl : l.stackTraces = false) (D : va_G) (E : En) (σ : St) (ok : OK E σ) (p1 : Int32) : CT l yX6_clock cX6_clock 2 (some .double) rm_X6_clock [.ref (ead E 0), .int p1] D E σ (fun A => va_Qd (fun r u => (S_X6_clock σ p1).1 = 0 ∧ (S_X6_clock σ p1).2.1 = r ∧ (S_X6_clock σ p1).2.2 = u) (POB D E A) A) (S_X6_clock σ p1).1 10 60 :=
  CT.of RX6 (by decide +kernel) rfl (Nat.le_of_ble_eq_true rfl) (fun p e s m below meth c A ls C h hr hex hl => K_X6_clock_0 hfl C ok h hr hex hl (fun q => ⟨q, rfl, rfl⟩) rfl)
-- X6_whyNot whyNot(I)I
theorem cw_X6_205 : CWd RX6 205 yX3_isClosedAt cX3_isClosedAt 2 (some .boolean) 1 := ⟨m_ml_X6_205, m_co_X3_isClosedAt, m_ini_X3, by decide +kernel, by decide +kernel⟩
theorem cw_X6_208 : CWd RX6 208 yX3_codesSufficeAt cX3_codesSufficeAt 5 (some .boolean) 2 := ⟨m_ml_X6_208, m_co_X3_codesSufficeAt, m_ini_X3, by decide +kernel, by decide +kernel⟩
abbrev rm_X6_whyNot : Room := { frames := 7, cells := 10, slots := 60, locals := 121 }
def S_X6_whyNot (σ : St) (p1 : Int32) : Nat × Int32 × St := if (S_X6_requireIndex p1 (σ 1 0)) = 0 then (if (σ 28 p1.toNatClampNeg) = 2 then (if (σ 26 p1.toNatClampNeg) ≤ (σ 0 0) then (if 0 ≤ (Op.cmpValue (FP.dcmp (S_X6_clockLeft σ p1.toNatClampNeg) FP.dconst0) CmpOp.g) then (if (S_X3_isClosedAt σ (σ 0 0)) = 0 then (if (S_X3_codesSufficeAt σ (σ 0 0)) = 0 then (0, 5, σ) else (0, 0, σ)) else (0, 4, σ)) else (0, 3, σ)) else (0, 2, σ)) else (0, 1, σ)) else ((S_X6_requireIndex p1 (σ 1 0)), 0, σ)
set_option maxRecDepth 100000 in
set_option maxHeartbeats 4000000 in
theorem K_X6_whyNot_0 {p : Program} {l : Launch} {e : Env} {s : State} {m : MethodId} {args : Array Value} {below : List Frame} {meth : Method} {c : Code} {D : va_G} {E : En} {A : Nat → Prop} {post : Int32 → St → Prop} {thr : Nat} (hfl : l.stackTraces = false) (C : CX p s m meth c cX6_whyNot RX6 3 D E A) {σ : St} (ok : OK E σ) {p1 : Int32} {H : Heap} {locs : List Loc} (h : HW D E σ A s H locs) (hr : meth.sig.returnType = some .int) (hex : ∀ x ∈ c.exceptionTable.toList, False) {ls : Array Slot} (hl : lv_has ls 3 [(0, .ref (ead E 0)), (1, .int p1)]) (hp : (S_X6_whyNot σ p1).1 = 0 → post (S_X6_whyNot σ p1).2.1 (S_X6_whyNot σ p1).2.2) (hT : thr = (S_X6_whyNot σ p1).1) : W p l e rm_X6_whyNot s m args below meth c H locs 0 0 (vx_MQ below (va_Qi post (POB D E A) A) (XT D E σ A thr) args s 10 60 A) (F0 m 0 ls []) := by
  refine lv_iload_n C.x C.b dX6_whyNot_0 rfl (lv_at hl 1 rfl) ?_
  refine lv_aload_n C.x C.b dX6_whyNot_1 rfl (lv_at hl 0 rfl) ?_
  refine g_X6_108 C h dX6_whyNot_2 ?_
  refine cxSv (As := [.int p1, .int (σ 1 0)]) (rest := []) C h (M_X6_requireIndex l hfl D E _ ok p1 (σ 1 0)) cw_X6_60 m_st_X6_requireIndex rfl rfl ⟨Nat.le_of_ble_eq_true rfl, Nat.le_of_ble_eq_true rfl⟩ hl rfl (Nat.le_of_ble_eq_true rfl) dX6_whyNot_5 ⟨Nat.le_of_ble_eq_true rfl, Nat.le_of_ble_eq_true rfl⟩ (fun q1k0 ce q9 H locs q1k q1e h h1 h2 h3 => ?_) (fun u H locs q1w h => ?_)
  · exact goX C h hex q1k (hT.trans ((congrArg (fun z : Nat × Int32 × St => z.1) (if_neg (fun z => q1k (q1e.symm.trans z)))).trans q1e)) h1 h2 h3 (Nat.le_of_ble_eq_true rfl) (Nat.le_of_ble_eq_true rfl)
  · skip
    obtain ⟨c2, rfl⟩ := q1w
    have h1 : IN E p1 := ri_n ok c2
    refine lv_aload_n C.x C.b dX6_whyNot_8 rfl (lv_at hl 0 rfl) ?_
    refine g_X6_39 C h dX6_whyNot_9 ?_
    refine lv_iload_n C.x C.b dX6_whyNot_12 rfl (lv_at hl 1 rfl) ?_
    refine al_14 C h h1.1 h1.2 dX6_whyNot_13 ?_
    refine lv_astore_n (lv' := [(2, .ref (ead E (17 + p1.toNatClampNeg))), (0, .ref (ead E 0)), (1, .int p1)]) C.x C.b dX6_whyNot_14 rfl hl (by decide) rfl (fun ls hl => ?_)
    refine lv_aload_n C.x C.b dX6_whyNot_15 rfl (lv_at hl 0 rfl) ?_
    refine g_X6_120 C h h1.2 dX6_whyNot_16 ?_
    refine lv_iconst (v := 2) C.x C.b dX6_whyNot_19 (by decide) ?_
    refine lv_icmp_eq (tgt := 25) C.x C.b dX6_whyNot_20 (by decide) (fun c3 => ?_) (fun c3 => ?_)
    · skip
      refine lv_aload_n C.x C.b dX6_whyNot_25 rfl (lv_at hl 0 rfl) ?_
      refine g_X6_202 C h h1.2 dX6_whyNot_26 ?_
      refine lv_aload_n C.x C.b dX6_whyNot_29 rfl (lv_at hl 1 rfl) ?_
      refine g_X6_64 C h dX6_whyNot_30 ?_
      refine lv_icmp_le (tgt := 38) C.x C.b dX6_whyNot_33 (by decide) (fun c4 => ?_) (fun c4 => ?_)
      · skip
        refine lv_aload_n C.x C.b dX6_whyNot_38 rfl (lv_at hl 1 rfl) ?_
        refine lv_aload_n C.x C.b dX6_whyNot_39 rfl (lv_at hl 0 rfl) ?_
        refine caVd (As := [.ref (ead E (17 + p1.toNatClampNeg))]) (rest := []) (q0 := 0) (ci := 6) C h (M_X6_clockLeft l D E _ ok p1.toNatClampNeg h1.2) cw_X6_198 m_im_X6_clockLeft m_se_X6_clockLeft rfl rfl ⟨Nat.le_of_ble_eq_true rfl, Nat.le_of_ble_eq_true rfl⟩ rfl rfl hl rfl (Nat.le_of_ble_eq_true rfl) dX6_whyNot_40 ⟨Nat.le_of_ble_eq_true rfl, Nat.le_of_ble_eq_true rfl⟩ (fun r u H locs w5 h => ?_)
        obtain ⟨rfl, rfl⟩ := w5
        refine lv_dconst0 C.x C.b dX6_whyNot_43 ?_
        refine lv_dcmp C.x C.b dX6_whyNot_44 ?_
        refine lv_if_ge (tgt := 50) C.x C.b dX6_whyNot_45 (by decide) (fun c6 => ?_) (fun c6 => ?_)
        · skip
          refine lv_aload_n C.x C.b dX6_whyNot_50 rfl (lv_at hl 1 rfl) ?_
          refine g_X6_19 C h dX6_whyNot_51 ?_
          refine lv_aload_n C.x C.b dX6_whyNot_54 rfl (lv_at hl 1 rfl) ?_
          refine g_X6_64 C h dX6_whyNot_55 ?_
          refine caVi (As := [.int (σ 0 0)]) (rest := []) (q0 := 2) (ci := 3) C h (M_X3_isClosedAt l D E _ ok (σ 0 0)) cw_X6_205 m_im_X3_isClosedAt m_se_X3_isClosedAt rfl rfl ⟨Nat.le_of_ble_eq_true rfl, Nat.le_of_ble_eq_true rfl⟩ rfl rfl hl rfl (Nat.le_of_ble_eq_true rfl) dX6_whyNot_58 ⟨Nat.le_of_ble_eq_true rfl, Nat.le_of_ble_eq_true rfl⟩ (fun r u H locs w7 h => ?_)
          obtain ⟨rfl, rfl⟩ := w7
          refine lv_if_eq (tgt := 66) C.x C.b dX6_whyNot_61 (by decide) (fun c8 => ?_) (fun c8 => ?_)
          · skip
            refine lv_aload_n C.x C.b dX6_whyNot_66 rfl (lv_at hl 1 rfl) ?_
            refine g_X6_19 C h dX6_whyNot_67 ?_
            refine lv_aload_n C.x C.b dX6_whyNot_70 rfl (lv_at hl 1 rfl) ?_
            refine g_X6_64 C h dX6_whyNot_71 ?_
            refine lv_aload_n C.x C.b dX6_whyNot_74 rfl (lv_at hl 1 rfl) ?_
            refine g_X6_10 C h dX6_whyNot_75 ?_
            refine caVi (As := [.int (σ 0 0), .ref (ead E 1)]) (rest := []) (q0 := 2) (ci := 3) C h (M_X3_codesSufficeAt l D E _ ok (σ 0 0)) cw_X6_208 m_im_X3_codesSufficeAt m_se_X3_codesSufficeAt rfl rfl ⟨Nat.le_of_ble_eq_true rfl, Nat.le_of_ble_eq_true rfl⟩ rfl rfl hl rfl (Nat.le_of_ble_eq_true rfl) dX6_whyNot_78 ⟨Nat.le_of_ble_eq_true rfl, Nat.le_of_ble_eq_true rfl⟩ (fun r u H locs w9 h => ?_)
            obtain ⟨rfl, rfl⟩ := w9
            refine lv_if_eq (tgt := 88) C.x C.b dX6_whyNot_81 (by decide) (fun c10 => ?_) (fun c10 => ?_)
            · skip
              refine lv_iconst (v := 5) C.x C.b dX6_whyNot_88 (by decide) ?_
              refine vx_ret ?_
              refine W.widen (k := 10) (n := 60) (Nat.le_of_ble_eq_true rfl) (Nat.le_of_ble_eq_true rfl) ?_
              exact rtI C h hr rfl dX6_whyNot_89 ((Eq.mp (congrArg (fun z : Nat × Int32 × St => (z.1 = 0 → post z.2.1 z.2.2)) ((if_pos c2).trans ((if_pos c3).trans ((if_pos c4).trans ((if_pos c6).trans ((if_pos c8).trans (if_pos c10))))))) hp) rfl)
            · skip
              refine lv_iconst (v := 0) C.x C.b dX6_whyNot_84 (by decide) ?_
              refine lv_goto (tgt := 89) C.x C.b dX6_whyNot_85 (by decide) ?_
              refine vx_ret ?_
              refine W.widen (k := 10) (n := 60) (Nat.le_of_ble_eq_true rfl) (Nat.le_of_ble_eq_true rfl) ?_
              exact rtI C h hr rfl dX6_whyNot_89 ((Eq.mp (congrArg (fun z : Nat × Int32 × St => (z.1 = 0 → post z.2.1 z.2.2)) ((if_pos c2).trans ((if_pos c3).trans ((if_pos c4).trans ((if_pos c6).trans ((if_pos c8).trans (if_neg c10))))))) hp) rfl)
          · skip
            refine lv_iconst (v := 4) C.x C.b dX6_whyNot_64 (by decide) ?_
            refine vx_ret ?_
            refine W.widen (k := 10) (n := 60) (Nat.le_of_ble_eq_true rfl) (Nat.le_of_ble_eq_true rfl) ?_
            exact rtI C h hr rfl dX6_whyNot_65 ((Eq.mp (congrArg (fun z : Nat × Int32 × St => (z.1 = 0 → post z.2.1 z.2.2)) ((if_pos c2).trans ((if_pos c3).trans ((if_pos c4).trans ((if_pos c6).trans (if_neg c8)))))) hp) rfl)
        · skip
          refine lv_iconst (v := 3) C.x C.b dX6_whyNot_48 (by decide) ?_
          refine vx_ret ?_
          refine W.widen (k := 10) (n := 60) (Nat.le_of_ble_eq_true rfl) (Nat.le_of_ble_eq_true rfl) ?_
          exact rtI C h hr rfl dX6_whyNot_49 ((Eq.mp (congrArg (fun z : Nat × Int32 × St => (z.1 = 0 → post z.2.1 z.2.2)) ((if_pos c2).trans ((if_pos c3).trans ((if_pos c4).trans (if_neg c6))))) hp) rfl)
      · skip
        refine lv_iconst (v := 2) C.x C.b dX6_whyNot_36 (by decide) ?_
        refine vx_ret ?_
        refine W.widen (k := 10) (n := 60) (Nat.le_of_ble_eq_true rfl) (Nat.le_of_ble_eq_true rfl) ?_
        exact rtI C h hr rfl dX6_whyNot_37 ((Eq.mp (congrArg (fun z : Nat × Int32 × St => (z.1 = 0 → post z.2.1 z.2.2)) ((if_pos c2).trans ((if_pos c3).trans (if_neg c4)))) hp) rfl)
    · skip
      refine lv_iconst (v := 1) C.x C.b dX6_whyNot_23 (by decide) ?_
      refine vx_ret ?_
      refine W.widen (k := 10) (n := 60) (Nat.le_of_ble_eq_true rfl) (Nat.le_of_ble_eq_true rfl) ?_
      exact rtI C h hr rfl dX6_whyNot_24 ((Eq.mp (congrArg (fun z : Nat × Int32 × St => (z.1 = 0 → post z.2.1 z.2.2)) ((if_pos c2).trans (if_neg c3))) hp) rfl)
theorem M_X6_whyNot (l : Launch) (hfl : l.stackTraces = false) (D : va_G) (E : En) (σ : St) (ok : OK E σ) (p1 : Int32) : CT l yX6_whyNot cX6_whyNot 3 (some .int) rm_X6_whyNot [.ref (ead E 0), .int p1] D E σ (fun A => va_Qi (fun r u => (S_X6_whyNot σ p1).1 = 0 ∧ (S_X6_whyNot σ p1).2.1 = r ∧ (S_X6_whyNot σ p1).2.2 = u) (POB D E A) A) (S_X6_whyNot σ p1).1 10 60 :=
  CT.of RX6 (by decide +kernel) rfl (Nat.le_of_ble_eq_true rfl) (fun p e s m below meth c A ls C h hr hex hl => K_X6_whyNot_0 hfl C ok h hr hex hl (fun q => ⟨q, rfl, rfl⟩) rfl)
-- X6_queue queue(I)I
theorem cw_X6_218 : CWd RX6 218 yX6_placeInQueue cX6_placeInQueue 4 (some .int) 1 := ⟨m_ml_X6_218, m_co_X6_placeInQueue, m_ini_X6, by decide +kernel, by decide +kernel⟩
abbrev rm_X6_queue : Room := { frames := 6, cells := 10, slots := 60, locals := 113 }
def S_X6_queue_16 : Nat → St → Int32 → Nat → Nat × Int32 × St
  | 0, σ, _, _ => (0, 0, σ)
  | n + 1, σ, p1, j2 => if (σ 1 0) ≤ (nI j2) then (0, (-1), σ) else if (σ 28 j2) = 2 then (if (S_X6_placeInQueue σ (nI j2)) = p1 then (0, nI j2, σ) else S_X6_queue_16 n σ p1 (j2 + 1)) else S_X6_queue_16 n σ p1 (j2 + 1)
theorem S_X6_queue_16_s (n : Nat) (σ : St) (p1 : Int32) (j2 : Nat) : S_X6_queue_16 (n + 1) σ p1 j2 = if (σ 1 0) ≤ (nI j2) then (0, (-1), σ) else if (σ 28 j2) = 2 then (if (S_X6_placeInQueue σ (nI j2)) = p1 then (0, nI j2, σ) else S_X6_queue_16 n σ p1 (j2 + 1)) else S_X6_queue_16 n σ p1 (j2 + 1) := rfl
set_option maxRecDepth 100000 in
set_option maxHeartbeats 4000000 in
theorem K_X6_queue_16 {p : Program} {l : Launch} {e : Env} {s : State} {m : MethodId} {args : Array Value} {below : List Frame} {meth : Method} {c : Code} {D : va_G} {E : En} {A : Nat → Prop} {post : Int32 → St → Prop} {thr : Nat} (hfl : l.stackTraces = false) (C : CX p s m meth c cX6_queue RX6 3 D E A) (hr : meth.sig.returnType = some .int) (hex : ∀ x ∈ c.exceptionTable.toList, False) {p1 : Int32} : ∀ (n : Nat) {σ : St} (ok : OK E σ) {j2 : Nat} (hj : j2 + n = 21) (hb : j2 ≤ 20) {H : Heap} {locs : List Loc} (h : HW D E σ A s H locs) {ls : Array Slot} (hl : lv_has ls 3 [(0, .ref (ead E 0)), (1, .int p1), (2, .int (nI j2))]) (hp : (S_X6_queue_16 n σ p1 j2).1 = 0 → post (S_X6_queue_16 n σ p1 j2).2.1 (S_X6_queue_16 n σ p1 j2).2.2) (hT : thr = (S_X6_queue_16 n σ p1 j2).1), W p l e rm_X6_queue s m args below meth c H locs 0 0 (vx_MQ below (va_Qi post (POB D E A) A) (XT D E σ A thr) args s 10 60 A) (F0 m 16 ls []) := by
  intro n
  induction n with
  | zero =>
    intro σ ok j2 hj hb H locs h ls hl hp hT
    exfalso
    clear hp hT
    omega
  | succ n ih =>
    intro σ ok j2 hj hb H locs h ls hl hp hT
    refine lv_iload_n C.x C.b dX6_queue_16 rfl (lv_at hl 2 rfl) ?_
    refine lv_aload_n C.x C.b dX6_queue_17 rfl (lv_at hl 0 rfl) ?_
    refine g_X6_108 C h dX6_queue_18 ?_
    refine lv_icmp_ge (tgt := 54) C.x C.b dX6_queue_21 (by decide) (fun c1 => ?_) (fun c1 => ?_)
    · skip
      refine lv_iconst (v := (-1)) C.x C.b dX6_queue_54 (by decide) ?_
      refine vx_ret ?_
      refine W.widen (k := 10) (n := 60) (Nat.le_of_ble_eq_true rfl) (Nat.le_of_ble_eq_true rfl) ?_
      exact rtI C h hr rfl dX6_queue_55 ((Eq.mp (congrArg (fun z : Nat × Int32 × St => (z.1 = 0 → post z.2.1 z.2.2)) ((S_X6_queue_16_s n σ p1 j2).trans (if_pos c1))) hp) rfl)
    · skip
      have h2 : j2 < en E := ok.lt (by clear hp hT; omega) c1
      refine lv_aload_n C.x C.b dX6_queue_24 rfl (lv_at hl 0 rfl) ?_
      refine g_X6_39 C h dX6_queue_25 ?_
      refine lv_iload_n C.x C.b dX6_queue_28 rfl (lv_at hl 2 rfl) ?_
      refine aln_14 C h ok h2 dX6_queue_29 ?_
      refine g_X6_120 C h h2 dX6_queue_30 ?_
      refine lv_iconst (v := 2) C.x C.b dX6_queue_33 (by decide) ?_
      refine lv_icmp_ne (tgt := 48) C.x C.b dX6_queue_34 (by decide) (fun c2 => ?_) (fun c2 => ?_)
      · skip
        refine lv_iinc (v := nI (j2 + 1)) (lv' := [(2, .int (nI (j2 + 1))), (0, .ref (ead E 0)), (1, .int p1)]) C.x C.b dX6_queue_48 hl (k := 2) rfl (nI_1 _) (by decide) rfl (fun ls hl => ?_)
        refine lv_goto (tgt := 16) C.x C.b dX6_queue_51 (by decide) ?_
        exact ih (j2 := j2 + 1) ok (by clear hp hT; omega) (by clear hp hT; have := ok.le; omega) h (lv_sub hl [1, 2, 0] rfl) (Eq.mp (congrArg (fun z : Nat × Int32 × St => (z.1 = 0 → post z.2.1 z.2.2)) ((S_X6_queue_16_s n σ p1 j2).trans ((if_neg c1).trans (if_neg c2)))) hp) (hT.trans (congrArg (fun z : Nat × Int32 × St => z.1) ((S_X6_queue_16_s n σ p1 j2).trans ((if_neg c1).trans (if_neg c2)))))
      · skip
        refine lv_aload_n C.x C.b dX6_queue_37 rfl (lv_at hl 0 rfl) ?_
        refine lv_iload_n C.x C.b dX6_queue_38 rfl (lv_at hl 2 rfl) ?_
        refine caVi (As := [.int (nI j2)]) (rest := []) (q0 := 0) (ci := 6) C h (M_X6_placeInQueue l D E _ ok (nI j2) (IN.of ok h2)) cw_X6_218 m_im_X6_placeInQueue m_se_X6_placeInQueue rfl rfl ⟨Nat.le_of_ble_eq_true rfl, Nat.le_of_ble_eq_true rfl⟩ rfl rfl hl rfl (Nat.le_of_ble_eq_true rfl) dX6_queue_39 ⟨Nat.le_of_ble_eq_true rfl, Nat.le_of_ble_eq_true rfl⟩ (fun r u H locs w3 h => ?_)
        obtain ⟨rfl, rfl⟩ := w3
        refine lv_iload_n C.x C.b dX6_queue_42 rfl (lv_at hl 1 rfl) ?_
        refine lv_icmp_ne (tgt := 48) C.x C.b dX6_queue_43 (by decide) (fun c4 => ?_) (fun c4 => ?_)
        · skip
          refine lv_iinc (v := nI (j2 + 1)) (lv' := [(2, .int (nI (j2 + 1))), (0, .ref (ead E 0)), (1, .int p1)]) C.x C.b dX6_queue_48 hl (k := 2) rfl (nI_1 _) (by decide) rfl (fun ls hl => ?_)
          refine lv_goto (tgt := 16) C.x C.b dX6_queue_51 (by decide) ?_
          exact ih (j2 := j2 + 1) ok (by clear hp hT; omega) (by clear hp hT; have := ok.le; omega) h (lv_sub hl [1, 2, 0] rfl) (Eq.mp (congrArg (fun z : Nat × Int32 × St => (z.1 = 0 → post z.2.1 z.2.2)) ((S_X6_queue_16_s n σ p1 j2).trans ((if_neg c1).trans ((if_pos c2).trans (if_neg c4))))) hp) (hT.trans (congrArg (fun z : Nat × Int32 × St => z.1) ((S_X6_queue_16_s n σ p1 j2).trans ((if_neg c1).trans ((if_pos c2).trans (if_neg c4))))))
        · skip
          refine lv_iload_n C.x C.b dX6_queue_46 rfl (lv_at hl 2 rfl) ?_
          refine vx_ret ?_
          refine W.widen (k := 10) (n := 60) (Nat.le_of_ble_eq_true rfl) (Nat.le_of_ble_eq_true rfl) ?_
          exact rtI C h hr rfl dX6_queue_47 ((Eq.mp (congrArg (fun z : Nat × Int32 × St => (z.1 = 0 → post z.2.1 z.2.2)) ((S_X6_queue_16_s n σ p1 j2).trans ((if_neg c1).trans ((if_pos c2).trans (if_pos c4))))) hp) rfl)
def S_X6_queue (σ : St) (p1 : Int32) : Nat × Int32 × St := if 0 ≤ p1 then S_X6_queue_16 21 σ p1 0 else (1, 0, σ)
set_option maxRecDepth 100000 in
set_option maxHeartbeats 4000000 in
theorem K_X6_queue_0 {p : Program} {l : Launch} {e : Env} {s : State} {m : MethodId} {args : Array Value} {below : List Frame} {meth : Method} {c : Code} {D : va_G} {E : En} {A : Nat → Prop} {post : Int32 → St → Prop} {thr : Nat} (hfl : l.stackTraces = false) (C : CX p s m meth c cX6_queue RX6 3 D E A) {σ : St} (ok : OK E σ) {p1 : Int32} {H : Heap} {locs : List Loc} (h : HW D E σ A s H locs) (hr : meth.sig.returnType = some .int) (hex : ∀ x ∈ c.exceptionTable.toList, False) {ls : Array Slot} (hl : lv_has ls 3 [(0, .ref (ead E 0)), (1, .int p1)]) (hp : (S_X6_queue σ p1).1 = 0 → post (S_X6_queue σ p1).2.1 (S_X6_queue σ p1).2.2) (hT : thr = (S_X6_queue σ p1).1) : W p l e rm_X6_queue s m args below meth c H locs 0 0 (vx_MQ below (va_Qi post (POB D E A) A) (XT D E σ A thr) args s 10 60 A) (F0 m 0 ls []) := by
  refine lv_iload_n C.x C.b dX6_queue_0 rfl (lv_at hl 1 rfl) ?_
  refine lv_if_ge (tgt := 14) C.x C.b dX6_queue_1 (by decide) (fun c1 => ?_) (fun c1 => ?_)
  · skip
    refine lv_iconst (v := 0) C.x C.b dX6_queue_14 (by decide) ?_
    refine lv_istore_n (lv' := [(2, .int 0), (0, .ref (ead E 0)), (1, .int p1)]) C.x C.b dX6_queue_15 rfl hl (by decide) rfl (fun ls hl => ?_)
    exact K_X6_queue_16 hfl C hr hex 21 (j2 := 0) ok (by clear hp hT; omega) (by clear hp hT; have := ok.le; omega) h (lv_sub hl [1, 2, 0] rfl) (Eq.mp (congrArg (fun z : Nat × Int32 × St => (z.1 = 0 → post z.2.1 z.2.2)) (if_pos c1)) hp) (hT.trans (congrArg (fun z : Nat × Int32 × St => z.1) (if_pos c1)))
  · skip
    exact thS (ik := 211) (is := 213) (ic := 215) (k := 1) hfl C h hex hl (by decide) (hT.trans (congrArg (fun z : Nat × Int32 × St => z.1) (if_neg c1))) (by decide +kernel) m_cl_X6_211 m_ini__java_lang_IndexOutOfBoundsException_ C.sx.1.1 xg_1 xb_1 xo_1 dX6_queue_4 dX6_queue_7 dX6_queue_8 dX6_queue_10 dX6_queue_13 (Nat.le_of_ble_eq_true rfl) (Nat.le_of_ble_eq_true rfl) (Nat.le_of_ble_eq_true rfl) (Nat.le_of_ble_eq_true rfl) (Nat.le_of_ble_eq_true rfl) (Nat.le_of_ble_eq_true rfl)
theorem M_X6_queue (l : Launch) (hfl : l.stackTraces = false) (D : va_G) (E : En) (σ : St) (ok : OK E σ) (p1 : Int32) : CT l yX6_queue cX6_queue 3 (some .int) rm_X6_queue [.ref (ead E 0), .int p1] D E σ (fun A => va_Qi (fun r u => (S_X6_queue σ p1).1 = 0 ∧ (S_X6_queue σ p1).2.1 = r ∧ (S_X6_queue σ p1).2.2 = u) (POB D E A) A) (S_X6_queue σ p1).1 10 60 :=
  CT.of RX6 (by decide +kernel) rfl (Nat.le_of_ble_eq_true rfl) (fun p e s m below meth c A ls C h hr hex hl => K_X6_queue_0 hfl C ok h hr hex hl (fun q => ⟨q, rfl, rfl⟩) rfl)
-- X6_sum sum(I)I
theorem cw_X6_221 : CWd RX6 221 yX2_inTanks cX2_inTanks 3 (some .int) 0 := ⟨m_ml_X6_221, m_co_X2_inTanks, m_ini_X2, by decide +kernel, by decide +kernel⟩
theorem cw_X6_225 : CWd RX6 225 yX6_litresOnFleet cX6_litresOnFleet 3 (some .int) 0 := ⟨m_ml_X6_225, m_co_X6_litresOnFleet, m_ini_X6, by decide +kernel, by decide +kernel⟩
abbrev rm_X6_sum : Room := { frames := 7, cells := 10, slots := 60, locals := 122 }
def S_X6_sum (σ : St) (p1 : Int32) : Nat × Int32 × St := if (S_X6_requireRange p1 0 6) = 0 then (if p1 = 0 then (0, (σ 18 0), σ) else if p1 = 1 then (0, (S_X2_inTanks σ), σ) else if p1 = 2 then (0, (S_X6_litresOnFleet σ), σ) else if p1 = 3 then (0, (σ 19 0), σ) else if p1 = 4 then (0, (σ 20 0), σ) else if p1 = 5 then (0, (σ 21 0), σ) else (0, (σ 8 0), σ)) else ((S_X6_requireRange p1 0 6), 0, σ)
set_option maxRecDepth 100000 in
set_option maxHeartbeats 4000000 in
theorem K_X6_sum_0 {p : Program} {l : Launch} {e : Env} {s : State} {m : MethodId} {args : Array Value} {below : List Frame} {meth : Method} {c : Code} {D : va_G} {E : En} {A : Nat → Prop} {post : Int32 → St → Prop} {thr : Nat} (hfl : l.stackTraces = false) (C : CX p s m meth c cX6_sum RX6 2 D E A) {σ : St} (ok : OK E σ) {p1 : Int32} {H : Heap} {locs : List Loc} (h : HW D E σ A s H locs) (hr : meth.sig.returnType = some .int) (hex : ∀ x ∈ c.exceptionTable.toList, False) {ls : Array Slot} (hl : lv_has ls 2 [(0, .ref (ead E 0)), (1, .int p1)]) (hp : (S_X6_sum σ p1).1 = 0 → post (S_X6_sum σ p1).2.1 (S_X6_sum σ p1).2.2) (hT : thr = (S_X6_sum σ p1).1) : W p l e rm_X6_sum s m args below meth c H locs 0 0 (vx_MQ below (va_Qi post (POB D E A) A) (XT D E σ A thr) args s 10 60 A) (F0 m 0 ls []) := by
  refine lv_iload_n C.x C.b dX6_sum_0 rfl (lv_at hl 1 rfl) ?_
  refine lv_iconst (v := 0) C.x C.b dX6_sum_1 (by decide) ?_
  refine lv_bipush (v := 6) C.x C.b dX6_sum_2 (by decide) ?_
  refine cxSv (As := [.int p1, .int 0, .int 6]) (rest := []) C h (M_X6_requireRange l hfl D E _ ok p1 0 6) cw_X6_43 m_st_X6_requireRange rfl rfl ⟨Nat.le_of_ble_eq_true rfl, Nat.le_of_ble_eq_true rfl⟩ hl rfl (Nat.le_of_ble_eq_true rfl) dX6_sum_4 ⟨Nat.le_of_ble_eq_true rfl, Nat.le_of_ble_eq_true rfl⟩ (fun q1k0 ce q9 H locs q1k q1e h h1 h2 h3 => ?_) (fun u H locs q1w h => ?_)
  · exact goX C h hex q1k (hT.trans ((congrArg (fun z : Nat × Int32 × St => z.1) (if_neg (fun z => q1k (q1e.symm.trans z)))).trans q1e)) h1 h2 h3 (Nat.le_of_ble_eq_true rfl) (Nat.le_of_ble_eq_true rfl)
  · skip
    obtain ⟨c2, rfl⟩ := q1w
    refine lv_iload_n C.x C.b dX6_sum_7 rfl (lv_at hl 1 rfl) ?_
    by_cases c3 : p1 = 0
    · skip
      refine lv_tableIn (off := 40) (tgt := 48) C.x C.b dX6_sum_8 (by rw [c3]; decide) (by rw [c3]; decide) (by rw [c3]; decide) (by decide) ?_
      refine lv_aload_n C.x C.b dX6_sum_48 rfl (lv_at hl 0 rfl) ?_
      refine g_X6_26 C h dX6_sum_49 ?_
      refine g_X6_101 C h dX6_sum_52 ?_
      refine vx_ret ?_
      refine W.widen (k := 10) (n := 60) (Nat.le_of_ble_eq_true rfl) (Nat.le_of_ble_eq_true rfl) ?_
      exact rtI C h hr rfl dX6_sum_55 ((Eq.mp (congrArg (fun z : Nat × Int32 × St => (z.1 = 0 → post z.2.1 z.2.2)) ((if_pos c2).trans (if_pos c3))) hp) rfl)
    · skip
      by_cases c4 : p1 = 1
      · skip
        refine lv_tableIn (off := 48) (tgt := 56) C.x C.b dX6_sum_8 (by rw [c4]; decide) (by rw [c4]; decide) (by rw [c4]; decide) (by decide) ?_
        refine lv_aload_n C.x C.b dX6_sum_56 rfl (lv_at hl 0 rfl) ?_
        refine g_X6_26 C h dX6_sum_57 ?_
        refine caVi (As := []) (rest := []) (q0 := 7) (ci := 2) C h (M_X2_inTanks l D E _ ok) cw_X6_221 m_im_X2_inTanks m_se_X2_inTanks rfl rfl ⟨Nat.le_of_ble_eq_true rfl, Nat.le_of_ble_eq_true rfl⟩ rfl rfl hl rfl (Nat.le_of_ble_eq_true rfl) dX6_sum_60 ⟨Nat.le_of_ble_eq_true rfl, Nat.le_of_ble_eq_true rfl⟩ (fun r u H locs w5 h => ?_)
        obtain ⟨rfl, rfl⟩ := w5
        refine vx_ret ?_
        refine W.widen (k := 10) (n := 60) (Nat.le_of_ble_eq_true rfl) (Nat.le_of_ble_eq_true rfl) ?_
        exact rtI C h hr rfl dX6_sum_63 ((Eq.mp (congrArg (fun z : Nat × Int32 × St => (z.1 = 0 → post z.2.1 z.2.2)) ((if_pos c2).trans ((if_neg c3).trans (if_pos c4)))) hp) rfl)
      · skip
        by_cases c6 : p1 = 2
        · skip
          refine lv_tableIn (off := 56) (tgt := 64) C.x C.b dX6_sum_8 (by rw [c6]; decide) (by rw [c6]; decide) (by rw [c6]; decide) (by decide) ?_
          refine lv_aload_n C.x C.b dX6_sum_64 rfl (lv_at hl 0 rfl) ?_
          refine caVi (As := []) (rest := []) (q0 := 0) (ci := 6) C h (M_X6_litresOnFleet l D E _ ok) cw_X6_225 m_im_X6_litresOnFleet m_se_X6_litresOnFleet rfl rfl ⟨Nat.le_of_ble_eq_true rfl, Nat.le_of_ble_eq_true rfl⟩ rfl rfl hl rfl (Nat.le_of_ble_eq_true rfl) dX6_sum_65 ⟨Nat.le_of_ble_eq_true rfl, Nat.le_of_ble_eq_true rfl⟩ (fun r u H locs w7 h => ?_)
          obtain ⟨rfl, rfl⟩ := w7
          refine vx_ret ?_
          refine W.widen (k := 10) (n := 60) (Nat.le_of_ble_eq_true rfl) (Nat.le_of_ble_eq_true rfl) ?_
          exact rtI C h hr rfl dX6_sum_68 ((Eq.mp (congrArg (fun z : Nat × Int32 × St => (z.1 = 0 → post z.2.1 z.2.2)) ((if_pos c2).trans ((if_neg c3).trans ((if_neg c4).trans (if_pos c6))))) hp) rfl)
        · skip
          by_cases c8 : p1 = 3
          · skip
            refine lv_tableIn (off := 61) (tgt := 69) C.x C.b dX6_sum_8 (by rw [c8]; decide) (by rw [c8]; decide) (by rw [c8]; decide) (by decide) ?_
            refine lv_aload_n C.x C.b dX6_sum_69 rfl (lv_at hl 0 rfl) ?_
            refine g_X6_33 C h dX6_sum_70 ?_
            refine g_X6_130 C h dX6_sum_73 ?_
            refine vx_ret ?_
            refine W.widen (k := 10) (n := 60) (Nat.le_of_ble_eq_true rfl) (Nat.le_of_ble_eq_true rfl) ?_
            exact rtI C h hr rfl dX6_sum_76 ((Eq.mp (congrArg (fun z : Nat × Int32 × St => (z.1 = 0 → post z.2.1 z.2.2)) ((if_pos c2).trans ((if_neg c3).trans ((if_neg c4).trans ((if_neg c6).trans (if_pos c8)))))) hp) rfl)
          · skip
            by_cases c9 : p1 = 4
            · skip
              refine lv_tableIn (off := 69) (tgt := 77) C.x C.b dX6_sum_8 (by rw [c9]; decide) (by rw [c9]; decide) (by rw [c9]; decide) (by decide) ?_
              refine lv_aload_n C.x C.b dX6_sum_77 rfl (lv_at hl 0 rfl) ?_
              refine g_X6_33 C h dX6_sum_78 ?_
              refine g_X6_228 C h dX6_sum_81 ?_
              refine vx_ret ?_
              refine W.widen (k := 10) (n := 60) (Nat.le_of_ble_eq_true rfl) (Nat.le_of_ble_eq_true rfl) ?_
              exact rtI C h hr rfl dX6_sum_84 ((Eq.mp (congrArg (fun z : Nat × Int32 × St => (z.1 = 0 → post z.2.1 z.2.2)) ((if_pos c2).trans ((if_neg c3).trans ((if_neg c4).trans ((if_neg c6).trans ((if_neg c8).trans (if_pos c9))))))) hp) rfl)
            · skip
              by_cases c10 : p1 = 5
              · skip
                refine lv_tableIn (off := 77) (tgt := 85) C.x C.b dX6_sum_8 (by rw [c10]; decide) (by rw [c10]; decide) (by rw [c10]; decide) (by decide) ?_
                refine lv_aload_n C.x C.b dX6_sum_85 rfl (lv_at hl 0 rfl) ?_
                refine g_X6_33 C h dX6_sum_86 ?_
                refine g_X6_157 C h dX6_sum_89 ?_
                refine vx_ret ?_
                refine W.widen (k := 10) (n := 60) (Nat.le_of_ble_eq_true rfl) (Nat.le_of_ble_eq_true rfl) ?_
                exact rtI C h hr rfl dX6_sum_92 ((Eq.mp (congrArg (fun z : Nat × Int32 × St => (z.1 = 0 → post z.2.1 z.2.2)) ((if_pos c2).trans ((if_neg c3).trans ((if_neg c4).trans ((if_neg c6).trans ((if_neg c8).trans ((if_neg c9).trans (if_pos c10)))))))) hp) rfl)
              · skip
                refine lv_tableOut (tgt := 93) C.x C.b dX6_sum_8 (sw_out5 c3 c4 c6 c8 c9 c10) (by decide) ?_
                refine lv_aload_n C.x C.b dX6_sum_93 rfl (lv_at hl 0 rfl) ?_
                refine g_X6_19 C h dX6_sum_94 ?_
                refine g_X6_231 C h dX6_sum_97 ?_
                refine vx_ret ?_
                refine W.widen (k := 10) (n := 60) (Nat.le_of_ble_eq_true rfl) (Nat.le_of_ble_eq_true rfl) ?_
                exact rtI C h hr rfl dX6_sum_100 ((Eq.mp (congrArg (fun z : Nat × Int32 × St => (z.1 = 0 → post z.2.1 z.2.2)) ((if_pos c2).trans ((if_neg c3).trans ((if_neg c4).trans ((if_neg c6).trans ((if_neg c8).trans ((if_neg c9).trans (if_neg c10)))))))) hp) rfl)
theorem M_X6_sum (l : Launch) (hfl : l.stackTraces = false) (D : va_G) (E : En) (σ : St) (ok : OK E σ) (p1 : Int32) : CT l yX6_sum cX6_sum 2 (some .int) rm_X6_sum [.ref (ead E 0), .int p1] D E σ (fun A => va_Qi (fun r u => (S_X6_sum σ p1).1 = 0 ∧ (S_X6_sum σ p1).2.1 = r ∧ (S_X6_sum σ p1).2.2 = u) (POB D E A) A) (S_X6_sum σ p1).1 10 60 :=
  CT.of RX6 (by decide +kernel) rfl (Nat.le_of_ble_eq_true rfl) (fun p e s m below meth c A ls C h hr hex hl => K_X6_sum_0 hfl C ok h hr hex hl (fun q => ⟨q, rfl, rfl⟩) rfl)
