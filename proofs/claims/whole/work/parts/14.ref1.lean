/-! methods walked (by program; wip/whole/gen) -/
-- X7_in in(III)Z
abbrev rm_X7_in : Room := { frames := 0, cells := 0, slots := 0, locals := 0 }
def S_X7_in (p0 : Int32) (p1 : Int32) (p2 : Int32) : Int32 := if p0 < p1 then 0 else if p2 < p0 then 0 else 1
set_option maxRecDepth 100000 in
set_option maxHeartbeats 4000000 in
theorem K_X7_in_0 {p : Program} {l : Launch} {e : Env} {s : State} {m : MethodId} {args : Array Value} {below : List Frame} {meth : Method} {c : Code} {D : va_G} {E : En} {A : Nat → Prop} {post : Int32 → St → Prop} (C : CX p s m meth c cX7_in RX7 3 D E A) {σ : St} (ok : OK E σ) {p0 : Int32} {p1 : Int32} {p2 : Int32} {H : Heap} {locs : List Loc} (h : HW D E σ A s H locs) (hr : meth.sig.returnType = some .boolean) {ls : Array Slot} (hl : lv_has ls 3 [(0, .int p0), (1, .int p1), (2, .int p2)]) (hp : post (S_X7_in p0 p1 p2) σ) : W p l e rm_X7_in s m args below meth c H locs 0 0 (MQ below (va_Qi post (POB D E A) A) args s 0 0 A) (F0 m 0 ls []) := by
  refine lv_iload_n C.x C.b dX7_in_0 rfl (lv_at hl 0 rfl) ?_
  refine lv_iload_n C.x C.b dX7_in_1 rfl (lv_at hl 1 rfl) ?_
  refine lv_icmp_lt (tgt := 14) C.x C.b dX7_in_2 (by decide) (fun c1 => ?_) (fun c1 => ?_)
  · skip
    refine lv_iconst (v := 0) C.x C.b dX7_in_14 (by decide) ?_
    exact rtI C h hr rfl dX7_in_15 (Eq.mp (congrArg (fun z => post z σ) (if_pos c1)) hp)
  · skip
    refine lv_iload_n C.x C.b dX7_in_5 rfl (lv_at hl 0 rfl) ?_
    refine lv_iload_n C.x C.b dX7_in_6 rfl (lv_at hl 2 rfl) ?_
    refine lv_icmp_gt (tgt := 14) C.x C.b dX7_in_7 (by decide) (fun c2 => ?_) (fun c2 => ?_)
    · skip
      refine lv_iconst (v := 0) C.x C.b dX7_in_14 (by decide) ?_
      exact rtI C h hr rfl dX7_in_15 (Eq.mp (congrArg (fun z => post z σ) ((if_neg c1).trans (if_pos c2))) hp)
    · skip
      refine lv_iconst (v := 1) C.x C.b dX7_in_10 (by decide) ?_
      refine lv_goto (tgt := 15) C.x C.b dX7_in_11 (by decide) ?_
      exact rtI C h hr rfl dX7_in_15 (Eq.mp (congrArg (fun z => post z σ) ((if_neg c1).trans (if_neg c2))) hp)
theorem M_X7_in (l : Launch) (D : va_G) (E : En) (σ : St) (ok : OK E σ) (p0 : Int32) (p1 : Int32) (p2 : Int32) : CO l yX7_in cX7_in 3 (some .boolean) rm_X7_in [.int p0, .int p1, .int p2] D E σ (fun A => va_Qi (fun r u => (S_X7_in p0 p1 p2) = r ∧ σ = u) (POB D E A) A) 0 0 :=
  CO.of RX7 (by decide +kernel) rfl (Nat.le_of_ble_eq_true rfl) (fun p e s m below meth c A ls C h hr hl => K_X7_in_0 C ok h hr hl ⟨rfl, rfl⟩)
theorem in_01 (x lo hi : Int32) : S_X7_in x lo hi = 0 ∨ S_X7_in x lo hi = 1 := by
  unfold S_X7_in
  (repeat' split) <;> first | exact Or.inl rfl | exact Or.inr rfl
theorem in_of {x lo hi : Int32} (h : ¬ S_X7_in x lo hi = 0) : ¬ x < lo ∧ ¬ hi < x := by
  unfold S_X7_in at h
  split at h
  · exact absurd rfl h
  · rename_i q
    split at h
    · exact absurd rfl h
    · rename_i q2
      exact ⟨q, q2⟩
theorem in_02 {x : Int32} (h : ¬ S_X7_in x 0 2 = 0) : vp_in x 3 := by
  obtain ⟨h1, h2⟩ := in_of h
  rw [vp_in_iff]
  rw [Int32.lt_iff_toInt_lt] at h1 h2
  have e0 : (0 : Int32).toInt = 0 := by decide
  have e3 : (2 : Int32).toInt = 2 := by decide
  omega
theorem in_13 {x : Int32} (h : ¬ S_X7_in x 1 3 = 0) : vp_in x 4 := by
  obtain ⟨h1, h2⟩ := in_of h
  rw [vp_in_iff]
  rw [Int32.lt_iff_toInt_lt] at h1 h2
  have e0 : (1 : Int32).toInt = 1 := by decide
  have e3 : (3 : Int32).toInt = 3 := by decide
  omega
theorem in_500 {x : Int32} (h : ¬ S_X7_in x 1 500 = 0) : x ≤ nI 500 := by
  obtain ⟨h1, h2⟩ := in_of h
  rw [Int32.le_iff_toInt_le, nI_toInt (by decide)]
  rw [Int32.lt_iff_toInt_lt] at h2
  have e5 : (500 : Int32).toInt = 500 := by decide
  omega
theorem in_n {E : En} {σ : St} {x : Int32} (ok : OK E σ) (h : ¬ S_X7_in x 0 (σ 55 0 - 1) = 0) : vp_in x 20 := by
  obtain ⟨h1, h2⟩ := in_of h
  have hle := ok.le
  obtain ⟨k, hk, ek⟩ := ok.m
  rw [ek] at h2
  rw [vp_in_iff]
  rw [Int32.lt_iff_toInt_lt] at h1 h2
  have e0 : (0 : Int32).toInt = 0 := by decide
  have e1 : (1 : Int32) = nI 1 := rfl
  rw [e1, pk_sub_toInt (by omega) (by decide)] at h2
  omega
theorem tb_in {f g : Int32} (h1 : vp_in f 3) (h2 : vp_in g 4) : vp_in (4 * f + g) 12 := by
  obtain ⟨i, hi, rfl⟩ := vp_in_of h1 (by decide)
  obtain ⟨j, hj, rfl⟩ := vp_in_of h2 (by decide)
  have e4 : (4 : Int32) = nI 4 := rfl
  rw [e4, pk_mul, nI_add]
  exact vp_in_nI (by omega) (by decide)
theorem in3_0 : vp_in 0 3 := vp_in_nI (n := 0) (by decide) (by decide)
theorem in3_1 : vp_in 1 3 := vp_in_nI (n := 1) (by decide) (by decide)
theorem in3_2 : vp_in 2 3 := vp_in_nI (n := 2) (by decide) (by decide)
theorem many_in {E : En} {σ : St} (ok : OK E σ) (h : ¬ σ 55 0 = 20) : vp_in (σ 55 0) 20 := by
  have hle := ok.le
  obtain ⟨k, hk, ek⟩ := ok.m
  rw [ek] at h ⊢
  have e : (20 : Int32) = nI 20 := rfl
  rw [e, nI_eq (by omega) (by decide)] at h
  exact vp_in_nI (by omega) (by decide)
theorem lt_clamp {p : Int32} {j : Nat} (hj : j < 2 ^ 31) (c : ¬ p ≤ nI j) : j < p.toNatClampNeg := by
  rw [Int32.le_iff_toInt_le, nI_toInt hj] at c
  show j < p.toInt.toNat
  omega
theorem clamp_lt (p : Int32) : p.toNatClampNeg < 2 ^ 31 := by
  have h := Int32.toInt_lt p
  show p.toInt.toNat < 2 ^ 31
  omega
-- X7_isThird isThird(I)Z
theorem cw_X7_77 : CWd RX7 77 yX7_in cX7_in 3 (some .boolean) 3 := ⟨m_ml_X7_77, m_co_X7_in, m_ini_X7, by decide +kernel, by decide +kernel⟩
abbrev rm_X7_isThird : Room := { frames := 1, cells := 0, slots := 0, locals := 22 }
def S_X7_isThird (p0 : Int32) : Int32 := (S_X7_in p0 0 2)
set_option maxRecDepth 100000 in
set_option maxHeartbeats 4000000 in
theorem K_X7_isThird_0 {p : Program} {l : Launch} {e : Env} {s : State} {m : MethodId} {args : Array Value} {below : List Frame} {meth : Method} {c : Code} {D : va_G} {E : En} {A : Nat → Prop} {post : Int32 → St → Prop} (C : CX p s m meth c cX7_isThird RX7 1 D E A) {σ : St} (ok : OK E σ) {p0 : Int32} {H : Heap} {locs : List Loc} (h : HW D E σ A s H locs) (hr : meth.sig.returnType = some .boolean) {ls : Array Slot} (hl : lv_has ls 1 [(0, .int p0)]) (hp : post (S_X7_isThird p0) σ) : W p l e rm_X7_isThird s m args below meth c H locs 0 0 (MQ below (va_Qi post (POB D E A) A) args s 0 0 A) (F0 m 0 ls []) := by
  refine lv_iload_n C.x C.b dX7_isThird_0 rfl (lv_at hl 0 rfl) ?_
  refine lv_iconst (v := 0) C.x C.b dX7_isThird_1 (by decide) ?_
  refine lv_iconst (v := 2) C.x C.b dX7_isThird_2 (by decide) ?_
  refine caSi (As := [.int p0, .int 0, .int 2]) (rest := []) C h (M_X7_in l D E _ ok p0 0 2) cw_X7_77 m_st_X7_in rfl rfl ⟨Nat.le_of_ble_eq_true rfl, Nat.le_of_ble_eq_true rfl⟩ hl rfl (Nat.le_of_ble_eq_true rfl) dX7_isThird_3 ⟨Nat.le_of_ble_eq_true rfl, Nat.le_of_ble_eq_true rfl⟩ (fun r u H locs w1 h => ?_)
  obtain ⟨rfl, rfl⟩ := w1
  exact rtI C h hr (nar_of (in_01 _ _ _)) dX7_isThird_6 hp
theorem M_X7_isThird (l : Launch) (D : va_G) (E : En) (σ : St) (ok : OK E σ) (p0 : Int32) : CO l yX7_isThird cX7_isThird 1 (some .boolean) rm_X7_isThird [.int p0] D E σ (fun A => va_Qi (fun r u => (S_X7_isThird p0) = r ∧ σ = u) (POB D E A) A) 0 0 :=
  CO.of RX7 (by decide +kernel) rfl (Nat.le_of_ble_eq_true rfl) (fun p e s m below meth c A ls C h hr hl => K_X7_isThird_0 C ok h hr hl ⟨rfl, rfl⟩)
-- X7_isFluid isFluid(I)Z
abbrev rm_X7_isFluid : Room := { frames := 1, cells := 0, slots := 0, locals := 22 }
def S_X7_isFluid (p0 : Int32) : Int32 := (S_X7_in p0 0 2)
set_option maxRecDepth 100000 in
set_option maxHeartbeats 4000000 in
theorem K_X7_isFluid_0 {p : Program} {l : Launch} {e : Env} {s : State} {m : MethodId} {args : Array Value} {below : List Frame} {meth : Method} {c : Code} {D : va_G} {E : En} {A : Nat → Prop} {post : Int32 → St → Prop} (C : CX p s m meth c cX7_isFluid RX7 1 D E A) {σ : St} (ok : OK E σ) {p0 : Int32} {H : Heap} {locs : List Loc} (h : HW D E σ A s H locs) (hr : meth.sig.returnType = some .boolean) {ls : Array Slot} (hl : lv_has ls 1 [(0, .int p0)]) (hp : post (S_X7_isFluid p0) σ) : W p l e rm_X7_isFluid s m args below meth c H locs 0 0 (MQ below (va_Qi post (POB D E A) A) args s 0 0 A) (F0 m 0 ls []) := by
  refine lv_iload_n C.x C.b dX7_isFluid_0 rfl (lv_at hl 0 rfl) ?_
  refine lv_iconst (v := 0) C.x C.b dX7_isFluid_1 (by decide) ?_
  refine lv_iconst (v := 2) C.x C.b dX7_isFluid_2 (by decide) ?_
  refine caSi (As := [.int p0, .int 0, .int 2]) (rest := []) C h (M_X7_in l D E _ ok p0 0 2) cw_X7_77 m_st_X7_in rfl rfl ⟨Nat.le_of_ble_eq_true rfl, Nat.le_of_ble_eq_true rfl⟩ hl rfl (Nat.le_of_ble_eq_true rfl) dX7_isFluid_3 ⟨Nat.le_of_ble_eq_true rfl, Nat.le_of_ble_eq_true rfl⟩ (fun r u H locs w1 h => ?_)
  obtain ⟨rfl, rfl⟩ := w1
  exact rtI C h hr (nar_of (in_01 _ _ _)) dX7_isFluid_6 hp
theorem M_X7_isFluid (l : Launch) (D : va_G) (E : En) (σ : St) (ok : OK E σ) (p0 : Int32) : CO l yX7_isFluid cX7_isFluid 1 (some .boolean) rm_X7_isFluid [.int p0] D E σ (fun A => va_Qi (fun r u => (S_X7_isFluid p0) = r ∧ σ = u) (POB D E A) A) 0 0 :=
  CO.of RX7 (by decide +kernel) rfl (Nat.le_of_ble_eq_true rfl) (fun p e s m below meth c A ls C h hr hl => K_X7_isFluid_0 C ok h hr hl ⟨rfl, rfl⟩)
-- X7_isAircraft isAircraft(I)Z
abbrev rm_X7_isAircraft : Room := { frames := 1, cells := 0, slots := 0, locals := 22 }
def S_X7_isAircraft (σ : St) (p1 : Int32) : Int32 := (S_X7_in p1 0 ((σ 55 0) - 1))
set_option maxRecDepth 100000 in
set_option maxHeartbeats 4000000 in
theorem K_X7_isAircraft_0 {p : Program} {l : Launch} {e : Env} {s : State} {m : MethodId} {args : Array Value} {below : List Frame} {meth : Method} {c : Code} {D : va_G} {E : En} {A : Nat → Prop} {post : Int32 → St → Prop} (C : CX p s m meth c cX7_isAircraft RX7 2 D E A) {σ : St} (ok : OK E σ) {p1 : Int32} {H : Heap} {locs : List Loc} (h : HW D E σ A s H locs) (hr : meth.sig.returnType = some .boolean) {ls : Array Slot} (hl : lv_has ls 2 [(0, .ref (ead E 15)), (1, .int p1)]) (hp : post (S_X7_isAircraft σ p1) σ) : W p l e rm_X7_isAircraft s m args below meth c H locs 0 0 (MQ below (va_Qi post (POB D E A) A) args s 0 0 A) (F0 m 0 ls []) := by
  refine lv_iload_n C.x C.b dX7_isAircraft_0 rfl (lv_at hl 1 rfl) ?_
  refine lv_iconst (v := 0) C.x C.b dX7_isAircraft_1 (by decide) ?_
  refine lv_aload_n C.x C.b dX7_isAircraft_2 rfl (lv_at hl 0 rfl) ?_
  refine g_X7_81 C h dX7_isAircraft_3 ?_
  refine lv_iconst (v := 1) C.x C.b dX7_isAircraft_6 (by decide) ?_
  refine lv_isub C.x C.b dX7_isAircraft_7 ?_
  refine caSi (As := [.int p1, .int 0, .int ((σ 55 0) - 1)]) (rest := []) C h (M_X7_in l D E _ ok p1 0 ((σ 55 0) - 1)) cw_X7_77 m_st_X7_in rfl rfl ⟨Nat.le_of_ble_eq_true rfl, Nat.le_of_ble_eq_true rfl⟩ hl rfl (Nat.le_of_ble_eq_true rfl) dX7_isAircraft_8 ⟨Nat.le_of_ble_eq_true rfl, Nat.le_of_ble_eq_true rfl⟩ (fun r u H locs w1 h => ?_)
  obtain ⟨rfl, rfl⟩ := w1
  exact rtI C h hr (nar_of (in_01 _ _ _)) dX7_isAircraft_11 hp
theorem M_X7_isAircraft (l : Launch) (D : va_G) (E : En) (σ : St) (ok : OK E σ) (p1 : Int32) : CO l yX7_isAircraft cX7_isAircraft 2 (some .boolean) rm_X7_isAircraft [.ref (ead E 15), .int p1] D E σ (fun A => va_Qi (fun r u => (S_X7_isAircraft σ p1) = r ∧ σ = u) (POB D E A) A) 0 0 :=
  CO.of RX7 (by decide +kernel) rfl (Nat.le_of_ble_eq_true rfl) (fun p e s m below meth c A ls C h hr hl => K_X7_isAircraft_0 C ok h hr hl ⟨rfl, rfl⟩)
-- X7_thrown thrown()I
abbrev rm_X7_thrown : Room := { frames := 0, cells := 0, slots := 0, locals := 0 }
def S_X7_thrown (σ : St) : Int32 := (σ 40 0)
set_option maxRecDepth 100000 in
set_option maxHeartbeats 4000000 in
theorem K_X7_thrown_0 {p : Program} {l : Launch} {e : Env} {s : State} {m : MethodId} {args : Array Value} {below : List Frame} {meth : Method} {c : Code} {D : va_G} {E : En} {A : Nat → Prop} {post : Int32 → St → Prop} (C : CX p s m meth c cX7_thrown RX7 1 D E A) {σ : St} (ok : OK E σ) {H : Heap} {locs : List Loc} (h : HW D E σ A s H locs) (hr : meth.sig.returnType = some .int) {ls : Array Slot} (hl : lv_has ls 1 [(0, .ref (ead E 15))]) (hp : post (S_X7_thrown σ) σ) : W p l e rm_X7_thrown s m args below meth c H locs 0 0 (MQ below (va_Qi post (POB D E A) A) args s 0 0 A) (F0 m 0 ls []) := by
  refine lv_aload_n C.x C.b dX7_thrown_0 rfl (lv_at hl 0 rfl) ?_
  refine g_X7_74 C h dX7_thrown_1 ?_
  exact rtI C h hr rfl dX7_thrown_4 hp
theorem M_X7_thrown (l : Launch) (D : va_G) (E : En) (σ : St) (ok : OK E σ) : CO l yX7_thrown cX7_thrown 1 (some .int) rm_X7_thrown [.ref (ead E 15)] D E σ (fun A => va_Qi (fun r u => (S_X7_thrown σ) = r ∧ σ = u) (POB D E A) A) 0 0 :=
  CO.of RX7 (by decide +kernel) rfl (Nat.le_of_ble_eq_true rfl) (fun p e s m below meth c A ls C h hr hl => K_X7_thrown_0 C ok h hr hl ⟨rfl, rfl⟩)
-- X7_isSprayed isSprayed(I)Z
abbrev rm_X7_isSprayed : Room := { frames := 0, cells := 0, slots := 0, locals := 0 }
def S_X7_isSprayed (σ : St) (p1 : Int32) : Int32 := if (σ 48 p1.toNatClampNeg) < (σ 41 0) then 0 else 1
set_option maxRecDepth 100000 in
set_option maxHeartbeats 4000000 in
theorem K_X7_isSprayed_0 {p : Program} {l : Launch} {e : Env} {s : State} {m : MethodId} {args : Array Value} {below : List Frame} {meth : Method} {c : Code} {D : va_G} {E : En} {A : Nat → Prop} {post : Int32 → St → Prop} (C : CX p s m meth c cX7_isSprayed RX7 2 D E A) {σ : St} (ok : OK E σ) {p1 : Int32} (h1 : vp_in p1 3) {H : Heap} {locs : List Loc} (h : HW D E σ A s H locs) (hr : meth.sig.returnType = some .boolean) {ls : Array Slot} (hl : lv_has ls 2 [(0, .ref (ead E 15)), (1, .int p1)]) (hp : post (S_X7_isSprayed σ p1) σ) : W p l e rm_X7_isSprayed s m args below meth c H locs 0 0 (MQ below (va_Qi post (POB D E A) A) args s 0 0 A) (F0 m 0 ls []) := by
  refine lv_aload_n C.x C.b dX7_isSprayed_0 rfl (lv_at hl 0 rfl) ?_
  refine g_X7_16 C h dX7_isSprayed_1 ?_
  refine lv_iload_n C.x C.b dX7_isSprayed_4 rfl (lv_at hl 1 rfl) ?_
  refine al_18 C h h1 dX7_isSprayed_5 ?_
  refine lv_aload_n C.x C.b dX7_isSprayed_6 rfl (lv_at hl 0 rfl) ?_
  refine g_X7_100 C h dX7_isSprayed_7 ?_
  refine lv_icmp_lt (tgt := 17) C.x C.b dX7_isSprayed_10 (by decide) (fun c1 => ?_) (fun c1 => ?_)
  · skip
    refine lv_iconst (v := 0) C.x C.b dX7_isSprayed_17 (by decide) ?_
    exact rtI C h hr rfl dX7_isSprayed_18 (Eq.mp (congrArg (fun z => post z σ) (if_pos c1)) hp)
  · skip
    refine lv_iconst (v := 1) C.x C.b dX7_isSprayed_13 (by decide) ?_
    refine lv_goto (tgt := 18) C.x C.b dX7_isSprayed_14 (by decide) ?_
    exact rtI C h hr rfl dX7_isSprayed_18 (Eq.mp (congrArg (fun z => post z σ) (if_neg c1)) hp)
theorem M_X7_isSprayed (l : Launch) (D : va_G) (E : En) (σ : St) (ok : OK E σ) (p1 : Int32) (h1 : vp_in p1 3) : CO l yX7_isSprayed cX7_isSprayed 2 (some .boolean) rm_X7_isSprayed [.ref (ead E 15), .int p1] D E σ (fun A => va_Qi (fun r u => (S_X7_isSprayed σ p1) = r ∧ σ = u) (POB D E A) A) 0 0 :=
  CO.of RX7 (by decide +kernel) rfl (Nat.le_of_ble_eq_true rfl) (fun p e s m below meth c A ls C h hr hl => K_X7_isSprayed_0 C ok h1 h hr hl ⟨rfl, rfl⟩)
-- X7_isClosed isClosed()Z
abbrev rm_X7_isClosed : Room := { frames := 0, cells := 0, slots := 0, locals := 0 }
def S_X7_isClosed (σ : St) : Int32 := if (σ 51 0) < (σ 41 0) then 0 else 1
set_option maxRecDepth 100000 in
set_option maxHeartbeats 4000000 in
theorem K_X7_isClosed_0 {p : Program} {l : Launch} {e : Env} {s : State} {m : MethodId} {args : Array Value} {below : List Frame} {meth : Method} {c : Code} {D : va_G} {E : En} {A : Nat → Prop} {post : Int32 → St → Prop} (C : CX p s m meth c cX7_isClosed RX7 1 D E A) {σ : St} (ok : OK E σ) {H : Heap} {locs : List Loc} (h : HW D E σ A s H locs) (hr : meth.sig.returnType = some .boolean) {ls : Array Slot} (hl : lv_has ls 1 [(0, .ref (ead E 15))]) (hp : post (S_X7_isClosed σ) σ) : W p l e rm_X7_isClosed s m args below meth c H locs 0 0 (MQ below (va_Qi post (POB D E A) A) args s 0 0 A) (F0 m 0 ls []) := by
  refine lv_aload_n C.x C.b dX7_isClosed_0 rfl (lv_at hl 0 rfl) ?_
  refine g_X7_100 C h dX7_isClosed_1 ?_
  refine lv_aload_n C.x C.b dX7_isClosed_4 rfl (lv_at hl 0 rfl) ?_
  refine g_X7_25 C h dX7_isClosed_5 ?_
  refine lv_icmp_gt (tgt := 15) C.x C.b dX7_isClosed_8 (by decide) (fun c1 => ?_) (fun c1 => ?_)
  · skip
    refine lv_iconst (v := 0) C.x C.b dX7_isClosed_15 (by decide) ?_
    exact rtI C h hr rfl dX7_isClosed_16 (Eq.mp (congrArg (fun z => post z σ) (if_pos c1)) hp)
  · skip
    refine lv_iconst (v := 1) C.x C.b dX7_isClosed_11 (by decide) ?_
    refine lv_goto (tgt := 16) C.x C.b dX7_isClosed_12 (by decide) ?_
    exact rtI C h hr rfl dX7_isClosed_16 (Eq.mp (congrArg (fun z => post z σ) (if_neg c1)) hp)
theorem M_X7_isClosed (l : Launch) (D : va_G) (E : En) (σ : St) (ok : OK E σ) : CO l yX7_isClosed cX7_isClosed 1 (some .boolean) rm_X7_isClosed [.ref (ead E 15)] D E σ (fun A => va_Qi (fun r u => (S_X7_isClosed σ) = r ∧ σ = u) (POB D E A) A) 0 0 :=
  CO.of RX7 (by decide +kernel) rfl (Nat.le_of_ble_eq_true rfl) (fun p e s m below meth c A ls C h hr hl => K_X7_isClosed_0 C ok h hr hl ⟨rfl, rfl⟩)
-- X7_lies lies(I)I
abbrev rm_X7_lies : Room := { frames := 0, cells := 0, slots := 0, locals := 0 }
def S_X7_lies (σ : St) (p1 : Int32) : Int32 := if (σ 46 p1.toNatClampNeg) = 0 then (if (σ 46 p1.toNatClampNeg) = 0 then 6 else 5) else if (σ 46 p1.toNatClampNeg) = 1 then (if (σ 46 p1.toNatClampNeg) = 0 then 6 else 5) else if (σ 46 p1.toNatClampNeg) = 3 then (if (-30) ≤ (σ 42 0) then 0 else 1) else if 30 < (σ 47 p1.toNatClampNeg) then (if 100 < (σ 47 p1.toNatClampNeg) then 2 else 3) else if (-30) ≤ (σ 42 0) then (if 100 < (σ 47 p1.toNatClampNeg) then 2 else 3) else 5
set_option maxRecDepth 100000 in
set_option maxHeartbeats 4000000 in
theorem K_X7_lies_0 {p : Program} {l : Launch} {e : Env} {s : State} {m : MethodId} {args : Array Value} {below : List Frame} {meth : Method} {c : Code} {D : va_G} {E : En} {A : Nat → Prop} {post : Int32 → St → Prop} (C : CX p s m meth c cX7_lies RX7 2 D E A) {σ : St} (ok : OK E σ) {p1 : Int32} (h1 : vp_in p1 3) {H : Heap} {locs : List Loc} (h : HW D E σ A s H locs) (hr : meth.sig.returnType = some .int) {ls : Array Slot} (hl : lv_has ls 2 [(0, .ref (ead E 15)), (1, .int p1)]) (hp : post (S_X7_lies σ p1) σ) : W p l e rm_X7_lies s m args below meth c H locs 0 0 (MQ below (va_Qi post (POB D E A) A) args s 0 0 A) (F0 m 0 ls []) := by
  refine lv_aload_n C.x C.b dX7_lies_0 rfl (lv_at hl 0 rfl) ?_
  refine g_X7_7 C h dX7_lies_1 ?_
  refine lv_iload_n C.x C.b dX7_lies_4 rfl (lv_at hl 1 rfl) ?_
  refine al_16 C h h1 dX7_lies_5 ?_
  refine lv_if_eq (tgt := 19) C.x C.b dX7_lies_6 (by decide) (fun c1 => ?_) (fun c1 => ?_)
  · skip
    refine lv_aload_n C.x C.b dX7_lies_19 rfl (lv_at hl 0 rfl) ?_
    refine g_X7_7 C h dX7_lies_20 ?_
    refine lv_iload_n C.x C.b dX7_lies_23 rfl (lv_at hl 1 rfl) ?_
    refine al_16 C h h1 dX7_lies_24 ?_
    refine lv_if_ne (tgt := 33) C.x C.b dX7_lies_25 (by decide) (fun c2 => ?_) (fun c2 => ?_)
    · skip
      refine lv_iconst (v := 5) C.x C.b dX7_lies_33 (by decide) ?_
      exact rtI C h hr rfl dX7_lies_34 (Eq.mp (congrArg (fun z => post z σ) ((if_pos c1).trans (if_neg c2))) hp)
    · skip
      refine lv_bipush (v := 6) C.x C.b dX7_lies_28 (by decide) ?_
      refine lv_goto (tgt := 34) C.x C.b dX7_lies_30 (by decide) ?_
      exact rtI C h hr rfl dX7_lies_34 (Eq.mp (congrArg (fun z => post z σ) ((if_pos c1).trans (if_pos c2))) hp)
  · skip
    refine lv_aload_n C.x C.b dX7_lies_9 rfl (lv_at hl 0 rfl) ?_
    refine g_X7_7 C h dX7_lies_10 ?_
    refine lv_iload_n C.x C.b dX7_lies_13 rfl (lv_at hl 1 rfl) ?_
    refine al_16 C h h1 dX7_lies_14 ?_
    refine lv_iconst (v := 1) C.x C.b dX7_lies_15 (by decide) ?_
    refine lv_icmp_ne (tgt := 35) C.x C.b dX7_lies_16 (by decide) (fun c3 => ?_) (fun c3 => ?_)
    · skip
      refine lv_aload_n C.x C.b dX7_lies_35 rfl (lv_at hl 0 rfl) ?_
      refine g_X7_7 C h dX7_lies_36 ?_
      refine lv_iload_n C.x C.b dX7_lies_39 rfl (lv_at hl 1 rfl) ?_
      refine al_16 C h h1 dX7_lies_40 ?_
      refine lv_iconst (v := 3) C.x C.b dX7_lies_41 (by decide) ?_
      refine lv_icmp_ne (tgt := 60) C.x C.b dX7_lies_42 (by decide) (fun c4 => ?_) (fun c4 => ?_)
      · skip
        refine lv_aload_n C.x C.b dX7_lies_60 rfl (lv_at hl 0 rfl) ?_
        refine g_X7_13 C h dX7_lies_61 ?_
        refine lv_iload_n C.x C.b dX7_lies_64 rfl (lv_at hl 1 rfl) ?_
        refine al_17 C h h1 dX7_lies_65 ?_
        refine lv_bipush (v := 30) C.x C.b dX7_lies_66 (by decide) ?_
        refine lv_icmp_gt (tgt := 84) C.x C.b dX7_lies_68 (by decide) (fun c5 => ?_) (fun c5 => ?_)
        · skip
          refine lv_aload_n C.x C.b dX7_lies_84 rfl (lv_at hl 0 rfl) ?_
          refine g_X7_13 C h dX7_lies_85 ?_
          refine lv_iload_n C.x C.b dX7_lies_88 rfl (lv_at hl 1 rfl) ?_
          refine al_17 C h h1 dX7_lies_89 ?_
          refine lv_bipush (v := 100) C.x C.b dX7_lies_90 (by decide) ?_
          refine lv_icmp_gt (tgt := 99) C.x C.b dX7_lies_92 (by decide) (fun c6 => ?_) (fun c6 => ?_)
          · skip
            refine lv_iconst (v := 2) C.x C.b dX7_lies_99 (by decide) ?_
            exact rtI C h hr rfl dX7_lies_100 (Eq.mp (congrArg (fun z => post z σ) ((if_neg c1).trans ((if_neg c3).trans ((if_neg c4).trans ((if_pos c5).trans (if_pos c6)))))) hp)
          · skip
            refine lv_iconst (v := 3) C.x C.b dX7_lies_95 (by decide) ?_
            refine lv_goto (tgt := 100) C.x C.b dX7_lies_96 (by decide) ?_
            exact rtI C h hr rfl dX7_lies_100 (Eq.mp (congrArg (fun z => post z σ) ((if_neg c1).trans ((if_neg c3).trans ((if_neg c4).trans ((if_pos c5).trans (if_neg c6)))))) hp)
        · skip
          refine lv_aload_n C.x C.b dX7_lies_71 rfl (lv_at hl 0 rfl) ?_
          refine g_X7_84 C h dX7_lies_72 ?_
          refine lv_bipush (v := (-30)) C.x C.b dX7_lies_75 (by decide) ?_
          refine lv_icmp_ge (tgt := 84) C.x C.b dX7_lies_77 (by decide) (fun c7 => ?_) (fun c7 => ?_)
          · skip
            refine lv_aload_n C.x C.b dX7_lies_84 rfl (lv_at hl 0 rfl) ?_
            refine g_X7_13 C h dX7_lies_85 ?_
            refine lv_iload_n C.x C.b dX7_lies_88 rfl (lv_at hl 1 rfl) ?_
            refine al_17 C h h1 dX7_lies_89 ?_
            refine lv_bipush (v := 100) C.x C.b dX7_lies_90 (by decide) ?_
            refine lv_icmp_gt (tgt := 99) C.x C.b dX7_lies_92 (by decide) (fun c8 => ?_) (fun c8 => ?_)
            · skip
              refine lv_iconst (v := 2) C.x C.b dX7_lies_99 (by decide) ?_
              exact rtI C h hr rfl dX7_lies_100 (Eq.mp (congrArg (fun z => post z σ) ((if_neg c1).trans ((if_neg c3).trans ((if_neg c4).trans ((if_neg c5).trans ((if_pos c7).trans (if_pos c8))))))) hp)
            · skip
              refine lv_iconst (v := 3) C.x C.b dX7_lies_95 (by decide) ?_
              refine lv_goto (tgt := 100) C.x C.b dX7_lies_96 (by decide) ?_
              exact rtI C h hr rfl dX7_lies_100 (Eq.mp (congrArg (fun z => post z σ) ((if_neg c1).trans ((if_neg c3).trans ((if_neg c4).trans ((if_neg c5).trans ((if_pos c7).trans (if_neg c8))))))) hp)
          · skip
            refine lv_iconst (v := 5) C.x C.b dX7_lies_80 (by decide) ?_
            refine lv_goto (tgt := 100) C.x C.b dX7_lies_81 (by decide) ?_
            exact rtI C h hr rfl dX7_lies_100 (Eq.mp (congrArg (fun z => post z σ) ((if_neg c1).trans ((if_neg c3).trans ((if_neg c4).trans ((if_neg c5).trans (if_neg c7)))))) hp)
      · skip
        refine lv_aload_n C.x C.b dX7_lies_45 rfl (lv_at hl 0 rfl) ?_
        refine g_X7_84 C h dX7_lies_46 ?_
        refine lv_bipush (v := (-30)) C.x C.b dX7_lies_49 (by decide) ?_
        refine lv_icmp_ge (tgt := 58) C.x C.b dX7_lies_51 (by decide) (fun c9 => ?_) (fun c9 => ?_)
        · skip
          refine lv_iconst (v := 0) C.x C.b dX7_lies_58 (by decide) ?_
          exact rtI C h hr rfl dX7_lies_59 (Eq.mp (congrArg (fun z => post z σ) ((if_neg c1).trans ((if_neg c3).trans ((if_pos c4).trans (if_pos c9))))) hp)
        · skip
          refine lv_iconst (v := 1) C.x C.b dX7_lies_54 (by decide) ?_
          refine lv_goto (tgt := 59) C.x C.b dX7_lies_55 (by decide) ?_
          exact rtI C h hr rfl dX7_lies_59 (Eq.mp (congrArg (fun z => post z σ) ((if_neg c1).trans ((if_neg c3).trans ((if_pos c4).trans (if_neg c9))))) hp)
    · skip
      refine lv_aload_n C.x C.b dX7_lies_19 rfl (lv_at hl 0 rfl) ?_
      refine g_X7_7 C h dX7_lies_20 ?_
      refine lv_iload_n C.x C.b dX7_lies_23 rfl (lv_at hl 1 rfl) ?_
      refine al_16 C h h1 dX7_lies_24 ?_
      refine lv_if_ne (tgt := 33) C.x C.b dX7_lies_25 (by decide) (fun c10 => ?_) (fun c10 => ?_)
      · skip
        refine lv_iconst (v := 5) C.x C.b dX7_lies_33 (by decide) ?_
        exact rtI C h hr rfl dX7_lies_34 (Eq.mp (congrArg (fun z => post z σ) ((if_neg c1).trans ((if_pos c3).trans (if_neg c10)))) hp)
      · skip
        refine lv_bipush (v := 6) C.x C.b dX7_lies_28 (by decide) ?_
        refine lv_goto (tgt := 34) C.x C.b dX7_lies_30 (by decide) ?_
        exact rtI C h hr rfl dX7_lies_34 (Eq.mp (congrArg (fun z => post z σ) ((if_neg c1).trans ((if_pos c3).trans (if_pos c10)))) hp)
theorem M_X7_lies (l : Launch) (D : va_G) (E : En) (σ : St) (ok : OK E σ) (p1 : Int32) (h1 : vp_in p1 3) : CO l yX7_lies cX7_lies 2 (some .int) rm_X7_lies [.ref (ead E 15), .int p1] D E σ (fun A => va_Qi (fun r u => (S_X7_lies σ p1) = r ∧ σ = u) (POB D E A) A) 0 0 :=
  CO.of RX7 (by decide +kernel) rfl (Nat.le_of_ble_eq_true rfl) (fun p e s m below meth c A ls C h hr hl => K_X7_lies_0 C ok h1 h hr hl ⟨rfl, rfl⟩)
-- X7_codeOf codeOf(I)I
theorem cw_X7_106 : CWd RX7 106 yX7_lies cX7_lies 2 (some .int) 1 := ⟨m_ml_X7_106, m_co_X7_lies, m_ini_X7, by decide +kernel, by decide +kernel⟩
abbrev rm_X7_codeOf : Room := { frames := 1, cells := 0, slots := 0, locals := 21 }
def S_X7_codeOf (σ : St) (p1 : Int32) : Int32 := if 30 < ((σ 41 0) - (σ 50 p1.toNatClampNeg)) then (S_X7_lies σ p1) else if (S_X7_lies σ p1) ≤ (σ 49 p1.toNatClampNeg) then (S_X7_lies σ p1) else (σ 49 p1.toNatClampNeg)
set_option maxRecDepth 100000 in
set_option maxHeartbeats 4000000 in
theorem K_X7_codeOf_0 {p : Program} {l : Launch} {e : Env} {s : State} {m : MethodId} {args : Array Value} {below : List Frame} {meth : Method} {c : Code} {D : va_G} {E : En} {A : Nat → Prop} {post : Int32 → St → Prop} (C : CX p s m meth c cX7_codeOf RX7 3 D E A) {σ : St} (ok : OK E σ) {p1 : Int32} (h1 : vp_in p1 3) {H : Heap} {locs : List Loc} (h : HW D E σ A s H locs) (hr : meth.sig.returnType = some .int) {ls : Array Slot} (hl : lv_has ls 3 [(0, .ref (ead E 15)), (1, .int p1)]) (hp : post (S_X7_codeOf σ p1) σ) : W p l e rm_X7_codeOf s m args below meth c H locs 0 0 (MQ below (va_Qi post (POB D E A) A) args s 0 0 A) (F0 m 0 ls []) := by
  refine lv_aload_n C.x C.b dX7_codeOf_0 rfl (lv_at hl 0 rfl) ?_
  refine lv_iload_n C.x C.b dX7_codeOf_1 rfl (lv_at hl 1 rfl) ?_
  refine caVi (As := [.int p1]) (rest := []) (q0 := 15) (ci := 7) C h (M_X7_lies l D E _ ok p1 h1) cw_X7_106 m_im_X7_lies m_se_X7_lies rfl rfl ⟨Nat.le_of_ble_eq_true rfl, Nat.le_of_ble_eq_true rfl⟩ rfl rfl hl rfl (Nat.le_of_ble_eq_true rfl) dX7_codeOf_2 ⟨Nat.le_of_ble_eq_true rfl, Nat.le_of_ble_eq_true rfl⟩ (fun r u H locs w1 h => ?_)
  obtain ⟨rfl, rfl⟩ := w1
  refine lv_istore_n (lv' := [(2, .int (S_X7_lies σ p1)), (0, .ref (ead E 15)), (1, .int p1)]) C.x C.b dX7_codeOf_5 rfl hl (by decide) rfl (fun ls hl => ?_)
  refine lv_aload_n C.x C.b dX7_codeOf_6 rfl (lv_at hl 1 rfl) ?_
  refine g_X7_100 C h dX7_codeOf_7 ?_
  refine lv_aload_n C.x C.b dX7_codeOf_10 rfl (lv_at hl 1 rfl) ?_
  refine g_X7_22 C h dX7_codeOf_11 ?_
  refine lv_iload_n C.x C.b dX7_codeOf_14 rfl (lv_at hl 2 rfl) ?_
  refine al_20 C h h1 dX7_codeOf_15 ?_
  refine lv_isub C.x C.b dX7_codeOf_16 ?_
  refine lv_bipush (v := 30) C.x C.b dX7_codeOf_17 (by decide) ?_
  refine lv_icmp_gt (tgt := 41) C.x C.b dX7_codeOf_19 (by decide) (fun c2 => ?_) (fun c2 => ?_)
  · skip
    refine lv_iload_n C.x C.b dX7_codeOf_41 rfl (lv_at hl 0 rfl) ?_
    exact rtI C h hr rfl dX7_codeOf_42 (Eq.mp (congrArg (fun z => post z σ) (if_pos c2)) hp)
  · skip
    refine lv_aload_n C.x C.b dX7_codeOf_22 rfl (lv_at hl 1 rfl) ?_
    refine g_X7_19 C h dX7_codeOf_23 ?_
    refine lv_iload_n C.x C.b dX7_codeOf_26 rfl (lv_at hl 2 rfl) ?_
    refine al_19 C h h1 dX7_codeOf_27 ?_
    refine lv_iload_n C.x C.b dX7_codeOf_28 rfl (lv_at hl 0 rfl) ?_
    refine lv_icmp_ge (tgt := 41) C.x C.b dX7_codeOf_29 (by decide) (fun c3 => ?_) (fun c3 => ?_)
    · skip
      refine lv_iload_n C.x C.b dX7_codeOf_41 rfl (lv_at hl 0 rfl) ?_
      exact rtI C h hr rfl dX7_codeOf_42 (Eq.mp (congrArg (fun z => post z σ) ((if_neg c2).trans (if_pos c3))) hp)
    · skip
      refine lv_aload_n C.x C.b dX7_codeOf_32 rfl (lv_at hl 1 rfl) ?_
      refine g_X7_19 C h dX7_codeOf_33 ?_
      refine lv_iload_n C.x C.b dX7_codeOf_36 rfl (lv_at hl 2 rfl) ?_
      refine al_19 C h h1 dX7_codeOf_37 ?_
      refine lv_goto (tgt := 42) C.x C.b dX7_codeOf_38 (by decide) ?_
      exact rtI C h hr rfl dX7_codeOf_42 (Eq.mp (congrArg (fun z => post z σ) ((if_neg c2).trans (if_neg c3))) hp)
theorem M_X7_codeOf (l : Launch) (D : va_G) (E : En) (σ : St) (ok : OK E σ) (p1 : Int32) (h1 : vp_in p1 3) : CO l yX7_codeOf cX7_codeOf 3 (some .int) rm_X7_codeOf [.ref (ead E 15), .int p1] D E σ (fun A => va_Qi (fun r u => (S_X7_codeOf σ p1) = r ∧ σ = u) (POB D E A) A) 0 0 :=
  CO.of RX7 (by decide +kernel) rfl (Nat.le_of_ble_eq_true rfl) (fun p e s m below meth c A ls C h hr hl => K_X7_codeOf_0 C ok h1 h hr hl ⟨rfl, rfl⟩)
-- X7_areEnough areEnough()Z
theorem cw_X7_110 : CWd RX7 110 yX7_codeOf cX7_codeOf 3 (some .int) 1 := ⟨m_ml_X7_110, m_co_X7_codeOf, m_ini_X7, by decide +kernel, by decide +kernel⟩
abbrev rm_X7_areEnough : Room := { frames := 2, cells := 0, slots := 0, locals := 43 }
def S_X7_areEnough_41 (σ : St) (y0 : Int32) : Int32 := if (S_X7_codeOf σ 0) < y0 then 0 else if (S_X7_codeOf σ 1) < y0 then 0 else if (S_X7_codeOf σ 2) < y0 then 0 else 1
set_option maxRecDepth 100000 in
set_option maxHeartbeats 4000000 in
theorem K_X7_areEnough_41 {p : Program} {l : Launch} {e : Env} {s : State} {m : MethodId} {args : Array Value} {below : List Frame} {meth : Method} {c : Code} {D : va_G} {E : En} {A : Nat → Prop} {post : Int32 → St → Prop} (C : CX p s m meth c cX7_areEnough RX7 2 D E A) {σ : St} (ok : OK E σ) {y0 : Int32} {H : Heap} {locs : List Loc} (h : HW D E σ A s H locs) (hr : meth.sig.returnType = some .boolean) {ls : Array Slot} (hl : lv_has ls 2 [(0, .ref (ead E 15))]) (hp : post (S_X7_areEnough_41 σ y0) σ) : W p l e rm_X7_areEnough s m args below meth c H locs 0 0 (MQ below (va_Qi post (POB D E A) A) args s 0 0 A) (F0 m 41 ls [.int y0]) := by
  refine lv_istore_n (lv' := [(1, .int y0), (0, .ref (ead E 15))]) C.x C.b dX7_areEnough_41 rfl hl (by decide) rfl (fun ls hl => ?_)
  refine lv_aload_n C.x C.b dX7_areEnough_42 rfl (lv_at hl 1 rfl) ?_
  refine lv_iconst (v := 0) C.x C.b dX7_areEnough_43 (by decide) ?_
  refine caVi (As := [.int 0]) (rest := []) (q0 := 15) (ci := 7) C h (M_X7_codeOf l D E _ ok 0 in3_0) cw_X7_110 m_im_X7_codeOf m_se_X7_codeOf rfl rfl ⟨Nat.le_of_ble_eq_true rfl, Nat.le_of_ble_eq_true rfl⟩ rfl rfl hl rfl (Nat.le_of_ble_eq_true rfl) dX7_areEnough_44 ⟨Nat.le_of_ble_eq_true rfl, Nat.le_of_ble_eq_true rfl⟩ (fun r u H locs w1 h => ?_)
  obtain ⟨rfl, rfl⟩ := w1
  refine lv_iload_n C.x C.b dX7_areEnough_47 rfl (lv_at hl 0 rfl) ?_
  refine lv_icmp_lt (tgt := 73) C.x C.b dX7_areEnough_48 (by decide) (fun c2 => ?_) (fun c2 => ?_)
  · skip
    refine lv_iconst (v := 0) C.x C.b dX7_areEnough_73 (by decide) ?_
    exact rtI C h hr rfl dX7_areEnough_74 (Eq.mp (congrArg (fun z => post z σ) (if_pos c2)) hp)
  · skip
    refine lv_aload_n C.x C.b dX7_areEnough_51 rfl (lv_at hl 1 rfl) ?_
    refine lv_iconst (v := 1) C.x C.b dX7_areEnough_52 (by decide) ?_
    refine caVi (As := [.int 1]) (rest := []) (q0 := 15) (ci := 7) C h (M_X7_codeOf l D E _ ok 1 in3_1) cw_X7_110 m_im_X7_codeOf m_se_X7_codeOf rfl rfl ⟨Nat.le_of_ble_eq_true rfl, Nat.le_of_ble_eq_true rfl⟩ rfl rfl hl rfl (Nat.le_of_ble_eq_true rfl) dX7_areEnough_53 ⟨Nat.le_of_ble_eq_true rfl, Nat.le_of_ble_eq_true rfl⟩ (fun r u H locs w3 h => ?_)
    obtain ⟨rfl, rfl⟩ := w3
    refine lv_iload_n C.x C.b dX7_areEnough_56 rfl (lv_at hl 0 rfl) ?_
    refine lv_icmp_lt (tgt := 73) C.x C.b dX7_areEnough_57 (by decide) (fun c4 => ?_) (fun c4 => ?_)
    · skip
      refine lv_iconst (v := 0) C.x C.b dX7_areEnough_73 (by decide) ?_
      exact rtI C h hr rfl dX7_areEnough_74 (Eq.mp (congrArg (fun z => post z σ) ((if_neg c2).trans (if_pos c4))) hp)
    · skip
      refine lv_aload_n C.x C.b dX7_areEnough_60 rfl (lv_at hl 1 rfl) ?_
      refine lv_iconst (v := 2) C.x C.b dX7_areEnough_61 (by decide) ?_
      refine caVi (As := [.int 2]) (rest := []) (q0 := 15) (ci := 7) C h (M_X7_codeOf l D E _ ok 2 in3_2) cw_X7_110 m_im_X7_codeOf m_se_X7_codeOf rfl rfl ⟨Nat.le_of_ble_eq_true rfl, Nat.le_of_ble_eq_true rfl⟩ rfl rfl hl rfl (Nat.le_of_ble_eq_true rfl) dX7_areEnough_62 ⟨Nat.le_of_ble_eq_true rfl, Nat.le_of_ble_eq_true rfl⟩ (fun r u H locs w5 h => ?_)
      obtain ⟨rfl, rfl⟩ := w5
      refine lv_iload_n C.x C.b dX7_areEnough_65 rfl (lv_at hl 0 rfl) ?_
      refine lv_icmp_lt (tgt := 73) C.x C.b dX7_areEnough_66 (by decide) (fun c6 => ?_) (fun c6 => ?_)
      · skip
        refine lv_iconst (v := 0) C.x C.b dX7_areEnough_73 (by decide) ?_
        exact rtI C h hr rfl dX7_areEnough_74 (Eq.mp (congrArg (fun z => post z σ) ((if_neg c2).trans ((if_neg c4).trans (if_pos c6)))) hp)
      · skip
        refine lv_iconst (v := 1) C.x C.b dX7_areEnough_69 (by decide) ?_
        refine lv_goto (tgt := 74) C.x C.b dX7_areEnough_70 (by decide) ?_
        exact rtI C h hr rfl dX7_areEnough_74 (Eq.mp (congrArg (fun z => post z σ) ((if_neg c2).trans ((if_neg c4).trans (if_neg c6)))) hp)
def S_X7_areEnough (σ : St) : Int32 := if 10 < (σ 45 0) then (if 20 < (σ 45 0) then (if 30 < (σ 45 0) then S_X7_areEnough_41 σ 7 else S_X7_areEnough_41 σ 5) else S_X7_areEnough_41 σ 3) else S_X7_areEnough_41 σ 1
set_option maxRecDepth 100000 in
set_option maxHeartbeats 4000000 in
theorem K_X7_areEnough_0 {p : Program} {l : Launch} {e : Env} {s : State} {m : MethodId} {args : Array Value} {below : List Frame} {meth : Method} {c : Code} {D : va_G} {E : En} {A : Nat → Prop} {post : Int32 → St → Prop} (C : CX p s m meth c cX7_areEnough RX7 2 D E A) {σ : St} (ok : OK E σ) {H : Heap} {locs : List Loc} (h : HW D E σ A s H locs) (hr : meth.sig.returnType = some .boolean) {ls : Array Slot} (hl : lv_has ls 2 [(0, .ref (ead E 15))]) (hp : post (S_X7_areEnough σ) σ) : W p l e rm_X7_areEnough s m args below meth c H locs 0 0 (MQ below (va_Qi post (POB D E A) A) args s 0 0 A) (F0 m 0 ls []) := by
  refine lv_aload_n C.x C.b dX7_areEnough_0 rfl (lv_at hl 0 rfl) ?_
  refine g_X7_93 C h dX7_areEnough_1 ?_
  refine lv_bipush (v := 10) C.x C.b dX7_areEnough_4 (by decide) ?_
  refine lv_icmp_gt (tgt := 13) C.x C.b dX7_areEnough_6 (by decide) (fun c1 => ?_) (fun c1 => ?_)
  · skip
    refine lv_aload_n C.x C.b dX7_areEnough_13 rfl (lv_at hl 0 rfl) ?_
    refine g_X7_93 C h dX7_areEnough_14 ?_
    refine lv_bipush (v := 20) C.x C.b dX7_areEnough_17 (by decide) ?_
    refine lv_icmp_gt (tgt := 26) C.x C.b dX7_areEnough_19 (by decide) (fun c2 => ?_) (fun c2 => ?_)
    · skip
      refine lv_aload_n C.x C.b dX7_areEnough_26 rfl (lv_at hl 0 rfl) ?_
      refine g_X7_93 C h dX7_areEnough_27 ?_
      refine lv_bipush (v := 30) C.x C.b dX7_areEnough_30 (by decide) ?_
      refine lv_icmp_gt (tgt := 39) C.x C.b dX7_areEnough_32 (by decide) (fun c3 => ?_) (fun c3 => ?_)
      · skip
        refine lv_bipush (v := 7) C.x C.b dX7_areEnough_39 (by decide) ?_
        exact K_X7_areEnough_41 (y0 := 7) C ok h hr (lv_sub hl [0] rfl) (Eq.mp (congrArg (fun z => post z σ) ((if_pos c1).trans ((if_pos c2).trans (if_pos c3)))) hp)
      · skip
        refine lv_iconst (v := 5) C.x C.b dX7_areEnough_35 (by decide) ?_
        refine lv_goto (tgt := 41) C.x C.b dX7_areEnough_36 (by decide) ?_
        exact K_X7_areEnough_41 (y0 := 5) C ok h hr (lv_sub hl [0] rfl) (Eq.mp (congrArg (fun z => post z σ) ((if_pos c1).trans ((if_pos c2).trans (if_neg c3)))) hp)
    · skip
      refine lv_iconst (v := 3) C.x C.b dX7_areEnough_22 (by decide) ?_
      refine lv_goto (tgt := 41) C.x C.b dX7_areEnough_23 (by decide) ?_
      exact K_X7_areEnough_41 (y0 := 3) C ok h hr (lv_sub hl [0] rfl) (Eq.mp (congrArg (fun z => post z σ) ((if_pos c1).trans (if_neg c2))) hp)
  · skip
    refine lv_iconst (v := 1) C.x C.b dX7_areEnough_9 (by decide) ?_
    refine lv_goto (tgt := 41) C.x C.b dX7_areEnough_10 (by decide) ?_
    exact K_X7_areEnough_41 (y0 := 1) C ok h hr (lv_sub hl [0] rfl) (Eq.mp (congrArg (fun z => post z σ) (if_neg c1)) hp)
theorem M_X7_areEnough (l : Launch) (D : va_G) (E : En) (σ : St) (ok : OK E σ) : CO l yX7_areEnough cX7_areEnough 2 (some .boolean) rm_X7_areEnough [.ref (ead E 15)] D E σ (fun A => va_Qi (fun r u => (S_X7_areEnough σ) = r ∧ σ = u) (POB D E A) A) 0 0 :=
  CO.of RX7 (by decide +kernel) rfl (Nat.le_of_ble_eq_true rfl) (fun p e s m below meth c A ls C h hr hl => K_X7_areEnough_0 C ok h hr hl ⟨rfl, rfl⟩)
-- X7_isFree isFree(I)Z
abbrev rm_X7_isFree : Room := { frames := 0, cells := 0, slots := 0, locals := 0 }
def S_X7_isFree_4 : Nat → St → Int32 → Int32 → Nat → Int32
  | 0, _, _, _, _ => 0
  | n + 1, σ, p1, v2, j3 => if (σ 55 0) ≤ (nI j3) then v2 else if v2 = 0 then S_X7_isFree_4 n σ p1 0 (j3 + 1) else if (σ 63 j3) = p1 then S_X7_isFree_4 n σ p1 0 (j3 + 1) else S_X7_isFree_4 n σ p1 1 (j3 + 1)
theorem S_X7_isFree_4_s (n : Nat) (σ : St) (p1 : Int32) (v2 : Int32) (j3 : Nat) : S_X7_isFree_4 (n + 1) σ p1 v2 j3 = if (σ 55 0) ≤ (nI j3) then v2 else if v2 = 0 then S_X7_isFree_4 n σ p1 0 (j3 + 1) else if (σ 63 j3) = p1 then S_X7_isFree_4 n σ p1 0 (j3 + 1) else S_X7_isFree_4 n σ p1 1 (j3 + 1) := rfl
set_option maxRecDepth 100000 in
set_option maxHeartbeats 4000000 in
theorem K_X7_isFree_4 {p : Program} {l : Launch} {e : Env} {s : State} {m : MethodId} {args : Array Value} {below : List Frame} {meth : Method} {c : Code} {D : va_G} {E : En} {A : Nat → Prop} {post : Int32 → St → Prop} (C : CX p s m meth c cX7_isFree RX7 4 D E A) (hr : meth.sig.returnType = some .boolean) {p1 : Int32} : ∀ (n : Nat) {σ : St} (ok : OK E σ) {v2 : Int32} {j3 : Nat} (hj : j3 + n = 21) (hb : j3 ≤ 20) (hv : v2 = 0 ∨ v2 = 1) {H : Heap} {locs : List Loc} (h : HW D E σ A s H locs) {ls : Array Slot} (hl : lv_has ls 4 [(0, .ref (ead E 15)), (1, .int p1), (2, .int v2), (3, .int (nI j3))]) (hp : post (S_X7_isFree_4 n σ p1 v2 j3) σ), W p l e rm_X7_isFree s m args below meth c H locs 0 0 (MQ below (va_Qi post (POB D E A) A) args s 0 0 A) (F0 m 4 ls []) := by
  intro n
  induction n with
  | zero =>
    intro σ ok v2 j3 hj hb hv H locs h ls hl hp
    exfalso
    omega
  | succ n ih =>
    intro σ ok v2 j3 hj hb hv H locs h ls hl hp
    refine lv_iload_n C.x C.b dX7_isFree_4 rfl (lv_at hl 3 rfl) ?_
    refine lv_aload_n C.x C.b dX7_isFree_5 rfl (lv_at hl 0 rfl) ?_
    refine g_X7_81 C h dX7_isFree_6 ?_
    refine lv_icmp_ge (tgt := 38) C.x C.b dX7_isFree_9 (by decide) (fun c1 => ?_) (fun c1 => ?_)
    · skip
      refine lv_iload_n C.x C.b dX7_isFree_38 rfl (lv_at hl 2 rfl) ?_
      exact rtI C h hr (nar_of hv) dX7_isFree_39 (Eq.mp (congrArg (fun z => post z σ) ((S_X7_isFree_4_s n σ p1 v2 j3).trans (if_pos c1))) hp)
    · skip
      have h3 : j3 < en E := ok.lt' (by omega) c1
      refine lv_iload_n C.x C.b dX7_isFree_12 rfl (lv_at hl 2 rfl) ?_
      refine lv_if_eq (tgt := 30) C.x C.b dX7_isFree_13 (by decide) (fun c2 => ?_) (fun c2 => ?_)
      · skip
        refine lv_iconst (v := 0) C.x C.b dX7_isFree_30 (by decide) ?_
        refine lv_istore_n (lv' := [(2, .int 0), (0, .ref (ead E 15)), (1, .int p1), (3, .int (nI j3))]) C.x C.b dX7_isFree_31 rfl hl (by decide) rfl (fun ls hl => ?_)
        refine lv_iinc (v := nI (j3 + 1)) (lv' := [(3, .int (nI (j3 + 1))), (2, .int 0), (0, .ref (ead E 15)), (1, .int p1)]) C.x C.b dX7_isFree_32 hl (k := 3) rfl (nI_1 _) (by decide) rfl (fun ls hl => ?_)
        refine lv_goto (tgt := 4) C.x C.b dX7_isFree_35 (by decide) ?_
        exact ih (v2 := 0) (j3 := j3 + 1) ok (by omega) (by have := ok.le; omega) (by first | exact Or.inl rfl | exact Or.inr rfl | exact hv) h (lv_sub hl [2, 3, 1, 0] rfl) (Eq.mp (congrArg (fun z => post z σ) ((S_X7_isFree_4_s n σ p1 v2 j3).trans ((if_neg c1).trans (if_pos c2)))) hp)
      · skip
        refine lv_aload_n C.x C.b dX7_isFree_16 rfl (lv_at hl 0 rfl) ?_
        refine g_X7_56 C h dX7_isFree_17 ?_
        refine lv_iload_n C.x C.b dX7_isFree_20 rfl (lv_at hl 3 rfl) ?_
        refine aln_30 C h (Nat.lt_of_lt_of_le h3 ok.le) dX7_isFree_21 ?_
        refine lv_iload_n C.x C.b dX7_isFree_22 rfl (lv_at hl 1 rfl) ?_
        refine lv_icmp_eq (tgt := 30) C.x C.b dX7_isFree_23 (by decide) (fun c3 => ?_) (fun c3 => ?_)
        · skip
          refine lv_iconst (v := 0) C.x C.b dX7_isFree_30 (by decide) ?_
          refine lv_istore_n (lv' := [(2, .int 0), (0, .ref (ead E 15)), (1, .int p1), (3, .int (nI j3))]) C.x C.b dX7_isFree_31 rfl hl (by decide) rfl (fun ls hl => ?_)
          refine lv_iinc (v := nI (j3 + 1)) (lv' := [(3, .int (nI (j3 + 1))), (2, .int 0), (0, .ref (ead E 15)), (1, .int p1)]) C.x C.b dX7_isFree_32 hl (k := 3) rfl (nI_1 _) (by decide) rfl (fun ls hl => ?_)
          refine lv_goto (tgt := 4) C.x C.b dX7_isFree_35 (by decide) ?_
          exact ih (v2 := 0) (j3 := j3 + 1) ok (by omega) (by have := ok.le; omega) (by first | exact Or.inl rfl | exact Or.inr rfl | exact hv) h (lv_sub hl [2, 3, 1, 0] rfl) (Eq.mp (congrArg (fun z => post z σ) ((S_X7_isFree_4_s n σ p1 v2 j3).trans ((if_neg c1).trans ((if_neg c2).trans (if_pos c3))))) hp)
        · skip
          refine lv_iconst (v := 1) C.x C.b dX7_isFree_26 (by decide) ?_
          refine lv_goto (tgt := 31) C.x C.b dX7_isFree_27 (by decide) ?_
          refine lv_istore_n (lv' := [(2, .int 1), (0, .ref (ead E 15)), (1, .int p1), (3, .int (nI j3))]) C.x C.b dX7_isFree_31 rfl hl (by decide) rfl (fun ls hl => ?_)
          refine lv_iinc (v := nI (j3 + 1)) (lv' := [(3, .int (nI (j3 + 1))), (2, .int 1), (0, .ref (ead E 15)), (1, .int p1)]) C.x C.b dX7_isFree_32 hl (k := 3) rfl (nI_1 _) (by decide) rfl (fun ls hl => ?_)
          refine lv_goto (tgt := 4) C.x C.b dX7_isFree_35 (by decide) ?_
          exact ih (v2 := 1) (j3 := j3 + 1) ok (by omega) (by have := ok.le; omega) (by first | exact Or.inl rfl | exact Or.inr rfl | exact hv) h (lv_sub hl [2, 3, 1, 0] rfl) (Eq.mp (congrArg (fun z => post z σ) ((S_X7_isFree_4_s n σ p1 v2 j3).trans ((if_neg c1).trans ((if_neg c2).trans (if_neg c3))))) hp)
def S_X7_isFree (σ : St) (p1 : Int32) : Int32 := S_X7_isFree_4 21 σ p1 1 0
set_option maxRecDepth 100000 in
set_option maxHeartbeats 4000000 in
theorem K_X7_isFree_0 {p : Program} {l : Launch} {e : Env} {s : State} {m : MethodId} {args : Array Value} {below : List Frame} {meth : Method} {c : Code} {D : va_G} {E : En} {A : Nat → Prop} {post : Int32 → St → Prop} (C : CX p s m meth c cX7_isFree RX7 4 D E A) {σ : St} (ok : OK E σ) {p1 : Int32} {H : Heap} {locs : List Loc} (h : HW D E σ A s H locs) (hr : meth.sig.returnType = some .boolean) {ls : Array Slot} (hl : lv_has ls 4 [(0, .ref (ead E 15)), (1, .int p1)]) (hp : post (S_X7_isFree σ p1) σ) : W p l e rm_X7_isFree s m args below meth c H locs 0 0 (MQ below (va_Qi post (POB D E A) A) args s 0 0 A) (F0 m 0 ls []) := by
  refine lv_iconst (v := 1) C.x C.b dX7_isFree_0 (by decide) ?_
  refine lv_istore_n (lv' := [(2, .int 1), (0, .ref (ead E 15)), (1, .int p1)]) C.x C.b dX7_isFree_1 rfl hl (by decide) rfl (fun ls hl => ?_)
  refine lv_iconst (v := 0) C.x C.b dX7_isFree_2 (by decide) ?_
  refine lv_istore_n (lv' := [(3, .int 0), (2, .int 1), (0, .ref (ead E 15)), (1, .int p1)]) C.x C.b dX7_isFree_3 rfl hl (by decide) rfl (fun ls hl => ?_)
  exact K_X7_isFree_4 C hr 21 (v2 := 1) (j3 := 0) ok (by omega) (by have := ok.le; omega) (by first | exact Or.inl rfl | exact Or.inr rfl | exact hv) h (lv_sub hl [2, 3, 1, 0] rfl) hp
theorem M_X7_isFree (l : Launch) (D : va_G) (E : En) (σ : St) (ok : OK E σ) (p1 : Int32) : CO l yX7_isFree cX7_isFree 4 (some .boolean) rm_X7_isFree [.ref (ead E 15), .int p1] D E σ (fun A => va_Qi (fun r u => (S_X7_isFree σ p1) = r ∧ σ = u) (POB D E A) A) 0 0 :=
  CO.of RX7 (by decide +kernel) rfl (Nat.le_of_ble_eq_true rfl) (fun p e s m below meth c A ls C h hr hl => K_X7_isFree_0 C ok h hr hl ⟨rfl, rfl⟩)
-- X7_cancels cancels(I)V
abbrev rm_X7_cancels : Room := { frames := 0, cells := 0, slots := 0, locals := 0 }
def S_X7_cancels (σ : St) (p1 : Int32) : St := (up2 (up2 σ 59 p1.toNatClampNeg 4) 63 p1.toNatClampNeg (-1))
set_option maxRecDepth 100000 in
set_option maxHeartbeats 4000000 in
theorem K_X7_cancels_0 {p : Program} {l : Launch} {e : Env} {s : State} {m : MethodId} {args : Array Value} {below : List Frame} {meth : Method} {c : Code} {D : va_G} {E : En} {A : Nat → Prop} {post : St → Prop} (C : CX p s m meth c cX7_cancels RX7 2 D E A) {σ : St} (ok : OK E σ) {p1 : Int32} (a1 : vp_in p1 20) {H : Heap} {locs : List Loc} (h : HW D E σ A s H locs) (hr : meth.sig.returnType = none) {ls : Array Slot} (hl : lv_has ls 2 [(0, .ref (ead E 15)), (1, .int p1)]) (hp : post (S_X7_cancels σ p1)) : W p l e rm_X7_cancels s m args below meth c H locs 0 0 (MQ below (va_Qv post (POB D E A) A) args s 0 0 A) (F0 m 0 ls []) := by
  refine lv_aload_n C.x C.b dX7_cancels_0 rfl (lv_at hl 0 rfl) ?_
  refine g_X7_44 C h dX7_cancels_1 ?_
  refine lv_iload_n C.x C.b dX7_cancels_4 rfl (lv_at hl 1 rfl) ?_
  refine lv_iconst (v := 4) C.x C.b dX7_cancels_5 (by decide) ?_
  refine as_26 C h a1 dX7_cancels_6 (fun H locs h => ?_)
  refine lv_aload_n C.x C.b dX7_cancels_7 rfl (lv_at hl 0 rfl) ?_
  refine g_X7_56 C h dX7_cancels_8 ?_
  refine lv_iload_n C.x C.b dX7_cancels_11 rfl (lv_at hl 1 rfl) ?_
  refine lv_iconst (v := (-1)) C.x C.b dX7_cancels_12 (by decide) ?_
  refine as_30 C h a1 dX7_cancels_13 (fun H locs h => ?_)
  exact rtV C h hr dX7_cancels_14 hp
theorem M_X7_cancels (l : Launch) (D : va_G) (E : En) (σ : St) (ok : OK E σ) (p1 : Int32) (a1 : vp_in p1 20) : CO l yX7_cancels cX7_cancels 2 none rm_X7_cancels [.ref (ead E 15), .int p1] D E σ (fun A => va_Qv (fun u => (S_X7_cancels σ p1) = u) (POB D E A) A) 0 0 :=
  CO.of RX7 (by decide +kernel) rfl (Nat.le_of_ble_eq_true rfl) (fun p e s m below meth c A ls C h hr hl => K_X7_cancels_0 C ok a1 h hr hl rfl)
theorem S_X7_cancels_fr {f i : Nat} (σ : St) (p1 : Int32) (hf : ∀ w ∈ [59, 63], f ≠ w) : (S_X7_cancels σ p1) f i = σ f i := by
  unfold S_X7_cancels
  (repeat' split) <;> first | with_reducible rfl | (simp only [up2_f (hf 59 (by decide)), up2_f (hf 63 (by decide))]; done)
theorem S_X7_cancels_ok {E : En} {σ : St} (ok : OK E σ) (p1 : Int32) : OK E (S_X7_cancels σ p1) :=
  ok.of_fr (fun f i hf => S_X7_cancels_fr σ p1 (fun w hw q => absurd (show w ∈ [1, 3, 33, 43, 55, 66] by rw [← q]; exact hf) ((by decide : ∀ w ∈ [59, 63], w ∉ [1, 3, 33, 43, 55, 66]) w hw)))
-- X7_goesOn goesOn(I)V
abbrev rm_X7_goesOn : Room := { frames := 0, cells := 0, slots := 0, locals := 0 }
def S_X7_goesOn (σ : St) (p1 : Int32) : St := if (σ 59 p1.toNatClampNeg) = 1 then (if (σ 41 0) < (σ 64 p1.toNatClampNeg) then σ else (up2 (up2 σ 59 p1.toNatClampNeg 2) 63 p1.toNatClampNeg (-1))) else σ
set_option maxRecDepth 100000 in
set_option maxHeartbeats 4000000 in
theorem K_X7_goesOn_0 {p : Program} {l : Launch} {e : Env} {s : State} {m : MethodId} {args : Array Value} {below : List Frame} {meth : Method} {c : Code} {D : va_G} {E : En} {A : Nat → Prop} {post : St → Prop} (C : CX p s m meth c cX7_goesOn RX7 2 D E A) {σ : St} (ok : OK E σ) {p1 : Int32} (a1 : vp_in p1 20) {H : Heap} {locs : List Loc} (h : HW D E σ A s H locs) (hr : meth.sig.returnType = none) {ls : Array Slot} (hl : lv_has ls 2 [(0, .ref (ead E 15)), (1, .int p1)]) (hp : post (S_X7_goesOn σ p1)) : W p l e rm_X7_goesOn s m args below meth c H locs 0 0 (MQ below (va_Qv post (POB D E A) A) args s 0 0 A) (F0 m 0 ls []) := by
  refine lv_aload_n C.x C.b dX7_goesOn_0 rfl (lv_at hl 0 rfl) ?_
  refine g_X7_44 C h dX7_goesOn_1 ?_
  refine lv_iload_n C.x C.b dX7_goesOn_4 rfl (lv_at hl 1 rfl) ?_
  refine al_26 C h a1 dX7_goesOn_5 ?_
  refine lv_iconst (v := 1) C.x C.b dX7_goesOn_6 (by decide) ?_
  refine lv_icmp_ne (tgt := 37) C.x C.b dX7_goesOn_7 (by decide) (fun c1 => ?_) (fun c1 => ?_)
  · skip
    exact rtV C h hr dX7_goesOn_37 (Eq.mp (congrArg (fun z => post z) (if_neg c1)) hp)
  · skip
    refine lv_aload_n C.x C.b dX7_goesOn_10 rfl (lv_at hl 0 rfl) ?_
    refine g_X7_100 C h dX7_goesOn_11 ?_
    refine lv_aload_n C.x C.b dX7_goesOn_14 rfl (lv_at hl 0 rfl) ?_
    refine g_X7_59 C h dX7_goesOn_15 ?_
    refine lv_iload_n C.x C.b dX7_goesOn_18 rfl (lv_at hl 1 rfl) ?_
    refine al_31 C h a1 dX7_goesOn_19 ?_
    refine lv_icmp_lt (tgt := 37) C.x C.b dX7_goesOn_20 (by decide) (fun c2 => ?_) (fun c2 => ?_)
    · skip
      exact rtV C h hr dX7_goesOn_37 (Eq.mp (congrArg (fun z => post z) ((if_pos c1).trans (if_pos c2))) hp)
    · skip
      refine lv_aload_n C.x C.b dX7_goesOn_23 rfl (lv_at hl 0 rfl) ?_
      refine g_X7_44 C h dX7_goesOn_24 ?_
      refine lv_iload_n C.x C.b dX7_goesOn_27 rfl (lv_at hl 1 rfl) ?_
      refine lv_iconst (v := 2) C.x C.b dX7_goesOn_28 (by decide) ?_
      refine as_26 C h a1 dX7_goesOn_29 (fun H locs h => ?_)
      refine lv_aload_n C.x C.b dX7_goesOn_30 rfl (lv_at hl 0 rfl) ?_
      refine g_X7_56 C h dX7_goesOn_31 ?_
      refine lv_iload_n C.x C.b dX7_goesOn_34 rfl (lv_at hl 1 rfl) ?_
      refine lv_iconst (v := (-1)) C.x C.b dX7_goesOn_35 (by decide) ?_
      refine as_30 C h a1 dX7_goesOn_36 (fun H locs h => ?_)
      exact rtV C h hr dX7_goesOn_37 (Eq.mp (congrArg (fun z => post z) ((if_pos c1).trans (if_neg c2))) hp)
theorem M_X7_goesOn (l : Launch) (D : va_G) (E : En) (σ : St) (ok : OK E σ) (p1 : Int32) (a1 : vp_in p1 20) : CO l yX7_goesOn cX7_goesOn 2 none rm_X7_goesOn [.ref (ead E 15), .int p1] D E σ (fun A => va_Qv (fun u => (S_X7_goesOn σ p1) = u) (POB D E A) A) 0 0 :=
  CO.of RX7 (by decide +kernel) rfl (Nat.le_of_ble_eq_true rfl) (fun p e s m below meth c A ls C h hr hl => K_X7_goesOn_0 C ok a1 h hr hl rfl)
theorem S_X7_goesOn_fr {f i : Nat} (σ : St) (p1 : Int32) (hf : ∀ w ∈ [59, 63], f ≠ w) : (S_X7_goesOn σ p1) f i = σ f i := by
  unfold S_X7_goesOn
  (repeat' split) <;> first | with_reducible rfl | (simp only [up2_f (hf 59 (by decide)), up2_f (hf 63 (by decide))]; done)
theorem S_X7_goesOn_ok {E : En} {σ : St} (ok : OK E σ) (p1 : Int32) : OK E (S_X7_goesOn σ p1) :=
  ok.of_fr (fun f i hf => S_X7_goesOn_fr σ p1 (fun w hw q => absurd (show w ∈ [1, 3, 33, 43, 55, 66] by rw [← q]; exact hf) ((by decide : ∀ w ∈ [59, 63], w ∉ [1, 3, 33, 43, 55, 66]) w hw)))
-- X7_falls falls(I)V
theorem cw_X7_139 : CWd RX7 139 yX7_isSprayed cX7_isSprayed 2 (some .boolean) 1 := ⟨m_ml_X7_139, m_co_X7_isSprayed, m_ini_X7, by decide +kernel, by decide +kernel⟩
abbrev rm_X7_falls : Room := { frames := 1, cells := 0, slots := 0, locals := 21 }
def S_X7_falls_266 (σ : St) (p1 : Int32) (v2 : Int32) : St := if v2 = 0 then σ else if (σ 46 p1.toNatClampNeg) = 1 then (up2 (up2 σ 46 p1.toNatClampNeg 3) 47 p1.toNatClampNeg 1) else σ
set_option maxRecDepth 100000 in
set_option maxHeartbeats 4000000 in
theorem K_X7_falls_266 {p : Program} {l : Launch} {e : Env} {s : State} {m : MethodId} {args : Array Value} {below : List Frame} {meth : Method} {c : Code} {D : va_G} {E : En} {A : Nat → Prop} {post : St → Prop} (C : CX p s m meth c cX7_falls RX7 3 D E A) {σ : St} (ok : OK E σ) {p1 : Int32} {v2 : Int32} (h1 : vp_in p1 3) {H : Heap} {locs : List Loc} (h : HW D E σ A s H locs) (hr : meth.sig.returnType = none) {ls : Array Slot} (hl : lv_has ls 3 [(0, .ref (ead E 15)), (1, .int p1), (2, .int v2)]) (hp : post (S_X7_falls_266 σ p1 v2)) : W p l e rm_X7_falls s m args below meth c H locs 0 0 (MQ below (va_Qv post (POB D E A) A) args s 0 0 A) (F0 m 266 ls []) := by
  refine lv_iload_n C.x C.b dX7_falls_266 rfl (lv_at hl 2 rfl) ?_
  refine lv_if_eq (tgt := 294) C.x C.b dX7_falls_267 (by decide) (fun c1 => ?_) (fun c1 => ?_)
  · skip
    exact rtV C h hr dX7_falls_294 (Eq.mp (congrArg (fun z => post z) (if_pos c1)) hp)
  · skip
    refine lv_aload_n C.x C.b dX7_falls_270 rfl (lv_at hl 0 rfl) ?_
    refine g_X7_7 C h dX7_falls_271 ?_
    refine lv_iload_n C.x C.b dX7_falls_274 rfl (lv_at hl 1 rfl) ?_
    refine al_16 C h h1 dX7_falls_275 ?_
    refine lv_iconst (v := 1) C.x C.b dX7_falls_276 (by decide) ?_
    refine lv_icmp_ne (tgt := 294) C.x C.b dX7_falls_277 (by decide) (fun c2 => ?_) (fun c2 => ?_)
    · skip
      exact rtV C h hr dX7_falls_294 (Eq.mp (congrArg (fun z => post z) ((if_neg c1).trans (if_neg c2))) hp)
    · skip
      refine lv_aload_n C.x C.b dX7_falls_280 rfl (lv_at hl 0 rfl) ?_
      refine g_X7_7 C h dX7_falls_281 ?_
      refine lv_iload_n C.x C.b dX7_falls_284 rfl (lv_at hl 1 rfl) ?_
      refine lv_iconst (v := 3) C.x C.b dX7_falls_285 (by decide) ?_
      refine as_16 C h h1 dX7_falls_286 (fun H locs h => ?_)
      refine lv_aload_n C.x C.b dX7_falls_287 rfl (lv_at hl 0 rfl) ?_
      refine g_X7_13 C h dX7_falls_288 ?_
      refine lv_iload_n C.x C.b dX7_falls_291 rfl (lv_at hl 1 rfl) ?_
      refine lv_iconst (v := 1) C.x C.b dX7_falls_292 (by decide) ?_
      refine as_17 C h h1 dX7_falls_293 (fun H locs h => ?_)
      exact rtV C h hr dX7_falls_294 (Eq.mp (congrArg (fun z => post z) ((if_neg c1).trans (if_pos c2))) hp)
def S_X7_falls_194 (σ : St) (p1 : Int32) (v2 : Int32) : St := if (σ 42 0) ≤ 20 then S_X7_falls_266 σ p1 v2 else if (σ 46 p1.toNatClampNeg) < 2 then S_X7_falls_266 σ p1 v2 else if 2 ≤ (σ 47 p1.toNatClampNeg) then (if ((σ 47 p1.toNatClampNeg) - 2) = 0 then S_X7_falls_266 (up2 (up2 σ 47 p1.toNatClampNeg ((σ 47 p1.toNatClampNeg) - 2)) 46 p1.toNatClampNeg 1) p1 v2 else S_X7_falls_266 (up2 (up2 σ 47 p1.toNatClampNeg ((σ 47 p1.toNatClampNeg) - 2)) 46 p1.toNatClampNeg (σ 46 p1.toNatClampNeg)) p1 v2) else S_X7_falls_266 (up2 (up2 σ 47 p1.toNatClampNeg 0) 46 p1.toNatClampNeg 1) p1 v2
set_option maxRecDepth 100000 in
set_option maxHeartbeats 4000000 in
theorem K_X7_falls_194 {p : Program} {l : Launch} {e : Env} {s : State} {m : MethodId} {args : Array Value} {below : List Frame} {meth : Method} {c : Code} {D : va_G} {E : En} {A : Nat → Prop} {post : St → Prop} (C : CX p s m meth c cX7_falls RX7 3 D E A) {σ : St} (ok : OK E σ) {p1 : Int32} {v2 : Int32} (h1 : vp_in p1 3) {H : Heap} {locs : List Loc} (h : HW D E σ A s H locs) (hr : meth.sig.returnType = none) {ls : Array Slot} (hl : lv_has ls 3 [(0, .ref (ead E 15)), (1, .int p1), (2, .int v2)]) (hp : post (S_X7_falls_194 σ p1 v2)) : W p l e rm_X7_falls s m args below meth c H locs 0 0 (MQ below (va_Qv post (POB D E A) A) args s 0 0 A) (F0 m 194 ls []) := by
  refine lv_aload_n C.x C.b dX7_falls_194 rfl (lv_at hl 0 rfl) ?_
  refine g_X7_84 C h dX7_falls_195 ?_
  refine lv_bipush (v := 20) C.x C.b dX7_falls_198 (by decide) ?_
  refine lv_icmp_le (tgt := 266) C.x C.b dX7_falls_200 (by decide) (fun c1 => ?_) (fun c1 => ?_)
  · skip
    exact K_X7_falls_266 (v2 := v2) C ok h1 h hr (lv_sub hl [0, 1, 2] rfl) (Eq.mp (congrArg (fun z => post z) (if_pos c1)) hp)
  · skip
    refine lv_aload_n C.x C.b dX7_falls_203 rfl (lv_at hl 0 rfl) ?_
    refine g_X7_7 C h dX7_falls_204 ?_
    refine lv_iload_n C.x C.b dX7_falls_207 rfl (lv_at hl 1 rfl) ?_
    refine al_16 C h h1 dX7_falls_208 ?_
    refine lv_iconst (v := 2) C.x C.b dX7_falls_209 (by decide) ?_
    refine lv_icmp_lt (tgt := 266) C.x C.b dX7_falls_210 (by decide) (fun c2 => ?_) (fun c2 => ?_)
    · skip
      exact K_X7_falls_266 (v2 := v2) C ok h1 h hr (lv_sub hl [0, 1, 2] rfl) (Eq.mp (congrArg (fun z => post z) ((if_neg c1).trans (if_pos c2))) hp)
    · skip
      refine lv_aload_n C.x C.b dX7_falls_213 rfl (lv_at hl 0 rfl) ?_
      refine g_X7_13 C h dX7_falls_214 ?_
      refine lv_iload_n C.x C.b dX7_falls_217 rfl (lv_at hl 1 rfl) ?_
      refine lv_aload_n C.x C.b dX7_falls_218 rfl (lv_at hl 0 rfl) ?_
      refine g_X7_13 C h dX7_falls_219 ?_
      refine lv_iload_n C.x C.b dX7_falls_222 rfl (lv_at hl 1 rfl) ?_
      refine al_17 C h h1 dX7_falls_223 ?_
      refine lv_iconst (v := 2) C.x C.b dX7_falls_224 (by decide) ?_
      refine lv_icmp_ge (tgt := 232) C.x C.b dX7_falls_225 (by decide) (fun c3 => ?_) (fun c3 => ?_)
      · skip
        refine lv_aload_n C.x C.b dX7_falls_232 rfl (lv_at hl 0 rfl) ?_
        refine g_X7_13 C h dX7_falls_233 ?_
        refine lv_iload_n C.x C.b dX7_falls_236 rfl (lv_at hl 1 rfl) ?_
        refine al_17 C h h1 dX7_falls_237 ?_
        refine lv_iconst (v := 2) C.x C.b dX7_falls_238 (by decide) ?_
        refine lv_isub C.x C.b dX7_falls_239 ?_
        refine as_17 C h h1 dX7_falls_240 (fun H locs h => ?_)
        refine lv_aload_n C.x C.b dX7_falls_241 rfl (lv_at hl 0 rfl) ?_
        refine g_X7_7 C h dX7_falls_242 ?_
        refine lv_iload_n C.x C.b dX7_falls_245 rfl (lv_at hl 1 rfl) ?_
        refine lv_aload_n C.x C.b dX7_falls_246 rfl (lv_at hl 0 rfl) ?_
        refine g_X7_13 C h dX7_falls_247 ?_
        refine lv_iload_n C.x C.b dX7_falls_250 rfl (lv_at hl 1 rfl) ?_
        refine al_17 C h h1 dX7_falls_251 ?_
        refine top_eq (up2_s σ 47 p1.toNatClampNeg ((σ 47 p1.toNatClampNeg) - 2)) ?_
        refine lv_if_ne (tgt := 259) C.x C.b dX7_falls_252 (by decide) (fun c4 => ?_) (fun c4 => ?_)
        · skip
          refine lv_aload_n C.x C.b dX7_falls_259 rfl (lv_at hl 0 rfl) ?_
          refine g_X7_7 C h dX7_falls_260 ?_
          refine lv_iload_n C.x C.b dX7_falls_263 rfl (lv_at hl 1 rfl) ?_
          refine al_16 C h h1 dX7_falls_264 ?_
          refine as_16 C h h1 dX7_falls_265 (fun H locs h => ?_)
          exact K_X7_falls_266 (v2 := v2) C ((ok.up (by decide) _ _).up (by decide) _ _) h1 h hr (lv_sub hl [0, 1, 2] rfl) (Eq.mp (congrArg (fun z => post z) ((if_neg c1).trans ((if_neg c2).trans ((if_pos c3).trans (if_neg c4))))) hp)
        · skip
          refine lv_iconst (v := 1) C.x C.b dX7_falls_255 (by decide) ?_
          refine lv_goto (tgt := 265) C.x C.b dX7_falls_256 (by decide) ?_
          refine as_16 C h h1 dX7_falls_265 (fun H locs h => ?_)
          exact K_X7_falls_266 (v2 := v2) C ((ok.up (by decide) _ _).up (by decide) _ _) h1 h hr (lv_sub hl [0, 1, 2] rfl) (Eq.mp (congrArg (fun z => post z) ((if_neg c1).trans ((if_neg c2).trans ((if_pos c3).trans (if_pos c4))))) hp)
      · skip
        refine lv_iconst (v := 0) C.x C.b dX7_falls_228 (by decide) ?_
        refine lv_goto (tgt := 240) C.x C.b dX7_falls_229 (by decide) ?_
        refine as_17 C h h1 dX7_falls_240 (fun H locs h => ?_)
        refine lv_aload_n C.x C.b dX7_falls_241 rfl (lv_at hl 0 rfl) ?_
        refine g_X7_7 C h dX7_falls_242 ?_
        refine lv_iload_n C.x C.b dX7_falls_245 rfl (lv_at hl 1 rfl) ?_
        refine lv_aload_n C.x C.b dX7_falls_246 rfl (lv_at hl 0 rfl) ?_
        refine g_X7_13 C h dX7_falls_247 ?_
        refine lv_iload_n C.x C.b dX7_falls_250 rfl (lv_at hl 1 rfl) ?_
        refine al_17 C h h1 dX7_falls_251 ?_
        refine top_eq (up2_s σ 47 p1.toNatClampNeg 0) ?_
        refine lv_if_ne (tgt := 259) C.x C.b dX7_falls_252 (by decide) (fun q => absurd q (by decide)) (fun _ => ?_)
        refine lv_iconst (v := 1) C.x C.b dX7_falls_255 (by decide) ?_
        refine lv_goto (tgt := 265) C.x C.b dX7_falls_256 (by decide) ?_
        refine as_16 C h h1 dX7_falls_265 (fun H locs h => ?_)
        exact K_X7_falls_266 (v2 := v2) C ((ok.up (by decide) _ _).up (by decide) _ _) h1 h hr (lv_sub hl [0, 1, 2] rfl) (Eq.mp (congrArg (fun z => post z) ((if_neg c1).trans ((if_neg c2).trans (if_neg c3)))) hp)
def S_X7_falls_164 (σ : St) (p1 : Int32) (v2 : Int32) : St := if (σ 47 p1.toNatClampNeg) ≤ 5000 then S_X7_falls_194 (up2 σ 47 p1.toNatClampNeg (σ 47 p1.toNatClampNeg)) p1 v2 else S_X7_falls_194 (up2 σ 47 p1.toNatClampNeg 5000) p1 v2
set_option maxRecDepth 100000 in
set_option maxHeartbeats 4000000 in
theorem K_X7_falls_164 {p : Program} {l : Launch} {e : Env} {s : State} {m : MethodId} {args : Array Value} {below : List Frame} {meth : Method} {c : Code} {D : va_G} {E : En} {A : Nat → Prop} {post : St → Prop} (C : CX p s m meth c cX7_falls RX7 3 D E A) {σ : St} (ok : OK E σ) {p1 : Int32} {v2 : Int32} (h1 : vp_in p1 3) {H : Heap} {locs : List Loc} (h : HW D E σ A s H locs) (hr : meth.sig.returnType = none) {ls : Array Slot} (hl : lv_has ls 3 [(0, .ref (ead E 15)), (1, .int p1), (2, .int v2)]) (hp : post (S_X7_falls_164 σ p1 v2)) : W p l e rm_X7_falls s m args below meth c H locs 0 0 (MQ below (va_Qv post (POB D E A) A) args s 0 0 A) (F0 m 164 ls []) := by
  refine lv_aload_n C.x C.b dX7_falls_164 rfl (lv_at hl 0 rfl) ?_
  refine g_X7_13 C h dX7_falls_165 ?_
  refine lv_iload_n C.x C.b dX7_falls_168 rfl (lv_at hl 1 rfl) ?_
  refine lv_aload_n C.x C.b dX7_falls_169 rfl (lv_at hl 0 rfl) ?_
  refine g_X7_13 C h dX7_falls_170 ?_
  refine lv_iload_n C.x C.b dX7_falls_173 rfl (lv_at hl 1 rfl) ?_
  refine al_17 C h h1 dX7_falls_174 ?_
  refine lv_sipush (v := 5000) C.x C.b dX7_falls_175 (by decide) ?_
  refine lv_icmp_le (tgt := 187) C.x C.b dX7_falls_178 (by decide) (fun c1 => ?_) (fun c1 => ?_)
  · skip
    refine lv_aload_n C.x C.b dX7_falls_187 rfl (lv_at hl 0 rfl) ?_
    refine g_X7_13 C h dX7_falls_188 ?_
    refine lv_iload_n C.x C.b dX7_falls_191 rfl (lv_at hl 1 rfl) ?_
    refine al_17 C h h1 dX7_falls_192 ?_
    refine as_17 C h h1 dX7_falls_193 (fun H locs h => ?_)
    exact K_X7_falls_194 (v2 := v2) C (ok.up (by decide) _ _) h1 h hr (lv_sub hl [0, 1, 2] rfl) (Eq.mp (congrArg (fun z => post z) (if_pos c1)) hp)
  · skip
    refine lv_sipush (v := 5000) C.x C.b dX7_falls_181 (by decide) ?_
    refine lv_goto (tgt := 193) C.x C.b dX7_falls_184 (by decide) ?_
    refine as_17 C h h1 dX7_falls_193 (fun H locs h => ?_)
    exact K_X7_falls_194 (v2 := v2) C (ok.up (by decide) _ _) h1 h hr (lv_sub hl [0, 1, 2] rfl) (Eq.mp (congrArg (fun z => post z) (if_neg c1)) hp)
def S_X7_falls_20 (σ : St) (p1 : Int32) (y0 : Int32) : St := if (σ 43 0) = 1 then (if (σ 46 p1.toNatClampNeg) = 3 then S_X7_falls_164 (up2 (up2 σ 46 p1.toNatClampNeg 3) 47 p1.toNatClampNeg ((σ 47 p1.toNatClampNeg) + (σ 44 0))) p1 y0 else S_X7_falls_164 (up2 (up2 σ 46 p1.toNatClampNeg 2) 47 p1.toNatClampNeg ((σ 47 p1.toNatClampNeg) + (σ 44 0))) p1 y0) else if (σ 43 0) = 2 then (if y0 = 0 then (if (σ 43 0) = 2 then (if (σ 46 p1.toNatClampNeg) = 0 then S_X7_falls_164 (up2 σ 46 p1.toNatClampNeg 1) p1 y0 else if (σ 43 0) = 3 then (if y0 = 0 then S_X7_falls_164 σ p1 y0 else if 2 ≤ (σ 46 p1.toNatClampNeg) then S_X7_falls_164 σ p1 y0 else S_X7_falls_164 (up2 (up2 σ 46 p1.toNatClampNeg 3) 47 p1.toNatClampNeg 1) p1 y0) else S_X7_falls_164 σ p1 y0) else if (σ 43 0) = 3 then (if y0 = 0 then S_X7_falls_164 σ p1 y0 else if 2 ≤ (σ 46 p1.toNatClampNeg) then S_X7_falls_164 σ p1 y0 else S_X7_falls_164 (up2 (up2 σ 46 p1.toNatClampNeg 3) 47 p1.toNatClampNeg 1) p1 y0) else S_X7_falls_164 σ p1 y0) else S_X7_falls_164 (up2 (up2 σ 46 p1.toNatClampNeg 3) 47 p1.toNatClampNeg ((σ 47 p1.toNatClampNeg) + (σ 44 0))) p1 y0) else if (σ 43 0) = 2 then (if (σ 46 p1.toNatClampNeg) = 0 then S_X7_falls_164 (up2 σ 46 p1.toNatClampNeg 1) p1 y0 else if (σ 43 0) = 3 then (if y0 = 0 then S_X7_falls_164 σ p1 y0 else if 2 ≤ (σ 46 p1.toNatClampNeg) then S_X7_falls_164 σ p1 y0 else S_X7_falls_164 (up2 (up2 σ 46 p1.toNatClampNeg 3) 47 p1.toNatClampNeg 1) p1 y0) else S_X7_falls_164 σ p1 y0) else if (σ 43 0) = 3 then (if y0 = 0 then S_X7_falls_164 σ p1 y0 else if 2 ≤ (σ 46 p1.toNatClampNeg) then S_X7_falls_164 σ p1 y0 else S_X7_falls_164 (up2 (up2 σ 46 p1.toNatClampNeg 3) 47 p1.toNatClampNeg 1) p1 y0) else S_X7_falls_164 σ p1 y0
set_option maxRecDepth 100000 in
set_option maxHeartbeats 4000000 in
theorem K_X7_falls_20 {p : Program} {l : Launch} {e : Env} {s : State} {m : MethodId} {args : Array Value} {below : List Frame} {meth : Method} {c : Code} {D : va_G} {E : En} {A : Nat → Prop} {post : St → Prop} (C : CX p s m meth c cX7_falls RX7 3 D E A) {σ : St} (ok : OK E σ) {p1 : Int32} {y0 : Int32} (h1 : vp_in p1 3) {H : Heap} {locs : List Loc} (h : HW D E σ A s H locs) (hr : meth.sig.returnType = none) {ls : Array Slot} (hl : lv_has ls 3 [(0, .ref (ead E 15)), (1, .int p1)]) (hp : post (S_X7_falls_20 σ p1 y0)) : W p l e rm_X7_falls s m args below meth c H locs 0 0 (MQ below (va_Qv post (POB D E A) A) args s 0 0 A) (F0 m 20 ls [.int y0]) := by
  refine lv_istore_n (lv' := [(2, .int y0), (0, .ref (ead E 15)), (1, .int p1)]) C.x C.b dX7_falls_20 rfl hl (by decide) rfl (fun ls hl => ?_)
  refine lv_aload_n C.x C.b dX7_falls_21 rfl (lv_at hl 1 rfl) ?_
  refine g_X7_87 C h dX7_falls_22 ?_
  refine lv_iconst (v := 1) C.x C.b dX7_falls_25 (by decide) ?_
  refine lv_icmp_ne (tgt := 66) C.x C.b dX7_falls_26 (by decide) (fun c1 => ?_) (fun c1 => ?_)
  · skip
    refine lv_aload_n C.x C.b dX7_falls_66 rfl (lv_at hl 1 rfl) ?_
    refine g_X7_87 C h dX7_falls_67 ?_
    refine lv_iconst (v := 2) C.x C.b dX7_falls_70 (by decide) ?_
    refine lv_icmp_ne (tgt := 101) C.x C.b dX7_falls_71 (by decide) (fun c2 => ?_) (fun c2 => ?_)
    · skip
      refine lv_aload_n C.x C.b dX7_falls_101 rfl (lv_at hl 1 rfl) ?_
      refine g_X7_87 C h dX7_falls_102 ?_
      refine lv_iconst (v := 2) C.x C.b dX7_falls_105 (by decide) ?_
      refine lv_icmp_ne (tgt := 128) C.x C.b dX7_falls_106 (by decide) (fun c3 => ?_) (fun c3 => ?_)
      · skip
        refine lv_aload_n C.x C.b dX7_falls_128 rfl (lv_at hl 1 rfl) ?_
        refine g_X7_87 C h dX7_falls_129 ?_
        refine lv_iconst (v := 3) C.x C.b dX7_falls_132 (by decide) ?_
        refine lv_icmp_ne (tgt := 164) C.x C.b dX7_falls_133 (by decide) (fun c4 => ?_) (fun c4 => ?_)
        · skip
          exact K_X7_falls_164 (v2 := y0) C ok h1 h hr (lv_sub hl [1, 2, 0] rfl) (Eq.mp (congrArg (fun z => post z) ((if_neg c1).trans ((if_neg c2).trans ((if_neg c3).trans (if_neg c4))))) hp)
        · skip
          refine lv_iload_n C.x C.b dX7_falls_136 rfl (lv_at hl 0 rfl) ?_
          refine lv_if_eq (tgt := 164) C.x C.b dX7_falls_137 (by decide) (fun c5 => ?_) (fun c5 => ?_)
          · skip
            exact K_X7_falls_164 (v2 := y0) C ok h1 h hr (lv_sub hl [1, 2, 0] rfl) (Eq.mp (congrArg (fun z => post z) ((if_neg c1).trans ((if_neg c2).trans ((if_neg c3).trans ((if_pos c4).trans (if_pos c5)))))) hp)
          · skip
            refine lv_aload_n C.x C.b dX7_falls_140 rfl (lv_at hl 1 rfl) ?_
            refine g_X7_7 C h dX7_falls_141 ?_
            refine lv_iload_n C.x C.b dX7_falls_144 rfl (lv_at hl 2 rfl) ?_
            refine al_16 C h h1 dX7_falls_145 ?_
            refine lv_iconst (v := 2) C.x C.b dX7_falls_146 (by decide) ?_
            refine lv_icmp_ge (tgt := 164) C.x C.b dX7_falls_147 (by decide) (fun c6 => ?_) (fun c6 => ?_)
            · skip
              exact K_X7_falls_164 (v2 := y0) C ok h1 h hr (lv_sub hl [1, 2, 0] rfl) (Eq.mp (congrArg (fun z => post z) ((if_neg c1).trans ((if_neg c2).trans ((if_neg c3).trans ((if_pos c4).trans ((if_neg c5).trans (if_pos c6))))))) hp)
            · skip
              refine lv_aload_n C.x C.b dX7_falls_150 rfl (lv_at hl 1 rfl) ?_
              refine g_X7_7 C h dX7_falls_151 ?_
              refine lv_iload_n C.x C.b dX7_falls_154 rfl (lv_at hl 2 rfl) ?_
              refine lv_iconst (v := 3) C.x C.b dX7_falls_155 (by decide) ?_
              refine as_16 C h h1 dX7_falls_156 (fun H locs h => ?_)
              refine lv_aload_n C.x C.b dX7_falls_157 rfl (lv_at hl 1 rfl) ?_
              refine g_X7_13 C h dX7_falls_158 ?_
              refine lv_iload_n C.x C.b dX7_falls_161 rfl (lv_at hl 2 rfl) ?_
              refine lv_iconst (v := 1) C.x C.b dX7_falls_162 (by decide) ?_
              refine as_17 C h h1 dX7_falls_163 (fun H locs h => ?_)
              exact K_X7_falls_164 (v2 := y0) C ((ok.up (by decide) _ _).up (by decide) _ _) h1 h hr (lv_sub hl [1, 2, 0] rfl) (Eq.mp (congrArg (fun z => post z) ((if_neg c1).trans ((if_neg c2).trans ((if_neg c3).trans ((if_pos c4).trans ((if_neg c5).trans (if_neg c6))))))) hp)
      · skip
        refine lv_aload_n C.x C.b dX7_falls_109 rfl (lv_at hl 1 rfl) ?_
        refine g_X7_7 C h dX7_falls_110 ?_
        refine lv_iload_n C.x C.b dX7_falls_113 rfl (lv_at hl 2 rfl) ?_
        refine al_16 C h h1 dX7_falls_114 ?_
        refine lv_if_ne (tgt := 128) C.x C.b dX7_falls_115 (by decide) (fun c7 => ?_) (fun c7 => ?_)
        · skip
          refine lv_aload_n C.x C.b dX7_falls_128 rfl (lv_at hl 1 rfl) ?_
          refine g_X7_87 C h dX7_falls_129 ?_
          refine lv_iconst (v := 3) C.x C.b dX7_falls_132 (by decide) ?_
          refine lv_icmp_ne (tgt := 164) C.x C.b dX7_falls_133 (by decide) (fun c8 => ?_) (fun c8 => ?_)
          · skip
            exact K_X7_falls_164 (v2 := y0) C ok h1 h hr (lv_sub hl [1, 2, 0] rfl) (Eq.mp (congrArg (fun z => post z) ((if_neg c1).trans ((if_neg c2).trans ((if_pos c3).trans ((if_neg c7).trans (if_neg c8)))))) hp)
          · skip
            refine lv_iload_n C.x C.b dX7_falls_136 rfl (lv_at hl 0 rfl) ?_
            refine lv_if_eq (tgt := 164) C.x C.b dX7_falls_137 (by decide) (fun c9 => ?_) (fun c9 => ?_)
            · skip
              exact K_X7_falls_164 (v2 := y0) C ok h1 h hr (lv_sub hl [1, 2, 0] rfl) (Eq.mp (congrArg (fun z => post z) ((if_neg c1).trans ((if_neg c2).trans ((if_pos c3).trans ((if_neg c7).trans ((if_pos c8).trans (if_pos c9))))))) hp)
            · skip
              refine lv_aload_n C.x C.b dX7_falls_140 rfl (lv_at hl 1 rfl) ?_
              refine g_X7_7 C h dX7_falls_141 ?_
              refine lv_iload_n C.x C.b dX7_falls_144 rfl (lv_at hl 2 rfl) ?_
              refine al_16 C h h1 dX7_falls_145 ?_
              refine lv_iconst (v := 2) C.x C.b dX7_falls_146 (by decide) ?_
              refine lv_icmp_ge (tgt := 164) C.x C.b dX7_falls_147 (by decide) (fun c10 => ?_) (fun c10 => ?_)
              · skip
                exact K_X7_falls_164 (v2 := y0) C ok h1 h hr (lv_sub hl [1, 2, 0] rfl) (Eq.mp (congrArg (fun z => post z) ((if_neg c1).trans ((if_neg c2).trans ((if_pos c3).trans ((if_neg c7).trans ((if_pos c8).trans ((if_neg c9).trans (if_pos c10)))))))) hp)
              · skip
                refine lv_aload_n C.x C.b dX7_falls_150 rfl (lv_at hl 1 rfl) ?_
                refine g_X7_7 C h dX7_falls_151 ?_
                refine lv_iload_n C.x C.b dX7_falls_154 rfl (lv_at hl 2 rfl) ?_
                refine lv_iconst (v := 3) C.x C.b dX7_falls_155 (by decide) ?_
                refine as_16 C h h1 dX7_falls_156 (fun H locs h => ?_)
                refine lv_aload_n C.x C.b dX7_falls_157 rfl (lv_at hl 1 rfl) ?_
                refine g_X7_13 C h dX7_falls_158 ?_
                refine lv_iload_n C.x C.b dX7_falls_161 rfl (lv_at hl 2 rfl) ?_
                refine lv_iconst (v := 1) C.x C.b dX7_falls_162 (by decide) ?_
                refine as_17 C h h1 dX7_falls_163 (fun H locs h => ?_)
                exact K_X7_falls_164 (v2 := y0) C ((ok.up (by decide) _ _).up (by decide) _ _) h1 h hr (lv_sub hl [1, 2, 0] rfl) (Eq.mp (congrArg (fun z => post z) ((if_neg c1).trans ((if_neg c2).trans ((if_pos c3).trans ((if_neg c7).trans ((if_pos c8).trans ((if_neg c9).trans (if_neg c10)))))))) hp)
        · skip
          refine lv_aload_n C.x C.b dX7_falls_118 rfl (lv_at hl 1 rfl) ?_
          refine g_X7_7 C h dX7_falls_119 ?_
          refine lv_iload_n C.x C.b dX7_falls_122 rfl (lv_at hl 2 rfl) ?_
          refine lv_iconst (v := 1) C.x C.b dX7_falls_123 (by decide) ?_
          refine as_16 C h h1 dX7_falls_124 (fun H locs h => ?_)
          refine lv_goto (tgt := 164) C.x C.b dX7_falls_125 (by decide) ?_
          exact K_X7_falls_164 (v2 := y0) C (ok.up (by decide) _ _) h1 h hr (lv_sub hl [1, 2, 0] rfl) (Eq.mp (congrArg (fun z => post z) ((if_neg c1).trans ((if_neg c2).trans ((if_pos c3).trans (if_pos c7))))) hp)
    · skip
      refine lv_iload_n C.x C.b dX7_falls_74 rfl (lv_at hl 0 rfl) ?_
      refine lv_if_eq (tgt := 101) C.x C.b dX7_falls_75 (by decide) (fun c11 => ?_) (fun c11 => ?_)
      · skip
        refine lv_aload_n C.x C.b dX7_falls_101 rfl (lv_at hl 1 rfl) ?_
        refine g_X7_87 C h dX7_falls_102 ?_
        refine lv_iconst (v := 2) C.x C.b dX7_falls_105 (by decide) ?_
        refine lv_icmp_ne (tgt := 128) C.x C.b dX7_falls_106 (by decide) (fun c12 => ?_) (fun c12 => ?_)
        · skip
          refine lv_aload_n C.x C.b dX7_falls_128 rfl (lv_at hl 1 rfl) ?_
          refine g_X7_87 C h dX7_falls_129 ?_
          refine lv_iconst (v := 3) C.x C.b dX7_falls_132 (by decide) ?_
          refine lv_icmp_ne (tgt := 164) C.x C.b dX7_falls_133 (by decide) (fun c13 => ?_) (fun c13 => ?_)
          · skip
            exact K_X7_falls_164 (v2 := y0) C ok h1 h hr (lv_sub hl [1, 2, 0] rfl) (Eq.mp (congrArg (fun z => post z) ((if_neg c1).trans ((if_pos c2).trans ((if_pos c11).trans ((if_neg c12).trans (if_neg c13)))))) hp)
          · skip
            refine lv_iload_n C.x C.b dX7_falls_136 rfl (lv_at hl 0 rfl) ?_
            refine lv_if_eq (tgt := 164) C.x C.b dX7_falls_137 (by decide) (fun c14 => ?_) (fun c14 => ?_)
            · skip
              exact K_X7_falls_164 (v2 := y0) C ok h1 h hr (lv_sub hl [1, 2, 0] rfl) (Eq.mp (congrArg (fun z => post z) ((if_neg c1).trans ((if_pos c2).trans ((if_pos c11).trans ((if_neg c12).trans ((if_pos c13).trans (if_pos c14))))))) hp)
            · skip
              refine lv_aload_n C.x C.b dX7_falls_140 rfl (lv_at hl 1 rfl) ?_
              refine g_X7_7 C h dX7_falls_141 ?_
              refine lv_iload_n C.x C.b dX7_falls_144 rfl (lv_at hl 2 rfl) ?_
              refine al_16 C h h1 dX7_falls_145 ?_
              refine lv_iconst (v := 2) C.x C.b dX7_falls_146 (by decide) ?_
              refine lv_icmp_ge (tgt := 164) C.x C.b dX7_falls_147 (by decide) (fun c15 => ?_) (fun c15 => ?_)
              · skip
                exact K_X7_falls_164 (v2 := y0) C ok h1 h hr (lv_sub hl [1, 2, 0] rfl) (Eq.mp (congrArg (fun z => post z) ((if_neg c1).trans ((if_pos c2).trans ((if_pos c11).trans ((if_neg c12).trans ((if_pos c13).trans ((if_neg c14).trans (if_pos c15)))))))) hp)
              · skip
                refine lv_aload_n C.x C.b dX7_falls_150 rfl (lv_at hl 1 rfl) ?_
                refine g_X7_7 C h dX7_falls_151 ?_
                refine lv_iload_n C.x C.b dX7_falls_154 rfl (lv_at hl 2 rfl) ?_
                refine lv_iconst (v := 3) C.x C.b dX7_falls_155 (by decide) ?_
                refine as_16 C h h1 dX7_falls_156 (fun H locs h => ?_)
                refine lv_aload_n C.x C.b dX7_falls_157 rfl (lv_at hl 1 rfl) ?_
                refine g_X7_13 C h dX7_falls_158 ?_
                refine lv_iload_n C.x C.b dX7_falls_161 rfl (lv_at hl 2 rfl) ?_
                refine lv_iconst (v := 1) C.x C.b dX7_falls_162 (by decide) ?_
                refine as_17 C h h1 dX7_falls_163 (fun H locs h => ?_)
                exact K_X7_falls_164 (v2 := y0) C ((ok.up (by decide) _ _).up (by decide) _ _) h1 h hr (lv_sub hl [1, 2, 0] rfl) (Eq.mp (congrArg (fun z => post z) ((if_neg c1).trans ((if_pos c2).trans ((if_pos c11).trans ((if_neg c12).trans ((if_pos c13).trans ((if_neg c14).trans (if_neg c15)))))))) hp)
        · skip
          refine lv_aload_n C.x C.b dX7_falls_109 rfl (lv_at hl 1 rfl) ?_
          refine g_X7_7 C h dX7_falls_110 ?_
          refine lv_iload_n C.x C.b dX7_falls_113 rfl (lv_at hl 2 rfl) ?_
          refine al_16 C h h1 dX7_falls_114 ?_
          refine lv_if_ne (tgt := 128) C.x C.b dX7_falls_115 (by decide) (fun c16 => ?_) (fun c16 => ?_)
          · skip
            refine lv_aload_n C.x C.b dX7_falls_128 rfl (lv_at hl 1 rfl) ?_
            refine g_X7_87 C h dX7_falls_129 ?_
            refine lv_iconst (v := 3) C.x C.b dX7_falls_132 (by decide) ?_
            refine lv_icmp_ne (tgt := 164) C.x C.b dX7_falls_133 (by decide) (fun c17 => ?_) (fun c17 => ?_)
            · skip
              exact K_X7_falls_164 (v2 := y0) C ok h1 h hr (lv_sub hl [1, 2, 0] rfl) (Eq.mp (congrArg (fun z => post z) ((if_neg c1).trans ((if_pos c2).trans ((if_pos c11).trans ((if_pos c12).trans ((if_neg c16).trans (if_neg c17))))))) hp)
            · skip
              refine lv_iload_n C.x C.b dX7_falls_136 rfl (lv_at hl 0 rfl) ?_
              refine lv_if_eq (tgt := 164) C.x C.b dX7_falls_137 (by decide) (fun c18 => ?_) (fun c18 => ?_)
              · skip
                exact K_X7_falls_164 (v2 := y0) C ok h1 h hr (lv_sub hl [1, 2, 0] rfl) (Eq.mp (congrArg (fun z => post z) ((if_neg c1).trans ((if_pos c2).trans ((if_pos c11).trans ((if_pos c12).trans ((if_neg c16).trans ((if_pos c17).trans (if_pos c18)))))))) hp)
              · skip
                refine lv_aload_n C.x C.b dX7_falls_140 rfl (lv_at hl 1 rfl) ?_
                refine g_X7_7 C h dX7_falls_141 ?_
                refine lv_iload_n C.x C.b dX7_falls_144 rfl (lv_at hl 2 rfl) ?_
                refine al_16 C h h1 dX7_falls_145 ?_
                refine lv_iconst (v := 2) C.x C.b dX7_falls_146 (by decide) ?_
                refine lv_icmp_ge (tgt := 164) C.x C.b dX7_falls_147 (by decide) (fun c19 => ?_) (fun c19 => ?_)
                · skip
                  exact K_X7_falls_164 (v2 := y0) C ok h1 h hr (lv_sub hl [1, 2, 0] rfl) (Eq.mp (congrArg (fun z => post z) ((if_neg c1).trans ((if_pos c2).trans ((if_pos c11).trans ((if_pos c12).trans ((if_neg c16).trans ((if_pos c17).trans ((if_neg c18).trans (if_pos c19))))))))) hp)
                · skip
                  refine lv_aload_n C.x C.b dX7_falls_150 rfl (lv_at hl 1 rfl) ?_
                  refine g_X7_7 C h dX7_falls_151 ?_
                  refine lv_iload_n C.x C.b dX7_falls_154 rfl (lv_at hl 2 rfl) ?_
                  refine lv_iconst (v := 3) C.x C.b dX7_falls_155 (by decide) ?_
                  refine as_16 C h h1 dX7_falls_156 (fun H locs h => ?_)
                  refine lv_aload_n C.x C.b dX7_falls_157 rfl (lv_at hl 1 rfl) ?_
                  refine g_X7_13 C h dX7_falls_158 ?_
                  refine lv_iload_n C.x C.b dX7_falls_161 rfl (lv_at hl 2 rfl) ?_
                  refine lv_iconst (v := 1) C.x C.b dX7_falls_162 (by decide) ?_
                  refine as_17 C h h1 dX7_falls_163 (fun H locs h => ?_)
                  exact K_X7_falls_164 (v2 := y0) C ((ok.up (by decide) _ _).up (by decide) _ _) h1 h hr (lv_sub hl [1, 2, 0] rfl) (Eq.mp (congrArg (fun z => post z) ((if_neg c1).trans ((if_pos c2).trans ((if_pos c11).trans ((if_pos c12).trans ((if_neg c16).trans ((if_pos c17).trans ((if_neg c18).trans (if_neg c19))))))))) hp)
          · skip
            refine lv_aload_n C.x C.b dX7_falls_118 rfl (lv_at hl 1 rfl) ?_
            refine g_X7_7 C h dX7_falls_119 ?_
            refine lv_iload_n C.x C.b dX7_falls_122 rfl (lv_at hl 2 rfl) ?_
            refine lv_iconst (v := 1) C.x C.b dX7_falls_123 (by decide) ?_
            refine as_16 C h h1 dX7_falls_124 (fun H locs h => ?_)
            refine lv_goto (tgt := 164) C.x C.b dX7_falls_125 (by decide) ?_
            exact K_X7_falls_164 (v2 := y0) C (ok.up (by decide) _ _) h1 h hr (lv_sub hl [1, 2, 0] rfl) (Eq.mp (congrArg (fun z => post z) ((if_neg c1).trans ((if_pos c2).trans ((if_pos c11).trans ((if_pos c12).trans (if_pos c16)))))) hp)
      · skip
        refine lv_aload_n C.x C.b dX7_falls_78 rfl (lv_at hl 1 rfl) ?_
        refine g_X7_7 C h dX7_falls_79 ?_
        refine lv_iload_n C.x C.b dX7_falls_82 rfl (lv_at hl 2 rfl) ?_
        refine lv_iconst (v := 3) C.x C.b dX7_falls_83 (by decide) ?_
        refine as_16 C h h1 dX7_falls_84 (fun H locs h => ?_)
        refine lv_aload_n C.x C.b dX7_falls_85 rfl (lv_at hl 1 rfl) ?_
        refine g_X7_13 C h dX7_falls_86 ?_
        refine lv_iload_n C.x C.b dX7_falls_89 rfl (lv_at hl 2 rfl) ?_
        refine lv_dup2_11 C.x C.b dX7_falls_90 rfl rfl ?_
        refine al_17 C h h1 dX7_falls_91 ?_
        refine lv_aload_n C.x C.b dX7_falls_92 rfl (lv_at hl 1 rfl) ?_
        refine g_X7_90 C h dX7_falls_93 ?_
        refine lv_iadd C.x C.b dX7_falls_96 ?_
        refine as_17 C h h1 dX7_falls_97 (fun H locs h => ?_)
        refine lv_goto (tgt := 164) C.x C.b dX7_falls_98 (by decide) ?_
        exact K_X7_falls_164 (v2 := y0) C ((ok.up (by decide) _ _).up (by decide) _ _) h1 h hr (lv_sub hl [1, 2, 0] rfl) (Eq.mp (congrArg (fun z => post z) ((if_neg c1).trans ((if_pos c2).trans (if_neg c11)))) hp)
  · skip
    refine lv_aload_n C.x C.b dX7_falls_29 rfl (lv_at hl 1 rfl) ?_
    refine g_X7_7 C h dX7_falls_30 ?_
    refine lv_iload_n C.x C.b dX7_falls_33 rfl (lv_at hl 2 rfl) ?_
    refine lv_aload_n C.x C.b dX7_falls_34 rfl (lv_at hl 1 rfl) ?_
    refine g_X7_7 C h dX7_falls_35 ?_
    refine lv_iload_n C.x C.b dX7_falls_38 rfl (lv_at hl 2 rfl) ?_
    refine al_16 C h h1 dX7_falls_39 ?_
    refine lv_iconst (v := 3) C.x C.b dX7_falls_40 (by decide) ?_
    refine lv_icmp_ne (tgt := 48) C.x C.b dX7_falls_41 (by decide) (fun c20 => ?_) (fun c20 => ?_)
    · skip
      refine lv_iconst (v := 2) C.x C.b dX7_falls_48 (by decide) ?_
      refine as_16 C h h1 dX7_falls_49 (fun H locs h => ?_)
      refine lv_aload_n C.x C.b dX7_falls_50 rfl (lv_at hl 1 rfl) ?_
      refine g_X7_13 C h dX7_falls_51 ?_
      refine lv_iload_n C.x C.b dX7_falls_54 rfl (lv_at hl 2 rfl) ?_
      refine lv_dup2_11 C.x C.b dX7_falls_55 rfl rfl ?_
      refine al_17 C h h1 dX7_falls_56 ?_
      refine lv_aload_n C.x C.b dX7_falls_57 rfl (lv_at hl 1 rfl) ?_
      refine g_X7_90 C h dX7_falls_58 ?_
      refine lv_iadd C.x C.b dX7_falls_61 ?_
      refine as_17 C h h1 dX7_falls_62 (fun H locs h => ?_)
      refine lv_goto (tgt := 164) C.x C.b dX7_falls_63 (by decide) ?_
      exact K_X7_falls_164 (v2 := y0) C ((ok.up (by decide) _ _).up (by decide) _ _) h1 h hr (lv_sub hl [1, 2, 0] rfl) (Eq.mp (congrArg (fun z => post z) ((if_pos c1).trans (if_neg c20))) hp)
    · skip
      refine lv_iconst (v := 3) C.x C.b dX7_falls_44 (by decide) ?_
      refine lv_goto (tgt := 49) C.x C.b dX7_falls_45 (by decide) ?_
      refine as_16 C h h1 dX7_falls_49 (fun H locs h => ?_)
      refine lv_aload_n C.x C.b dX7_falls_50 rfl (lv_at hl 1 rfl) ?_
      refine g_X7_13 C h dX7_falls_51 ?_
      refine lv_iload_n C.x C.b dX7_falls_54 rfl (lv_at hl 2 rfl) ?_
      refine lv_dup2_11 C.x C.b dX7_falls_55 rfl rfl ?_
      refine al_17 C h h1 dX7_falls_56 ?_
      refine lv_aload_n C.x C.b dX7_falls_57 rfl (lv_at hl 1 rfl) ?_
      refine g_X7_90 C h dX7_falls_58 ?_
      refine lv_iadd C.x C.b dX7_falls_61 ?_
      refine as_17 C h h1 dX7_falls_62 (fun H locs h => ?_)
      refine lv_goto (tgt := 164) C.x C.b dX7_falls_63 (by decide) ?_
      exact K_X7_falls_164 (v2 := y0) C ((ok.up (by decide) _ _).up (by decide) _ _) h1 h hr (lv_sub hl [1, 2, 0] rfl) (Eq.mp (congrArg (fun z => post z) ((if_pos c1).trans (if_pos c20))) hp)
def S_X7_falls (σ : St) (p1 : Int32) : St := if 0 ≤ (σ 42 0) then S_X7_falls_20 σ p1 0 else if (S_X7_isSprayed σ p1) = 0 then S_X7_falls_20 σ p1 1 else S_X7_falls_20 σ p1 0
set_option maxRecDepth 100000 in
set_option maxHeartbeats 4000000 in
theorem K_X7_falls_0 {p : Program} {l : Launch} {e : Env} {s : State} {m : MethodId} {args : Array Value} {below : List Frame} {meth : Method} {c : Code} {D : va_G} {E : En} {A : Nat → Prop} {post : St → Prop} (C : CX p s m meth c cX7_falls RX7 3 D E A) {σ : St} (ok : OK E σ) {p1 : Int32} (h1 : vp_in p1 3) {H : Heap} {locs : List Loc} (h : HW D E σ A s H locs) (hr : meth.sig.returnType = none) {ls : Array Slot} (hl : lv_has ls 3 [(0, .ref (ead E 15)), (1, .int p1)]) (hp : post (S_X7_falls σ p1)) : W p l e rm_X7_falls s m args below meth c H locs 0 0 (MQ below (va_Qv post (POB D E A) A) args s 0 0 A) (F0 m 0 ls []) := by
  refine lv_aload_n C.x C.b dX7_falls_0 rfl (lv_at hl 0 rfl) ?_
  refine g_X7_84 C h dX7_falls_1 ?_
  refine lv_if_ge (tgt := 19) C.x C.b dX7_falls_4 (by decide) (fun c1 => ?_) (fun c1 => ?_)
  · skip
    refine lv_iconst (v := 0) C.x C.b dX7_falls_19 (by decide) ?_
    exact K_X7_falls_20 (y0 := 0) C ok h1 h hr (lv_sub hl [0, 1] rfl) (Eq.mp (congrArg (fun z => post z) (if_pos c1)) hp)
  · skip
    refine lv_aload_n C.x C.b dX7_falls_7 rfl (lv_at hl 0 rfl) ?_
    refine lv_iload_n C.x C.b dX7_falls_8 rfl (lv_at hl 1 rfl) ?_
    refine caVi (As := [.int p1]) (rest := []) (q0 := 15) (ci := 7) C h (M_X7_isSprayed l D E _ ok p1 h1) cw_X7_139 m_im_X7_isSprayed m_se_X7_isSprayed rfl rfl ⟨Nat.le_of_ble_eq_true rfl, Nat.le_of_ble_eq_true rfl⟩ rfl rfl hl rfl (Nat.le_of_ble_eq_true rfl) dX7_falls_9 ⟨Nat.le_of_ble_eq_true rfl, Nat.le_of_ble_eq_true rfl⟩ (fun r u H locs w2 h => ?_)
    obtain ⟨rfl, rfl⟩ := w2
    refine lv_if_ne (tgt := 19) C.x C.b dX7_falls_12 (by decide) (fun c3 => ?_) (fun c3 => ?_)
    · skip
      refine lv_iconst (v := 0) C.x C.b dX7_falls_19 (by decide) ?_
      exact K_X7_falls_20 (y0 := 0) C ok h1 h hr (lv_sub hl [0, 1] rfl) (Eq.mp (congrArg (fun z => post z) ((if_neg c1).trans (if_neg c3))) hp)
    · skip
      refine lv_iconst (v := 1) C.x C.b dX7_falls_15 (by decide) ?_
      refine lv_goto (tgt := 20) C.x C.b dX7_falls_16 (by decide) ?_
      exact K_X7_falls_20 (y0 := 1) C ok h1 h hr (lv_sub hl [0, 1] rfl) (Eq.mp (congrArg (fun z => post z) ((if_neg c1).trans (if_pos c3))) hp)
theorem M_X7_falls (l : Launch) (D : va_G) (E : En) (σ : St) (ok : OK E σ) (p1 : Int32) (h1 : vp_in p1 3) : CO l yX7_falls cX7_falls 3 none rm_X7_falls [.ref (ead E 15), .int p1] D E σ (fun A => va_Qv (fun u => (S_X7_falls σ p1) = u) (POB D E A) A) 0 0 :=
  CO.of RX7 (by decide +kernel) rfl (Nat.le_of_ble_eq_true rfl) (fun p e s m below meth c A ls C h hr hl => K_X7_falls_0 C ok h1 h hr hl rfl)
theorem S_X7_falls_266_fr {f i : Nat} (σ : St) (p1 : Int32) (v2 : Int32) (hf : ∀ w ∈ [46, 47], f ≠ w) : (S_X7_falls_266 σ p1 v2) f i = σ f i := by
  unfold S_X7_falls_266
  (repeat' split) <;> first | with_reducible rfl | (simp only [up2_f (hf 46 (by decide)), up2_f (hf 47 (by decide))]; done)
theorem S_X7_falls_194_fr {f i : Nat} (σ : St) (p1 : Int32) (v2 : Int32) (hf : ∀ w ∈ [46, 47], f ≠ w) : (S_X7_falls_194 σ p1 v2) f i = σ f i := by
  unfold S_X7_falls_194
  (repeat' split) <;> first | with_reducible rfl | (simp only [up2_f (hf 46 (by decide)), up2_f (hf 47 (by decide)), S_X7_falls_266_fr _ _ _ hf]; done)
theorem S_X7_falls_164_fr {f i : Nat} (σ : St) (p1 : Int32) (v2 : Int32) (hf : ∀ w ∈ [46, 47], f ≠ w) : (S_X7_falls_164 σ p1 v2) f i = σ f i := by
  unfold S_X7_falls_164
  (repeat' split) <;> first | with_reducible rfl | (simp only [up2_f (hf 46 (by decide)), up2_f (hf 47 (by decide)), S_X7_falls_266_fr _ _ _ hf, S_X7_falls_194_fr _ _ _ hf]; done)
theorem S_X7_falls_20_fr {f i : Nat} (σ : St) (p1 : Int32) (y0 : Int32) (hf : ∀ w ∈ [46, 47], f ≠ w) : (S_X7_falls_20 σ p1 y0) f i = σ f i := by
  unfold S_X7_falls_20
  (repeat' split) <;> first | with_reducible rfl | (simp only [up2_f (hf 46 (by decide)), up2_f (hf 47 (by decide)), S_X7_falls_266_fr _ _ _ hf, S_X7_falls_194_fr _ _ _ hf, S_X7_falls_164_fr _ _ _ hf]; done)
theorem S_X7_falls_fr {f i : Nat} (σ : St) (p1 : Int32) (hf : ∀ w ∈ [46, 47], f ≠ w) : (S_X7_falls σ p1) f i = σ f i := by
  unfold S_X7_falls
  (repeat' split) <;> first | with_reducible rfl | (simp only [up2_f (hf 46 (by decide)), up2_f (hf 47 (by decide)), S_X7_falls_266_fr _ _ _ hf, S_X7_falls_194_fr _ _ _ hf, S_X7_falls_164_fr _ _ _ hf, S_X7_falls_20_fr _ _ _ hf]; done)
theorem S_X7_falls_ok {E : En} {σ : St} (ok : OK E σ) (p1 : Int32) : OK E (S_X7_falls σ p1) :=
  ok.of_fr (fun f i hf => S_X7_falls_fr σ p1 (fun w hw q => absurd (show w ∈ [1, 3, 33, 43, 55, 66] by rw [← q]; exact hf) ((by decide : ∀ w ∈ [46, 47], w ∉ [1, 3, 33, 43, 55, 66]) w hw)))
-- X7_ploughs ploughs()V
abbrev rm_X7_ploughs : Room := { frames := 0, cells := 0, slots := 0, locals := 0 }
def S_X7_ploughs_10 : Nat → St → Int32 → Nat → St
  | 0, σ, _, _ => σ
  | n + 1, σ, v1, j2 => if 3 ≤ (nI j2) then σ else if (σ 46 j2) = 2 then (if v1 ≤ (σ 47 j2) then (if ((σ 47 j2) - v1) = 0 then S_X7_ploughs_10 n (up2 (up2 (up2 σ 47 j2 ((σ 47 j2) - v1)) 74 0 ((σ 74 0) + v1)) 46 j2 1) (v1 - v1) (j2 + 1) else S_X7_ploughs_10 n (up2 (up2 (up2 σ 47 j2 ((σ 47 j2) - v1)) 74 0 ((σ 74 0) + v1)) 46 j2 2) (v1 - v1) (j2 + 1)) else if ((σ 47 j2) - (σ 47 j2)) = 0 then S_X7_ploughs_10 n (up2 (up2 (up2 σ 47 j2 ((σ 47 j2) - (σ 47 j2))) 74 0 ((σ 74 0) + (σ 47 j2))) 46 j2 1) (v1 - (σ 47 j2)) (j2 + 1) else S_X7_ploughs_10 n (up2 (up2 (up2 σ 47 j2 ((σ 47 j2) - (σ 47 j2))) 74 0 ((σ 74 0) + (σ 47 j2))) 46 j2 2) (v1 - (σ 47 j2)) (j2 + 1)) else S_X7_ploughs_10 n σ v1 (j2 + 1)
theorem S_X7_ploughs_10_s (n : Nat) (σ : St) (v1 : Int32) (j2 : Nat) : S_X7_ploughs_10 (n + 1) σ v1 j2 = if 3 ≤ (nI j2) then σ else if (σ 46 j2) = 2 then (if v1 ≤ (σ 47 j2) then (if ((σ 47 j2) - v1) = 0 then S_X7_ploughs_10 n (up2 (up2 (up2 σ 47 j2 ((σ 47 j2) - v1)) 74 0 ((σ 74 0) + v1)) 46 j2 1) (v1 - v1) (j2 + 1) else S_X7_ploughs_10 n (up2 (up2 (up2 σ 47 j2 ((σ 47 j2) - v1)) 74 0 ((σ 74 0) + v1)) 46 j2 2) (v1 - v1) (j2 + 1)) else if ((σ 47 j2) - (σ 47 j2)) = 0 then S_X7_ploughs_10 n (up2 (up2 (up2 σ 47 j2 ((σ 47 j2) - (σ 47 j2))) 74 0 ((σ 74 0) + (σ 47 j2))) 46 j2 1) (v1 - (σ 47 j2)) (j2 + 1) else S_X7_ploughs_10 n (up2 (up2 (up2 σ 47 j2 ((σ 47 j2) - (σ 47 j2))) 74 0 ((σ 74 0) + (σ 47 j2))) 46 j2 2) (v1 - (σ 47 j2)) (j2 + 1)) else S_X7_ploughs_10 n σ v1 (j2 + 1) := rfl
set_option maxRecDepth 100000 in
set_option maxHeartbeats 4000000 in
theorem K_X7_ploughs_10 {p : Program} {l : Launch} {e : Env} {s : State} {m : MethodId} {args : Array Value} {below : List Frame} {meth : Method} {c : Code} {D : va_G} {E : En} {A : Nat → Prop} {post : St → Prop} (C : CX p s m meth c cX7_ploughs RX7 4 D E A) (hr : meth.sig.returnType = none) : ∀ (n : Nat) {σ : St} (ok : OK E σ) {v1 : Int32} {j2 : Nat} (hj : j2 + n = 4) (hb : j2 ≤ 3) {H : Heap} {locs : List Loc} (h : HW D E σ A s H locs) {ls : Array Slot} (hl : lv_has ls 4 [(0, .ref (ead E 15)), (1, .int v1), (2, .int (nI j2))]) (hp : post (S_X7_ploughs_10 n σ v1 j2)), W p l e rm_X7_ploughs s m args below meth c H locs 0 0 (MQ below (va_Qv post (POB D E A) A) args s 0 0 A) (F0 m 10 ls []) := by
  intro n
  induction n with
  | zero =>
    intro σ ok v1 j2 hj hb H locs h ls hl hp
    exfalso
    omega
  | succ n ih =>
    intro σ ok v1 j2 hj hb H locs h ls hl hp
    refine lv_iload_n C.x C.b dX7_ploughs_10 rfl (lv_at hl 2 rfl) ?_
    refine lv_iconst (v := 3) C.x C.b dX7_ploughs_11 (by decide) ?_
    refine lv_icmp_ge (tgt := 96) C.x C.b dX7_ploughs_12 (by decide) (fun c1 => ?_) (fun c1 => ?_)
    · skip
      exact rtV C h hr dX7_ploughs_96 (Eq.mp (congrArg (fun z => post z) ((S_X7_ploughs_10_s n σ v1 j2).trans (if_pos c1))) hp)
    · skip
      have h2 : j2 < 3 := lt_of_nle (by omega) (by decide) c1
      refine lv_aload_n C.x C.b dX7_ploughs_15 rfl (lv_at hl 0 rfl) ?_
      refine g_X7_7 C h dX7_ploughs_16 ?_
      refine lv_iload_n C.x C.b dX7_ploughs_19 rfl (lv_at hl 2 rfl) ?_
      refine aln_16 C h h2 dX7_ploughs_20 ?_
      refine lv_iconst (v := 2) C.x C.b dX7_ploughs_21 (by decide) ?_
      refine lv_icmp_ne (tgt := 90) C.x C.b dX7_ploughs_22 (by decide) (fun c2 => ?_) (fun c2 => ?_)
      · skip
        refine lv_iinc (v := nI (j2 + 1)) (lv' := [(2, .int (nI (j2 + 1))), (0, .ref (ead E 15)), (1, .int v1)]) C.x C.b dX7_ploughs_90 hl (k := 2) rfl (nI_1 _) (by decide) rfl (fun ls hl => ?_)
        refine lv_goto (tgt := 10) C.x C.b dX7_ploughs_93 (by decide) ?_
        exact ih (v1 := v1) (j2 := j2 + 1) ok (by omega) (by omega) h (lv_sub hl [1, 2, 0] rfl) (Eq.mp (congrArg (fun z => post z) ((S_X7_ploughs_10_s n σ v1 j2).trans ((if_neg c1).trans (if_neg c2)))) hp)
      · skip
        refine lv_aload_n C.x C.b dX7_ploughs_25 rfl (lv_at hl 0 rfl) ?_
        refine g_X7_13 C h dX7_ploughs_26 ?_
        refine lv_iload_n C.x C.b dX7_ploughs_29 rfl (lv_at hl 2 rfl) ?_
        refine aln_17 C h h2 dX7_ploughs_30 ?_
        refine lv_iload_n C.x C.b dX7_ploughs_31 rfl (lv_at hl 1 rfl) ?_
        refine lv_icmp_ge (tgt := 44) C.x C.b dX7_ploughs_32 (by decide) (fun c3 => ?_) (fun c3 => ?_)
        · skip
          refine lv_iload_n C.x C.b dX7_ploughs_44 rfl (lv_at hl 1 rfl) ?_
          refine lv_istore_n (lv' := [(3, .int v1), (0, .ref (ead E 15)), (1, .int v1), (2, .int (nI j2))]) C.x C.b dX7_ploughs_45 rfl hl (by decide) rfl (fun ls hl => ?_)
          refine lv_aload_n C.x C.b dX7_ploughs_46 rfl (lv_at hl 1 rfl) ?_
          refine g_X7_13 C h dX7_ploughs_47 ?_
          refine lv_iload_n C.x C.b dX7_ploughs_50 rfl (lv_at hl 3 rfl) ?_
          refine lv_dup2_11 C.x C.b dX7_ploughs_51 rfl rfl ?_
          refine aln_17 C h h2 dX7_ploughs_52 ?_
          refine lv_iload_n C.x C.b dX7_ploughs_53 rfl (lv_at hl 0 rfl) ?_
          refine lv_isub C.x C.b dX7_ploughs_54 ?_
          refine asn_17 C h h2 dX7_ploughs_55 (fun H locs h => ?_)
          refine lv_iload_n C.x C.b dX7_ploughs_56 rfl (lv_at hl 2 rfl) ?_
          refine lv_iload_n C.x C.b dX7_ploughs_57 rfl (lv_at hl 0 rfl) ?_
          refine lv_isub C.x C.b dX7_ploughs_58 ?_
          refine lv_istore_n (lv' := [(1, .int (v1 - v1)), (3, .int v1), (0, .ref (ead E 15)), (2, .int (nI j2))]) C.x C.b dX7_ploughs_59 rfl hl (by decide) rfl (fun ls hl => ?_)
          refine lv_aload_n C.x C.b dX7_ploughs_60 rfl (lv_at hl 2 rfl) ?_
          refine lv_dup C.x C.b dX7_ploughs_61 rfl ?_
          refine g_X7_142 C h dX7_ploughs_62 ?_
          refine lv_iload_n C.x C.b dX7_ploughs_65 rfl (lv_at hl 1 rfl) ?_
          refine lv_iadd C.x C.b dX7_ploughs_66 ?_
          refine p_X7_142 C h dX7_ploughs_67 (fun H locs h => ?_)
          refine lv_aload_n C.x C.b dX7_ploughs_70 rfl (lv_at hl 2 rfl) ?_
          refine g_X7_7 C h dX7_ploughs_71 ?_
          refine lv_iload_n C.x C.b dX7_ploughs_74 rfl (lv_at hl 3 rfl) ?_
          refine lv_aload_n C.x C.b dX7_ploughs_75 rfl (lv_at hl 2 rfl) ?_
          refine g_X7_13 C h dX7_ploughs_76 ?_
          refine lv_iload_n C.x C.b dX7_ploughs_79 rfl (lv_at hl 3 rfl) ?_
          refine aln_17 C h h2 dX7_ploughs_80 ?_
          refine top_eq (up2_s σ 47 j2 ((σ 47 j2) - v1)) ?_
          refine lv_if_ne (tgt := 88) C.x C.b dX7_ploughs_81 (by decide) (fun c4 => ?_) (fun c4 => ?_)
          · skip
            refine lv_iconst (v := 2) C.x C.b dX7_ploughs_88 (by decide) ?_
            refine asn_16 C h h2 dX7_ploughs_89 (fun H locs h => ?_)
            refine lv_iinc (v := nI (j2 + 1)) (lv' := [(2, .int (nI (j2 + 1))), (1, .int (v1 - v1)), (3, .int v1), (0, .ref (ead E 15))]) C.x C.b dX7_ploughs_90 hl (k := 3) rfl (nI_1 _) (by decide) rfl (fun ls hl => ?_)
            refine lv_goto (tgt := 10) C.x C.b dX7_ploughs_93 (by decide) ?_
            exact ih (v1 := (v1 - v1)) (j2 := j2 + 1) (((ok.up (by decide) _ _).up (by decide) _ _).up (by decide) _ _) (by omega) (by omega) h (lv_sub hl [3, 1, 0] rfl) (Eq.mp (congrArg (fun z => post z) ((S_X7_ploughs_10_s n σ v1 j2).trans ((if_neg c1).trans ((if_pos c2).trans ((if_pos c3).trans (if_neg c4)))))) hp)
          · skip
            refine lv_iconst (v := 1) C.x C.b dX7_ploughs_84 (by decide) ?_
            refine lv_goto (tgt := 89) C.x C.b dX7_ploughs_85 (by decide) ?_
            refine asn_16 C h h2 dX7_ploughs_89 (fun H locs h => ?_)
            refine lv_iinc (v := nI (j2 + 1)) (lv' := [(2, .int (nI (j2 + 1))), (1, .int (v1 - v1)), (3, .int v1), (0, .ref (ead E 15))]) C.x C.b dX7_ploughs_90 hl (k := 3) rfl (nI_1 _) (by decide) rfl (fun ls hl => ?_)
            refine lv_goto (tgt := 10) C.x C.b dX7_ploughs_93 (by decide) ?_
            exact ih (v1 := (v1 - v1)) (j2 := j2 + 1) (((ok.up (by decide) _ _).up (by decide) _ _).up (by decide) _ _) (by omega) (by omega) h (lv_sub hl [3, 1, 0] rfl) (Eq.mp (congrArg (fun z => post z) ((S_X7_ploughs_10_s n σ v1 j2).trans ((if_neg c1).trans ((if_pos c2).trans ((if_pos c3).trans (if_pos c4)))))) hp)
        · skip
          refine lv_aload_n C.x C.b dX7_ploughs_35 rfl (lv_at hl 0 rfl) ?_
          refine g_X7_13 C h dX7_ploughs_36 ?_
          refine lv_iload_n C.x C.b dX7_ploughs_39 rfl (lv_at hl 2 rfl) ?_
          refine aln_17 C h h2 dX7_ploughs_40 ?_
          refine lv_goto (tgt := 45) C.x C.b dX7_ploughs_41 (by decide) ?_
          refine lv_istore_n (lv' := [(3, .int (σ 47 j2)), (0, .ref (ead E 15)), (1, .int v1), (2, .int (nI j2))]) C.x C.b dX7_ploughs_45 rfl hl (by decide) rfl (fun ls hl => ?_)
          refine lv_aload_n C.x C.b dX7_ploughs_46 rfl (lv_at hl 1 rfl) ?_
          refine g_X7_13 C h dX7_ploughs_47 ?_
          refine lv_iload_n C.x C.b dX7_ploughs_50 rfl (lv_at hl 3 rfl) ?_
          refine lv_dup2_11 C.x C.b dX7_ploughs_51 rfl rfl ?_
          refine aln_17 C h h2 dX7_ploughs_52 ?_
          refine lv_iload_n C.x C.b dX7_ploughs_53 rfl (lv_at hl 0 rfl) ?_
          refine lv_isub C.x C.b dX7_ploughs_54 ?_
          refine asn_17 C h h2 dX7_ploughs_55 (fun H locs h => ?_)
          refine lv_iload_n C.x C.b dX7_ploughs_56 rfl (lv_at hl 2 rfl) ?_
          refine lv_iload_n C.x C.b dX7_ploughs_57 rfl (lv_at hl 0 rfl) ?_
          refine lv_isub C.x C.b dX7_ploughs_58 ?_
          refine lv_istore_n (lv' := [(1, .int (v1 - (σ 47 j2))), (3, .int (σ 47 j2)), (0, .ref (ead E 15)), (2, .int (nI j2))]) C.x C.b dX7_ploughs_59 rfl hl (by decide) rfl (fun ls hl => ?_)
          refine lv_aload_n C.x C.b dX7_ploughs_60 rfl (lv_at hl 2 rfl) ?_
          refine lv_dup C.x C.b dX7_ploughs_61 rfl ?_
          refine g_X7_142 C h dX7_ploughs_62 ?_
          refine lv_iload_n C.x C.b dX7_ploughs_65 rfl (lv_at hl 1 rfl) ?_
          refine lv_iadd C.x C.b dX7_ploughs_66 ?_
          refine p_X7_142 C h dX7_ploughs_67 (fun H locs h => ?_)
          refine lv_aload_n C.x C.b dX7_ploughs_70 rfl (lv_at hl 2 rfl) ?_
          refine g_X7_7 C h dX7_ploughs_71 ?_
          refine lv_iload_n C.x C.b dX7_ploughs_74 rfl (lv_at hl 3 rfl) ?_
          refine lv_aload_n C.x C.b dX7_ploughs_75 rfl (lv_at hl 2 rfl) ?_
          refine g_X7_13 C h dX7_ploughs_76 ?_
          refine lv_iload_n C.x C.b dX7_ploughs_79 rfl (lv_at hl 3 rfl) ?_
          refine aln_17 C h h2 dX7_ploughs_80 ?_
          refine top_eq (up2_s σ 47 j2 ((σ 47 j2) - (σ 47 j2))) ?_
          refine lv_if_ne (tgt := 88) C.x C.b dX7_ploughs_81 (by decide) (fun c5 => ?_) (fun c5 => ?_)
          · skip
            refine lv_iconst (v := 2) C.x C.b dX7_ploughs_88 (by decide) ?_
            refine asn_16 C h h2 dX7_ploughs_89 (fun H locs h => ?_)
            refine lv_iinc (v := nI (j2 + 1)) (lv' := [(2, .int (nI (j2 + 1))), (1, .int (v1 - (σ 47 j2))), (3, .int (σ 47 j2)), (0, .ref (ead E 15))]) C.x C.b dX7_ploughs_90 hl (k := 3) rfl (nI_1 _) (by decide) rfl (fun ls hl => ?_)
            refine lv_goto (tgt := 10) C.x C.b dX7_ploughs_93 (by decide) ?_
            exact ih (v1 := (v1 - (σ 47 j2))) (j2 := j2 + 1) (((ok.up (by decide) _ _).up (by decide) _ _).up (by decide) _ _) (by omega) (by omega) h (lv_sub hl [3, 1, 0] rfl) (Eq.mp (congrArg (fun z => post z) ((S_X7_ploughs_10_s n σ v1 j2).trans ((if_neg c1).trans ((if_pos c2).trans ((if_neg c3).trans (if_neg c5)))))) hp)
          · skip
            refine lv_iconst (v := 1) C.x C.b dX7_ploughs_84 (by decide) ?_
            refine lv_goto (tgt := 89) C.x C.b dX7_ploughs_85 (by decide) ?_
            refine asn_16 C h h2 dX7_ploughs_89 (fun H locs h => ?_)
            refine lv_iinc (v := nI (j2 + 1)) (lv' := [(2, .int (nI (j2 + 1))), (1, .int (v1 - (σ 47 j2))), (3, .int (σ 47 j2)), (0, .ref (ead E 15))]) C.x C.b dX7_ploughs_90 hl (k := 3) rfl (nI_1 _) (by decide) rfl (fun ls hl => ?_)
            refine lv_goto (tgt := 10) C.x C.b dX7_ploughs_93 (by decide) ?_
            exact ih (v1 := (v1 - (σ 47 j2))) (j2 := j2 + 1) (((ok.up (by decide) _ _).up (by decide) _ _).up (by decide) _ _) (by omega) (by omega) h (lv_sub hl [3, 1, 0] rfl) (Eq.mp (congrArg (fun z => post z) ((S_X7_ploughs_10_s n σ v1 j2).trans ((if_neg c1).trans ((if_pos c2).trans ((if_neg c3).trans (if_pos c5)))))) hp)
def S_X7_ploughs (σ : St) : St := S_X7_ploughs_10 4 σ (40 * (σ 52 0)) 0
set_option maxRecDepth 100000 in
set_option maxHeartbeats 4000000 in
theorem K_X7_ploughs_0 {p : Program} {l : Launch} {e : Env} {s : State} {m : MethodId} {args : Array Value} {below : List Frame} {meth : Method} {c : Code} {D : va_G} {E : En} {A : Nat → Prop} {post : St → Prop} (C : CX p s m meth c cX7_ploughs RX7 4 D E A) {σ : St} (ok : OK E σ) {H : Heap} {locs : List Loc} (h : HW D E σ A s H locs) (hr : meth.sig.returnType = none) {ls : Array Slot} (hl : lv_has ls 4 [(0, .ref (ead E 15))]) (hp : post (S_X7_ploughs σ)) : W p l e rm_X7_ploughs s m args below meth c H locs 0 0 (MQ below (va_Qv post (POB D E A) A) args s 0 0 A) (F0 m 0 ls []) := by
  refine lv_bipush (v := 40) C.x C.b dX7_ploughs_0 (by decide) ?_
  refine lv_aload_n C.x C.b dX7_ploughs_2 rfl (lv_at hl 0 rfl) ?_
  refine g_X7_103 C h dX7_ploughs_3 ?_
  refine lv_imul C.x C.b dX7_ploughs_6 ?_
  refine lv_istore_n (lv' := [(1, .int (40 * (σ 52 0))), (0, .ref (ead E 15))]) C.x C.b dX7_ploughs_7 rfl hl (by decide) rfl (fun ls hl => ?_)
  refine lv_iconst (v := 0) C.x C.b dX7_ploughs_8 (by decide) ?_
  refine lv_istore_n (lv' := [(2, .int 0), (1, .int (40 * (σ 52 0))), (0, .ref (ead E 15))]) C.x C.b dX7_ploughs_9 rfl hl (by decide) rfl (fun ls hl => ?_)
  exact K_X7_ploughs_10 C hr 4 (v1 := (40 * (σ 52 0))) (j2 := 0) ok (by omega) (by omega) h (lv_sub hl [2, 1, 0] rfl) hp
theorem M_X7_ploughs (l : Launch) (D : va_G) (E : En) (σ : St) (ok : OK E σ) : CO l yX7_ploughs cX7_ploughs 4 none rm_X7_ploughs [.ref (ead E 15)] D E σ (fun A => va_Qv (fun u => (S_X7_ploughs σ) = u) (POB D E A) A) 0 0 :=
  CO.of RX7 (by decide +kernel) rfl (Nat.le_of_ble_eq_true rfl) (fun p e s m below meth c A ls C h hr hl => K_X7_ploughs_0 C ok h hr hl rfl)
theorem S_X7_ploughs_10_fr {f i : Nat} : ∀ (n : Nat) (σ : St) (v1 : Int32) (j2 : Nat) (hf : ∀ w ∈ [46, 47, 74], f ≠ w), (S_X7_ploughs_10 n σ v1 j2) f i = σ f i
  | 0, σ, v1, j2, hf => rfl
  | n + 1, σ, v1, j2, hf => by
    rw [S_X7_ploughs_10_s]
    (repeat' split) <;> first | with_reducible rfl | (simp only [S_X7_ploughs_10_fr n _ _ _ hf, up2_f (hf 46 (by decide)), up2_f (hf 47 (by decide)), up2_f (hf 74 (by decide))]; done)
theorem S_X7_ploughs_fr {f i : Nat} (σ : St) (hf : ∀ w ∈ [46, 47, 74], f ≠ w) : (S_X7_ploughs σ) f i = σ f i := by
  unfold S_X7_ploughs
  (repeat' split) <;> first | with_reducible rfl | (simp only [up2_f (hf 46 (by decide)), up2_f (hf 47 (by decide)), up2_f (hf 74 (by decide)), S_X7_ploughs_10_fr _ _ _ _ hf]; done)
theorem S_X7_ploughs_ok {E : En} {σ : St} (ok : OK E σ) : OK E (S_X7_ploughs σ) :=
  ok.of_fr (fun f i hf => S_X7_ploughs_fr σ (fun w hw q => absurd (show w ∈ [1, 3, 33, 43, 55, 66] by rw [← q]; exact hf) ((by decide : ∀ w ∈ [46, 47, 74], w ∉ [1, 3, 33, 43, 55, 66]) w hw)))
-- X7_clockOf clockOf(I)D
abbrev rm_X7_clockOf : Room := { frames := 0, cells := 0, slots := 0, locals := 0 }
def S_X7_clockOf_79 (σ : St) (p1 : Int32) (v2 : UInt64) : UInt64 := (FP.dsub v2 (FP.i2d ((σ 41 0) - (σ 65 p1.toNatClampNeg))))
set_option maxRecDepth 100000 in
set_option maxHeartbeats 4000000 in
theorem K_X7_clockOf_79 {p : Program} {l : Launch} {e : Env} {s : State} {m : MethodId} {args : Array Value} {below : List Frame} {meth : Method} {c : Code} {D : va_G} {E : En} {A : Nat → Prop} {post : UInt64 → St → Prop} (C : CX p s m meth c cX7_clockOf RX7 6 D E A) {σ : St} (ok : OK E σ) {p1 : Int32} {v2 : UInt64} (a1 : vp_in p1 20) (hv : v2.toNat % 2 ^ 63 < 1087 * 2 ^ 52) {H : Heap} {locs : List Loc} (h : HW D E σ A s H locs) (hr : meth.sig.returnType = some .double) {ls : Array Slot} (hl : lv_has ls 6 [(0, .ref (ead E 15)), (1, .int p1), (2, .double v2)]) (hp : post (S_X7_clockOf_79 σ p1 v2) σ) : W p l e rm_X7_clockOf s m args below meth c H locs 0 0 (MQ below (va_Qd post (POB D E A) A) args s 0 0 A) (F0 m 79 ls []) := by
  refine lv_dload_n C.x C.b dX7_clockOf_79 rfl (lv_at hl 2 rfl) ?_
  refine lv_aload_n C.x C.b dX7_clockOf_80 rfl (lv_at hl 0 rfl) ?_
  refine g_X7_100 C h dX7_clockOf_81 ?_
  refine lv_aload_n C.x C.b dX7_clockOf_84 rfl (lv_at hl 0 rfl) ?_
  refine g_X7_62 C h dX7_clockOf_85 ?_
  refine lv_iload_n C.x C.b dX7_clockOf_88 rfl (lv_at hl 1 rfl) ?_
  refine al_32 C h a1 dX7_clockOf_89 ?_
  refine lv_isub C.x C.b dX7_clockOf_90 ?_
  refine lv_i2d C.x C.b dX7_clockOf_91 ?_
  refine lv_dsub C.x C.b dX7_clockOf_92 (nan_of (mg_left hv _) (by decide)) ?_
  exact rtD C h hr dX7_clockOf_93 hp
def S_X7_clockOf_42 (σ : St) (p1 : Int32) (y0 : UInt64) : UInt64 := S_X7_clockOf_79 σ p1 (FP.dmul (FP.dmul (FP.i2d (σ 54 (((4 * (σ 66 p1.toNatClampNeg)) + (σ 43 0)).toNatClampNeg))) (FP.ddiv (FP.i2d (σ 67 p1.toNatClampNeg)) 4636737291354636288)) y0)
set_option maxRecDepth 100000 in
set_option maxHeartbeats 4000000 in
theorem K_X7_clockOf_42 {p : Program} {l : Launch} {e : Env} {s : State} {m : MethodId} {args : Array Value} {below : List Frame} {meth : Method} {c : Code} {D : va_G} {E : En} {A : Nat → Prop} {post : UInt64 → St → Prop} (C : CX p s m meth c cX7_clockOf RX7 6 D E A) {σ : St} (ok : OK E σ) {p1 : Int32} {y0 : UInt64} (a1 : vp_in p1 20) (hy : y0.toNat % 2 ^ 63 < 1024 * 2 ^ 52) {H : Heap} {locs : List Loc} (h : HW D E σ A s H locs) (hr : meth.sig.returnType = some .double) {ls : Array Slot} (hl : lv_has ls 6 [(0, .ref (ead E 15)), (1, .int p1)]) (hp : post (S_X7_clockOf_42 σ p1 y0) σ) : W p l e rm_X7_clockOf s m args below meth c H locs 0 0 (MQ below (va_Qd post (POB D E A) A) args s 0 0 A) (F0 m 42 ls [.double y0]) := by
  refine lv_dstore (lv' := [(4, .double y0), (0, .ref (ead E 15)), (1, .int p1)]) C.x C.b dX7_clockOf_42 hl (by decide) rfl (fun ls hl => ?_)
  refine lv_aload_n C.x C.b dX7_clockOf_44 rfl (lv_at hl 1 rfl) ?_
  refine g_X7_32 C h dX7_clockOf_45 ?_
  refine lv_iconst (v := 4) C.x C.b dX7_clockOf_48 (by decide) ?_
  refine lv_aload_n C.x C.b dX7_clockOf_49 rfl (lv_at hl 1 rfl) ?_
  refine g_X7_65 C h dX7_clockOf_50 ?_
  refine lv_iload_n C.x C.b dX7_clockOf_53 rfl (lv_at hl 2 rfl) ?_
  refine al_33 C h a1 dX7_clockOf_54 ?_
  refine lv_imul C.x C.b dX7_clockOf_55 ?_
  refine lv_aload_n C.x C.b dX7_clockOf_56 rfl (lv_at hl 1 rfl) ?_
  refine g_X7_87 C h dX7_clockOf_57 ?_
  refine lv_iadd C.x C.b dX7_clockOf_60 ?_
  refine al_22 C h (tb_in (ok.2.2.2.2.2.2 _) ok.2.2.2.2.1) dX7_clockOf_61 ?_
  refine lv_i2d C.x C.b dX7_clockOf_62 ?_
  refine lv_aload_n C.x C.b dX7_clockOf_63 rfl (lv_at hl 1 rfl) ?_
  refine g_X7_68 C h dX7_clockOf_64 ?_
  refine lv_iload_n C.x C.b dX7_clockOf_67 rfl (lv_at hl 2 rfl) ?_
  refine al_34 C h a1 dX7_clockOf_68 ?_
  refine lv_i2d C.x C.b dX7_clockOf_69 ?_
  refine lv_ldc2d C.x C.b C.ow (C.w _ m_cd_X7_151) dX7_clockOf_70 ?_
  refine lv_ddiv C.x C.b dX7_clockOf_73 (nan_of (mg_hundred _) (by decide)) ?_
  refine lv_dmul C.x C.b dX7_clockOf_74 (nan_of (mg_table _ _) (by decide)) ?_
  refine lv_dload C.x C.b dX7_clockOf_75 (lv_at hl 0 rfl) ?_
  refine lv_dmul C.x C.b dX7_clockOf_77 (nan_of (mg_hold _ _ hy) (by decide)) ?_
  refine lv_dstore_n (lv' := [(2, .double (FP.dmul (FP.dmul (FP.i2d (σ 54 (((4 * (σ 66 p1.toNatClampNeg)) + (σ 43 0)).toNatClampNeg))) (FP.ddiv (FP.i2d (σ 67 p1.toNatClampNeg)) 4636737291354636288)) y0)), (4, .double y0), (0, .ref (ead E 15)), (1, .int p1)]) C.x C.b dX7_clockOf_78 rfl hl (by decide) rfl (fun ls hl => ?_)
  exact K_X7_clockOf_79 (v2 := (FP.dmul (FP.dmul (FP.i2d (σ 54 (((4 * (σ 66 p1.toNatClampNeg)) + (σ 43 0)).toNatClampNeg))) (FP.ddiv (FP.i2d (σ 67 p1.toNatClampNeg)) 4636737291354636288)) y0)) C ok a1 (by first | exact mg_hold _ _ hy | decide +kernel) h hr (lv_sub hl [2, 3, 0] rfl) hp
def S_X7_clockOf (σ : St) (p1 : Int32) : UInt64 := if (σ 43 0) = 0 then S_X7_clockOf_79 σ p1 4696837146684686336 else if (σ 42 0) < (-30) then (if (σ 42 0) < (-100) then S_X7_clockOf_42 σ p1 4602678819172646912 else S_X7_clockOf_42 σ p1 4604930618986332160) else S_X7_clockOf_42 σ p1 FP.dconst1
set_option maxRecDepth 100000 in
set_option maxHeartbeats 4000000 in
theorem K_X7_clockOf_0 {p : Program} {l : Launch} {e : Env} {s : State} {m : MethodId} {args : Array Value} {below : List Frame} {meth : Method} {c : Code} {D : va_G} {E : En} {A : Nat → Prop} {post : UInt64 → St → Prop} (C : CX p s m meth c cX7_clockOf RX7 6 D E A) {σ : St} (ok : OK E σ) {p1 : Int32} (a1 : vp_in p1 20) {H : Heap} {locs : List Loc} (h : HW D E σ A s H locs) (hr : meth.sig.returnType = some .double) {ls : Array Slot} (hl : lv_has ls 6 [(0, .ref (ead E 15)), (1, .int p1)]) (hp : post (S_X7_clockOf σ p1) σ) : W p l e rm_X7_clockOf s m args below meth c H locs 0 0 (MQ below (va_Qd post (POB D E A) A) args s 0 0 A) (F0 m 0 ls []) := by
  refine lv_ldc2d C.x C.b C.ow (C.w _ m_cd_X7_145) dX7_clockOf_0 ?_
  refine lv_dstore_n (lv' := [(2, .double 4696837146684686336), (0, .ref (ead E 15)), (1, .int p1)]) C.x C.b dX7_clockOf_3 rfl hl (by decide) rfl (fun ls hl => ?_)
  refine lv_aload_n C.x C.b dX7_clockOf_4 rfl (lv_at hl 1 rfl) ?_
  refine g_X7_87 C h dX7_clockOf_5 ?_
  refine lv_if_eq (tgt := 79) C.x C.b dX7_clockOf_8 (by decide) (fun c1 => ?_) (fun c1 => ?_)
  · skip
    exact K_X7_clockOf_79 (v2 := 4696837146684686336) C ok a1 (by first | exact mg_hold _ _ hy | decide +kernel) h hr (lv_sub hl [1, 2, 0] rfl) (Eq.mp (congrArg (fun z => post z σ) (if_pos c1)) hp)
  · skip
    refine lv_aload_n C.x C.b dX7_clockOf_11 rfl (lv_at hl 1 rfl) ?_
    refine g_X7_84 C h dX7_clockOf_12 ?_
    refine lv_bipush (v := (-30)) C.x C.b dX7_clockOf_15 (by decide) ?_
    refine lv_icmp_lt (tgt := 24) C.x C.b dX7_clockOf_17 (by decide) (fun c2 => ?_) (fun c2 => ?_)
    · skip
      refine lv_aload_n C.x C.b dX7_clockOf_24 rfl (lv_at hl 1 rfl) ?_
      refine g_X7_84 C h dX7_clockOf_25 ?_
      refine lv_bipush (v := (-100)) C.x C.b dX7_clockOf_28 (by decide) ?_
      refine lv_icmp_lt (tgt := 39) C.x C.b dX7_clockOf_30 (by decide) (fun c3 => ?_) (fun c3 => ?_)
      · skip
        refine lv_ldc2d C.x C.b C.ow (C.w _ m_cd_X7_149) dX7_clockOf_39 ?_
        exact K_X7_clockOf_42 (y0 := 4602678819172646912) C ok a1 (by decide +kernel) h hr (lv_sub hl [1, 2] rfl) (Eq.mp (congrArg (fun z => post z σ) ((if_neg c1).trans ((if_pos c2).trans (if_pos c3)))) hp)
      · skip
        refine lv_ldc2d C.x C.b C.ow (C.w _ m_cd_X7_147) dX7_clockOf_33 ?_
        refine lv_goto (tgt := 42) C.x C.b dX7_clockOf_36 (by decide) ?_
        exact K_X7_clockOf_42 (y0 := 4604930618986332160) C ok a1 (by decide +kernel) h hr (lv_sub hl [1, 2] rfl) (Eq.mp (congrArg (fun z => post z σ) ((if_neg c1).trans ((if_pos c2).trans (if_neg c3)))) hp)
    · skip
      refine lv_dconst1 C.x C.b dX7_clockOf_20 ?_
      refine lv_goto (tgt := 42) C.x C.b dX7_clockOf_21 (by decide) ?_
      exact K_X7_clockOf_42 (y0 := FP.dconst1) C ok a1 (by decide +kernel) h hr (lv_sub hl [1, 2] rfl) (Eq.mp (congrArg (fun z => post z σ) ((if_neg c1).trans (if_neg c2))) hp)
theorem M_X7_clockOf (l : Launch) (D : va_G) (E : En) (σ : St) (ok : OK E σ) (p1 : Int32) (a1 : vp_in p1 20) : CO l yX7_clockOf cX7_clockOf 6 (some .double) rm_X7_clockOf [.ref (ead E 15), .int p1] D E σ (fun A => va_Qd (fun r u => (S_X7_clockOf σ p1) = r ∧ σ = u) (POB D E A) A) 0 0 :=
  CO.of RX7 (by decide +kernel) rfl (Nat.le_of_ble_eq_true rfl) (fun p e s m below meth c A ls C h hr hl => K_X7_clockOf_0 C ok a1 h hr hl ⟨rfl, rfl⟩)
