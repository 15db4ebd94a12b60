/-! the law from its first instruction (by program) -/
theorem cw_L_25 : CWd RL 25 yX6_init cX6_init 1 none 0 := ⟨m_ml_L_25, m_co_X6_init, m_ini_X6, by decide +kernel, by decide +kernel⟩
def adof (l : List Nat) (k : Nat) : Nat := l.getD k 0
set_option maxRecDepth 100000 in
set_option maxHeartbeats 4000000 in
theorem wd_start (cy : Nat → ClassId) (u0 u1 u2 u3 u4 u5 u6 u7 u8 u9 u10 u11 u12 u13 u14 w0 w1 : Nat) : [(u0, .inr (6, [.ref u1, .ref u2, .ref u7, .ref u13, .ref u14, .int 0, .int 0])), (u1, .inr (5, [.int 0, .int 0, .int 0, .int 0])), (u2, .inr (3, [.ref u3, .int (-1), .int 0, .int 0])), (u3, .inl (cy 2, 3, .inr (.inr (.inr (.inr (va_up (va_up (va_up (fun _ => none) 0 (some u4)) 1 (some u5)) 2 (some u6))))))), (u4, .inr (4, [.int 0, .int 0, .int (-1), .int (-1), .int 0])), (u5, .inr (4, [.int 0, .int 0, .int (-1), .int (-1), .int 0])), (u6, .inr (4, [.int 0, .int 0, .int (-1), .int (-1), .int 0])), (u7, .inr (2, [.ref u8, .ref u9, .int 0])), (u8, .inl (cy 0, 3, .inl (fun _ => 0))), (u9, .inl (cy 3, 3, .inr (.inr (.inr (.inr (fun i => if i < 3 then some (if i = 0 then u10 else if i = 1 then u11 else u12) else none)))))), (u10, .inl (cy 0, 4, .inl (upd (upd (upd (fun _ => 0) 1 20) 2 5) 3 20))), (u11, .inl (cy 0, 4, .inl (upd (upd (upd (fun _ => 0) 1 60) 2 30) 3 60))), (u12, .inl (cy 0, 4, .inl (upd (upd (upd (fun _ => 0) 1 100) 2 70) 3 100))), (u13, .inr (1, [.int 0, .int 0, .int 0, .int 500, .int 0, .int 0])), (u14, .inl (cy 1, 20, .inr (.inr (.inr (.inr (fun _ => none)))))), (w0, .inl (cy 0, 8, .inl (fun _ => 0))), (w1, .inl (cy 0, 3, .inl (fun _ => 0)))] = wd (cy, adof [u0, u1, u2, u3, u4, u5, u6, u7, u8, u9, u10, u11, u12, u13, u14, w0, w1], 0) s00 := by
  have e3 : (va_up (va_up (va_up (fun _ => none) 0 (some u4)) 1 (some u5)) 2 (some u6)) = (fun k => if k < 3 then some (adof [u0, u1, u2, u3, u4, u5, u6, u7, u8, u9, u10, u11, u12, u13, u14, w0, w1] (4 + k)) else none : Nat → Option Nat) := by
    funext k
    by_cases h : k < 3
    · rcases (show k = 0 ∨ k = 1 ∨ k = 2 by omega) with rfl | rfl | rfl <;> rfl
    · rw [if_neg h]
      unfold va_up
      rw [if_neg (by omega), if_neg (by omega), if_neg (by omega)]
  have e9 : (fun i => if i < 3 then some (if i = 0 then u10 else if i = 1 then u11 else u12) else none) = (fun k => if k < 3 then some (adof [u0, u1, u2, u3, u4, u5, u6, u7, u8, u9, u10, u11, u12, u13, u14, w0, w1] (10 + k)) else none : Nat → Option Nat) := by
    funext k
    by_cases h : k < 3
    · rcases (show k = 0 ∨ k = 1 ∨ k = 2 by omega) with rfl | rfl | rfl <;> rfl
    · rw [if_neg h, if_neg h]
  have e14 : (fun _ => none : Nat → Option Nat) = (fun k => if k < 0 then some (adof [u0, u1, u2, u3, u4, u5, u6, u7, u8, u9, u10, u11, u12, u13, u14, w0, w1] (17 + k)) else none : Nat → Option Nat) := by
    funext k
    rw [if_neg (Nat.not_lt_zero k)]
  rw [e3, e9, e14]
  refine Eq.trans ?_ (List.append_nil _).symm
  rfl
set_option maxRecDepth 100000 in
set_option maxHeartbeats 4000000 in
theorem law_head {p : Program} {l : Launch} (hfl : l.stackTraces = false) {e : Env} {s : State} {m : MethodId} {args : Array Value} {below : List Frame} {meth : Method} {c : Code} {Q : State → Prop} {D : va_G} {A : Nat → Prop} {b : Nat} {cy : Nat → ClassId} {L : Nat} {xs : Nat → Int32} (hL : L ≤ 260) (hX : va_X b L xs s s.heap) (hbl : b < s.heap.size) (hbA : ¬ A b) (CC : ∀ ad : Nat → Nat, CX p s m meth c cL_law RL 25 D (cy, ad, 0) A) {ls : Array Slot} (hl : lv_has ls 25 [(0, .ref b)])
    (kE : ∀ (E : En) (σ : St) (H : Heap) (locs : List Loc) (cells slots : Nat) (ls : Array Slot), CX p s m meth c cL_law RL 25 D E A → HW D E σ A s H locs → cells ≤ 600086 → slots ≤ 7301441 → lv_has ls 25 [(7, .int 1)] → W p l e room_1 s m args below meth c H locs cells slots Q (F0 m 1254 ls [])) : W p l e room_1 s m args below meth c s.heap [] 0 0 Q (F0 m 0 ls []) := by
  have C : CX p s m meth c cL_law RL 25 D (cy, fun _ => 0, 0) A := CC _
  have h : HV D [] A s s.heap [] := ⟨fun k q h => (by simp at h), ⟨fun i j p q h => (by simp at h), fun k q h => (by simp at h)⟩, va_S.rf⟩
  obtain ⟨H, hH⟩ : ∃ H, H = s.heap := ⟨_, rfl⟩
  obtain ⟨locs, hlo⟩ : ∃ locs : List Loc, locs = [] := ⟨_, rfl⟩
  rw [← hH, ← hlo] at h
  rw [← hH, ← hlo]
  clear hH hlo
  refine va_new (ci := 6) (fs := [.null, .null, .null, .null, .null, .int 0, .int 0]) (C := RX6) (T := TX6) (N := 7) C.x C.b (C.tb.args args) inlX6 tyX6 tyX6_ok C.ow (C.w args m_cl_L_9) (C.w args m_ib_X6) (C.w args m_ini_X6) C.k h.1 h.2.1 h.2.2 C.a rfl (fun j hj => by rcases (show j = 0 ∨ j = 1 ∨ j = 2 ∨ j = 3 ∨ j = 4 ∨ j = 5 ∨ j = 6 by omega) with rfl | rfl | rfl | rfl | rfl | rfl | rfl <;> rfl) (Nat.le_of_ble_eq_true rfl) (Nat.le_of_ble_eq_true rfl) dL_law_0 (fun u0 H hP hD hS => ?_)
  have h : HV D [(u0, .inr (6, [.null, .null, .null, .null, .null, .int 0, .int 0]))] A s H locs := ⟨hP, hD, hS⟩
  clear hP hD hS
  refine lv_dup C.x C.b dL_law_3 rfl ?_
  refine caJ (As := []) (rest := [.ref u0]) C h 0 rfl (M_X6_init l D (cy, fun _ => 0, 0) u0) cw_L_25 m_im_X6_init rfl rfl rfl ⟨Nat.le_of_ble_eq_true rfl, Nat.le_of_ble_eq_true rfl⟩ hl rfl (Nat.le_of_ble_eq_true rfl) dL_law_4 ⟨Nat.le_of_ble_eq_true rfl, Nat.le_of_ble_eq_true rfl⟩ (fun H1 locs1 hB hk hF hS => ?_)
  obtain ⟨u1, u2, u3, u4, u5, u6, u7, u8, u9, u10, u11, u12, u13, u14, hP1, hD1⟩ := hB
  obtain ⟨hP, hD⟩ := va_join (wr := []) (w1 := [(u0, .inr (6, [.ref u1, .ref u2, .ref u7, .ref u13, .ref u14, .int 0, .int 0])), (u1, .inr (5, [.int 0, .int 0, .int 0, .int 0])), (u2, .inr (3, [.ref u3, .int (-1), .int 0, .int 0])), (u3, .inl (cy 2, 3, .inr (.inr (.inr (.inr (va_up (va_up (va_up (fun _ => none) 0 (some u4)) 1 (some u5)) 2 (some u6))))))), (u4, .inr (4, [.int 0, .int 0, .int (-1), .int (-1), .int 0])), (u5, .inr (4, [.int 0, .int 0, .int (-1), .int (-1), .int 0])), (u6, .inr (4, [.int 0, .int 0, .int (-1), .int (-1), .int 0])), (u7, .inr (2, [.ref u8, .ref u9, .int 0])), (u8, .inl (cy 0, 3, .inl (fun _ => 0))), (u9, .inl (cy 3, 3, .inr (.inr (.inr (.inr (fun i => if i < 3 then some (if i = 0 then u10 else if i = 1 then u11 else u12) else none)))))), (u10, .inl (cy 0, 4, .inl (upd (upd (upd (fun _ => 0) 1 20) 2 5) 3 20))), (u11, .inl (cy 0, 4, .inl (upd (upd (upd (fun _ => 0) 1 60) 2 30) 3 60))), (u12, .inl (cy 0, 4, .inl (upd (upd (upd (fun _ => 0) 1 100) 2 70) 3 100))), (u13, .inr (1, [.int 0, .int 0, .int 0, .int 500, .int 0, .int 0])), (u14, .inl (cy 1, 20, .inr (.inr (.inr (.inr (fun _ => none))))))]) h.1 h.2.1 [0] [] rfl rfl (by decide) (by decide) hk hF hP1 hD1
  clear h
  have h : HV D [(u0, .inr (6, [.ref u1, .ref u2, .ref u7, .ref u13, .ref u14, .int 0, .int 0])), (u1, .inr (5, [.int 0, .int 0, .int 0, .int 0])), (u2, .inr (3, [.ref u3, .int (-1), .int 0, .int 0])), (u3, .inl (cy 2, 3, .inr (.inr (.inr (.inr (va_up (va_up (va_up (fun _ => none) 0 (some u4)) 1 (some u5)) 2 (some u6))))))), (u4, .inr (4, [.int 0, .int 0, .int (-1), .int (-1), .int 0])), (u5, .inr (4, [.int 0, .int 0, .int (-1), .int (-1), .int 0])), (u6, .inr (4, [.int 0, .int 0, .int (-1), .int (-1), .int 0])), (u7, .inr (2, [.ref u8, .ref u9, .int 0])), (u8, .inl (cy 0, 3, .inl (fun _ => 0))), (u9, .inl (cy 3, 3, .inr (.inr (.inr (.inr (fun i => if i < 3 then some (if i = 0 then u10 else if i = 1 then u11 else u12) else none)))))), (u10, .inl (cy 0, 4, .inl (upd (upd (upd (fun _ => 0) 1 20) 2 5) 3 20))), (u11, .inl (cy 0, 4, .inl (upd (upd (upd (fun _ => 0) 1 60) 2 30) 3 60))), (u12, .inl (cy 0, 4, .inl (upd (upd (upd (fun _ => 0) 1 100) 2 70) 3 100))), (u13, .inr (1, [.int 0, .int 0, .int 0, .int 500, .int 0, .int 0])), (u14, .inl (cy 1, 20, .inr (.inr (.inr (.inr (fun _ => none))))))] A s H1 locs1 := ⟨hP, hD, hS⟩
  clear hP hD hk hP1 hD1 hS hF
  generalize H1 = H at h
  generalize locs1 = locs at h
  refine lv_astore_n (lv' := [(1, .ref u0), (0, .ref b)]) C.x C.b dL_law_7 rfl hl (by decide) rfl (fun ls hl => ?_)
  refine lv_aload_n C.x C.b dL_law_8 rfl (lv_at hl 1 rfl) ?_
  refine lv_iconst (v := 0) C.x C.b dL_law_9 (by decide) ?_
  refine raCell (k := 0) hL hX hbl hbA (by decide) rfl C h cw_L_26 ⟨Nat.le_of_ble_eq_true rfl, Nat.le_of_ble_eq_true rfl⟩ hl (Nat.le_of_ble_eq_true rfl) dL_law_10 ⟨Nat.le_of_ble_eq_true rfl, Nat.le_of_ble_eq_true rfl⟩ (fun v0 H locs h => ?_)
  refine lv_istore_n (lv' := [(2, .int v0), (1, .ref u0), (0, .ref b)]) C.x C.b dL_law_13 rfl hl (by decide) rfl (fun ls hl => ?_)
  refine lv_iconst (v := 1) C.x C.b dL_law_14 (by decide) ?_
  refine lv_iload_n C.x C.b dL_law_15 rfl (lv_at hl 0 rfl) ?_
  refine lv_bipush (v := 6) C.x C.b dL_law_16 (by decide) ?_
  refine raLow (N := 6) (by decide) (by decide) rfl C h cw_L_32 ⟨Nat.le_of_ble_eq_true rfl, Nat.le_of_ble_eq_true rfl⟩ hl (Nat.le_of_ble_eq_true rfl) dL_law_18 ⟨Nat.le_of_ble_eq_true rfl, Nat.le_of_ble_eq_true rfl⟩ (fun j0 H locs hj0 h => ?_)
  refine lv_iadd C.x C.b dL_law_21 ?_
  refine top_eq (y := nI (1 + j0)) (nI_add 1 j0) ?_
  refine lv_istore_n (lv' := [(3, .int (nI (1 + j0))), (2, .int v0), (1, .ref u0), (0, .ref b)]) C.x C.b dL_law_22 rfl hl (by decide) rfl (fun ls hl => ?_)
  refine lv_bipush (v := 8) C.x C.b dL_law_23 (by decide) ?_
  refine na_int (N := 8) C h (by decide) (by decide) (by decide) (Nat.le_of_ble_eq_true rfl) (Nat.le_of_ble_eq_true rfl) dL_law_25 (fun w0 H h => ?_)
  have h : HV D [(u0, .inr (6, [.ref u1, .ref u2, .ref u7, .ref u13, .ref u14, .int 0, .int 0])), (u1, .inr (5, [.int 0, .int 0, .int 0, .int 0])), (u2, .inr (3, [.ref u3, .int (-1), .int 0, .int 0])), (u3, .inl (cy 2, 3, .inr (.inr (.inr (.inr (va_up (va_up (va_up (fun _ => none) 0 (some u4)) 1 (some u5)) 2 (some u6))))))), (u4, .inr (4, [.int 0, .int 0, .int (-1), .int (-1), .int 0])), (u5, .inr (4, [.int 0, .int 0, .int (-1), .int (-1), .int 0])), (u6, .inr (4, [.int 0, .int 0, .int (-1), .int (-1), .int 0])), (u7, .inr (2, [.ref u8, .ref u9, .int 0])), (u8, .inl (cy 0, 3, .inl (fun _ => 0))), (u9, .inl (cy 3, 3, .inr (.inr (.inr (.inr (fun i => if i < 3 then some (if i = 0 then u10 else if i = 1 then u11 else u12) else none)))))), (u10, .inl (cy 0, 4, .inl (upd (upd (upd (fun _ => 0) 1 20) 2 5) 3 20))), (u11, .inl (cy 0, 4, .inl (upd (upd (upd (fun _ => 0) 1 60) 2 30) 3 60))), (u12, .inl (cy 0, 4, .inl (upd (upd (upd (fun _ => 0) 1 100) 2 70) 3 100))), (u13, .inr (1, [.int 0, .int 0, .int 0, .int 500, .int 0, .int 0])), (u14, .inl (cy 1, 20, .inr (.inr (.inr (.inr (fun _ => none)))))), (w0, .inl (cy 0, 8, .inl (fun _ => 0)))] A s H locs := h
  refine lv_astore (lv' := [(4, .ref w0), (3, .int (nI (1 + j0))), (2, .int v0), (1, .ref u0), (0, .ref b)]) C.x C.b dL_law_27 hl (by decide) rfl (fun ls hl => ?_)
  refine lv_iconst (v := 3) C.x C.b dL_law_29 (by decide) ?_
  refine na_int (N := 3) C h (by decide) (by decide) (by decide) (Nat.le_of_ble_eq_true rfl) (Nat.le_of_ble_eq_true rfl) dL_law_30 (fun w1 H h => ?_)
  have h : HV D [(u0, .inr (6, [.ref u1, .ref u2, .ref u7, .ref u13, .ref u14, .int 0, .int 0])), (u1, .inr (5, [.int 0, .int 0, .int 0, .int 0])), (u2, .inr (3, [.ref u3, .int (-1), .int 0, .int 0])), (u3, .inl (cy 2, 3, .inr (.inr (.inr (.inr (va_up (va_up (va_up (fun _ => none) 0 (some u4)) 1 (some u5)) 2 (some u6))))))), (u4, .inr (4, [.int 0, .int 0, .int (-1), .int (-1), .int 0])), (u5, .inr (4, [.int 0, .int 0, .int (-1), .int (-1), .int 0])), (u6, .inr (4, [.int 0, .int 0, .int (-1), .int (-1), .int 0])), (u7, .inr (2, [.ref u8, .ref u9, .int 0])), (u8, .inl (cy 0, 3, .inl (fun _ => 0))), (u9, .inl (cy 3, 3, .inr (.inr (.inr (.inr (fun i => if i < 3 then some (if i = 0 then u10 else if i = 1 then u11 else u12) else none)))))), (u10, .inl (cy 0, 4, .inl (upd (upd (upd (fun _ => 0) 1 20) 2 5) 3 20))), (u11, .inl (cy 0, 4, .inl (upd (upd (upd (fun _ => 0) 1 60) 2 30) 3 60))), (u12, .inl (cy 0, 4, .inl (upd (upd (upd (fun _ => 0) 1 100) 2 70) 3 100))), (u13, .inr (1, [.int 0, .int 0, .int 0, .int 500, .int 0, .int 0])), (u14, .inl (cy 1, 20, .inr (.inr (.inr (.inr (fun _ => none)))))), (w0, .inl (cy 0, 8, .inl (fun _ => 0))), (w1, .inl (cy 0, 3, .inl (fun _ => 0)))] A s H locs := h
  refine lv_astore (lv' := [(5, .ref w1), (4, .ref w0), (3, .int (nI (1 + j0))), (2, .int v0), (1, .ref u0), (0, .ref b)]) C.x C.b dL_law_32 hl (by decide) rfl (fun ls hl => ?_)
  refine lv_iconst (v := 0) C.x C.b dL_law_34 (by decide) ?_
  refine lv_istore (lv' := [(6, .int 0), (5, .ref w1), (4, .ref w0), (3, .int (nI (1 + j0))), (2, .int v0), (1, .ref u0), (0, .ref b)]) C.x C.b dL_law_35 hl (by decide) rfl (fun ls hl => ?_)
  refine lv_iconst (v := 0) C.x C.b dL_law_37 (by decide) ?_
  refine lv_istore (lv' := [(7, .int 0), (6, .int 0), (5, .ref w1), (4, .ref w0), (3, .int (nI (1 + j0))), (2, .int v0), (1, .ref u0), (0, .ref b)]) C.x C.b dL_law_38 hl (by decide) rfl (fun ls hl => ?_)
  refine W.widen (k := 40) (n := 200) (Nat.le_of_ble_eq_true rfl) (Nat.le_of_ble_eq_true rfl) ?_
  exact hd_40 hfl (N6 := 1 + j0) ⟨by omega, by omega⟩ hL hX hbl hbA kE (E := (cy, adof [u0, u1, u2, u3, u4, u5, u6, u7, u8, u9, u10, u11, u12, u13, u14, w0, w1], 0)) rfl (CC _) 3 0 rfl s00 0 H locs 40 200 ls (hw_of (wd_start cy u0 u1 u2 u3 u4 u5 u6 u7 u8 u9 u10 u11 u12 u13 u14 w0 w1) h.1 h.2.1 h.2.2) ii00 (fun g _ _ => rfl) rfl rfl rfl (by decide) (by decide) hl
