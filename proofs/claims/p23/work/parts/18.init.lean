/-! constructors (by program) -/
section RAW2
variable {p : Program} {l : Launch} {e : Env} {R : Room} {s : State} {m : MethodId} {args : Array Value} {below : List Frame} {meth : Method} {c : Code} {H : Heap} {locs : List Loc} {cells slots : Nat} {Q : State → Prop}
variable {cc : ByteArray} {own : String} {nL : Nat} {D : va_G} {E : En} {A : Nat → Prop} {ws : va_W} {pc : Nat} {ls : Array Slot} {rest : List Value}
theorem ald_raw (C : CX p s m meth c cc own nL D E A) (h : HV D ws A s H locs) (q0 t0 : Nat) {a n : Nat} {cA : ClassId} {f : Nat → Option Nat} {v : Nat} (ha : ws[q0]? = some (a, .inl (cA, n, .inr (.inr (.inr (.inr f)))))) (ht : (tyE E)[t0]? = some (cA, .array .int)) {i : Int32} (hi : vp_in i n) (dg : decode cc pc = .ok (.aaload, 1)) (hv : f i.toNatClampNeg = some v)
    (kk : W p l e R s m args below meth c H locs cells slots Q (F0 m (pc + 1) ls (.ref v :: rest))) : W p l e R s m args below meth c H locs cells slots Q (F0 m pc ls (.int i :: .ref a :: rest)) := by
  have kk2 : W p l e R s m args below meth c H locs cells slots Q (F0 m (pc + 1) ls (va_rf (f i.toNatClampNeg) :: rest)) := by rw [hv]; exact kk
  exact W.aald (v := va_rf (f i.toNatClampNeg)) (ty := .array .int) C.x C.b (h.1 q0 _ ha) ((C.k.2 t0 _ ht).1 n (fun j => va_rf (f j))) rfl (fun q => by cases q) (by show ¬ (i < 0 ∨ (arrV _ _ _).slots.size ≤ _); rw [arrV_size]; exact hi) (by show (arrV _ _ _).slots[_]? = _; rw [arrV_read _ _ (vp_lt hi)]) rfl rfl dg kk2
end RAW2
abbrev rm_X0_init : Room := { frames := 1, cells := 0, slots := 0, locals := 30 }
set_option maxRecDepth 100000 in
set_option maxHeartbeats 4000000 in
theorem M_X0_init (l : Launch) (D : va_G) (E : En) (h0 : Nat) (p1 : Int32) (p2 : Int32) (p3 : Int32) : CI l yX0_init cX0_init 4 rm_X0_init [.ref h0, .int p1, .int p2, .int p3] D E [(h0, .inr (0, [.int 0, .int 0, .int 0, .int 0, .int 0, .int 0, .int 0, .int 0, .int 0, .int 0, .int 0, .int 0]))] (fun A H => va_P D vwCl [(h0, .inr (0, [.int p1, .int p2, .int p3, .int 0, .int (-1), .int 0, .int 0, .int 0, .int 0, .int 0, .int 0, .int 0]))] H ∧ va_D A [(h0, .inr (0, [.int p1, .int p2, .int p3, .int 0, .int (-1), .int 0, .int 0, .int 0, .int 0, .int 0, .int 0, .int 0]))]) 0 0 := by
  refine CI.of RX0 (by decide +kernel) rfl rfl (Nat.le_of_ble_eq_true rfl) (fun p e s m below meth c A ls C O h hr hin hl => ?_)
  generalize hargs : ([.ref h0, .int p1, .int p2, .int p3] : List Value).toArray = args
  have hl : lv_has ls 4 [(0, .ref h0), (1, .int p1), (2, .int p2), (3, .int p3)] := hl
  have h : HV D [(h0, .inr (0, [.int 0, .int 0, .int 0, .int 0, .int 0, .int 0, .int 0, .int 0, .int 0, .int 0, .int 0, .int 0]))] A s s.heap [] := h
  obtain ⟨H, hH⟩ : ∃ H, H = s.heap := ⟨_, rfl⟩
  obtain ⟨locs, hlo⟩ : ∃ locs : List Loc, locs = [] := ⟨_, rfl⟩
  rw [← hH, ← hlo] at h
  rw [← hH, ← hlo]
  clear hH hlo
  refine lv_aload_n C.x C.b dX0_init_0 rfl (lv_at hl 0 rfl) ?_
  refine oI C hl m_ml_X0_3 dX0_init_1 (Nat.le_of_ble_eq_true rfl) (Nat.le_of_ble_eq_true rfl) ?_
  refine lv_aload_n C.x C.b dX0_init_4 rfl (lv_at hl 0 rfl) ?_
  refine lv_iconst (v := 0) C.x C.b dX0_init_5 (by decide) ?_
  refine va_put (D := D) (ci := 0) (v := .int 0) (ty := .int) (C := RX0) (T := TX0) (N := 12) C.x C.b (C.tb.args args) inlX0 tyX0 tyX0_ok nmX0 C.ow C.k h.1 h.2.1 h.2.2 0 rfl rfl 3 (by decide) (C.w args (w := Cond.fieldLink RX0 9 "IcePad$Aircraft" "state" "I") m_fl_X0_9) (fun _ h9 => h9) rfl (by decide +kernel) rfl rfl (Nat.le_of_ble_eq_true rfl) dX0_init_6 (fun H locs hP hD hS => ?_)
  have h : HV D [(h0, .inr (0, [.int 0, .int 0, .int 0, .int 0, .int 0, .int 0, .int 0, .int 0, .int 0, .int 0, .int 0, .int 0]))] A s H locs := ⟨hP, hD, hS⟩
  refine lv_aload_n C.x C.b dX0_init_9 rfl (lv_at hl 0 rfl) ?_
  refine lv_iconst (v := (-1)) C.x C.b dX0_init_10 (by decide) ?_
  refine va_put (D := D) (ci := 0) (v := .int (-1)) (ty := .int) (C := RX0) (T := TX0) (N := 12) C.x C.b (C.tb.args args) inlX0 tyX0 tyX0_ok nmX0 C.ow C.k h.1 h.2.1 h.2.2 0 rfl rfl 4 (by decide) (C.w args (w := Cond.fieldLink RX0 15 "IcePad$Aircraft" "leftMinute" "I") m_fl_X0_15) (fun _ h9 => h9) rfl (by decide +kernel) rfl rfl (Nat.le_of_ble_eq_true rfl) dX0_init_11 (fun H locs hP hD hS => ?_)
  have h : HV D [(h0, .inr (0, [.int 0, .int 0, .int 0, .int 0, .int (-1), .int 0, .int 0, .int 0, .int 0, .int 0, .int 0, .int 0]))] A s H locs := ⟨hP, hD, hS⟩
  refine lv_aload_n C.x C.b dX0_init_14 rfl (lv_at hl 0 rfl) ?_
  refine lv_iload_n C.x C.b dX0_init_15 rfl (lv_at hl 1 rfl) ?_
  refine va_putF (D := D) (ci := 0) (v := .int p1) (ty := .int) (C := RX0) (T := TX0) (N := 12) C.x C.b (C.tb.args args) inlX0 tyX0 tyX0_ok nmX0 C.ow C.k h.1 h.2.1 h.2.2 0 rfl rfl 0 (by decide) (C.w args (w := Cond.fieldLink RX0 18 "IcePad$Aircraft" "span" "I") m_fl_X0_18) (fun _ h9 => h9) rfl hin rfl (by decide +kernel) rfl rfl (Nat.le_of_ble_eq_true rfl) dX0_init_16 (fun H locs hP hD hS => ?_)
  have h : HV D [(h0, .inr (0, [.int p1, .int 0, .int 0, .int 0, .int (-1), .int 0, .int 0, .int 0, .int 0, .int 0, .int 0, .int 0]))] A s H locs := ⟨hP, hD, hS⟩
  refine lv_aload_n C.x C.b dX0_init_19 rfl (lv_at hl 0 rfl) ?_
  refine lv_iload_n C.x C.b dX0_init_20 rfl (lv_at hl 2 rfl) ?_
  refine va_putF (D := D) (ci := 0) (v := .int p2) (ty := .int) (C := RX0) (T := TX0) (N := 12) C.x C.b (C.tb.args args) inlX0 tyX0 tyX0_ok nmX0 C.ow C.k h.1 h.2.1 h.2.2 0 rfl rfl 1 (by decide) (C.w args (w := Cond.fieldLink RX0 21 "IcePad$Aircraft" "slot" "I") m_fl_X0_21) (fun _ h9 => h9) rfl hin rfl (by decide +kernel) rfl rfl (Nat.le_of_ble_eq_true rfl) dX0_init_21 (fun H locs hP hD hS => ?_)
  have h : HV D [(h0, .inr (0, [.int p1, .int p2, .int 0, .int 0, .int (-1), .int 0, .int 0, .int 0, .int 0, .int 0, .int 0, .int 0]))] A s H locs := ⟨hP, hD, hS⟩
  refine lv_aload_n C.x C.b dX0_init_24 rfl (lv_at hl 0 rfl) ?_
  refine lv_iload_n C.x C.b dX0_init_25 rfl (lv_at hl 3 rfl) ?_
  refine va_putF (D := D) (ci := 0) (v := .int p3) (ty := .int) (C := RX0) (T := TX0) (N := 12) C.x C.b (C.tb.args args) inlX0 tyX0 tyX0_ok nmX0 C.ow C.k h.1 h.2.1 h.2.2 0 rfl rfl 2 (by decide) (C.w args (w := Cond.fieldLink RX0 24 "IcePad$Aircraft" "duty" "I") m_fl_X0_24) (fun _ h9 => h9) rfl hin rfl (by decide +kernel) rfl rfl (Nat.le_of_ble_eq_true rfl) dX0_init_26 (fun H locs hP hD hS => ?_)
  have h : HV D [(h0, .inr (0, [.int p1, .int p2, .int p3, .int 0, .int (-1), .int 0, .int 0, .int 0, .int 0, .int 0, .int 0, .int 0]))] A s H locs := ⟨hP, hD, hS⟩
  refine W.widen (k := 0) (n := 0) (Nat.le_of_ble_eq_true rfl) (Nat.le_of_ble_eq_true rfl) ?_
  exact rtC (B := fun A H => va_P D vwCl [(h0, .inr (0, [.int p1, .int p2, .int p3, .int 0, .int (-1), .int 0, .int 0, .int 0, .int 0, .int 0, .int 0, .int 0]))] H ∧ va_D A [(h0, .inr (0, [.int p1, .int p2, .int p3, .int 0, .int (-1), .int 0, .int 0, .int 0, .int 0, .int 0, .int 0, .int 0]))]) C h.2.2 hr dX0_init_29 ⟨h.1, h.2.1⟩
abbrev rm_X5_init : Room := { frames := 1, cells := 0, slots := 0, locals := 30 }
set_option maxRecDepth 100000 in
set_option maxHeartbeats 4000000 in
theorem M_X5_init (l : Launch) (D : va_G) (E : En) (h0 : Nat) : CI l yX5_init cX5_init 1 rm_X5_init [.ref h0] D E [(h0, .inr (5, [.int 0, .int 0, .int 0, .int 0]))] (fun A H => va_P D vwCl [(h0, .inr (5, [.int 0, .int 0, .int 0, .int 0]))] H ∧ va_D A [(h0, .inr (5, [.int 0, .int 0, .int 0, .int 0]))]) 0 0 := by
  refine CI.of RX5 (by decide +kernel) rfl rfl (Nat.le_of_ble_eq_true rfl) (fun p e s m below meth c A ls C O h hr hin hl => ?_)
  generalize hargs : ([.ref h0] : List Value).toArray = args
  have hl : lv_has ls 1 [(0, .ref h0)] := hl
  have h : HV D [(h0, .inr (5, [.int 0, .int 0, .int 0, .int 0]))] A s s.heap [] := h
  obtain ⟨H, hH⟩ : ∃ H, H = s.heap := ⟨_, rfl⟩
  obtain ⟨locs, hlo⟩ : ∃ locs : List Loc, locs = [] := ⟨_, rfl⟩
  rw [← hH, ← hlo] at h
  rw [← hH, ← hlo]
  clear hH hlo
  refine lv_aload_n C.x C.b dX5_init_0 rfl (lv_at hl 0 rfl) ?_
  refine oI C hl m_ml_X5_1 dX5_init_1 (Nat.le_of_ble_eq_true rfl) (Nat.le_of_ble_eq_true rfl) ?_
  refine W.widen (k := 0) (n := 0) (Nat.le_of_ble_eq_true rfl) (Nat.le_of_ble_eq_true rfl) ?_
  exact rtC (B := fun A H => va_P D vwCl [(h0, .inr (5, [.int 0, .int 0, .int 0, .int 0]))] H ∧ va_D A [(h0, .inr (5, [.int 0, .int 0, .int 0, .int 0]))]) C h.2.2 hr dX5_init_4 ⟨h.1, h.2.1⟩
abbrev rm_X4_init : Room := { frames := 1, cells := 0, slots := 0, locals := 30 }
set_option maxRecDepth 100000 in
set_option maxHeartbeats 4000000 in
theorem M_X4_init (l : Launch) (D : va_G) (E : En) (h0 : Nat) : CI l yX4_init cX4_init 1 rm_X4_init [.ref h0] D E [(h0, .inr (4, [.int 0, .int 0, .int 0, .int 0, .int 0]))] (fun A H => va_P D vwCl [(h0, .inr (4, [.int 0, .int 0, .int (-1), .int (-1), .int 0]))] H ∧ va_D A [(h0, .inr (4, [.int 0, .int 0, .int (-1), .int (-1), .int 0]))]) 0 0 := by
  refine CI.of RX4 (by decide +kernel) rfl rfl (Nat.le_of_ble_eq_true rfl) (fun p e s m below meth c A ls C O h hr hin hl => ?_)
  generalize hargs : ([.ref h0] : List Value).toArray = args
  have hl : lv_has ls 1 [(0, .ref h0)] := hl
  have h : HV D [(h0, .inr (4, [.int 0, .int 0, .int 0, .int 0, .int 0]))] A s s.heap [] := h
  obtain ⟨H, hH⟩ : ∃ H, H = s.heap := ⟨_, rfl⟩
  obtain ⟨locs, hlo⟩ : ∃ locs : List Loc, locs = [] := ⟨_, rfl⟩
  rw [← hH, ← hlo] at h
  rw [← hH, ← hlo]
  clear hH hlo
  refine lv_aload_n C.x C.b dX4_init_0 rfl (lv_at hl 0 rfl) ?_
  refine oI C hl m_ml_X4_3 dX4_init_1 (Nat.le_of_ble_eq_true rfl) (Nat.le_of_ble_eq_true rfl) ?_
  refine lv_aload_n C.x C.b dX4_init_4 rfl (lv_at hl 0 rfl) ?_
  refine lv_iconst (v := 0) C.x C.b dX4_init_5 (by decide) ?_
  refine va_put (D := D) (ci := 4) (v := .int 0) (ty := .int) (C := RX4) (T := TX4) (N := 5) C.x C.b (C.tb.args args) inlX4 tyX4 tyX4_ok nmX4 C.ow C.k h.1 h.2.1 h.2.2 0 rfl rfl 0 (by decide) (C.w args (w := Cond.fieldLink RX4 9 "IcePad$Third" "cover" "I") m_fl_X4_9) (fun _ h9 => h9) rfl (by decide +kernel) rfl rfl (Nat.le_of_ble_eq_true rfl) dX4_init_6 (fun H locs hP hD hS => ?_)
  have h : HV D [(h0, .inr (4, [.int 0, .int 0, .int 0, .int 0, .int 0]))] A s H locs := ⟨hP, hD, hS⟩
  refine lv_aload_n C.x C.b dX4_init_9 rfl (lv_at hl 0 rfl) ?_
  refine lv_iconst (v := (-1)) C.x C.b dX4_init_10 (by decide) ?_
  refine va_put (D := D) (ci := 4) (v := .int (-1)) (ty := .int) (C := RX4) (T := TX4) (N := 5) C.x C.b (C.tb.args args) inlX4 tyX4 tyX4_ok nmX4 C.ow C.k h.1 h.2.1 h.2.2 0 rfl rfl 2 (by decide) (C.w args (w := Cond.fieldLink RX4 15 "IcePad$Third" "sprayedUpTo" "I") m_fl_X4_15) (fun _ h9 => h9) rfl (by decide +kernel) rfl rfl (Nat.le_of_ble_eq_true rfl) dX4_init_11 (fun H locs hP hD hS => ?_)
  have h : HV D [(h0, .inr (4, [.int 0, .int 0, .int (-1), .int 0, .int 0]))] A s H locs := ⟨hP, hD, hS⟩
  refine lv_aload_n C.x C.b dX4_init_14 rfl (lv_at hl 0 rfl) ?_
  refine lv_iconst (v := (-1)) C.x C.b dX4_init_15 (by decide) ?_
  refine va_put (D := D) (ci := 4) (v := .int (-1)) (ty := .int) (C := RX4) (T := TX4) (N := 5) C.x C.b (C.tb.args args) inlX4 tyX4 tyX4_ok nmX4 C.ow C.k h.1 h.2.1 h.2.2 0 rfl rfl 3 (by decide) (C.w args (w := Cond.fieldLink RX4 18 "IcePad$Third" "reportMinute" "I") m_fl_X4_18) (fun _ h9 => h9) rfl (by decide +kernel) rfl rfl (Nat.le_of_ble_eq_true rfl) dX4_init_16 (fun H locs hP hD hS => ?_)
  have h : HV D [(h0, .inr (4, [.int 0, .int 0, .int (-1), .int (-1), .int 0]))] A s H locs := ⟨hP, hD, hS⟩
  refine W.widen (k := 0) (n := 0) (Nat.le_of_ble_eq_true rfl) (Nat.le_of_ble_eq_true rfl) ?_
  exact rtC (B := fun A H => va_P D vwCl [(h0, .inr (4, [.int 0, .int 0, .int (-1), .int (-1), .int 0]))] H ∧ va_D A [(h0, .inr (4, [.int 0, .int 0, .int (-1), .int (-1), .int 0]))]) C h.2.2 hr dX4_init_19 ⟨h.1, h.2.1⟩
abbrev rm_X1_init : Room := { frames := 1, cells := 0, slots := 0, locals := 30 }
set_option maxRecDepth 100000 in
set_option maxHeartbeats 4000000 in
theorem M_X1_init (l : Launch) (D : va_G) (E : En) (h0 : Nat) : CI l yX1_init cX1_init 1 rm_X1_init [.ref h0] D E [(h0, .inr (1, [.int 0, .int 0, .int 0, .int 0, .int 0, .int 0]))] (fun A H => va_P D vwCl [(h0, .inr (1, [.int 0, .int 0, .int 0, .int 500, .int 0, .int 0]))] H ∧ va_D A [(h0, .inr (1, [.int 0, .int 0, .int 0, .int 500, .int 0, .int 0]))]) 0 0 := by
  refine CI.of RX1 (by decide +kernel) rfl rfl (Nat.le_of_ble_eq_true rfl) (fun p e s m below meth c A ls C O h hr hin hl => ?_)
  generalize hargs : ([.ref h0] : List Value).toArray = args
  have hl : lv_has ls 1 [(0, .ref h0)] := hl
  have h : HV D [(h0, .inr (1, [.int 0, .int 0, .int 0, .int 0, .int 0, .int 0]))] A s s.heap [] := h
  obtain ⟨H, hH⟩ : ∃ H, H = s.heap := ⟨_, rfl⟩
  obtain ⟨locs, hlo⟩ : ∃ locs : List Loc, locs = [] := ⟨_, rfl⟩
  rw [← hH, ← hlo] at h
  rw [← hH, ← hlo]
  clear hH hlo
  refine lv_aload_n C.x C.b dX1_init_0 rfl (lv_at hl 0 rfl) ?_
  refine oI C hl m_ml_X1_3 dX1_init_1 (Nat.le_of_ble_eq_true rfl) (Nat.le_of_ble_eq_true rfl) ?_
  refine lv_aload_n C.x C.b dX1_init_4 rfl (lv_at hl 0 rfl) ?_
  refine lv_sipush (v := 500) C.x C.b dX1_init_5 (by decide) ?_
  refine va_put (D := D) (ci := 1) (v := .int 500) (ty := .int) (C := RX1) (T := TX1) (N := 6) C.x C.b (C.tb.args args) inlX1 tyX1 tyX1_ok nmX1 C.ow C.k h.1 h.2.1 h.2.2 0 rfl rfl 3 (by decide) (C.w args (w := Cond.fieldLink RX1 9 "IcePad$Basin" "permitADay" "I") m_fl_X1_9) (fun _ h9 => h9) rfl (by decide +kernel) rfl rfl (Nat.le_of_ble_eq_true rfl) dX1_init_8 (fun H locs hP hD hS => ?_)
  have h : HV D [(h0, .inr (1, [.int 0, .int 0, .int 0, .int 500, .int 0, .int 0]))] A s H locs := ⟨hP, hD, hS⟩
  refine W.widen (k := 0) (n := 0) (Nat.le_of_ble_eq_true rfl) (Nat.le_of_ble_eq_true rfl) ?_
  exact rtC (B := fun A H => va_P D vwCl [(h0, .inr (1, [.int 0, .int 0, .int 0, .int 500, .int 0, .int 0]))] H ∧ va_D A [(h0, .inr (1, [.int 0, .int 0, .int 0, .int 500, .int 0, .int 0]))]) C h.2.2 hr dX1_init_11 ⟨h.1, h.2.1⟩
abbrev rm_X3_init : Room := { frames := 2, cells := 4, slots := 18, locals := 60 }
set_option maxRecDepth 100000 in
set_option maxHeartbeats 4000000 in
theorem M_X3_init (l : Launch) (D : va_G) (E : En) (h0 : Nat) : CI l yX3_init cX3_init 2 rm_X3_init [.ref h0] D E [(h0, .inr (3, [.null, .int 0, .int 0, .int 0]))] (fun A H => ∃ q1 q2 q3 q4 : Nat, va_P D vwCl [(h0, .inr (3, [.ref q1, .int (-1), .int 0, .int 0])), (q1, .inl (ecy E 2, 3, .inr (.inr (.inr (.inr (va_up (va_up (va_up (fun _ => none) 0 (some q2)) 1 (some q3)) 2 (some q4))))))), (q2, .inr (4, [.int 0, .int 0, .int (-1), .int (-1), .int 0])), (q3, .inr (4, [.int 0, .int 0, .int (-1), .int (-1), .int 0])), (q4, .inr (4, [.int 0, .int 0, .int (-1), .int (-1), .int 0]))] H ∧ va_D A [(h0, .inr (3, [.ref q1, .int (-1), .int 0, .int 0])), (q1, .inl (ecy E 2, 3, .inr (.inr (.inr (.inr (va_up (va_up (va_up (fun _ => none) 0 (some q2)) 1 (some q3)) 2 (some q4))))))), (q2, .inr (4, [.int 0, .int 0, .int (-1), .int (-1), .int 0])), (q3, .inr (4, [.int 0, .int 0, .int (-1), .int (-1), .int 0])), (q4, .inr (4, [.int 0, .int 0, .int (-1), .int (-1), .int 0]))]) 4 18 := by
  refine CI.of RX3 (by decide +kernel) rfl rfl (Nat.le_of_ble_eq_true rfl) (fun p e s m below meth c A ls C O h hr hin hl => ?_)
  generalize hargs : ([.ref h0] : List Value).toArray = args
  have hl : lv_has ls 2 [(0, .ref h0)] := hl
  have h : HV D [(h0, .inr (3, [.null, .int 0, .int 0, .int 0]))] A s s.heap [] := h
  obtain ⟨H, hH⟩ : ∃ H, H = s.heap := ⟨_, rfl⟩
  obtain ⟨locs, hlo⟩ : ∃ locs : List Loc, locs = [] := ⟨_, rfl⟩
  rw [← hH, ← hlo] at h
  rw [← hH, ← hlo]
  clear hH hlo
  refine lv_aload_n C.x C.b dX3_init_0 rfl (lv_at hl 0 rfl) ?_
  refine oI C hl m_ml_X3_3 dX3_init_1 (Nat.le_of_ble_eq_true rfl) (Nat.le_of_ble_eq_true rfl) ?_
  refine lv_aload_n C.x C.b dX3_init_4 rfl (lv_at hl 0 rfl) ?_
  refine lv_iconst (v := (-1)) C.x C.b dX3_init_5 (by decide) ?_
  refine va_put (D := D) (ci := 3) (v := .int (-1)) (ty := .int) (C := RX3) (T := TX3) (N := 4) C.x C.b (C.tb.args args) inlX3 tyX3 tyX3_ok nmX3 C.ow C.k h.1 h.2.1 h.2.2 0 rfl rfl 1 (by decide) (C.w args (w := Cond.fieldLink RX3 9 "IcePad$Runway" "closedUpTo" "I") m_fl_X3_9) (fun _ h9 => h9) rfl (by decide +kernel) rfl rfl (Nat.le_of_ble_eq_true rfl) dX3_init_6 (fun H locs hP hD hS => ?_)
  have h : HV D [(h0, .inr (3, [.null, .int (-1), .int 0, .int 0]))] A s H locs := ⟨hP, hD, hS⟩
  refine lv_aload_n C.x C.b dX3_init_9 rfl (lv_at hl 0 rfl) ?_
  refine lv_iconst (v := 3) C.x C.b dX3_init_10 (by decide) ?_
  refine na_ref (N := 3) (t0 := 2) C O.2.1 rfl m_cl_X3_15 h (by decide) (by decide) (by decide) (Nat.le_of_ble_eq_true rfl) (Nat.le_of_ble_eq_true rfl) dX3_init_11 (fun q1 H h => ?_)
  have h : HV D [(h0, .inr (3, [.null, .int (-1), .int 0, .int 0])), (q1, .inl (ecy E 2, 3, .inr (.inr (.inr (.inr (fun _ => none))))))] A s H locs := h
  refine va_putF (D := D) (ci := 3) (v := .ref q1) (ty := .array (.object "IcePad$Third")) (C := RX3) (T := TX3) (N := 4) C.x C.b (C.tb.args args) inlX3 tyX3 tyX3_ok nmX3 C.ow C.k h.1 h.2.1 h.2.2 0 rfl rfl 0 (by decide) (C.w args (w := Cond.fieldLink RX3 17 "IcePad$Runway" "thirds" "[LIcePad$Third;") m_fl_X3_17) (fun _ h9 => h9) rfl hin rfl (by decide +kernel) rfl rfl (Nat.le_of_ble_eq_true rfl) dX3_init_14 (fun H locs hP hD hS => ?_)
  have h : HV D [(h0, .inr (3, [.ref q1, .int (-1), .int 0, .int 0])), (q1, .inl (ecy E 2, 3, .inr (.inr (.inr (.inr (fun _ => none))))))] A s H locs := ⟨hP, hD, hS⟩
  refine lv_iconst (v := 0) C.x C.b dX3_init_17 (by decide) ?_
  refine lv_istore_n (lv' := [(1, .int 0), (0, .ref h0)]) C.x C.b dX3_init_18 rfl hl (by decide) rfl (fun ls hl => ?_)
  refine lv_iload_n C.x C.b dX3_init_19 rfl (lv_at hl 0 rfl) ?_
  refine lv_aload_n C.x C.b dX3_init_20 rfl (lv_at hl 1 rfl) ?_
  refine va_get (D := D) (ci := 3) (v := .ref q1) (C := RX3) (T := TX3) (N := 4) C.x C.b (C.tb.args args) inlX3 C.ow C.k h.1 0 rfl rfl 0 (by decide) (C.w args (w := Cond.fieldLink RX3 17 "IcePad$Runway" "thirds" "[LIcePad$Third;") m_fl_X3_17) (fun _ h9 => h9) rfl dX3_init_21 ?_
  refine va_alen (v := 3) C.x C.b C.k h.1 1 2 (ty := .object "IcePad$Third") rfl rfl rfl dX3_init_24 ?_
  refine lv_icmp_ge (tgt := 47) C.x C.b dX3_init_25 (by decide) (fun q => absurd q (by decide)) (fun _ => ?_)
  refine lv_aload_n C.x C.b dX3_init_28 rfl (lv_at hl 1 rfl) ?_
  refine va_get (D := D) (ci := 3) (v := .ref q1) (C := RX3) (T := TX3) (N := 4) C.x C.b (C.tb.args args) inlX3 C.ow C.k h.1 0 rfl rfl 0 (by decide) (C.w args (w := Cond.fieldLink RX3 17 "IcePad$Runway" "thirds" "[LIcePad$Third;") m_fl_X3_17) (fun _ h9 => h9) rfl dX3_init_29 ?_
  refine lv_iload_n C.x C.b dX3_init_32 rfl (lv_at hl 0 rfl) ?_
  refine va_new (ci := 4) (fs := [.int 0, .int 0, .int 0, .int 0, .int 0]) (C := RX4) (T := TX4) (N := 5) C.x C.b (C.tb.args args) inlX4 tyX4 tyX4_ok C.ow (C.w args m_cl_X3_15) (C.w args m_ib_X4) (C.w args m_ini_X4) C.k h.1 h.2.1 h.2.2 C.a rfl (fun j hj => by rcases (show j = 0 ∨ j = 1 ∨ j = 2 ∨ j = 3 ∨ j = 4 by omega) with rfl | rfl | rfl | rfl | rfl <;> rfl) (Nat.le_of_ble_eq_true rfl) (Nat.le_of_ble_eq_true rfl) dX3_init_33 (fun q2 H hP hD hS => ?_)
  have h : HV D [(h0, .inr (3, [.ref q1, .int (-1), .int 0, .int 0])), (q1, .inl (ecy E 2, 3, .inr (.inr (.inr (.inr (fun _ => none)))))), (q2, .inr (4, [.int 0, .int 0, .int 0, .int 0, .int 0]))] A s H locs := ⟨hP, hD, hS⟩
  refine lv_dup C.x C.b dX3_init_36 rfl ?_
  refine caN (As := []) (rest := [.ref q2, .int 0, .ref q1]) C O h [2] rfl rfl (by decide) (M_X4_init l D E q2) O.2.2.2.2.1 m_co_X4_init m_ini_X4 (by decide +kernel) (by decide +kernel) m_im_X4_init rfl rfl rfl ⟨Nat.le_of_ble_eq_true rfl, Nat.le_of_ble_eq_true rfl⟩ hl rfl (Nat.le_of_ble_eq_true rfl) dX3_init_37 ⟨Nat.le_of_ble_eq_true rfl, Nat.le_of_ble_eq_true rfl⟩ (fun H1 locs1 hB hk hF hS => ?_)
  obtain ⟨hP1, hD1⟩ := hB
  obtain ⟨hP, hD⟩ := va_join (wr := [(h0, .inr (3, [.ref q1, .int (-1), .int 0, .int 0])), (q1, .inl (ecy E 2, 3, .inr (.inr (.inr (.inr (fun _ => none))))))]) (w1 := [(q2, .inr (4, [.int 0, .int 0, .int (-1), .int (-1), .int 0]))]) h.1 h.2.1 [2] [0, 1] rfl rfl (by decide) (by decide) hk hF hP1 hD1
  clear h
  have h : HV D [(h0, .inr (3, [.ref q1, .int (-1), .int 0, .int 0])), (q1, .inl (ecy E 2, 3, .inr (.inr (.inr (.inr (fun _ => none)))))), (q2, .inr (4, [.int 0, .int 0, .int (-1), .int (-1), .int 0]))] A s H1 locs1 := ⟨hP, hD, hS⟩
  clear hP hD hk hP1 hD1
  generalize H1 = H at h
  refine va_astq C.x C.b C.k h.1 h.2.1 h.2.2 1 2 2 4 rfl rfl rfl rfl (vp_in_nI (n := 0) (N := 3) (by decide) (by decide)) dX3_init_40 (fun H locs hP hD hS => ?_)
  have h : HV D [(h0, .inr (3, [.ref q1, .int (-1), .int 0, .int 0])), (q1, .inl (ecy E 2, 3, .inr (.inr (.inr (.inr (va_up (fun _ => none) 0 (some q2))))))), (q2, .inr (4, [.int 0, .int 0, .int (-1), .int (-1), .int 0]))] A s H locs := ⟨hP, hD, hS⟩
  refine lv_iinc (v := 1) (lv' := [(1, .int 1), (0, .ref h0)]) C.x C.b dX3_init_41 hl (k := 0) rfl (by decide) (by decide) rfl (fun ls hl => ?_)
  refine lv_goto (tgt := 19) C.x C.b dX3_init_44 (by decide) ?_
  refine lv_iload_n C.x C.b dX3_init_19 rfl (lv_at hl 0 rfl) ?_
  refine lv_aload_n C.x C.b dX3_init_20 rfl (lv_at hl 1 rfl) ?_
  refine va_get (D := D) (ci := 3) (v := .ref q1) (C := RX3) (T := TX3) (N := 4) C.x C.b (C.tb.args args) inlX3 C.ow C.k h.1 0 rfl rfl 0 (by decide) (C.w args (w := Cond.fieldLink RX3 17 "IcePad$Runway" "thirds" "[LIcePad$Third;") m_fl_X3_17) (fun _ h9 => h9) rfl dX3_init_21 ?_
  refine va_alen (v := 3) C.x C.b C.k h.1 1 2 (ty := .object "IcePad$Third") rfl rfl rfl dX3_init_24 ?_
  refine lv_icmp_ge (tgt := 47) C.x C.b dX3_init_25 (by decide) (fun q => absurd q (by decide)) (fun _ => ?_)
  refine lv_aload_n C.x C.b dX3_init_28 rfl (lv_at hl 1 rfl) ?_
  refine va_get (D := D) (ci := 3) (v := .ref q1) (C := RX3) (T := TX3) (N := 4) C.x C.b (C.tb.args args) inlX3 C.ow C.k h.1 0 rfl rfl 0 (by decide) (C.w args (w := Cond.fieldLink RX3 17 "IcePad$Runway" "thirds" "[LIcePad$Third;") m_fl_X3_17) (fun _ h9 => h9) rfl dX3_init_29 ?_
  refine lv_iload_n C.x C.b dX3_init_32 rfl (lv_at hl 0 rfl) ?_
  refine va_new (ci := 4) (fs := [.int 0, .int 0, .int 0, .int 0, .int 0]) (C := RX4) (T := TX4) (N := 5) C.x C.b (C.tb.args args) inlX4 tyX4 tyX4_ok C.ow (C.w args m_cl_X3_15) (C.w args m_ib_X4) (C.w args m_ini_X4) C.k h.1 h.2.1 h.2.2 C.a rfl (fun j hj => by rcases (show j = 0 ∨ j = 1 ∨ j = 2 ∨ j = 3 ∨ j = 4 by omega) with rfl | rfl | rfl | rfl | rfl <;> rfl) (Nat.le_of_ble_eq_true rfl) (Nat.le_of_ble_eq_true rfl) dX3_init_33 (fun q3 H hP hD hS => ?_)
  have h : HV D [(h0, .inr (3, [.ref q1, .int (-1), .int 0, .int 0])), (q1, .inl (ecy E 2, 3, .inr (.inr (.inr (.inr (va_up (fun _ => none) 0 (some q2))))))), (q2, .inr (4, [.int 0, .int 0, .int (-1), .int (-1), .int 0])), (q3, .inr (4, [.int 0, .int 0, .int 0, .int 0, .int 0]))] A s H locs := ⟨hP, hD, hS⟩
  refine lv_dup C.x C.b dX3_init_36 rfl ?_
  refine caN (As := []) (rest := [.ref q3, .int 1, .ref q1]) C O h [3] rfl rfl (by decide) (M_X4_init l D E q3) O.2.2.2.2.1 m_co_X4_init m_ini_X4 (by decide +kernel) (by decide +kernel) m_im_X4_init rfl rfl rfl ⟨Nat.le_of_ble_eq_true rfl, Nat.le_of_ble_eq_true rfl⟩ hl rfl (Nat.le_of_ble_eq_true rfl) dX3_init_37 ⟨Nat.le_of_ble_eq_true rfl, Nat.le_of_ble_eq_true rfl⟩ (fun H1 locs1 hB hk hF hS => ?_)
  obtain ⟨hP1, hD1⟩ := hB
  obtain ⟨hP, hD⟩ := va_join (wr := [(h0, .inr (3, [.ref q1, .int (-1), .int 0, .int 0])), (q1, .inl (ecy E 2, 3, .inr (.inr (.inr (.inr (va_up (fun _ => none) 0 (some q2))))))), (q2, .inr (4, [.int 0, .int 0, .int (-1), .int (-1), .int 0]))]) (w1 := [(q3, .inr (4, [.int 0, .int 0, .int (-1), .int (-1), .int 0]))]) h.1 h.2.1 [3] [0, 1, 2] rfl rfl (by decide) (by decide) hk hF hP1 hD1
  clear h
  have h : HV D [(h0, .inr (3, [.ref q1, .int (-1), .int 0, .int 0])), (q1, .inl (ecy E 2, 3, .inr (.inr (.inr (.inr (va_up (fun _ => none) 0 (some q2))))))), (q2, .inr (4, [.int 0, .int 0, .int (-1), .int (-1), .int 0])), (q3, .inr (4, [.int 0, .int 0, .int (-1), .int (-1), .int 0]))] A s H1 locs1 := ⟨hP, hD, hS⟩
  clear hP hD hk hP1 hD1
  generalize H1 = H at h
  refine va_astq C.x C.b C.k h.1 h.2.1 h.2.2 1 2 3 4 rfl rfl rfl rfl (vp_in_nI (n := 1) (N := 3) (by decide) (by decide)) dX3_init_40 (fun H locs hP hD hS => ?_)
  have h : HV D [(h0, .inr (3, [.ref q1, .int (-1), .int 0, .int 0])), (q1, .inl (ecy E 2, 3, .inr (.inr (.inr (.inr (va_up (va_up (fun _ => none) 0 (some q2)) 1 (some q3))))))), (q2, .inr (4, [.int 0, .int 0, .int (-1), .int (-1), .int 0])), (q3, .inr (4, [.int 0, .int 0, .int (-1), .int (-1), .int 0]))] A s H locs := ⟨hP, hD, hS⟩
  refine lv_iinc (v := 2) (lv' := [(1, .int 2), (0, .ref h0)]) C.x C.b dX3_init_41 hl (k := 0) rfl (by decide) (by decide) rfl (fun ls hl => ?_)
  refine lv_goto (tgt := 19) C.x C.b dX3_init_44 (by decide) ?_
  refine lv_iload_n C.x C.b dX3_init_19 rfl (lv_at hl 0 rfl) ?_
  refine lv_aload_n C.x C.b dX3_init_20 rfl (lv_at hl 1 rfl) ?_
  refine va_get (D := D) (ci := 3) (v := .ref q1) (C := RX3) (T := TX3) (N := 4) C.x C.b (C.tb.args args) inlX3 C.ow C.k h.1 0 rfl rfl 0 (by decide) (C.w args (w := Cond.fieldLink RX3 17 "IcePad$Runway" "thirds" "[LIcePad$Third;") m_fl_X3_17) (fun _ h9 => h9) rfl dX3_init_21 ?_
  refine va_alen (v := 3) C.x C.b C.k h.1 1 2 (ty := .object "IcePad$Third") rfl rfl rfl dX3_init_24 ?_
  refine lv_icmp_ge (tgt := 47) C.x C.b dX3_init_25 (by decide) (fun q => absurd q (by decide)) (fun _ => ?_)
  refine lv_aload_n C.x C.b dX3_init_28 rfl (lv_at hl 1 rfl) ?_
  refine va_get (D := D) (ci := 3) (v := .ref q1) (C := RX3) (T := TX3) (N := 4) C.x C.b (C.tb.args args) inlX3 C.ow C.k h.1 0 rfl rfl 0 (by decide) (C.w args (w := Cond.fieldLink RX3 17 "IcePad$Runway" "thirds" "[LIcePad$Third;") m_fl_X3_17) (fun _ h9 => h9) rfl dX3_init_29 ?_
  refine lv_iload_n C.x C.b dX3_init_32 rfl (lv_at hl 0 rfl) ?_
  refine va_new (ci := 4) (fs := [.int 0, .int 0, .int 0, .int 0, .int 0]) (C := RX4) (T := TX4) (N := 5) C.x C.b (C.tb.args args) inlX4 tyX4 tyX4_ok C.ow (C.w args m_cl_X3_15) (C.w args m_ib_X4) (C.w args m_ini_X4) C.k h.1 h.2.1 h.2.2 C.a rfl (fun j hj => by rcases (show j = 0 ∨ j = 1 ∨ j = 2 ∨ j = 3 ∨ j = 4 by omega) with rfl | rfl | rfl | rfl | rfl <;> rfl) (Nat.le_of_ble_eq_true rfl) (Nat.le_of_ble_eq_true rfl) dX3_init_33 (fun q4 H hP hD hS => ?_)
  have h : HV D [(h0, .inr (3, [.ref q1, .int (-1), .int 0, .int 0])), (q1, .inl (ecy E 2, 3, .inr (.inr (.inr (.inr (va_up (va_up (fun _ => none) 0 (some q2)) 1 (some q3))))))), (q2, .inr (4, [.int 0, .int 0, .int (-1), .int (-1), .int 0])), (q3, .inr (4, [.int 0, .int 0, .int (-1), .int (-1), .int 0])), (q4, .inr (4, [.int 0, .int 0, .int 0, .int 0, .int 0]))] A s H locs := ⟨hP, hD, hS⟩
  refine lv_dup C.x C.b dX3_init_36 rfl ?_
  refine caN (As := []) (rest := [.ref q4, .int 2, .ref q1]) C O h [4] rfl rfl (by decide) (M_X4_init l D E q4) O.2.2.2.2.1 m_co_X4_init m_ini_X4 (by decide +kernel) (by decide +kernel) m_im_X4_init rfl rfl rfl ⟨Nat.le_of_ble_eq_true rfl, Nat.le_of_ble_eq_true rfl⟩ hl rfl (Nat.le_of_ble_eq_true rfl) dX3_init_37 ⟨Nat.le_of_ble_eq_true rfl, Nat.le_of_ble_eq_true rfl⟩ (fun H1 locs1 hB hk hF hS => ?_)
  obtain ⟨hP1, hD1⟩ := hB
  obtain ⟨hP, hD⟩ := va_join (wr := [(h0, .inr (3, [.ref q1, .int (-1), .int 0, .int 0])), (q1, .inl (ecy E 2, 3, .inr (.inr (.inr (.inr (va_up (va_up (fun _ => none) 0 (some q2)) 1 (some q3))))))), (q2, .inr (4, [.int 0, .int 0, .int (-1), .int (-1), .int 0])), (q3, .inr (4, [.int 0, .int 0, .int (-1), .int (-1), .int 0]))]) (w1 := [(q4, .inr (4, [.int 0, .int 0, .int (-1), .int (-1), .int 0]))]) h.1 h.2.1 [4] [0, 1, 2, 3] rfl rfl (by decide) (by decide) hk hF hP1 hD1
  clear h
  have h : HV D [(h0, .inr (3, [.ref q1, .int (-1), .int 0, .int 0])), (q1, .inl (ecy E 2, 3, .inr (.inr (.inr (.inr (va_up (va_up (fun _ => none) 0 (some q2)) 1 (some q3))))))), (q2, .inr (4, [.int 0, .int 0, .int (-1), .int (-1), .int 0])), (q3, .inr (4, [.int 0, .int 0, .int (-1), .int (-1), .int 0])), (q4, .inr (4, [.int 0, .int 0, .int (-1), .int (-1), .int 0]))] A s H1 locs1 := ⟨hP, hD, hS⟩
  clear hP hD hk hP1 hD1
  generalize H1 = H at h
  refine va_astq C.x C.b C.k h.1 h.2.1 h.2.2 1 2 4 4 rfl rfl rfl rfl (vp_in_nI (n := 2) (N := 3) (by decide) (by decide)) dX3_init_40 (fun H locs hP hD hS => ?_)
  have h : HV D [(h0, .inr (3, [.ref q1, .int (-1), .int 0, .int 0])), (q1, .inl (ecy E 2, 3, .inr (.inr (.inr (.inr (va_up (va_up (va_up (fun _ => none) 0 (some q2)) 1 (some q3)) 2 (some q4))))))), (q2, .inr (4, [.int 0, .int 0, .int (-1), .int (-1), .int 0])), (q3, .inr (4, [.int 0, .int 0, .int (-1), .int (-1), .int 0])), (q4, .inr (4, [.int 0, .int 0, .int (-1), .int (-1), .int 0]))] A s H locs := ⟨hP, hD, hS⟩
  refine lv_iinc (v := 3) (lv' := [(1, .int 3), (0, .ref h0)]) C.x C.b dX3_init_41 hl (k := 0) rfl (by decide) (by decide) rfl (fun ls hl => ?_)
  refine lv_goto (tgt := 19) C.x C.b dX3_init_44 (by decide) ?_
  refine lv_iload_n C.x C.b dX3_init_19 rfl (lv_at hl 0 rfl) ?_
  refine lv_aload_n C.x C.b dX3_init_20 rfl (lv_at hl 1 rfl) ?_
  refine va_get (D := D) (ci := 3) (v := .ref q1) (C := RX3) (T := TX3) (N := 4) C.x C.b (C.tb.args args) inlX3 C.ow C.k h.1 0 rfl rfl 0 (by decide) (C.w args (w := Cond.fieldLink RX3 17 "IcePad$Runway" "thirds" "[LIcePad$Third;") m_fl_X3_17) (fun _ h9 => h9) rfl dX3_init_21 ?_
  refine va_alen (v := 3) C.x C.b C.k h.1 1 2 (ty := .object "IcePad$Third") rfl rfl rfl dX3_init_24 ?_
  refine lv_icmp_ge (tgt := 47) C.x C.b dX3_init_25 (by decide) (fun _ => ?_) (fun q => absurd (by decide) q)
  refine W.widen (k := 4) (n := 18) (Nat.le_of_ble_eq_true rfl) (Nat.le_of_ble_eq_true rfl) ?_
  exact rtC (B := fun A H => ∃ q1 q2 q3 q4 : Nat, va_P D vwCl [(h0, .inr (3, [.ref q1, .int (-1), .int 0, .int 0])), (q1, .inl (ecy E 2, 3, .inr (.inr (.inr (.inr (va_up (va_up (va_up (fun _ => none) 0 (some q2)) 1 (some q3)) 2 (some q4))))))), (q2, .inr (4, [.int 0, .int 0, .int (-1), .int (-1), .int 0])), (q3, .inr (4, [.int 0, .int 0, .int (-1), .int (-1), .int 0])), (q4, .inr (4, [.int 0, .int 0, .int (-1), .int (-1), .int 0]))] H ∧ va_D A [(h0, .inr (3, [.ref q1, .int (-1), .int 0, .int 0])), (q1, .inl (ecy E 2, 3, .inr (.inr (.inr (.inr (va_up (va_up (va_up (fun _ => none) 0 (some q2)) 1 (some q3)) 2 (some q4))))))), (q2, .inr (4, [.int 0, .int 0, .int (-1), .int (-1), .int 0])), (q3, .inr (4, [.int 0, .int 0, .int (-1), .int (-1), .int 0])), (q4, .inr (4, [.int 0, .int 0, .int (-1), .int (-1), .int 0]))]) C h.2.2 hr dX3_init_47 ⟨q1, q2, q3, q4, h.1, h.2.1⟩
abbrev rm_X2_init : Room := { frames := 1, cells := 5, slots := 18, locals := 40 }
set_option maxRecDepth 100000 in
set_option maxHeartbeats 4000000 in
theorem M_X2_init (l : Launch) (D : va_G) (E : En) (h0 : Nat) : CI l yX2_init cX2_init 3 rm_X2_init [.ref h0] D E [(h0, .inr (2, [.null, .null, .int 0]))] (fun A H => ∃ q1 q2 q3 q4 q5 : Nat, va_P D vwCl [(h0, .inr (2, [.ref q1, .ref q2, .int 0])), (q1, .inl (ecy E 0, 3, .inl (fun _ => 0))), (q2, .inl (ecy E 3, 3, .inr (.inr (.inr (.inr (fun i => if i < 3 then some (if i = 0 then q3 else if i = 1 then q4 else q5) else none)))))), (q3, .inl (ecy E 0, 4, .inl (upd (upd (upd (fun _ => 0) 1 20) 2 5) 3 20))), (q4, .inl (ecy E 0, 4, .inl (upd (upd (upd (fun _ => 0) 1 60) 2 30) 3 60))), (q5, .inl (ecy E 0, 4, .inl (upd (upd (upd (fun _ => 0) 1 100) 2 70) 3 100)))] H ∧ va_D A [(h0, .inr (2, [.ref q1, .ref q2, .int 0])), (q1, .inl (ecy E 0, 3, .inl (fun _ => 0))), (q2, .inl (ecy E 3, 3, .inr (.inr (.inr (.inr (fun i => if i < 3 then some (if i = 0 then q3 else if i = 1 then q4 else q5) else none)))))), (q3, .inl (ecy E 0, 4, .inl (upd (upd (upd (fun _ => 0) 1 20) 2 5) 3 20))), (q4, .inl (ecy E 0, 4, .inl (upd (upd (upd (fun _ => 0) 1 60) 2 30) 3 60))), (q5, .inl (ecy E 0, 4, .inl (upd (upd (upd (fun _ => 0) 1 100) 2 70) 3 100)))]) 5 18 := by
  refine CI.of RX2 (by decide +kernel) rfl rfl (Nat.le_of_ble_eq_true rfl) (fun p e s m below meth c A ls C O h hr hin hl => ?_)
  generalize hargs : ([.ref h0] : List Value).toArray = args
  have hl : lv_has ls 3 [(0, .ref h0)] := hl
  have h : HV D [(h0, .inr (2, [.null, .null, .int 0]))] A s s.heap [] := h
  obtain ⟨H, hH⟩ : ∃ H, H = s.heap := ⟨_, rfl⟩
  obtain ⟨locs, hlo⟩ : ∃ locs : List Loc, locs = [] := ⟨_, rfl⟩
  rw [← hH, ← hlo] at h
  rw [← hH, ← hlo]
  clear hH hlo
  refine lv_aload_n C.x C.b dX2_init_0 rfl (lv_at hl 0 rfl) ?_
  refine oI C hl m_ml_X2_3 dX2_init_1 (Nat.le_of_ble_eq_true rfl) (Nat.le_of_ble_eq_true rfl) ?_
  refine lv_aload_n C.x C.b dX2_init_4 rfl (lv_at hl 0 rfl) ?_
  refine lv_iconst (v := 3) C.x C.b dX2_init_5 (by decide) ?_
  refine na_int (N := 3) C h (by decide) (by decide) (by decide) (Nat.le_of_ble_eq_true rfl) (Nat.le_of_ble_eq_true rfl) dX2_init_6 (fun q1 H h => ?_)
  have h : HV D [(h0, .inr (2, [.null, .null, .int 0])), (q1, .inl (ecy E 0, 3, .inl (fun _ => 0)))] A s H locs := h
  refine va_putF (D := D) (ci := 2) (v := .ref q1) (ty := .array .int) (C := RX2) (T := TX2) (N := 3) C.x C.b (C.tb.args args) inlX2 tyX2 tyX2_ok nmX2 C.ow C.k h.1 h.2.1 h.2.2 0 rfl rfl 0 (by decide) (C.w args (w := Cond.fieldLink RX2 9 "IcePad$Fluids" "tanks" "[I") m_fl_X2_9) (fun _ h9 => h9) rfl hin rfl (by decide +kernel) rfl rfl (Nat.le_of_ble_eq_true rfl) dX2_init_8 (fun H locs hP hD hS => ?_)
  have h : HV D [(h0, .inr (2, [.ref q1, .null, .int 0])), (q1, .inl (ecy E 0, 3, .inl (fun _ => 0)))] A s H locs := ⟨hP, hD, hS⟩
  refine lv_aload_n C.x C.b dX2_init_11 rfl (lv_at hl 0 rfl) ?_
  refine lv_iconst (v := 3) C.x C.b dX2_init_12 (by decide) ?_
  refine lv_iconst (v := 4) C.x C.b dX2_init_13 (by decide) ?_
  refine na_grid C O.2.2.1 m_cl_X2_15 h (Nat.le_of_ble_eq_true rfl) (Nat.le_of_ble_eq_true rfl) dX2_init_14 (fun q2 q3 q4 q5 H h => ?_)
  have h : HV D [(h0, .inr (2, [.ref q1, .null, .int 0])), (q1, .inl (ecy E 0, 3, .inl (fun _ => 0))), (q2, .inl (ecy E 3, 3, .inr (.inr (.inr (.inr (fun i => if i < 3 then some (if i = 0 then q3 else if i = 1 then q4 else q5) else none)))))), (q3, .inl (ecy E 0, 4, .inl (fun _ => 0))), (q4, .inl (ecy E 0, 4, .inl (fun _ => 0))), (q5, .inl (ecy E 0, 4, .inl (fun _ => 0)))] A s H locs := h
  refine va_putF (D := D) (ci := 2) (v := .ref q2) (ty := .array (.array .int)) (C := RX2) (T := TX2) (N := 3) C.x C.b (C.tb.args args) inlX2 tyX2 tyX2_ok nmX2 C.ow C.k h.1 h.2.1 h.2.2 0 rfl rfl 1 (by decide) (C.w args (w := Cond.fieldLink RX2 17 "IcePad$Fluids" "minutes" "[[I") m_fl_X2_17) (fun _ h9 => h9) rfl hin rfl (by decide +kernel) rfl rfl (Nat.le_of_ble_eq_true rfl) dX2_init_18 (fun H locs hP hD hS => ?_)
  have h : HV D [(h0, .inr (2, [.ref q1, .ref q2, .int 0])), (q1, .inl (ecy E 0, 3, .inl (fun _ => 0))), (q2, .inl (ecy E 3, 3, .inr (.inr (.inr (.inr (fun i => if i < 3 then some (if i = 0 then q3 else if i = 1 then q4 else q5) else none)))))), (q3, .inl (ecy E 0, 4, .inl (fun _ => 0))), (q4, .inl (ecy E 0, 4, .inl (fun _ => 0))), (q5, .inl (ecy E 0, 4, .inl (fun _ => 0)))] A s H locs := ⟨hP, hD, hS⟩
  refine lv_iconst (v := 0) C.x C.b dX2_init_21 (by decide) ?_
  refine lv_istore_n (lv' := [(1, .int 0), (0, .ref h0)]) C.x C.b dX2_init_22 rfl hl (by decide) rfl (fun ls hl => ?_)
  refine lv_iload_n C.x C.b dX2_init_23 rfl (lv_at hl 0 rfl) ?_
  refine lv_iconst (v := 3) C.x C.b dX2_init_24 (by decide) ?_
  refine lv_icmp_ge (tgt := 76) C.x C.b dX2_init_25 (by decide) (fun q => absurd q (by decide)) (fun _ => ?_)
  refine lv_bipush (v := 20) C.x C.b dX2_init_28 (by decide) ?_
  refine lv_bipush (v := 40) C.x C.b dX2_init_30 (by decide) ?_
  refine lv_iload_n C.x C.b dX2_init_32 rfl (lv_at hl 0 rfl) ?_
  refine lv_imul C.x C.b dX2_init_33 ?_
  refine top_eq (y := 0) (by decide) ?_
  refine lv_iadd C.x C.b dX2_init_34 ?_
  refine top_eq (y := 20) (by decide) ?_
  refine lv_istore_n (lv' := [(2, .int 20), (1, .int 0), (0, .ref h0)]) C.x C.b dX2_init_35 rfl hl (by decide) rfl (fun ls hl => ?_)
  refine lv_aload_n C.x C.b dX2_init_36 rfl (lv_at hl 2 rfl) ?_
  refine va_get (D := D) (ci := 2) (v := .ref q2) (C := RX2) (T := TX2) (N := 3) C.x C.b (C.tb.args args) inlX2 C.ow C.k h.1 0 rfl rfl 1 (by decide) (C.w args (w := Cond.fieldLink RX2 17 "IcePad$Fluids" "minutes" "[[I") m_fl_X2_17) (fun _ h9 => h9) rfl dX2_init_37 ?_
  refine lv_iload_n C.x C.b dX2_init_40 rfl (lv_at hl 1 rfl) ?_
  refine ald_raw (v := q3) C h 2 3 rfl rfl (vp_in_nI (n := 0) (N := 3) (by decide) (by decide)) dX2_init_41 rfl ?_
  refine lv_iconst (v := 1) C.x C.b dX2_init_42 (by decide) ?_
  refine lv_iload_n C.x C.b dX2_init_43 rfl (lv_at hl 0 rfl) ?_
  refine va_iast C.x C.b C.k h.1 h.2.1 h.2.2 3 0 rfl rfl (vp_in_nI (n := 1) (N := 4) (by decide) (by decide)) dX2_init_44 (fun H locs hP hD hS => ?_)
  have h : HV D [(h0, .inr (2, [.ref q1, .ref q2, .int 0])), (q1, .inl (ecy E 0, 3, .inl (fun _ => 0))), (q2, .inl (ecy E 3, 3, .inr (.inr (.inr (.inr (fun i => if i < 3 then some (if i = 0 then q3 else if i = 1 then q4 else q5) else none)))))), (q3, .inl (ecy E 0, 4, .inl (upd (fun _ => 0) 1 20))), (q4, .inl (ecy E 0, 4, .inl (fun _ => 0))), (q5, .inl (ecy E 0, 4, .inl (fun _ => 0)))] A s H locs := ⟨hP, hD, hS⟩
  refine lv_aload_n C.x C.b dX2_init_45 rfl (lv_at hl 2 rfl) ?_
  refine va_get (D := D) (ci := 2) (v := .ref q2) (C := RX2) (T := TX2) (N := 3) C.x C.b (C.tb.args args) inlX2 C.ow C.k h.1 0 rfl rfl 1 (by decide) (C.w args (w := Cond.fieldLink RX2 17 "IcePad$Fluids" "minutes" "[[I") m_fl_X2_17) (fun _ h9 => h9) rfl dX2_init_46 ?_
  refine lv_iload_n C.x C.b dX2_init_49 rfl (lv_at hl 1 rfl) ?_
  refine ald_raw (v := q3) C h 2 3 rfl rfl (vp_in_nI (n := 0) (N := 3) (by decide) (by decide)) dX2_init_50 rfl ?_
  refine lv_iconst (v := 2) C.x C.b dX2_init_51 (by decide) ?_
  refine lv_iload_n C.x C.b dX2_init_52 rfl (lv_at hl 0 rfl) ?_
  refine lv_bipush (v := 30) C.x C.b dX2_init_53 (by decide) ?_
  refine lv_isub C.x C.b dX2_init_55 ?_
  refine top_eq (y := (-10)) (by decide) ?_
  refine lv_iconst (v := 5) C.x C.b dX2_init_56 (by decide) ?_
  refine va_mmax C.x C.b (C.ml.trans hl.1.symm) C.ow (C.w _ m_ml_X2_20) (C.w _ m_st_Lib_Math_max_name) (C.w _ m_ini__java_lang_Math_) (C.w _ m_co_Lib_Math_max_name) (Nat.le_of_ble_eq_true rfl) (Nat.le_of_ble_eq_true rfl) (Nat.le_of_ble_eq_true rfl) (Nat.le_of_ble_eq_true rfl) dX2_init_57 ?_
  refine top_eq (y := 5) (by decide) ?_
  refine va_iast C.x C.b C.k h.1 h.2.1 h.2.2 3 0 rfl rfl (vp_in_nI (n := 2) (N := 4) (by decide) (by decide)) dX2_init_60 (fun H locs hP hD hS => ?_)
  have h : HV D [(h0, .inr (2, [.ref q1, .ref q2, .int 0])), (q1, .inl (ecy E 0, 3, .inl (fun _ => 0))), (q2, .inl (ecy E 3, 3, .inr (.inr (.inr (.inr (fun i => if i < 3 then some (if i = 0 then q3 else if i = 1 then q4 else q5) else none)))))), (q3, .inl (ecy E 0, 4, .inl (upd (upd (fun _ => 0) 1 20) 2 5))), (q4, .inl (ecy E 0, 4, .inl (fun _ => 0))), (q5, .inl (ecy E 0, 4, .inl (fun _ => 0)))] A s H locs := ⟨hP, hD, hS⟩
  refine lv_aload_n C.x C.b dX2_init_61 rfl (lv_at hl 2 rfl) ?_
  refine va_get (D := D) (ci := 2) (v := .ref q2) (C := RX2) (T := TX2) (N := 3) C.x C.b (C.tb.args args) inlX2 C.ow C.k h.1 0 rfl rfl 1 (by decide) (C.w args (w := Cond.fieldLink RX2 17 "IcePad$Fluids" "minutes" "[[I") m_fl_X2_17) (fun _ h9 => h9) rfl dX2_init_62 ?_
  refine lv_iload_n C.x C.b dX2_init_65 rfl (lv_at hl 1 rfl) ?_
  refine ald_raw (v := q3) C h 2 3 rfl rfl (vp_in_nI (n := 0) (N := 3) (by decide) (by decide)) dX2_init_66 rfl ?_
  refine lv_iconst (v := 3) C.x C.b dX2_init_67 (by decide) ?_
  refine lv_iload_n C.x C.b dX2_init_68 rfl (lv_at hl 0 rfl) ?_
  refine va_iast C.x C.b C.k h.1 h.2.1 h.2.2 3 0 rfl rfl (vp_in_nI (n := 3) (N := 4) (by decide) (by decide)) dX2_init_69 (fun H locs hP hD hS => ?_)
  have h : HV D [(h0, .inr (2, [.ref q1, .ref q2, .int 0])), (q1, .inl (ecy E 0, 3, .inl (fun _ => 0))), (q2, .inl (ecy E 3, 3, .inr (.inr (.inr (.inr (fun i => if i < 3 then some (if i = 0 then q3 else if i = 1 then q4 else q5) else none)))))), (q3, .inl (ecy E 0, 4, .inl (upd (upd (upd (fun _ => 0) 1 20) 2 5) 3 20))), (q4, .inl (ecy E 0, 4, .inl (fun _ => 0))), (q5, .inl (ecy E 0, 4, .inl (fun _ => 0)))] A s H locs := ⟨hP, hD, hS⟩
  refine lv_iinc (v := 1) (lv' := [(1, .int 1), (2, .int 20), (0, .ref h0)]) C.x C.b dX2_init_70 hl (k := 1) rfl (by decide) (by decide) rfl (fun ls hl => ?_)
  refine lv_goto (tgt := 23) C.x C.b dX2_init_73 (by decide) ?_
  refine lv_iload_n C.x C.b dX2_init_23 rfl (lv_at hl 0 rfl) ?_
  refine lv_iconst (v := 3) C.x C.b dX2_init_24 (by decide) ?_
  refine lv_icmp_ge (tgt := 76) C.x C.b dX2_init_25 (by decide) (fun q => absurd q (by decide)) (fun _ => ?_)
  refine lv_bipush (v := 20) C.x C.b dX2_init_28 (by decide) ?_
  refine lv_bipush (v := 40) C.x C.b dX2_init_30 (by decide) ?_
  refine lv_iload_n C.x C.b dX2_init_32 rfl (lv_at hl 0 rfl) ?_
  refine lv_imul C.x C.b dX2_init_33 ?_
  refine top_eq (y := 40) (by decide) ?_
  refine lv_iadd C.x C.b dX2_init_34 ?_
  refine top_eq (y := 60) (by decide) ?_
  refine lv_istore_n (lv' := [(2, .int 60), (1, .int 1), (0, .ref h0)]) C.x C.b dX2_init_35 rfl hl (by decide) rfl (fun ls hl => ?_)
  refine lv_aload_n C.x C.b dX2_init_36 rfl (lv_at hl 2 rfl) ?_
  refine va_get (D := D) (ci := 2) (v := .ref q2) (C := RX2) (T := TX2) (N := 3) C.x C.b (C.tb.args args) inlX2 C.ow C.k h.1 0 rfl rfl 1 (by decide) (C.w args (w := Cond.fieldLink RX2 17 "IcePad$Fluids" "minutes" "[[I") m_fl_X2_17) (fun _ h9 => h9) rfl dX2_init_37 ?_
  refine lv_iload_n C.x C.b dX2_init_40 rfl (lv_at hl 1 rfl) ?_
  refine ald_raw (v := q4) C h 2 3 rfl rfl (vp_in_nI (n := 1) (N := 3) (by decide) (by decide)) dX2_init_41 rfl ?_
  refine lv_iconst (v := 1) C.x C.b dX2_init_42 (by decide) ?_
  refine lv_iload_n C.x C.b dX2_init_43 rfl (lv_at hl 0 rfl) ?_
  refine va_iast C.x C.b C.k h.1 h.2.1 h.2.2 4 0 rfl rfl (vp_in_nI (n := 1) (N := 4) (by decide) (by decide)) dX2_init_44 (fun H locs hP hD hS => ?_)
  have h : HV D [(h0, .inr (2, [.ref q1, .ref q2, .int 0])), (q1, .inl (ecy E 0, 3, .inl (fun _ => 0))), (q2, .inl (ecy E 3, 3, .inr (.inr (.inr (.inr (fun i => if i < 3 then some (if i = 0 then q3 else if i = 1 then q4 else q5) else none)))))), (q3, .inl (ecy E 0, 4, .inl (upd (upd (upd (fun _ => 0) 1 20) 2 5) 3 20))), (q4, .inl (ecy E 0, 4, .inl (upd (fun _ => 0) 1 60))), (q5, .inl (ecy E 0, 4, .inl (fun _ => 0)))] A s H locs := ⟨hP, hD, hS⟩
  refine lv_aload_n C.x C.b dX2_init_45 rfl (lv_at hl 2 rfl) ?_
  refine va_get (D := D) (ci := 2) (v := .ref q2) (C := RX2) (T := TX2) (N := 3) C.x C.b (C.tb.args args) inlX2 C.ow C.k h.1 0 rfl rfl 1 (by decide) (C.w args (w := Cond.fieldLink RX2 17 "IcePad$Fluids" "minutes" "[[I") m_fl_X2_17) (fun _ h9 => h9) rfl dX2_init_46 ?_
  refine lv_iload_n C.x C.b dX2_init_49 rfl (lv_at hl 1 rfl) ?_
  refine ald_raw (v := q4) C h 2 3 rfl rfl (vp_in_nI (n := 1) (N := 3) (by decide) (by decide)) dX2_init_50 rfl ?_
  refine lv_iconst (v := 2) C.x C.b dX2_init_51 (by decide) ?_
  refine lv_iload_n C.x C.b dX2_init_52 rfl (lv_at hl 0 rfl) ?_
  refine lv_bipush (v := 30) C.x C.b dX2_init_53 (by decide) ?_
  refine lv_isub C.x C.b dX2_init_55 ?_
  refine top_eq (y := 30) (by decide) ?_
  refine lv_iconst (v := 5) C.x C.b dX2_init_56 (by decide) ?_
  refine va_mmax C.x C.b (C.ml.trans hl.1.symm) C.ow (C.w _ m_ml_X2_20) (C.w _ m_st_Lib_Math_max_name) (C.w _ m_ini__java_lang_Math_) (C.w _ m_co_Lib_Math_max_name) (Nat.le_of_ble_eq_true rfl) (Nat.le_of_ble_eq_true rfl) (Nat.le_of_ble_eq_true rfl) (Nat.le_of_ble_eq_true rfl) dX2_init_57 ?_
  refine top_eq (y := 30) (by decide) ?_
  refine va_iast C.x C.b C.k h.1 h.2.1 h.2.2 4 0 rfl rfl (vp_in_nI (n := 2) (N := 4) (by decide) (by decide)) dX2_init_60 (fun H locs hP hD hS => ?_)
  have h : HV D [(h0, .inr (2, [.ref q1, .ref q2, .int 0])), (q1, .inl (ecy E 0, 3, .inl (fun _ => 0))), (q2, .inl (ecy E 3, 3, .inr (.inr (.inr (.inr (fun i => if i < 3 then some (if i = 0 then q3 else if i = 1 then q4 else q5) else none)))))), (q3, .inl (ecy E 0, 4, .inl (upd (upd (upd (fun _ => 0) 1 20) 2 5) 3 20))), (q4, .inl (ecy E 0, 4, .inl (upd (upd (fun _ => 0) 1 60) 2 30))), (q5, .inl (ecy E 0, 4, .inl (fun _ => 0)))] A s H locs := ⟨hP, hD, hS⟩
  refine lv_aload_n C.x C.b dX2_init_61 rfl (lv_at hl 2 rfl) ?_
  refine va_get (D := D) (ci := 2) (v := .ref q2) (C := RX2) (T := TX2) (N := 3) C.x C.b (C.tb.args args) inlX2 C.ow C.k h.1 0 rfl rfl 1 (by decide) (C.w args (w := Cond.fieldLink RX2 17 "IcePad$Fluids" "minutes" "[[I") m_fl_X2_17) (fun _ h9 => h9) rfl dX2_init_62 ?_
  refine lv_iload_n C.x C.b dX2_init_65 rfl (lv_at hl 1 rfl) ?_
  refine ald_raw (v := q4) C h 2 3 rfl rfl (vp_in_nI (n := 1) (N := 3) (by decide) (by decide)) dX2_init_66 rfl ?_
  refine lv_iconst (v := 3) C.x C.b dX2_init_67 (by decide) ?_
  refine lv_iload_n C.x C.b dX2_init_68 rfl (lv_at hl 0 rfl) ?_
  refine va_iast C.x C.b C.k h.1 h.2.1 h.2.2 4 0 rfl rfl (vp_in_nI (n := 3) (N := 4) (by decide) (by decide)) dX2_init_69 (fun H locs hP hD hS => ?_)
  have h : HV D [(h0, .inr (2, [.ref q1, .ref q2, .int 0])), (q1, .inl (ecy E 0, 3, .inl (fun _ => 0))), (q2, .inl (ecy E 3, 3, .inr (.inr (.inr (.inr (fun i => if i < 3 then some (if i = 0 then q3 else if i = 1 then q4 else q5) else none)))))), (q3, .inl (ecy E 0, 4, .inl (upd (upd (upd (fun _ => 0) 1 20) 2 5) 3 20))), (q4, .inl (ecy E 0, 4, .inl (upd (upd (upd (fun _ => 0) 1 60) 2 30) 3 60))), (q5, .inl (ecy E 0, 4, .inl (fun _ => 0)))] A s H locs := ⟨hP, hD, hS⟩
  refine lv_iinc (v := 2) (lv' := [(1, .int 2), (2, .int 60), (0, .ref h0)]) C.x C.b dX2_init_70 hl (k := 1) rfl (by decide) (by decide) rfl (fun ls hl => ?_)
  refine lv_goto (tgt := 23) C.x C.b dX2_init_73 (by decide) ?_
  refine lv_iload_n C.x C.b dX2_init_23 rfl (lv_at hl 0 rfl) ?_
  refine lv_iconst (v := 3) C.x C.b dX2_init_24 (by decide) ?_
  refine lv_icmp_ge (tgt := 76) C.x C.b dX2_init_25 (by decide) (fun q => absurd q (by decide)) (fun _ => ?_)
  refine lv_bipush (v := 20) C.x C.b dX2_init_28 (by decide) ?_
  refine lv_bipush (v := 40) C.x C.b dX2_init_30 (by decide) ?_
  refine lv_iload_n C.x C.b dX2_init_32 rfl (lv_at hl 0 rfl) ?_
  refine lv_imul C.x C.b dX2_init_33 ?_
  refine top_eq (y := 80) (by decide) ?_
  refine lv_iadd C.x C.b dX2_init_34 ?_
  refine top_eq (y := 100) (by decide) ?_
  refine lv_istore_n (lv' := [(2, .int 100), (1, .int 2), (0, .ref h0)]) C.x C.b dX2_init_35 rfl hl (by decide) rfl (fun ls hl => ?_)
  refine lv_aload_n C.x C.b dX2_init_36 rfl (lv_at hl 2 rfl) ?_
  refine va_get (D := D) (ci := 2) (v := .ref q2) (C := RX2) (T := TX2) (N := 3) C.x C.b (C.tb.args args) inlX2 C.ow C.k h.1 0 rfl rfl 1 (by decide) (C.w args (w := Cond.fieldLink RX2 17 "IcePad$Fluids" "minutes" "[[I") m_fl_X2_17) (fun _ h9 => h9) rfl dX2_init_37 ?_
  refine lv_iload_n C.x C.b dX2_init_40 rfl (lv_at hl 1 rfl) ?_
  refine ald_raw (v := q5) C h 2 3 rfl rfl (vp_in_nI (n := 2) (N := 3) (by decide) (by decide)) dX2_init_41 rfl ?_
  refine lv_iconst (v := 1) C.x C.b dX2_init_42 (by decide) ?_
  refine lv_iload_n C.x C.b dX2_init_43 rfl (lv_at hl 0 rfl) ?_
  refine va_iast C.x C.b C.k h.1 h.2.1 h.2.2 5 0 rfl rfl (vp_in_nI (n := 1) (N := 4) (by decide) (by decide)) dX2_init_44 (fun H locs hP hD hS => ?_)
  have h : HV D [(h0, .inr (2, [.ref q1, .ref q2, .int 0])), (q1, .inl (ecy E 0, 3, .inl (fun _ => 0))), (q2, .inl (ecy E 3, 3, .inr (.inr (.inr (.inr (fun i => if i < 3 then some (if i = 0 then q3 else if i = 1 then q4 else q5) else none)))))), (q3, .inl (ecy E 0, 4, .inl (upd (upd (upd (fun _ => 0) 1 20) 2 5) 3 20))), (q4, .inl (ecy E 0, 4, .inl (upd (upd (upd (fun _ => 0) 1 60) 2 30) 3 60))), (q5, .inl (ecy E 0, 4, .inl (upd (fun _ => 0) 1 100)))] A s H locs := ⟨hP, hD, hS⟩
  refine lv_aload_n C.x C.b dX2_init_45 rfl (lv_at hl 2 rfl) ?_
  refine va_get (D := D) (ci := 2) (v := .ref q2) (C := RX2) (T := TX2) (N := 3) C.x C.b (C.tb.args args) inlX2 C.ow C.k h.1 0 rfl rfl 1 (by decide) (C.w args (w := Cond.fieldLink RX2 17 "IcePad$Fluids" "minutes" "[[I") m_fl_X2_17) (fun _ h9 => h9) rfl dX2_init_46 ?_
  refine lv_iload_n C.x C.b dX2_init_49 rfl (lv_at hl 1 rfl) ?_
  refine ald_raw (v := q5) C h 2 3 rfl rfl (vp_in_nI (n := 2) (N := 3) (by decide) (by decide)) dX2_init_50 rfl ?_
  refine lv_iconst (v := 2) C.x C.b dX2_init_51 (by decide) ?_
  refine lv_iload_n C.x C.b dX2_init_52 rfl (lv_at hl 0 rfl) ?_
  refine lv_bipush (v := 30) C.x C.b dX2_init_53 (by decide) ?_
  refine lv_isub C.x C.b dX2_init_55 ?_
  refine top_eq (y := 70) (by decide) ?_
  refine lv_iconst (v := 5) C.x C.b dX2_init_56 (by decide) ?_
  refine va_mmax C.x C.b (C.ml.trans hl.1.symm) C.ow (C.w _ m_ml_X2_20) (C.w _ m_st_Lib_Math_max_name) (C.w _ m_ini__java_lang_Math_) (C.w _ m_co_Lib_Math_max_name) (Nat.le_of_ble_eq_true rfl) (Nat.le_of_ble_eq_true rfl) (Nat.le_of_ble_eq_true rfl) (Nat.le_of_ble_eq_true rfl) dX2_init_57 ?_
  refine top_eq (y := 70) (by decide) ?_
  refine va_iast C.x C.b C.k h.1 h.2.1 h.2.2 5 0 rfl rfl (vp_in_nI (n := 2) (N := 4) (by decide) (by decide)) dX2_init_60 (fun H locs hP hD hS => ?_)
  have h : HV D [(h0, .inr (2, [.ref q1, .ref q2, .int 0])), (q1, .inl (ecy E 0, 3, .inl (fun _ => 0))), (q2, .inl (ecy E 3, 3, .inr (.inr (.inr (.inr (fun i => if i < 3 then some (if i = 0 then q3 else if i = 1 then q4 else q5) else none)))))), (q3, .inl (ecy E 0, 4, .inl (upd (upd (upd (fun _ => 0) 1 20) 2 5) 3 20))), (q4, .inl (ecy E 0, 4, .inl (upd (upd (upd (fun _ => 0) 1 60) 2 30) 3 60))), (q5, .inl (ecy E 0, 4, .inl (upd (upd (fun _ => 0) 1 100) 2 70)))] A s H locs := ⟨hP, hD, hS⟩
  refine lv_aload_n C.x C.b dX2_init_61 rfl (lv_at hl 2 rfl) ?_
  refine va_get (D := D) (ci := 2) (v := .ref q2) (C := RX2) (T := TX2) (N := 3) C.x C.b (C.tb.args args) inlX2 C.ow C.k h.1 0 rfl rfl 1 (by decide) (C.w args (w := Cond.fieldLink RX2 17 "IcePad$Fluids" "minutes" "[[I") m_fl_X2_17) (fun _ h9 => h9) rfl dX2_init_62 ?_
  refine lv_iload_n C.x C.b dX2_init_65 rfl (lv_at hl 1 rfl) ?_
  refine ald_raw (v := q5) C h 2 3 rfl rfl (vp_in_nI (n := 2) (N := 3) (by decide) (by decide)) dX2_init_66 rfl ?_
  refine lv_iconst (v := 3) C.x C.b dX2_init_67 (by decide) ?_
  refine lv_iload_n C.x C.b dX2_init_68 rfl (lv_at hl 0 rfl) ?_
  refine va_iast C.x C.b C.k h.1 h.2.1 h.2.2 5 0 rfl rfl (vp_in_nI (n := 3) (N := 4) (by decide) (by decide)) dX2_init_69 (fun H locs hP hD hS => ?_)
  have h : HV D [(h0, .inr (2, [.ref q1, .ref q2, .int 0])), (q1, .inl (ecy E 0, 3, .inl (fun _ => 0))), (q2, .inl (ecy E 3, 3, .inr (.inr (.inr (.inr (fun i => if i < 3 then some (if i = 0 then q3 else if i = 1 then q4 else q5) else none)))))), (q3, .inl (ecy E 0, 4, .inl (upd (upd (upd (fun _ => 0) 1 20) 2 5) 3 20))), (q4, .inl (ecy E 0, 4, .inl (upd (upd (upd (fun _ => 0) 1 60) 2 30) 3 60))), (q5, .inl (ecy E 0, 4, .inl (upd (upd (upd (fun _ => 0) 1 100) 2 70) 3 100)))] A s H locs := ⟨hP, hD, hS⟩
  refine lv_iinc (v := 3) (lv' := [(1, .int 3), (2, .int 100), (0, .ref h0)]) C.x C.b dX2_init_70 hl (k := 1) rfl (by decide) (by decide) rfl (fun ls hl => ?_)
  refine lv_goto (tgt := 23) C.x C.b dX2_init_73 (by decide) ?_
  refine lv_iload_n C.x C.b dX2_init_23 rfl (lv_at hl 0 rfl) ?_
  refine lv_iconst (v := 3) C.x C.b dX2_init_24 (by decide) ?_
  refine lv_icmp_ge (tgt := 76) C.x C.b dX2_init_25 (by decide) (fun _ => ?_) (fun q => absurd (by decide) q)
  refine W.widen (k := 5) (n := 18) (Nat.le_of_ble_eq_true rfl) (Nat.le_of_ble_eq_true rfl) ?_
  exact rtC (B := fun A H => ∃ q1 q2 q3 q4 q5 : Nat, va_P D vwCl [(h0, .inr (2, [.ref q1, .ref q2, .int 0])), (q1, .inl (ecy E 0, 3, .inl (fun _ => 0))), (q2, .inl (ecy E 3, 3, .inr (.inr (.inr (.inr (fun i => if i < 3 then some (if i = 0 then q3 else if i = 1 then q4 else q5) else none)))))), (q3, .inl (ecy E 0, 4, .inl (upd (upd (upd (fun _ => 0) 1 20) 2 5) 3 20))), (q4, .inl (ecy E 0, 4, .inl (upd (upd (upd (fun _ => 0) 1 60) 2 30) 3 60))), (q5, .inl (ecy E 0, 4, .inl (upd (upd (upd (fun _ => 0) 1 100) 2 70) 3 100)))] H ∧ va_D A [(h0, .inr (2, [.ref q1, .ref q2, .int 0])), (q1, .inl (ecy E 0, 3, .inl (fun _ => 0))), (q2, .inl (ecy E 3, 3, .inr (.inr (.inr (.inr (fun i => if i < 3 then some (if i = 0 then q3 else if i = 1 then q4 else q5) else none)))))), (q3, .inl (ecy E 0, 4, .inl (upd (upd (upd (fun _ => 0) 1 20) 2 5) 3 20))), (q4, .inl (ecy E 0, 4, .inl (upd (upd (upd (fun _ => 0) 1 60) 2 30) 3 60))), (q5, .inl (ecy E 0, 4, .inl (upd (upd (upd (fun _ => 0) 1 100) 2 70) 3 100)))]) C h.2.2 hr dX2_init_76 ⟨q1, q2, q3, q4, q5, h.1, h.2.1⟩
theorem cw_X6_18 : CWd RX6 18 yX3_init cX3_init 2 none 0 := ⟨m_ml_X6_18, m_co_X3_init, m_ini_X3, by decide +kernel, by decide +kernel⟩
theorem cw_X6_25 : CWd RX6 25 yX2_init cX2_init 3 none 0 := ⟨m_ml_X6_25, m_co_X2_init, m_ini_X2, by decide +kernel, by decide +kernel⟩
abbrev rm_X6_init : Room := { frames := 3, cells := 14, slots := 73, locals := 90 }
set_option maxRecDepth 100000 in
set_option maxHeartbeats 4000000 in
theorem M_X6_init (l : Launch) (D : va_G) (E : En) (h0 : Nat) : CI l yX6_init cX6_init 1 rm_X6_init [.ref h0] D E [(h0, .inr (6, [.null, .null, .null, .null, .null, .int 0, .int 0]))] (fun A H => ∃ q1 q2 q3 q4 q5 q6 q7 q8 q9 q10 q11 q12 q13 q14 : Nat, va_P D vwCl [(h0, .inr (6, [.ref q1, .ref q2, .ref q7, .ref q13, .ref q14, .int 0, .int 0])), (q1, .inr (5, [.int 0, .int 0, .int 0, .int 0])), (q2, .inr (3, [.ref q3, .int (-1), .int 0, .int 0])), (q3, .inl (ecy E 2, 3, .inr (.inr (.inr (.inr (va_up (va_up (va_up (fun _ => none) 0 (some q4)) 1 (some q5)) 2 (some q6))))))), (q4, .inr (4, [.int 0, .int 0, .int (-1), .int (-1), .int 0])), (q5, .inr (4, [.int 0, .int 0, .int (-1), .int (-1), .int 0])), (q6, .inr (4, [.int 0, .int 0, .int (-1), .int (-1), .int 0])), (q7, .inr (2, [.ref q8, .ref q9, .int 0])), (q8, .inl (ecy E 0, 3, .inl (fun _ => 0))), (q9, .inl (ecy E 3, 3, .inr (.inr (.inr (.inr (fun i => if i < 3 then some (if i = 0 then q10 else if i = 1 then q11 else q12) else none)))))), (q10, .inl (ecy E 0, 4, .inl (upd (upd (upd (fun _ => 0) 1 20) 2 5) 3 20))), (q11, .inl (ecy E 0, 4, .inl (upd (upd (upd (fun _ => 0) 1 60) 2 30) 3 60))), (q12, .inl (ecy E 0, 4, .inl (upd (upd (upd (fun _ => 0) 1 100) 2 70) 3 100))), (q13, .inr (1, [.int 0, .int 0, .int 0, .int 500, .int 0, .int 0])), (q14, .inl (ecy E 1, 20, .inr (.inr (.inr (.inr (fun _ => none))))))] H ∧ va_D A [(h0, .inr (6, [.ref q1, .ref q2, .ref q7, .ref q13, .ref q14, .int 0, .int 0])), (q1, .inr (5, [.int 0, .int 0, .int 0, .int 0])), (q2, .inr (3, [.ref q3, .int (-1), .int 0, .int 0])), (q3, .inl (ecy E 2, 3, .inr (.inr (.inr (.inr (va_up (va_up (va_up (fun _ => none) 0 (some q4)) 1 (some q5)) 2 (some q6))))))), (q4, .inr (4, [.int 0, .int 0, .int (-1), .int (-1), .int 0])), (q5, .inr (4, [.int 0, .int 0, .int (-1), .int (-1), .int 0])), (q6, .inr (4, [.int 0, .int 0, .int (-1), .int (-1), .int 0])), (q7, .inr (2, [.ref q8, .ref q9, .int 0])), (q8, .inl (ecy E 0, 3, .inl (fun _ => 0))), (q9, .inl (ecy E 3, 3, .inr (.inr (.inr (.inr (fun i => if i < 3 then some (if i = 0 then q10 else if i = 1 then q11 else q12) else none)))))), (q10, .inl (ecy E 0, 4, .inl (upd (upd (upd (fun _ => 0) 1 20) 2 5) 3 20))), (q11, .inl (ecy E 0, 4, .inl (upd (upd (upd (fun _ => 0) 1 60) 2 30) 3 60))), (q12, .inl (ecy E 0, 4, .inl (upd (upd (upd (fun _ => 0) 1 100) 2 70) 3 100))), (q13, .inr (1, [.int 0, .int 0, .int 0, .int 500, .int 0, .int 0])), (q14, .inl (ecy E 1, 20, .inr (.inr (.inr (.inr (fun _ => none))))))]) 14 73 := by
  refine CI.of RX6 (by decide +kernel) rfl rfl (Nat.le_of_ble_eq_true rfl) (fun p e s m below meth c A ls C O h hr hin hl => ?_)
  generalize hargs : ([.ref h0] : List Value).toArray = args
  have hl : lv_has ls 1 [(0, .ref h0)] := hl
  have h : HV D [(h0, .inr (6, [.null, .null, .null, .null, .null, .int 0, .int 0]))] A s s.heap [] := h
  obtain ⟨H, hH⟩ : ∃ H, H = s.heap := ⟨_, rfl⟩
  obtain ⟨locs, hlo⟩ : ∃ locs : List Loc, locs = [] := ⟨_, rfl⟩
  rw [← hH, ← hlo] at h
  rw [← hH, ← hlo]
  clear hH hlo
  refine lv_aload_n C.x C.b dX6_init_0 rfl (lv_at hl 0 rfl) ?_
  refine oI C hl m_ml_X6_1 dX6_init_1 (Nat.le_of_ble_eq_true rfl) (Nat.le_of_ble_eq_true rfl) ?_
  refine lv_aload_n C.x C.b dX6_init_4 rfl (lv_at hl 0 rfl) ?_
  refine va_new (ci := 5) (fs := [.int 0, .int 0, .int 0, .int 0]) (C := RX5) (T := TX5) (N := 4) C.x C.b (C.tb.args args) inlX5 tyX5 tyX5_ok C.ow (C.w args m_cl_X6_7) (C.w args m_ib_X5) (C.w args m_ini_X5) C.k h.1 h.2.1 h.2.2 C.a rfl (fun j hj => by rcases (show j = 0 ∨ j = 1 ∨ j = 2 ∨ j = 3 by omega) with rfl | rfl | rfl | rfl <;> rfl) (Nat.le_of_ble_eq_true rfl) (Nat.le_of_ble_eq_true rfl) dX6_init_5 (fun q1 H hP hD hS => ?_)
  have h : HV D [(h0, .inr (6, [.null, .null, .null, .null, .null, .int 0, .int 0])), (q1, .inr (5, [.int 0, .int 0, .int 0, .int 0]))] A s H locs := ⟨hP, hD, hS⟩
  refine lv_dup C.x C.b dX6_init_8 rfl ?_
  refine caN (As := []) (rest := [.ref q1, .ref h0]) C O h [1] rfl rfl (by decide) (M_X5_init l D E q1) O.2.2.2.1 m_co_X5_init m_ini_X5 (by decide +kernel) (by decide +kernel) m_im_X5_init rfl rfl rfl ⟨Nat.le_of_ble_eq_true rfl, Nat.le_of_ble_eq_true rfl⟩ hl rfl (Nat.le_of_ble_eq_true rfl) dX6_init_9 ⟨Nat.le_of_ble_eq_true rfl, Nat.le_of_ble_eq_true rfl⟩ (fun H1 locs1 hB hk hF hS => ?_)
  obtain ⟨hP1, hD1⟩ := hB
  obtain ⟨hP, hD⟩ := va_join (wr := [(h0, .inr (6, [.null, .null, .null, .null, .null, .int 0, .int 0]))]) (w1 := [(q1, .inr (5, [.int 0, .int 0, .int 0, .int 0]))]) h.1 h.2.1 [1] [0] rfl rfl (by decide) (by decide) hk hF hP1 hD1
  clear h
  have h : HV D [(h0, .inr (6, [.null, .null, .null, .null, .null, .int 0, .int 0])), (q1, .inr (5, [.int 0, .int 0, .int 0, .int 0]))] A s H1 locs1 := ⟨hP, hD, hS⟩
  clear hP hD hk hP1 hD1
  generalize H1 = H at h
  refine va_putF (D := D) (ci := 6) (v := .ref q1) (ty := .object "IcePad$Weather") (C := RX6) (T := TX6) (N := 7) C.x C.b (C.tb.args args) inlX6 tyX6 tyX6_ok nmX6 C.ow C.k h.1 h.2.1 h.2.2 0 rfl rfl 0 (by decide) (C.w args (w := Cond.fieldLink RX6 10 "IcePad" "sky" "LIcePad$Weather;") m_fl_X6_10) (fun _ h9 => h9) rfl hin rfl (by decide +kernel) rfl rfl (Nat.le_of_ble_eq_true rfl) dX6_init_12 (fun H locs hP hD hS => ?_)
  have h : HV D [(h0, .inr (6, [.ref q1, .null, .null, .null, .null, .int 0, .int 0])), (q1, .inr (5, [.int 0, .int 0, .int 0, .int 0]))] A s H locs := ⟨hP, hD, hS⟩
  refine lv_aload_n C.x C.b dX6_init_15 rfl (lv_at hl 0 rfl) ?_
  refine va_new (ci := 3) (fs := [.null, .int 0, .int 0, .int 0]) (C := RX3) (T := TX3) (N := 4) C.x C.b (C.tb.args args) inlX3 tyX3 tyX3_ok C.ow (C.w args m_cl_X6_16) (C.w args m_ib_X3) (C.w args m_ini_X3) C.k h.1 h.2.1 h.2.2 C.a rfl (fun j hj => by rcases (show j = 0 ∨ j = 1 ∨ j = 2 ∨ j = 3 by omega) with rfl | rfl | rfl | rfl <;> rfl) (Nat.le_of_ble_eq_true rfl) (Nat.le_of_ble_eq_true rfl) dX6_init_16 (fun q2 H hP hD hS => ?_)
  have h : HV D [(h0, .inr (6, [.ref q1, .null, .null, .null, .null, .int 0, .int 0])), (q1, .inr (5, [.int 0, .int 0, .int 0, .int 0])), (q2, .inr (3, [.null, .int 0, .int 0, .int 0]))] A s H locs := ⟨hP, hD, hS⟩
  refine lv_dup C.x C.b dX6_init_19 rfl ?_
  refine caI (As := []) (rest := [.ref q2, .ref h0]) C O h [2] rfl rfl (by decide) (M_X3_init l D E q2) cw_X6_18 m_im_X3_init rfl rfl rfl ⟨Nat.le_of_ble_eq_true rfl, Nat.le_of_ble_eq_true rfl⟩ hl rfl (Nat.le_of_ble_eq_true rfl) dX6_init_20 ⟨Nat.le_of_ble_eq_true rfl, Nat.le_of_ble_eq_true rfl⟩ (fun H1 locs1 hB hk hF hS => ?_)
  obtain ⟨q3, q4, q5, q6, hP1, hD1⟩ := hB
  obtain ⟨hP, hD⟩ := va_join (wr := [(h0, .inr (6, [.ref q1, .null, .null, .null, .null, .int 0, .int 0])), (q1, .inr (5, [.int 0, .int 0, .int 0, .int 0]))]) (w1 := [(q2, .inr (3, [.ref q3, .int (-1), .int 0, .int 0])), (q3, .inl (ecy E 2, 3, .inr (.inr (.inr (.inr (va_up (va_up (va_up (fun _ => none) 0 (some q4)) 1 (some q5)) 2 (some q6))))))), (q4, .inr (4, [.int 0, .int 0, .int (-1), .int (-1), .int 0])), (q5, .inr (4, [.int 0, .int 0, .int (-1), .int (-1), .int 0])), (q6, .inr (4, [.int 0, .int 0, .int (-1), .int (-1), .int 0]))]) h.1 h.2.1 [2] [0, 1] rfl rfl (by decide) (by decide) hk hF hP1 hD1
  clear h
  have h : HV D [(h0, .inr (6, [.ref q1, .null, .null, .null, .null, .int 0, .int 0])), (q1, .inr (5, [.int 0, .int 0, .int 0, .int 0])), (q2, .inr (3, [.ref q3, .int (-1), .int 0, .int 0])), (q3, .inl (ecy E 2, 3, .inr (.inr (.inr (.inr (va_up (va_up (va_up (fun _ => none) 0 (some q4)) 1 (some q5)) 2 (some q6))))))), (q4, .inr (4, [.int 0, .int 0, .int (-1), .int (-1), .int 0])), (q5, .inr (4, [.int 0, .int 0, .int (-1), .int (-1), .int 0])), (q6, .inr (4, [.int 0, .int 0, .int (-1), .int (-1), .int 0]))] A s H1 locs1 := ⟨hP, hD, hS⟩
  clear hP hD hk hP1 hD1
  generalize H1 = H at h
  refine va_putF (D := D) (ci := 6) (v := .ref q2) (ty := .object "IcePad$Runway") (C := RX6) (T := TX6) (N := 7) C.x C.b (C.tb.args args) inlX6 tyX6 tyX6_ok nmX6 C.ow C.k h.1 h.2.1 h.2.2 0 rfl rfl 1 (by decide) (C.w args (w := Cond.fieldLink RX6 19 "IcePad" "runway" "LIcePad$Runway;") m_fl_X6_19) (fun _ h9 => h9) rfl hin rfl (by decide +kernel) rfl rfl (Nat.le_of_ble_eq_true rfl) dX6_init_23 (fun H locs hP hD hS => ?_)
  have h : HV D [(h0, .inr (6, [.ref q1, .ref q2, .null, .null, .null, .int 0, .int 0])), (q1, .inr (5, [.int 0, .int 0, .int 0, .int 0])), (q2, .inr (3, [.ref q3, .int (-1), .int 0, .int 0])), (q3, .inl (ecy E 2, 3, .inr (.inr (.inr (.inr (va_up (va_up (va_up (fun _ => none) 0 (some q4)) 1 (some q5)) 2 (some q6))))))), (q4, .inr (4, [.int 0, .int 0, .int (-1), .int (-1), .int 0])), (q5, .inr (4, [.int 0, .int 0, .int (-1), .int (-1), .int 0])), (q6, .inr (4, [.int 0, .int 0, .int (-1), .int (-1), .int 0]))] A s H locs := ⟨hP, hD, hS⟩
  refine lv_aload_n C.x C.b dX6_init_26 rfl (lv_at hl 0 rfl) ?_
  refine va_new (ci := 2) (fs := [.null, .null, .int 0]) (C := RX2) (T := TX2) (N := 3) C.x C.b (C.tb.args args) inlX2 tyX2 tyX2_ok C.ow (C.w args m_cl_X6_23) (C.w args m_ib_X2) (C.w args m_ini_X2) C.k h.1 h.2.1 h.2.2 C.a rfl (fun j hj => by rcases (show j = 0 ∨ j = 1 ∨ j = 2 by omega) with rfl | rfl | rfl <;> rfl) (Nat.le_of_ble_eq_true rfl) (Nat.le_of_ble_eq_true rfl) dX6_init_27 (fun q7 H hP hD hS => ?_)
  have h : HV D [(h0, .inr (6, [.ref q1, .ref q2, .null, .null, .null, .int 0, .int 0])), (q1, .inr (5, [.int 0, .int 0, .int 0, .int 0])), (q2, .inr (3, [.ref q3, .int (-1), .int 0, .int 0])), (q3, .inl (ecy E 2, 3, .inr (.inr (.inr (.inr (va_up (va_up (va_up (fun _ => none) 0 (some q4)) 1 (some q5)) 2 (some q6))))))), (q4, .inr (4, [.int 0, .int 0, .int (-1), .int (-1), .int 0])), (q5, .inr (4, [.int 0, .int 0, .int (-1), .int (-1), .int 0])), (q6, .inr (4, [.int 0, .int 0, .int (-1), .int (-1), .int 0])), (q7, .inr (2, [.null, .null, .int 0]))] A s H locs := ⟨hP, hD, hS⟩
  refine lv_dup C.x C.b dX6_init_30 rfl ?_
  refine caI (As := []) (rest := [.ref q7, .ref h0]) C O h [7] rfl rfl (by decide) (M_X2_init l D E q7) cw_X6_25 m_im_X2_init rfl rfl rfl ⟨Nat.le_of_ble_eq_true rfl, Nat.le_of_ble_eq_true rfl⟩ hl rfl (Nat.le_of_ble_eq_true rfl) dX6_init_31 ⟨Nat.le_of_ble_eq_true rfl, Nat.le_of_ble_eq_true rfl⟩ (fun H1 locs1 hB hk hF hS => ?_)
  obtain ⟨q8, q9, q10, q11, q12, hP1, hD1⟩ := hB
  obtain ⟨hP, hD⟩ := va_join (wr := [(h0, .inr (6, [.ref q1, .ref q2, .null, .null, .null, .int 0, .int 0])), (q1, .inr (5, [.int 0, .int 0, .int 0, .int 0])), (q2, .inr (3, [.ref q3, .int (-1), .int 0, .int 0])), (q3, .inl (ecy E 2, 3, .inr (.inr (.inr (.inr (va_up (va_up (va_up (fun _ => none) 0 (some q4)) 1 (some q5)) 2 (some q6))))))), (q4, .inr (4, [.int 0, .int 0, .int (-1), .int (-1), .int 0])), (q5, .inr (4, [.int 0, .int 0, .int (-1), .int (-1), .int 0])), (q6, .inr (4, [.int 0, .int 0, .int (-1), .int (-1), .int 0]))]) (w1 := [(q7, .inr (2, [.ref q8, .ref q9, .int 0])), (q8, .inl (ecy E 0, 3, .inl (fun _ => 0))), (q9, .inl (ecy E 3, 3, .inr (.inr (.inr (.inr (fun i => if i < 3 then some (if i = 0 then q10 else if i = 1 then q11 else q12) else none)))))), (q10, .inl (ecy E 0, 4, .inl (upd (upd (upd (fun _ => 0) 1 20) 2 5) 3 20))), (q11, .inl (ecy E 0, 4, .inl (upd (upd (upd (fun _ => 0) 1 60) 2 30) 3 60))), (q12, .inl (ecy E 0, 4, .inl (upd (upd (upd (fun _ => 0) 1 100) 2 70) 3 100)))]) h.1 h.2.1 [7] [0, 1, 2, 3, 4, 5, 6] rfl rfl (by decide) (by decide) hk hF hP1 hD1
  clear h
  have h : HV D [(h0, .inr (6, [.ref q1, .ref q2, .null, .null, .null, .int 0, .int 0])), (q1, .inr (5, [.int 0, .int 0, .int 0, .int 0])), (q2, .inr (3, [.ref q3, .int (-1), .int 0, .int 0])), (q3, .inl (ecy E 2, 3, .inr (.inr (.inr (.inr (va_up (va_up (va_up (fun _ => none) 0 (some q4)) 1 (some q5)) 2 (some q6))))))), (q4, .inr (4, [.int 0, .int 0, .int (-1), .int (-1), .int 0])), (q5, .inr (4, [.int 0, .int 0, .int (-1), .int (-1), .int 0])), (q6, .inr (4, [.int 0, .int 0, .int (-1), .int (-1), .int 0])), (q7, .inr (2, [.ref q8, .ref q9, .int 0])), (q8, .inl (ecy E 0, 3, .inl (fun _ => 0))), (q9, .inl (ecy E 3, 3, .inr (.inr (.inr (.inr (fun i => if i < 3 then some (if i = 0 then q10 else if i = 1 then q11 else q12) else none)))))), (q10, .inl (ecy E 0, 4, .inl (upd (upd (upd (fun _ => 0) 1 20) 2 5) 3 20))), (q11, .inl (ecy E 0, 4, .inl (upd (upd (upd (fun _ => 0) 1 60) 2 30) 3 60))), (q12, .inl (ecy E 0, 4, .inl (upd (upd (upd (fun _ => 0) 1 100) 2 70) 3 100)))] A s H1 locs1 := ⟨hP, hD, hS⟩
  clear hP hD hk hP1 hD1
  generalize H1 = H at h
  refine va_putF (D := D) (ci := 6) (v := .ref q7) (ty := .object "IcePad$Fluids") (C := RX6) (T := TX6) (N := 7) C.x C.b (C.tb.args args) inlX6 tyX6 tyX6_ok nmX6 C.ow C.k h.1 h.2.1 h.2.2 0 rfl rfl 2 (by decide) (C.w args (w := Cond.fieldLink RX6 26 "IcePad" "fluids" "LIcePad$Fluids;") m_fl_X6_26) (fun _ h9 => h9) rfl hin rfl (by decide +kernel) rfl rfl (Nat.le_of_ble_eq_true rfl) dX6_init_34 (fun H locs hP hD hS => ?_)
  have h : HV D [(h0, .inr (6, [.ref q1, .ref q2, .ref q7, .null, .null, .int 0, .int 0])), (q1, .inr (5, [.int 0, .int 0, .int 0, .int 0])), (q2, .inr (3, [.ref q3, .int (-1), .int 0, .int 0])), (q3, .inl (ecy E 2, 3, .inr (.inr (.inr (.inr (va_up (va_up (va_up (fun _ => none) 0 (some q4)) 1 (some q5)) 2 (some q6))))))), (q4, .inr (4, [.int 0, .int 0, .int (-1), .int (-1), .int 0])), (q5, .inr (4, [.int 0, .int 0, .int (-1), .int (-1), .int 0])), (q6, .inr (4, [.int 0, .int 0, .int (-1), .int (-1), .int 0])), (q7, .inr (2, [.ref q8, .ref q9, .int 0])), (q8, .inl (ecy E 0, 3, .inl (fun _ => 0))), (q9, .inl (ecy E 3, 3, .inr (.inr (.inr (.inr (fun i => if i < 3 then some (if i = 0 then q10 else if i = 1 then q11 else q12) else none)))))), (q10, .inl (ecy E 0, 4, .inl (upd (upd (upd (fun _ => 0) 1 20) 2 5) 3 20))), (q11, .inl (ecy E 0, 4, .inl (upd (upd (upd (fun _ => 0) 1 60) 2 30) 3 60))), (q12, .inl (ecy E 0, 4, .inl (upd (upd (upd (fun _ => 0) 1 100) 2 70) 3 100)))] A s H locs := ⟨hP, hD, hS⟩
  refine lv_aload_n C.x C.b dX6_init_37 rfl (lv_at hl 0 rfl) ?_
  refine va_new (ci := 1) (fs := [.int 0, .int 0, .int 0, .int 0, .int 0, .int 0]) (C := RX1) (T := TX1) (N := 6) C.x C.b (C.tb.args args) inlX1 tyX1 tyX1_ok C.ow (C.w args m_cl_X6_30) (C.w args m_ib_X1) (C.w args m_ini_X1) C.k h.1 h.2.1 h.2.2 C.a rfl (fun j hj => by rcases (show j = 0 ∨ j = 1 ∨ j = 2 ∨ j = 3 ∨ j = 4 ∨ j = 5 by omega) with rfl | rfl | rfl | rfl | rfl | rfl <;> rfl) (Nat.le_of_ble_eq_true rfl) (Nat.le_of_ble_eq_true rfl) dX6_init_38 (fun q13 H hP hD hS => ?_)
  have h : HV D [(h0, .inr (6, [.ref q1, .ref q2, .ref q7, .null, .null, .int 0, .int 0])), (q1, .inr (5, [.int 0, .int 0, .int 0, .int 0])), (q2, .inr (3, [.ref q3, .int (-1), .int 0, .int 0])), (q3, .inl (ecy E 2, 3, .inr (.inr (.inr (.inr (va_up (va_up (va_up (fun _ => none) 0 (some q4)) 1 (some q5)) 2 (some q6))))))), (q4, .inr (4, [.int 0, .int 0, .int (-1), .int (-1), .int 0])), (q5, .inr (4, [.int 0, .int 0, .int (-1), .int (-1), .int 0])), (q6, .inr (4, [.int 0, .int 0, .int (-1), .int (-1), .int 0])), (q7, .inr (2, [.ref q8, .ref q9, .int 0])), (q8, .inl (ecy E 0, 3, .inl (fun _ => 0))), (q9, .inl (ecy E 3, 3, .inr (.inr (.inr (.inr (fun i => if i < 3 then some (if i = 0 then q10 else if i = 1 then q11 else q12) else none)))))), (q10, .inl (ecy E 0, 4, .inl (upd (upd (upd (fun _ => 0) 1 20) 2 5) 3 20))), (q11, .inl (ecy E 0, 4, .inl (upd (upd (upd (fun _ => 0) 1 60) 2 30) 3 60))), (q12, .inl (ecy E 0, 4, .inl (upd (upd (upd (fun _ => 0) 1 100) 2 70) 3 100))), (q13, .inr (1, [.int 0, .int 0, .int 0, .int 0, .int 0, .int 0]))] A s H locs := ⟨hP, hD, hS⟩
  refine lv_dup C.x C.b dX6_init_41 rfl ?_
  refine caN (As := []) (rest := [.ref q13, .ref h0]) C O h [13] rfl rfl (by decide) (M_X1_init l D E q13) O.2.2.2.2.2 m_co_X1_init m_ini_X1 (by decide +kernel) (by decide +kernel) m_im_X1_init rfl rfl rfl ⟨Nat.le_of_ble_eq_true rfl, Nat.le_of_ble_eq_true rfl⟩ hl rfl (Nat.le_of_ble_eq_true rfl) dX6_init_42 ⟨Nat.le_of_ble_eq_true rfl, Nat.le_of_ble_eq_true rfl⟩ (fun H1 locs1 hB hk hF hS => ?_)
  obtain ⟨hP1, hD1⟩ := hB
  obtain ⟨hP, hD⟩ := va_join (wr := [(h0, .inr (6, [.ref q1, .ref q2, .ref q7, .null, .null, .int 0, .int 0])), (q1, .inr (5, [.int 0, .int 0, .int 0, .int 0])), (q2, .inr (3, [.ref q3, .int (-1), .int 0, .int 0])), (q3, .inl (ecy E 2, 3, .inr (.inr (.inr (.inr (va_up (va_up (va_up (fun _ => none) 0 (some q4)) 1 (some q5)) 2 (some q6))))))), (q4, .inr (4, [.int 0, .int 0, .int (-1), .int (-1), .int 0])), (q5, .inr (4, [.int 0, .int 0, .int (-1), .int (-1), .int 0])), (q6, .inr (4, [.int 0, .int 0, .int (-1), .int (-1), .int 0])), (q7, .inr (2, [.ref q8, .ref q9, .int 0])), (q8, .inl (ecy E 0, 3, .inl (fun _ => 0))), (q9, .inl (ecy E 3, 3, .inr (.inr (.inr (.inr (fun i => if i < 3 then some (if i = 0 then q10 else if i = 1 then q11 else q12) else none)))))), (q10, .inl (ecy E 0, 4, .inl (upd (upd (upd (fun _ => 0) 1 20) 2 5) 3 20))), (q11, .inl (ecy E 0, 4, .inl (upd (upd (upd (fun _ => 0) 1 60) 2 30) 3 60))), (q12, .inl (ecy E 0, 4, .inl (upd (upd (upd (fun _ => 0) 1 100) 2 70) 3 100)))]) (w1 := [(q13, .inr (1, [.int 0, .int 0, .int 0, .int 500, .int 0, .int 0]))]) h.1 h.2.1 [13] [0, 1, 2, 3, 4, 5, 6, 7, 8, 9, 10, 11, 12] rfl rfl (by decide) (by decide) hk hF hP1 hD1
  clear h
  have h : HV D [(h0, .inr (6, [.ref q1, .ref q2, .ref q7, .null, .null, .int 0, .int 0])), (q1, .inr (5, [.int 0, .int 0, .int 0, .int 0])), (q2, .inr (3, [.ref q3, .int (-1), .int 0, .int 0])), (q3, .inl (ecy E 2, 3, .inr (.inr (.inr (.inr (va_up (va_up (va_up (fun _ => none) 0 (some q4)) 1 (some q5)) 2 (some q6))))))), (q4, .inr (4, [.int 0, .int 0, .int (-1), .int (-1), .int 0])), (q5, .inr (4, [.int 0, .int 0, .int (-1), .int (-1), .int 0])), (q6, .inr (4, [.int 0, .int 0, .int (-1), .int (-1), .int 0])), (q7, .inr (2, [.ref q8, .ref q9, .int 0])), (q8, .inl (ecy E 0, 3, .inl (fun _ => 0))), (q9, .inl (ecy E 3, 3, .inr (.inr (.inr (.inr (fun i => if i < 3 then some (if i = 0 then q10 else if i = 1 then q11 else q12) else none)))))), (q10, .inl (ecy E 0, 4, .inl (upd (upd (upd (fun _ => 0) 1 20) 2 5) 3 20))), (q11, .inl (ecy E 0, 4, .inl (upd (upd (upd (fun _ => 0) 1 60) 2 30) 3 60))), (q12, .inl (ecy E 0, 4, .inl (upd (upd (upd (fun _ => 0) 1 100) 2 70) 3 100))), (q13, .inr (1, [.int 0, .int 0, .int 0, .int 500, .int 0, .int 0]))] A s H1 locs1 := ⟨hP, hD, hS⟩
  clear hP hD hk hP1 hD1
  generalize H1 = H at h
  refine va_putF (D := D) (ci := 6) (v := .ref q13) (ty := .object "IcePad$Basin") (C := RX6) (T := TX6) (N := 7) C.x C.b (C.tb.args args) inlX6 tyX6 tyX6_ok nmX6 C.ow C.k h.1 h.2.1 h.2.2 0 rfl rfl 3 (by decide) (C.w args (w := Cond.fieldLink RX6 33 "IcePad" "basin" "LIcePad$Basin;") m_fl_X6_33) (fun _ h9 => h9) rfl hin rfl (by decide +kernel) rfl rfl (Nat.le_of_ble_eq_true rfl) dX6_init_45 (fun H locs hP hD hS => ?_)
  have h : HV D [(h0, .inr (6, [.ref q1, .ref q2, .ref q7, .ref q13, .null, .int 0, .int 0])), (q1, .inr (5, [.int 0, .int 0, .int 0, .int 0])), (q2, .inr (3, [.ref q3, .int (-1), .int 0, .int 0])), (q3, .inl (ecy E 2, 3, .inr (.inr (.inr (.inr (va_up (va_up (va_up (fun _ => none) 0 (some q4)) 1 (some q5)) 2 (some q6))))))), (q4, .inr (4, [.int 0, .int 0, .int (-1), .int (-1), .int 0])), (q5, .inr (4, [.int 0, .int 0, .int (-1), .int (-1), .int 0])), (q6, .inr (4, [.int 0, .int 0, .int (-1), .int (-1), .int 0])), (q7, .inr (2, [.ref q8, .ref q9, .int 0])), (q8, .inl (ecy E 0, 3, .inl (fun _ => 0))), (q9, .inl (ecy E 3, 3, .inr (.inr (.inr (.inr (fun i => if i < 3 then some (if i = 0 then q10 else if i = 1 then q11 else q12) else none)))))), (q10, .inl (ecy E 0, 4, .inl (upd (upd (upd (fun _ => 0) 1 20) 2 5) 3 20))), (q11, .inl (ecy E 0, 4, .inl (upd (upd (upd (fun _ => 0) 1 60) 2 30) 3 60))), (q12, .inl (ecy E 0, 4, .inl (upd (upd (upd (fun _ => 0) 1 100) 2 70) 3 100))), (q13, .inr (1, [.int 0, .int 0, .int 0, .int 500, .int 0, .int 0]))] A s H locs := ⟨hP, hD, hS⟩
  refine lv_aload_n C.x C.b dX6_init_48 rfl (lv_at hl 0 rfl) ?_
  refine lv_bipush (v := 20) C.x C.b dX6_init_49 (by decide) ?_
  refine na_ref (N := 20) (t0 := 1) C O.1 rfl m_cl_X6_37 h (by decide) (by decide) (by decide) (Nat.le_of_ble_eq_true rfl) (Nat.le_of_ble_eq_true rfl) dX6_init_51 (fun q14 H h => ?_)
  have h : HV D [(h0, .inr (6, [.ref q1, .ref q2, .ref q7, .ref q13, .null, .int 0, .int 0])), (q1, .inr (5, [.int 0, .int 0, .int 0, .int 0])), (q2, .inr (3, [.ref q3, .int (-1), .int 0, .int 0])), (q3, .inl (ecy E 2, 3, .inr (.inr (.inr (.inr (va_up (va_up (va_up (fun _ => none) 0 (some q4)) 1 (some q5)) 2 (some q6))))))), (q4, .inr (4, [.int 0, .int 0, .int (-1), .int (-1), .int 0])), (q5, .inr (4, [.int 0, .int 0, .int (-1), .int (-1), .int 0])), (q6, .inr (4, [.int 0, .int 0, .int (-1), .int (-1), .int 0])), (q7, .inr (2, [.ref q8, .ref q9, .int 0])), (q8, .inl (ecy E 0, 3, .inl (fun _ => 0))), (q9, .inl (ecy E 3, 3, .inr (.inr (.inr (.inr (fun i => if i < 3 then some (if i = 0 then q10 else if i = 1 then q11 else q12) else none)))))), (q10, .inl (ecy E 0, 4, .inl (upd (upd (upd (fun _ => 0) 1 20) 2 5) 3 20))), (q11, .inl (ecy E 0, 4, .inl (upd (upd (upd (fun _ => 0) 1 60) 2 30) 3 60))), (q12, .inl (ecy E 0, 4, .inl (upd (upd (upd (fun _ => 0) 1 100) 2 70) 3 100))), (q13, .inr (1, [.int 0, .int 0, .int 0, .int 500, .int 0, .int 0])), (q14, .inl (ecy E 1, 20, .inr (.inr (.inr (.inr (fun _ => none))))))] A s H locs := h
  refine va_putF (D := D) (ci := 6) (v := .ref q14) (ty := .array (.object "IcePad$Aircraft")) (C := RX6) (T := TX6) (N := 7) C.x C.b (C.tb.args args) inlX6 tyX6 tyX6_ok nmX6 C.ow C.k h.1 h.2.1 h.2.2 0 rfl rfl 4 (by decide) (C.w args (w := Cond.fieldLink RX6 39 "IcePad" "fleet" "[LIcePad$Aircraft;") m_fl_X6_39) (fun _ h9 => h9) rfl hin rfl (by decide +kernel) rfl rfl (Nat.le_of_ble_eq_true rfl) dX6_init_54 (fun H locs hP hD hS => ?_)
  have h : HV D [(h0, .inr (6, [.ref q1, .ref q2, .ref q7, .ref q13, .ref q14, .int 0, .int 0])), (q1, .inr (5, [.int 0, .int 0, .int 0, .int 0])), (q2, .inr (3, [.ref q3, .int (-1), .int 0, .int 0])), (q3, .inl (ecy E 2, 3, .inr (.inr (.inr (.inr (va_up (va_up (va_up (fun _ => none) 0 (some q4)) 1 (some q5)) 2 (some q6))))))), (q4, .inr (4, [.int 0, .int 0, .int (-1), .int (-1), .int 0])), (q5, .inr (4, [.int 0, .int 0, .int (-1), .int (-1), .int 0])), (q6, .inr (4, [.int 0, .int 0, .int (-1), .int (-1), .int 0])), (q7, .inr (2, [.ref q8, .ref q9, .int 0])), (q8, .inl (ecy E 0, 3, .inl (fun _ => 0))), (q9, .inl (ecy E 3, 3, .inr (.inr (.inr (.inr (fun i => if i < 3 then some (if i = 0 then q10 else if i = 1 then q11 else q12) else none)))))), (q10, .inl (ecy E 0, 4, .inl (upd (upd (upd (fun _ => 0) 1 20) 2 5) 3 20))), (q11, .inl (ecy E 0, 4, .inl (upd (upd (upd (fun _ => 0) 1 60) 2 30) 3 60))), (q12, .inl (ecy E 0, 4, .inl (upd (upd (upd (fun _ => 0) 1 100) 2 70) 3 100))), (q13, .inr (1, [.int 0, .int 0, .int 0, .int 500, .int 0, .int 0])), (q14, .inl (ecy E 1, 20, .inr (.inr (.inr (.inr (fun _ => none))))))] A s H locs := ⟨hP, hD, hS⟩
  refine W.widen (k := 14) (n := 73) (Nat.le_of_ble_eq_true rfl) (Nat.le_of_ble_eq_true rfl) ?_
  exact rtC (B := fun A H => ∃ q1 q2 q3 q4 q5 q6 q7 q8 q9 q10 q11 q12 q13 q14 : Nat, va_P D vwCl [(h0, .inr (6, [.ref q1, .ref q2, .ref q7, .ref q13, .ref q14, .int 0, .int 0])), (q1, .inr (5, [.int 0, .int 0, .int 0, .int 0])), (q2, .inr (3, [.ref q3, .int (-1), .int 0, .int 0])), (q3, .inl (ecy E 2, 3, .inr (.inr (.inr (.inr (va_up (va_up (va_up (fun _ => none) 0 (some q4)) 1 (some q5)) 2 (some q6))))))), (q4, .inr (4, [.int 0, .int 0, .int (-1), .int (-1), .int 0])), (q5, .inr (4, [.int 0, .int 0, .int (-1), .int (-1), .int 0])), (q6, .inr (4, [.int 0, .int 0, .int (-1), .int (-1), .int 0])), (q7, .inr (2, [.ref q8, .ref q9, .int 0])), (q8, .inl (ecy E 0, 3, .inl (fun _ => 0))), (q9, .inl (ecy E 3, 3, .inr (.inr (.inr (.inr (fun i => if i < 3 then some (if i = 0 then q10 else if i = 1 then q11 else q12) else none)))))), (q10, .inl (ecy E 0, 4, .inl (upd (upd (upd (fun _ => 0) 1 20) 2 5) 3 20))), (q11, .inl (ecy E 0, 4, .inl (upd (upd (upd (fun _ => 0) 1 60) 2 30) 3 60))), (q12, .inl (ecy E 0, 4, .inl (upd (upd (upd (fun _ => 0) 1 100) 2 70) 3 100))), (q13, .inr (1, [.int 0, .int 0, .int 0, .int 500, .int 0, .int 0])), (q14, .inl (ecy E 1, 20, .inr (.inr (.inr (.inr (fun _ => none))))))] H ∧ va_D A [(h0, .inr (6, [.ref q1, .ref q2, .ref q7, .ref q13, .ref q14, .int 0, .int 0])), (q1, .inr (5, [.int 0, .int 0, .int 0, .int 0])), (q2, .inr (3, [.ref q3, .int (-1), .int 0, .int 0])), (q3, .inl (ecy E 2, 3, .inr (.inr (.inr (.inr (va_up (va_up (va_up (fun _ => none) 0 (some q4)) 1 (some q5)) 2 (some q6))))))), (q4, .inr (4, [.int 0, .int 0, .int (-1), .int (-1), .int 0])), (q5, .inr (4, [.int 0, .int 0, .int (-1), .int (-1), .int 0])), (q6, .inr (4, [.int 0, .int 0, .int (-1), .int (-1), .int 0])), (q7, .inr (2, [.ref q8, .ref q9, .int 0])), (q8, .inl (ecy E 0, 3, .inl (fun _ => 0))), (q9, .inl (ecy E 3, 3, .inr (.inr (.inr (.inr (fun i => if i < 3 then some (if i = 0 then q10 else if i = 1 then q11 else q12) else none)))))), (q10, .inl (ecy E 0, 4, .inl (upd (upd (upd (fun _ => 0) 1 20) 2 5) 3 20))), (q11, .inl (ecy E 0, 4, .inl (upd (upd (upd (fun _ => 0) 1 60) 2 30) 3 60))), (q12, .inl (ecy E 0, 4, .inl (upd (upd (upd (fun _ => 0) 1 100) 2 70) 3 100))), (q13, .inr (1, [.int 0, .int 0, .int 0, .int 500, .int 0, .int 0])), (q14, .inl (ecy E 1, 20, .inr (.inr (.inr (.inr (fun _ => none))))))]) C h.2.2 hr dX6_init_57 ⟨q1, q2, q3, q4, q5, q6, q7, q8, q9, q10, q11, q12, q13, q14, h.1, h.2.1⟩
