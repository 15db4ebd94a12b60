/-! the order of the queue, as the law looks at it (by program) -/
theorem cw_L_8 : CWd RL 8 yX6_aircraftOf cX6_aircraftOf 4 (some .int) 2 := ⟨m_ml_L_8, m_co_X6_aircraftOf, m_ini_X6, by decide +kernel, by decide +kernel⟩
theorem cw_L_14 : CWd RL 14 yX6_queue cX6_queue 3 (some .int) 1 := ⟨m_ml_L_14, m_co_X6_queue, m_ini_X6, by decide +kernel, by decide +kernel⟩
theorem cw_L_18 : CWd RL 18 yX6_whyNot cX6_whyNot 3 (some .int) 1 := ⟨m_ml_L_18, m_co_X6_whyNot, m_ini_X6, by decide +kernel, by decide +kernel⟩
theorem cw_L_21 : CWd RL 21 yX6_clock cX6_clock 2 (some .double) 1 := ⟨m_ml_L_21, m_co_X6_clock, m_ini_X6, by decide +kernel, by decide +kernel⟩
theorem treated {σ : St} {m n c k : Nat} (h : II σ m n c) (hk : k < n) (hs : σ 28 k = 1 ∨ σ 28 k = 2) : ¬ σ 30 k ≤ 0 := by
  obtain ⟨-, -, j, j1, j2, j3⟩ := h.k k hk
  have := j3 hs
  have := h.c60
  rw [j2]
  exact nI_nle (by omega) (by omega)
abbrev rm_L_isOrdered : Room := { frames := 8, cells := 1000, slots := 6000, locals := 150 }
section ORD
variable {p : Program} {l : Launch} {e : Env} {s : State} {m : MethodId} {args : Array Value} {below : List Frame} {meth : Method} {c : Code} {Q : State → Prop} {D : va_G} {E : En} {A : Nat → Prop} {σ : St} {mm n c0 : Nat}
set_option maxRecDepth 100000 in
set_option maxHeartbeats 4000000 in
theorem ord_4 (hfl : l.stackTraces = false) (C : CX p s m meth c cL_isOrdered RL 7 D E A) (ok : OK E σ) (h1 : σ 1 0 = nI n) (hn : n ≤ 6)
    (kE : ∀ (H : Heap) (locs : List Loc) (cells slots : Nat) (ls : Array Slot), HW D E σ A s H locs → cells ≤ 60 → slots ≤ 360 → lv_has ls 7 [(2, .int (nI (cnum σ n))), (1, .int (nI n)), (0, .ref (ead E 0))] → W p l e rm_L_isOrdered s m args below meth c H locs cells slots Q (F0 m 33 ls [])) :
    ∀ (d k : Nat), d + k = n → ∀ (H : Heap) (locs : List Loc) (cells slots : Nat) (ls : Array Slot), HW D E σ A s H locs → cells ≤ 10 * k → slots ≤ 60 * k → lv_has ls 7 [(3, .int (nI k)), (2, .int (nI (cnum σ k))), (1, .int (nI n)), (0, .ref (ead E 0))] → W p l e rm_L_isOrdered s m args below meth c H locs cells slots Q (F0 m 4 ls []) := by
  intro d
  induction d with
  | zero =>
    intro k hd H locs cells slots ls h hc hs hl
    obtain rfl : k = n := by omega
    refine lv_iload_n C.x C.b dL_isOrdered_4 rfl (lv_at hl 0 rfl) ?_
    refine lv_iload_n C.x C.b dL_isOrdered_5 rfl (lv_at hl 2 rfl) ?_
    refine lv_icmp_ge (tgt := 33) C.x C.b dL_isOrdered_6 (by decide) (fun _ => ?_) (fun q => absurd (Int32.le_refl _) q)
    exact kE H locs cells slots ls h (by omega) (by omega) (lv_sub hl [1, 2, 3] rfl)
  | succ d ih =>
    intro k hd H locs cells slots ls h hc hs hl
    have hk : k < n := by omega
    refine lv_iload_n C.x C.b dL_isOrdered_4 rfl (lv_at hl 0 rfl) ?_
    refine lv_iload_n C.x C.b dL_isOrdered_5 rfl (lv_at hl 2 rfl) ?_
    refine lv_icmp_ge (tgt := 33) C.x C.b dL_isOrdered_6 (by decide) (fun q => absurd q (nI_ge hk (by omega))) (fun _ => ?_)
    refine lv_iload_n C.x C.b dL_isOrdered_9 rfl (lv_at hl 1 rfl) ?_
    refine lv_aload_n C.x C.b dL_isOrdered_10 rfl (lv_at hl 3 rfl) ?_
    refine lv_iload_n C.x C.b dL_isOrdered_11 rfl (lv_at hl 0 rfl) ?_
    refine lv_iconst (v := 0) C.x C.b dL_isOrdered_12 (by decide) ?_
    refine lcI (As := [.int (nI k), .int 0]) (rest := [.int (nI (cnum σ k))]) C h (M_X6_aircraftOf l hfl D E _ ok (nI k) 0) (V_air0 h1 hn hk) cw_L_8 m_im_X6_aircraftOf m_se_X6_aircraftOf rfl rfl ⟨Nat.le_of_ble_eq_true rfl, Nat.le_of_ble_eq_true rfl⟩ hl rfl (Nat.le_of_ble_eq_true rfl) dL_isOrdered_13 ⟨by show cells + 10 ≤ 1000; omega, by show slots + 60 ≤ 6000; omega⟩ (fun H locs h => ?_)
    refine lv_iconst (v := 2) C.x C.b dL_isOrdered_16 (by decide) ?_
    refine lv_icmp_ne (tgt := 24) C.x C.b dL_isOrdered_17 (by decide) (fun c17 => ?_) (fun c17 => ?_)
    · skip
      refine lv_iconst (v := 0) C.x C.b dL_isOrdered_24 (by decide) ?_
      refine lv_iadd C.x C.b dL_isOrdered_25 ?_
      refine top_eq (y := nI (cnum σ (k + 1))) (cnum_0 c17) ?_
      refine lv_istore_n (lv' := [(2, .int (nI (cnum σ (k + 1)))), (3, .int (nI k)), (1, .int (nI n)), (0, .ref (ead E 0))]) C.x C.b dL_isOrdered_26 rfl hl (by decide) rfl (fun ls hl => ?_)
      refine lv_iinc (v := nI (k + 1)) (lv' := [(3, .int (nI (k + 1))), (2, .int (nI (cnum σ (k + 1)))), (1, .int (nI n)), (0, .ref (ead E 0))]) C.x C.b dL_isOrdered_27 hl (k := 1) rfl (nI_1 k) (by decide) rfl (fun ls hl => ?_)
      refine lv_goto (tgt := 4) C.x C.b dL_isOrdered_30 (by decide) ?_
      exact ih (k + 1) (by omega) _ _ _ _ _ h (by show cells + 10 ≤ 10 * (k + 1); omega) (by show slots + 60 ≤ 60 * (k + 1); omega) (lv_sub hl [0, 1, 2, 3] rfl)
    · skip
      refine lv_iconst (v := 1) C.x C.b dL_isOrdered_20 (by decide) ?_
      refine lv_goto (tgt := 25) C.x C.b dL_isOrdered_21 (by decide) ?_
      refine lv_iadd C.x C.b dL_isOrdered_25 ?_
      refine top_eq (y := nI (cnum σ (k + 1))) (cnum_1 c17) ?_
      refine lv_istore_n (lv' := [(2, .int (nI (cnum σ (k + 1)))), (3, .int (nI k)), (1, .int (nI n)), (0, .ref (ead E 0))]) C.x C.b dL_isOrdered_26 rfl hl (by decide) rfl (fun ls hl => ?_)
      refine lv_iinc (v := nI (k + 1)) (lv' := [(3, .int (nI (k + 1))), (2, .int (nI (cnum σ (k + 1)))), (1, .int (nI n)), (0, .ref (ead E 0))]) C.x C.b dL_isOrdered_27 hl (k := 1) rfl (nI_1 k) (by decide) rfl (fun ls hl => ?_)
      refine lv_goto (tgt := 4) C.x C.b dL_isOrdered_30 (by decide) ?_
      exact ih (k + 1) (by omega) _ _ _ _ _ h (by show cells + 10 ≤ 10 * (k + 1); omega) (by show slots + 60 ≤ 60 * (k + 1); omega) (lv_sub hl [0, 1, 2, 3] rfl)
set_option maxRecDepth 100000 in
set_option maxHeartbeats 4000000 in
theorem ord_51 (hfl : l.stackTraces = false) (C : CX p s m meth c cL_isOrdered RL 7 D E A) (hI : II σ mm n c0) (ok : OK E σ) (h1 : σ 1 0 = nI n) (hn : n ≤ 6)
    (kE : ∀ (H : Heap) (locs : List Loc) (cells slots : Nat) (ls : Array Slot), HW D E σ A s H locs → cells ≤ 1000 → slots ≤ 6000 → lv_has ls 7 [(3, .int 1)] → W p l e rm_L_isOrdered s m args below meth c H locs cells slots Q (F0 m 205 ls [])) :
    ∀ (d P : Nat), d + P = cnum σ n → ∀ (H : Heap) (locs : List Loc) (cells slots : Nat) (ls : Array Slot), HW D E σ A s H locs → cells ≤ 80 + 110 * P → slots ≤ 480 + 660 * P → lv_has ls 7 [(4, .int (nI P)), (3, .int 1), (2, .int (nI (cnum σ n))), (1, .int (nI n)), (0, .ref (ead E 0))] → W p l e rm_L_isOrdered s m args below meth c H locs cells slots Q (F0 m 51 ls []) := by
  have hcn := cnum_le σ n
  intro d
  induction d with
  | zero =>
    intro P hd H locs cells slots ls h hc hs hl
    refine lv_iload C.x C.b dL_isOrdered_51 (lv_at hl 0 rfl) ?_
    refine lv_iload_n C.x C.b dL_isOrdered_53 rfl (lv_at hl 2 rfl) ?_
    refine lv_icmp_ge (tgt := 205) C.x C.b dL_isOrdered_54 (by decide) (fun _ => ?_) (fun q => absurd (by rw [show P = cnum σ n by omega]; exact Int32.le_refl _) q)
    exact kE H locs cells slots ls h (by omega) (by omega) (lv_sub hl [1] rfl)
  | succ d ih =>
    intro P hd H locs cells slots ls h hc hs hl
    have hP : P < cnum σ n := by omega
    obtain ⟨q, hq, bq, eq, vq⟩ := V_queue_some h1 hn hP
    obtain ⟨w, vw, f1, f2⟩ := V_why h1 hn hq bq
    have K199 : ∀ (H : Heap) (locs : List Loc) (cells slots : Nat) (ls : Array Slot), HW D E σ A s H locs → cells ≤ 80 + 110 * (P + 1) → slots ≤ 480 + 660 * (P + 1) → lv_has ls 7 [(4, .int (nI P)), (3, .int 1), (2, .int (nI (cnum σ n))), (1, .int (nI n)), (0, .ref (ead E 0))] → W p l e rm_L_isOrdered s m args below meth c H locs cells slots Q (F0 m 199 ls []) := by
      intro H locs cells slots ls h hc hs hl
      refine lv_iinc (v := nI (P + 1)) (lv' := [(4, .int (nI (P + 1))), (3, .int 1), (2, .int (nI (cnum σ n))), (1, .int (nI n)), (0, .ref (ead E 0))]) C.x C.b dL_isOrdered_199 hl (k := 0) rfl (nI_1 P) (by decide) rfl (fun ls hl => ?_)
      refine lv_goto (tgt := 51) C.x C.b dL_isOrdered_202 (by decide) ?_
      exact ih (P + 1) (by omega) _ _ _ _ _ h hc hs (lv_sub hl [0, 1, 2, 3, 4] rfl)
    have K135 : ∀ (H : Heap) (locs : List Loc) (cells slots : Nat) (ls : Array Slot), HW D E σ A s H locs → cells ≤ 80 + 110 * P + 50 → slots ≤ 480 + 660 * P + 300 → lv_has ls 7 [(5, .int (nI q)), (4, .int (nI P)), (3, .int 1), (2, .int (nI (cnum σ n))), (1, .int (nI n)), (0, .ref (ead E 0))] → W p l e rm_L_isOrdered s m args below meth c H locs cells slots Q (F0 m 135 ls []) := by
      intro H locs cells slots ls h hc hs hl
      refine lv_iload C.x C.b dL_isOrdered_135 (lv_at hl 1 rfl) ?_
      refine lv_if_le (tgt := 199) C.x C.b dL_isOrdered_137 (by decide) (fun c137 => ?_) (fun c137 => ?_)
      · skip
        exact K199 _ _ _ _ _ h (by show cells ≤ _; omega) (by show slots ≤ _; omega) (lv_sub hl [1, 2, 3, 4, 5] rfl)
      · skip
        have hP1 : 1 ≤ P := Nat.le_of_not_lt (fun z => c137 (by rw [show P = 0 by omega]; exact Int32.le_refl _))
        obtain ⟨a, ha, ba, ea, va⟩ := V_queue_some h1 hn (P := P - 1) (by omega)
        refine lv_iload_n C.x C.b dL_isOrdered_140 rfl (lv_at hl 2 rfl) ?_
        refine lv_if_eq (tgt := 199) C.x C.b dL_isOrdered_141 (by decide) (fun q => absurd q (by decide)) (fun _ => ?_)
        refine lv_aload_n C.x C.b dL_isOrdered_144 rfl (lv_at hl 5 rfl) ?_
        refine lv_iload C.x C.b dL_isOrdered_145 (lv_at hl 1 rfl) ?_
        refine lv_iconst (v := 1) C.x C.b dL_isOrdered_147 (by decide) ?_
        refine lv_isub C.x C.b dL_isOrdered_148 ?_
        refine top_eq (y := nI (P - 1)) (pk_sub (a := P) (b := 1) hP1) ?_
        refine lcI (As := [.int (nI (P - 1))]) (rest := []) C h (M_X6_queue l hfl D E _ ok (nI (P - 1))) va cw_L_14 m_im_X6_queue m_se_X6_queue rfl rfl ⟨Nat.le_of_ble_eq_true rfl, Nat.le_of_ble_eq_true rfl⟩ hl rfl (Nat.le_of_ble_eq_true rfl) dL_isOrdered_149 ⟨by show cells + 10 ≤ 1000; omega, by show slots + 60 ≤ 6000; omega⟩ (fun H locs h => ?_)
        refine lv_istore (lv' := [(6, .int (nI a)), (5, .int (nI q)), (4, .int (nI P)), (3, .int 1), (2, .int (nI (cnum σ n))), (1, .int (nI n)), (0, .ref (ead E 0))]) C.x C.b dL_isOrdered_152 hl (by decide) rfl (fun ls hl => ?_)
        refine lv_aload_n C.x C.b dL_isOrdered_154 rfl (lv_at hl 6 rfl) ?_
        refine lv_iload C.x C.b dL_isOrdered_155 (lv_at hl 0 rfl) ?_
        refine lcD (As := [.int (nI a)]) (rest := []) C h (M_X6_clock l hfl D E _ ok (nI a)) (V_clock h1 hn ha (treated hI ha (Or.inr ba))) cw_L_21 m_im_X6_clock m_se_X6_clock rfl rfl ⟨Nat.le_of_ble_eq_true rfl, Nat.le_of_ble_eq_true rfl⟩ hl rfl (Nat.le_of_ble_eq_true rfl) dL_isOrdered_157 ⟨by show cells + 10 + 10 ≤ 1000; omega, by show slots + 60 + 60 ≤ 6000; omega⟩ (fun H locs h => ?_)
        refine lv_aload_n C.x C.b dL_isOrdered_160 rfl (lv_at hl 6 rfl) ?_
        refine lv_iload C.x C.b dL_isOrdered_161 (lv_at hl 1 rfl) ?_
        refine lcD (As := [.int (nI q)]) (rest := [.double (S_X6_clockLeft σ a)]) C h (M_X6_clock l hfl D E _ ok (nI q)) (V_clock h1 hn hq (treated hI hq (Or.inr bq))) cw_L_21 m_im_X6_clock m_se_X6_clock rfl rfl ⟨Nat.le_of_ble_eq_true rfl, Nat.le_of_ble_eq_true rfl⟩ hl rfl (Nat.le_of_ble_eq_true rfl) dL_isOrdered_163 ⟨by show cells + 10 + 10 + 10 ≤ 1000; omega, by show slots + 60 + 60 + 60 ≤ 6000; omega⟩ (fun H locs h => ?_)
        refine lv_dcmp C.x C.b dL_isOrdered_166 ?_
        refine lv_if_lt (tgt := 193) C.x C.b dL_isOrdered_167 (by decide) (fun c167 => ?_) (fun c167 => ?_)
        · skip
          refine lv_iconst (v := 1) C.x C.b dL_isOrdered_193 (by decide) ?_
          refine lv_goto (tgt := 198) C.x C.b dL_isOrdered_194 (by decide) ?_
          refine lv_istore_n (lv' := [(3, .int 1), (6, .int (nI a)), (5, .int (nI q)), (4, .int (nI P)), (2, .int (nI (cnum σ n))), (1, .int (nI n)), (0, .ref (ead E 0))]) C.x C.b dL_isOrdered_198 rfl hl (by decide) rfl (fun ls hl => ?_)
          exact K199 _ _ _ _ _ h (by show cells + 10 + 10 + 10 ≤ _; omega) (by show slots + 60 + 60 + 60 ≤ _; omega) (lv_sub hl [3, 0, 4, 5, 6] rfl)
        · skip
          obtain ⟨g1, g2⟩ := V_queue_ord ha hq ba bq ea (eq.trans (show P = P - 1 + 1 by omega)) hn c167
          refine lv_aload_n C.x C.b dL_isOrdered_170 rfl (lv_at hl 6 rfl) ?_
          refine lv_iload C.x C.b dL_isOrdered_171 (lv_at hl 0 rfl) ?_
          refine lcD (As := [.int (nI a)]) (rest := []) C h (M_X6_clock l hfl D E _ ok (nI a)) (V_clock h1 hn ha (treated hI ha (Or.inr ba))) cw_L_21 m_im_X6_clock m_se_X6_clock rfl rfl ⟨Nat.le_of_ble_eq_true rfl, Nat.le_of_ble_eq_true rfl⟩ hl rfl (Nat.le_of_ble_eq_true rfl) dL_isOrdered_173 ⟨by show cells + 10 + 10 + 10 + 10 ≤ 1000; omega, by show slots + 60 + 60 + 60 + 60 ≤ 6000; omega⟩ (fun H locs h => ?_)
          refine lv_aload_n C.x C.b dL_isOrdered_176 rfl (lv_at hl 6 rfl) ?_
          refine lv_iload C.x C.b dL_isOrdered_177 (lv_at hl 1 rfl) ?_
          refine lcD (As := [.int (nI q)]) (rest := [.double (S_X6_clockLeft σ a)]) C h (M_X6_clock l hfl D E _ ok (nI q)) (V_clock h1 hn hq (treated hI hq (Or.inr bq))) cw_L_21 m_im_X6_clock m_se_X6_clock rfl rfl ⟨Nat.le_of_ble_eq_true rfl, Nat.le_of_ble_eq_true rfl⟩ hl rfl (Nat.le_of_ble_eq_true rfl) dL_isOrdered_179 ⟨by show cells + 10 + 10 + 10 + 10 + 10 ≤ 1000; omega, by show slots + 60 + 60 + 60 + 60 + 60 ≤ 6000; omega⟩ (fun H locs h => ?_)
          refine lv_dcmp C.x C.b dL_isOrdered_182 ?_
          refine lv_if_ne (tgt := 197) C.x C.b dL_isOrdered_183 (by decide) (fun q => absurd g1 q) (fun _ => ?_)
          refine lv_iload C.x C.b dL_isOrdered_186 (lv_at hl 0 rfl) ?_
          refine lv_iload C.x C.b dL_isOrdered_188 (lv_at hl 1 rfl) ?_
          refine lv_icmp_ge (tgt := 197) C.x C.b dL_isOrdered_190 (by decide) (fun q => absurd q g2) (fun _ => ?_)
          refine lv_iconst (v := 1) C.x C.b dL_isOrdered_193 (by decide) ?_
          refine lv_goto (tgt := 198) C.x C.b dL_isOrdered_194 (by decide) ?_
          refine lv_istore_n (lv' := [(3, .int 1), (6, .int (nI a)), (5, .int (nI q)), (4, .int (nI P)), (2, .int (nI (cnum σ n))), (1, .int (nI n)), (0, .ref (ead E 0))]) C.x C.b dL_isOrdered_198 rfl hl (by decide) rfl (fun ls hl => ?_)
          exact K199 _ _ _ _ _ h (by show cells + 10 + 10 + 10 + 10 + 10 ≤ _; omega) (by show slots + 60 + 60 + 60 + 60 + 60 ≤ _; omega) (lv_sub hl [3, 0, 4, 5, 6] rfl)
    refine lv_iload C.x C.b dL_isOrdered_51 (lv_at hl 0 rfl) ?_
    refine lv_iload_n C.x C.b dL_isOrdered_53 rfl (lv_at hl 2 rfl) ?_
    refine lv_icmp_ge (tgt := 205) C.x C.b dL_isOrdered_54 (by decide) (fun q => absurd q (nI_ge hP (by omega))) (fun _ => ?_)
    refine lv_iload_n C.x C.b dL_isOrdered_57 rfl (lv_at hl 1 rfl) ?_
    refine lv_if_eq (tgt := 205) C.x C.b dL_isOrdered_58 (by decide) (fun q => absurd q (by decide)) (fun _ => ?_)
    refine lv_aload_n C.x C.b dL_isOrdered_61 rfl (lv_at hl 4 rfl) ?_
    refine lv_iload C.x C.b dL_isOrdered_62 (lv_at hl 0 rfl) ?_
    refine lcI (As := [.int (nI P)]) (rest := []) C h (M_X6_queue l hfl D E _ ok (nI P)) vq cw_L_14 m_im_X6_queue m_se_X6_queue rfl rfl ⟨Nat.le_of_ble_eq_true rfl, Nat.le_of_ble_eq_true rfl⟩ hl rfl (Nat.le_of_ble_eq_true rfl) dL_isOrdered_64 ⟨by show cells + 10 ≤ 1000; omega, by show slots + 60 ≤ 6000; omega⟩ (fun H locs h => ?_)
    refine lv_istore (lv' := [(5, .int (nI q)), (4, .int (nI P)), (3, .int 1), (2, .int (nI (cnum σ n))), (1, .int (nI n)), (0, .ref (ead E 0))]) C.x C.b dL_isOrdered_67 hl (by decide) rfl (fun ls hl => ?_)
    refine lv_iload C.x C.b dL_isOrdered_69 (lv_at hl 0 rfl) ?_
    refine lv_if_lt (tgt := 133) C.x C.b dL_isOrdered_71 (by decide) (fun q => absurd q (nI_pos (by omega))) (fun _ => ?_)
    refine lv_aload_n C.x C.b dL_isOrdered_74 rfl (lv_at hl 5 rfl) ?_
    refine lv_iload C.x C.b dL_isOrdered_75 (lv_at hl 0 rfl) ?_
    refine lv_iconst (v := 0) C.x C.b dL_isOrdered_77 (by decide) ?_
    refine lcI (As := [.int (nI q), .int 0]) (rest := []) C h (M_X6_aircraftOf l hfl D E _ ok (nI q) 0) (V_air0 h1 hn hq) cw_L_8 m_im_X6_aircraftOf m_se_X6_aircraftOf rfl rfl ⟨Nat.le_of_ble_eq_true rfl, Nat.le_of_ble_eq_true rfl⟩ hl rfl (Nat.le_of_ble_eq_true rfl) dL_isOrdered_78 ⟨by show cells + 10 + 10 ≤ 1000; omega, by show slots + 60 + 60 ≤ 6000; omega⟩ (fun H locs h => ?_)
    refine lv_iconst (v := 2) C.x C.b dL_isOrdered_81 (by decide) ?_
    refine lv_icmp_ne (tgt := 133) C.x C.b dL_isOrdered_82 (by decide) (fun q => absurd bq q) (fun _ => ?_)
    refine lv_aload_n C.x C.b dL_isOrdered_85 rfl (lv_at hl 5 rfl) ?_
    refine lv_iload C.x C.b dL_isOrdered_86 (lv_at hl 0 rfl) ?_
    refine lcI (As := [.int (nI q)]) (rest := []) C h (M_X6_whyNot l hfl D E _ ok (nI q)) vw cw_L_18 m_im_X6_whyNot m_se_X6_whyNot rfl rfl ⟨Nat.le_of_ble_eq_true rfl, Nat.le_of_ble_eq_true rfl⟩ hl rfl (Nat.le_of_ble_eq_true rfl) dL_isOrdered_88 ⟨by show cells + 10 + 10 + 10 ≤ 1000; omega, by show slots + 60 + 60 + 60 ≤ 6000; omega⟩ (fun H locs h => ?_)
    refine lv_iconst (v := 3) C.x C.b dL_isOrdered_91 (by decide) ?_
    refine lv_icmp_ne (tgt := 99) C.x C.b dL_isOrdered_92 (by decide) (fun c92 => ?_) (fun c92 => ?_)
    · skip
      refine lv_iconst (v := 0) C.x C.b dL_isOrdered_99 (by decide) ?_
      refine lv_aload_n C.x C.b dL_isOrdered_100 rfl (lv_at hl 5 rfl) ?_
      refine lv_iload C.x C.b dL_isOrdered_101 (lv_at hl 0 rfl) ?_
      refine lcD (As := [.int (nI q)]) (rest := [.int 0]) C h (M_X6_clock l hfl D E _ ok (nI q)) (V_clock h1 hn hq (treated hI hq (Or.inr bq))) cw_L_21 m_im_X6_clock m_se_X6_clock rfl rfl ⟨Nat.le_of_ble_eq_true rfl, Nat.le_of_ble_eq_true rfl⟩ hl rfl (Nat.le_of_ble_eq_true rfl) dL_isOrdered_103 ⟨by show cells + 10 + 10 + 10 + 10 ≤ 1000; omega, by show slots + 60 + 60 + 60 + 60 ≤ 6000; omega⟩ (fun H locs h => ?_)
      refine lv_dconst0 C.x C.b dL_isOrdered_106 ?_
      refine lv_dcmp C.x C.b dL_isOrdered_107 ?_
      refine lv_if_ge (tgt := 125) C.x C.b dL_isOrdered_108 (by decide) (fun c108 => ?_) (fun c108 => ?_)
      · skip
        refine lv_iconst (v := 0) C.x C.b dL_isOrdered_125 (by decide) ?_
        refine lv_icmp_ne (tgt := 133) C.x C.b dL_isOrdered_126 (by decide) (fun q => absurd q (by decide)) (fun _ => ?_)
        refine lv_iconst (v := 1) C.x C.b dL_isOrdered_129 (by decide) ?_
        refine lv_goto (tgt := 134) C.x C.b dL_isOrdered_130 (by decide) ?_
        refine lv_istore_n (lv' := [(3, .int 1), (5, .int (nI q)), (4, .int (nI P)), (2, .int (nI (cnum σ n))), (1, .int (nI n)), (0, .ref (ead E 0))]) C.x C.b dL_isOrdered_134 rfl hl (by decide) rfl (fun ls hl => ?_)
        exact K135 _ _ _ _ _ h (by show cells + 10 + 10 + 10 + 10 ≤ _; omega) (by show slots + 60 + 60 + 60 + 60 ≤ _; omega) (lv_sub hl [1, 2, 0, 3, 4, 5] rfl)
      · skip
        refine lv_aload_n C.x C.b dL_isOrdered_111 rfl (lv_at hl 5 rfl) ?_
        refine lv_iload C.x C.b dL_isOrdered_112 (lv_at hl 0 rfl) ?_
        refine lcI (As := [.int (nI q)]) (rest := [.int 0]) C h (M_X6_whyNot l hfl D E _ ok (nI q)) vw cw_L_18 m_im_X6_whyNot m_se_X6_whyNot rfl rfl ⟨Nat.le_of_ble_eq_true rfl, Nat.le_of_ble_eq_true rfl⟩ hl rfl (Nat.le_of_ble_eq_true rfl) dL_isOrdered_114 ⟨by show cells + 10 + 10 + 10 + 10 + 10 ≤ 1000; omega, by show slots + 60 + 60 + 60 + 60 + 60 ≤ 6000; omega⟩ (fun H locs h => ?_)
        refine lv_iconst (v := 2) C.x C.b dL_isOrdered_117 (by decide) ?_
        refine lv_icmp_eq (tgt := 125) C.x C.b dL_isOrdered_118 (by decide) (fun _ => ?_) (fun q => absurd (f2 c92 c108) q)
        refine lv_iconst (v := 0) C.x C.b dL_isOrdered_125 (by decide) ?_
        refine lv_icmp_ne (tgt := 133) C.x C.b dL_isOrdered_126 (by decide) (fun q => absurd q (by decide)) (fun _ => ?_)
        refine lv_iconst (v := 1) C.x C.b dL_isOrdered_129 (by decide) ?_
        refine lv_goto (tgt := 134) C.x C.b dL_isOrdered_130 (by decide) ?_
        refine lv_istore_n (lv' := [(3, .int 1), (5, .int (nI q)), (4, .int (nI P)), (2, .int (nI (cnum σ n))), (1, .int (nI n)), (0, .ref (ead E 0))]) C.x C.b dL_isOrdered_134 rfl hl (by decide) rfl (fun ls hl => ?_)
        exact K135 _ _ _ _ _ h (by show cells + 10 + 10 + 10 + 10 + 10 ≤ _; omega) (by show slots + 60 + 60 + 60 + 60 + 60 ≤ _; omega) (lv_sub hl [1, 2, 0, 3, 4, 5] rfl)
    · skip
      refine lv_iconst (v := 1) C.x C.b dL_isOrdered_95 (by decide) ?_
      refine lv_goto (tgt := 100) C.x C.b dL_isOrdered_96 (by decide) ?_
      refine lv_aload_n C.x C.b dL_isOrdered_100 rfl (lv_at hl 5 rfl) ?_
      refine lv_iload C.x C.b dL_isOrdered_101 (lv_at hl 0 rfl) ?_
      refine lcD (As := [.int (nI q)]) (rest := [.int 1]) C h (M_X6_clock l hfl D E _ ok (nI q)) (V_clock h1 hn hq (treated hI hq (Or.inr bq))) cw_L_21 m_im_X6_clock m_se_X6_clock rfl rfl ⟨Nat.le_of_ble_eq_true rfl, Nat.le_of_ble_eq_true rfl⟩ hl rfl (Nat.le_of_ble_eq_true rfl) dL_isOrdered_103 ⟨by show cells + 10 + 10 + 10 + 10 ≤ 1000; omega, by show slots + 60 + 60 + 60 + 60 ≤ 6000; omega⟩ (fun H locs h => ?_)
      refine lv_dconst0 C.x C.b dL_isOrdered_106 ?_
      refine lv_dcmp C.x C.b dL_isOrdered_107 ?_
      refine lv_if_ge (tgt := 125) C.x C.b dL_isOrdered_108 (by decide) (fun q => absurd q (f1 c92)) (fun _ => ?_)
      refine lv_aload_n C.x C.b dL_isOrdered_111 rfl (lv_at hl 5 rfl) ?_
      refine lv_iload C.x C.b dL_isOrdered_112 (lv_at hl 0 rfl) ?_
      refine lcI (As := [.int (nI q)]) (rest := [.int 1]) C h (M_X6_whyNot l hfl D E _ ok (nI q)) vw cw_L_18 m_im_X6_whyNot m_se_X6_whyNot rfl rfl ⟨Nat.le_of_ble_eq_true rfl, Nat.le_of_ble_eq_true rfl⟩ hl rfl (Nat.le_of_ble_eq_true rfl) dL_isOrdered_114 ⟨by show cells + 10 + 10 + 10 + 10 + 10 ≤ 1000; omega, by show slots + 60 + 60 + 60 + 60 + 60 ≤ 6000; omega⟩ (fun H locs h => ?_)
      refine lv_iconst (v := 2) C.x C.b dL_isOrdered_117 (by decide) ?_
      refine lv_icmp_eq (tgt := 125) C.x C.b dL_isOrdered_118 (by decide) (fun q => absurd q (fun z => absurd (c92.symm.trans z) (by decide))) (fun _ => ?_)
      refine lv_iconst (v := 1) C.x C.b dL_isOrdered_121 (by decide) ?_
      refine lv_goto (tgt := 126) C.x C.b dL_isOrdered_122 (by decide) ?_
      refine lv_icmp_ne (tgt := 133) C.x C.b dL_isOrdered_126 (by decide) (fun q => absurd q (by decide)) (fun _ => ?_)
      refine lv_iconst (v := 1) C.x C.b dL_isOrdered_129 (by decide) ?_
      refine lv_goto (tgt := 134) C.x C.b dL_isOrdered_130 (by decide) ?_
      refine lv_istore_n (lv' := [(3, .int 1), (5, .int (nI q)), (4, .int (nI P)), (2, .int (nI (cnum σ n))), (1, .int (nI n)), (0, .ref (ead E 0))]) C.x C.b dL_isOrdered_134 rfl hl (by decide) rfl (fun ls hl => ?_)
      exact K135 _ _ _ _ _ h (by show cells + 10 + 10 + 10 + 10 + 10 ≤ _; omega) (by show slots + 60 + 60 + 60 + 60 + 60 ≤ _; omega) (lv_sub hl [1, 2, 0, 3, 4, 5] rfl)
end ORD
set_option maxRecDepth 100000 in
set_option maxHeartbeats 4000000 in
theorem M_L_isOrdered (l : Launch) (hfl : l.stackTraces = false) (D : va_G) (E : En) (σ : St) {mm n c0 : Nat} (hI : II σ mm n c0) (hn9 : n = en E) : CO l yL_isOrdered cL_isOrdered 7 (some .boolean) rm_L_isOrdered [.ref (ead E 0), .int (nI n)] D E σ (fun A => va_Qi (fun r u => r = 1 ∧ σ = u) (POB D E A) A) 1000 6000 :=
  CO.of RL (by decide +kernel) rfl (Nat.le_of_ble_eq_true rfl) (fun p e s m below meth c A ls C h hr hl => by
    have ok : OK E σ := hI.ok hn9
    have h1 := hI.n0
    have hn := hI.n6
    have hcn := cnum_le σ n
    have hl : lv_has ls 7 [(0, .ref (ead E 0)), (1, .int (nI n))] := hl
    generalize hargs : ([Value.ref (ead E 0), .int (nI n)] : List Value).toArray = args
    have KE : ∀ (H : Heap) (locs : List Loc) (cells slots : Nat) (ls : Array Slot), HW D E σ A s H locs → cells ≤ 1000 → slots ≤ 6000 → lv_has ls 7 [(3, .int 1)] → W p l e rm_L_isOrdered s m args below meth c H locs cells slots (MQ below (va_Qi (fun r u => r = 1 ∧ σ = u) (POB D E A) A) args s 1000 6000 A) (F0 m 205 ls []) := by
      intro H locs cells slots ls h hc hs hl
      refine lv_iload_n C.x C.b dL_isOrdered_205 rfl (lv_at hl 0 rfl) ?_
      refine W.widen (k := 1000) (n := 6000) hc hs ?_
      exact rtI C h hr rfl dL_isOrdered_206 ⟨rfl, rfl⟩
    have K33 : ∀ (H : Heap) (locs : List Loc) (cells slots : Nat) (ls : Array Slot), HW D E σ A s H locs → cells ≤ 60 → slots ≤ 360 → lv_has ls 7 [(2, .int (nI (cnum σ n))), (1, .int (nI n)), (0, .ref (ead E 0))] → W p l e rm_L_isOrdered s m args below meth c H locs cells slots (MQ below (va_Qi (fun r u => r = 1 ∧ σ = u) (POB D E A) A) args s 1000 6000 A) (F0 m 33 ls []) := by
      intro H locs cells slots ls h hc hs hl
      refine lv_aload_n C.x C.b dL_isOrdered_33 rfl (lv_at hl 2 rfl) ?_
      refine lv_iload_n C.x C.b dL_isOrdered_34 rfl (lv_at hl 0 rfl) ?_
      refine lcI (As := [.int (nI (cnum σ n))]) (rest := []) C h (M_X6_queue l hfl D E _ ok (nI (cnum σ n))) (V_queue_none h1 hn) cw_L_14 m_im_X6_queue m_se_X6_queue rfl rfl ⟨Nat.le_of_ble_eq_true rfl, Nat.le_of_ble_eq_true rfl⟩ hl rfl (Nat.le_of_ble_eq_true rfl) dL_isOrdered_35 ⟨by show cells + 10 ≤ 1000; omega, by show slots + 60 ≤ 6000; omega⟩ (fun H locs h => ?_)
      refine lv_iconst (v := (-1)) C.x C.b dL_isOrdered_38 (by decide) ?_
      refine lv_icmp_ne (tgt := 46) C.x C.b dL_isOrdered_39 (by decide) (fun q => absurd q (by decide)) (fun _ => ?_)
      refine lv_iconst (v := 1) C.x C.b dL_isOrdered_42 (by decide) ?_
      refine lv_goto (tgt := 47) C.x C.b dL_isOrdered_43 (by decide) ?_
      refine lv_istore_n (lv' := [(3, .int 1), (2, .int (nI (cnum σ n))), (1, .int (nI n)), (0, .ref (ead E 0))]) C.x C.b dL_isOrdered_47 rfl hl (by decide) rfl (fun ls hl => ?_)
      refine lv_iconst (v := 0) C.x C.b dL_isOrdered_48 (by decide) ?_
      refine lv_istore (lv' := [(4, .int 0), (3, .int 1), (2, .int (nI (cnum σ n))), (1, .int (nI n)), (0, .ref (ead E 0))]) C.x C.b dL_isOrdered_49 hl (by decide) rfl (fun ls hl => ?_)
      exact ord_51 hfl C hI ok h1 hn KE (cnum σ n) 0 rfl _ _ _ _ _ h (by show cells + 10 ≤ _; omega) (by show slots + 60 ≤ _; omega) (lv_sub hl [0, 1, 2, 3, 4] rfl)
    refine lv_iconst (v := 0) C.x C.b dL_isOrdered_0 (by decide) ?_
    refine lv_istore_n (lv' := [(2, .int 0), (0, .ref (ead E 0)), (1, .int (nI n))]) C.x C.b dL_isOrdered_1 rfl hl (by decide) rfl (fun ls hl => ?_)
    refine lv_iconst (v := 0) C.x C.b dL_isOrdered_2 (by decide) ?_
    refine lv_istore_n (lv' := [(3, .int 0), (2, .int 0), (0, .ref (ead E 0)), (1, .int (nI n))]) C.x C.b dL_isOrdered_3 rfl hl (by decide) rfl (fun ls hl => ?_)
    exact ord_4 hfl C ok h1 hn K33 n 0 rfl _ _ _ _ _ h (Nat.zero_le _) (Nat.zero_le _) (lv_sub hl [0, 1, 3, 2] rfl))
