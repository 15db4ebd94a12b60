/-! the end of a step, the step, the law's loop (by program) -/
set_option maxRecDepth 100000 in
set_option maxHeartbeats 4000000 in
theorem tail_1157 {p : Program} {l : Launch} (hfl : l.stackTraces = false) {e : Env} {s : State} {m : MethodId} {args : Array Value} {below : List Frame} {meth : Method} {c : Code} {Q : State → Prop} {D : va_G} {E : En} {A : Nat → Prop} {b n : Nat} {v0 : Int32} {M : Nat} {c0 : Nat} {σ : St} {mm : Nat} {x6 x10 x11 : Int32} (hI : II σ mm n (c0 + 1)) (hc0 : c0 < 59) (hn : n = en E) (C : CX p s m meth c cL_law RL 25 D E A)
    (kE : ∀ (H : Heap) (locs : List Loc) (cells slots : Nat) (ls : Array Slot), HW D E σ A s H locs → cells ≤ 900 + 2000 * c0 → slots ≤ 5600 + 12000 * c0 → lv_has ls 25 [(12, .int (nI (c0 + 1))), (11, .int x11), (10, .int x10), (9, .int (nI mm)), (8, .int (nI M)), (7, .int 1), (6, .int x6), (5, .ref (ead E 16)), (4, .ref (ead E 15)), (3, .int (nI n)), (2, .int v0), (1, .ref (ead E 0)), (0, .ref b)] → W p l e room_1 s m args below meth c H locs cells slots Q (F0 m 1228 ls [])) :
    ∀ (d k : Nat), d + k = 3 → ∀ (H : Heap) (locs : List Loc) (cells slots : Nat) (ls : Array Slot), HW D E σ A s H locs → cells ≤ 700 + 2000 * c0 + 60 * k → slots ≤ 4400 + 12000 * c0 + 360 * k → lv_has ls 25 [(19, .int (nI k)), (12, .int (nI (c0 + 1))), (11, .int x11), (10, .int x10), (9, .int (nI mm)), (8, .int (nI M)), (7, .int 1), (6, .int x6), (5, .ref (ead E 16)), (4, .ref (ead E 15)), (3, .int (nI n)), (2, .int v0), (1, .ref (ead E 0)), (0, .ref b)] → W p l e room_1 s m args below meth c H locs cells slots Q (F0 m 1157 ls []) := by
  have ok : OK E σ := hI.ok hn
  intro d
  induction d with
  | zero =>
    intro k hd H locs cells slots ls h hc hs hl
    obtain rfl : k = 3 := by omega
    refine lv_iload C.x C.b dL_law_1157 (lv_at hl 0 rfl) ?_
    refine lv_iconst (v := 3) C.x C.b dL_law_1159 (by decide) ?_
    refine lv_icmp_ge (tgt := 1228) C.x C.b dL_law_1160 (by decide) (fun _ => ?_) (fun q => absurd (Int32.le_refl _) q)
    exact kE H locs cells slots ls h (by omega) (by omega) (lv_sub hl [1, 2, 3, 4, 5, 6, 7, 8, 9, 10, 11, 12, 13] rfl)
  | succ d ih =>
    intro k hd H locs cells slots ls h hc hs hl
    have hk : k < 3 := by omega
    obtain ⟨g1, Dp, g2, g3, g4⟩ := hI.tt k hk
    have K1215 : ∀ (H : Heap) (locs : List Loc) (cells slots : Nat) (ls : Array Slot), HW D E σ A s H locs → cells ≤ 700 + 2000 * c0 + 60 * (k + 1) → slots ≤ 4400 + 12000 * c0 + 360 * (k + 1) → lv_has ls 25 [(19, .int (nI k)), (12, .int (nI (c0 + 1))), (11, .int x11), (10, .int x10), (9, .int (nI mm)), (8, .int (nI M)), (7, .int 1), (6, .int x6), (5, .ref (ead E 16)), (4, .ref (ead E 15)), (3, .int (nI n)), (2, .int v0), (1, .ref (ead E 0)), (0, .ref b)] → W p l e room_1 s m args below meth c H locs cells slots Q (F0 m 1215 ls []) := by
      intro H locs cells slots ls h hc hs hl
      refine lv_iconst (v := 1) C.x C.b dL_law_1215 (by decide) ?_
      refine lv_goto (tgt := 1220) C.x C.b dL_law_1216 (by decide) ?_
      refine lv_istore (lv' := [(7, .int 1), (19, .int (nI k)), (12, .int (nI (c0 + 1))), (11, .int x11), (10, .int x10), (9, .int (nI mm)), (8, .int (nI M)), (6, .int x6), (5, .ref (ead E 16)), (4, .ref (ead E 15)), (3, .int (nI n)), (2, .int v0), (1, .ref (ead E 0)), (0, .ref b)]) C.x C.b dL_law_1220 hl (by decide) rfl (fun ls hl => ?_)
      refine lv_iinc (v := nI (k + 1)) (lv' := [(19, .int (nI (k + 1))), (7, .int 1), (12, .int (nI (c0 + 1))), (11, .int x11), (10, .int x10), (9, .int (nI mm)), (8, .int (nI M)), (6, .int x6), (5, .ref (ead E 16)), (4, .ref (ead E 15)), (3, .int (nI n)), (2, .int v0), (1, .ref (ead E 0)), (0, .ref b)]) C.x C.b dL_law_1222 hl (k := 1) rfl (nI_1 k) (by decide) rfl (fun ls hl => ?_)
      refine lv_goto (tgt := 1157) C.x C.b dL_law_1225 (by decide) ?_
      exact ih (k + 1) (by omega) _ _ _ _ _ h hc hs (lv_sub hl [0, 2, 3, 4, 5, 6, 1, 7, 8, 9, 10, 11, 12, 13] rfl)
    refine lv_iload C.x C.b dL_law_1157 (lv_at hl 0 rfl) ?_
    refine lv_iconst (v := 3) C.x C.b dL_law_1159 (by decide) ?_
    refine lv_icmp_ge (tgt := 1228) C.x C.b dL_law_1160 (by decide) (fun q => absurd q (nI_ge (b := 3) hk (by decide))) (fun _ => ?_)
    refine lv_iload C.x C.b dL_law_1163 (lv_at hl 6 rfl) ?_
    refine lv_if_eq (tgt := 1228) C.x C.b dL_law_1165 (by decide) (fun q => absurd q (by decide)) (fun _ => ?_)
    refine lv_aload_n C.x C.b dL_law_1168 rfl (lv_at hl 12 rfl) ?_
    refine lv_iload C.x C.b dL_law_1169 (lv_at hl 0 rfl) ?_
    refine lcI (As := [.int (nI k)]) (rest := []) C h (M_X6_code l hfl D E _ ok (nI k)) (V_code hk) cw_L_78 m_im_X6_code m_se_X6_code rfl rfl ⟨Nat.le_of_ble_eq_true rfl, Nat.le_of_ble_eq_true rfl⟩ hl rfl (Nat.le_of_ble_eq_true rfl) dL_law_1171 ⟨by show cells + 10 ≤ 600086; omega, by show slots + 60 ≤ 7301441; omega⟩ (fun H locs h => ?_)
    refine lv_aload_n C.x C.b dL_law_1174 rfl (lv_at hl 12 rfl) ?_
    refine lv_iload C.x C.b dL_law_1175 (lv_at hl 0 rfl) ?_
    refine lv_iconst (v := 3) C.x C.b dL_law_1177 (by decide) ?_
    refine lcI (As := [.int (nI k), .int 3]) (rest := [.int (S_X4_codeAt σ k (σ 0 0))]) C h (M_X6_thirdOf l hfl D E _ ok (nI k) 3) (V_third3 hk) cw_L_52 m_im_X6_thirdOf m_se_X6_thirdOf rfl rfl ⟨Nat.le_of_ble_eq_true rfl, Nat.le_of_ble_eq_true rfl⟩ hl rfl (Nat.le_of_ble_eq_true rfl) dL_law_1178 ⟨by show cells + 10 + 10 ≤ 600086; omega, by show slots + 60 + 60 ≤ 7301441; omega⟩ (fun H locs h => ?_)
    refine lv_icmp_gt (tgt := 1219) C.x C.b dL_law_1181 (by decide) (fun q => absurd q (Int32.not_lt.mpr (code_le σ k _))) (fun _ => ?_)
    refine lv_aload_n C.x C.b dL_law_1184 rfl (lv_at hl 12 rfl) ?_
    refine lv_iload C.x C.b dL_law_1185 (lv_at hl 0 rfl) ?_
    refine lv_iconst (v := 1) C.x C.b dL_law_1187 (by decide) ?_
    refine lcI (As := [.int (nI k), .int 1]) (rest := []) C h (M_X6_thirdOf l hfl D E _ ok (nI k) 1) (V_third1 hk) cw_L_52 m_im_X6_thirdOf m_se_X6_thirdOf rfl rfl ⟨Nat.le_of_ble_eq_true rfl, Nat.le_of_ble_eq_true rfl⟩ hl rfl (Nat.le_of_ble_eq_true rfl) dL_law_1188 ⟨by show cells + 10 + 10 + 10 ≤ 600086; omega, by show slots + 60 + 60 + 60 ≤ 7301441; omega⟩ (fun H locs h => ?_)
    refine lv_if_lt (tgt := 1219) C.x C.b dL_law_1191 (by decide) (fun q => absurd q (by rw [g3]; exact nI_pos (by omega))) (fun _ => ?_)
    refine lv_aload_n C.x C.b dL_law_1194 rfl (lv_at hl 12 rfl) ?_
    refine lv_iload C.x C.b dL_law_1195 (lv_at hl 0 rfl) ?_
    refine lv_iconst (v := 0) C.x C.b dL_law_1197 (by decide) ?_
    refine lcI (As := [.int (nI k), .int 0]) (rest := []) C h (M_X6_thirdOf l hfl D E _ ok (nI k) 0) (V_third0 hk) cw_L_52 m_im_X6_thirdOf m_se_X6_thirdOf rfl rfl ⟨Nat.le_of_ble_eq_true rfl, Nat.le_of_ble_eq_true rfl⟩ hl rfl (Nat.le_of_ble_eq_true rfl) dL_law_1198 ⟨by show cells + 10 + 10 + 10 + 10 ≤ 600086; omega, by show slots + 60 + 60 + 60 + 60 ≤ 7301441; omega⟩ (fun H locs h => ?_)
    refine lv_iconst (v := 1) C.x C.b dL_law_1201 (by decide) ?_
    refine lv_icmp_gt (tgt := 1215) C.x C.b dL_law_1202 (by decide) (fun c1202 => ?_) (fun c1202 => ?_)
    · skip
      exact K1215 _ _ _ _ _ h (by show cells + 10 + 10 + 10 + 10 ≤ _; omega) (by show slots + 60 + 60 + 60 + 60 ≤ _; omega) (lv_sub hl [0, 1, 2, 3, 4, 5, 6, 7, 8, 9, 10, 11, 12, 13] rfl)
    · skip
      refine lv_aload_n C.x C.b dL_law_1205 rfl (lv_at hl 12 rfl) ?_
      refine lv_iload C.x C.b dL_law_1206 (lv_at hl 0 rfl) ?_
      refine lv_iconst (v := 1) C.x C.b dL_law_1208 (by decide) ?_
      refine lcI (As := [.int (nI k), .int 1]) (rest := []) C h (M_X6_thirdOf l hfl D E _ ok (nI k) 1) (V_third1 hk) cw_L_52 m_im_X6_thirdOf m_se_X6_thirdOf rfl rfl ⟨Nat.le_of_ble_eq_true rfl, Nat.le_of_ble_eq_true rfl⟩ hl rfl (Nat.le_of_ble_eq_true rfl) dL_law_1209 ⟨by show cells + 10 + 10 + 10 + 10 + 10 ≤ 600086; omega, by show slots + 60 + 60 + 60 + 60 + 60 ≤ 7301441; omega⟩ (fun H locs h => ?_)
      refine lv_if_ne (tgt := 1219) C.x C.b dL_law_1212 (by decide) (fun q => absurd (by rw [g3, g4 (by rcases g1 with q | q | q | q; exact Or.inl q; exact Or.inr q; exact absurd (by rw [q]; decide) c1202; exact absurd (by rw [q]; decide) c1202)]; rfl) q) (fun _ => ?_)
      exact K1215 _ _ _ _ _ h (by show cells + 10 + 10 + 10 + 10 + 10 ≤ _; omega) (by show slots + 60 + 60 + 60 + 60 + 60 ≤ _; omega) (lv_sub hl [0, 1, 2, 3, 4, 5, 6, 7, 8, 9, 10, 11, 12, 13] rfl)
set_option maxRecDepth 100000 in
set_option maxHeartbeats 4000000 in
theorem law_tail {p : Program} {l : Launch} (hfl : l.stackTraces = false) {e : Env} {s : State} {m : MethodId} {args : Array Value} {below : List Frame} {meth : Method} {c : Code} {Q : State → Prop} {D : va_G} {E : En} {A : Nat → Prop} {b n : Nat} {v0 : Int32} {M : Nat} {c0 : Nat} {x11 : Int32} (hc0 : c0 < 59) (hn : n = en E) (C : CX p s m meth c cL_law RL 25 D E A)
    (kN : ∀ (σ : St) (mm : Nat) (x6 x10 y11 : Int32) (H : Heap) (locs : List Loc) (cells slots : Nat) (ls : Array Slot), HW D E σ A s H locs → II σ mm n (c0 + 1) → x6 = σ 18 0 → x10 = σ 24 0 → y11 ≤ σ 20 0 → cells ≤ 300 + 2000 * (c0 + 1) → slots ≤ 2000 + 12000 * (c0 + 1) → lv_has ls 25 (LVL E b n v0 M (c0 + 1 + 1) x6 mm x10 y11) → W p l e room_1 s m args below meth c H locs cells slots Q (F0 m 180 ls [])) : BK p l e s m args below meth c Q D E A b n v0 M x11 c0 := by
  intro σ mm x6 x10 H locs cells slots ls h hI e6 e10 e11 hc hs hl
  have ok : OK E σ := hI.ok hn
  have hl : lv_has ls 25 [(12, .int (nI (c0 + 1))), (11, .int x11), (10, .int x10), (9, .int (nI mm)), (8, .int (nI M)), (7, .int 1), (6, .int x6), (5, .ref (ead E 16)), (4, .ref (ead E 15)), (3, .int (nI n)), (2, .int v0), (1, .ref (ead E 0)), (0, .ref b)] := hl
  have K1228 : ∀ (H : Heap) (locs : List Loc) (cells slots : Nat) (ls : Array Slot), HW D E σ A s H locs → cells ≤ 900 + 2000 * c0 → slots ≤ 5600 + 12000 * c0 → lv_has ls 25 [(12, .int (nI (c0 + 1))), (11, .int (σ 20 0)), (10, .int x10), (9, .int (nI mm)), (8, .int (nI M)), (7, .int 1), (6, .int x6), (5, .ref (ead E 16)), (4, .ref (ead E 15)), (3, .int (nI n)), (2, .int v0), (1, .ref (ead E 0)), (0, .ref b)] → W p l e room_1 s m args below meth c H locs cells slots Q (F0 m 1228 ls []) := by
    intro H locs cells slots ls h hc hs hl
    refine lv_iload C.x C.b dL_law_1228 (lv_at hl 5 rfl) ?_
    refine lv_if_eq (tgt := 1245) C.x C.b dL_law_1230 (by decide) (fun q => absurd q (by decide)) (fun _ => ?_)
    refine lv_aload_n C.x C.b dL_law_1233 rfl (lv_at hl 11 rfl) ?_
    refine lv_iload_n C.x C.b dL_law_1234 rfl (lv_at hl 9 rfl) ?_
    refine caSi (As := [.ref (ead E 0), .int (nI n)]) (rest := []) C h (M_L_isOrdered l hfl D E _ hI hn) cw_L_81 m_st_L_isOrdered rfl rfl ⟨Nat.le_of_ble_eq_true rfl, Nat.le_of_ble_eq_true rfl⟩ hl rfl (Nat.le_of_ble_eq_true rfl) dL_law_1235 ⟨by show cells + 1000 ≤ 600086; omega, by show slots + 6000 ≤ 7301441; omega⟩ (fun r u H locs hp h => ?_)
    obtain ⟨rfl, rfl⟩ := hp
    refine lv_if_eq (tgt := 1245) C.x C.b dL_law_1238 (by decide) (fun q => absurd q (by decide)) (fun _ => ?_)
    refine lv_iconst (v := 1) C.x C.b dL_law_1241 (by decide) ?_
    refine lv_goto (tgt := 1246) C.x C.b dL_law_1242 (by decide) ?_
    refine lv_istore (lv' := [(7, .int 1), (12, .int (nI (c0 + 1))), (11, .int (σ 20 0)), (10, .int x10), (9, .int (nI mm)), (8, .int (nI M)), (6, .int x6), (5, .ref (ead E 16)), (4, .ref (ead E 15)), (3, .int (nI n)), (2, .int v0), (1, .ref (ead E 0)), (0, .ref b)]) C.x C.b dL_law_1246 hl (by decide) rfl (fun ls hl => ?_)
    refine lv_iinc (v := nI (c0 + 1 + 1)) (lv' := [(12, .int (nI (c0 + 1 + 1))), (7, .int 1), (11, .int (σ 20 0)), (10, .int x10), (9, .int (nI mm)), (8, .int (nI M)), (6, .int x6), (5, .ref (ead E 16)), (4, .ref (ead E 15)), (3, .int (nI n)), (2, .int v0), (1, .ref (ead E 0)), (0, .ref b)]) C.x C.b dL_law_1248 hl (k := 1) rfl (nI_1 (c0 + 1)) (by decide) rfl (fun ls hl => ?_)
    refine lv_goto (tgt := 180) C.x C.b dL_law_1251 (by decide) ?_
    exact kN σ mm x6 x10 (σ 20 0) _ _ _ _ _ h hI e6 e10 (Int32.le_refl _) (by show cells + 1000 ≤ _; omega) (by show slots + 6000 ≤ _; omega) (lv_sub hl [0, 2, 3, 4, 5, 1, 6, 7, 8, 9, 10, 11, 12] rfl)
  refine lv_iconst (v := 0) C.x C.b dL_law_1056 (by decide) ?_
  refine lv_istore (lv' := [(18, .int 0), (12, .int (nI (c0 + 1))), (11, .int x11), (10, .int x10), (9, .int (nI mm)), (8, .int (nI M)), (7, .int 1), (6, .int x6), (5, .ref (ead E 16)), (4, .ref (ead E 15)), (3, .int (nI n)), (2, .int v0), (1, .ref (ead E 0)), (0, .ref b)]) C.x C.b dL_law_1057 hl (by decide) rfl (fun ls hl => ?_)
  refine lv_iconst (v := 1) C.x C.b dL_law_1059 (by decide) ?_
  refine lv_istore (lv' := [(19, .int 1), (18, .int 0), (12, .int (nI (c0 + 1))), (11, .int x11), (10, .int x10), (9, .int (nI mm)), (8, .int (nI M)), (7, .int 1), (6, .int x6), (5, .ref (ead E 16)), (4, .ref (ead E 15)), (3, .int (nI n)), (2, .int v0), (1, .ref (ead E 0)), (0, .ref b)]) C.x C.b dL_law_1060 hl (by decide) rfl (fun ls hl => ?_)
  refine lv_iload C.x C.b dL_law_1062 (lv_at hl 0 rfl) ?_
  refine lv_bipush (v := 6) C.x C.b dL_law_1064 (by decide) ?_
  refine lv_icmp_ge (tgt := 1086) C.x C.b dL_law_1066 (by decide) (fun q => absurd q (by decide)) (fun _ => ?_)
  refine lv_iload C.x C.b dL_law_1069 (lv_at hl 1 rfl) ?_
  refine lv_aload_n C.x C.b dL_law_1071 rfl (lv_at hl 13 rfl) ?_
  refine lv_iload C.x C.b dL_law_1072 (lv_at hl 0 rfl) ?_
  refine lcI (As := [.int 1]) (rest := [.int 0]) C h (M_X6_sum l hfl D E _ ok 1) V_sum1 cw_L_65 m_im_X6_sum m_se_X6_sum rfl rfl ⟨Nat.le_of_ble_eq_true rfl, Nat.le_of_ble_eq_true rfl⟩ hl rfl (Nat.le_of_ble_eq_true rfl) dL_law_1074 ⟨by show cells + 10 ≤ 600086; omega, by show slots + 60 ≤ 7301441; omega⟩ (fun H locs h => ?_)
  refine lv_iadd C.x C.b dL_law_1077 ?_
  refine lv_istore (lv' := [(18, .int (0 + (S_X2_inTanks σ))), (19, .int 1), (12, .int (nI (c0 + 1))), (11, .int x11), (10, .int x10), (9, .int (nI mm)), (8, .int (nI M)), (7, .int 1), (6, .int x6), (5, .ref (ead E 16)), (4, .ref (ead E 15)), (3, .int (nI n)), (2, .int v0), (1, .ref (ead E 0)), (0, .ref b)]) C.x C.b dL_law_1078 hl (by decide) rfl (fun ls hl => ?_)
  refine lv_iinc (v := 2) (lv' := [(19, .int 2), (18, .int (0 + (S_X2_inTanks σ))), (12, .int (nI (c0 + 1))), (11, .int x11), (10, .int x10), (9, .int (nI mm)), (8, .int (nI M)), (7, .int 1), (6, .int x6), (5, .ref (ead E 16)), (4, .ref (ead E 15)), (3, .int (nI n)), (2, .int v0), (1, .ref (ead E 0)), (0, .ref b)]) C.x C.b dL_law_1080 hl (k := 1) rfl (by decide) (by decide) rfl (fun ls hl => ?_)
  refine lv_goto (tgt := 1062) C.x C.b dL_law_1083 (by decide) ?_
  refine lv_iload C.x C.b dL_law_1062 (lv_at hl 0 rfl) ?_
  refine lv_bipush (v := 6) C.x C.b dL_law_1064 (by decide) ?_
  refine lv_icmp_ge (tgt := 1086) C.x C.b dL_law_1066 (by decide) (fun q => absurd q (by decide)) (fun _ => ?_)
  refine lv_iload C.x C.b dL_law_1069 (lv_at hl 1 rfl) ?_
  refine lv_aload_n C.x C.b dL_law_1071 rfl (lv_at hl 13 rfl) ?_
  refine lv_iload C.x C.b dL_law_1072 (lv_at hl 0 rfl) ?_
  refine lcI (As := [.int 2]) (rest := [.int (0 + (S_X2_inTanks σ))]) C h (M_X6_sum l hfl D E _ ok 2) V_sum2 cw_L_65 m_im_X6_sum m_se_X6_sum rfl rfl ⟨Nat.le_of_ble_eq_true rfl, Nat.le_of_ble_eq_true rfl⟩ hl rfl (Nat.le_of_ble_eq_true rfl) dL_law_1074 ⟨by show cells + 10 + 10 ≤ 600086; omega, by show slots + 60 + 60 ≤ 7301441; omega⟩ (fun H locs h => ?_)
  refine lv_iadd C.x C.b dL_law_1077 ?_
  refine lv_istore (lv' := [(18, .int ((0 + (S_X2_inTanks σ)) + (S_X6_litresOnFleet σ))), (19, .int 2), (12, .int (nI (c0 + 1))), (11, .int x11), (10, .int x10), (9, .int (nI mm)), (8, .int (nI M)), (7, .int 1), (6, .int x6), (5, .ref (ead E 16)), (4, .ref (ead E 15)), (3, .int (nI n)), (2, .int v0), (1, .ref (ead E 0)), (0, .ref b)]) C.x C.b dL_law_1078 hl (by decide) rfl (fun ls hl => ?_)
  refine lv_iinc (v := 3) (lv' := [(19, .int 3), (18, .int ((0 + (S_X2_inTanks σ)) + (S_X6_litresOnFleet σ))), (12, .int (nI (c0 + 1))), (11, .int x11), (10, .int x10), (9, .int (nI mm)), (8, .int (nI M)), (7, .int 1), (6, .int x6), (5, .ref (ead E 16)), (4, .ref (ead E 15)), (3, .int (nI n)), (2, .int v0), (1, .ref (ead E 0)), (0, .ref b)]) C.x C.b dL_law_1080 hl (k := 1) rfl (by decide) (by decide) rfl (fun ls hl => ?_)
  refine lv_goto (tgt := 1062) C.x C.b dL_law_1083 (by decide) ?_
  refine lv_iload C.x C.b dL_law_1062 (lv_at hl 0 rfl) ?_
  refine lv_bipush (v := 6) C.x C.b dL_law_1064 (by decide) ?_
  refine lv_icmp_ge (tgt := 1086) C.x C.b dL_law_1066 (by decide) (fun q => absurd q (by decide)) (fun _ => ?_)
  refine lv_iload C.x C.b dL_law_1069 (lv_at hl 1 rfl) ?_
  refine lv_aload_n C.x C.b dL_law_1071 rfl (lv_at hl 13 rfl) ?_
  refine lv_iload C.x C.b dL_law_1072 (lv_at hl 0 rfl) ?_
  refine lcI (As := [.int 3]) (rest := [.int ((0 + (S_X2_inTanks σ)) + (S_X6_litresOnFleet σ))]) C h (M_X6_sum l hfl D E _ ok 3) V_sum3 cw_L_65 m_im_X6_sum m_se_X6_sum rfl rfl ⟨Nat.le_of_ble_eq_true rfl, Nat.le_of_ble_eq_true rfl⟩ hl rfl (Nat.le_of_ble_eq_true rfl) dL_law_1074 ⟨by show cells + 10 + 10 + 10 ≤ 600086; omega, by show slots + 60 + 60 + 60 ≤ 7301441; omega⟩ (fun H locs h => ?_)
  refine lv_iadd C.x C.b dL_law_1077 ?_
  refine lv_istore (lv' := [(18, .int (((0 + (S_X2_inTanks σ)) + (S_X6_litresOnFleet σ)) + (σ 19 0))), (19, .int 3), (12, .int (nI (c0 + 1))), (11, .int x11), (10, .int x10), (9, .int (nI mm)), (8, .int (nI M)), (7, .int 1), (6, .int x6), (5, .ref (ead E 16)), (4, .ref (ead E 15)), (3, .int (nI n)), (2, .int v0), (1, .ref (ead E 0)), (0, .ref b)]) C.x C.b dL_law_1078 hl (by decide) rfl (fun ls hl => ?_)
  refine lv_iinc (v := 4) (lv' := [(19, .int 4), (18, .int (((0 + (S_X2_inTanks σ)) + (S_X6_litresOnFleet σ)) + (σ 19 0))), (12, .int (nI (c0 + 1))), (11, .int x11), (10, .int x10), (9, .int (nI mm)), (8, .int (nI M)), (7, .int 1), (6, .int x6), (5, .ref (ead E 16)), (4, .ref (ead E 15)), (3, .int (nI n)), (2, .int v0), (1, .ref (ead E 0)), (0, .ref b)]) C.x C.b dL_law_1080 hl (k := 1) rfl (by decide) (by decide) rfl (fun ls hl => ?_)
  refine lv_goto (tgt := 1062) C.x C.b dL_law_1083 (by decide) ?_
  refine lv_iload C.x C.b dL_law_1062 (lv_at hl 0 rfl) ?_
  refine lv_bipush (v := 6) C.x C.b dL_law_1064 (by decide) ?_
  refine lv_icmp_ge (tgt := 1086) C.x C.b dL_law_1066 (by decide) (fun q => absurd q (by decide)) (fun _ => ?_)
  refine lv_iload C.x C.b dL_law_1069 (lv_at hl 1 rfl) ?_
  refine lv_aload_n C.x C.b dL_law_1071 rfl (lv_at hl 13 rfl) ?_
  refine lv_iload C.x C.b dL_law_1072 (lv_at hl 0 rfl) ?_
  refine lcI (As := [.int 4]) (rest := [.int (((0 + (S_X2_inTanks σ)) + (S_X6_litresOnFleet σ)) + (σ 19 0))]) C h (M_X6_sum l hfl D E _ ok 4) V_sum4 cw_L_65 m_im_X6_sum m_se_X6_sum rfl rfl ⟨Nat.le_of_ble_eq_true rfl, Nat.le_of_ble_eq_true rfl⟩ hl rfl (Nat.le_of_ble_eq_true rfl) dL_law_1074 ⟨by show cells + 10 + 10 + 10 + 10 ≤ 600086; omega, by show slots + 60 + 60 + 60 + 60 ≤ 7301441; omega⟩ (fun H locs h => ?_)
  refine lv_iadd C.x C.b dL_law_1077 ?_
  refine lv_istore (lv' := [(18, .int ((((0 + (S_X2_inTanks σ)) + (S_X6_litresOnFleet σ)) + (σ 19 0)) + (σ 20 0))), (19, .int 4), (12, .int (nI (c0 + 1))), (11, .int x11), (10, .int x10), (9, .int (nI mm)), (8, .int (nI M)), (7, .int 1), (6, .int x6), (5, .ref (ead E 16)), (4, .ref (ead E 15)), (3, .int (nI n)), (2, .int v0), (1, .ref (ead E 0)), (0, .ref b)]) C.x C.b dL_law_1078 hl (by decide) rfl (fun ls hl => ?_)
  refine lv_iinc (v := 5) (lv' := [(19, .int 5), (18, .int ((((0 + (S_X2_inTanks σ)) + (S_X6_litresOnFleet σ)) + (σ 19 0)) + (σ 20 0))), (12, .int (nI (c0 + 1))), (11, .int x11), (10, .int x10), (9, .int (nI mm)), (8, .int (nI M)), (7, .int 1), (6, .int x6), (5, .ref (ead E 16)), (4, .ref (ead E 15)), (3, .int (nI n)), (2, .int v0), (1, .ref (ead E 0)), (0, .ref b)]) C.x C.b dL_law_1080 hl (k := 1) rfl (by decide) (by decide) rfl (fun ls hl => ?_)
  refine lv_goto (tgt := 1062) C.x C.b dL_law_1083 (by decide) ?_
  refine lv_iload C.x C.b dL_law_1062 (lv_at hl 0 rfl) ?_
  refine lv_bipush (v := 6) C.x C.b dL_law_1064 (by decide) ?_
  refine lv_icmp_ge (tgt := 1086) C.x C.b dL_law_1066 (by decide) (fun q => absurd q (by decide)) (fun _ => ?_)
  refine lv_iload C.x C.b dL_law_1069 (lv_at hl 1 rfl) ?_
  refine lv_aload_n C.x C.b dL_law_1071 rfl (lv_at hl 13 rfl) ?_
  refine lv_iload C.x C.b dL_law_1072 (lv_at hl 0 rfl) ?_
  refine lcI (As := [.int 5]) (rest := [.int ((((0 + (S_X2_inTanks σ)) + (S_X6_litresOnFleet σ)) + (σ 19 0)) + (σ 20 0))]) C h (M_X6_sum l hfl D E _ ok 5) V_sum5 cw_L_65 m_im_X6_sum m_se_X6_sum rfl rfl ⟨Nat.le_of_ble_eq_true rfl, Nat.le_of_ble_eq_true rfl⟩ hl rfl (Nat.le_of_ble_eq_true rfl) dL_law_1074 ⟨by show cells + 10 + 10 + 10 + 10 + 10 ≤ 600086; omega, by show slots + 60 + 60 + 60 + 60 + 60 ≤ 7301441; omega⟩ (fun H locs h => ?_)
  refine lv_iadd C.x C.b dL_law_1077 ?_
  refine lv_istore (lv' := [(18, .int (((((0 + (S_X2_inTanks σ)) + (S_X6_litresOnFleet σ)) + (σ 19 0)) + (σ 20 0)) + (σ 21 0))), (19, .int 5), (12, .int (nI (c0 + 1))), (11, .int x11), (10, .int x10), (9, .int (nI mm)), (8, .int (nI M)), (7, .int 1), (6, .int x6), (5, .ref (ead E 16)), (4, .ref (ead E 15)), (3, .int (nI n)), (2, .int v0), (1, .ref (ead E 0)), (0, .ref b)]) C.x C.b dL_law_1078 hl (by decide) rfl (fun ls hl => ?_)
  refine lv_iinc (v := 6) (lv' := [(19, .int 6), (18, .int (((((0 + (S_X2_inTanks σ)) + (S_X6_litresOnFleet σ)) + (σ 19 0)) + (σ 20 0)) + (σ 21 0))), (12, .int (nI (c0 + 1))), (11, .int x11), (10, .int x10), (9, .int (nI mm)), (8, .int (nI M)), (7, .int 1), (6, .int x6), (5, .ref (ead E 16)), (4, .ref (ead E 15)), (3, .int (nI n)), (2, .int v0), (1, .ref (ead E 0)), (0, .ref b)]) C.x C.b dL_law_1080 hl (k := 1) rfl (by decide) (by decide) rfl (fun ls hl => ?_)
  refine lv_goto (tgt := 1062) C.x C.b dL_law_1083 (by decide) ?_
  refine lv_iload C.x C.b dL_law_1062 (lv_at hl 0 rfl) ?_
  refine lv_bipush (v := 6) C.x C.b dL_law_1064 (by decide) ?_
  refine lv_icmp_ge (tgt := 1086) C.x C.b dL_law_1066 (by decide) (fun _ => ?_) (fun q => absurd q (by decide))
  refine lv_iload C.x C.b dL_law_1086 (lv_at hl 7 rfl) ?_
  refine lv_if_eq (tgt := 1144) C.x C.b dL_law_1088 (by decide) (fun q => absurd q (by decide)) (fun _ => ?_)
  refine lv_aload_n C.x C.b dL_law_1091 rfl (lv_at hl 13 rfl) ?_
  refine lv_iconst (v := 0) C.x C.b dL_law_1092 (by decide) ?_
  refine lcI (As := [.int 0]) (rest := []) C h (M_X6_sum l hfl D E _ ok 0) V_sum0 cw_L_65 m_im_X6_sum m_se_X6_sum rfl rfl ⟨Nat.le_of_ble_eq_true rfl, Nat.le_of_ble_eq_true rfl⟩ hl rfl (Nat.le_of_ble_eq_true rfl) dL_law_1093 ⟨by show cells + 10 + 10 + 10 + 10 + 10 + 10 ≤ 600086; omega, by show slots + 60 + 60 + 60 + 60 + 60 + 60 ≤ 7301441; omega⟩ (fun H locs h => ?_)
  refine lv_iload C.x C.b dL_law_1096 (lv_at hl 8 rfl) ?_
  refine lv_icmp_ne (tgt := 1144) C.x C.b dL_law_1098 (by decide) (fun q => absurd e6.symm q) (fun _ => ?_)
  refine lv_iload C.x C.b dL_law_1101 (lv_at hl 1 rfl) ?_
  refine lv_iload C.x C.b dL_law_1103 (lv_at hl 8 rfl) ?_
  refine lv_icmp_ne (tgt := 1144) C.x C.b dL_law_1105 (by decide) (fun q => absurd ((bal_sum hI).trans e6.symm) q) (fun _ => ?_)
  refine lv_aload_n C.x C.b dL_law_1108 rfl (lv_at hl 13 rfl) ?_
  refine lv_iconst (v := 1) C.x C.b dL_law_1109 (by decide) ?_
  refine lcI (As := [.int 1]) (rest := []) C h (M_X6_sum l hfl D E _ ok 1) V_sum1 cw_L_65 m_im_X6_sum m_se_X6_sum rfl rfl ⟨Nat.le_of_ble_eq_true rfl, Nat.le_of_ble_eq_true rfl⟩ hl rfl (Nat.le_of_ble_eq_true rfl) dL_law_1110 ⟨by show cells + 10 + 10 + 10 + 10 + 10 + 10 + 10 ≤ 600086; omega, by show slots + 60 + 60 + 60 + 60 + 60 + 60 + 60 ≤ 7301441; omega⟩ (fun H locs h => ?_)
  refine lv_aload C.x C.b dL_law_1113 (lv_at hl 9 rfl) ?_
  refine lv_iconst (v := 0) C.x C.b dL_law_1115 (by decide) ?_
  refine aln_16 C h (j := 0) (by decide) dL_law_1116 ?_
  refine lv_aload C.x C.b dL_law_1117 (lv_at hl 9 rfl) ?_
  refine lv_iconst (v := 1) C.x C.b dL_law_1119 (by decide) ?_
  refine aln_16 C h (j := 1) (by decide) dL_law_1120 ?_
  refine lv_iadd C.x C.b dL_law_1121 ?_
  refine lv_aload C.x C.b dL_law_1122 (lv_at hl 9 rfl) ?_
  refine lv_iconst (v := 2) C.x C.b dL_law_1124 (by decide) ?_
  refine aln_16 C h (j := 2) (by decide) dL_law_1125 ?_
  refine lv_iadd C.x C.b dL_law_1126 ?_
  refine lv_icmp_ne (tgt := 1144) C.x C.b dL_law_1127 (by decide) (fun q => absurd (tank_sum hI) q) (fun _ => ?_)
  refine lv_aload_n C.x C.b dL_law_1130 rfl (lv_at hl 13 rfl) ?_
  refine lv_iconst (v := 4) C.x C.b dL_law_1131 (by decide) ?_
  refine lcI (As := [.int 4]) (rest := []) C h (M_X6_sum l hfl D E _ ok 4) V_sum4 cw_L_65 m_im_X6_sum m_se_X6_sum rfl rfl ⟨Nat.le_of_ble_eq_true rfl, Nat.le_of_ble_eq_true rfl⟩ hl rfl (Nat.le_of_ble_eq_true rfl) dL_law_1132 ⟨by show cells + 10 + 10 + 10 + 10 + 10 + 10 + 10 + 10 ≤ 600086; omega, by show slots + 60 + 60 + 60 + 60 + 60 + 60 + 60 + 60 ≤ 7301441; omega⟩ (fun H locs h => ?_)
  refine lv_iload C.x C.b dL_law_1135 (lv_at hl 3 rfl) ?_
  refine lv_icmp_lt (tgt := 1144) C.x C.b dL_law_1137 (by decide) (fun q => absurd q (Int32.not_lt.mpr e11)) (fun _ => ?_)
  refine lv_iconst (v := 1) C.x C.b dL_law_1140 (by decide) ?_
  refine lv_goto (tgt := 1145) C.x C.b dL_law_1141 (by decide) ?_
  refine lv_istore (lv' := [(7, .int 1), (19, .int 6), (18, .int (((((0 + (S_X2_inTanks σ)) + (S_X6_litresOnFleet σ)) + (σ 19 0)) + (σ 20 0)) + (σ 21 0))), (12, .int (nI (c0 + 1))), (11, .int x11), (10, .int x10), (9, .int (nI mm)), (8, .int (nI M)), (6, .int x6), (5, .ref (ead E 16)), (4, .ref (ead E 15)), (3, .int (nI n)), (2, .int v0), (1, .ref (ead E 0)), (0, .ref b)]) C.x C.b dL_law_1145 hl (by decide) rfl (fun ls hl => ?_)
  refine lv_aload_n C.x C.b dL_law_1147 rfl (lv_at hl 13 rfl) ?_
  refine lv_iconst (v := 4) C.x C.b dL_law_1148 (by decide) ?_
  refine lcI (As := [.int 4]) (rest := []) C h (M_X6_sum l hfl D E _ ok 4) V_sum4 cw_L_65 m_im_X6_sum m_se_X6_sum rfl rfl ⟨Nat.le_of_ble_eq_true rfl, Nat.le_of_ble_eq_true rfl⟩ hl rfl (Nat.le_of_ble_eq_true rfl) dL_law_1149 ⟨by show cells + 10 + 10 + 10 + 10 + 10 + 10 + 10 + 10 + 10 ≤ 600086; omega, by show slots + 60 + 60 + 60 + 60 + 60 + 60 + 60 + 60 + 60 ≤ 7301441; omega⟩ (fun H locs h => ?_)
  refine lv_istore (lv' := [(11, .int (σ 20 0)), (7, .int 1), (19, .int 6), (18, .int (((((0 + (S_X2_inTanks σ)) + (S_X6_litresOnFleet σ)) + (σ 19 0)) + (σ 20 0)) + (σ 21 0))), (12, .int (nI (c0 + 1))), (10, .int x10), (9, .int (nI mm)), (8, .int (nI M)), (6, .int x6), (5, .ref (ead E 16)), (4, .ref (ead E 15)), (3, .int (nI n)), (2, .int v0), (1, .ref (ead E 0)), (0, .ref b)]) C.x C.b dL_law_1152 hl (by decide) rfl (fun ls hl => ?_)
  refine lv_iconst (v := 0) C.x C.b dL_law_1154 (by decide) ?_
  refine lv_istore (lv' := [(19, .int 0), (11, .int (σ 20 0)), (7, .int 1), (18, .int (((((0 + (S_X2_inTanks σ)) + (S_X6_litresOnFleet σ)) + (σ 19 0)) + (σ 20 0)) + (σ 21 0))), (12, .int (nI (c0 + 1))), (10, .int x10), (9, .int (nI mm)), (8, .int (nI M)), (6, .int x6), (5, .ref (ead E 16)), (4, .ref (ead E 15)), (3, .int (nI n)), (2, .int v0), (1, .ref (ead E 0)), (0, .ref b)]) C.x C.b dL_law_1155 hl (by decide) rfl (fun ls hl => ?_)
  exact tail_1157 hfl hI hc0 hn C K1228 3 0 rfl _ _ _ _ _ h (by show cells + 10 + 10 + 10 + 10 + 10 + 10 + 10 + 10 + 10 ≤ _; omega) (by show slots + 60 + 60 + 60 + 60 + 60 + 60 + 60 + 60 + 60 ≤ _; omega) (lv_sub hl [0, 4, 1, 5, 6, 7, 2, 8, 9, 10, 11, 12, 13, 14] rfl)
set_option maxRecDepth 100000 in
set_option maxHeartbeats 4000000 in
theorem law_step {p : Program} {l : Launch} (hfl : l.stackTraces = false) {e : Env} {s : State} {m : MethodId} {args : Array Value} {below : List Frame} {meth : Method} {c : Code} {Q : State → Prop} {D : va_G} {E : En} {A : Nat → Prop} {b n : Nat} {v0 : Int32} {M : Nat} {x11 : Int32} {c0 : Nat} {σ : St} {mm : Nat} (hI : II σ mm n c0) (hc0 : c0 < 59) (hn : n = en E) (hn0 : 0 < n) (hx : x11 ≤ σ 20 0) (hM : c0 + 1 < M) (hM6 : M ≤ 60) {L : Nat} {xs : Nat → Int32} (hL : L ≤ 260) (hX : va_X b L xs s s.heap) (hbl : b < s.heap.size) (hbA : ¬ A b) (B : BK p l e s m args below meth c Q D E A b n v0 M x11 c0) (C : CX p s m meth c cL_law RL 25 D E A) {H : Heap} {locs : List Loc} (h : HW D E σ A s H locs) {cells slots : Nat} (hc : cells ≤ 300 + 2000 * c0) (hs : slots ≤ 2000 + 12000 * c0) {ls : Array Slot} (hl : lv_has ls 25 [(12, .int (nI (c0 + 1))), (11, .int x11), (10, .int (σ 24 0)), (9, .int (nI mm)), (8, .int (nI M)), (7, .int 1), (6, .int (σ 18 0)), (5, .ref (ead E 16)), (4, .ref (ead E 15)), (3, .int (nI n)), (2, .int v0), (1, .ref (ead E 0)), (0, .ref b)]) : W p l e room_1 s m args below meth c H locs cells slots Q (F0 m 180 ls []) := by
  have ok : OK E σ := hI.ok hn
  have h6 := hI.n6
  refine lv_iload C.x C.b dL_law_180 (lv_at hl 0 rfl) ?_
  refine lv_iload C.x C.b dL_law_182 (lv_at hl 4 rfl) ?_
  refine lv_icmp_ge (tgt := 1254) C.x C.b dL_law_184 (by decide) (fun q => absurd q (nI_ge hM (by omega))) (fun _ => ?_)
  refine lv_iload C.x C.b dL_law_187 (lv_at hl 5 rfl) ?_
  refine lv_if_eq (tgt := 1254) C.x C.b dL_law_189 (by decide) (fun q => absurd q (by decide)) (fun _ => ?_)
  refine lv_aload_n C.x C.b dL_law_192 rfl (lv_at hl 12 rfl) ?_
  refine lv_iload C.x C.b dL_law_193 (lv_at hl 0 rfl) ?_
  refine caCell (k := (c0 + 1)) hL hX hbl hbA (by omega) rfl C h cw_L_26 ⟨Nat.le_of_ble_eq_true rfl, Nat.le_of_ble_eq_true rfl⟩ hl (Nat.le_of_ble_eq_true rfl) dL_law_195 ⟨by show cells ≤ 600086; omega, by show slots ≤ 7301441; omega⟩ (fun w H locs h => ?_)
  refine lv_istore (lv' := [(13, .int w), (12, .int (nI (c0 + 1))), (11, .int x11), (10, .int (σ 24 0)), (9, .int (nI mm)), (8, .int (nI M)), (7, .int 1), (6, .int (σ 18 0)), (5, .ref (ead E 16)), (4, .ref (ead E 15)), (3, .int (nI n)), (2, .int v0), (1, .ref (ead E 0)), (0, .ref b)]) C.x C.b dL_law_198 hl (by decide) rfl (fun ls hl => ?_)
  refine lv_iload C.x C.b dL_law_200 (lv_at hl 0 rfl) ?_
  refine lv_bipush (v := 12) C.x C.b dL_law_202 (by decide) ?_
  refine caLow (N := 12) (by decide) (by decide) rfl C h cw_L_32 ⟨Nat.le_of_ble_eq_true rfl, Nat.le_of_ble_eq_true rfl⟩ hl (Nat.le_of_ble_eq_true rfl) dL_law_204 ⟨by show cells ≤ 600086; omega, by show slots ≤ 7301441; omega⟩ (fun j14 H locs hj14 h => ?_)
  refine lv_istore (lv' := [(14, .int (nI j14)), (13, .int w), (12, .int (nI (c0 + 1))), (11, .int x11), (10, .int (σ 24 0)), (9, .int (nI mm)), (8, .int (nI M)), (7, .int 1), (6, .int (σ 18 0)), (5, .ref (ead E 16)), (4, .ref (ead E 15)), (3, .int (nI n)), (2, .int v0), (1, .ref (ead E 0)), (0, .ref b)]) C.x C.b dL_law_207 hl (by decide) rfl (fun ls hl => ?_)
  refine lv_iload C.x C.b dL_law_209 (lv_at hl 1 rfl) ?_
  refine lv_iconst (v := 5) C.x C.b dL_law_211 (by decide) ?_
  refine lv_ishr C.x C.b dL_law_212 ?_
  refine lv_iconst (v := 3) C.x C.b dL_law_213 (by decide) ?_
  refine caLow (N := 3) (by decide) (by decide) rfl C h cw_L_32 ⟨Nat.le_of_ble_eq_true rfl, Nat.le_of_ble_eq_true rfl⟩ hl (Nat.le_of_ble_eq_true rfl) dL_law_214 ⟨by show cells ≤ 600086; omega, by show slots ≤ 7301441; omega⟩ (fun j15 H locs hj15 h => ?_)
  refine lv_istore (lv' := [(15, .int (nI j15)), (14, .int (nI j14)), (13, .int w), (12, .int (nI (c0 + 1))), (11, .int x11), (10, .int (σ 24 0)), (9, .int (nI mm)), (8, .int (nI M)), (7, .int 1), (6, .int (σ 18 0)), (5, .ref (ead E 16)), (4, .ref (ead E 15)), (3, .int (nI n)), (2, .int v0), (1, .ref (ead E 0)), (0, .ref b)]) C.x C.b dL_law_217 hl (by decide) rfl (fun ls hl => ?_)
  refine lv_iload C.x C.b dL_law_219 (lv_at hl 2 rfl) ?_
  refine lv_iconst (v := 4) C.x C.b dL_law_221 (by decide) ?_
  refine lv_ishr C.x C.b dL_law_222 ?_
  refine lv_iload_n C.x C.b dL_law_223 rfl (lv_at hl 12 rfl) ?_
  refine caLow (N := n) hn0 (by omega) rfl C h cw_L_32 ⟨Nat.le_of_ble_eq_true rfl, Nat.le_of_ble_eq_true rfl⟩ hl (Nat.le_of_ble_eq_true rfl) dL_law_224 ⟨by show cells ≤ 600086; omega, by show slots ≤ 7301441; omega⟩ (fun j16 H locs hj16 h => ?_)
  refine lv_istore (lv' := [(16, .int (nI j16)), (15, .int (nI j15)), (14, .int (nI j14)), (13, .int w), (12, .int (nI (c0 + 1))), (11, .int x11), (10, .int (σ 24 0)), (9, .int (nI mm)), (8, .int (nI M)), (7, .int 1), (6, .int (σ 18 0)), (5, .ref (ead E 16)), (4, .ref (ead E 15)), (3, .int (nI n)), (2, .int v0), (1, .ref (ead E 0)), (0, .ref b)]) C.x C.b dL_law_227 hl (by decide) rfl (fun ls hl => ?_)
  refine lv_aload_n C.x C.b dL_law_229 rfl (lv_at hl 15 rfl) ?_
  refine lv_iload C.x C.b dL_law_230 (lv_at hl 0 rfl) ?_
  refine lv_iconst (v := 0) C.x C.b dL_law_232 (by decide) ?_
  refine lcI (As := [.int (nI j16), .int 0]) (rest := []) C h (M_X6_aircraftOf l hfl D E _ ok (nI j16) 0) (V_air0 hI.n0 h6 hj16) cw_L_8 m_im_X6_aircraftOf m_se_X6_aircraftOf rfl rfl ⟨Nat.le_of_ble_eq_true rfl, Nat.le_of_ble_eq_true rfl⟩ hl rfl (Nat.le_of_ble_eq_true rfl) dL_law_233 ⟨by show cells + 10 ≤ 600086; omega, by show slots + 60 ≤ 7301441; omega⟩ (fun H locs h => ?_)
  refine lv_istore (lv' := [(17, .int (σ 28 j16)), (16, .int (nI j16)), (15, .int (nI j15)), (14, .int (nI j14)), (13, .int w), (12, .int (nI (c0 + 1))), (11, .int x11), (10, .int (σ 24 0)), (9, .int (nI mm)), (8, .int (nI M)), (7, .int 1), (6, .int (σ 18 0)), (5, .ref (ead E 16)), (4, .ref (ead E 15)), (3, .int (nI n)), (2, .int v0), (1, .ref (ead E 0)), (0, .ref b)]) C.x C.b dL_law_236 hl (by decide) rfl (fun ls hl => ?_)
  refine lv_iload C.x C.b dL_law_238 (lv_at hl 3 rfl) ?_
  refine lv_iconst (v := 2) C.x C.b dL_law_240 (by decide) ?_
  refine lv_icmp_ge (tgt := 311) C.x C.b dL_law_241 (by decide) (fun c241 => ?_) (fun c241 => ?_)
  · skip
    refine lv_iload C.x C.b dL_law_311 (lv_at hl 3 rfl) ?_
    refine lv_iconst (v := 2) C.x C.b dL_law_313 (by decide) ?_
    refine lv_icmp_ne (tgt := 367) C.x C.b dL_law_314 (by decide) (fun c314 => ?_) (fun c314 => ?_)
    · skip
      refine lv_iload C.x C.b dL_law_367 (lv_at hl 3 rfl) ?_
      refine lv_iconst (v := 3) C.x C.b dL_law_369 (by decide) ?_
      refine lv_icmp_ne (tgt := 408) C.x C.b dL_law_370 (by decide) (fun c370 => ?_) (fun c370 => ?_)
      · skip
        refine lv_iload C.x C.b dL_law_408 (lv_at hl 3 rfl) ?_
        refine lv_iconst (v := 4) C.x C.b dL_law_410 (by decide) ?_
        refine lv_icmp_ne (tgt := 468) C.x C.b dL_law_411 (by decide) (fun c411 => ?_) (fun c411 => ?_)
        · skip
          refine lv_iload C.x C.b dL_law_468 (lv_at hl 3 rfl) ?_
          refine lv_iconst (v := 5) C.x C.b dL_law_470 (by decide) ?_
          refine lv_icmp_ne (tgt := 530) C.x C.b dL_law_471 (by decide) (fun c471 => ?_) (fun c471 => ?_)
          · skip
            refine lv_iload C.x C.b dL_law_530 (lv_at hl 3 rfl) ?_
            refine lv_bipush (v := 9) C.x C.b dL_law_532 (by decide) ?_
            refine lv_icmp_ge (tgt := 853) C.x C.b dL_law_534 (by decide) (fun c534 => ?_) (fun c534 => ?_)
            · skip
              refine lv_iload C.x C.b dL_law_853 (lv_at hl 3 rfl) ?_
              refine lv_bipush (v := 9) C.x C.b dL_law_855 (by decide) ?_
              refine lv_icmp_ne (tgt := 921) C.x C.b dL_law_857 (by decide) (fun c857 => ?_) (fun c857 => ?_)
              · skip
                refine lv_iload C.x C.b dL_law_921 (lv_at hl 3 rfl) ?_
                refine lv_bipush (v := 10) C.x C.b dL_law_923 (by decide) ?_
                refine lv_icmp_ne (tgt := 991) C.x C.b dL_law_925 (by decide) (fun c925 => ?_) (fun c925 => ?_)
                · skip
                  exact case_supply hfl hI hc0 hn hx B C h hj15 hj16 (by show cells + 10 ≤ _; omega) (by show slots + 60 ≤ _; omega) (lv_sub hl [0, 1, 2, 3, 4, 5, 6, 7, 8, 9, 10, 11, 12, 13, 14, 15, 16, 17] rfl)
                · skip
                  exact case_release hfl hI hc0 hn hx B C h hj15 hj16 (by show cells + 10 ≤ _; omega) (by show slots + 60 ≤ _; omega) (lv_sub hl [0, 1, 2, 3, 4, 5, 6, 7, 8, 9, 10, 11, 12, 13, 14, 15, 16, 17] rfl)
              · skip
                exact case_cancel hfl hI hc0 hn hx B C h hj15 hj16 (by show cells + 10 ≤ _; omega) (by show slots + 60 ≤ _; omega) (lv_sub hl [0, 1, 2, 3, 4, 5, 6, 7, 8, 9, 10, 11, 12, 13, 14, 15, 16, 17] rfl)
            · skip
              exact case_treat hfl hI hc0 hn hx B C h hj15 hj16 (by show cells + 10 ≤ _; omega) (by show slots + 60 ≤ _; omega) (lv_sub hl [0, 1, 2, 3, 4, 5, 6, 7, 8, 9, 10, 11, 12, 13, 14, 15, 16, 17] rfl)
          · skip
            exact case_pilot hfl hI hc0 hn hx B C h hj15 hj16 (by show cells + 10 ≤ _; omega) (by show slots + 60 ≤ _; omega) (lv_sub hl [0, 1, 2, 3, 4, 5, 6, 7, 8, 9, 10, 11, 12, 13, 14, 15, 16, 17] rfl)
        · skip
          exact case_close hfl hI hc0 hn hx B C h hj15 hj16 (by show cells + 10 ≤ _; omega) (by show slots + 60 ≤ _; omega) (lv_sub hl [0, 1, 2, 3, 4, 5, 6, 7, 8, 9, 10, 11, 12, 13, 14, 15, 16, 17] rfl)
      · skip
        exact case_spray hfl hI hc0 hn hx B C h hj15 hj16 (by show cells + 10 ≤ _; omega) (by show slots + 60 ≤ _; omega) (lv_sub hl [0, 1, 2, 3, 4, 5, 6, 7, 8, 9, 10, 11, 12, 13, 14, 15, 16, 17] rfl)
    · skip
      exact case_weather hfl hI hc0 hn hx B C h hj15 hj16 (by show cells + 10 ≤ _; omega) (by show slots + 60 ≤ _; omega) (lv_sub hl [0, 1, 2, 3, 4, 5, 6, 7, 8, 9, 10, 11, 12, 13, 14, 15, 16, 17] rfl)
  · skip
    exact case_pass hfl hI hc0 hn hx B C h hj15 hj16 (by show cells + 10 ≤ _; omega) (by show slots + 60 ≤ _; omega) (lv_sub hl [0, 1, 2, 3, 4, 5, 6, 7, 8, 9, 10, 11, 12, 13, 14, 15, 16, 17] rfl)
set_option maxRecDepth 100000 in
set_option maxHeartbeats 4000000 in
theorem law_loop {p : Program} {l : Launch} (hfl : l.stackTraces = false) {e : Env} {s : State} {m : MethodId} {args : Array Value} {below : List Frame} {meth : Method} {c : Code} {Q : State → Prop} {D : va_G} {E : En} {A : Nat → Prop} {b n : Nat} {v0 : Int32} {M : Nat} (hn : n = en E) (hn0 : 0 < n) (hM6 : M ≤ 60) {L : Nat} {xs : Nat → Int32} (hL : L ≤ 260) (hX : va_X b L xs s s.heap) (hbl : b < s.heap.size) (hbA : ¬ A b) (C : CX p s m meth c cL_law RL 25 D E A)
    (kE : ∀ (σ : St) (H : Heap) (locs : List Loc) (cells slots : Nat) (ls : Array Slot), HW D E σ A s H locs → cells ≤ 600086 → slots ≤ 7301441 → lv_has ls 25 [(7, .int 1)] → W p l e room_1 s m args below meth c H locs cells slots Q (F0 m 1254 ls [])) :
    ∀ (d c0 : Nat) (σ : St) (mm : Nat) (x6 x10 x11 : Int32) (H : Heap) (locs : List Loc) (cells slots : Nat) (ls : Array Slot), M ≤ c0 + 1 + d → c0 ≤ 59 → HW D E σ A s H locs → II σ mm n c0 → x6 = σ 18 0 → x10 = σ 24 0 → x11 ≤ σ 20 0 → cells ≤ 300 + 2000 * c0 → slots ≤ 2000 + 12000 * c0 → lv_has ls 25 (LVL E b n v0 M (c0 + 1) x6 mm x10 x11) → W p l e room_1 s m args below meth c H locs cells slots Q (F0 m 180 ls []) := by
  intro d
  induction d with
  | zero =>
    intro c0 σ mm x6 x10 x11 H locs cells slots ls hd hc0 h hI e6 e10 hx hc hs hl
    have hl : lv_has ls 25 [(12, .int (nI (c0 + 1))), (11, .int x11), (10, .int x10), (9, .int (nI mm)), (8, .int (nI M)), (7, .int 1), (6, .int x6), (5, .ref (ead E 16)), (4, .ref (ead E 15)), (3, .int (nI n)), (2, .int v0), (1, .ref (ead E 0)), (0, .ref b)] := hl
    refine lv_iload C.x C.b dL_law_180 (lv_at hl 0 rfl) ?_
    refine lv_iload C.x C.b dL_law_182 (lv_at hl 4 rfl) ?_
    refine lv_icmp_ge (tgt := 1254) C.x C.b dL_law_184 (by decide) (fun _ => ?_) (fun q => absurd (nI_le (by omega) (by omega)) q)
    exact kE σ H locs cells slots ls h (by omega) (by omega) (lv_sub hl [5] rfl)
  | succ d ih =>
    intro c0 σ mm x6 x10 x11 H locs cells slots ls hd hc0 h hI e6 e10 hx hc hs hl
    by_cases hM : c0 + 1 < M
    · have hc9 : c0 < 59 := by omega
      subst e6 e10
      exact law_step hfl hI hc9 hn hn0 hx hM hM6 hL hX hbl hbA (law_tail hfl hc9 hn C (fun σ' mm' x6' x10' y11 H' locs' cells' slots' ls' h' hI' e6' e10' ey hc' hs' hl' => ih (c0 + 1) σ' mm' x6' x10' y11 H' locs' cells' slots' ls' (by omega) (by omega) h' hI' e6' e10' ey hc' hs' hl')) C h hc hs hl
    · have hl : lv_has ls 25 [(12, .int (nI (c0 + 1))), (11, .int x11), (10, .int x10), (9, .int (nI mm)), (8, .int (nI M)), (7, .int 1), (6, .int x6), (5, .ref (ead E 16)), (4, .ref (ead E 15)), (3, .int (nI n)), (2, .int v0), (1, .ref (ead E 0)), (0, .ref b)] := hl
      refine lv_iload C.x C.b dL_law_180 (lv_at hl 0 rfl) ?_
      refine lv_iload C.x C.b dL_law_182 (lv_at hl 4 rfl) ?_
      refine lv_icmp_ge (tgt := 1254) C.x C.b dL_law_184 (by decide) (fun _ => ?_) (fun q => absurd (nI_le (by omega) (by omega)) q)
      exact kE σ H locs cells slots ls h (by omega) (by omega) (lv_sub hl [5] rfl)
