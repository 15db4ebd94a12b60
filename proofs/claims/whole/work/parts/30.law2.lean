/-! the law's loop (by program) -/
def CLd (own : String) (index : Nat) (y : MethodName) (bytes : ByteArray) (maxL : Nat) (hh : List (Nat × Nat × Nat × Nat)) (n : Nat) : Prop :=
  Cond.methodLink own index y ∈ wsL_law ∧ Cond.codeWith y bytes maxL (some .int) hh ∈ wsL_law ∧ Cond.initialized y.cls ∈ wsL_law ∧ (y.cls ≠ "java/lang/invoke/MethodHandle" ∧ y.cls ≠ "java/lang/invoke/VarHandle") ∧ (parseMethodDescriptor y.desc).map (fun d => d.parameters.length) = some n ∧ Cond.static y ∈ wsL_law
/-- the class between a helper's end and the reference's call -/
theorem ok_mid {σ σ1 τ1 : St} {m n c m' n' c' : Nat} {E1 : En} (h : RR σ σ m n c) (q : RR σ1 τ1 m' n' c') (hn : n' = en E1) (hle : n ≤ n') (hf : ∀ f i, 40 ≤ f → σ1 f i = σ f i) : OK E1 σ1 := by
  subst hn
  have o1 := h.ok (E := (fun _ => 0, fun _ => 0, n, fun _ => 0, fun _ => 0)) rfl
  obtain ⟨h1, ⟨w1, w2, w3, w4, w5, w6⟩, h3, h4, h5, h6, ⟨n1, n2, n3⟩, h8, h9⟩ := q
  have hf3 : vp_in (σ1 3 0) 4 := by
    rcases w5 with q | q | q | q <;> rw [q]
    · exact vp_in_nI (n := 0) (by decide) (by decide)
    · exact vp_in_nI (n := 1) (by decide) (by decide)
    · exact vp_in_nI (n := 2) (by decide) (by decide)
    · exact vp_in_nI (n := 3) (by decide) (by decide)
  refine ⟨n1, n2, ⟨n, hle, by rw [hf 55 0 (by decide)]; exact h.nr⟩, hf3, by rw [hf 43 0 (by decide)]; exact o1.2.2.2.2.1, fun k => ?_, fun k => by rw [hf 66 k (by decide)]; exact o1.2.2.2.2.2.2 k⟩
  by_cases q : k < en E1
  · obtain ⟨_, _, _, _, _, _, _, _, _, _, _, _, _, f, hf, e⟩ := h8 k q
    rw [e]
    exact vp_in_nI hf (by decide)
  · rw [(h9 k (by omega)).1]
    exact in3_0
theorem RR.lst {σ : St} {m n c : Nat} {T : Nat × Int32 × St} (h : RR σ σ m n c) (h6 : ∀ f i, 40 ≤ f → T.2.2 f i = σ f i) : RR σ (LST T σ) m n c := h.cgr (fun f i q => by
  unfold LST
  split
  · exact h6 f i (by omega)
  · rfl)
/-- what a call of both comes to, over one state -/
def BQ (σ1 : St) (m n c a b n' : Nat) (T : Nat × Int32 × St) (U : Int32 × St) : Prop := U.2 40 0 = wcd a b T.1 ∧ (T.1 = 0 → U.1 = T.2.1 ∧ ∃ m' : Nat, m' ≤ m + 500 ∧ RR U.2 U.2 m' n' (c + 1)) ∧ (¬ T.1 = 0 → RR U.2 U.2 m n (c + 1))
theorem BLx {σ : St} {m n c a b n' : Nat} {T : Nat × Int32 × St} {U : Int32 × St} (hA : AL σ m n c a b n' T U) (h7 : ∀ f i, f < 40 → U.2 f i = LST T σ f i) : BQ (LST T σ) m n c a b n' T U := by
  obtain ⟨a1, a2, a3⟩ := hA
  refine ⟨a1, fun q => ?_, fun q => ?_⟩
  · obtain ⟨b1, m', b2, b3⟩ := a2 q
    refine ⟨b1, m', b2, b3.cgc (fun f i z => ?_)⟩
    rw [h7 _ _ z]
    unfold LST
    rw [if_pos q]
  · refine (a3 q).cgc (fun f i z => ?_)
    rw [h7 _ _ z]
    unfold LST
    rw [if_neg q]
theorem OKx {σ : St} {m n c a b n' : Nat} {T : Nat × Int32 × St} {U : Int32 × St} {E1 : En} (h : RR σ σ m n c) (hA : AL σ m n c a b n' T U) (h6 : ∀ f i, 40 ≤ f → T.2.2 f i = σ f i) (e0 : T.1 = 0) (hn : n' = en E1) (hle : n ≤ n') : OK E1 T.2.2 := by
  obtain ⟨-, a2, -⟩ := hA
  obtain ⟨-, m', -, b3⟩ := a2 e0
  exact ok_mid h b3 hn hle h6
section LAW2
variable {p : Program} {l : Launch} {e : Env} {R : Room} {s : State} {m : MethodId} {args : Array Value} {below : List Frame} {meth : Method} {c : Code} {H : Heap} {locs : List Loc} {cells slots : Nat} {Q : State → Prop}
variable {cc : ByteArray} {own : String} {nL : Nat} {D : va_G} {E : En} {A : Nat → Prop} {σ : St} {pc : Nat} {ls : Array Slot} {rest : List Value}
theorem lcE {x y : Int64} (C : CX p s m meth c cc own nL D E A) (h : x = y) (dg : decode cc pc = .ok (.lcmp, 1)) (k : W p l e R s m args below meth c H locs cells slots Q (F0 m (pc + 1) ls (.int 0 :: rest))) : W p l e R s m args below meth c H locs cells slots Q (F0 m pc ls (.long y :: .long x :: rest)) := by
  subst h
  have hexec := C.x
  have hb := C.b
  intro T hT X
  obtain ⟨t, a, b⟩ := k T hT X
  refine ⟨t, ?_, b⟩
  jvm_step X.here [X.here.top, hexec, hb, dg]
  exact a
theorem ldS {b L j : Nat} {xs : Nat → Int32} {x : Int32} (C : CX p s m meth c cc own nL D E A) (h : HW D E σ A s H locs) (hX : va_X b L xs s s.heap) (hbl : b < s.heap.size) (hbA : ¬ A b) (hL : L ≤ 3072) (hj : j < L) (ex : x = nI j) (dg : decode cc pc = .ok (.iaload, 1)) (kk : W p l e R s m args below meth c H locs cells slots Q (F0 m (pc + 1) ls (.int (xs j) :: rest))) : W p l e R s m args below meth c H locs cells slots Q (F0 m pc ls (.int x :: .ref b :: rest)) := by
  subst ex
  refine va_sld C.x C.b hX hbl hbA h.2.2 (vp_in_nI hj (by omega)) dg ?_
  rw [nI_clamp (by omega)]
  exact kk
theorem ldL (C : CX p s m meth c cc own nL D E A) (h : HW D E σ A s H locs) (dg : decode cc pc = .ok (.laload, 1)) (kk : W p l e R s m args below meth c H locs cells slots Q (F0 m (pc + 1) ls (.long (eo E 0) :: rest))) : W p l e R s m args below meth c H locs cells slots Q (F0 m pc ls (.int 0 :: .ref (ead E 35) :: rest)) :=
  va_lald C.x C.b C.k h.1 35 4 rfl rfl (vp_in_nI (n := 0) (N := 1) (by decide) (by decide)) dg kk
theorem ldD (C : CX p s m meth c cc own nL D E A) (h : HW D E σ A s H locs) (dg : decode cc pc = .ok (.daload, 1)) (kk : W p l e R s m args below meth c H locs cells slots Q (F0 m (pc + 1) ls (.double (ed E 0) :: rest))) : W p l e R s m args below meth c H locs cells slots Q (F0 m pc ls (.int 0 :: .ref (ead E 36) :: rest)) :=
  va_dald C.x C.b C.k h.1 36 5 rfl rfl (vp_in_nI (n := 0) (N := 1) (by decide) (by decide)) dg kk
theorem caL {hls : List (Nat × Value)} {y : MethodName} {bytes : ByteArray} {maxL mc ms index : Nat} {hh : List (Nat × Nat × Nat × Nat)} {rm : Room} {As : List Value} {stk : List Value} {post : Int32 → En × St → Prop} (C : CX p s m meth c cc own nL D E A) (h : HW D E σ A s H locs) (hM : CL l y bytes maxL hh rm As D E σ post mc ms) (w : CLd own index y bytes maxL hh As.length) (hrc : rm.cells = mc) (hrs : rm.slots = ms) (hR : rm.frames + 1 ≤ R.frames ∧ 8 + (maxL + 11) + rm.locals ≤ R.locals) (hl : lv_has ls nL hls) (hst : stk = As.reverse ++ rest) (hW : (rest.map fun v => v.category).sum ≤ 8) (dg : decode cc pc = .ok (.invokestatic index, 3)) (hf : cells + mc ≤ R.cells ∧ slots + ms ≤ R.slots)
    (kk : ∀ (r : Int32) (u : En × St) (H1 : Heap) (locs1 : List Loc), post r u → HW D u.1 u.2 A s H1 locs1 → W p l e R s m args below meth c H1 locs1 (cells + mc) (slots + ms) Q (F0 m (pc + 3) ls (.int r :: rest))) : W p l e R s m args below meth c H locs cells slots Q (F0 m pc ls stk) := by
  obtain ⟨w1, w2, w3, w4, w5, w6⟩ := w
  refine va_calli (vx_runSW ⟨C.x, C.b, C.ml, C.ow, C.tb.args args⟩ (hM H.size) ⟨⟨hrc, hrs, hR.1, hR.2, fun w hw a' U hW => ?_, List.mem_singleton.mpr rfl⟩, C.w args w2, C.w args w3, w4, fun sig h => ?_, C.w args w1, C.w args w6⟩ ⟨pre_blind, pre_at C h _⟩ rfl rfl hl.1 hst (lv_room hW) dg hf) h.2.2 (fun q _ => fr C h q) (fr C h) (fun r u t H1 locs1 ht hvm hw hB hz hk hS => kk r u H1 locs1 hw ⟨by rw [← ht]; exact hB.1, hB.2.2.weaken (fun _ _ _ q => fr C h _ q), hS⟩)
  · rw [List.mem_singleton.mp hw]
    exact word_at hW (good_of_word (tb_good _ w2)) (C.w args w2)
  · rw [h] at w5
    exact (Option.some.inj w5).symm
/-- the law's locals at the head -/
def LV (E : En) (b i : Nat) : List (Nat × Value) := [(5, .int (nI (6 * i))), (4, .ref (ead E 36)), (3, .ref (ead E 35)), (2, .ref (ead E 15)), (1, .ref (ead E 0)), (0, .ref b)]
/-- the walk from the end of a case -/
def BK (p : Program) (l : Launch) (e : Env) (s : State) (m : MethodId) (args : Array Value) (below : List Frame) (meth : Method) (c : Code) (Q : State → Prop) (D : va_G) (A : Nat → Prop) (b i : Nat) : Prop :=
  ∀ (E : En) (σ : St) (mm : Nat) (H : Heap) (locs : List Loc) (cells slots : Nat) (ls : Array Slot), CX p s m meth c cL_law RL 9 D E A → HW D E σ A s H locs → RR σ σ mm (en E) (i + 1) → mm ≤ 500 * (i + 1) → cells ≤ 64 + 10 * (i + 1) → slots ≤ 512 + 60 * (i + 1) → lv_has ls 9 (LV E b i) → W p l e room_1 s m args below meth c H locs cells slots Q (F0 m 1410 ls [])
end LAW2
theorem cw_L_88 : CWd RL 88 yX7_thrown cX7_thrown 1 (some .int) 0 := ⟨m_ml_L_88, m_co_X7_thrown, m_ini_X7, by decide +kernel, by decide +kernel⟩
theorem cl_L_spray : CLd RL 92 yL_spray cL_spray 4 [(0, 9, 12, 19)] 3 := ⟨m_ml_L_92, m_cw_L_spray, m_ini_L, by decide +kernel, by decide +kernel, m_st_L_spray⟩
theorem B_spray {σ : St} {m n c : Nat} (h : RR σ σ m n c) (p1 : Int32) : BQ (LST (S_X6_spray σ p1) σ) m n c 1 9 n (S_X6_spray σ p1) (S_X7_spray (LST (S_X6_spray σ p1) σ) p1) :=
  BLx (A_spray (h.lst (fun f i q => F6_spray q σ p1)) p1) (fun f i q => F7_spray q _ p1)
theorem O_spray {σ : St} {m n c : Nat} {E1 : En} (h : RR σ σ m n c) (p1 : Int32) (e0 : (S_X6_spray σ p1).1 = 0) (hn : n = en E1) : OK E1 (S_X6_spray σ p1).2.2 :=
  OKx h (A_spray h p1) (fun f i q => F6_spray q σ p1) e0 hn (by omega)
theorem cw_L_95 : CWd RL 95 yX7_spray cX7_spray 2 (some .int) 1 := ⟨m_ml_L_95, m_co_X7_spray, m_ini_X7, by decide +kernel, by decide +kernel⟩
set_option maxRecDepth 100000 in
set_option maxHeartbeats 4000000 in
theorem case_spray {p : Program} {l : Launch} (hfl : l.stackTraces = false) {e : Env} {s : State} {m : MethodId} {args : Array Value} {below : List Frame} {meth : Method} {c : Code} {Q : State → Prop} {D : va_G} {A : Nat → Prop} {b L i : Nat} {xs : Nat → Int32} (hX : va_X b L xs s s.heap) (hbl : b < s.heap.size) (hbA : ¬ A b) (hL : L ≤ 3072) (hi : 6 * i + 5 < L) (B : BK p l e s m args below meth c Q D A b i) {E : En} {σ : St} {mm : Nat} {H : Heap} {locs : List Loc} {cells slots : Nat} {ls : Array Slot} (C : CX p s m meth c cL_law RL 9 D E A) (h : HW D E σ A s H locs) (hR : RR σ σ mm (en E) i) (hm : mm ≤ 500 * i) (hc : cells ≤ 64 + 10 * i) (hs : slots ≤ 512 + 60 * i) (hl : lv_has ls 9 (LV E b i)) : W p l e room_1 s m args below meth c H locs cells slots Q (F0 m 212 ls []) := by
  have ok := hR.ok rfl
  have hl : lv_has ls 9 [(5, .int (nI (6 * i))), (4, .ref (ead E 36)), (3, .ref (ead E 35)), (2, .ref (ead E 15)), (1, .ref (ead E 0)), (0, .ref b)] := hl
  refine lv_aload_n C.x C.b dL_law_212 rfl (lv_at hl 4 rfl) ?_
  refine lv_aload_n C.x C.b dL_law_213 rfl (lv_at hl 5 rfl) ?_
  refine lv_iload C.x C.b dL_law_214 (lv_at hl 0 rfl) ?_
  refine lv_iconst (v := 1) C.x C.b dL_law_216 (by decide) ?_
  refine lv_iadd C.x C.b dL_law_217 ?_
  refine ldS (j := 6 * i + 1) C h hX hbl hbA hL (by omega) (nI_add (6 * i) 1) dL_law_218 ?_
  refine lv_aload_n C.x C.b dL_law_219 rfl (lv_at hl 2 rfl) ?_
  refine caL (As := [.ref (ead E 0), .int (xs (6 * i + 1)), .ref (ead E 35)]) (rest := []) C h (M_L_spray l hfl D E σ ok (xs (6 * i + 1))) cl_L_spray rfl rfl ⟨Nat.le_of_ble_eq_true rfl, Nat.le_of_ble_eq_true rfl⟩ hl rfl (Nat.le_of_ble_eq_true rfl) dL_law_220 ⟨by show cells + 10 ≤ 601024; omega, by show slots + 60 ≤ 7293034; omega⟩ (fun r u H locs hp h => ?_)
  obtain ⟨hr, hp0, hp1⟩ := hp
  have Bq := B_spray hR (xs (6 * i + 1))
  by_cases e0 : (S_X6_spray σ (xs (6 * i + 1))).1 = 0
  · obtain rfl := hp0 e0
    have eS : LST (S_X6_spray σ (xs (6 * i + 1))) σ = (S_X6_spray σ (xs (6 * i + 1))).2.2 := if_pos e0
    rw [eS] at Bq
    obtain ⟨bq1, bq2, -⟩ := Bq
    obtain ⟨bq3, m', bq4, bq5⟩ := bq2 e0
    have okm : OK (setO E (S_X6_spray σ (xs (6 * i + 1))).2.1.toInt64) (S_X6_spray σ (xs (6 * i + 1))).2.2 := O_spray hR (xs (6 * i + 1)) e0 rfl
    have C : CX p s m meth c cL_law RL 9 D (setO E (S_X6_spray σ (xs (6 * i + 1))).2.1.toInt64) A := C
    have h : HW D (setO E (S_X6_spray σ (xs (6 * i + 1))).2.1.toInt64) (S_X6_spray σ (xs (6 * i + 1))).2.2 A s H locs := h
    have hl : lv_has ls 9 [(5, .int (nI (6 * i))), (4, .ref (ead (setO E (S_X6_spray σ (xs (6 * i + 1))).2.1.toInt64) 36)), (3, .ref (ead (setO E (S_X6_spray σ (xs (6 * i + 1))).2.1.toInt64) 35)), (2, .ref (ead (setO E (S_X6_spray σ (xs (6 * i + 1))).2.1.toInt64) 15)), (1, .ref (ead (setO E (S_X6_spray σ (xs (6 * i + 1))).2.1.toInt64) 0)), (0, .ref b)] := hl
    refine lv_istore (lv' := [(6, .int r), (5, .int (nI (6 * i))), (4, .ref (ead (setO E (S_X6_spray σ (xs (6 * i + 1))).2.1.toInt64) 36)), (3, .ref (ead (setO E (S_X6_spray σ (xs (6 * i + 1))).2.1.toInt64) 35)), (2, .ref (ead (setO E (S_X6_spray σ (xs (6 * i + 1))).2.1.toInt64) 15)), (1, .ref (ead (setO E (S_X6_spray σ (xs (6 * i + 1))).2.1.toInt64) 0)), (0, .ref b)]) C.x C.b dL_law_223 hl (by decide) rfl (fun ls hl => ?_)
    refine lv_aload_n C.x C.b dL_law_225 rfl (lv_at hl 4 rfl) ?_
    refine lv_aload_n C.x C.b dL_law_226 rfl (lv_at hl 6 rfl) ?_
    refine lv_iload C.x C.b dL_law_227 (lv_at hl 1 rfl) ?_
    refine lv_iconst (v := 1) C.x C.b dL_law_229 (by decide) ?_
    refine lv_iadd C.x C.b dL_law_230 ?_
    refine ldS (j := 6 * i + 1) C h hX hbl hbA hL (by omega) (nI_add (6 * i) 1) dL_law_231 ?_
    refine caVi (As := [.int (xs (6 * i + 1))]) (rest := []) (q0 := 15) (ci := 7) C h (M_X7_spray l D _ _ okm (xs (6 * i + 1))) cw_L_95 m_im_X7_spray m_se_X7_spray rfl rfl ⟨Nat.le_of_ble_eq_true rfl, Nat.le_of_ble_eq_true rfl⟩ rfl rfl hl rfl (Nat.le_of_ble_eq_true rfl) dL_law_232 ⟨by show cells + 10 + 0 ≤ 601024; omega, by show slots + 60 + 0 ≤ 7293034; omega⟩ (fun r2 u H locs hw h => ?_)
    obtain ⟨rfl, rfl⟩ := hw
    refine lv_istore (lv' := [(7, .int (S_X7_spray (S_X6_spray σ (xs (6 * i + 1))).2.2 (xs (6 * i + 1))).1), (6, .int r), (5, .int (nI (6 * i))), (4, .ref (ead (setO E (S_X6_spray σ (xs (6 * i + 1))).2.1.toInt64) 36)), (3, .ref (ead (setO E (S_X6_spray σ (xs (6 * i + 1))).2.1.toInt64) 35)), (2, .ref (ead (setO E (S_X6_spray σ (xs (6 * i + 1))).2.1.toInt64) 15)), (1, .ref (ead (setO E (S_X6_spray σ (xs (6 * i + 1))).2.1.toInt64) 0)), (0, .ref b)]) C.x C.b dL_law_235 hl (by decide) rfl (fun ls hl => ?_)
    refine lv_aload_n C.x C.b dL_law_237 rfl (lv_at hl 5 rfl) ?_
    have okt : OK (setO E (S_X6_spray σ (xs (6 * i + 1))).2.1.toInt64) (S_X7_spray (S_X6_spray σ (xs (6 * i + 1))).2.2 (xs (6 * i + 1))).2 := bq5.ok rfl
    refine caVi (As := []) (rest := []) (q0 := 15) (ci := 7) C h (M_X7_thrown l D _ _ okt) cw_L_88 m_im_X7_thrown m_se_X7_thrown rfl rfl ⟨Nat.le_of_ble_eq_true rfl, Nat.le_of_ble_eq_true rfl⟩ rfl rfl hl rfl (Nat.le_of_ble_eq_true rfl) dL_law_238 ⟨by show cells + 10 + 0 + 0 ≤ 601024; omega, by show slots + 60 + 0 + 0 ≤ 7293034; omega⟩ (fun r3 u H locs hw h => ?_)
    obtain ⟨rfl, rfl⟩ := hw
    refine lv_iload C.x C.b dL_law_241 (lv_at hl 1 rfl) ?_
    have ek : S_X7_thrown (S_X7_spray (S_X6_spray σ (xs (6 * i + 1))).2.2 (xs (6 * i + 1))).2 = r := bq1.trans hr
    refine lv_icmp_eq (tgt := 248) C.x C.b dL_law_243 (by decide) (fun _ => ?_) (fun q => absurd ek q)
    refine lv_iload C.x C.b dL_law_248 (lv_at hl 1 rfl) ?_
    have er : r = 0 := by rw [← hr, e0]; rfl
    refine lv_if_ne (tgt := 265) C.x C.b dL_law_250 (by decide) (fun q => absurd er q) (fun _ => ?_)
    refine lv_aload_n C.x C.b dL_law_253 rfl (lv_at hl 4 rfl) ?_
    refine lv_iconst (v := 0) C.x C.b dL_law_254 (by decide) ?_
    refine ldL C h dL_law_255 ?_
    refine lv_iload C.x C.b dL_law_256 (lv_at hl 0 rfl) ?_
    refine lv_i2l (v := (S_X7_spray (S_X6_spray σ (xs (6 * i + 1))).2.2 (xs (6 * i + 1))).1.toInt64) C.x C.b dL_law_258 rfl ?_
    refine lcE C (show (S_X6_spray σ (xs (6 * i + 1))).2.1.toInt64 = (S_X7_spray (S_X6_spray σ (xs (6 * i + 1))).2.2 (xs (6 * i + 1))).1.toInt64 by rw [bq3]) dL_law_259 ?_
    refine lv_if_eq (tgt := 265) C.x C.b dL_law_260 (by decide) (fun _ => ?_) (fun q => absurd rfl q)
    refine lv_goto (tgt := 1410) C.x C.b dL_law_265 (by decide) ?_
    exact B (setO E (S_X6_spray σ (xs (6 * i + 1))).2.1.toInt64) (S_X7_spray (S_X6_spray σ (xs (6 * i + 1))).2.2 (xs (6 * i + 1))).2 m' H locs _ _ ls C h bq5 (by omega) (by show cells + 10 + 0 + 0 ≤ _; omega) (by show slots + 60 + 0 + 0 ≤ _; omega) (lv_sub hl [2, 3, 4, 5, 6, 7] rfl)
  · obtain rfl := hp1 e0
    have eS : LST (S_X6_spray σ (xs (6 * i + 1))) σ = σ := if_neg e0
    rw [eS] at Bq
    obtain ⟨bq1, -, bq2⟩ := Bq
    have bq5 := bq2 e0
    have okm : OK E σ := ok
    have C : CX p s m meth c cL_law RL 9 D E A := C
    have h : HW D E σ A s H locs := h
    have hl : lv_has ls 9 [(5, .int (nI (6 * i))), (4, .ref (ead E 36)), (3, .ref (ead E 35)), (2, .ref (ead E 15)), (1, .ref (ead E 0)), (0, .ref b)] := hl
    refine lv_istore (lv' := [(6, .int r), (5, .int (nI (6 * i))), (4, .ref (ead E 36)), (3, .ref (ead E 35)), (2, .ref (ead E 15)), (1, .ref (ead E 0)), (0, .ref b)]) C.x C.b dL_law_223 hl (by decide) rfl (fun ls hl => ?_)
    refine lv_aload_n C.x C.b dL_law_225 rfl (lv_at hl 4 rfl) ?_
    refine lv_aload_n C.x C.b dL_law_226 rfl (lv_at hl 6 rfl) ?_
    refine lv_iload C.x C.b dL_law_227 (lv_at hl 1 rfl) ?_
    refine lv_iconst (v := 1) C.x C.b dL_law_229 (by decide) ?_
    refine lv_iadd C.x C.b dL_law_230 ?_
    refine ldS (j := 6 * i + 1) C h hX hbl hbA hL (by omega) (nI_add (6 * i) 1) dL_law_231 ?_
    refine caVi (As := [.int (xs (6 * i + 1))]) (rest := []) (q0 := 15) (ci := 7) C h (M_X7_spray l D _ _ okm (xs (6 * i + 1))) cw_L_95 m_im_X7_spray m_se_X7_spray rfl rfl ⟨Nat.le_of_ble_eq_true rfl, Nat.le_of_ble_eq_true rfl⟩ rfl rfl hl rfl (Nat.le_of_ble_eq_true rfl) dL_law_232 ⟨by show cells + 10 + 0 ≤ 601024; omega, by show slots + 60 + 0 ≤ 7293034; omega⟩ (fun r2 u H locs hw h => ?_)
    obtain ⟨rfl, rfl⟩ := hw
    refine lv_istore (lv' := [(7, .int (S_X7_spray σ (xs (6 * i + 1))).1), (6, .int r), (5, .int (nI (6 * i))), (4, .ref (ead E 36)), (3, .ref (ead E 35)), (2, .ref (ead E 15)), (1, .ref (ead E 0)), (0, .ref b)]) C.x C.b dL_law_235 hl (by decide) rfl (fun ls hl => ?_)
    refine lv_aload_n C.x C.b dL_law_237 rfl (lv_at hl 5 rfl) ?_
    have okt : OK E (S_X7_spray σ (xs (6 * i + 1))).2 := bq5.ok rfl
    refine caVi (As := []) (rest := []) (q0 := 15) (ci := 7) C h (M_X7_thrown l D _ _ okt) cw_L_88 m_im_X7_thrown m_se_X7_thrown rfl rfl ⟨Nat.le_of_ble_eq_true rfl, Nat.le_of_ble_eq_true rfl⟩ rfl rfl hl rfl (Nat.le_of_ble_eq_true rfl) dL_law_238 ⟨by show cells + 10 + 0 + 0 ≤ 601024; omega, by show slots + 60 + 0 + 0 ≤ 7293034; omega⟩ (fun r3 u H locs hw h => ?_)
    obtain ⟨rfl, rfl⟩ := hw
    refine lv_iload C.x C.b dL_law_241 (lv_at hl 1 rfl) ?_
    have ek : S_X7_thrown (S_X7_spray σ (xs (6 * i + 1))).2 = r := bq1.trans hr
    refine lv_icmp_eq (tgt := 248) C.x C.b dL_law_243 (by decide) (fun _ => ?_) (fun q => absurd ek q)
    refine lv_iload C.x C.b dL_law_248 (lv_at hl 1 rfl) ?_
    refine lv_if_ne (tgt := 265) C.x C.b dL_law_250 (by decide) (fun _ => ?_) (fun q => absurd q hne)
    refine lv_goto (tgt := 1410) C.x C.b dL_law_265 (by decide) ?_
    exact B E (S_X7_spray σ (xs (6 * i + 1))).2 mm H locs _ _ ls C h bq5 (by omega) (by show cells + 10 + 0 + 0 ≤ _; omega) (by show slots + 60 + 0 + 0 ≤ _; omega) (lv_sub hl [2, 3, 4, 5, 6, 7] rfl)
