/-! the law's loop (by program) -/
def CLd (own : String) (index : Nat) (y : MethodName) (bytes : ByteArray) (maxL : Nat) (hh : List (Nat × Nat × Nat × Nat)) (n : Nat) : Prop :=
  Cond.methodLink own index y ∈ wsL_law ∧ Cond.codeWith y bytes maxL (some .int) hh ∈ wsL_law ∧ Cond.initialized y.cls ∈ wsL_law ∧ (y.cls ≠ "java/lang/invoke/MethodHandle" ∧ y.cls ≠ "java/lang/invoke/VarHandle") ∧ (parseMethodDescriptor y.desc).map (fun d => d.parameters.length) = some n ∧ Cond.static y ∈ wsL_law
/-- the class between a helper's end and the reference's call -/
theorem ok_mid {σ σ1 τ1 : St} {m n c m' n' c' : Nat} {E1 : En} (h : RR σ σ m n c) (q : RR σ1 τ1 m' n' c') (hn : n' = en E1) (hle : n ≤ n') (hf : ∀ f i, 40 ≤ f → σ1 f i = σ f i) : OK E1 σ1 := by
  subst hn
  have o1 := h.ok (E := (fun _ => 0, fun _ => 0, n, fun _ => 0, fun _ => 0)) rfl
  obtain ⟨h1, ⟨w1, w2, w3, w4, w5, w6⟩, h3, h4, h5, h6, ⟨n1, n2, n3⟩, h8, h9⟩ := q
  have hf3 : vp_in (σ1 3 0) 4 := by
    rcases w5 with q | q | q | q <;> rw [q]
    · exact vp_in_nI (n := 0) (by decide) (by decide)
    · exact vp_in_nI (n := 1) (by decide) (by decide)
    · exact vp_in_nI (n := 2) (by decide) (by decide)
    · exact vp_in_nI (n := 3) (by decide) (by decide)
  refine ⟨n1, n2, ⟨n, hle, by rw [hf 55 0 (by decide)]; exact h.nr⟩, hf3, by rw [hf 43 0 (by decide)]; exact o1.2.2.2.2.1, fun k => ?_, fun k => by rw [hf 66 k (by decide)]; exact o1.2.2.2.2.2.2 k⟩
  by_cases q : k < en E1
  · obtain ⟨_, _, _, _, _, _, _, _, _, _, _, _, _, f, hf, e⟩ := h8 k q
    rw [e]
    exact vp_in_nI hf (by decide)
  · rw [(h9 k (by omega)).1]
    exact in3_0
theorem RR.lst {σ : St} {m n c : Nat} {T : Nat × Int32 × St} (h : RR σ σ m n c) (h6 : ∀ f i, 40 ≤ f → T.2.2 f i = σ f i) : RR σ (LST T σ) m n c := h.cgr (fun f i q => by
  unfold LST
  split
  · exact h6 f i (by omega)
  · rfl)
/-- what a call of both comes to, over one state -/
def BQ (σ1 : St) (m n c a b n' : Nat) (T : Nat × Int32 × St) (U : Int32 × St) : Prop := U.2 40 0 = wcd a b T.1 ∧ (T.1 = 0 → U.1 = T.2.1 ∧ ∃ m' : Nat, m' ≤ m + 500 ∧ RR U.2 U.2 m' n' (c + 1)) ∧ (¬ T.1 = 0 → RR U.2 U.2 m n (c + 1))
theorem BLx {σ : St} {m n c a b n' : Nat} {T : Nat × Int32 × St} {U : Int32 × St} (hA : AL σ m n c a b n' T U) (h7 : ∀ f i, f < 40 → U.2 f i = LST T σ f i) : BQ (LST T σ) m n c a b n' T U := by
  obtain ⟨a1, a2, a3⟩ := hA
  refine ⟨a1, fun q => ?_, fun q => ?_⟩
  · obtain ⟨b1, m', b2, b3⟩ := a2 q
    refine ⟨b1, m', b2, b3.cgc (fun f i z => ?_)⟩
    rw [h7 _ _ z]
    unfold LST
    rw [if_pos q]
  · refine (a3 q).cgc (fun f i z => ?_)
    rw [h7 _ _ z]
    unfold LST
    rw [if_neg q]
theorem OKx {σ : St} {m n c a b n' : Nat} {T : Nat × Int32 × St} {U : Int32 × St} {E1 : En} (h : RR σ σ m n c) (hA : AL σ m n c a b n' T U) (h6 : ∀ f i, 40 ≤ f → T.2.2 f i = σ f i) (e0 : T.1 = 0) (hn : n' = en E1) (hle : n ≤ n') : OK E1 T.2.2 := by
  obtain ⟨-, a2, -⟩ := hA
  obtain ⟨-, m', -, b3⟩ := a2 e0
  exact ok_mid h b3 hn hle h6
theorem wcd_ne {a b k : Nat} (h : ¬ k = 0) : ¬ wcd a b k = 0 := by
  unfold wcd
  rw [if_neg h]
  split
  · decide
  · split <;> decide
theorem BW0 {σ : St} {m n c : Nat} {E1 : En} (h : RR σ σ m n c) (hn : n = en E1) (p1 p2 p3 p4 : Int32) (e0 : (S_X6_weather σ p1 p2 p3 p4).1 = 0) : S_X7_weather (S_X6_weather σ p1 p2 p3 p4).2 p1 p2 p3 p4 40 0 = wcd 2 9 (S_X6_weather σ p1 p2 p3 p4).1 ∧ RR (S_X7_weather (S_X6_weather σ p1 p2 p3 p4).2 p1 p2 p3 p4) (S_X7_weather (S_X6_weather σ p1 p2 p3 p4).2 p1 p2 p3 p4) m n (c + 1) ∧ OK E1 (S_X6_weather σ p1 p2 p3 p4).2 := by
  have h1 : RR σ (S_X6_weather σ p1 p2 p3 p4).2 m n c := h.cgr (fun f i q => F6_weather (by omega) σ p1 p2 p3 p4)
  obtain ⟨a1, a2, -⟩ := A_weather h1 p1 p2 p3 p4
  exact ⟨a1, (a2 e0).cgc (fun f i q => F7_weather q _ p1 p2 p3 p4), ok_mid h (a2 e0) hn (Nat.le_refl _) (fun f i q => F6_weather q σ p1 p2 p3 p4)⟩
theorem BW1 {σ : St} {m n c : Nat} (h : RR σ σ m n c) (p1 p2 p3 p4 : Int32) (e0 : ¬ (S_X6_weather σ p1 p2 p3 p4).1 = 0) : S_X7_weather σ p1 p2 p3 p4 40 0 = wcd 2 9 (S_X6_weather σ p1 p2 p3 p4).1 ∧ RR (S_X7_weather σ p1 p2 p3 p4) (S_X7_weather σ p1 p2 p3 p4) m n (c + 1) := by
  obtain ⟨a1, -, a2⟩ := A_weather h p1 p2 p3 p4
  exact ⟨a1, (a2 e0).cgc (fun f i q => F7_weather q _ p1 p2 p3 p4)⟩
theorem clk_val {σ : St} {p1 : Int32} (e0 : (S_X6_clock σ p1).1 = 0) : (S_X6_clock σ p1).2.1 = S_X6_clockLeft σ p1.toNatClampNeg := by
  unfold S_X6_clock S_X6_clock_25 at *
  rw [rqp0, rqp1] at *
  by_cases c1 : S_X6_requireIndex p1 (σ 1 0) = 0
  · rw [if_pos c1] at *
    by_cases c2 : σ 30 p1.toNatClampNeg ≤ 0
    · rw [if_pos c2, if_neg (show ¬ (3 : Nat) = 0 by decide)] at e0
      exact absurd e0 (show ¬ (3 : Nat) = 0 by decide)
    · rw [if_neg c2, if_pos rfl]
  · rw [if_neg c1] at e0
    exact absurd e0 c1
theorem BCk {σ : St} {m n c : Nat} (hc : c < 100000) (h : RR σ σ m n c) (p1 : Int32) : (S_X7_clock σ p1).2 40 0 = wcd 1 3 (S_X6_clock σ p1).1 ∧ RR (S_X7_clock σ p1).2 (S_X7_clock σ p1).2 m n (c + 1) ∧ (S_X6_clock σ p1).2.2 = σ ∧ ((S_X6_clock σ p1).1 = 0 → Op.cmpValue (FP.dcmp (S_X6_clock σ p1).2.1 (S_X7_clock σ p1).1) CmpOp.l = 0) := by
  obtain ⟨a1, a2, a3, a4⟩ := A_clock hc h p1
  refine ⟨a1, a4.cgc (fun f i q => F7_clock q σ p1), a3, fun e0 => ?_⟩
  rw [a2 e0, clk_val e0]
  exact (ky_e σ _ _).mpr rfl
section LAW2
variable {p : Program} {l : Launch} {e : Env} {R : Room} {s : State} {m : MethodId} {args : Array Value} {below : List Frame} {meth : Method} {c : Code} {H : Heap} {locs : List Loc} {cells slots : Nat} {Q : State → Prop}
variable {cc : ByteArray} {own : String} {nL : Nat} {D : va_G} {E : En} {A : Nat → Prop} {σ : St} {pc : Nat} {ls : Array Slot} {rest : List Value}
theorem lcE {x y : Int64} (C : CX p s m meth c cc own nL D E A) (h : x = y) (dg : decode cc pc = .ok (.lcmp, 1)) (k : W p l e R s m args below meth c H locs cells slots Q (F0 m (pc + 1) ls (.int 0 :: rest))) : W p l e R s m args below meth c H locs cells slots Q (F0 m pc ls (.long y :: .long x :: rest)) := by
  subst h
  have hexec := C.x
  have hb := C.b
  intro T hT X
  obtain ⟨t, a, b⟩ := k T hT X
  refine ⟨t, ?_, b⟩
  jvm_step X.here [X.here.top, hexec, hb, dg]
  exact a
theorem ldS {b L j : Nat} {xs : Nat → Int32} {x : Int32} (C : CX p s m meth c cc own nL D E A) (h : HW D E σ A s H locs) (hX : va_X b L xs s s.heap) (hbl : b < s.heap.size) (hbA : ¬ A b) (hL : L ≤ 3072) (hj : j < L) (ex : x = nI j) (dg : decode cc pc = .ok (.iaload, 1)) (kk : W p l e R s m args below meth c H locs cells slots Q (F0 m (pc + 1) ls (.int (xs j) :: rest))) : W p l e R s m args below meth c H locs cells slots Q (F0 m pc ls (.int x :: .ref b :: rest)) := by
  subst ex
  refine va_sld C.x C.b hX hbl hbA h.2.2 (vp_in_nI hj (by omega)) dg ?_
  rw [nI_clamp (by omega)]
  exact kk
theorem ldL (C : CX p s m meth c cc own nL D E A) (h : HW D E σ A s H locs) (dg : decode cc pc = .ok (.laload, 1)) (kk : W p l e R s m args below meth c H locs cells slots Q (F0 m (pc + 1) ls (.long (eo E 0) :: rest))) : W p l e R s m args below meth c H locs cells slots Q (F0 m pc ls (.int 0 :: .ref (ead E 35) :: rest)) :=
  va_lald C.x C.b C.k h.1 35 4 rfl rfl (vp_in_nI (n := 0) (N := 1) (by decide) (by decide)) dg kk
theorem ldD (C : CX p s m meth c cc own nL D E A) (h : HW D E σ A s H locs) (dg : decode cc pc = .ok (.daload, 1)) (kk : W p l e R s m args below meth c H locs cells slots Q (F0 m (pc + 1) ls (.double (ed E 0) :: rest))) : W p l e R s m args below meth c H locs cells slots Q (F0 m pc ls (.int 0 :: .ref (ead E 36) :: rest)) :=
  va_dald C.x C.b C.k h.1 36 5 rfl rfl (vp_in_nI (n := 0) (N := 1) (by decide) (by decide)) dg kk
theorem caL {hls : List (Nat × Value)} {y : MethodName} {bytes : ByteArray} {maxL mc ms index : Nat} {hh : List (Nat × Nat × Nat × Nat)} {rm : Room} {As : List Value} {stk : List Value} {post : Int32 → En × St → Prop} (C : CX p s m meth c cc own nL D E A) (h : HW D E σ A s H locs) (hM : CL l y bytes maxL hh rm As D E σ post mc ms) (w : CLd own index y bytes maxL hh As.length) (hrc : rm.cells = mc) (hrs : rm.slots = ms) (hR : rm.frames + 1 ≤ R.frames ∧ 8 + (maxL + 11) + rm.locals ≤ R.locals) (hl : lv_has ls nL hls) (hst : stk = As.reverse ++ rest) (hW : (rest.map fun v => v.category).sum ≤ 8) (dg : decode cc pc = .ok (.invokestatic index, 3)) (hf : cells + mc ≤ R.cells ∧ slots + ms ≤ R.slots)
    (kk : ∀ (r : Int32) (u : En × St) (H1 : Heap) (locs1 : List Loc), post r u → HW D u.1 u.2 A s H1 locs1 → W p l e R s m args below meth c H1 locs1 (cells + mc) (slots + ms) Q (F0 m (pc + 3) ls (.int r :: rest))) : W p l e R s m args below meth c H locs cells slots Q (F0 m pc ls stk) := by
  obtain ⟨w1, w2, w3, w4, w5, w6⟩ := w
  refine va_calli (vx_runSW ⟨C.x, C.b, C.ml, C.ow, C.tb.args args⟩ (hM H.size) ⟨⟨hrc, hrs, hR.1, hR.2, fun w hw a' U hW => ?_, List.mem_singleton.mpr rfl⟩, C.w args w2, C.w args w3, w4, fun sig h => ?_, C.w args w1, C.w args w6⟩ ⟨pre_blind, pre_at C h _⟩ rfl rfl hl.1 hst (lv_room hW) dg hf) h.2.2 (fun q _ => fr C h q) (fr C h) (fun r u t H1 locs1 ht hvm hw hB hz hk hS => kk r u H1 locs1 hw ⟨by rw [← ht]; exact hB.1, hB.2.2.weaken (fun _ _ _ q => fr C h _ q), hS⟩)
  · rw [List.mem_singleton.mp hw]
    exact word_at hW (good_of_word (tb_good _ w2)) (C.w args w2)
  · rw [h] at w5
    exact (Option.some.inj w5).symm
/-- the law's locals at the head -/
def LV (E : En) (b i : Nat) : List (Nat × Value) := [(5, .int (nI (6 * i))), (4, .ref (ead E 36)), (3, .ref (ead E 35)), (2, .ref (ead E 15)), (1, .ref (ead E 0)), (0, .ref b)]
/-- the walk from the end of a case -/
def BK (p : Program) (l : Launch) (e : Env) (s : State) (m : MethodId) (args : Array Value) (below : List Frame) (meth : Method) (c : Code) (Q : State → Prop) (D : va_G) (A : Nat → Prop) (b i : Nat) : Prop :=
  ∀ (E : En) (σ : St) (mm : Nat) (H : Heap) (locs : List Loc) (cells slots : Nat) (ls : Array Slot), CX p s m meth c cL_law RL 9 D E A → HW D E σ A s H locs → RR σ σ mm (en E) (i + 1) → mm ≤ 500 * (i + 1) → cells ≤ 64 + 10 * (i + 1) → slots ≤ 512 + 60 * (i + 1) → lv_has ls 9 (LV E b i) → W p l e room_1 s m args below meth c H locs cells slots Q (F0 m 1410 ls [])
end LAW2
theorem cw_L_88 : CWd RL 88 yX7_thrown cX7_thrown 1 (some .int) 0 := ⟨m_ml_L_88, m_co_X7_thrown, m_ini_X7, by decide +kernel, by decide +kernel⟩
theorem cl_L_weather : CLd RL 82 yL_weather cL_weather 6 [(0, 9, 12, 13)] 5 := ⟨m_ml_L_82, m_cw_L_weather, m_ini_L, by decide +kernel, by decide +kernel, m_st_L_weather⟩
theorem cw_L_87 : CWd RL 87 yX7_weather cX7_weather 5 none 4 := ⟨m_ml_L_87, m_co_X7_weather, m_ini_X7, by decide +kernel, by decide +kernel⟩
set_option maxRecDepth 100000 in
set_option maxHeartbeats 4000000 in
theorem case_weather {p : Program} {l : Launch} (hfl : l.stackTraces = false) {e : Env} {s : State} {m : MethodId} {args : Array Value} {below : List Frame} {meth : Method} {c : Code} {Q : State → Prop} {D : va_G} {A : Nat → Prop} {b L i : Nat} {xs : Nat → Int32} (hX : va_X b L xs s s.heap) (hbl : b < s.heap.size) (hbA : ¬ A b) (hL : L ≤ 3072) (hi : 6 * i + 5 < L) (B : BK p l e s m args below meth c Q D A b i) {E : En} {σ : St} {mm : Nat} {H : Heap} {locs : List Loc} {cells slots : Nat} {ls : Array Slot} (C : CX p s m meth c cL_law RL 9 D E A) (h : HW D E σ A s H locs) (hR : RR σ σ mm (en E) i) (hm : mm ≤ 500 * i) (hc : cells ≤ 64 + 10 * i) (hs : slots ≤ 512 + 60 * i) (hl : lv_has ls 9 (LV E b i)) : W p l e room_1 s m args below meth c H locs cells slots Q (F0 m 140 ls []) := by
  have ok := hR.ok rfl
  have hl : lv_has ls 9 [(5, .int (nI (6 * i))), (4, .ref (ead E 36)), (3, .ref (ead E 35)), (2, .ref (ead E 15)), (1, .ref (ead E 0)), (0, .ref b)] := hl
  refine lv_aload_n C.x C.b dL_law_140 rfl (lv_at hl 4 rfl) ?_
  refine lv_aload_n C.x C.b dL_law_141 rfl (lv_at hl 5 rfl) ?_
  refine lv_iload C.x C.b dL_law_142 (lv_at hl 0 rfl) ?_
  refine lv_iconst (v := 1) C.x C.b dL_law_144 (by decide) ?_
  refine lv_iadd C.x C.b dL_law_145 ?_
  refine ldS (j := 6 * i + 1) C h hX hbl hbA hL (by omega) (nI_add (6 * i) 1) dL_law_146 ?_
  refine lv_aload_n C.x C.b dL_law_147 rfl (lv_at hl 5 rfl) ?_
  refine lv_iload C.x C.b dL_law_148 (lv_at hl 0 rfl) ?_
  refine lv_iconst (v := 2) C.x C.b dL_law_150 (by decide) ?_
  refine lv_iadd C.x C.b dL_law_151 ?_
  refine ldS (j := 6 * i + 2) C h hX hbl hbA hL (by omega) (nI_add (6 * i) 2) dL_law_152 ?_
  refine lv_aload_n C.x C.b dL_law_153 rfl (lv_at hl 5 rfl) ?_
  refine lv_iload C.x C.b dL_law_154 (lv_at hl 0 rfl) ?_
  refine lv_iconst (v := 3) C.x C.b dL_law_156 (by decide) ?_
  refine lv_iadd C.x C.b dL_law_157 ?_
  refine ldS (j := 6 * i + 3) C h hX hbl hbA hL (by omega) (nI_add (6 * i) 3) dL_law_158 ?_
  refine lv_aload_n C.x C.b dL_law_159 rfl (lv_at hl 5 rfl) ?_
  refine lv_iload C.x C.b dL_law_160 (lv_at hl 0 rfl) ?_
  refine lv_iconst (v := 4) C.x C.b dL_law_162 (by decide) ?_
  refine lv_iadd C.x C.b dL_law_163 ?_
  refine ldS (j := 6 * i + 4) C h hX hbl hbA hL (by omega) (nI_add (6 * i) 4) dL_law_164 ?_
  refine caL (As := [.ref (ead E 0), .int (xs (6 * i + 1)), .int (xs (6 * i + 2)), .int (xs (6 * i + 3)), .int (xs (6 * i + 4))]) (rest := []) C h (M_L_weather l hfl D E σ ok (xs (6 * i + 1)) (xs (6 * i + 2)) (xs (6 * i + 3)) (xs (6 * i + 4))) cl_L_weather rfl rfl ⟨Nat.le_of_ble_eq_true rfl, Nat.le_of_ble_eq_true rfl⟩ hl rfl (Nat.le_of_ble_eq_true rfl) dL_law_165 ⟨by show cells + 10 ≤ 601024; omega, by show slots + 60 ≤ 7293034; omega⟩ (fun r u H locs hp h => ?_)
  obtain ⟨hr, hp0, hp1⟩ := hp
  by_cases e0 : (S_X6_weather σ (xs (6 * i + 1)) (xs (6 * i + 2)) (xs (6 * i + 3)) (xs (6 * i + 4))).1 = 0
  · obtain rfl := hp0 e0
    obtain ⟨bq1, bq5, okm⟩ := BW0 (E1 := E) hR rfl (xs (6 * i + 1)) (xs (6 * i + 2)) (xs (6 * i + 3)) (xs (6 * i + 4)) e0
    have C : CX p s m meth c cL_law RL 9 D E A := C
    have h : HW D E (S_X6_weather σ (xs (6 * i + 1)) (xs (6 * i + 2)) (xs (6 * i + 3)) (xs (6 * i + 4))).2 A s H locs := h
    have hl : lv_has ls 9 [(5, .int (nI (6 * i))), (4, .ref (ead E 36)), (3, .ref (ead E 35)), (2, .ref (ead E 15)), (1, .ref (ead E 0)), (0, .ref b)] := hl
    refine lv_istore (lv' := [(6, .int r), (5, .int (nI (6 * i))), (4, .ref (ead E 36)), (3, .ref (ead E 35)), (2, .ref (ead E 15)), (1, .ref (ead E 0)), (0, .ref b)]) C.x C.b dL_law_168 hl (by decide) rfl (fun ls hl => ?_)
    refine lv_aload_n C.x C.b dL_law_170 rfl (lv_at hl 4 rfl) ?_
    refine lv_aload_n C.x C.b dL_law_171 rfl (lv_at hl 6 rfl) ?_
    refine lv_iload C.x C.b dL_law_172 (lv_at hl 1 rfl) ?_
    refine lv_iconst (v := 1) C.x C.b dL_law_174 (by decide) ?_
    refine lv_iadd C.x C.b dL_law_175 ?_
    refine ldS (j := 6 * i + 1) C h hX hbl hbA hL (by omega) (nI_add (6 * i) 1) dL_law_176 ?_
    refine lv_aload_n C.x C.b dL_law_177 rfl (lv_at hl 6 rfl) ?_
    refine lv_iload C.x C.b dL_law_178 (lv_at hl 1 rfl) ?_
    refine lv_iconst (v := 2) C.x C.b dL_law_180 (by decide) ?_
    refine lv_iadd C.x C.b dL_law_181 ?_
    refine ldS (j := 6 * i + 2) C h hX hbl hbA hL (by omega) (nI_add (6 * i) 2) dL_law_182 ?_
    refine lv_aload_n C.x C.b dL_law_183 rfl (lv_at hl 6 rfl) ?_
    refine lv_iload C.x C.b dL_law_184 (lv_at hl 1 rfl) ?_
    refine lv_iconst (v := 3) C.x C.b dL_law_186 (by decide) ?_
    refine lv_iadd C.x C.b dL_law_187 ?_
    refine ldS (j := 6 * i + 3) C h hX hbl hbA hL (by omega) (nI_add (6 * i) 3) dL_law_188 ?_
    refine lv_aload_n C.x C.b dL_law_189 rfl (lv_at hl 6 rfl) ?_
    refine lv_iload C.x C.b dL_law_190 (lv_at hl 1 rfl) ?_
    refine lv_iconst (v := 4) C.x C.b dL_law_192 (by decide) ?_
    refine lv_iadd C.x C.b dL_law_193 ?_
    refine ldS (j := 6 * i + 4) C h hX hbl hbA hL (by omega) (nI_add (6 * i) 4) dL_law_194 ?_
    refine caVv (As := [.int (xs (6 * i + 1)), .int (xs (6 * i + 2)), .int (xs (6 * i + 3)), .int (xs (6 * i + 4))]) (rest := []) (q0 := 15) (ci := 7) C h (M_X7_weather l D _ _ okm (xs (6 * i + 1)) (xs (6 * i + 2)) (xs (6 * i + 3)) (xs (6 * i + 4))) cw_L_87 m_im_X7_weather m_se_X7_weather rfl rfl ⟨Nat.le_of_ble_eq_true rfl, Nat.le_of_ble_eq_true rfl⟩ rfl rfl hl rfl (Nat.le_of_ble_eq_true rfl) dL_law_195 ⟨by show cells + 10 + 0 ≤ 601024; omega, by show slots + 60 + 0 ≤ 7293034; omega⟩ (fun u H locs hw h => ?_)
    obtain rfl := hw
    refine lv_aload_n C.x C.b dL_law_198 rfl (lv_at hl 4 rfl) ?_
    have okt : OK E (S_X7_weather (S_X6_weather σ (xs (6 * i + 1)) (xs (6 * i + 2)) (xs (6 * i + 3)) (xs (6 * i + 4))).2 (xs (6 * i + 1)) (xs (6 * i + 2)) (xs (6 * i + 3)) (xs (6 * i + 4))) := bq5.ok rfl
    refine caVi (As := []) (rest := []) (q0 := 15) (ci := 7) C h (M_X7_thrown l D _ _ okt) cw_L_88 m_im_X7_thrown m_se_X7_thrown rfl rfl ⟨Nat.le_of_ble_eq_true rfl, Nat.le_of_ble_eq_true rfl⟩ rfl rfl hl rfl (Nat.le_of_ble_eq_true rfl) dL_law_199 ⟨by show cells + 10 + 0 + 0 ≤ 601024; omega, by show slots + 60 + 0 + 0 ≤ 7293034; omega⟩ (fun r3 u H locs hw h => ?_)
    obtain ⟨rfl, rfl⟩ := hw
    refine lv_iload C.x C.b dL_law_202 (lv_at hl 0 rfl) ?_
    have ek : S_X7_thrown (S_X7_weather (S_X6_weather σ (xs (6 * i + 1)) (xs (6 * i + 2)) (xs (6 * i + 3)) (xs (6 * i + 4))).2 (xs (6 * i + 1)) (xs (6 * i + 2)) (xs (6 * i + 3)) (xs (6 * i + 4))) = r := bq1.trans hr
    refine lv_icmp_eq (tgt := 209) C.x C.b dL_law_204 (by decide) (fun _ => ?_) (fun q => absurd ek q)
    refine lv_goto (tgt := 1410) C.x C.b dL_law_209 (by decide) ?_
    exact B E (S_X7_weather (S_X6_weather σ (xs (6 * i + 1)) (xs (6 * i + 2)) (xs (6 * i + 3)) (xs (6 * i + 4))).2 (xs (6 * i + 1)) (xs (6 * i + 2)) (xs (6 * i + 3)) (xs (6 * i + 4))) mm H locs _ _ ls C h bq5 (by omega) (by show cells + 10 + 0 + 0 ≤ _; omega) (by show slots + 60 + 0 + 0 ≤ _; omega) (lv_sub hl [1, 2, 3, 4, 5, 6] rfl)
  · obtain rfl := hp1 e0
    obtain ⟨bq1, bq5⟩ := BW1 hR (xs (6 * i + 1)) (xs (6 * i + 2)) (xs (6 * i + 3)) (xs (6 * i + 4)) e0
    have okm : OK E σ := ok
    have C : CX p s m meth c cL_law RL 9 D E A := C
    have h : HW D E σ A s H locs := h
    have hl : lv_has ls 9 [(5, .int (nI (6 * i))), (4, .ref (ead E 36)), (3, .ref (ead E 35)), (2, .ref (ead E 15)), (1, .ref (ead E 0)), (0, .ref b)] := hl
    refine lv_istore (lv' := [(6, .int r), (5, .int (nI (6 * i))), (4, .ref (ead E 36)), (3, .ref (ead E 35)), (2, .ref (ead E 15)), (1, .ref (ead E 0)), (0, .ref b)]) C.x C.b dL_law_168 hl (by decide) rfl (fun ls hl => ?_)
    refine lv_aload_n C.x C.b dL_law_170 rfl (lv_at hl 4 rfl) ?_
    refine lv_aload_n C.x C.b dL_law_171 rfl (lv_at hl 6 rfl) ?_
    refine lv_iload C.x C.b dL_law_172 (lv_at hl 1 rfl) ?_
    refine lv_iconst (v := 1) C.x C.b dL_law_174 (by decide) ?_
    refine lv_iadd C.x C.b dL_law_175 ?_
    refine ldS (j := 6 * i + 1) C h hX hbl hbA hL (by omega) (nI_add (6 * i) 1) dL_law_176 ?_
    refine lv_aload_n C.x C.b dL_law_177 rfl (lv_at hl 6 rfl) ?_
    refine lv_iload C.x C.b dL_law_178 (lv_at hl 1 rfl) ?_
    refine lv_iconst (v := 2) C.x C.b dL_law_180 (by decide) ?_
    refine lv_iadd C.x C.b dL_law_181 ?_
    refine ldS (j := 6 * i + 2) C h hX hbl hbA hL (by omega) (nI_add (6 * i) 2) dL_law_182 ?_
    refine lv_aload_n C.x C.b dL_law_183 rfl (lv_at hl 6 rfl) ?_
    refine lv_iload C.x C.b dL_law_184 (lv_at hl 1 rfl) ?_
    refine lv_iconst (v := 3) C.x C.b dL_law_186 (by decide) ?_
    refine lv_iadd C.x C.b dL_law_187 ?_
    refine ldS (j := 6 * i + 3) C h hX hbl hbA hL (by omega) (nI_add (6 * i) 3) dL_law_188 ?_
    refine lv_aload_n C.x C.b dL_law_189 rfl (lv_at hl 6 rfl) ?_
    refine lv_iload C.x C.b dL_law_190 (lv_at hl 1 rfl) ?_
    refine lv_iconst (v := 4) C.x C.b dL_law_192 (by decide) ?_
    refine lv_iadd C.x C.b dL_law_193 ?_
    refine ldS (j := 6 * i + 4) C h hX hbl hbA hL (by omega) (nI_add (6 * i) 4) dL_law_194 ?_
    refine caVv (As := [.int (xs (6 * i + 1)), .int (xs (6 * i + 2)), .int (xs (6 * i + 3)), .int (xs (6 * i + 4))]) (rest := []) (q0 := 15) (ci := 7) C h (M_X7_weather l D _ _ okm (xs (6 * i + 1)) (xs (6 * i + 2)) (xs (6 * i + 3)) (xs (6 * i + 4))) cw_L_87 m_im_X7_weather m_se_X7_weather rfl rfl ⟨Nat.le_of_ble_eq_true rfl, Nat.le_of_ble_eq_true rfl⟩ rfl rfl hl rfl (Nat.le_of_ble_eq_true rfl) dL_law_195 ⟨by show cells + 10 + 0 ≤ 601024; omega, by show slots + 60 + 0 ≤ 7293034; omega⟩ (fun u H locs hw h => ?_)
    obtain rfl := hw
    refine lv_aload_n C.x C.b dL_law_198 rfl (lv_at hl 4 rfl) ?_
    have okt : OK E (S_X7_weather σ (xs (6 * i + 1)) (xs (6 * i + 2)) (xs (6 * i + 3)) (xs (6 * i + 4))) := bq5.ok rfl
    refine caVi (As := []) (rest := []) (q0 := 15) (ci := 7) C h (M_X7_thrown l D _ _ okt) cw_L_88 m_im_X7_thrown m_se_X7_thrown rfl rfl ⟨Nat.le_of_ble_eq_true rfl, Nat.le_of_ble_eq_true rfl⟩ rfl rfl hl rfl (Nat.le_of_ble_eq_true rfl) dL_law_199 ⟨by show cells + 10 + 0 + 0 ≤ 601024; omega, by show slots + 60 + 0 + 0 ≤ 7293034; omega⟩ (fun r3 u H locs hw h => ?_)
    obtain ⟨rfl, rfl⟩ := hw
    refine lv_iload C.x C.b dL_law_202 (lv_at hl 0 rfl) ?_
    have ek : S_X7_thrown (S_X7_weather σ (xs (6 * i + 1)) (xs (6 * i + 2)) (xs (6 * i + 3)) (xs (6 * i + 4))) = r := bq1.trans hr
    refine lv_icmp_eq (tgt := 209) C.x C.b dL_law_204 (by decide) (fun _ => ?_) (fun q => absurd ek q)
    refine lv_goto (tgt := 1410) C.x C.b dL_law_209 (by decide) ?_
    exact B E (S_X7_weather σ (xs (6 * i + 1)) (xs (6 * i + 2)) (xs (6 * i + 3)) (xs (6 * i + 4))) mm H locs _ _ ls C h bq5 (by omega) (by show cells + 10 + 0 + 0 ≤ _; omega) (by show slots + 60 + 0 + 0 ≤ _; omega) (lv_sub hl [1, 2, 3, 4, 5, 6] rfl)
theorem cl_L_spray : CLd RL 92 yL_spray cL_spray 4 [(0, 9, 12, 19)] 3 := ⟨m_ml_L_92, m_cw_L_spray, m_ini_L, by decide +kernel, by decide +kernel, m_st_L_spray⟩
theorem B_spray {σ : St} {m n c : Nat} (h : RR σ σ m n c) (p1 : Int32) : BQ (LST (S_X6_spray σ p1) σ) m n c 1 9 n (S_X6_spray σ p1) (S_X7_spray (LST (S_X6_spray σ p1) σ) p1) :=
  BLx (A_spray (h.lst (fun f i q => F6_spray q σ p1)) p1) (fun f i q => F7_spray q _ p1)
theorem O_spray {σ : St} {m n c : Nat} {E1 : En} (h : RR σ σ m n c) (p1 : Int32) (e0 : (S_X6_spray σ p1).1 = 0) (hn : n = en E1) : OK E1 (S_X6_spray σ p1).2.2 :=
  OKx h (A_spray h p1) (fun f i q => F6_spray q σ p1) e0 hn (by omega)
theorem cw_L_95 : CWd RL 95 yX7_spray cX7_spray 2 (some .int) 1 := ⟨m_ml_L_95, m_co_X7_spray, m_ini_X7, by decide +kernel, by decide +kernel⟩
set_option maxRecDepth 100000 in
set_option maxHeartbeats 4000000 in
theorem case_spray {p : Program} {l : Launch} (hfl : l.stackTraces = false) {e : Env} {s : State} {m : MethodId} {args : Array Value} {below : List Frame} {meth : Method} {c : Code} {Q : State → Prop} {D : va_G} {A : Nat → Prop} {b L i : Nat} {xs : Nat → Int32} (hX : va_X b L xs s s.heap) (hbl : b < s.heap.size) (hbA : ¬ A b) (hL : L ≤ 3072) (hi : 6 * i + 5 < L) (B : BK p l e s m args below meth c Q D A b i) {E : En} {σ : St} {mm : Nat} {H : Heap} {locs : List Loc} {cells slots : Nat} {ls : Array Slot} (C : CX p s m meth c cL_law RL 9 D E A) (h : HW D E σ A s H locs) (hR : RR σ σ mm (en E) i) (hm : mm ≤ 500 * i) (hc : cells ≤ 64 + 10 * i) (hs : slots ≤ 512 + 60 * i) (hl : lv_has ls 9 (LV E b i)) : W p l e room_1 s m args below meth c H locs cells slots Q (F0 m 212 ls []) := by
  have ok := hR.ok rfl
  have hl : lv_has ls 9 [(5, .int (nI (6 * i))), (4, .ref (ead E 36)), (3, .ref (ead E 35)), (2, .ref (ead E 15)), (1, .ref (ead E 0)), (0, .ref b)] := hl
  refine lv_aload_n C.x C.b dL_law_212 rfl (lv_at hl 4 rfl) ?_
  refine lv_aload_n C.x C.b dL_law_213 rfl (lv_at hl 5 rfl) ?_
  refine lv_iload C.x C.b dL_law_214 (lv_at hl 0 rfl) ?_
  refine lv_iconst (v := 1) C.x C.b dL_law_216 (by decide) ?_
  refine lv_iadd C.x C.b dL_law_217 ?_
  refine ldS (j := 6 * i + 1) C h hX hbl hbA hL (by omega) (nI_add (6 * i) 1) dL_law_218 ?_
  refine lv_aload_n C.x C.b dL_law_219 rfl (lv_at hl 2 rfl) ?_
  refine caL (As := [.ref (ead E 0), .int (xs (6 * i + 1)), .ref (ead E 35)]) (rest := []) C h (M_L_spray l hfl D E σ ok (xs (6 * i + 1))) cl_L_spray rfl rfl ⟨Nat.le_of_ble_eq_true rfl, Nat.le_of_ble_eq_true rfl⟩ hl rfl (Nat.le_of_ble_eq_true rfl) dL_law_220 ⟨by show cells + 10 ≤ 601024; omega, by show slots + 60 ≤ 7293034; omega⟩ (fun r u H locs hp h => ?_)
  obtain ⟨hr, hp0, hp1⟩ := hp
  have Bq := B_spray hR (xs (6 * i + 1))
  by_cases e0 : (S_X6_spray σ (xs (6 * i + 1))).1 = 0
  · obtain rfl := hp0 e0
    have eS : LST (S_X6_spray σ (xs (6 * i + 1))) σ = (S_X6_spray σ (xs (6 * i + 1))).2.2 := if_pos e0
    rw [eS] at Bq
    obtain ⟨bq1, bq2, -⟩ := Bq
    obtain ⟨bq3, m', bq4, bq5⟩ := bq2 e0
    have okm : OK (setO E (S_X6_spray σ (xs (6 * i + 1))).2.1.toInt64) (S_X6_spray σ (xs (6 * i + 1))).2.2 := O_spray hR (xs (6 * i + 1)) e0 rfl
    have C : CX p s m meth c cL_law RL 9 D (setO E (S_X6_spray σ (xs (6 * i + 1))).2.1.toInt64) A := C
    have h : HW D (setO E (S_X6_spray σ (xs (6 * i + 1))).2.1.toInt64) (S_X6_spray σ (xs (6 * i + 1))).2.2 A s H locs := h
    have hl : lv_has ls 9 [(5, .int (nI (6 * i))), (4, .ref (ead (setO E (S_X6_spray σ (xs (6 * i + 1))).2.1.toInt64) 36)), (3, .ref (ead (setO E (S_X6_spray σ (xs (6 * i + 1))).2.1.toInt64) 35)), (2, .ref (ead (setO E (S_X6_spray σ (xs (6 * i + 1))).2.1.toInt64) 15)), (1, .ref (ead (setO E (S_X6_spray σ (xs (6 * i + 1))).2.1.toInt64) 0)), (0, .ref b)] := hl
    refine lv_istore (lv' := [(6, .int r), (5, .int (nI (6 * i))), (4, .ref (ead (setO E (S_X6_spray σ (xs (6 * i + 1))).2.1.toInt64) 36)), (3, .ref (ead (setO E (S_X6_spray σ (xs (6 * i + 1))).2.1.toInt64) 35)), (2, .ref (ead (setO E (S_X6_spray σ (xs (6 * i + 1))).2.1.toInt64) 15)), (1, .ref (ead (setO E (S_X6_spray σ (xs (6 * i + 1))).2.1.toInt64) 0)), (0, .ref b)]) C.x C.b dL_law_223 hl (by decide) rfl (fun ls hl => ?_)
    refine lv_aload_n C.x C.b dL_law_225 rfl (lv_at hl 4 rfl) ?_
    refine lv_aload_n C.x C.b dL_law_226 rfl (lv_at hl 6 rfl) ?_
    refine lv_iload C.x C.b dL_law_227 (lv_at hl 1 rfl) ?_
    refine lv_iconst (v := 1) C.x C.b dL_law_229 (by decide) ?_
    refine lv_iadd C.x C.b dL_law_230 ?_
    refine ldS (j := 6 * i + 1) C h hX hbl hbA hL (by omega) (nI_add (6 * i) 1) dL_law_231 ?_
    refine caVi (As := [.int (xs (6 * i + 1))]) (rest := []) (q0 := 15) (ci := 7) C h (M_X7_spray l D _ _ okm (xs (6 * i + 1))) cw_L_95 m_im_X7_spray m_se_X7_spray rfl rfl ⟨Nat.le_of_ble_eq_true rfl, Nat.le_of_ble_eq_true rfl⟩ rfl rfl hl rfl (Nat.le_of_ble_eq_true rfl) dL_law_232 ⟨by show cells + 10 + 0 ≤ 601024; omega, by show slots + 60 + 0 ≤ 7293034; omega⟩ (fun r2 u H locs hw h => ?_)
    obtain ⟨rfl, rfl⟩ := hw
    refine lv_istore (lv' := [(7, .int (S_X7_spray (S_X6_spray σ (xs (6 * i + 1))).2.2 (xs (6 * i + 1))).1), (6, .int r), (5, .int (nI (6 * i))), (4, .ref (ead (setO E (S_X6_spray σ (xs (6 * i + 1))).2.1.toInt64) 36)), (3, .ref (ead (setO E (S_X6_spray σ (xs (6 * i + 1))).2.1.toInt64) 35)), (2, .ref (ead (setO E (S_X6_spray σ (xs (6 * i + 1))).2.1.toInt64) 15)), (1, .ref (ead (setO E (S_X6_spray σ (xs (6 * i + 1))).2.1.toInt64) 0)), (0, .ref b)]) C.x C.b dL_law_235 hl (by decide) rfl (fun ls hl => ?_)
    refine lv_aload_n C.x C.b dL_law_237 rfl (lv_at hl 5 rfl) ?_
    have okt : OK (setO E (S_X6_spray σ (xs (6 * i + 1))).2.1.toInt64) (S_X7_spray (S_X6_spray σ (xs (6 * i + 1))).2.2 (xs (6 * i + 1))).2 := bq5.ok rfl
    refine caVi (As := []) (rest := []) (q0 := 15) (ci := 7) C h (M_X7_thrown l D _ _ okt) cw_L_88 m_im_X7_thrown m_se_X7_thrown rfl rfl ⟨Nat.le_of_ble_eq_true rfl, Nat.le_of_ble_eq_true rfl⟩ rfl rfl hl rfl (Nat.le_of_ble_eq_true rfl) dL_law_238 ⟨by show cells + 10 + 0 + 0 ≤ 601024; omega, by show slots + 60 + 0 + 0 ≤ 7293034; omega⟩ (fun r3 u H locs hw h => ?_)
    obtain ⟨rfl, rfl⟩ := hw
    refine lv_iload C.x C.b dL_law_241 (lv_at hl 1 rfl) ?_
    have ek : S_X7_thrown (S_X7_spray (S_X6_spray σ (xs (6 * i + 1))).2.2 (xs (6 * i + 1))).2 = r := bq1.trans hr
    refine lv_icmp_eq (tgt := 248) C.x C.b dL_law_243 (by decide) (fun _ => ?_) (fun q => absurd ek q)
    refine lv_iload C.x C.b dL_law_248 (lv_at hl 1 rfl) ?_
    have er : r = 0 := by rw [← hr, e0]; rfl
    refine lv_if_ne (tgt := 265) C.x C.b dL_law_250 (by decide) (fun q => absurd er q) (fun _ => ?_)
    refine lv_aload_n C.x C.b dL_law_253 rfl (lv_at hl 4 rfl) ?_
    refine lv_iconst (v := 0) C.x C.b dL_law_254 (by decide) ?_
    refine ldL C h dL_law_255 ?_
    refine lv_iload C.x C.b dL_law_256 (lv_at hl 0 rfl) ?_
    refine lv_i2l (v := (S_X7_spray (S_X6_spray σ (xs (6 * i + 1))).2.2 (xs (6 * i + 1))).1.toInt64) C.x C.b dL_law_258 rfl ?_
    refine lcE C (show (S_X6_spray σ (xs (6 * i + 1))).2.1.toInt64 = (S_X7_spray (S_X6_spray σ (xs (6 * i + 1))).2.2 (xs (6 * i + 1))).1.toInt64 by rw [bq3]) dL_law_259 ?_
    refine lv_if_eq (tgt := 265) C.x C.b dL_law_260 (by decide) (fun _ => ?_) (fun q => absurd rfl q)
    refine lv_goto (tgt := 1410) C.x C.b dL_law_265 (by decide) ?_
    exact B (setO E (S_X6_spray σ (xs (6 * i + 1))).2.1.toInt64) (S_X7_spray (S_X6_spray σ (xs (6 * i + 1))).2.2 (xs (6 * i + 1))).2 m' H locs _ _ ls C h bq5 (by omega) (by show cells + 10 + 0 + 0 ≤ _; omega) (by show slots + 60 + 0 + 0 ≤ _; omega) (lv_sub hl [2, 3, 4, 5, 6, 7] rfl)
  · obtain rfl := hp1 e0
    have eS : LST (S_X6_spray σ (xs (6 * i + 1))) σ = σ := if_neg e0
    rw [eS] at Bq
    obtain ⟨bq1, -, bq2⟩ := Bq
    have bq5 := bq2 e0
    have okm : OK E σ := ok
    have C : CX p s m meth c cL_law RL 9 D E A := C
    have h : HW D E σ A s H locs := h
    have hl : lv_has ls 9 [(5, .int (nI (6 * i))), (4, .ref (ead E 36)), (3, .ref (ead E 35)), (2, .ref (ead E 15)), (1, .ref (ead E 0)), (0, .ref b)] := hl
    refine lv_istore (lv' := [(6, .int r), (5, .int (nI (6 * i))), (4, .ref (ead E 36)), (3, .ref (ead E 35)), (2, .ref (ead E 15)), (1, .ref (ead E 0)), (0, .ref b)]) C.x C.b dL_law_223 hl (by decide) rfl (fun ls hl => ?_)
    refine lv_aload_n C.x C.b dL_law_225 rfl (lv_at hl 4 rfl) ?_
    refine lv_aload_n C.x C.b dL_law_226 rfl (lv_at hl 6 rfl) ?_
    refine lv_iload C.x C.b dL_law_227 (lv_at hl 1 rfl) ?_
    refine lv_iconst (v := 1) C.x C.b dL_law_229 (by decide) ?_
    refine lv_iadd C.x C.b dL_law_230 ?_
    refine ldS (j := 6 * i + 1) C h hX hbl hbA hL (by omega) (nI_add (6 * i) 1) dL_law_231 ?_
    refine caVi (As := [.int (xs (6 * i + 1))]) (rest := []) (q0 := 15) (ci := 7) C h (M_X7_spray l D _ _ okm (xs (6 * i + 1))) cw_L_95 m_im_X7_spray m_se_X7_spray rfl rfl ⟨Nat.le_of_ble_eq_true rfl, Nat.le_of_ble_eq_true rfl⟩ rfl rfl hl rfl (Nat.le_of_ble_eq_true rfl) dL_law_232 ⟨by show cells + 10 + 0 ≤ 601024; omega, by show slots + 60 + 0 ≤ 7293034; omega⟩ (fun r2 u H locs hw h => ?_)
    obtain ⟨rfl, rfl⟩ := hw
    refine lv_istore (lv' := [(7, .int (S_X7_spray σ (xs (6 * i + 1))).1), (6, .int r), (5, .int (nI (6 * i))), (4, .ref (ead E 36)), (3, .ref (ead E 35)), (2, .ref (ead E 15)), (1, .ref (ead E 0)), (0, .ref b)]) C.x C.b dL_law_235 hl (by decide) rfl (fun ls hl => ?_)
    refine lv_aload_n C.x C.b dL_law_237 rfl (lv_at hl 5 rfl) ?_
    have okt : OK E (S_X7_spray σ (xs (6 * i + 1))).2 := bq5.ok rfl
    refine caVi (As := []) (rest := []) (q0 := 15) (ci := 7) C h (M_X7_thrown l D _ _ okt) cw_L_88 m_im_X7_thrown m_se_X7_thrown rfl rfl ⟨Nat.le_of_ble_eq_true rfl, Nat.le_of_ble_eq_true rfl⟩ rfl rfl hl rfl (Nat.le_of_ble_eq_true rfl) dL_law_238 ⟨by show cells + 10 + 0 + 0 ≤ 601024; omega, by show slots + 60 + 0 + 0 ≤ 7293034; omega⟩ (fun r3 u H locs hw h => ?_)
    obtain ⟨rfl, rfl⟩ := hw
    refine lv_iload C.x C.b dL_law_241 (lv_at hl 1 rfl) ?_
    have ek : S_X7_thrown (S_X7_spray σ (xs (6 * i + 1))).2 = r := bq1.trans hr
    refine lv_icmp_eq (tgt := 248) C.x C.b dL_law_243 (by decide) (fun _ => ?_) (fun q => absurd ek q)
    refine lv_iload C.x C.b dL_law_248 (lv_at hl 1 rfl) ?_
    refine lv_if_ne (tgt := 265) C.x C.b dL_law_250 (by decide) (fun _ => ?_) (fun q => absurd (hr.trans q) (wcd_ne e0))
    refine lv_goto (tgt := 1410) C.x C.b dL_law_265 (by decide) ?_
    exact B E (S_X7_spray σ (xs (6 * i + 1))).2 mm H locs _ _ ls C h bq5 (by omega) (by show cells + 10 + 0 + 0 ≤ _; omega) (by show slots + 60 + 0 + 0 ≤ _; omega) (lv_sub hl [2, 3, 4, 5, 6, 7] rfl)
theorem cl_L_close : CLd RL 96 yL_close cL_close 5 [(0, 10, 13, 13)] 4 := ⟨m_ml_L_96, m_cw_L_close, m_ini_L, by decide +kernel, by decide +kernel, m_st_L_close⟩
theorem B_close {σ : St} {m n c : Nat} (h : RR σ σ m n c) (p1 p2 : Int32) : BQ (LST (S_X6_close σ p1 p2) σ) m n c 2 9 n (S_X6_close σ p1 p2) (S_X7_close (LST (S_X6_close σ p1 p2) σ) p1 p2) :=
  BLx (A_close (h.lst (fun f i q => F6_close q σ p1 p2)) p1 p2) (fun f i q => F7_close q _ p1 p2)
theorem O_close {σ : St} {m n c : Nat} {E1 : En} (h : RR σ σ m n c) (p1 p2 : Int32) (e0 : (S_X6_close σ p1 p2).1 = 0) (hn : n = en E1) : OK E1 (S_X6_close σ p1 p2).2.2 :=
  OKx h (A_close h p1 p2) (fun f i q => F6_close q σ p1 p2) e0 hn (by omega)
theorem cw_L_99 : CWd RL 99 yX7_close cX7_close 3 (some .int) 2 := ⟨m_ml_L_99, m_co_X7_close, m_ini_X7, by decide +kernel, by decide +kernel⟩
set_option maxRecDepth 100000 in
set_option maxHeartbeats 4000000 in
theorem case_close {p : Program} {l : Launch} (hfl : l.stackTraces = false) {e : Env} {s : State} {m : MethodId} {args : Array Value} {below : List Frame} {meth : Method} {c : Code} {Q : State → Prop} {D : va_G} {A : Nat → Prop} {b L i : Nat} {xs : Nat → Int32} (hX : va_X b L xs s s.heap) (hbl : b < s.heap.size) (hbA : ¬ A b) (hL : L ≤ 3072) (hi : 6 * i + 5 < L) (B : BK p l e s m args below meth c Q D A b i) {E : En} {σ : St} {mm : Nat} {H : Heap} {locs : List Loc} {cells slots : Nat} {ls : Array Slot} (C : CX p s m meth c cL_law RL 9 D E A) (h : HW D E σ A s H locs) (hR : RR σ σ mm (en E) i) (hm : mm ≤ 500 * i) (hc : cells ≤ 64 + 10 * i) (hs : slots ≤ 512 + 60 * i) (hl : lv_has ls 9 (LV E b i)) : W p l e room_1 s m args below meth c H locs cells slots Q (F0 m 268 ls []) := by
  have ok := hR.ok rfl
  have hl : lv_has ls 9 [(5, .int (nI (6 * i))), (4, .ref (ead E 36)), (3, .ref (ead E 35)), (2, .ref (ead E 15)), (1, .ref (ead E 0)), (0, .ref b)] := hl
  refine lv_aload_n C.x C.b dL_law_268 rfl (lv_at hl 4 rfl) ?_
  refine lv_aload_n C.x C.b dL_law_269 rfl (lv_at hl 5 rfl) ?_
  refine lv_iload C.x C.b dL_law_270 (lv_at hl 0 rfl) ?_
  refine lv_iconst (v := 1) C.x C.b dL_law_272 (by decide) ?_
  refine lv_iadd C.x C.b dL_law_273 ?_
  refine ldS (j := 6 * i + 1) C h hX hbl hbA hL (by omega) (nI_add (6 * i) 1) dL_law_274 ?_
  refine lv_aload_n C.x C.b dL_law_275 rfl (lv_at hl 5 rfl) ?_
  refine lv_iload C.x C.b dL_law_276 (lv_at hl 0 rfl) ?_
  refine lv_iconst (v := 2) C.x C.b dL_law_278 (by decide) ?_
  refine lv_iadd C.x C.b dL_law_279 ?_
  refine ldS (j := 6 * i + 2) C h hX hbl hbA hL (by omega) (nI_add (6 * i) 2) dL_law_280 ?_
  refine lv_aload_n C.x C.b dL_law_281 rfl (lv_at hl 2 rfl) ?_
  refine caL (As := [.ref (ead E 0), .int (xs (6 * i + 1)), .int (xs (6 * i + 2)), .ref (ead E 35)]) (rest := []) C h (M_L_close l hfl D E σ ok (xs (6 * i + 1)) (xs (6 * i + 2))) cl_L_close rfl rfl ⟨Nat.le_of_ble_eq_true rfl, Nat.le_of_ble_eq_true rfl⟩ hl rfl (Nat.le_of_ble_eq_true rfl) dL_law_282 ⟨by show cells + 10 ≤ 601024; omega, by show slots + 60 ≤ 7293034; omega⟩ (fun r u H locs hp h => ?_)
  obtain ⟨hr, hp0, hp1⟩ := hp
  have Bq := B_close hR (xs (6 * i + 1)) (xs (6 * i + 2))
  by_cases e0 : (S_X6_close σ (xs (6 * i + 1)) (xs (6 * i + 2))).1 = 0
  · obtain rfl := hp0 e0
    have eS : LST (S_X6_close σ (xs (6 * i + 1)) (xs (6 * i + 2))) σ = (S_X6_close σ (xs (6 * i + 1)) (xs (6 * i + 2))).2.2 := if_pos e0
    rw [eS] at Bq
    obtain ⟨bq1, bq2, -⟩ := Bq
    obtain ⟨bq3, m', bq4, bq5⟩ := bq2 e0
    have okm : OK (setO E (S_X6_close σ (xs (6 * i + 1)) (xs (6 * i + 2))).2.1.toInt64) (S_X6_close σ (xs (6 * i + 1)) (xs (6 * i + 2))).2.2 := O_close hR (xs (6 * i + 1)) (xs (6 * i + 2)) e0 rfl
    have C : CX p s m meth c cL_law RL 9 D (setO E (S_X6_close σ (xs (6 * i + 1)) (xs (6 * i + 2))).2.1.toInt64) A := C
    have h : HW D (setO E (S_X6_close σ (xs (6 * i + 1)) (xs (6 * i + 2))).2.1.toInt64) (S_X6_close σ (xs (6 * i + 1)) (xs (6 * i + 2))).2.2 A s H locs := h
    have hl : lv_has ls 9 [(5, .int (nI (6 * i))), (4, .ref (ead (setO E (S_X6_close σ (xs (6 * i + 1)) (xs (6 * i + 2))).2.1.toInt64) 36)), (3, .ref (ead (setO E (S_X6_close σ (xs (6 * i + 1)) (xs (6 * i + 2))).2.1.toInt64) 35)), (2, .ref (ead (setO E (S_X6_close σ (xs (6 * i + 1)) (xs (6 * i + 2))).2.1.toInt64) 15)), (1, .ref (ead (setO E (S_X6_close σ (xs (6 * i + 1)) (xs (6 * i + 2))).2.1.toInt64) 0)), (0, .ref b)] := hl
    refine lv_istore (lv' := [(6, .int r), (5, .int (nI (6 * i))), (4, .ref (ead (setO E (S_X6_close σ (xs (6 * i + 1)) (xs (6 * i + 2))).2.1.toInt64) 36)), (3, .ref (ead (setO E (S_X6_close σ (xs (6 * i + 1)) (xs (6 * i + 2))).2.1.toInt64) 35)), (2, .ref (ead (setO E (S_X6_close σ (xs (6 * i + 1)) (xs (6 * i + 2))).2.1.toInt64) 15)), (1, .ref (ead (setO E (S_X6_close σ (xs (6 * i + 1)) (xs (6 * i + 2))).2.1.toInt64) 0)), (0, .ref b)]) C.x C.b dL_law_285 hl (by decide) rfl (fun ls hl => ?_)
    refine lv_aload_n C.x C.b dL_law_287 rfl (lv_at hl 4 rfl) ?_
    refine lv_aload_n C.x C.b dL_law_288 rfl (lv_at hl 6 rfl) ?_
    refine lv_iload C.x C.b dL_law_289 (lv_at hl 1 rfl) ?_
    refine lv_iconst (v := 1) C.x C.b dL_law_291 (by decide) ?_
    refine lv_iadd C.x C.b dL_law_292 ?_
    refine ldS (j := 6 * i + 1) C h hX hbl hbA hL (by omega) (nI_add (6 * i) 1) dL_law_293 ?_
    refine lv_aload_n C.x C.b dL_law_294 rfl (lv_at hl 6 rfl) ?_
    refine lv_iload C.x C.b dL_law_295 (lv_at hl 1 rfl) ?_
    refine lv_iconst (v := 2) C.x C.b dL_law_297 (by decide) ?_
    refine lv_iadd C.x C.b dL_law_298 ?_
    refine ldS (j := 6 * i + 2) C h hX hbl hbA hL (by omega) (nI_add (6 * i) 2) dL_law_299 ?_
    refine caVi (As := [.int (xs (6 * i + 1)), .int (xs (6 * i + 2))]) (rest := []) (q0 := 15) (ci := 7) C h (M_X7_close l D _ _ okm (xs (6 * i + 1)) (xs (6 * i + 2))) cw_L_99 m_im_X7_close m_se_X7_close rfl rfl ⟨Nat.le_of_ble_eq_true rfl, Nat.le_of_ble_eq_true rfl⟩ rfl rfl hl rfl (Nat.le_of_ble_eq_true rfl) dL_law_300 ⟨by show cells + 10 + 0 ≤ 601024; omega, by show slots + 60 + 0 ≤ 7293034; omega⟩ (fun r2 u H locs hw h => ?_)
    obtain ⟨rfl, rfl⟩ := hw
    refine lv_istore (lv' := [(7, .int (S_X7_close (S_X6_close σ (xs (6 * i + 1)) (xs (6 * i + 2))).2.2 (xs (6 * i + 1)) (xs (6 * i + 2))).1), (6, .int r), (5, .int (nI (6 * i))), (4, .ref (ead (setO E (S_X6_close σ (xs (6 * i + 1)) (xs (6 * i + 2))).2.1.toInt64) 36)), (3, .ref (ead (setO E (S_X6_close σ (xs (6 * i + 1)) (xs (6 * i + 2))).2.1.toInt64) 35)), (2, .ref (ead (setO E (S_X6_close σ (xs (6 * i + 1)) (xs (6 * i + 2))).2.1.toInt64) 15)), (1, .ref (ead (setO E (S_X6_close σ (xs (6 * i + 1)) (xs (6 * i + 2))).2.1.toInt64) 0)), (0, .ref b)]) C.x C.b dL_law_303 hl (by decide) rfl (fun ls hl => ?_)
    refine lv_aload_n C.x C.b dL_law_305 rfl (lv_at hl 5 rfl) ?_
    have okt : OK (setO E (S_X6_close σ (xs (6 * i + 1)) (xs (6 * i + 2))).2.1.toInt64) (S_X7_close (S_X6_close σ (xs (6 * i + 1)) (xs (6 * i + 2))).2.2 (xs (6 * i + 1)) (xs (6 * i + 2))).2 := bq5.ok rfl
    refine caVi (As := []) (rest := []) (q0 := 15) (ci := 7) C h (M_X7_thrown l D _ _ okt) cw_L_88 m_im_X7_thrown m_se_X7_thrown rfl rfl ⟨Nat.le_of_ble_eq_true rfl, Nat.le_of_ble_eq_true rfl⟩ rfl rfl hl rfl (Nat.le_of_ble_eq_true rfl) dL_law_306 ⟨by show cells + 10 + 0 + 0 ≤ 601024; omega, by show slots + 60 + 0 + 0 ≤ 7293034; omega⟩ (fun r3 u H locs hw h => ?_)
    obtain ⟨rfl, rfl⟩ := hw
    refine lv_iload C.x C.b dL_law_309 (lv_at hl 1 rfl) ?_
    have ek : S_X7_thrown (S_X7_close (S_X6_close σ (xs (6 * i + 1)) (xs (6 * i + 2))).2.2 (xs (6 * i + 1)) (xs (6 * i + 2))).2 = r := bq1.trans hr
    refine lv_icmp_eq (tgt := 316) C.x C.b dL_law_311 (by decide) (fun _ => ?_) (fun q => absurd ek q)
    refine lv_iload C.x C.b dL_law_316 (lv_at hl 1 rfl) ?_
    have er : r = 0 := by rw [← hr, e0]; rfl
    refine lv_if_ne (tgt := 333) C.x C.b dL_law_318 (by decide) (fun q => absurd er q) (fun _ => ?_)
    refine lv_aload_n C.x C.b dL_law_321 rfl (lv_at hl 4 rfl) ?_
    refine lv_iconst (v := 0) C.x C.b dL_law_322 (by decide) ?_
    refine ldL C h dL_law_323 ?_
    refine lv_iload C.x C.b dL_law_324 (lv_at hl 0 rfl) ?_
    refine lv_i2l (v := (S_X7_close (S_X6_close σ (xs (6 * i + 1)) (xs (6 * i + 2))).2.2 (xs (6 * i + 1)) (xs (6 * i + 2))).1.toInt64) C.x C.b dL_law_326 rfl ?_
    refine lcE C (show (S_X6_close σ (xs (6 * i + 1)) (xs (6 * i + 2))).2.1.toInt64 = (S_X7_close (S_X6_close σ (xs (6 * i + 1)) (xs (6 * i + 2))).2.2 (xs (6 * i + 1)) (xs (6 * i + 2))).1.toInt64 by rw [bq3]) dL_law_327 ?_
    refine lv_if_eq (tgt := 333) C.x C.b dL_law_328 (by decide) (fun _ => ?_) (fun q => absurd rfl q)
    refine lv_goto (tgt := 1410) C.x C.b dL_law_333 (by decide) ?_
    exact B (setO E (S_X6_close σ (xs (6 * i + 1)) (xs (6 * i + 2))).2.1.toInt64) (S_X7_close (S_X6_close σ (xs (6 * i + 1)) (xs (6 * i + 2))).2.2 (xs (6 * i + 1)) (xs (6 * i + 2))).2 m' H locs _ _ ls C h bq5 (by omega) (by show cells + 10 + 0 + 0 ≤ _; omega) (by show slots + 60 + 0 + 0 ≤ _; omega) (lv_sub hl [2, 3, 4, 5, 6, 7] rfl)
  · obtain rfl := hp1 e0
    have eS : LST (S_X6_close σ (xs (6 * i + 1)) (xs (6 * i + 2))) σ = σ := if_neg e0
    rw [eS] at Bq
    obtain ⟨bq1, -, bq2⟩ := Bq
    have bq5 := bq2 e0
    have okm : OK E σ := ok
    have C : CX p s m meth c cL_law RL 9 D E A := C
    have h : HW D E σ A s H locs := h
    have hl : lv_has ls 9 [(5, .int (nI (6 * i))), (4, .ref (ead E 36)), (3, .ref (ead E 35)), (2, .ref (ead E 15)), (1, .ref (ead E 0)), (0, .ref b)] := hl
    refine lv_istore (lv' := [(6, .int r), (5, .int (nI (6 * i))), (4, .ref (ead E 36)), (3, .ref (ead E 35)), (2, .ref (ead E 15)), (1, .ref (ead E 0)), (0, .ref b)]) C.x C.b dL_law_285 hl (by decide) rfl (fun ls hl => ?_)
    refine lv_aload_n C.x C.b dL_law_287 rfl (lv_at hl 4 rfl) ?_
    refine lv_aload_n C.x C.b dL_law_288 rfl (lv_at hl 6 rfl) ?_
    refine lv_iload C.x C.b dL_law_289 (lv_at hl 1 rfl) ?_
    refine lv_iconst (v := 1) C.x C.b dL_law_291 (by decide) ?_
    refine lv_iadd C.x C.b dL_law_292 ?_
    refine ldS (j := 6 * i + 1) C h hX hbl hbA hL (by omega) (nI_add (6 * i) 1) dL_law_293 ?_
    refine lv_aload_n C.x C.b dL_law_294 rfl (lv_at hl 6 rfl) ?_
    refine lv_iload C.x C.b dL_law_295 (lv_at hl 1 rfl) ?_
    refine lv_iconst (v := 2) C.x C.b dL_law_297 (by decide) ?_
    refine lv_iadd C.x C.b dL_law_298 ?_
    refine ldS (j := 6 * i + 2) C h hX hbl hbA hL (by omega) (nI_add (6 * i) 2) dL_law_299 ?_
    refine caVi (As := [.int (xs (6 * i + 1)), .int (xs (6 * i + 2))]) (rest := []) (q0 := 15) (ci := 7) C h (M_X7_close l D _ _ okm (xs (6 * i + 1)) (xs (6 * i + 2))) cw_L_99 m_im_X7_close m_se_X7_close rfl rfl ⟨Nat.le_of_ble_eq_true rfl, Nat.le_of_ble_eq_true rfl⟩ rfl rfl hl rfl (Nat.le_of_ble_eq_true rfl) dL_law_300 ⟨by show cells + 10 + 0 ≤ 601024; omega, by show slots + 60 + 0 ≤ 7293034; omega⟩ (fun r2 u H locs hw h => ?_)
    obtain ⟨rfl, rfl⟩ := hw
    refine lv_istore (lv' := [(7, .int (S_X7_close σ (xs (6 * i + 1)) (xs (6 * i + 2))).1), (6, .int r), (5, .int (nI (6 * i))), (4, .ref (ead E 36)), (3, .ref (ead E 35)), (2, .ref (ead E 15)), (1, .ref (ead E 0)), (0, .ref b)]) C.x C.b dL_law_303 hl (by decide) rfl (fun ls hl => ?_)
    refine lv_aload_n C.x C.b dL_law_305 rfl (lv_at hl 5 rfl) ?_
    have okt : OK E (S_X7_close σ (xs (6 * i + 1)) (xs (6 * i + 2))).2 := bq5.ok rfl
    refine caVi (As := []) (rest := []) (q0 := 15) (ci := 7) C h (M_X7_thrown l D _ _ okt) cw_L_88 m_im_X7_thrown m_se_X7_thrown rfl rfl ⟨Nat.le_of_ble_eq_true rfl, Nat.le_of_ble_eq_true rfl⟩ rfl rfl hl rfl (Nat.le_of_ble_eq_true rfl) dL_law_306 ⟨by show cells + 10 + 0 + 0 ≤ 601024; omega, by show slots + 60 + 0 + 0 ≤ 7293034; omega⟩ (fun r3 u H locs hw h => ?_)
    obtain ⟨rfl, rfl⟩ := hw
    refine lv_iload C.x C.b dL_law_309 (lv_at hl 1 rfl) ?_
    have ek : S_X7_thrown (S_X7_close σ (xs (6 * i + 1)) (xs (6 * i + 2))).2 = r := bq1.trans hr
    refine lv_icmp_eq (tgt := 316) C.x C.b dL_law_311 (by decide) (fun _ => ?_) (fun q => absurd ek q)
    refine lv_iload C.x C.b dL_law_316 (lv_at hl 1 rfl) ?_
    refine lv_if_ne (tgt := 333) C.x C.b dL_law_318 (by decide) (fun _ => ?_) (fun q => absurd (hr.trans q) (wcd_ne e0))
    refine lv_goto (tgt := 1410) C.x C.b dL_law_333 (by decide) ?_
    exact B E (S_X7_close σ (xs (6 * i + 1)) (xs (6 * i + 2))).2 mm H locs _ _ ls C h bq5 (by omega) (by show cells + 10 + 0 + 0 ≤ _; omega) (by show slots + 60 + 0 + 0 ≤ _; omega) (lv_sub hl [2, 3, 4, 5, 6, 7] rfl)
theorem cl_L_pilot : CLd RL 100 yL_pilot cL_pilot 5 [(0, 10, 13, 19), (0, 10, 17, 13)] 4 := ⟨m_ml_L_100, m_cw_L_pilot, m_ini_L, by decide +kernel, by decide +kernel, m_st_L_pilot⟩
theorem B_pilot {σ : St} {m n c : Nat} (h : RR σ σ m n c) (p1 p2 : Int32) : BQ (LST (S_X6_pilot σ p1 p2) σ) m n c 1 2 n (S_X6_pilot σ p1 p2) (S_X7_pilot (LST (S_X6_pilot σ p1 p2) σ) p1 p2) :=
  BLx (A_pilot (h.lst (fun f i q => F6_pilot q σ p1 p2)) p1 p2) (fun f i q => F7_pilot q _ p1 p2)
theorem O_pilot {σ : St} {m n c : Nat} {E1 : En} (h : RR σ σ m n c) (p1 p2 : Int32) (e0 : (S_X6_pilot σ p1 p2).1 = 0) (hn : n = en E1) : OK E1 (S_X6_pilot σ p1 p2).2.2 :=
  OKx h (A_pilot h p1 p2) (fun f i q => F6_pilot q σ p1 p2) e0 hn (by omega)
theorem cw_L_102 : CWd RL 102 yX7_pilot cX7_pilot 3 (some .int) 2 := ⟨m_ml_L_102, m_co_X7_pilot, m_ini_X7, by decide +kernel, by decide +kernel⟩
set_option maxRecDepth 100000 in
set_option maxHeartbeats 4000000 in
theorem case_pilot {p : Program} {l : Launch} (hfl : l.stackTraces = false) {e : Env} {s : State} {m : MethodId} {args : Array Value} {below : List Frame} {meth : Method} {c : Code} {Q : State → Prop} {D : va_G} {A : Nat → Prop} {b L i : Nat} {xs : Nat → Int32} (hX : va_X b L xs s s.heap) (hbl : b < s.heap.size) (hbA : ¬ A b) (hL : L ≤ 3072) (hi : 6 * i + 5 < L) (B : BK p l e s m args below meth c Q D A b i) {E : En} {σ : St} {mm : Nat} {H : Heap} {locs : List Loc} {cells slots : Nat} {ls : Array Slot} (C : CX p s m meth c cL_law RL 9 D E A) (h : HW D E σ A s H locs) (hR : RR σ σ mm (en E) i) (hm : mm ≤ 500 * i) (hc : cells ≤ 64 + 10 * i) (hs : slots ≤ 512 + 60 * i) (hl : lv_has ls 9 (LV E b i)) : W p l e room_1 s m args below meth c H locs cells slots Q (F0 m 336 ls []) := by
  have ok := hR.ok rfl
  have hl : lv_has ls 9 [(5, .int (nI (6 * i))), (4, .ref (ead E 36)), (3, .ref (ead E 35)), (2, .ref (ead E 15)), (1, .ref (ead E 0)), (0, .ref b)] := hl
  refine lv_aload_n C.x C.b dL_law_336 rfl (lv_at hl 4 rfl) ?_
  refine lv_aload_n C.x C.b dL_law_337 rfl (lv_at hl 5 rfl) ?_
  refine lv_iload C.x C.b dL_law_338 (lv_at hl 0 rfl) ?_
  refine lv_iconst (v := 1) C.x C.b dL_law_340 (by decide) ?_
  refine lv_iadd C.x C.b dL_law_341 ?_
  refine ldS (j := 6 * i + 1) C h hX hbl hbA hL (by omega) (nI_add (6 * i) 1) dL_law_342 ?_
  refine lv_aload_n C.x C.b dL_law_343 rfl (lv_at hl 5 rfl) ?_
  refine lv_iload C.x C.b dL_law_344 (lv_at hl 0 rfl) ?_
  refine lv_iconst (v := 2) C.x C.b dL_law_346 (by decide) ?_
  refine lv_iadd C.x C.b dL_law_347 ?_
  refine ldS (j := 6 * i + 2) C h hX hbl hbA hL (by omega) (nI_add (6 * i) 2) dL_law_348 ?_
  refine lv_aload_n C.x C.b dL_law_349 rfl (lv_at hl 2 rfl) ?_
  refine caL (As := [.ref (ead E 0), .int (xs (6 * i + 1)), .int (xs (6 * i + 2)), .ref (ead E 35)]) (rest := []) C h (M_L_pilot l hfl D E σ ok (xs (6 * i + 1)) (xs (6 * i + 2))) cl_L_pilot rfl rfl ⟨Nat.le_of_ble_eq_true rfl, Nat.le_of_ble_eq_true rfl⟩ hl rfl (Nat.le_of_ble_eq_true rfl) dL_law_350 ⟨by show cells + 10 ≤ 601024; omega, by show slots + 60 ≤ 7293034; omega⟩ (fun r u H locs hp h => ?_)
  obtain ⟨hr, hp0, hp1⟩ := hp
  have Bq := B_pilot hR (xs (6 * i + 1)) (xs (6 * i + 2))
  by_cases e0 : (S_X6_pilot σ (xs (6 * i + 1)) (xs (6 * i + 2))).1 = 0
  · obtain rfl := hp0 e0
    have eS : LST (S_X6_pilot σ (xs (6 * i + 1)) (xs (6 * i + 2))) σ = (S_X6_pilot σ (xs (6 * i + 1)) (xs (6 * i + 2))).2.2 := if_pos e0
    rw [eS] at Bq
    obtain ⟨bq1, bq2, -⟩ := Bq
    obtain ⟨bq3, m', bq4, bq5⟩ := bq2 e0
    have okm : OK (setO E (S_X6_pilot σ (xs (6 * i + 1)) (xs (6 * i + 2))).2.1.toInt64) (S_X6_pilot σ (xs (6 * i + 1)) (xs (6 * i + 2))).2.2 := O_pilot hR (xs (6 * i + 1)) (xs (6 * i + 2)) e0 rfl
    have C : CX p s m meth c cL_law RL 9 D (setO E (S_X6_pilot σ (xs (6 * i + 1)) (xs (6 * i + 2))).2.1.toInt64) A := C
    have h : HW D (setO E (S_X6_pilot σ (xs (6 * i + 1)) (xs (6 * i + 2))).2.1.toInt64) (S_X6_pilot σ (xs (6 * i + 1)) (xs (6 * i + 2))).2.2 A s H locs := h
    have hl : lv_has ls 9 [(5, .int (nI (6 * i))), (4, .ref (ead (setO E (S_X6_pilot σ (xs (6 * i + 1)) (xs (6 * i + 2))).2.1.toInt64) 36)), (3, .ref (ead (setO E (S_X6_pilot σ (xs (6 * i + 1)) (xs (6 * i + 2))).2.1.toInt64) 35)), (2, .ref (ead (setO E (S_X6_pilot σ (xs (6 * i + 1)) (xs (6 * i + 2))).2.1.toInt64) 15)), (1, .ref (ead (setO E (S_X6_pilot σ (xs (6 * i + 1)) (xs (6 * i + 2))).2.1.toInt64) 0)), (0, .ref b)] := hl
    refine lv_istore (lv' := [(6, .int r), (5, .int (nI (6 * i))), (4, .ref (ead (setO E (S_X6_pilot σ (xs (6 * i + 1)) (xs (6 * i + 2))).2.1.toInt64) 36)), (3, .ref (ead (setO E (S_X6_pilot σ (xs (6 * i + 1)) (xs (6 * i + 2))).2.1.toInt64) 35)), (2, .ref (ead (setO E (S_X6_pilot σ (xs (6 * i + 1)) (xs (6 * i + 2))).2.1.toInt64) 15)), (1, .ref (ead (setO E (S_X6_pilot σ (xs (6 * i + 1)) (xs (6 * i + 2))).2.1.toInt64) 0)), (0, .ref b)]) C.x C.b dL_law_353 hl (by decide) rfl (fun ls hl => ?_)
    refine lv_aload_n C.x C.b dL_law_355 rfl (lv_at hl 4 rfl) ?_
    refine lv_aload_n C.x C.b dL_law_356 rfl (lv_at hl 6 rfl) ?_
    refine lv_iload C.x C.b dL_law_357 (lv_at hl 1 rfl) ?_
    refine lv_iconst (v := 1) C.x C.b dL_law_359 (by decide) ?_
    refine lv_iadd C.x C.b dL_law_360 ?_
    refine ldS (j := 6 * i + 1) C h hX hbl hbA hL (by omega) (nI_add (6 * i) 1) dL_law_361 ?_
    refine lv_aload_n C.x C.b dL_law_362 rfl (lv_at hl 6 rfl) ?_
    refine lv_iload C.x C.b dL_law_363 (lv_at hl 1 rfl) ?_
    refine lv_iconst (v := 2) C.x C.b dL_law_365 (by decide) ?_
    refine lv_iadd C.x C.b dL_law_366 ?_
    refine ldS (j := 6 * i + 2) C h hX hbl hbA hL (by omega) (nI_add (6 * i) 2) dL_law_367 ?_
    refine caVi (As := [.int (xs (6 * i + 1)), .int (xs (6 * i + 2))]) (rest := []) (q0 := 15) (ci := 7) C h (M_X7_pilot l D _ _ okm (xs (6 * i + 1)) (xs (6 * i + 2))) cw_L_102 m_im_X7_pilot m_se_X7_pilot rfl rfl ⟨Nat.le_of_ble_eq_true rfl, Nat.le_of_ble_eq_true rfl⟩ rfl rfl hl rfl (Nat.le_of_ble_eq_true rfl) dL_law_368 ⟨by show cells + 10 + 0 ≤ 601024; omega, by show slots + 60 + 0 ≤ 7293034; omega⟩ (fun r2 u H locs hw h => ?_)
    obtain ⟨rfl, rfl⟩ := hw
    refine lv_istore (lv' := [(7, .int (S_X7_pilot (S_X6_pilot σ (xs (6 * i + 1)) (xs (6 * i + 2))).2.2 (xs (6 * i + 1)) (xs (6 * i + 2))).1), (6, .int r), (5, .int (nI (6 * i))), (4, .ref (ead (setO E (S_X6_pilot σ (xs (6 * i + 1)) (xs (6 * i + 2))).2.1.toInt64) 36)), (3, .ref (ead (setO E (S_X6_pilot σ (xs (6 * i + 1)) (xs (6 * i + 2))).2.1.toInt64) 35)), (2, .ref (ead (setO E (S_X6_pilot σ (xs (6 * i + 1)) (xs (6 * i + 2))).2.1.toInt64) 15)), (1, .ref (ead (setO E (S_X6_pilot σ (xs (6 * i + 1)) (xs (6 * i + 2))).2.1.toInt64) 0)), (0, .ref b)]) C.x C.b dL_law_371 hl (by decide) rfl (fun ls hl => ?_)
    refine lv_aload_n C.x C.b dL_law_373 rfl (lv_at hl 5 rfl) ?_
    have okt : OK (setO E (S_X6_pilot σ (xs (6 * i + 1)) (xs (6 * i + 2))).2.1.toInt64) (S_X7_pilot (S_X6_pilot σ (xs (6 * i + 1)) (xs (6 * i + 2))).2.2 (xs (6 * i + 1)) (xs (6 * i + 2))).2 := bq5.ok rfl
    refine caVi (As := []) (rest := []) (q0 := 15) (ci := 7) C h (M_X7_thrown l D _ _ okt) cw_L_88 m_im_X7_thrown m_se_X7_thrown rfl rfl ⟨Nat.le_of_ble_eq_true rfl, Nat.le_of_ble_eq_true rfl⟩ rfl rfl hl rfl (Nat.le_of_ble_eq_true rfl) dL_law_374 ⟨by show cells + 10 + 0 + 0 ≤ 601024; omega, by show slots + 60 + 0 + 0 ≤ 7293034; omega⟩ (fun r3 u H locs hw h => ?_)
    obtain ⟨rfl, rfl⟩ := hw
    refine lv_iload C.x C.b dL_law_377 (lv_at hl 1 rfl) ?_
    have ek : S_X7_thrown (S_X7_pilot (S_X6_pilot σ (xs (6 * i + 1)) (xs (6 * i + 2))).2.2 (xs (6 * i + 1)) (xs (6 * i + 2))).2 = r := bq1.trans hr
    refine lv_icmp_eq (tgt := 384) C.x C.b dL_law_379 (by decide) (fun _ => ?_) (fun q => absurd ek q)
    refine lv_iload C.x C.b dL_law_384 (lv_at hl 1 rfl) ?_
    have er : r = 0 := by rw [← hr, e0]; rfl
    refine lv_if_ne (tgt := 401) C.x C.b dL_law_386 (by decide) (fun q => absurd er q) (fun _ => ?_)
    refine lv_aload_n C.x C.b dL_law_389 rfl (lv_at hl 4 rfl) ?_
    refine lv_iconst (v := 0) C.x C.b dL_law_390 (by decide) ?_
    refine ldL C h dL_law_391 ?_
    refine lv_iload C.x C.b dL_law_392 (lv_at hl 0 rfl) ?_
    refine lv_i2l (v := (S_X7_pilot (S_X6_pilot σ (xs (6 * i + 1)) (xs (6 * i + 2))).2.2 (xs (6 * i + 1)) (xs (6 * i + 2))).1.toInt64) C.x C.b dL_law_394 rfl ?_
    refine lcE C (show (S_X6_pilot σ (xs (6 * i + 1)) (xs (6 * i + 2))).2.1.toInt64 = (S_X7_pilot (S_X6_pilot σ (xs (6 * i + 1)) (xs (6 * i + 2))).2.2 (xs (6 * i + 1)) (xs (6 * i + 2))).1.toInt64 by rw [bq3]) dL_law_395 ?_
    refine lv_if_eq (tgt := 401) C.x C.b dL_law_396 (by decide) (fun _ => ?_) (fun q => absurd rfl q)
    refine lv_goto (tgt := 1410) C.x C.b dL_law_401 (by decide) ?_
    exact B (setO E (S_X6_pilot σ (xs (6 * i + 1)) (xs (6 * i + 2))).2.1.toInt64) (S_X7_pilot (S_X6_pilot σ (xs (6 * i + 1)) (xs (6 * i + 2))).2.2 (xs (6 * i + 1)) (xs (6 * i + 2))).2 m' H locs _ _ ls C h bq5 (by omega) (by show cells + 10 + 0 + 0 ≤ _; omega) (by show slots + 60 + 0 + 0 ≤ _; omega) (lv_sub hl [2, 3, 4, 5, 6, 7] rfl)
  · obtain rfl := hp1 e0
    have eS : LST (S_X6_pilot σ (xs (6 * i + 1)) (xs (6 * i + 2))) σ = σ := if_neg e0
    rw [eS] at Bq
    obtain ⟨bq1, -, bq2⟩ := Bq
    have bq5 := bq2 e0
    have okm : OK E σ := ok
    have C : CX p s m meth c cL_law RL 9 D E A := C
    have h : HW D E σ A s H locs := h
    have hl : lv_has ls 9 [(5, .int (nI (6 * i))), (4, .ref (ead E 36)), (3, .ref (ead E 35)), (2, .ref (ead E 15)), (1, .ref (ead E 0)), (0, .ref b)] := hl
    refine lv_istore (lv' := [(6, .int r), (5, .int (nI (6 * i))), (4, .ref (ead E 36)), (3, .ref (ead E 35)), (2, .ref (ead E 15)), (1, .ref (ead E 0)), (0, .ref b)]) C.x C.b dL_law_353 hl (by decide) rfl (fun ls hl => ?_)
    refine lv_aload_n C.x C.b dL_law_355 rfl (lv_at hl 4 rfl) ?_
    refine lv_aload_n C.x C.b dL_law_356 rfl (lv_at hl 6 rfl) ?_
    refine lv_iload C.x C.b dL_law_357 (lv_at hl 1 rfl) ?_
    refine lv_iconst (v := 1) C.x C.b dL_law_359 (by decide) ?_
    refine lv_iadd C.x C.b dL_law_360 ?_
    refine ldS (j := 6 * i + 1) C h hX hbl hbA hL (by omega) (nI_add (6 * i) 1) dL_law_361 ?_
    refine lv_aload_n C.x C.b dL_law_362 rfl (lv_at hl 6 rfl) ?_
    refine lv_iload C.x C.b dL_law_363 (lv_at hl 1 rfl) ?_
    refine lv_iconst (v := 2) C.x C.b dL_law_365 (by decide) ?_
    refine lv_iadd C.x C.b dL_law_366 ?_
    refine ldS (j := 6 * i + 2) C h hX hbl hbA hL (by omega) (nI_add (6 * i) 2) dL_law_367 ?_
    refine caVi (As := [.int (xs (6 * i + 1)), .int (xs (6 * i + 2))]) (rest := []) (q0 := 15) (ci := 7) C h (M_X7_pilot l D _ _ okm (xs (6 * i + 1)) (xs (6 * i + 2))) cw_L_102 m_im_X7_pilot m_se_X7_pilot rfl rfl ⟨Nat.le_of_ble_eq_true rfl, Nat.le_of_ble_eq_true rfl⟩ rfl rfl hl rfl (Nat.le_of_ble_eq_true rfl) dL_law_368 ⟨by show cells + 10 + 0 ≤ 601024; omega, by show slots + 60 + 0 ≤ 7293034; omega⟩ (fun r2 u H locs hw h => ?_)
    obtain ⟨rfl, rfl⟩ := hw
    refine lv_istore (lv' := [(7, .int (S_X7_pilot σ (xs (6 * i + 1)) (xs (6 * i + 2))).1), (6, .int r), (5, .int (nI (6 * i))), (4, .ref (ead E 36)), (3, .ref (ead E 35)), (2, .ref (ead E 15)), (1, .ref (ead E 0)), (0, .ref b)]) C.x C.b dL_law_371 hl (by decide) rfl (fun ls hl => ?_)
    refine lv_aload_n C.x C.b dL_law_373 rfl (lv_at hl 5 rfl) ?_
    have okt : OK E (S_X7_pilot σ (xs (6 * i + 1)) (xs (6 * i + 2))).2 := bq5.ok rfl
    refine caVi (As := []) (rest := []) (q0 := 15) (ci := 7) C h (M_X7_thrown l D _ _ okt) cw_L_88 m_im_X7_thrown m_se_X7_thrown rfl rfl ⟨Nat.le_of_ble_eq_true rfl, Nat.le_of_ble_eq_true rfl⟩ rfl rfl hl rfl (Nat.le_of_ble_eq_true rfl) dL_law_374 ⟨by show cells + 10 + 0 + 0 ≤ 601024; omega, by show slots + 60 + 0 + 0 ≤ 7293034; omega⟩ (fun r3 u H locs hw h => ?_)
    obtain ⟨rfl, rfl⟩ := hw
    refine lv_iload C.x C.b dL_law_377 (lv_at hl 1 rfl) ?_
    have ek : S_X7_thrown (S_X7_pilot σ (xs (6 * i + 1)) (xs (6 * i + 2))).2 = r := bq1.trans hr
    refine lv_icmp_eq (tgt := 384) C.x C.b dL_law_379 (by decide) (fun _ => ?_) (fun q => absurd ek q)
    refine lv_iload C.x C.b dL_law_384 (lv_at hl 1 rfl) ?_
    refine lv_if_ne (tgt := 401) C.x C.b dL_law_386 (by decide) (fun _ => ?_) (fun q => absurd (hr.trans q) (wcd_ne e0))
    refine lv_goto (tgt := 1410) C.x C.b dL_law_401 (by decide) ?_
    exact B E (S_X7_pilot σ (xs (6 * i + 1)) (xs (6 * i + 2))).2 mm H locs _ _ ls C h bq5 (by omega) (by show cells + 10 + 0 + 0 ≤ _; omega) (by show slots + 60 + 0 + 0 ≤ _; omega) (lv_sub hl [2, 3, 4, 5, 6, 7] rfl)
theorem cl_L_supply : CLd RL 103 yL_supply cL_supply 5 [(0, 10, 13, 19), (0, 10, 17, 13), (0, 10, 21, 31)] 4 := ⟨m_ml_L_103, m_cw_L_supply, m_ini_L, by decide +kernel, by decide +kernel, m_st_L_supply⟩
theorem B_supply {σ : St} {m n c : Nat} (h : RR σ σ m n c) (p1 p2 : Int32) : BQ (LST (S_X6_supply σ p1 p2) σ) m n c 1 2 n (S_X6_supply σ p1 p2) (S_X7_supply (LST (S_X6_supply σ p1 p2) σ) p1 p2) :=
  BLx (A_supply (h.lst (fun f i q => F6_supply q σ p1 p2)) p1 p2) (fun f i q => F7_supply q _ p1 p2)
theorem O_supply {σ : St} {m n c : Nat} {E1 : En} (h : RR σ σ m n c) (p1 p2 : Int32) (e0 : (S_X6_supply σ p1 p2).1 = 0) (hn : n = en E1) : OK E1 (S_X6_supply σ p1 p2).2.2 :=
  OKx h (A_supply h p1 p2) (fun f i q => F6_supply q σ p1 p2) e0 hn (by omega)
theorem cw_L_105 : CWd RL 105 yX7_supply cX7_supply 3 (some .int) 2 := ⟨m_ml_L_105, m_co_X7_supply, m_ini_X7, by decide +kernel, by decide +kernel⟩
set_option maxRecDepth 100000 in
set_option maxHeartbeats 4000000 in
theorem case_supply {p : Program} {l : Launch} (hfl : l.stackTraces = false) {e : Env} {s : State} {m : MethodId} {args : Array Value} {below : List Frame} {meth : Method} {c : Code} {Q : State → Prop} {D : va_G} {A : Nat → Prop} {b L i : Nat} {xs : Nat → Int32} (hX : va_X b L xs s s.heap) (hbl : b < s.heap.size) (hbA : ¬ A b) (hL : L ≤ 3072) (hi : 6 * i + 5 < L) (B : BK p l e s m args below meth c Q D A b i) {E : En} {σ : St} {mm : Nat} {H : Heap} {locs : List Loc} {cells slots : Nat} {ls : Array Slot} (C : CX p s m meth c cL_law RL 9 D E A) (h : HW D E σ A s H locs) (hR : RR σ σ mm (en E) i) (hm : mm ≤ 500 * i) (hc : cells ≤ 64 + 10 * i) (hs : slots ≤ 512 + 60 * i) (hl : lv_has ls 9 (LV E b i)) : W p l e room_1 s m args below meth c H locs cells slots Q (F0 m 404 ls []) := by
  have ok := hR.ok rfl
  have hl : lv_has ls 9 [(5, .int (nI (6 * i))), (4, .ref (ead E 36)), (3, .ref (ead E 35)), (2, .ref (ead E 15)), (1, .ref (ead E 0)), (0, .ref b)] := hl
  refine lv_aload_n C.x C.b dL_law_404 rfl (lv_at hl 4 rfl) ?_
  refine lv_aload_n C.x C.b dL_law_405 rfl (lv_at hl 5 rfl) ?_
  refine lv_iload C.x C.b dL_law_406 (lv_at hl 0 rfl) ?_
  refine lv_iconst (v := 1) C.x C.b dL_law_408 (by decide) ?_
  refine lv_iadd C.x C.b dL_law_409 ?_
  refine ldS (j := 6 * i + 1) C h hX hbl hbA hL (by omega) (nI_add (6 * i) 1) dL_law_410 ?_
  refine lv_aload_n C.x C.b dL_law_411 rfl (lv_at hl 5 rfl) ?_
  refine lv_iload C.x C.b dL_law_412 (lv_at hl 0 rfl) ?_
  refine lv_iconst (v := 2) C.x C.b dL_law_414 (by decide) ?_
  refine lv_iadd C.x C.b dL_law_415 ?_
  refine ldS (j := 6 * i + 2) C h hX hbl hbA hL (by omega) (nI_add (6 * i) 2) dL_law_416 ?_
  refine lv_aload_n C.x C.b dL_law_417 rfl (lv_at hl 2 rfl) ?_
  refine caL (As := [.ref (ead E 0), .int (xs (6 * i + 1)), .int (xs (6 * i + 2)), .ref (ead E 35)]) (rest := []) C h (M_L_supply l hfl D E σ ok (xs (6 * i + 1)) (xs (6 * i + 2))) cl_L_supply rfl rfl ⟨Nat.le_of_ble_eq_true rfl, Nat.le_of_ble_eq_true rfl⟩ hl rfl (Nat.le_of_ble_eq_true rfl) dL_law_418 ⟨by show cells + 10 ≤ 601024; omega, by show slots + 60 ≤ 7293034; omega⟩ (fun r u H locs hp h => ?_)
  obtain ⟨hr, hp0, hp1⟩ := hp
  have Bq := B_supply hR (xs (6 * i + 1)) (xs (6 * i + 2))
  by_cases e0 : (S_X6_supply σ (xs (6 * i + 1)) (xs (6 * i + 2))).1 = 0
  · obtain rfl := hp0 e0
    have eS : LST (S_X6_supply σ (xs (6 * i + 1)) (xs (6 * i + 2))) σ = (S_X6_supply σ (xs (6 * i + 1)) (xs (6 * i + 2))).2.2 := if_pos e0
    rw [eS] at Bq
    obtain ⟨bq1, bq2, -⟩ := Bq
    obtain ⟨bq3, m', bq4, bq5⟩ := bq2 e0
    have okm : OK (setO E (S_X6_supply σ (xs (6 * i + 1)) (xs (6 * i + 2))).2.1.toInt64) (S_X6_supply σ (xs (6 * i + 1)) (xs (6 * i + 2))).2.2 := O_supply hR (xs (6 * i + 1)) (xs (6 * i + 2)) e0 rfl
    have C : CX p s m meth c cL_law RL 9 D (setO E (S_X6_supply σ (xs (6 * i + 1)) (xs (6 * i + 2))).2.1.toInt64) A := C
    have h : HW D (setO E (S_X6_supply σ (xs (6 * i + 1)) (xs (6 * i + 2))).2.1.toInt64) (S_X6_supply σ (xs (6 * i + 1)) (xs (6 * i + 2))).2.2 A s H locs := h
    have hl : lv_has ls 9 [(5, .int (nI (6 * i))), (4, .ref (ead (setO E (S_X6_supply σ (xs (6 * i + 1)) (xs (6 * i + 2))).2.1.toInt64) 36)), (3, .ref (ead (setO E (S_X6_supply σ (xs (6 * i + 1)) (xs (6 * i + 2))).2.1.toInt64) 35)), (2, .ref (ead (setO E (S_X6_supply σ (xs (6 * i + 1)) (xs (6 * i + 2))).2.1.toInt64) 15)), (1, .ref (ead (setO E (S_X6_supply σ (xs (6 * i + 1)) (xs (6 * i + 2))).2.1.toInt64) 0)), (0, .ref b)] := hl
    refine lv_istore (lv' := [(6, .int r), (5, .int (nI (6 * i))), (4, .ref (ead (setO E (S_X6_supply σ (xs (6 * i + 1)) (xs (6 * i + 2))).2.1.toInt64) 36)), (3, .ref (ead (setO E (S_X6_supply σ (xs (6 * i + 1)) (xs (6 * i + 2))).2.1.toInt64) 35)), (2, .ref (ead (setO E (S_X6_supply σ (xs (6 * i + 1)) (xs (6 * i + 2))).2.1.toInt64) 15)), (1, .ref (ead (setO E (S_X6_supply σ (xs (6 * i + 1)) (xs (6 * i + 2))).2.1.toInt64) 0)), (0, .ref b)]) C.x C.b dL_law_421 hl (by decide) rfl (fun ls hl => ?_)
    refine lv_aload_n C.x C.b dL_law_423 rfl (lv_at hl 4 rfl) ?_
    refine lv_aload_n C.x C.b dL_law_424 rfl (lv_at hl 6 rfl) ?_
    refine lv_iload C.x C.b dL_law_425 (lv_at hl 1 rfl) ?_
    refine lv_iconst (v := 1) C.x C.b dL_law_427 (by decide) ?_
    refine lv_iadd C.x C.b dL_law_428 ?_
    refine ldS (j := 6 * i + 1) C h hX hbl hbA hL (by omega) (nI_add (6 * i) 1) dL_law_429 ?_
    refine lv_aload_n C.x C.b dL_law_430 rfl (lv_at hl 6 rfl) ?_
    refine lv_iload C.x C.b dL_law_431 (lv_at hl 1 rfl) ?_
    refine lv_iconst (v := 2) C.x C.b dL_law_433 (by decide) ?_
    refine lv_iadd C.x C.b dL_law_434 ?_
    refine ldS (j := 6 * i + 2) C h hX hbl hbA hL (by omega) (nI_add (6 * i) 2) dL_law_435 ?_
    refine caVi (As := [.int (xs (6 * i + 1)), .int (xs (6 * i + 2))]) (rest := []) (q0 := 15) (ci := 7) C h (M_X7_supply l D _ _ okm (xs (6 * i + 1)) (xs (6 * i + 2))) cw_L_105 m_im_X7_supply m_se_X7_supply rfl rfl ⟨Nat.le_of_ble_eq_true rfl, Nat.le_of_ble_eq_true rfl⟩ rfl rfl hl rfl (Nat.le_of_ble_eq_true rfl) dL_law_436 ⟨by show cells + 10 + 0 ≤ 601024; omega, by show slots + 60 + 0 ≤ 7293034; omega⟩ (fun r2 u H locs hw h => ?_)
    obtain ⟨rfl, rfl⟩ := hw
    refine lv_istore (lv' := [(7, .int (S_X7_supply (S_X6_supply σ (xs (6 * i + 1)) (xs (6 * i + 2))).2.2 (xs (6 * i + 1)) (xs (6 * i + 2))).1), (6, .int r), (5, .int (nI (6 * i))), (4, .ref (ead (setO E (S_X6_supply σ (xs (6 * i + 1)) (xs (6 * i + 2))).2.1.toInt64) 36)), (3, .ref (ead (setO E (S_X6_supply σ (xs (6 * i + 1)) (xs (6 * i + 2))).2.1.toInt64) 35)), (2, .ref (ead (setO E (S_X6_supply σ (xs (6 * i + 1)) (xs (6 * i + 2))).2.1.toInt64) 15)), (1, .ref (ead (setO E (S_X6_supply σ (xs (6 * i + 1)) (xs (6 * i + 2))).2.1.toInt64) 0)), (0, .ref b)]) C.x C.b dL_law_439 hl (by decide) rfl (fun ls hl => ?_)
    refine lv_aload_n C.x C.b dL_law_441 rfl (lv_at hl 5 rfl) ?_
    have okt : OK (setO E (S_X6_supply σ (xs (6 * i + 1)) (xs (6 * i + 2))).2.1.toInt64) (S_X7_supply (S_X6_supply σ (xs (6 * i + 1)) (xs (6 * i + 2))).2.2 (xs (6 * i + 1)) (xs (6 * i + 2))).2 := bq5.ok rfl
    refine caVi (As := []) (rest := []) (q0 := 15) (ci := 7) C h (M_X7_thrown l D _ _ okt) cw_L_88 m_im_X7_thrown m_se_X7_thrown rfl rfl ⟨Nat.le_of_ble_eq_true rfl, Nat.le_of_ble_eq_true rfl⟩ rfl rfl hl rfl (Nat.le_of_ble_eq_true rfl) dL_law_442 ⟨by show cells + 10 + 0 + 0 ≤ 601024; omega, by show slots + 60 + 0 + 0 ≤ 7293034; omega⟩ (fun r3 u H locs hw h => ?_)
    obtain ⟨rfl, rfl⟩ := hw
    refine lv_iload C.x C.b dL_law_445 (lv_at hl 1 rfl) ?_
    have ek : S_X7_thrown (S_X7_supply (S_X6_supply σ (xs (6 * i + 1)) (xs (6 * i + 2))).2.2 (xs (6 * i + 1)) (xs (6 * i + 2))).2 = r := bq1.trans hr
    refine lv_icmp_eq (tgt := 452) C.x C.b dL_law_447 (by decide) (fun _ => ?_) (fun q => absurd ek q)
    refine lv_iload C.x C.b dL_law_452 (lv_at hl 1 rfl) ?_
    have er : r = 0 := by rw [← hr, e0]; rfl
    refine lv_if_ne (tgt := 469) C.x C.b dL_law_454 (by decide) (fun q => absurd er q) (fun _ => ?_)
    refine lv_aload_n C.x C.b dL_law_457 rfl (lv_at hl 4 rfl) ?_
    refine lv_iconst (v := 0) C.x C.b dL_law_458 (by decide) ?_
    refine ldL C h dL_law_459 ?_
    refine lv_iload C.x C.b dL_law_460 (lv_at hl 0 rfl) ?_
    refine lv_i2l (v := (S_X7_supply (S_X6_supply σ (xs (6 * i + 1)) (xs (6 * i + 2))).2.2 (xs (6 * i + 1)) (xs (6 * i + 2))).1.toInt64) C.x C.b dL_law_462 rfl ?_
    refine lcE C (show (S_X6_supply σ (xs (6 * i + 1)) (xs (6 * i + 2))).2.1.toInt64 = (S_X7_supply (S_X6_supply σ (xs (6 * i + 1)) (xs (6 * i + 2))).2.2 (xs (6 * i + 1)) (xs (6 * i + 2))).1.toInt64 by rw [bq3]) dL_law_463 ?_
    refine lv_if_eq (tgt := 469) C.x C.b dL_law_464 (by decide) (fun _ => ?_) (fun q => absurd rfl q)
    refine lv_goto (tgt := 1410) C.x C.b dL_law_469 (by decide) ?_
    exact B (setO E (S_X6_supply σ (xs (6 * i + 1)) (xs (6 * i + 2))).2.1.toInt64) (S_X7_supply (S_X6_supply σ (xs (6 * i + 1)) (xs (6 * i + 2))).2.2 (xs (6 * i + 1)) (xs (6 * i + 2))).2 m' H locs _ _ ls C h bq5 (by omega) (by show cells + 10 + 0 + 0 ≤ _; omega) (by show slots + 60 + 0 + 0 ≤ _; omega) (lv_sub hl [2, 3, 4, 5, 6, 7] rfl)
  · obtain rfl := hp1 e0
    have eS : LST (S_X6_supply σ (xs (6 * i + 1)) (xs (6 * i + 2))) σ = σ := if_neg e0
    rw [eS] at Bq
    obtain ⟨bq1, -, bq2⟩ := Bq
    have bq5 := bq2 e0
    have okm : OK E σ := ok
    have C : CX p s m meth c cL_law RL 9 D E A := C
    have h : HW D E σ A s H locs := h
    have hl : lv_has ls 9 [(5, .int (nI (6 * i))), (4, .ref (ead E 36)), (3, .ref (ead E 35)), (2, .ref (ead E 15)), (1, .ref (ead E 0)), (0, .ref b)] := hl
    refine lv_istore (lv' := [(6, .int r), (5, .int (nI (6 * i))), (4, .ref (ead E 36)), (3, .ref (ead E 35)), (2, .ref (ead E 15)), (1, .ref (ead E 0)), (0, .ref b)]) C.x C.b dL_law_421 hl (by decide) rfl (fun ls hl => ?_)
    refine lv_aload_n C.x C.b dL_law_423 rfl (lv_at hl 4 rfl) ?_
    refine lv_aload_n C.x C.b dL_law_424 rfl (lv_at hl 6 rfl) ?_
    refine lv_iload C.x C.b dL_law_425 (lv_at hl 1 rfl) ?_
    refine lv_iconst (v := 1) C.x C.b dL_law_427 (by decide) ?_
    refine lv_iadd C.x C.b dL_law_428 ?_
    refine ldS (j := 6 * i + 1) C h hX hbl hbA hL (by omega) (nI_add (6 * i) 1) dL_law_429 ?_
    refine lv_aload_n C.x C.b dL_law_430 rfl (lv_at hl 6 rfl) ?_
    refine lv_iload C.x C.b dL_law_431 (lv_at hl 1 rfl) ?_
    refine lv_iconst (v := 2) C.x C.b dL_law_433 (by decide) ?_
    refine lv_iadd C.x C.b dL_law_434 ?_
    refine ldS (j := 6 * i + 2) C h hX hbl hbA hL (by omega) (nI_add (6 * i) 2) dL_law_435 ?_
    refine caVi (As := [.int (xs (6 * i + 1)), .int (xs (6 * i + 2))]) (rest := []) (q0 := 15) (ci := 7) C h (M_X7_supply l D _ _ okm (xs (6 * i + 1)) (xs (6 * i + 2))) cw_L_105 m_im_X7_supply m_se_X7_supply rfl rfl ⟨Nat.le_of_ble_eq_true rfl, Nat.le_of_ble_eq_true rfl⟩ rfl rfl hl rfl (Nat.le_of_ble_eq_true rfl) dL_law_436 ⟨by show cells + 10 + 0 ≤ 601024; omega, by show slots + 60 + 0 ≤ 7293034; omega⟩ (fun r2 u H locs hw h => ?_)
    obtain ⟨rfl, rfl⟩ := hw
    refine lv_istore (lv' := [(7, .int (S_X7_supply σ (xs (6 * i + 1)) (xs (6 * i + 2))).1), (6, .int r), (5, .int (nI (6 * i))), (4, .ref (ead E 36)), (3, .ref (ead E 35)), (2, .ref (ead E 15)), (1, .ref (ead E 0)), (0, .ref b)]) C.x C.b dL_law_439 hl (by decide) rfl (fun ls hl => ?_)
    refine lv_aload_n C.x C.b dL_law_441 rfl (lv_at hl 5 rfl) ?_
    have okt : OK E (S_X7_supply σ (xs (6 * i + 1)) (xs (6 * i + 2))).2 := bq5.ok rfl
    refine caVi (As := []) (rest := []) (q0 := 15) (ci := 7) C h (M_X7_thrown l D _ _ okt) cw_L_88 m_im_X7_thrown m_se_X7_thrown rfl rfl ⟨Nat.le_of_ble_eq_true rfl, Nat.le_of_ble_eq_true rfl⟩ rfl rfl hl rfl (Nat.le_of_ble_eq_true rfl) dL_law_442 ⟨by show cells + 10 + 0 + 0 ≤ 601024; omega, by show slots + 60 + 0 + 0 ≤ 7293034; omega⟩ (fun r3 u H locs hw h => ?_)
    obtain ⟨rfl, rfl⟩ := hw
    refine lv_iload C.x C.b dL_law_445 (lv_at hl 1 rfl) ?_
    have ek : S_X7_thrown (S_X7_supply σ (xs (6 * i + 1)) (xs (6 * i + 2))).2 = r := bq1.trans hr
    refine lv_icmp_eq (tgt := 452) C.x C.b dL_law_447 (by decide) (fun _ => ?_) (fun q => absurd ek q)
    refine lv_iload C.x C.b dL_law_452 (lv_at hl 1 rfl) ?_
    refine lv_if_ne (tgt := 469) C.x C.b dL_law_454 (by decide) (fun _ => ?_) (fun q => absurd (hr.trans q) (wcd_ne e0))
    refine lv_goto (tgt := 1410) C.x C.b dL_law_469 (by decide) ?_
    exact B E (S_X7_supply σ (xs (6 * i + 1)) (xs (6 * i + 2))).2 mm H locs _ _ ls C h bq5 (by omega) (by show cells + 10 + 0 + 0 ≤ _; omega) (by show slots + 60 + 0 + 0 ≤ _; omega) (lv_sub hl [2, 3, 4, 5, 6, 7] rfl)
theorem cl_L_table : CLd RL 106 yL_table cL_table 6 [(0, 12, 15, 19), (0, 12, 19, 13)] 5 := ⟨m_ml_L_106, m_cw_L_table, m_ini_L, by decide +kernel, by decide +kernel, m_st_L_table⟩
theorem B_table {σ : St} {m n c : Nat} (h : RR σ σ m n c) (p1 p2 p3 : Int32) : BQ (LST (S_X6_table σ p1 p2 p3) σ) m n c 1 2 n (S_X6_table σ p1 p2 p3) (S_X7_table (LST (S_X6_table σ p1 p2 p3) σ) p1 p2 p3) :=
  BLx (A_table (h.lst (fun f i q => F6_table q σ p1 p2 p3)) p1 p2 p3) (fun f i q => F7_table q _ p1 p2 p3)
theorem O_table {σ : St} {m n c : Nat} {E1 : En} (h : RR σ σ m n c) (p1 p2 p3 : Int32) (e0 : (S_X6_table σ p1 p2 p3).1 = 0) (hn : n = en E1) : OK E1 (S_X6_table σ p1 p2 p3).2.2 :=
  OKx h (A_table h p1 p2 p3) (fun f i q => F6_table q σ p1 p2 p3) e0 hn (by omega)
theorem cw_L_109 : CWd RL 109 yX7_table cX7_table 5 (some .int) 3 := ⟨m_ml_L_109, m_co_X7_table, m_ini_X7, by decide +kernel, by decide +kernel⟩
set_option maxRecDepth 100000 in
set_option maxHeartbeats 4000000 in
theorem case_table {p : Program} {l : Launch} (hfl : l.stackTraces = false) {e : Env} {s : State} {m : MethodId} {args : Array Value} {below : List Frame} {meth : Method} {c : Code} {Q : State → Prop} {D : va_G} {A : Nat → Prop} {b L i : Nat} {xs : Nat → Int32} (hX : va_X b L xs s s.heap) (hbl : b < s.heap.size) (hbA : ¬ A b) (hL : L ≤ 3072) (hi : 6 * i + 5 < L) (B : BK p l e s m args below meth c Q D A b i) {E : En} {σ : St} {mm : Nat} {H : Heap} {locs : List Loc} {cells slots : Nat} {ls : Array Slot} (C : CX p s m meth c cL_law RL 9 D E A) (h : HW D E σ A s H locs) (hR : RR σ σ mm (en E) i) (hm : mm ≤ 500 * i) (hc : cells ≤ 64 + 10 * i) (hs : slots ≤ 512 + 60 * i) (hl : lv_has ls 9 (LV E b i)) : W p l e room_1 s m args below meth c H locs cells slots Q (F0 m 472 ls []) := by
  have ok := hR.ok rfl
  have hl : lv_has ls 9 [(5, .int (nI (6 * i))), (4, .ref (ead E 36)), (3, .ref (ead E 35)), (2, .ref (ead E 15)), (1, .ref (ead E 0)), (0, .ref b)] := hl
  refine lv_aload_n C.x C.b dL_law_472 rfl (lv_at hl 4 rfl) ?_
  refine lv_aload_n C.x C.b dL_law_473 rfl (lv_at hl 5 rfl) ?_
  refine lv_iload C.x C.b dL_law_474 (lv_at hl 0 rfl) ?_
  refine lv_iconst (v := 1) C.x C.b dL_law_476 (by decide) ?_
  refine lv_iadd C.x C.b dL_law_477 ?_
  refine ldS (j := 6 * i + 1) C h hX hbl hbA hL (by omega) (nI_add (6 * i) 1) dL_law_478 ?_
  refine lv_aload_n C.x C.b dL_law_479 rfl (lv_at hl 5 rfl) ?_
  refine lv_iload C.x C.b dL_law_480 (lv_at hl 0 rfl) ?_
  refine lv_iconst (v := 2) C.x C.b dL_law_482 (by decide) ?_
  refine lv_iadd C.x C.b dL_law_483 ?_
  refine ldS (j := 6 * i + 2) C h hX hbl hbA hL (by omega) (nI_add (6 * i) 2) dL_law_484 ?_
  refine lv_aload_n C.x C.b dL_law_485 rfl (lv_at hl 5 rfl) ?_
  refine lv_iload C.x C.b dL_law_486 (lv_at hl 0 rfl) ?_
  refine lv_iconst (v := 3) C.x C.b dL_law_488 (by decide) ?_
  refine lv_iadd C.x C.b dL_law_489 ?_
  refine ldS (j := 6 * i + 3) C h hX hbl hbA hL (by omega) (nI_add (6 * i) 3) dL_law_490 ?_
  refine lv_aload_n C.x C.b dL_law_491 rfl (lv_at hl 2 rfl) ?_
  refine caL (As := [.ref (ead E 0), .int (xs (6 * i + 1)), .int (xs (6 * i + 2)), .int (xs (6 * i + 3)), .ref (ead E 35)]) (rest := []) C h (M_L_table l hfl D E σ ok (xs (6 * i + 1)) (xs (6 * i + 2)) (xs (6 * i + 3))) cl_L_table rfl rfl ⟨Nat.le_of_ble_eq_true rfl, Nat.le_of_ble_eq_true rfl⟩ hl rfl (Nat.le_of_ble_eq_true rfl) dL_law_492 ⟨by show cells + 10 ≤ 601024; omega, by show slots + 60 ≤ 7293034; omega⟩ (fun r u H locs hp h => ?_)
  obtain ⟨hr, hp0, hp1⟩ := hp
  have Bq := B_table hR (xs (6 * i + 1)) (xs (6 * i + 2)) (xs (6 * i + 3))
  by_cases e0 : (S_X6_table σ (xs (6 * i + 1)) (xs (6 * i + 2)) (xs (6 * i + 3))).1 = 0
  · obtain rfl := hp0 e0
    have eS : LST (S_X6_table σ (xs (6 * i + 1)) (xs (6 * i + 2)) (xs (6 * i + 3))) σ = (S_X6_table σ (xs (6 * i + 1)) (xs (6 * i + 2)) (xs (6 * i + 3))).2.2 := if_pos e0
    rw [eS] at Bq
    obtain ⟨bq1, bq2, -⟩ := Bq
    obtain ⟨bq3, m', bq4, bq5⟩ := bq2 e0
    have okm : OK (setO E (S_X6_table σ (xs (6 * i + 1)) (xs (6 * i + 2)) (xs (6 * i + 3))).2.1.toInt64) (S_X6_table σ (xs (6 * i + 1)) (xs (6 * i + 2)) (xs (6 * i + 3))).2.2 := O_table hR (xs (6 * i + 1)) (xs (6 * i + 2)) (xs (6 * i + 3)) e0 rfl
    have C : CX p s m meth c cL_law RL 9 D (setO E (S_X6_table σ (xs (6 * i + 1)) (xs (6 * i + 2)) (xs (6 * i + 3))).2.1.toInt64) A := C
    have h : HW D (setO E (S_X6_table σ (xs (6 * i + 1)) (xs (6 * i + 2)) (xs (6 * i + 3))).2.1.toInt64) (S_X6_table σ (xs (6 * i + 1)) (xs (6 * i + 2)) (xs (6 * i + 3))).2.2 A s H locs := h
    have hl : lv_has ls 9 [(5, .int (nI (6 * i))), (4, .ref (ead (setO E (S_X6_table σ (xs (6 * i + 1)) (xs (6 * i + 2)) (xs (6 * i + 3))).2.1.toInt64) 36)), (3, .ref (ead (setO E (S_X6_table σ (xs (6 * i + 1)) (xs (6 * i + 2)) (xs (6 * i + 3))).2.1.toInt64) 35)), (2, .ref (ead (setO E (S_X6_table σ (xs (6 * i + 1)) (xs (6 * i + 2)) (xs (6 * i + 3))).2.1.toInt64) 15)), (1, .ref (ead (setO E (S_X6_table σ (xs (6 * i + 1)) (xs (6 * i + 2)) (xs (6 * i + 3))).2.1.toInt64) 0)), (0, .ref b)] := hl
    refine lv_istore (lv' := [(6, .int r), (5, .int (nI (6 * i))), (4, .ref (ead (setO E (S_X6_table σ (xs (6 * i + 1)) (xs (6 * i + 2)) (xs (6 * i + 3))).2.1.toInt64) 36)), (3, .ref (ead (setO E (S_X6_table σ (xs (6 * i + 1)) (xs (6 * i + 2)) (xs (6 * i + 3))).2.1.toInt64) 35)), (2, .ref (ead (setO E (S_X6_table σ (xs (6 * i + 1)) (xs (6 * i + 2)) (xs (6 * i + 3))).2.1.toInt64) 15)), (1, .ref (ead (setO E (S_X6_table σ (xs (6 * i + 1)) (xs (6 * i + 2)) (xs (6 * i + 3))).2.1.toInt64) 0)), (0, .ref b)]) C.x C.b dL_law_495 hl (by decide) rfl (fun ls hl => ?_)
    refine lv_aload_n C.x C.b dL_law_497 rfl (lv_at hl 4 rfl) ?_
    refine lv_aload_n C.x C.b dL_law_498 rfl (lv_at hl 6 rfl) ?_
    refine lv_iload C.x C.b dL_law_499 (lv_at hl 1 rfl) ?_
    refine lv_iconst (v := 1) C.x C.b dL_law_501 (by decide) ?_
    refine lv_iadd C.x C.b dL_law_502 ?_
    refine ldS (j := 6 * i + 1) C h hX hbl hbA hL (by omega) (nI_add (6 * i) 1) dL_law_503 ?_
    refine lv_aload_n C.x C.b dL_law_504 rfl (lv_at hl 6 rfl) ?_
    refine lv_iload C.x C.b dL_law_505 (lv_at hl 1 rfl) ?_
    refine lv_iconst (v := 2) C.x C.b dL_law_507 (by decide) ?_
    refine lv_iadd C.x C.b dL_law_508 ?_
    refine ldS (j := 6 * i + 2) C h hX hbl hbA hL (by omega) (nI_add (6 * i) 2) dL_law_509 ?_
    refine lv_aload_n C.x C.b dL_law_510 rfl (lv_at hl 6 rfl) ?_
    refine lv_iload C.x C.b dL_law_511 (lv_at hl 1 rfl) ?_
    refine lv_iconst (v := 3) C.x C.b dL_law_513 (by decide) ?_
    refine lv_iadd C.x C.b dL_law_514 ?_
    refine ldS (j := 6 * i + 3) C h hX hbl hbA hL (by omega) (nI_add (6 * i) 3) dL_law_515 ?_
    refine caVi (As := [.int (xs (6 * i + 1)), .int (xs (6 * i + 2)), .int (xs (6 * i + 3))]) (rest := []) (q0 := 15) (ci := 7) C h (M_X7_table l D _ _ okm (xs (6 * i + 1)) (xs (6 * i + 2)) (xs (6 * i + 3))) cw_L_109 m_im_X7_table m_se_X7_table rfl rfl ⟨Nat.le_of_ble_eq_true rfl, Nat.le_of_ble_eq_true rfl⟩ rfl rfl hl rfl (Nat.le_of_ble_eq_true rfl) dL_law_516 ⟨by show cells + 10 + 0 ≤ 601024; omega, by show slots + 60 + 0 ≤ 7293034; omega⟩ (fun r2 u H locs hw h => ?_)
    obtain ⟨rfl, rfl⟩ := hw
    refine lv_istore (lv' := [(7, .int (S_X7_table (S_X6_table σ (xs (6 * i + 1)) (xs (6 * i + 2)) (xs (6 * i + 3))).2.2 (xs (6 * i + 1)) (xs (6 * i + 2)) (xs (6 * i + 3))).1), (6, .int r), (5, .int (nI (6 * i))), (4, .ref (ead (setO E (S_X6_table σ (xs (6 * i + 1)) (xs (6 * i + 2)) (xs (6 * i + 3))).2.1.toInt64) 36)), (3, .ref (ead (setO E (S_X6_table σ (xs (6 * i + 1)) (xs (6 * i + 2)) (xs (6 * i + 3))).2.1.toInt64) 35)), (2, .ref (ead (setO E (S_X6_table σ (xs (6 * i + 1)) (xs (6 * i + 2)) (xs (6 * i + 3))).2.1.toInt64) 15)), (1, .ref (ead (setO E (S_X6_table σ (xs (6 * i + 1)) (xs (6 * i + 2)) (xs (6 * i + 3))).2.1.toInt64) 0)), (0, .ref b)]) C.x C.b dL_law_519 hl (by decide) rfl (fun ls hl => ?_)
    refine lv_aload_n C.x C.b dL_law_521 rfl (lv_at hl 5 rfl) ?_
    have okt : OK (setO E (S_X6_table σ (xs (6 * i + 1)) (xs (6 * i + 2)) (xs (6 * i + 3))).2.1.toInt64) (S_X7_table (S_X6_table σ (xs (6 * i + 1)) (xs (6 * i + 2)) (xs (6 * i + 3))).2.2 (xs (6 * i + 1)) (xs (6 * i + 2)) (xs (6 * i + 3))).2 := bq5.ok rfl
    refine caVi (As := []) (rest := []) (q0 := 15) (ci := 7) C h (M_X7_thrown l D _ _ okt) cw_L_88 m_im_X7_thrown m_se_X7_thrown rfl rfl ⟨Nat.le_of_ble_eq_true rfl, Nat.le_of_ble_eq_true rfl⟩ rfl rfl hl rfl (Nat.le_of_ble_eq_true rfl) dL_law_522 ⟨by show cells + 10 + 0 + 0 ≤ 601024; omega, by show slots + 60 + 0 + 0 ≤ 7293034; omega⟩ (fun r3 u H locs hw h => ?_)
    obtain ⟨rfl, rfl⟩ := hw
    refine lv_iload C.x C.b dL_law_525 (lv_at hl 1 rfl) ?_
    have ek : S_X7_thrown (S_X7_table (S_X6_table σ (xs (6 * i + 1)) (xs (6 * i + 2)) (xs (6 * i + 3))).2.2 (xs (6 * i + 1)) (xs (6 * i + 2)) (xs (6 * i + 3))).2 = r := bq1.trans hr
    refine lv_icmp_eq (tgt := 532) C.x C.b dL_law_527 (by decide) (fun _ => ?_) (fun q => absurd ek q)
    refine lv_iload C.x C.b dL_law_532 (lv_at hl 1 rfl) ?_
    have er : r = 0 := by rw [← hr, e0]; rfl
    refine lv_if_ne (tgt := 549) C.x C.b dL_law_534 (by decide) (fun q => absurd er q) (fun _ => ?_)
    refine lv_aload_n C.x C.b dL_law_537 rfl (lv_at hl 4 rfl) ?_
    refine lv_iconst (v := 0) C.x C.b dL_law_538 (by decide) ?_
    refine ldL C h dL_law_539 ?_
    refine lv_iload C.x C.b dL_law_540 (lv_at hl 0 rfl) ?_
    refine lv_i2l (v := (S_X7_table (S_X6_table σ (xs (6 * i + 1)) (xs (6 * i + 2)) (xs (6 * i + 3))).2.2 (xs (6 * i + 1)) (xs (6 * i + 2)) (xs (6 * i + 3))).1.toInt64) C.x C.b dL_law_542 rfl ?_
    refine lcE C (show (S_X6_table σ (xs (6 * i + 1)) (xs (6 * i + 2)) (xs (6 * i + 3))).2.1.toInt64 = (S_X7_table (S_X6_table σ (xs (6 * i + 1)) (xs (6 * i + 2)) (xs (6 * i + 3))).2.2 (xs (6 * i + 1)) (xs (6 * i + 2)) (xs (6 * i + 3))).1.toInt64 by rw [bq3]) dL_law_543 ?_
    refine lv_if_eq (tgt := 549) C.x C.b dL_law_544 (by decide) (fun _ => ?_) (fun q => absurd rfl q)
    refine lv_goto (tgt := 1410) C.x C.b dL_law_549 (by decide) ?_
    exact B (setO E (S_X6_table σ (xs (6 * i + 1)) (xs (6 * i + 2)) (xs (6 * i + 3))).2.1.toInt64) (S_X7_table (S_X6_table σ (xs (6 * i + 1)) (xs (6 * i + 2)) (xs (6 * i + 3))).2.2 (xs (6 * i + 1)) (xs (6 * i + 2)) (xs (6 * i + 3))).2 m' H locs _ _ ls C h bq5 (by omega) (by show cells + 10 + 0 + 0 ≤ _; omega) (by show slots + 60 + 0 + 0 ≤ _; omega) (lv_sub hl [2, 3, 4, 5, 6, 7] rfl)
  · obtain rfl := hp1 e0
    have eS : LST (S_X6_table σ (xs (6 * i + 1)) (xs (6 * i + 2)) (xs (6 * i + 3))) σ = σ := if_neg e0
    rw [eS] at Bq
    obtain ⟨bq1, -, bq2⟩ := Bq
    have bq5 := bq2 e0
    have okm : OK E σ := ok
    have C : CX p s m meth c cL_law RL 9 D E A := C
    have h : HW D E σ A s H locs := h
    have hl : lv_has ls 9 [(5, .int (nI (6 * i))), (4, .ref (ead E 36)), (3, .ref (ead E 35)), (2, .ref (ead E 15)), (1, .ref (ead E 0)), (0, .ref b)] := hl
    refine lv_istore (lv' := [(6, .int r), (5, .int (nI (6 * i))), (4, .ref (ead E 36)), (3, .ref (ead E 35)), (2, .ref (ead E 15)), (1, .ref (ead E 0)), (0, .ref b)]) C.x C.b dL_law_495 hl (by decide) rfl (fun ls hl => ?_)
    refine lv_aload_n C.x C.b dL_law_497 rfl (lv_at hl 4 rfl) ?_
    refine lv_aload_n C.x C.b dL_law_498 rfl (lv_at hl 6 rfl) ?_
    refine lv_iload C.x C.b dL_law_499 (lv_at hl 1 rfl) ?_
    refine lv_iconst (v := 1) C.x C.b dL_law_501 (by decide) ?_
    refine lv_iadd C.x C.b dL_law_502 ?_
    refine ldS (j := 6 * i + 1) C h hX hbl hbA hL (by omega) (nI_add (6 * i) 1) dL_law_503 ?_
    refine lv_aload_n C.x C.b dL_law_504 rfl (lv_at hl 6 rfl) ?_
    refine lv_iload C.x C.b dL_law_505 (lv_at hl 1 rfl) ?_
    refine lv_iconst (v := 2) C.x C.b dL_law_507 (by decide) ?_
    refine lv_iadd C.x C.b dL_law_508 ?_
    refine ldS (j := 6 * i + 2) C h hX hbl hbA hL (by omega) (nI_add (6 * i) 2) dL_law_509 ?_
    refine lv_aload_n C.x C.b dL_law_510 rfl (lv_at hl 6 rfl) ?_
    refine lv_iload C.x C.b dL_law_511 (lv_at hl 1 rfl) ?_
    refine lv_iconst (v := 3) C.x C.b dL_law_513 (by decide) ?_
    refine lv_iadd C.x C.b dL_law_514 ?_
    refine ldS (j := 6 * i + 3) C h hX hbl hbA hL (by omega) (nI_add (6 * i) 3) dL_law_515 ?_
    refine caVi (As := [.int (xs (6 * i + 1)), .int (xs (6 * i + 2)), .int (xs (6 * i + 3))]) (rest := []) (q0 := 15) (ci := 7) C h (M_X7_table l D _ _ okm (xs (6 * i + 1)) (xs (6 * i + 2)) (xs (6 * i + 3))) cw_L_109 m_im_X7_table m_se_X7_table rfl rfl ⟨Nat.le_of_ble_eq_true rfl, Nat.le_of_ble_eq_true rfl⟩ rfl rfl hl rfl (Nat.le_of_ble_eq_true rfl) dL_law_516 ⟨by show cells + 10 + 0 ≤ 601024; omega, by show slots + 60 + 0 ≤ 7293034; omega⟩ (fun r2 u H locs hw h => ?_)
    obtain ⟨rfl, rfl⟩ := hw
    refine lv_istore (lv' := [(7, .int (S_X7_table σ (xs (6 * i + 1)) (xs (6 * i + 2)) (xs (6 * i + 3))).1), (6, .int r), (5, .int (nI (6 * i))), (4, .ref (ead E 36)), (3, .ref (ead E 35)), (2, .ref (ead E 15)), (1, .ref (ead E 0)), (0, .ref b)]) C.x C.b dL_law_519 hl (by decide) rfl (fun ls hl => ?_)
    refine lv_aload_n C.x C.b dL_law_521 rfl (lv_at hl 5 rfl) ?_
    have okt : OK E (S_X7_table σ (xs (6 * i + 1)) (xs (6 * i + 2)) (xs (6 * i + 3))).2 := bq5.ok rfl
    refine caVi (As := []) (rest := []) (q0 := 15) (ci := 7) C h (M_X7_thrown l D _ _ okt) cw_L_88 m_im_X7_thrown m_se_X7_thrown rfl rfl ⟨Nat.le_of_ble_eq_true rfl, Nat.le_of_ble_eq_true rfl⟩ rfl rfl hl rfl (Nat.le_of_ble_eq_true rfl) dL_law_522 ⟨by show cells + 10 + 0 + 0 ≤ 601024; omega, by show slots + 60 + 0 + 0 ≤ 7293034; omega⟩ (fun r3 u H locs hw h => ?_)
    obtain ⟨rfl, rfl⟩ := hw
    refine lv_iload C.x C.b dL_law_525 (lv_at hl 1 rfl) ?_
    have ek : S_X7_thrown (S_X7_table σ (xs (6 * i + 1)) (xs (6 * i + 2)) (xs (6 * i + 3))).2 = r := bq1.trans hr
    refine lv_icmp_eq (tgt := 532) C.x C.b dL_law_527 (by decide) (fun _ => ?_) (fun q => absurd ek q)
    refine lv_iload C.x C.b dL_law_532 (lv_at hl 1 rfl) ?_
    refine lv_if_ne (tgt := 549) C.x C.b dL_law_534 (by decide) (fun _ => ?_) (fun q => absurd (hr.trans q) (wcd_ne e0))
    refine lv_goto (tgt := 1410) C.x C.b dL_law_549 (by decide) ?_
    exact B E (S_X7_table σ (xs (6 * i + 1)) (xs (6 * i + 2)) (xs (6 * i + 3))).2 mm H locs _ _ ls C h bq5 (by omega) (by show cells + 10 + 0 + 0 ≤ _; omega) (by show slots + 60 + 0 + 0 ≤ _; omega) (lv_sub hl [2, 3, 4, 5, 6, 7] rfl)
theorem cl_L_aircraft : CLd RL 110 yL_aircraft cL_aircraft 6 [(0, 12, 15, 13), (0, 12, 19, 31)] 5 := ⟨m_ml_L_110, m_cw_L_aircraft, m_ini_L, by decide +kernel, by decide +kernel, m_st_L_aircraft⟩
theorem B_aircraft {σ : St} {m n c : Nat} (h : RR σ σ m n c) (p1 p2 p3 : Int32) : BQ (LST (S_X6_aircraft σ p1 p2 p3) σ) m n c 2 3 (n + 1) (S_X6_aircraft σ p1 p2 p3) (S_X7_aircraft (LST (S_X6_aircraft σ p1 p2 p3) σ) p1 p2 p3) :=
  BLx (A_aircraft (h.lst (fun f i q => F6_aircraft q σ p1 p2 p3)) p1 p2 p3) (fun f i q => F7_aircraft q _ p1 p2 p3)
theorem O_aircraft {σ : St} {m n c : Nat} {E1 : En} (h : RR σ σ m n c) (p1 p2 p3 : Int32) (e0 : (S_X6_aircraft σ p1 p2 p3).1 = 0) (hn : (n + 1) = en E1) : OK E1 (S_X6_aircraft σ p1 p2 p3).2.2 :=
  OKx h (A_aircraft h p1 p2 p3) (fun f i q => F6_aircraft q σ p1 p2 p3) e0 hn (by omega)
theorem cw_L_112 : CWd RL 112 yX7_aircraft cX7_aircraft 4 (some .int) 3 := ⟨m_ml_L_112, m_co_X7_aircraft, m_ini_X7, by decide +kernel, by decide +kernel⟩
set_option maxRecDepth 100000 in
set_option maxHeartbeats 4000000 in
theorem case_aircraft {p : Program} {l : Launch} (hfl : l.stackTraces = false) {e : Env} {s : State} {m : MethodId} {args : Array Value} {below : List Frame} {meth : Method} {c : Code} {Q : State → Prop} {D : va_G} {A : Nat → Prop} {b L i : Nat} {xs : Nat → Int32} (hX : va_X b L xs s s.heap) (hbl : b < s.heap.size) (hbA : ¬ A b) (hL : L ≤ 3072) (hi : 6 * i + 5 < L) (B : BK p l e s m args below meth c Q D A b i) {E : En} {σ : St} {mm : Nat} {H : Heap} {locs : List Loc} {cells slots : Nat} {ls : Array Slot} (C : CX p s m meth c cL_law RL 9 D E A) (h : HW D E σ A s H locs) (hR : RR σ σ mm (en E) i) (hm : mm ≤ 500 * i) (hc : cells ≤ 64 + 10 * i) (hs : slots ≤ 512 + 60 * i) (hl : lv_has ls 9 (LV E b i)) : W p l e room_1 s m args below meth c H locs cells slots Q (F0 m 552 ls []) := by
  have ok := hR.ok rfl
  have hl : lv_has ls 9 [(5, .int (nI (6 * i))), (4, .ref (ead E 36)), (3, .ref (ead E 35)), (2, .ref (ead E 15)), (1, .ref (ead E 0)), (0, .ref b)] := hl
  refine lv_aload_n C.x C.b dL_law_552 rfl (lv_at hl 4 rfl) ?_
  refine lv_aload_n C.x C.b dL_law_553 rfl (lv_at hl 5 rfl) ?_
  refine lv_iload C.x C.b dL_law_554 (lv_at hl 0 rfl) ?_
  refine lv_iconst (v := 1) C.x C.b dL_law_556 (by decide) ?_
  refine lv_iadd C.x C.b dL_law_557 ?_
  refine ldS (j := 6 * i + 1) C h hX hbl hbA hL (by omega) (nI_add (6 * i) 1) dL_law_558 ?_
  refine lv_aload_n C.x C.b dL_law_559 rfl (lv_at hl 5 rfl) ?_
  refine lv_iload C.x C.b dL_law_560 (lv_at hl 0 rfl) ?_
  refine lv_iconst (v := 2) C.x C.b dL_law_562 (by decide) ?_
  refine lv_iadd C.x C.b dL_law_563 ?_
  refine ldS (j := 6 * i + 2) C h hX hbl hbA hL (by omega) (nI_add (6 * i) 2) dL_law_564 ?_
  refine lv_aload_n C.x C.b dL_law_565 rfl (lv_at hl 5 rfl) ?_
  refine lv_iload C.x C.b dL_law_566 (lv_at hl 0 rfl) ?_
  refine lv_iconst (v := 3) C.x C.b dL_law_568 (by decide) ?_
  refine lv_iadd C.x C.b dL_law_569 ?_
  refine ldS (j := 6 * i + 3) C h hX hbl hbA hL (by omega) (nI_add (6 * i) 3) dL_law_570 ?_
  refine lv_aload_n C.x C.b dL_law_571 rfl (lv_at hl 2 rfl) ?_
  refine caL (As := [.ref (ead E 0), .int (xs (6 * i + 1)), .int (xs (6 * i + 2)), .int (xs (6 * i + 3)), .ref (ead E 35)]) (rest := []) C h (M_L_aircraft l hfl D E σ ok (xs (6 * i + 1)) (xs (6 * i + 2)) (xs (6 * i + 3))) cl_L_aircraft rfl rfl ⟨Nat.le_of_ble_eq_true rfl, Nat.le_of_ble_eq_true rfl⟩ hl rfl (Nat.le_of_ble_eq_true rfl) dL_law_572 ⟨by show cells + 10 ≤ 601024; omega, by show slots + 60 ≤ 7293034; omega⟩ (fun r u H locs hp h => ?_)
  obtain ⟨hr, hp0, hp1⟩ := hp
  have Bq := B_aircraft hR (xs (6 * i + 1)) (xs (6 * i + 2)) (xs (6 * i + 3))
  by_cases e0 : (S_X6_aircraft σ (xs (6 * i + 1)) (xs (6 * i + 2)) (xs (6 * i + 3))).1 = 0
  · obtain ⟨qa, rfl⟩ := hp0 e0
    have eS : LST (S_X6_aircraft σ (xs (6 * i + 1)) (xs (6 * i + 2)) (xs (6 * i + 3))) σ = (S_X6_aircraft σ (xs (6 * i + 1)) (xs (6 * i + 2)) (xs (6 * i + 3))).2.2 := if_pos e0
    rw [eS] at Bq
    obtain ⟨bq1, bq2, -⟩ := Bq
    obtain ⟨bq3, m', bq4, bq5⟩ := bq2 e0
    have okm : OK (setO (grow E qa) (S_X6_aircraft σ (xs (6 * i + 1)) (xs (6 * i + 2)) (xs (6 * i + 3))).2.1.toInt64) (S_X6_aircraft σ (xs (6 * i + 1)) (xs (6 * i + 2)) (xs (6 * i + 3))).2.2 := O_aircraft hR (xs (6 * i + 1)) (xs (6 * i + 2)) (xs (6 * i + 3)) e0 rfl
    have C : CX p s m meth c cL_law RL 9 D (setO (grow E qa) (S_X6_aircraft σ (xs (6 * i + 1)) (xs (6 * i + 2)) (xs (6 * i + 3))).2.1.toInt64) A := C
    have h : HW D (setO (grow E qa) (S_X6_aircraft σ (xs (6 * i + 1)) (xs (6 * i + 2)) (xs (6 * i + 3))).2.1.toInt64) (S_X6_aircraft σ (xs (6 * i + 1)) (xs (6 * i + 2)) (xs (6 * i + 3))).2.2 A s H locs := h
    have hl : lv_has ls 9 [(5, .int (nI (6 * i))), (4, .ref (ead (setO (grow E qa) (S_X6_aircraft σ (xs (6 * i + 1)) (xs (6 * i + 2)) (xs (6 * i + 3))).2.1.toInt64) 36)), (3, .ref (ead (setO (grow E qa) (S_X6_aircraft σ (xs (6 * i + 1)) (xs (6 * i + 2)) (xs (6 * i + 3))).2.1.toInt64) 35)), (2, .ref (ead (setO (grow E qa) (S_X6_aircraft σ (xs (6 * i + 1)) (xs (6 * i + 2)) (xs (6 * i + 3))).2.1.toInt64) 15)), (1, .ref (ead (setO (grow E qa) (S_X6_aircraft σ (xs (6 * i + 1)) (xs (6 * i + 2)) (xs (6 * i + 3))).2.1.toInt64) 0)), (0, .ref b)] := hl
    refine lv_istore (lv' := [(6, .int r), (5, .int (nI (6 * i))), (4, .ref (ead (setO (grow E qa) (S_X6_aircraft σ (xs (6 * i + 1)) (xs (6 * i + 2)) (xs (6 * i + 3))).2.1.toInt64) 36)), (3, .ref (ead (setO (grow E qa) (S_X6_aircraft σ (xs (6 * i + 1)) (xs (6 * i + 2)) (xs (6 * i + 3))).2.1.toInt64) 35)), (2, .ref (ead (setO (grow E qa) (S_X6_aircraft σ (xs (6 * i + 1)) (xs (6 * i + 2)) (xs (6 * i + 3))).2.1.toInt64) 15)), (1, .ref (ead (setO (grow E qa) (S_X6_aircraft σ (xs (6 * i + 1)) (xs (6 * i + 2)) (xs (6 * i + 3))).2.1.toInt64) 0)), (0, .ref b)]) C.x C.b dL_law_575 hl (by decide) rfl (fun ls hl => ?_)
    refine lv_aload_n C.x C.b dL_law_577 rfl (lv_at hl 4 rfl) ?_
    refine lv_aload_n C.x C.b dL_law_578 rfl (lv_at hl 6 rfl) ?_
    refine lv_iload C.x C.b dL_law_579 (lv_at hl 1 rfl) ?_
    refine lv_iconst (v := 1) C.x C.b dL_law_581 (by decide) ?_
    refine lv_iadd C.x C.b dL_law_582 ?_
    refine ldS (j := 6 * i + 1) C h hX hbl hbA hL (by omega) (nI_add (6 * i) 1) dL_law_583 ?_
    refine lv_aload_n C.x C.b dL_law_584 rfl (lv_at hl 6 rfl) ?_
    refine lv_iload C.x C.b dL_law_585 (lv_at hl 1 rfl) ?_
    refine lv_iconst (v := 2) C.x C.b dL_law_587 (by decide) ?_
    refine lv_iadd C.x C.b dL_law_588 ?_
    refine ldS (j := 6 * i + 2) C h hX hbl hbA hL (by omega) (nI_add (6 * i) 2) dL_law_589 ?_
    refine lv_aload_n C.x C.b dL_law_590 rfl (lv_at hl 6 rfl) ?_
    refine lv_iload C.x C.b dL_law_591 (lv_at hl 1 rfl) ?_
    refine lv_iconst (v := 3) C.x C.b dL_law_593 (by decide) ?_
    refine lv_iadd C.x C.b dL_law_594 ?_
    refine ldS (j := 6 * i + 3) C h hX hbl hbA hL (by omega) (nI_add (6 * i) 3) dL_law_595 ?_
    refine caVi (As := [.int (xs (6 * i + 1)), .int (xs (6 * i + 2)), .int (xs (6 * i + 3))]) (rest := []) (q0 := 15) (ci := 7) C h (M_X7_aircraft l D _ _ okm (xs (6 * i + 1)) (xs (6 * i + 2)) (xs (6 * i + 3))) cw_L_112 m_im_X7_aircraft m_se_X7_aircraft rfl rfl ⟨Nat.le_of_ble_eq_true rfl, Nat.le_of_ble_eq_true rfl⟩ rfl rfl hl rfl (Nat.le_of_ble_eq_true rfl) dL_law_596 ⟨by show cells + 10 + 0 ≤ 601024; omega, by show slots + 60 + 0 ≤ 7293034; omega⟩ (fun r2 u H locs hw h => ?_)
    obtain ⟨rfl, rfl⟩ := hw
    refine lv_istore (lv' := [(7, .int (S_X7_aircraft (S_X6_aircraft σ (xs (6 * i + 1)) (xs (6 * i + 2)) (xs (6 * i + 3))).2.2 (xs (6 * i + 1)) (xs (6 * i + 2)) (xs (6 * i + 3))).1), (6, .int r), (5, .int (nI (6 * i))), (4, .ref (ead (setO (grow E qa) (S_X6_aircraft σ (xs (6 * i + 1)) (xs (6 * i + 2)) (xs (6 * i + 3))).2.1.toInt64) 36)), (3, .ref (ead (setO (grow E qa) (S_X6_aircraft σ (xs (6 * i + 1)) (xs (6 * i + 2)) (xs (6 * i + 3))).2.1.toInt64) 35)), (2, .ref (ead (setO (grow E qa) (S_X6_aircraft σ (xs (6 * i + 1)) (xs (6 * i + 2)) (xs (6 * i + 3))).2.1.toInt64) 15)), (1, .ref (ead (setO (grow E qa) (S_X6_aircraft σ (xs (6 * i + 1)) (xs (6 * i + 2)) (xs (6 * i + 3))).2.1.toInt64) 0)), (0, .ref b)]) C.x C.b dL_law_599 hl (by decide) rfl (fun ls hl => ?_)
    refine lv_aload_n C.x C.b dL_law_601 rfl (lv_at hl 5 rfl) ?_
    have okt : OK (setO (grow E qa) (S_X6_aircraft σ (xs (6 * i + 1)) (xs (6 * i + 2)) (xs (6 * i + 3))).2.1.toInt64) (S_X7_aircraft (S_X6_aircraft σ (xs (6 * i + 1)) (xs (6 * i + 2)) (xs (6 * i + 3))).2.2 (xs (6 * i + 1)) (xs (6 * i + 2)) (xs (6 * i + 3))).2 := bq5.ok rfl
    refine caVi (As := []) (rest := []) (q0 := 15) (ci := 7) C h (M_X7_thrown l D _ _ okt) cw_L_88 m_im_X7_thrown m_se_X7_thrown rfl rfl ⟨Nat.le_of_ble_eq_true rfl, Nat.le_of_ble_eq_true rfl⟩ rfl rfl hl rfl (Nat.le_of_ble_eq_true rfl) dL_law_602 ⟨by show cells + 10 + 0 + 0 ≤ 601024; omega, by show slots + 60 + 0 + 0 ≤ 7293034; omega⟩ (fun r3 u H locs hw h => ?_)
    obtain ⟨rfl, rfl⟩ := hw
    refine lv_iload C.x C.b dL_law_605 (lv_at hl 1 rfl) ?_
    have ek : S_X7_thrown (S_X7_aircraft (S_X6_aircraft σ (xs (6 * i + 1)) (xs (6 * i + 2)) (xs (6 * i + 3))).2.2 (xs (6 * i + 1)) (xs (6 * i + 2)) (xs (6 * i + 3))).2 = r := bq1.trans hr
    refine lv_icmp_eq (tgt := 612) C.x C.b dL_law_607 (by decide) (fun _ => ?_) (fun q => absurd ek q)
    refine lv_iload C.x C.b dL_law_612 (lv_at hl 1 rfl) ?_
    have er : r = 0 := by rw [← hr, e0]; rfl
    refine lv_if_ne (tgt := 629) C.x C.b dL_law_614 (by decide) (fun q => absurd er q) (fun _ => ?_)
    refine lv_aload_n C.x C.b dL_law_617 rfl (lv_at hl 4 rfl) ?_
    refine lv_iconst (v := 0) C.x C.b dL_law_618 (by decide) ?_
    refine ldL C h dL_law_619 ?_
    refine lv_iload C.x C.b dL_law_620 (lv_at hl 0 rfl) ?_
    refine lv_i2l (v := (S_X7_aircraft (S_X6_aircraft σ (xs (6 * i + 1)) (xs (6 * i + 2)) (xs (6 * i + 3))).2.2 (xs (6 * i + 1)) (xs (6 * i + 2)) (xs (6 * i + 3))).1.toInt64) C.x C.b dL_law_622 rfl ?_
    refine lcE C (show (S_X6_aircraft σ (xs (6 * i + 1)) (xs (6 * i + 2)) (xs (6 * i + 3))).2.1.toInt64 = (S_X7_aircraft (S_X6_aircraft σ (xs (6 * i + 1)) (xs (6 * i + 2)) (xs (6 * i + 3))).2.2 (xs (6 * i + 1)) (xs (6 * i + 2)) (xs (6 * i + 3))).1.toInt64 by rw [bq3]) dL_law_623 ?_
    refine lv_if_eq (tgt := 629) C.x C.b dL_law_624 (by decide) (fun _ => ?_) (fun q => absurd rfl q)
    refine lv_goto (tgt := 1410) C.x C.b dL_law_629 (by decide) ?_
    exact B (setO (grow E qa) (S_X6_aircraft σ (xs (6 * i + 1)) (xs (6 * i + 2)) (xs (6 * i + 3))).2.1.toInt64) (S_X7_aircraft (S_X6_aircraft σ (xs (6 * i + 1)) (xs (6 * i + 2)) (xs (6 * i + 3))).2.2 (xs (6 * i + 1)) (xs (6 * i + 2)) (xs (6 * i + 3))).2 m' H locs _ _ ls C h bq5 (by omega) (by show cells + 10 + 0 + 0 ≤ _; omega) (by show slots + 60 + 0 + 0 ≤ _; omega) (lv_sub hl [2, 3, 4, 5, 6, 7] rfl)
  · obtain rfl := hp1 e0
    have eS : LST (S_X6_aircraft σ (xs (6 * i + 1)) (xs (6 * i + 2)) (xs (6 * i + 3))) σ = σ := if_neg e0
    rw [eS] at Bq
    obtain ⟨bq1, -, bq2⟩ := Bq
    have bq5 := bq2 e0
    have okm : OK E σ := ok
    have C : CX p s m meth c cL_law RL 9 D E A := C
    have h : HW D E σ A s H locs := h
    have hl : lv_has ls 9 [(5, .int (nI (6 * i))), (4, .ref (ead E 36)), (3, .ref (ead E 35)), (2, .ref (ead E 15)), (1, .ref (ead E 0)), (0, .ref b)] := hl
    refine lv_istore (lv' := [(6, .int r), (5, .int (nI (6 * i))), (4, .ref (ead E 36)), (3, .ref (ead E 35)), (2, .ref (ead E 15)), (1, .ref (ead E 0)), (0, .ref b)]) C.x C.b dL_law_575 hl (by decide) rfl (fun ls hl => ?_)
    refine lv_aload_n C.x C.b dL_law_577 rfl (lv_at hl 4 rfl) ?_
    refine lv_aload_n C.x C.b dL_law_578 rfl (lv_at hl 6 rfl) ?_
    refine lv_iload C.x C.b dL_law_579 (lv_at hl 1 rfl) ?_
    refine lv_iconst (v := 1) C.x C.b dL_law_581 (by decide) ?_
    refine lv_iadd C.x C.b dL_law_582 ?_
    refine ldS (j := 6 * i + 1) C h hX hbl hbA hL (by omega) (nI_add (6 * i) 1) dL_law_583 ?_
    refine lv_aload_n C.x C.b dL_law_584 rfl (lv_at hl 6 rfl) ?_
    refine lv_iload C.x C.b dL_law_585 (lv_at hl 1 rfl) ?_
    refine lv_iconst (v := 2) C.x C.b dL_law_587 (by decide) ?_
    refine lv_iadd C.x C.b dL_law_588 ?_
    refine ldS (j := 6 * i + 2) C h hX hbl hbA hL (by omega) (nI_add (6 * i) 2) dL_law_589 ?_
    refine lv_aload_n C.x C.b dL_law_590 rfl (lv_at hl 6 rfl) ?_
    refine lv_iload C.x C.b dL_law_591 (lv_at hl 1 rfl) ?_
    refine lv_iconst (v := 3) C.x C.b dL_law_593 (by decide) ?_
    refine lv_iadd C.x C.b dL_law_594 ?_
    refine ldS (j := 6 * i + 3) C h hX hbl hbA hL (by omega) (nI_add (6 * i) 3) dL_law_595 ?_
    refine caVi (As := [.int (xs (6 * i + 1)), .int (xs (6 * i + 2)), .int (xs (6 * i + 3))]) (rest := []) (q0 := 15) (ci := 7) C h (M_X7_aircraft l D _ _ okm (xs (6 * i + 1)) (xs (6 * i + 2)) (xs (6 * i + 3))) cw_L_112 m_im_X7_aircraft m_se_X7_aircraft rfl rfl ⟨Nat.le_of_ble_eq_true rfl, Nat.le_of_ble_eq_true rfl⟩ rfl rfl hl rfl (Nat.le_of_ble_eq_true rfl) dL_law_596 ⟨by show cells + 10 + 0 ≤ 601024; omega, by show slots + 60 + 0 ≤ 7293034; omega⟩ (fun r2 u H locs hw h => ?_)
    obtain ⟨rfl, rfl⟩ := hw
    refine lv_istore (lv' := [(7, .int (S_X7_aircraft σ (xs (6 * i + 1)) (xs (6 * i + 2)) (xs (6 * i + 3))).1), (6, .int r), (5, .int (nI (6 * i))), (4, .ref (ead E 36)), (3, .ref (ead E 35)), (2, .ref (ead E 15)), (1, .ref (ead E 0)), (0, .ref b)]) C.x C.b dL_law_599 hl (by decide) rfl (fun ls hl => ?_)
    refine lv_aload_n C.x C.b dL_law_601 rfl (lv_at hl 5 rfl) ?_
    have okt : OK E (S_X7_aircraft σ (xs (6 * i + 1)) (xs (6 * i + 2)) (xs (6 * i + 3))).2 := bq5.ok rfl
    refine caVi (As := []) (rest := []) (q0 := 15) (ci := 7) C h (M_X7_thrown l D _ _ okt) cw_L_88 m_im_X7_thrown m_se_X7_thrown rfl rfl ⟨Nat.le_of_ble_eq_true rfl, Nat.le_of_ble_eq_true rfl⟩ rfl rfl hl rfl (Nat.le_of_ble_eq_true rfl) dL_law_602 ⟨by show cells + 10 + 0 + 0 ≤ 601024; omega, by show slots + 60 + 0 + 0 ≤ 7293034; omega⟩ (fun r3 u H locs hw h => ?_)
    obtain ⟨rfl, rfl⟩ := hw
    refine lv_iload C.x C.b dL_law_605 (lv_at hl 1 rfl) ?_
    have ek : S_X7_thrown (S_X7_aircraft σ (xs (6 * i + 1)) (xs (6 * i + 2)) (xs (6 * i + 3))).2 = r := bq1.trans hr
    refine lv_icmp_eq (tgt := 612) C.x C.b dL_law_607 (by decide) (fun _ => ?_) (fun q => absurd ek q)
    refine lv_iload C.x C.b dL_law_612 (lv_at hl 1 rfl) ?_
    refine lv_if_ne (tgt := 629) C.x C.b dL_law_614 (by decide) (fun _ => ?_) (fun q => absurd (hr.trans q) (wcd_ne e0))
    refine lv_goto (tgt := 1410) C.x C.b dL_law_629 (by decide) ?_
    exact B E (S_X7_aircraft σ (xs (6 * i + 1)) (xs (6 * i + 2)) (xs (6 * i + 3))).2 mm H locs _ _ ls C h bq5 (by omega) (by show cells + 10 + 0 + 0 ≤ _; omega) (by show slots + 60 + 0 + 0 ≤ _; omega) (lv_sub hl [2, 3, 4, 5, 6, 7] rfl)
theorem cl_L_treat : CLd RL 113 yL_treat cL_treat 8 [(0, 16, 19, 19), (0, 16, 23, 13), (0, 16, 27, 31)] 7 := ⟨m_ml_L_113, m_cw_L_treat, m_ini_L, by decide +kernel, by decide +kernel, m_st_L_treat⟩
theorem B_treat {σ : St} {m n c : Nat} (h : RR σ σ m n c) (p1 p2 p3 p4 p5 : Int32) : BQ (LST (S_X6_treat σ p1 p2 p3 p4 p5) σ) m n c 1 2 n (S_X6_treat σ p1 p2 p3 p4 p5) (S_X7_treat (LST (S_X6_treat σ p1 p2 p3 p4 p5) σ) p1 p2 p3 p4 p5) :=
  BLx (A_treat (h.lst (fun f i q => F6_treat q σ p1 p2 p3 p4 p5)) p1 p2 p3 p4 p5) (fun f i q => F7_treat q _ p1 p2 p3 p4 p5)
theorem O_treat {σ : St} {m n c : Nat} {E1 : En} (h : RR σ σ m n c) (p1 p2 p3 p4 p5 : Int32) (e0 : (S_X6_treat σ p1 p2 p3 p4 p5).1 = 0) (hn : n = en E1) : OK E1 (S_X6_treat σ p1 p2 p3 p4 p5).2.2 :=
  OKx h (A_treat h p1 p2 p3 p4 p5) (fun f i q => F6_treat q σ p1 p2 p3 p4 p5) e0 hn (by omega)
theorem cw_L_116 : CWd RL 116 yX7_treat cX7_treat 7 (some .int) 5 := ⟨m_ml_L_116, m_co_X7_treat, m_ini_X7, by decide +kernel, by decide +kernel⟩
set_option maxRecDepth 100000 in
set_option maxHeartbeats 4000000 in
theorem case_treat {p : Program} {l : Launch} (hfl : l.stackTraces = false) {e : Env} {s : State} {m : MethodId} {args : Array Value} {below : List Frame} {meth : Method} {c : Code} {Q : State → Prop} {D : va_G} {A : Nat → Prop} {b L i : Nat} {xs : Nat → Int32} (hX : va_X b L xs s s.heap) (hbl : b < s.heap.size) (hbA : ¬ A b) (hL : L ≤ 3072) (hi : 6 * i + 5 < L) (B : BK p l e s m args below meth c Q D A b i) {E : En} {σ : St} {mm : Nat} {H : Heap} {locs : List Loc} {cells slots : Nat} {ls : Array Slot} (C : CX p s m meth c cL_law RL 9 D E A) (h : HW D E σ A s H locs) (hR : RR σ σ mm (en E) i) (hm : mm ≤ 500 * i) (hc : cells ≤ 64 + 10 * i) (hs : slots ≤ 512 + 60 * i) (hl : lv_has ls 9 (LV E b i)) : W p l e room_1 s m args below meth c H locs cells slots Q (F0 m 632 ls []) := by
  have ok := hR.ok rfl
  have hl : lv_has ls 9 [(5, .int (nI (6 * i))), (4, .ref (ead E 36)), (3, .ref (ead E 35)), (2, .ref (ead E 15)), (1, .ref (ead E 0)), (0, .ref b)] := hl
  refine lv_aload_n C.x C.b dL_law_632 rfl (lv_at hl 4 rfl) ?_
  refine lv_aload_n C.x C.b dL_law_633 rfl (lv_at hl 5 rfl) ?_
  refine lv_iload C.x C.b dL_law_634 (lv_at hl 0 rfl) ?_
  refine lv_iconst (v := 1) C.x C.b dL_law_636 (by decide) ?_
  refine lv_iadd C.x C.b dL_law_637 ?_
  refine ldS (j := 6 * i + 1) C h hX hbl hbA hL (by omega) (nI_add (6 * i) 1) dL_law_638 ?_
  refine lv_aload_n C.x C.b dL_law_639 rfl (lv_at hl 5 rfl) ?_
  refine lv_iload C.x C.b dL_law_640 (lv_at hl 0 rfl) ?_
  refine lv_iconst (v := 2) C.x C.b dL_law_642 (by decide) ?_
  refine lv_iadd C.x C.b dL_law_643 ?_
  refine ldS (j := 6 * i + 2) C h hX hbl hbA hL (by omega) (nI_add (6 * i) 2) dL_law_644 ?_
  refine lv_aload_n C.x C.b dL_law_645 rfl (lv_at hl 5 rfl) ?_
  refine lv_iload C.x C.b dL_law_646 (lv_at hl 0 rfl) ?_
  refine lv_iconst (v := 3) C.x C.b dL_law_648 (by decide) ?_
  refine lv_iadd C.x C.b dL_law_649 ?_
  refine ldS (j := 6 * i + 3) C h hX hbl hbA hL (by omega) (nI_add (6 * i) 3) dL_law_650 ?_
  refine lv_aload_n C.x C.b dL_law_651 rfl (lv_at hl 5 rfl) ?_
  refine lv_iload C.x C.b dL_law_652 (lv_at hl 0 rfl) ?_
  refine lv_iconst (v := 4) C.x C.b dL_law_654 (by decide) ?_
  refine lv_iadd C.x C.b dL_law_655 ?_
  refine ldS (j := 6 * i + 4) C h hX hbl hbA hL (by omega) (nI_add (6 * i) 4) dL_law_656 ?_
  refine lv_aload_n C.x C.b dL_law_657 rfl (lv_at hl 5 rfl) ?_
  refine lv_iload C.x C.b dL_law_658 (lv_at hl 0 rfl) ?_
  refine lv_iconst (v := 5) C.x C.b dL_law_660 (by decide) ?_
  refine lv_iadd C.x C.b dL_law_661 ?_
  refine ldS (j := 6 * i + 5) C h hX hbl hbA hL (by omega) (nI_add (6 * i) 5) dL_law_662 ?_
  refine lv_aload_n C.x C.b dL_law_663 rfl (lv_at hl 2 rfl) ?_
  refine caL (As := [.ref (ead E 0), .int (xs (6 * i + 1)), .int (xs (6 * i + 2)), .int (xs (6 * i + 3)), .int (xs (6 * i + 4)), .int (xs (6 * i + 5)), .ref (ead E 35)]) (rest := []) C h (M_L_treat l hfl D E σ ok (xs (6 * i + 1)) (xs (6 * i + 2)) (xs (6 * i + 3)) (xs (6 * i + 4)) (xs (6 * i + 5))) cl_L_treat rfl rfl ⟨Nat.le_of_ble_eq_true rfl, Nat.le_of_ble_eq_true rfl⟩ hl rfl (Nat.le_of_ble_eq_true rfl) dL_law_664 ⟨by show cells + 10 ≤ 601024; omega, by show slots + 60 ≤ 7293034; omega⟩ (fun r u H locs hp h => ?_)
  obtain ⟨hr, hp0, hp1⟩ := hp
  have Bq := B_treat hR (xs (6 * i + 1)) (xs (6 * i + 2)) (xs (6 * i + 3)) (xs (6 * i + 4)) (xs (6 * i + 5))
  by_cases e0 : (S_X6_treat σ (xs (6 * i + 1)) (xs (6 * i + 2)) (xs (6 * i + 3)) (xs (6 * i + 4)) (xs (6 * i + 5))).1 = 0
  · obtain rfl := hp0 e0
    have eS : LST (S_X6_treat σ (xs (6 * i + 1)) (xs (6 * i + 2)) (xs (6 * i + 3)) (xs (6 * i + 4)) (xs (6 * i + 5))) σ = (S_X6_treat σ (xs (6 * i + 1)) (xs (6 * i + 2)) (xs (6 * i + 3)) (xs (6 * i + 4)) (xs (6 * i + 5))).2.2 := if_pos e0
    rw [eS] at Bq
    obtain ⟨bq1, bq2, -⟩ := Bq
    obtain ⟨bq3, m', bq4, bq5⟩ := bq2 e0
    have okm : OK (setO E (S_X6_treat σ (xs (6 * i + 1)) (xs (6 * i + 2)) (xs (6 * i + 3)) (xs (6 * i + 4)) (xs (6 * i + 5))).2.1.toInt64) (S_X6_treat σ (xs (6 * i + 1)) (xs (6 * i + 2)) (xs (6 * i + 3)) (xs (6 * i + 4)) (xs (6 * i + 5))).2.2 := O_treat hR (xs (6 * i + 1)) (xs (6 * i + 2)) (xs (6 * i + 3)) (xs (6 * i + 4)) (xs (6 * i + 5)) e0 rfl
    have C : CX p s m meth c cL_law RL 9 D (setO E (S_X6_treat σ (xs (6 * i + 1)) (xs (6 * i + 2)) (xs (6 * i + 3)) (xs (6 * i + 4)) (xs (6 * i + 5))).2.1.toInt64) A := C
    have h : HW D (setO E (S_X6_treat σ (xs (6 * i + 1)) (xs (6 * i + 2)) (xs (6 * i + 3)) (xs (6 * i + 4)) (xs (6 * i + 5))).2.1.toInt64) (S_X6_treat σ (xs (6 * i + 1)) (xs (6 * i + 2)) (xs (6 * i + 3)) (xs (6 * i + 4)) (xs (6 * i + 5))).2.2 A s H locs := h
    have hl : lv_has ls 9 [(5, .int (nI (6 * i))), (4, .ref (ead (setO E (S_X6_treat σ (xs (6 * i + 1)) (xs (6 * i + 2)) (xs (6 * i + 3)) (xs (6 * i + 4)) (xs (6 * i + 5))).2.1.toInt64) 36)), (3, .ref (ead (setO E (S_X6_treat σ (xs (6 * i + 1)) (xs (6 * i + 2)) (xs (6 * i + 3)) (xs (6 * i + 4)) (xs (6 * i + 5))).2.1.toInt64) 35)), (2, .ref (ead (setO E (S_X6_treat σ (xs (6 * i + 1)) (xs (6 * i + 2)) (xs (6 * i + 3)) (xs (6 * i + 4)) (xs (6 * i + 5))).2.1.toInt64) 15)), (1, .ref (ead (setO E (S_X6_treat σ (xs (6 * i + 1)) (xs (6 * i + 2)) (xs (6 * i + 3)) (xs (6 * i + 4)) (xs (6 * i + 5))).2.1.toInt64) 0)), (0, .ref b)] := hl
    refine lv_istore (lv' := [(6, .int r), (5, .int (nI (6 * i))), (4, .ref (ead (setO E (S_X6_treat σ (xs (6 * i + 1)) (xs (6 * i + 2)) (xs (6 * i + 3)) (xs (6 * i + 4)) (xs (6 * i + 5))).2.1.toInt64) 36)), (3, .ref (ead (setO E (S_X6_treat σ (xs (6 * i + 1)) (xs (6 * i + 2)) (xs (6 * i + 3)) (xs (6 * i + 4)) (xs (6 * i + 5))).2.1.toInt64) 35)), (2, .ref (ead (setO E (S_X6_treat σ (xs (6 * i + 1)) (xs (6 * i + 2)) (xs (6 * i + 3)) (xs (6 * i + 4)) (xs (6 * i + 5))).2.1.toInt64) 15)), (1, .ref (ead (setO E (S_X6_treat σ (xs (6 * i + 1)) (xs (6 * i + 2)) (xs (6 * i + 3)) (xs (6 * i + 4)) (xs (6 * i + 5))).2.1.toInt64) 0)), (0, .ref b)]) C.x C.b dL_law_667 hl (by decide) rfl (fun ls hl => ?_)
    refine lv_aload_n C.x C.b dL_law_669 rfl (lv_at hl 4 rfl) ?_
    refine lv_aload_n C.x C.b dL_law_670 rfl (lv_at hl 6 rfl) ?_
    refine lv_iload C.x C.b dL_law_671 (lv_at hl 1 rfl) ?_
    refine lv_iconst (v := 1) C.x C.b dL_law_673 (by decide) ?_
    refine lv_iadd C.x C.b dL_law_674 ?_
    refine ldS (j := 6 * i + 1) C h hX hbl hbA hL (by omega) (nI_add (6 * i) 1) dL_law_675 ?_
    refine lv_aload_n C.x C.b dL_law_676 rfl (lv_at hl 6 rfl) ?_
    refine lv_iload C.x C.b dL_law_677 (lv_at hl 1 rfl) ?_
    refine lv_iconst (v := 2) C.x C.b dL_law_679 (by decide) ?_
    refine lv_iadd C.x C.b dL_law_680 ?_
    refine ldS (j := 6 * i + 2) C h hX hbl hbA hL (by omega) (nI_add (6 * i) 2) dL_law_681 ?_
    refine lv_aload_n C.x C.b dL_law_682 rfl (lv_at hl 6 rfl) ?_
    refine lv_iload C.x C.b dL_law_683 (lv_at hl 1 rfl) ?_
    refine lv_iconst (v := 3) C.x C.b dL_law_685 (by decide) ?_
    refine lv_iadd C.x C.b dL_law_686 ?_
    refine ldS (j := 6 * i + 3) C h hX hbl hbA hL (by omega) (nI_add (6 * i) 3) dL_law_687 ?_
    refine lv_aload_n C.x C.b dL_law_688 rfl (lv_at hl 6 rfl) ?_
    refine lv_iload C.x C.b dL_law_689 (lv_at hl 1 rfl) ?_
    refine lv_iconst (v := 4) C.x C.b dL_law_691 (by decide) ?_
    refine lv_iadd C.x C.b dL_law_692 ?_
    refine ldS (j := 6 * i + 4) C h hX hbl hbA hL (by omega) (nI_add (6 * i) 4) dL_law_693 ?_
    refine lv_aload_n C.x C.b dL_law_694 rfl (lv_at hl 6 rfl) ?_
    refine lv_iload C.x C.b dL_law_695 (lv_at hl 1 rfl) ?_
    refine lv_iconst (v := 5) C.x C.b dL_law_697 (by decide) ?_
    refine lv_iadd C.x C.b dL_law_698 ?_
    refine ldS (j := 6 * i + 5) C h hX hbl hbA hL (by omega) (nI_add (6 * i) 5) dL_law_699 ?_
    refine caVi (As := [.int (xs (6 * i + 1)), .int (xs (6 * i + 2)), .int (xs (6 * i + 3)), .int (xs (6 * i + 4)), .int (xs (6 * i + 5))]) (rest := []) (q0 := 15) (ci := 7) C h (M_X7_treat l D _ _ okm (xs (6 * i + 1)) (xs (6 * i + 2)) (xs (6 * i + 3)) (xs (6 * i + 4)) (xs (6 * i + 5))) cw_L_116 m_im_X7_treat m_se_X7_treat rfl rfl ⟨Nat.le_of_ble_eq_true rfl, Nat.le_of_ble_eq_true rfl⟩ rfl rfl hl rfl (Nat.le_of_ble_eq_true rfl) dL_law_700 ⟨by show cells + 10 + 0 ≤ 601024; omega, by show slots + 60 + 0 ≤ 7293034; omega⟩ (fun r2 u H locs hw h => ?_)
    obtain ⟨rfl, rfl⟩ := hw
    refine lv_istore (lv' := [(7, .int (S_X7_treat (S_X6_treat σ (xs (6 * i + 1)) (xs (6 * i + 2)) (xs (6 * i + 3)) (xs (6 * i + 4)) (xs (6 * i + 5))).2.2 (xs (6 * i + 1)) (xs (6 * i + 2)) (xs (6 * i + 3)) (xs (6 * i + 4)) (xs (6 * i + 5))).1), (6, .int r), (5, .int (nI (6 * i))), (4, .ref (ead (setO E (S_X6_treat σ (xs (6 * i + 1)) (xs (6 * i + 2)) (xs (6 * i + 3)) (xs (6 * i + 4)) (xs (6 * i + 5))).2.1.toInt64) 36)), (3, .ref (ead (setO E (S_X6_treat σ (xs (6 * i + 1)) (xs (6 * i + 2)) (xs (6 * i + 3)) (xs (6 * i + 4)) (xs (6 * i + 5))).2.1.toInt64) 35)), (2, .ref (ead (setO E (S_X6_treat σ (xs (6 * i + 1)) (xs (6 * i + 2)) (xs (6 * i + 3)) (xs (6 * i + 4)) (xs (6 * i + 5))).2.1.toInt64) 15)), (1, .ref (ead (setO E (S_X6_treat σ (xs (6 * i + 1)) (xs (6 * i + 2)) (xs (6 * i + 3)) (xs (6 * i + 4)) (xs (6 * i + 5))).2.1.toInt64) 0)), (0, .ref b)]) C.x C.b dL_law_703 hl (by decide) rfl (fun ls hl => ?_)
    refine lv_aload_n C.x C.b dL_law_705 rfl (lv_at hl 5 rfl) ?_
    have okt : OK (setO E (S_X6_treat σ (xs (6 * i + 1)) (xs (6 * i + 2)) (xs (6 * i + 3)) (xs (6 * i + 4)) (xs (6 * i + 5))).2.1.toInt64) (S_X7_treat (S_X6_treat σ (xs (6 * i + 1)) (xs (6 * i + 2)) (xs (6 * i + 3)) (xs (6 * i + 4)) (xs (6 * i + 5))).2.2 (xs (6 * i + 1)) (xs (6 * i + 2)) (xs (6 * i + 3)) (xs (6 * i + 4)) (xs (6 * i + 5))).2 := bq5.ok rfl
    refine caVi (As := []) (rest := []) (q0 := 15) (ci := 7) C h (M_X7_thrown l D _ _ okt) cw_L_88 m_im_X7_thrown m_se_X7_thrown rfl rfl ⟨Nat.le_of_ble_eq_true rfl, Nat.le_of_ble_eq_true rfl⟩ rfl rfl hl rfl (Nat.le_of_ble_eq_true rfl) dL_law_706 ⟨by show cells + 10 + 0 + 0 ≤ 601024; omega, by show slots + 60 + 0 + 0 ≤ 7293034; omega⟩ (fun r3 u H locs hw h => ?_)
    obtain ⟨rfl, rfl⟩ := hw
    refine lv_iload C.x C.b dL_law_709 (lv_at hl 1 rfl) ?_
    have ek : S_X7_thrown (S_X7_treat (S_X6_treat σ (xs (6 * i + 1)) (xs (6 * i + 2)) (xs (6 * i + 3)) (xs (6 * i + 4)) (xs (6 * i + 5))).2.2 (xs (6 * i + 1)) (xs (6 * i + 2)) (xs (6 * i + 3)) (xs (6 * i + 4)) (xs (6 * i + 5))).2 = r := bq1.trans hr
    refine lv_icmp_eq (tgt := 716) C.x C.b dL_law_711 (by decide) (fun _ => ?_) (fun q => absurd ek q)
    refine lv_iload C.x C.b dL_law_716 (lv_at hl 1 rfl) ?_
    have er : r = 0 := by rw [← hr, e0]; rfl
    refine lv_if_ne (tgt := 733) C.x C.b dL_law_718 (by decide) (fun q => absurd er q) (fun _ => ?_)
    refine lv_aload_n C.x C.b dL_law_721 rfl (lv_at hl 4 rfl) ?_
    refine lv_iconst (v := 0) C.x C.b dL_law_722 (by decide) ?_
    refine ldL C h dL_law_723 ?_
    refine lv_iload C.x C.b dL_law_724 (lv_at hl 0 rfl) ?_
    refine lv_i2l (v := (S_X7_treat (S_X6_treat σ (xs (6 * i + 1)) (xs (6 * i + 2)) (xs (6 * i + 3)) (xs (6 * i + 4)) (xs (6 * i + 5))).2.2 (xs (6 * i + 1)) (xs (6 * i + 2)) (xs (6 * i + 3)) (xs (6 * i + 4)) (xs (6 * i + 5))).1.toInt64) C.x C.b dL_law_726 rfl ?_
    refine lcE C (show (S_X6_treat σ (xs (6 * i + 1)) (xs (6 * i + 2)) (xs (6 * i + 3)) (xs (6 * i + 4)) (xs (6 * i + 5))).2.1.toInt64 = (S_X7_treat (S_X6_treat σ (xs (6 * i + 1)) (xs (6 * i + 2)) (xs (6 * i + 3)) (xs (6 * i + 4)) (xs (6 * i + 5))).2.2 (xs (6 * i + 1)) (xs (6 * i + 2)) (xs (6 * i + 3)) (xs (6 * i + 4)) (xs (6 * i + 5))).1.toInt64 by rw [bq3]) dL_law_727 ?_
    refine lv_if_eq (tgt := 733) C.x C.b dL_law_728 (by decide) (fun _ => ?_) (fun q => absurd rfl q)
    refine lv_goto (tgt := 1410) C.x C.b dL_law_733 (by decide) ?_
    exact B (setO E (S_X6_treat σ (xs (6 * i + 1)) (xs (6 * i + 2)) (xs (6 * i + 3)) (xs (6 * i + 4)) (xs (6 * i + 5))).2.1.toInt64) (S_X7_treat (S_X6_treat σ (xs (6 * i + 1)) (xs (6 * i + 2)) (xs (6 * i + 3)) (xs (6 * i + 4)) (xs (6 * i + 5))).2.2 (xs (6 * i + 1)) (xs (6 * i + 2)) (xs (6 * i + 3)) (xs (6 * i + 4)) (xs (6 * i + 5))).2 m' H locs _ _ ls C h bq5 (by omega) (by show cells + 10 + 0 + 0 ≤ _; omega) (by show slots + 60 + 0 + 0 ≤ _; omega) (lv_sub hl [2, 3, 4, 5, 6, 7] rfl)
  · obtain rfl := hp1 e0
    have eS : LST (S_X6_treat σ (xs (6 * i + 1)) (xs (6 * i + 2)) (xs (6 * i + 3)) (xs (6 * i + 4)) (xs (6 * i + 5))) σ = σ := if_neg e0
    rw [eS] at Bq
    obtain ⟨bq1, -, bq2⟩ := Bq
    have bq5 := bq2 e0
    have okm : OK E σ := ok
    have C : CX p s m meth c cL_law RL 9 D E A := C
    have h : HW D E σ A s H locs := h
    have hl : lv_has ls 9 [(5, .int (nI (6 * i))), (4, .ref (ead E 36)), (3, .ref (ead E 35)), (2, .ref (ead E 15)), (1, .ref (ead E 0)), (0, .ref b)] := hl
    refine lv_istore (lv' := [(6, .int r), (5, .int (nI (6 * i))), (4, .ref (ead E 36)), (3, .ref (ead E 35)), (2, .ref (ead E 15)), (1, .ref (ead E 0)), (0, .ref b)]) C.x C.b dL_law_667 hl (by decide) rfl (fun ls hl => ?_)
    refine lv_aload_n C.x C.b dL_law_669 rfl (lv_at hl 4 rfl) ?_
    refine lv_aload_n C.x C.b dL_law_670 rfl (lv_at hl 6 rfl) ?_
    refine lv_iload C.x C.b dL_law_671 (lv_at hl 1 rfl) ?_
    refine lv_iconst (v := 1) C.x C.b dL_law_673 (by decide) ?_
    refine lv_iadd C.x C.b dL_law_674 ?_
    refine ldS (j := 6 * i + 1) C h hX hbl hbA hL (by omega) (nI_add (6 * i) 1) dL_law_675 ?_
    refine lv_aload_n C.x C.b dL_law_676 rfl (lv_at hl 6 rfl) ?_
    refine lv_iload C.x C.b dL_law_677 (lv_at hl 1 rfl) ?_
    refine lv_iconst (v := 2) C.x C.b dL_law_679 (by decide) ?_
    refine lv_iadd C.x C.b dL_law_680 ?_
    refine ldS (j := 6 * i + 2) C h hX hbl hbA hL (by omega) (nI_add (6 * i) 2) dL_law_681 ?_
    refine lv_aload_n C.x C.b dL_law_682 rfl (lv_at hl 6 rfl) ?_
    refine lv_iload C.x C.b dL_law_683 (lv_at hl 1 rfl) ?_
    refine lv_iconst (v := 3) C.x C.b dL_law_685 (by decide) ?_
    refine lv_iadd C.x C.b dL_law_686 ?_
    refine ldS (j := 6 * i + 3) C h hX hbl hbA hL (by omega) (nI_add (6 * i) 3) dL_law_687 ?_
    refine lv_aload_n C.x C.b dL_law_688 rfl (lv_at hl 6 rfl) ?_
    refine lv_iload C.x C.b dL_law_689 (lv_at hl 1 rfl) ?_
    refine lv_iconst (v := 4) C.x C.b dL_law_691 (by decide) ?_
    refine lv_iadd C.x C.b dL_law_692 ?_
    refine ldS (j := 6 * i + 4) C h hX hbl hbA hL (by omega) (nI_add (6 * i) 4) dL_law_693 ?_
    refine lv_aload_n C.x C.b dL_law_694 rfl (lv_at hl 6 rfl) ?_
    refine lv_iload C.x C.b dL_law_695 (lv_at hl 1 rfl) ?_
    refine lv_iconst (v := 5) C.x C.b dL_law_697 (by decide) ?_
    refine lv_iadd C.x C.b dL_law_698 ?_
    refine ldS (j := 6 * i + 5) C h hX hbl hbA hL (by omega) (nI_add (6 * i) 5) dL_law_699 ?_
    refine caVi (As := [.int (xs (6 * i + 1)), .int (xs (6 * i + 2)), .int (xs (6 * i + 3)), .int (xs (6 * i + 4)), .int (xs (6 * i + 5))]) (rest := []) (q0 := 15) (ci := 7) C h (M_X7_treat l D _ _ okm (xs (6 * i + 1)) (xs (6 * i + 2)) (xs (6 * i + 3)) (xs (6 * i + 4)) (xs (6 * i + 5))) cw_L_116 m_im_X7_treat m_se_X7_treat rfl rfl ⟨Nat.le_of_ble_eq_true rfl, Nat.le_of_ble_eq_true rfl⟩ rfl rfl hl rfl (Nat.le_of_ble_eq_true rfl) dL_law_700 ⟨by show cells + 10 + 0 ≤ 601024; omega, by show slots + 60 + 0 ≤ 7293034; omega⟩ (fun r2 u H locs hw h => ?_)
    obtain ⟨rfl, rfl⟩ := hw
    refine lv_istore (lv' := [(7, .int (S_X7_treat σ (xs (6 * i + 1)) (xs (6 * i + 2)) (xs (6 * i + 3)) (xs (6 * i + 4)) (xs (6 * i + 5))).1), (6, .int r), (5, .int (nI (6 * i))), (4, .ref (ead E 36)), (3, .ref (ead E 35)), (2, .ref (ead E 15)), (1, .ref (ead E 0)), (0, .ref b)]) C.x C.b dL_law_703 hl (by decide) rfl (fun ls hl => ?_)
    refine lv_aload_n C.x C.b dL_law_705 rfl (lv_at hl 5 rfl) ?_
    have okt : OK E (S_X7_treat σ (xs (6 * i + 1)) (xs (6 * i + 2)) (xs (6 * i + 3)) (xs (6 * i + 4)) (xs (6 * i + 5))).2 := bq5.ok rfl
    refine caVi (As := []) (rest := []) (q0 := 15) (ci := 7) C h (M_X7_thrown l D _ _ okt) cw_L_88 m_im_X7_thrown m_se_X7_thrown rfl rfl ⟨Nat.le_of_ble_eq_true rfl, Nat.le_of_ble_eq_true rfl⟩ rfl rfl hl rfl (Nat.le_of_ble_eq_true rfl) dL_law_706 ⟨by show cells + 10 + 0 + 0 ≤ 601024; omega, by show slots + 60 + 0 + 0 ≤ 7293034; omega⟩ (fun r3 u H locs hw h => ?_)
    obtain ⟨rfl, rfl⟩ := hw
    refine lv_iload C.x C.b dL_law_709 (lv_at hl 1 rfl) ?_
    have ek : S_X7_thrown (S_X7_treat σ (xs (6 * i + 1)) (xs (6 * i + 2)) (xs (6 * i + 3)) (xs (6 * i + 4)) (xs (6 * i + 5))).2 = r := bq1.trans hr
    refine lv_icmp_eq (tgt := 716) C.x C.b dL_law_711 (by decide) (fun _ => ?_) (fun q => absurd ek q)
    refine lv_iload C.x C.b dL_law_716 (lv_at hl 1 rfl) ?_
    refine lv_if_ne (tgt := 733) C.x C.b dL_law_718 (by decide) (fun _ => ?_) (fun q => absurd (hr.trans q) (wcd_ne e0))
    refine lv_goto (tgt := 1410) C.x C.b dL_law_733 (by decide) ?_
    exact B E (S_X7_treat σ (xs (6 * i + 1)) (xs (6 * i + 2)) (xs (6 * i + 3)) (xs (6 * i + 4)) (xs (6 * i + 5))).2 mm H locs _ _ ls C h bq5 (by omega) (by show cells + 10 + 0 + 0 ≤ _; omega) (by show slots + 60 + 0 + 0 ≤ _; omega) (lv_sub hl [2, 3, 4, 5, 6, 7] rfl)
theorem cl_L_cancel : CLd RL 117 yL_cancel cL_cancel 4 [(0, 9, 12, 19), (0, 9, 15, 31)] 3 := ⟨m_ml_L_117, m_cw_L_cancel, m_ini_L, by decide +kernel, by decide +kernel, m_st_L_cancel⟩
theorem B_cancel {σ : St} {m n c : Nat} (h : RR σ σ m n c) (p1 : Int32) : BQ (LST (S_X6_cancel σ p1) σ) m n c 1 3 n (S_X6_cancel σ p1) (S_X7_cancel (LST (S_X6_cancel σ p1) σ) p1) :=
  BLx (A_cancel (h.lst (fun f i q => F6_cancel q σ p1)) p1) (fun f i q => F7_cancel q _ p1)
theorem O_cancel {σ : St} {m n c : Nat} {E1 : En} (h : RR σ σ m n c) (p1 : Int32) (e0 : (S_X6_cancel σ p1).1 = 0) (hn : n = en E1) : OK E1 (S_X6_cancel σ p1).2.2 :=
  OKx h (A_cancel h p1) (fun f i q => F6_cancel q σ p1) e0 hn (by omega)
theorem cw_L_119 : CWd RL 119 yX7_cancel cX7_cancel 3 (some .int) 1 := ⟨m_ml_L_119, m_co_X7_cancel, m_ini_X7, by decide +kernel, by decide +kernel⟩
set_option maxRecDepth 100000 in
set_option maxHeartbeats 4000000 in
theorem case_cancel {p : Program} {l : Launch} (hfl : l.stackTraces = false) {e : Env} {s : State} {m : MethodId} {args : Array Value} {below : List Frame} {meth : Method} {c : Code} {Q : State → Prop} {D : va_G} {A : Nat → Prop} {b L i : Nat} {xs : Nat → Int32} (hX : va_X b L xs s s.heap) (hbl : b < s.heap.size) (hbA : ¬ A b) (hL : L ≤ 3072) (hi : 6 * i + 5 < L) (B : BK p l e s m args below meth c Q D A b i) {E : En} {σ : St} {mm : Nat} {H : Heap} {locs : List Loc} {cells slots : Nat} {ls : Array Slot} (C : CX p s m meth c cL_law RL 9 D E A) (h : HW D E σ A s H locs) (hR : RR σ σ mm (en E) i) (hm : mm ≤ 500 * i) (hc : cells ≤ 64 + 10 * i) (hs : slots ≤ 512 + 60 * i) (hl : lv_has ls 9 (LV E b i)) : W p l e room_1 s m args below meth c H locs cells slots Q (F0 m 736 ls []) := by
  have ok := hR.ok rfl
  have hl : lv_has ls 9 [(5, .int (nI (6 * i))), (4, .ref (ead E 36)), (3, .ref (ead E 35)), (2, .ref (ead E 15)), (1, .ref (ead E 0)), (0, .ref b)] := hl
  refine lv_aload_n C.x C.b dL_law_736 rfl (lv_at hl 4 rfl) ?_
  refine lv_aload_n C.x C.b dL_law_737 rfl (lv_at hl 5 rfl) ?_
  refine lv_iload C.x C.b dL_law_738 (lv_at hl 0 rfl) ?_
  refine lv_iconst (v := 1) C.x C.b dL_law_740 (by decide) ?_
  refine lv_iadd C.x C.b dL_law_741 ?_
  refine ldS (j := 6 * i + 1) C h hX hbl hbA hL (by omega) (nI_add (6 * i) 1) dL_law_742 ?_
  refine lv_aload_n C.x C.b dL_law_743 rfl (lv_at hl 2 rfl) ?_
  refine caL (As := [.ref (ead E 0), .int (xs (6 * i + 1)), .ref (ead E 35)]) (rest := []) C h (M_L_cancel l hfl D E σ ok (xs (6 * i + 1))) cl_L_cancel rfl rfl ⟨Nat.le_of_ble_eq_true rfl, Nat.le_of_ble_eq_true rfl⟩ hl rfl (Nat.le_of_ble_eq_true rfl) dL_law_744 ⟨by show cells + 10 ≤ 601024; omega, by show slots + 60 ≤ 7293034; omega⟩ (fun r u H locs hp h => ?_)
  obtain ⟨hr, hp0, hp1⟩ := hp
  have Bq := B_cancel hR (xs (6 * i + 1))
  by_cases e0 : (S_X6_cancel σ (xs (6 * i + 1))).1 = 0
  · obtain rfl := hp0 e0
    have eS : LST (S_X6_cancel σ (xs (6 * i + 1))) σ = (S_X6_cancel σ (xs (6 * i + 1))).2.2 := if_pos e0
    rw [eS] at Bq
    obtain ⟨bq1, bq2, -⟩ := Bq
    obtain ⟨bq3, m', bq4, bq5⟩ := bq2 e0
    have okm : OK (setO E (S_X6_cancel σ (xs (6 * i + 1))).2.1.toInt64) (S_X6_cancel σ (xs (6 * i + 1))).2.2 := O_cancel hR (xs (6 * i + 1)) e0 rfl
    have C : CX p s m meth c cL_law RL 9 D (setO E (S_X6_cancel σ (xs (6 * i + 1))).2.1.toInt64) A := C
    have h : HW D (setO E (S_X6_cancel σ (xs (6 * i + 1))).2.1.toInt64) (S_X6_cancel σ (xs (6 * i + 1))).2.2 A s H locs := h
    have hl : lv_has ls 9 [(5, .int (nI (6 * i))), (4, .ref (ead (setO E (S_X6_cancel σ (xs (6 * i + 1))).2.1.toInt64) 36)), (3, .ref (ead (setO E (S_X6_cancel σ (xs (6 * i + 1))).2.1.toInt64) 35)), (2, .ref (ead (setO E (S_X6_cancel σ (xs (6 * i + 1))).2.1.toInt64) 15)), (1, .ref (ead (setO E (S_X6_cancel σ (xs (6 * i + 1))).2.1.toInt64) 0)), (0, .ref b)] := hl
    refine lv_istore (lv' := [(6, .int r), (5, .int (nI (6 * i))), (4, .ref (ead (setO E (S_X6_cancel σ (xs (6 * i + 1))).2.1.toInt64) 36)), (3, .ref (ead (setO E (S_X6_cancel σ (xs (6 * i + 1))).2.1.toInt64) 35)), (2, .ref (ead (setO E (S_X6_cancel σ (xs (6 * i + 1))).2.1.toInt64) 15)), (1, .ref (ead (setO E (S_X6_cancel σ (xs (6 * i + 1))).2.1.toInt64) 0)), (0, .ref b)]) C.x C.b dL_law_747 hl (by decide) rfl (fun ls hl => ?_)
    refine lv_aload_n C.x C.b dL_law_749 rfl (lv_at hl 4 rfl) ?_
    refine lv_aload_n C.x C.b dL_law_750 rfl (lv_at hl 6 rfl) ?_
    refine lv_iload C.x C.b dL_law_751 (lv_at hl 1 rfl) ?_
    refine lv_iconst (v := 1) C.x C.b dL_law_753 (by decide) ?_
    refine lv_iadd C.x C.b dL_law_754 ?_
    refine ldS (j := 6 * i + 1) C h hX hbl hbA hL (by omega) (nI_add (6 * i) 1) dL_law_755 ?_
    refine caVi (As := [.int (xs (6 * i + 1))]) (rest := []) (q0 := 15) (ci := 7) C h (M_X7_cancel l D _ _ okm (xs (6 * i + 1))) cw_L_119 m_im_X7_cancel m_se_X7_cancel rfl rfl ⟨Nat.le_of_ble_eq_true rfl, Nat.le_of_ble_eq_true rfl⟩ rfl rfl hl rfl (Nat.le_of_ble_eq_true rfl) dL_law_756 ⟨by show cells + 10 + 0 ≤ 601024; omega, by show slots + 60 + 0 ≤ 7293034; omega⟩ (fun r2 u H locs hw h => ?_)
    obtain ⟨rfl, rfl⟩ := hw
    refine lv_istore (lv' := [(7, .int (S_X7_cancel (S_X6_cancel σ (xs (6 * i + 1))).2.2 (xs (6 * i + 1))).1), (6, .int r), (5, .int (nI (6 * i))), (4, .ref (ead (setO E (S_X6_cancel σ (xs (6 * i + 1))).2.1.toInt64) 36)), (3, .ref (ead (setO E (S_X6_cancel σ (xs (6 * i + 1))).2.1.toInt64) 35)), (2, .ref (ead (setO E (S_X6_cancel σ (xs (6 * i + 1))).2.1.toInt64) 15)), (1, .ref (ead (setO E (S_X6_cancel σ (xs (6 * i + 1))).2.1.toInt64) 0)), (0, .ref b)]) C.x C.b dL_law_759 hl (by decide) rfl (fun ls hl => ?_)
    refine lv_aload_n C.x C.b dL_law_761 rfl (lv_at hl 5 rfl) ?_
    have okt : OK (setO E (S_X6_cancel σ (xs (6 * i + 1))).2.1.toInt64) (S_X7_cancel (S_X6_cancel σ (xs (6 * i + 1))).2.2 (xs (6 * i + 1))).2 := bq5.ok rfl
    refine caVi (As := []) (rest := []) (q0 := 15) (ci := 7) C h (M_X7_thrown l D _ _ okt) cw_L_88 m_im_X7_thrown m_se_X7_thrown rfl rfl ⟨Nat.le_of_ble_eq_true rfl, Nat.le_of_ble_eq_true rfl⟩ rfl rfl hl rfl (Nat.le_of_ble_eq_true rfl) dL_law_762 ⟨by show cells + 10 + 0 + 0 ≤ 601024; omega, by show slots + 60 + 0 + 0 ≤ 7293034; omega⟩ (fun r3 u H locs hw h => ?_)
    obtain ⟨rfl, rfl⟩ := hw
    refine lv_iload C.x C.b dL_law_765 (lv_at hl 1 rfl) ?_
    have ek : S_X7_thrown (S_X7_cancel (S_X6_cancel σ (xs (6 * i + 1))).2.2 (xs (6 * i + 1))).2 = r := bq1.trans hr
    refine lv_icmp_eq (tgt := 772) C.x C.b dL_law_767 (by decide) (fun _ => ?_) (fun q => absurd ek q)
    refine lv_iload C.x C.b dL_law_772 (lv_at hl 1 rfl) ?_
    have er : r = 0 := by rw [← hr, e0]; rfl
    refine lv_if_ne (tgt := 789) C.x C.b dL_law_774 (by decide) (fun q => absurd er q) (fun _ => ?_)
    refine lv_aload_n C.x C.b dL_law_777 rfl (lv_at hl 4 rfl) ?_
    refine lv_iconst (v := 0) C.x C.b dL_law_778 (by decide) ?_
    refine ldL C h dL_law_779 ?_
    refine lv_iload C.x C.b dL_law_780 (lv_at hl 0 rfl) ?_
    refine lv_i2l (v := (S_X7_cancel (S_X6_cancel σ (xs (6 * i + 1))).2.2 (xs (6 * i + 1))).1.toInt64) C.x C.b dL_law_782 rfl ?_
    refine lcE C (show (S_X6_cancel σ (xs (6 * i + 1))).2.1.toInt64 = (S_X7_cancel (S_X6_cancel σ (xs (6 * i + 1))).2.2 (xs (6 * i + 1))).1.toInt64 by rw [bq3]) dL_law_783 ?_
    refine lv_if_eq (tgt := 789) C.x C.b dL_law_784 (by decide) (fun _ => ?_) (fun q => absurd rfl q)
    refine lv_goto (tgt := 1410) C.x C.b dL_law_789 (by decide) ?_
    exact B (setO E (S_X6_cancel σ (xs (6 * i + 1))).2.1.toInt64) (S_X7_cancel (S_X6_cancel σ (xs (6 * i + 1))).2.2 (xs (6 * i + 1))).2 m' H locs _ _ ls C h bq5 (by omega) (by show cells + 10 + 0 + 0 ≤ _; omega) (by show slots + 60 + 0 + 0 ≤ _; omega) (lv_sub hl [2, 3, 4, 5, 6, 7] rfl)
  · obtain rfl := hp1 e0
    have eS : LST (S_X6_cancel σ (xs (6 * i + 1))) σ = σ := if_neg e0
    rw [eS] at Bq
    obtain ⟨bq1, -, bq2⟩ := Bq
    have bq5 := bq2 e0
    have okm : OK E σ := ok
    have C : CX p s m meth c cL_law RL 9 D E A := C
    have h : HW D E σ A s H locs := h
    have hl : lv_has ls 9 [(5, .int (nI (6 * i))), (4, .ref (ead E 36)), (3, .ref (ead E 35)), (2, .ref (ead E 15)), (1, .ref (ead E 0)), (0, .ref b)] := hl
    refine lv_istore (lv' := [(6, .int r), (5, .int (nI (6 * i))), (4, .ref (ead E 36)), (3, .ref (ead E 35)), (2, .ref (ead E 15)), (1, .ref (ead E 0)), (0, .ref b)]) C.x C.b dL_law_747 hl (by decide) rfl (fun ls hl => ?_)
    refine lv_aload_n C.x C.b dL_law_749 rfl (lv_at hl 4 rfl) ?_
    refine lv_aload_n C.x C.b dL_law_750 rfl (lv_at hl 6 rfl) ?_
    refine lv_iload C.x C.b dL_law_751 (lv_at hl 1 rfl) ?_
    refine lv_iconst (v := 1) C.x C.b dL_law_753 (by decide) ?_
    refine lv_iadd C.x C.b dL_law_754 ?_
    refine ldS (j := 6 * i + 1) C h hX hbl hbA hL (by omega) (nI_add (6 * i) 1) dL_law_755 ?_
    refine caVi (As := [.int (xs (6 * i + 1))]) (rest := []) (q0 := 15) (ci := 7) C h (M_X7_cancel l D _ _ okm (xs (6 * i + 1))) cw_L_119 m_im_X7_cancel m_se_X7_cancel rfl rfl ⟨Nat.le_of_ble_eq_true rfl, Nat.le_of_ble_eq_true rfl⟩ rfl rfl hl rfl (Nat.le_of_ble_eq_true rfl) dL_law_756 ⟨by show cells + 10 + 0 ≤ 601024; omega, by show slots + 60 + 0 ≤ 7293034; omega⟩ (fun r2 u H locs hw h => ?_)
    obtain ⟨rfl, rfl⟩ := hw
    refine lv_istore (lv' := [(7, .int (S_X7_cancel σ (xs (6 * i + 1))).1), (6, .int r), (5, .int (nI (6 * i))), (4, .ref (ead E 36)), (3, .ref (ead E 35)), (2, .ref (ead E 15)), (1, .ref (ead E 0)), (0, .ref b)]) C.x C.b dL_law_759 hl (by decide) rfl (fun ls hl => ?_)
    refine lv_aload_n C.x C.b dL_law_761 rfl (lv_at hl 5 rfl) ?_
    have okt : OK E (S_X7_cancel σ (xs (6 * i + 1))).2 := bq5.ok rfl
    refine caVi (As := []) (rest := []) (q0 := 15) (ci := 7) C h (M_X7_thrown l D _ _ okt) cw_L_88 m_im_X7_thrown m_se_X7_thrown rfl rfl ⟨Nat.le_of_ble_eq_true rfl, Nat.le_of_ble_eq_true rfl⟩ rfl rfl hl rfl (Nat.le_of_ble_eq_true rfl) dL_law_762 ⟨by show cells + 10 + 0 + 0 ≤ 601024; omega, by show slots + 60 + 0 + 0 ≤ 7293034; omega⟩ (fun r3 u H locs hw h => ?_)
    obtain ⟨rfl, rfl⟩ := hw
    refine lv_iload C.x C.b dL_law_765 (lv_at hl 1 rfl) ?_
    have ek : S_X7_thrown (S_X7_cancel σ (xs (6 * i + 1))).2 = r := bq1.trans hr
    refine lv_icmp_eq (tgt := 772) C.x C.b dL_law_767 (by decide) (fun _ => ?_) (fun q => absurd ek q)
    refine lv_iload C.x C.b dL_law_772 (lv_at hl 1 rfl) ?_
    refine lv_if_ne (tgt := 789) C.x C.b dL_law_774 (by decide) (fun _ => ?_) (fun q => absurd (hr.trans q) (wcd_ne e0))
    refine lv_goto (tgt := 1410) C.x C.b dL_law_789 (by decide) ?_
    exact B E (S_X7_cancel σ (xs (6 * i + 1))).2 mm H locs _ _ ls C h bq5 (by omega) (by show cells + 10 + 0 + 0 ≤ _; omega) (by show slots + 60 + 0 + 0 ≤ _; omega) (lv_sub hl [2, 3, 4, 5, 6, 7] rfl)
theorem cl_L_permit : CLd RL 120 yL_permit cL_permit 4 [(0, 9, 12, 13)] 3 := ⟨m_ml_L_120, m_cw_L_permit, m_ini_L, by decide +kernel, by decide +kernel, m_st_L_permit⟩
theorem B_permit {σ : St} {m n c : Nat} (h : RR σ σ m n c) (p1 : Int32) : BQ (LST (S_X6_permit σ p1) σ) m n c 2 9 n (S_X6_permit σ p1) (S_X7_permit (LST (S_X6_permit σ p1) σ) p1) :=
  BLx (A_permit (h.lst (fun f i q => F6_permit q σ p1)) p1) (fun f i q => F7_permit q _ p1)
theorem O_permit {σ : St} {m n c : Nat} {E1 : En} (h : RR σ σ m n c) (p1 : Int32) (e0 : (S_X6_permit σ p1).1 = 0) (hn : n = en E1) : OK E1 (S_X6_permit σ p1).2.2 :=
  OKx h (A_permit h p1) (fun f i q => F6_permit q σ p1) e0 hn (by omega)
theorem cw_L_122 : CWd RL 122 yX7_permit cX7_permit 3 (some .int) 1 := ⟨m_ml_L_122, m_co_X7_permit, m_ini_X7, by decide +kernel, by decide +kernel⟩
set_option maxRecDepth 100000 in
set_option maxHeartbeats 4000000 in
theorem case_permit {p : Program} {l : Launch} (hfl : l.stackTraces = false) {e : Env} {s : State} {m : MethodId} {args : Array Value} {below : List Frame} {meth : Method} {c : Code} {Q : State → Prop} {D : va_G} {A : Nat → Prop} {b L i : Nat} {xs : Nat → Int32} (hX : va_X b L xs s s.heap) (hbl : b < s.heap.size) (hbA : ¬ A b) (hL : L ≤ 3072) (hi : 6 * i + 5 < L) (B : BK p l e s m args below meth c Q D A b i) {E : En} {σ : St} {mm : Nat} {H : Heap} {locs : List Loc} {cells slots : Nat} {ls : Array Slot} (C : CX p s m meth c cL_law RL 9 D E A) (h : HW D E σ A s H locs) (hR : RR σ σ mm (en E) i) (hm : mm ≤ 500 * i) (hc : cells ≤ 64 + 10 * i) (hs : slots ≤ 512 + 60 * i) (hl : lv_has ls 9 (LV E b i)) : W p l e room_1 s m args below meth c H locs cells slots Q (F0 m 792 ls []) := by
  have ok := hR.ok rfl
  have hl : lv_has ls 9 [(5, .int (nI (6 * i))), (4, .ref (ead E 36)), (3, .ref (ead E 35)), (2, .ref (ead E 15)), (1, .ref (ead E 0)), (0, .ref b)] := hl
  refine lv_aload_n C.x C.b dL_law_792 rfl (lv_at hl 4 rfl) ?_
  refine lv_aload_n C.x C.b dL_law_793 rfl (lv_at hl 5 rfl) ?_
  refine lv_iload C.x C.b dL_law_794 (lv_at hl 0 rfl) ?_
  refine lv_iconst (v := 1) C.x C.b dL_law_796 (by decide) ?_
  refine lv_iadd C.x C.b dL_law_797 ?_
  refine ldS (j := 6 * i + 1) C h hX hbl hbA hL (by omega) (nI_add (6 * i) 1) dL_law_798 ?_
  refine lv_aload_n C.x C.b dL_law_799 rfl (lv_at hl 2 rfl) ?_
  refine caL (As := [.ref (ead E 0), .int (xs (6 * i + 1)), .ref (ead E 35)]) (rest := []) C h (M_L_permit l hfl D E σ ok (xs (6 * i + 1))) cl_L_permit rfl rfl ⟨Nat.le_of_ble_eq_true rfl, Nat.le_of_ble_eq_true rfl⟩ hl rfl (Nat.le_of_ble_eq_true rfl) dL_law_800 ⟨by show cells + 10 ≤ 601024; omega, by show slots + 60 ≤ 7293034; omega⟩ (fun r u H locs hp h => ?_)
  obtain ⟨hr, hp0, hp1⟩ := hp
  have Bq := B_permit hR (xs (6 * i + 1))
  by_cases e0 : (S_X6_permit σ (xs (6 * i + 1))).1 = 0
  · obtain rfl := hp0 e0
    have eS : LST (S_X6_permit σ (xs (6 * i + 1))) σ = (S_X6_permit σ (xs (6 * i + 1))).2.2 := if_pos e0
    rw [eS] at Bq
    obtain ⟨bq1, bq2, -⟩ := Bq
    obtain ⟨bq3, m', bq4, bq5⟩ := bq2 e0
    have okm : OK (setO E (S_X6_permit σ (xs (6 * i + 1))).2.1.toInt64) (S_X6_permit σ (xs (6 * i + 1))).2.2 := O_permit hR (xs (6 * i + 1)) e0 rfl
    have C : CX p s m meth c cL_law RL 9 D (setO E (S_X6_permit σ (xs (6 * i + 1))).2.1.toInt64) A := C
    have h : HW D (setO E (S_X6_permit σ (xs (6 * i + 1))).2.1.toInt64) (S_X6_permit σ (xs (6 * i + 1))).2.2 A s H locs := h
    have hl : lv_has ls 9 [(5, .int (nI (6 * i))), (4, .ref (ead (setO E (S_X6_permit σ (xs (6 * i + 1))).2.1.toInt64) 36)), (3, .ref (ead (setO E (S_X6_permit σ (xs (6 * i + 1))).2.1.toInt64) 35)), (2, .ref (ead (setO E (S_X6_permit σ (xs (6 * i + 1))).2.1.toInt64) 15)), (1, .ref (ead (setO E (S_X6_permit σ (xs (6 * i + 1))).2.1.toInt64) 0)), (0, .ref b)] := hl
    refine lv_istore (lv' := [(6, .int r), (5, .int (nI (6 * i))), (4, .ref (ead (setO E (S_X6_permit σ (xs (6 * i + 1))).2.1.toInt64) 36)), (3, .ref (ead (setO E (S_X6_permit σ (xs (6 * i + 1))).2.1.toInt64) 35)), (2, .ref (ead (setO E (S_X6_permit σ (xs (6 * i + 1))).2.1.toInt64) 15)), (1, .ref (ead (setO E (S_X6_permit σ (xs (6 * i + 1))).2.1.toInt64) 0)), (0, .ref b)]) C.x C.b dL_law_803 hl (by decide) rfl (fun ls hl => ?_)
    refine lv_aload_n C.x C.b dL_law_805 rfl (lv_at hl 4 rfl) ?_
    refine lv_aload_n C.x C.b dL_law_806 rfl (lv_at hl 6 rfl) ?_
    refine lv_iload C.x C.b dL_law_807 (lv_at hl 1 rfl) ?_
    refine lv_iconst (v := 1) C.x C.b dL_law_809 (by decide) ?_
    refine lv_iadd C.x C.b dL_law_810 ?_
    refine ldS (j := 6 * i + 1) C h hX hbl hbA hL (by omega) (nI_add (6 * i) 1) dL_law_811 ?_
    refine caVi (As := [.int (xs (6 * i + 1))]) (rest := []) (q0 := 15) (ci := 7) C h (M_X7_permit l D _ _ okm (xs (6 * i + 1))) cw_L_122 m_im_X7_permit m_se_X7_permit rfl rfl ⟨Nat.le_of_ble_eq_true rfl, Nat.le_of_ble_eq_true rfl⟩ rfl rfl hl rfl (Nat.le_of_ble_eq_true rfl) dL_law_812 ⟨by show cells + 10 + 0 ≤ 601024; omega, by show slots + 60 + 0 ≤ 7293034; omega⟩ (fun r2 u H locs hw h => ?_)
    obtain ⟨rfl, rfl⟩ := hw
    refine lv_istore (lv' := [(7, .int (S_X7_permit (S_X6_permit σ (xs (6 * i + 1))).2.2 (xs (6 * i + 1))).1), (6, .int r), (5, .int (nI (6 * i))), (4, .ref (ead (setO E (S_X6_permit σ (xs (6 * i + 1))).2.1.toInt64) 36)), (3, .ref (ead (setO E (S_X6_permit σ (xs (6 * i + 1))).2.1.toInt64) 35)), (2, .ref (ead (setO E (S_X6_permit σ (xs (6 * i + 1))).2.1.toInt64) 15)), (1, .ref (ead (setO E (S_X6_permit σ (xs (6 * i + 1))).2.1.toInt64) 0)), (0, .ref b)]) C.x C.b dL_law_815 hl (by decide) rfl (fun ls hl => ?_)
    refine lv_aload_n C.x C.b dL_law_817 rfl (lv_at hl 5 rfl) ?_
    have okt : OK (setO E (S_X6_permit σ (xs (6 * i + 1))).2.1.toInt64) (S_X7_permit (S_X6_permit σ (xs (6 * i + 1))).2.2 (xs (6 * i + 1))).2 := bq5.ok rfl
    refine caVi (As := []) (rest := []) (q0 := 15) (ci := 7) C h (M_X7_thrown l D _ _ okt) cw_L_88 m_im_X7_thrown m_se_X7_thrown rfl rfl ⟨Nat.le_of_ble_eq_true rfl, Nat.le_of_ble_eq_true rfl⟩ rfl rfl hl rfl (Nat.le_of_ble_eq_true rfl) dL_law_818 ⟨by show cells + 10 + 0 + 0 ≤ 601024; omega, by show slots + 60 + 0 + 0 ≤ 7293034; omega⟩ (fun r3 u H locs hw h => ?_)
    obtain ⟨rfl, rfl⟩ := hw
    refine lv_iload C.x C.b dL_law_821 (lv_at hl 1 rfl) ?_
    have ek : S_X7_thrown (S_X7_permit (S_X6_permit σ (xs (6 * i + 1))).2.2 (xs (6 * i + 1))).2 = r := bq1.trans hr
    refine lv_icmp_eq (tgt := 828) C.x C.b dL_law_823 (by decide) (fun _ => ?_) (fun q => absurd ek q)
    refine lv_iload C.x C.b dL_law_828 (lv_at hl 1 rfl) ?_
    have er : r = 0 := by rw [← hr, e0]; rfl
    refine lv_if_ne (tgt := 845) C.x C.b dL_law_830 (by decide) (fun q => absurd er q) (fun _ => ?_)
    refine lv_aload_n C.x C.b dL_law_833 rfl (lv_at hl 4 rfl) ?_
    refine lv_iconst (v := 0) C.x C.b dL_law_834 (by decide) ?_
    refine ldL C h dL_law_835 ?_
    refine lv_iload C.x C.b dL_law_836 (lv_at hl 0 rfl) ?_
    refine lv_i2l (v := (S_X7_permit (S_X6_permit σ (xs (6 * i + 1))).2.2 (xs (6 * i + 1))).1.toInt64) C.x C.b dL_law_838 rfl ?_
    refine lcE C (show (S_X6_permit σ (xs (6 * i + 1))).2.1.toInt64 = (S_X7_permit (S_X6_permit σ (xs (6 * i + 1))).2.2 (xs (6 * i + 1))).1.toInt64 by rw [bq3]) dL_law_839 ?_
    refine lv_if_eq (tgt := 845) C.x C.b dL_law_840 (by decide) (fun _ => ?_) (fun q => absurd rfl q)
    refine lv_goto (tgt := 1410) C.x C.b dL_law_845 (by decide) ?_
    exact B (setO E (S_X6_permit σ (xs (6 * i + 1))).2.1.toInt64) (S_X7_permit (S_X6_permit σ (xs (6 * i + 1))).2.2 (xs (6 * i + 1))).2 m' H locs _ _ ls C h bq5 (by omega) (by show cells + 10 + 0 + 0 ≤ _; omega) (by show slots + 60 + 0 + 0 ≤ _; omega) (lv_sub hl [2, 3, 4, 5, 6, 7] rfl)
  · obtain rfl := hp1 e0
    have eS : LST (S_X6_permit σ (xs (6 * i + 1))) σ = σ := if_neg e0
    rw [eS] at Bq
    obtain ⟨bq1, -, bq2⟩ := Bq
    have bq5 := bq2 e0
    have okm : OK E σ := ok
    have C : CX p s m meth c cL_law RL 9 D E A := C
    have h : HW D E σ A s H locs := h
    have hl : lv_has ls 9 [(5, .int (nI (6 * i))), (4, .ref (ead E 36)), (3, .ref (ead E 35)), (2, .ref (ead E 15)), (1, .ref (ead E 0)), (0, .ref b)] := hl
    refine lv_istore (lv' := [(6, .int r), (5, .int (nI (6 * i))), (4, .ref (ead E 36)), (3, .ref (ead E 35)), (2, .ref (ead E 15)), (1, .ref (ead E 0)), (0, .ref b)]) C.x C.b dL_law_803 hl (by decide) rfl (fun ls hl => ?_)
    refine lv_aload_n C.x C.b dL_law_805 rfl (lv_at hl 4 rfl) ?_
    refine lv_aload_n C.x C.b dL_law_806 rfl (lv_at hl 6 rfl) ?_
    refine lv_iload C.x C.b dL_law_807 (lv_at hl 1 rfl) ?_
    refine lv_iconst (v := 1) C.x C.b dL_law_809 (by decide) ?_
    refine lv_iadd C.x C.b dL_law_810 ?_
    refine ldS (j := 6 * i + 1) C h hX hbl hbA hL (by omega) (nI_add (6 * i) 1) dL_law_811 ?_
    refine caVi (As := [.int (xs (6 * i + 1))]) (rest := []) (q0 := 15) (ci := 7) C h (M_X7_permit l D _ _ okm (xs (6 * i + 1))) cw_L_122 m_im_X7_permit m_se_X7_permit rfl rfl ⟨Nat.le_of_ble_eq_true rfl, Nat.le_of_ble_eq_true rfl⟩ rfl rfl hl rfl (Nat.le_of_ble_eq_true rfl) dL_law_812 ⟨by show cells + 10 + 0 ≤ 601024; omega, by show slots + 60 + 0 ≤ 7293034; omega⟩ (fun r2 u H locs hw h => ?_)
    obtain ⟨rfl, rfl⟩ := hw
    refine lv_istore (lv' := [(7, .int (S_X7_permit σ (xs (6 * i + 1))).1), (6, .int r), (5, .int (nI (6 * i))), (4, .ref (ead E 36)), (3, .ref (ead E 35)), (2, .ref (ead E 15)), (1, .ref (ead E 0)), (0, .ref b)]) C.x C.b dL_law_815 hl (by decide) rfl (fun ls hl => ?_)
    refine lv_aload_n C.x C.b dL_law_817 rfl (lv_at hl 5 rfl) ?_
    have okt : OK E (S_X7_permit σ (xs (6 * i + 1))).2 := bq5.ok rfl
    refine caVi (As := []) (rest := []) (q0 := 15) (ci := 7) C h (M_X7_thrown l D _ _ okt) cw_L_88 m_im_X7_thrown m_se_X7_thrown rfl rfl ⟨Nat.le_of_ble_eq_true rfl, Nat.le_of_ble_eq_true rfl⟩ rfl rfl hl rfl (Nat.le_of_ble_eq_true rfl) dL_law_818 ⟨by show cells + 10 + 0 + 0 ≤ 601024; omega, by show slots + 60 + 0 + 0 ≤ 7293034; omega⟩ (fun r3 u H locs hw h => ?_)
    obtain ⟨rfl, rfl⟩ := hw
    refine lv_iload C.x C.b dL_law_821 (lv_at hl 1 rfl) ?_
    have ek : S_X7_thrown (S_X7_permit σ (xs (6 * i + 1))).2 = r := bq1.trans hr
    refine lv_icmp_eq (tgt := 828) C.x C.b dL_law_823 (by decide) (fun _ => ?_) (fun q => absurd ek q)
    refine lv_iload C.x C.b dL_law_828 (lv_at hl 1 rfl) ?_
    refine lv_if_ne (tgt := 845) C.x C.b dL_law_830 (by decide) (fun _ => ?_) (fun q => absurd (hr.trans q) (wcd_ne e0))
    refine lv_goto (tgt := 1410) C.x C.b dL_law_845 (by decide) ?_
    exact B E (S_X7_permit σ (xs (6 * i + 1))).2 mm H locs _ _ ls C h bq5 (by omega) (by show cells + 10 + 0 + 0 ≤ _; omega) (by show slots + 60 + 0 + 0 ≤ _; omega) (lv_sub hl [2, 3, 4, 5, 6, 7] rfl)
theorem cl_L_release : CLd RL 123 yL_release cL_release 4 [(0, 9, 12, 13), (0, 9, 15, 31)] 3 := ⟨m_ml_L_123, m_cw_L_release, m_ini_L, by decide +kernel, by decide +kernel, m_st_L_release⟩
theorem B_release {σ : St} {m n c : Nat} (h : RR σ σ m n c) (p1 : Int32) : BQ (LST (S_X6_release σ p1) σ) m n c 2 3 n (S_X6_release σ p1) (S_X7_release (LST (S_X6_release σ p1) σ) p1) :=
  BLx (A_release (h.lst (fun f i q => F6_release q σ p1)) p1) (fun f i q => F7_release q _ p1)
theorem O_release {σ : St} {m n c : Nat} {E1 : En} (h : RR σ σ m n c) (p1 : Int32) (e0 : (S_X6_release σ p1).1 = 0) (hn : n = en E1) : OK E1 (S_X6_release σ p1).2.2 :=
  OKx h (A_release h p1) (fun f i q => F6_release q σ p1) e0 hn (by omega)
theorem cw_L_125 : CWd RL 125 yX7_release cX7_release 2 (some .int) 1 := ⟨m_ml_L_125, m_co_X7_release, m_ini_X7, by decide +kernel, by decide +kernel⟩
set_option maxRecDepth 100000 in
set_option maxHeartbeats 4000000 in
theorem case_release {p : Program} {l : Launch} (hfl : l.stackTraces = false) {e : Env} {s : State} {m : MethodId} {args : Array Value} {below : List Frame} {meth : Method} {c : Code} {Q : State → Prop} {D : va_G} {A : Nat → Prop} {b L i : Nat} {xs : Nat → Int32} (hX : va_X b L xs s s.heap) (hbl : b < s.heap.size) (hbA : ¬ A b) (hL : L ≤ 3072) (hi : 6 * i + 5 < L) (B : BK p l e s m args below meth c Q D A b i) {E : En} {σ : St} {mm : Nat} {H : Heap} {locs : List Loc} {cells slots : Nat} {ls : Array Slot} (C : CX p s m meth c cL_law RL 9 D E A) (h : HW D E σ A s H locs) (hR : RR σ σ mm (en E) i) (hm : mm ≤ 500 * i) (hc : cells ≤ 64 + 10 * i) (hs : slots ≤ 512 + 60 * i) (hl : lv_has ls 9 (LV E b i)) : W p l e room_1 s m args below meth c H locs cells slots Q (F0 m 848 ls []) := by
  have ok := hR.ok rfl
  have hl : lv_has ls 9 [(5, .int (nI (6 * i))), (4, .ref (ead E 36)), (3, .ref (ead E 35)), (2, .ref (ead E 15)), (1, .ref (ead E 0)), (0, .ref b)] := hl
  refine lv_aload_n C.x C.b dL_law_848 rfl (lv_at hl 4 rfl) ?_
  refine lv_aload_n C.x C.b dL_law_849 rfl (lv_at hl 5 rfl) ?_
  refine lv_iload C.x C.b dL_law_850 (lv_at hl 0 rfl) ?_
  refine lv_iconst (v := 1) C.x C.b dL_law_852 (by decide) ?_
  refine lv_iadd C.x C.b dL_law_853 ?_
  refine ldS (j := 6 * i + 1) C h hX hbl hbA hL (by omega) (nI_add (6 * i) 1) dL_law_854 ?_
  refine lv_aload_n C.x C.b dL_law_855 rfl (lv_at hl 2 rfl) ?_
  refine caL (As := [.ref (ead E 0), .int (xs (6 * i + 1)), .ref (ead E 35)]) (rest := []) C h (M_L_release l hfl D E σ ok (xs (6 * i + 1))) cl_L_release rfl rfl ⟨Nat.le_of_ble_eq_true rfl, Nat.le_of_ble_eq_true rfl⟩ hl rfl (Nat.le_of_ble_eq_true rfl) dL_law_856 ⟨by show cells + 10 ≤ 601024; omega, by show slots + 60 ≤ 7293034; omega⟩ (fun r u H locs hp h => ?_)
  obtain ⟨hr, hp0, hp1⟩ := hp
  have Bq := B_release hR (xs (6 * i + 1))
  by_cases e0 : (S_X6_release σ (xs (6 * i + 1))).1 = 0
  · obtain rfl := hp0 e0
    have eS : LST (S_X6_release σ (xs (6 * i + 1))) σ = (S_X6_release σ (xs (6 * i + 1))).2.2 := if_pos e0
    rw [eS] at Bq
    obtain ⟨bq1, bq2, -⟩ := Bq
    obtain ⟨bq3, m', bq4, bq5⟩ := bq2 e0
    have okm : OK (setO E (S_X6_release σ (xs (6 * i + 1))).2.1.toInt64) (S_X6_release σ (xs (6 * i + 1))).2.2 := O_release hR (xs (6 * i + 1)) e0 rfl
    have C : CX p s m meth c cL_law RL 9 D (setO E (S_X6_release σ (xs (6 * i + 1))).2.1.toInt64) A := C
    have h : HW D (setO E (S_X6_release σ (xs (6 * i + 1))).2.1.toInt64) (S_X6_release σ (xs (6 * i + 1))).2.2 A s H locs := h
    have hl : lv_has ls 9 [(5, .int (nI (6 * i))), (4, .ref (ead (setO E (S_X6_release σ (xs (6 * i + 1))).2.1.toInt64) 36)), (3, .ref (ead (setO E (S_X6_release σ (xs (6 * i + 1))).2.1.toInt64) 35)), (2, .ref (ead (setO E (S_X6_release σ (xs (6 * i + 1))).2.1.toInt64) 15)), (1, .ref (ead (setO E (S_X6_release σ (xs (6 * i + 1))).2.1.toInt64) 0)), (0, .ref b)] := hl
    refine lv_istore (lv' := [(6, .int r), (5, .int (nI (6 * i))), (4, .ref (ead (setO E (S_X6_release σ (xs (6 * i + 1))).2.1.toInt64) 36)), (3, .ref (ead (setO E (S_X6_release σ (xs (6 * i + 1))).2.1.toInt64) 35)), (2, .ref (ead (setO E (S_X6_release σ (xs (6 * i + 1))).2.1.toInt64) 15)), (1, .ref (ead (setO E (S_X6_release σ (xs (6 * i + 1))).2.1.toInt64) 0)), (0, .ref b)]) C.x C.b dL_law_859 hl (by decide) rfl (fun ls hl => ?_)
    refine lv_aload_n C.x C.b dL_law_861 rfl (lv_at hl 4 rfl) ?_
    refine lv_aload_n C.x C.b dL_law_862 rfl (lv_at hl 6 rfl) ?_
    refine lv_iload C.x C.b dL_law_863 (lv_at hl 1 rfl) ?_
    refine lv_iconst (v := 1) C.x C.b dL_law_865 (by decide) ?_
    refine lv_iadd C.x C.b dL_law_866 ?_
    refine ldS (j := 6 * i + 1) C h hX hbl hbA hL (by omega) (nI_add (6 * i) 1) dL_law_867 ?_
    refine caVi (As := [.int (xs (6 * i + 1))]) (rest := []) (q0 := 15) (ci := 7) C h (M_X7_release l D _ _ okm (xs (6 * i + 1))) cw_L_125 m_im_X7_release m_se_X7_release rfl rfl ⟨Nat.le_of_ble_eq_true rfl, Nat.le_of_ble_eq_true rfl⟩ rfl rfl hl rfl (Nat.le_of_ble_eq_true rfl) dL_law_868 ⟨by show cells + 10 + 0 ≤ 601024; omega, by show slots + 60 + 0 ≤ 7293034; omega⟩ (fun r2 u H locs hw h => ?_)
    obtain ⟨rfl, rfl⟩ := hw
    refine lv_istore (lv' := [(7, .int (S_X7_release (S_X6_release σ (xs (6 * i + 1))).2.2 (xs (6 * i + 1))).1), (6, .int r), (5, .int (nI (6 * i))), (4, .ref (ead (setO E (S_X6_release σ (xs (6 * i + 1))).2.1.toInt64) 36)), (3, .ref (ead (setO E (S_X6_release σ (xs (6 * i + 1))).2.1.toInt64) 35)), (2, .ref (ead (setO E (S_X6_release σ (xs (6 * i + 1))).2.1.toInt64) 15)), (1, .ref (ead (setO E (S_X6_release σ (xs (6 * i + 1))).2.1.toInt64) 0)), (0, .ref b)]) C.x C.b dL_law_871 hl (by decide) rfl (fun ls hl => ?_)
    refine lv_aload_n C.x C.b dL_law_873 rfl (lv_at hl 5 rfl) ?_
    have okt : OK (setO E (S_X6_release σ (xs (6 * i + 1))).2.1.toInt64) (S_X7_release (S_X6_release σ (xs (6 * i + 1))).2.2 (xs (6 * i + 1))).2 := bq5.ok rfl
    refine caVi (As := []) (rest := []) (q0 := 15) (ci := 7) C h (M_X7_thrown l D _ _ okt) cw_L_88 m_im_X7_thrown m_se_X7_thrown rfl rfl ⟨Nat.le_of_ble_eq_true rfl, Nat.le_of_ble_eq_true rfl⟩ rfl rfl hl rfl (Nat.le_of_ble_eq_true rfl) dL_law_874 ⟨by show cells + 10 + 0 + 0 ≤ 601024; omega, by show slots + 60 + 0 + 0 ≤ 7293034; omega⟩ (fun r3 u H locs hw h => ?_)
    obtain ⟨rfl, rfl⟩ := hw
    refine lv_iload C.x C.b dL_law_877 (lv_at hl 1 rfl) ?_
    have ek : S_X7_thrown (S_X7_release (S_X6_release σ (xs (6 * i + 1))).2.2 (xs (6 * i + 1))).2 = r := bq1.trans hr
    refine lv_icmp_eq (tgt := 884) C.x C.b dL_law_879 (by decide) (fun _ => ?_) (fun q => absurd ek q)
    refine lv_iload C.x C.b dL_law_884 (lv_at hl 1 rfl) ?_
    have er : r = 0 := by rw [← hr, e0]; rfl
    refine lv_if_ne (tgt := 901) C.x C.b dL_law_886 (by decide) (fun q => absurd er q) (fun _ => ?_)
    refine lv_aload_n C.x C.b dL_law_889 rfl (lv_at hl 4 rfl) ?_
    refine lv_iconst (v := 0) C.x C.b dL_law_890 (by decide) ?_
    refine ldL C h dL_law_891 ?_
    refine lv_iload C.x C.b dL_law_892 (lv_at hl 0 rfl) ?_
    refine lv_i2l (v := (S_X7_release (S_X6_release σ (xs (6 * i + 1))).2.2 (xs (6 * i + 1))).1.toInt64) C.x C.b dL_law_894 rfl ?_
    refine lcE C (show (S_X6_release σ (xs (6 * i + 1))).2.1.toInt64 = (S_X7_release (S_X6_release σ (xs (6 * i + 1))).2.2 (xs (6 * i + 1))).1.toInt64 by rw [bq3]) dL_law_895 ?_
    refine lv_if_eq (tgt := 901) C.x C.b dL_law_896 (by decide) (fun _ => ?_) (fun q => absurd rfl q)
    refine lv_goto (tgt := 1410) C.x C.b dL_law_901 (by decide) ?_
    exact B (setO E (S_X6_release σ (xs (6 * i + 1))).2.1.toInt64) (S_X7_release (S_X6_release σ (xs (6 * i + 1))).2.2 (xs (6 * i + 1))).2 m' H locs _ _ ls C h bq5 (by omega) (by show cells + 10 + 0 + 0 ≤ _; omega) (by show slots + 60 + 0 + 0 ≤ _; omega) (lv_sub hl [2, 3, 4, 5, 6, 7] rfl)
  · obtain rfl := hp1 e0
    have eS : LST (S_X6_release σ (xs (6 * i + 1))) σ = σ := if_neg e0
    rw [eS] at Bq
    obtain ⟨bq1, -, bq2⟩ := Bq
    have bq5 := bq2 e0
    have okm : OK E σ := ok
    have C : CX p s m meth c cL_law RL 9 D E A := C
    have h : HW D E σ A s H locs := h
    have hl : lv_has ls 9 [(5, .int (nI (6 * i))), (4, .ref (ead E 36)), (3, .ref (ead E 35)), (2, .ref (ead E 15)), (1, .ref (ead E 0)), (0, .ref b)] := hl
    refine lv_istore (lv' := [(6, .int r), (5, .int (nI (6 * i))), (4, .ref (ead E 36)), (3, .ref (ead E 35)), (2, .ref (ead E 15)), (1, .ref (ead E 0)), (0, .ref b)]) C.x C.b dL_law_859 hl (by decide) rfl (fun ls hl => ?_)
    refine lv_aload_n C.x C.b dL_law_861 rfl (lv_at hl 4 rfl) ?_
    refine lv_aload_n C.x C.b dL_law_862 rfl (lv_at hl 6 rfl) ?_
    refine lv_iload C.x C.b dL_law_863 (lv_at hl 1 rfl) ?_
    refine lv_iconst (v := 1) C.x C.b dL_law_865 (by decide) ?_
    refine lv_iadd C.x C.b dL_law_866 ?_
    refine ldS (j := 6 * i + 1) C h hX hbl hbA hL (by omega) (nI_add (6 * i) 1) dL_law_867 ?_
    refine caVi (As := [.int (xs (6 * i + 1))]) (rest := []) (q0 := 15) (ci := 7) C h (M_X7_release l D _ _ okm (xs (6 * i + 1))) cw_L_125 m_im_X7_release m_se_X7_release rfl rfl ⟨Nat.le_of_ble_eq_true rfl, Nat.le_of_ble_eq_true rfl⟩ rfl rfl hl rfl (Nat.le_of_ble_eq_true rfl) dL_law_868 ⟨by show cells + 10 + 0 ≤ 601024; omega, by show slots + 60 + 0 ≤ 7293034; omega⟩ (fun r2 u H locs hw h => ?_)
    obtain ⟨rfl, rfl⟩ := hw
    refine lv_istore (lv' := [(7, .int (S_X7_release σ (xs (6 * i + 1))).1), (6, .int r), (5, .int (nI (6 * i))), (4, .ref (ead E 36)), (3, .ref (ead E 35)), (2, .ref (ead E 15)), (1, .ref (ead E 0)), (0, .ref b)]) C.x C.b dL_law_871 hl (by decide) rfl (fun ls hl => ?_)
    refine lv_aload_n C.x C.b dL_law_873 rfl (lv_at hl 5 rfl) ?_
    have okt : OK E (S_X7_release σ (xs (6 * i + 1))).2 := bq5.ok rfl
    refine caVi (As := []) (rest := []) (q0 := 15) (ci := 7) C h (M_X7_thrown l D _ _ okt) cw_L_88 m_im_X7_thrown m_se_X7_thrown rfl rfl ⟨Nat.le_of_ble_eq_true rfl, Nat.le_of_ble_eq_true rfl⟩ rfl rfl hl rfl (Nat.le_of_ble_eq_true rfl) dL_law_874 ⟨by show cells + 10 + 0 + 0 ≤ 601024; omega, by show slots + 60 + 0 + 0 ≤ 7293034; omega⟩ (fun r3 u H locs hw h => ?_)
    obtain ⟨rfl, rfl⟩ := hw
    refine lv_iload C.x C.b dL_law_877 (lv_at hl 1 rfl) ?_
    have ek : S_X7_thrown (S_X7_release σ (xs (6 * i + 1))).2 = r := bq1.trans hr
    refine lv_icmp_eq (tgt := 884) C.x C.b dL_law_879 (by decide) (fun _ => ?_) (fun q => absurd ek q)
    refine lv_iload C.x C.b dL_law_884 (lv_at hl 1 rfl) ?_
    refine lv_if_ne (tgt := 901) C.x C.b dL_law_886 (by decide) (fun _ => ?_) (fun q => absurd (hr.trans q) (wcd_ne e0))
    refine lv_goto (tgt := 1410) C.x C.b dL_law_901 (by decide) ?_
    exact B E (S_X7_release σ (xs (6 * i + 1))).2 mm H locs _ _ ls C h bq5 (by omega) (by show cells + 10 + 0 + 0 ≤ _; omega) (by show slots + 60 + 0 + 0 ≤ _; omega) (lv_sub hl [2, 3, 4, 5, 6, 7] rfl)
theorem cl_L_pass : CLd RL 126 yL_pass cL_pass 4 [(0, 9, 12, 13)] 3 := ⟨m_ml_L_126, m_cw_L_pass, m_ini_L, by decide +kernel, by decide +kernel, m_st_L_pass⟩
theorem B_pass {σ : St} {m n c : Nat} (hm : m + 500 < 300000) (h : RR σ σ m n c) (p1 : Int32) : BQ (LST (S_X6_pass σ p1) σ) m n c 2 9 n (S_X6_pass σ p1) (S_X7_pass (LST (S_X6_pass σ p1) σ) p1) :=
  BLx (A_pass hm (h.lst (fun f i q => F6_pass q σ p1)) p1) (fun f i q => F7_pass q _ p1)
theorem O_pass {σ : St} {m n c : Nat} (hm : m + 500 < 300000) {E1 : En} (h : RR σ σ m n c) (p1 : Int32) (e0 : (S_X6_pass σ p1).1 = 0) (hn : n = en E1) : OK E1 (S_X6_pass σ p1).2.2 :=
  OKx h (A_pass hm h p1) (fun f i q => F6_pass q σ p1) e0 hn (by omega)
theorem cw_L_128 : CWd RL 128 yX7_pass cX7_pass 3 (some .int) 1 := ⟨m_ml_L_128, m_co_X7_pass, m_ini_X7, by decide +kernel, by decide +kernel⟩
set_option maxRecDepth 100000 in
set_option maxHeartbeats 4000000 in
theorem case_pass {p : Program} {l : Launch} (hfl : l.stackTraces = false) {e : Env} {s : State} {m : MethodId} {args : Array Value} {below : List Frame} {meth : Method} {c : Code} {Q : State → Prop} {D : va_G} {A : Nat → Prop} {b L i : Nat} {xs : Nat → Int32} (hX : va_X b L xs s s.heap) (hbl : b < s.heap.size) (hbA : ¬ A b) (hL : L ≤ 3072) (hi : 6 * i + 5 < L) (B : BK p l e s m args below meth c Q D A b i) {E : En} {σ : St} {mm : Nat} {H : Heap} {locs : List Loc} {cells slots : Nat} {ls : Array Slot} (C : CX p s m meth c cL_law RL 9 D E A) (h : HW D E σ A s H locs) (hR : RR σ σ mm (en E) i) (hm : mm ≤ 500 * i) (hc : cells ≤ 64 + 10 * i) (hs : slots ≤ 512 + 60 * i) (hl : lv_has ls 9 (LV E b i)) : W p l e room_1 s m args below meth c H locs cells slots Q (F0 m 904 ls []) := by
  have ok := hR.ok rfl
  have hl : lv_has ls 9 [(5, .int (nI (6 * i))), (4, .ref (ead E 36)), (3, .ref (ead E 35)), (2, .ref (ead E 15)), (1, .ref (ead E 0)), (0, .ref b)] := hl
  refine lv_aload_n C.x C.b dL_law_904 rfl (lv_at hl 4 rfl) ?_
  refine lv_aload_n C.x C.b dL_law_905 rfl (lv_at hl 5 rfl) ?_
  refine lv_iload C.x C.b dL_law_906 (lv_at hl 0 rfl) ?_
  refine lv_iconst (v := 1) C.x C.b dL_law_908 (by decide) ?_
  refine lv_iadd C.x C.b dL_law_909 ?_
  refine ldS (j := 6 * i + 1) C h hX hbl hbA hL (by omega) (nI_add (6 * i) 1) dL_law_910 ?_
  refine lv_aload_n C.x C.b dL_law_911 rfl (lv_at hl 2 rfl) ?_
  refine caL (As := [.ref (ead E 0), .int (xs (6 * i + 1)), .ref (ead E 35)]) (rest := []) C h (M_L_pass l hfl D E σ ok (xs (6 * i + 1))) cl_L_pass rfl rfl ⟨Nat.le_of_ble_eq_true rfl, Nat.le_of_ble_eq_true rfl⟩ hl rfl (Nat.le_of_ble_eq_true rfl) dL_law_912 ⟨by show cells + 10 ≤ 601024; omega, by show slots + 60 ≤ 7293034; omega⟩ (fun r u H locs hp h => ?_)
  obtain ⟨hr, hp0, hp1⟩ := hp
  have Bq := B_pass (by omega) hR (xs (6 * i + 1))
  by_cases e0 : (S_X6_pass σ (xs (6 * i + 1))).1 = 0
  · obtain rfl := hp0 e0
    have eS : LST (S_X6_pass σ (xs (6 * i + 1))) σ = (S_X6_pass σ (xs (6 * i + 1))).2.2 := if_pos e0
    rw [eS] at Bq
    obtain ⟨bq1, bq2, -⟩ := Bq
    obtain ⟨bq3, m', bq4, bq5⟩ := bq2 e0
    have okm : OK (setO E (S_X6_pass σ (xs (6 * i + 1))).2.1.toInt64) (S_X6_pass σ (xs (6 * i + 1))).2.2 := O_pass (by omega) hR (xs (6 * i + 1)) e0 rfl
    have C : CX p s m meth c cL_law RL 9 D (setO E (S_X6_pass σ (xs (6 * i + 1))).2.1.toInt64) A := C
    have h : HW D (setO E (S_X6_pass σ (xs (6 * i + 1))).2.1.toInt64) (S_X6_pass σ (xs (6 * i + 1))).2.2 A s H locs := h
    have hl : lv_has ls 9 [(5, .int (nI (6 * i))), (4, .ref (ead (setO E (S_X6_pass σ (xs (6 * i + 1))).2.1.toInt64) 36)), (3, .ref (ead (setO E (S_X6_pass σ (xs (6 * i + 1))).2.1.toInt64) 35)), (2, .ref (ead (setO E (S_X6_pass σ (xs (6 * i + 1))).2.1.toInt64) 15)), (1, .ref (ead (setO E (S_X6_pass σ (xs (6 * i + 1))).2.1.toInt64) 0)), (0, .ref b)] := hl
    refine lv_istore (lv' := [(6, .int r), (5, .int (nI (6 * i))), (4, .ref (ead (setO E (S_X6_pass σ (xs (6 * i + 1))).2.1.toInt64) 36)), (3, .ref (ead (setO E (S_X6_pass σ (xs (6 * i + 1))).2.1.toInt64) 35)), (2, .ref (ead (setO E (S_X6_pass σ (xs (6 * i + 1))).2.1.toInt64) 15)), (1, .ref (ead (setO E (S_X6_pass σ (xs (6 * i + 1))).2.1.toInt64) 0)), (0, .ref b)]) C.x C.b dL_law_915 hl (by decide) rfl (fun ls hl => ?_)
    refine lv_aload_n C.x C.b dL_law_917 rfl (lv_at hl 4 rfl) ?_
    refine lv_aload_n C.x C.b dL_law_918 rfl (lv_at hl 6 rfl) ?_
    refine lv_iload C.x C.b dL_law_919 (lv_at hl 1 rfl) ?_
    refine lv_iconst (v := 1) C.x C.b dL_law_921 (by decide) ?_
    refine lv_iadd C.x C.b dL_law_922 ?_
    refine ldS (j := 6 * i + 1) C h hX hbl hbA hL (by omega) (nI_add (6 * i) 1) dL_law_923 ?_
    refine caVi (As := [.int (xs (6 * i + 1))]) (rest := []) (q0 := 15) (ci := 7) C h (M_X7_pass l D _ _ okm (xs (6 * i + 1))) cw_L_128 m_im_X7_pass m_se_X7_pass rfl rfl ⟨Nat.le_of_ble_eq_true rfl, Nat.le_of_ble_eq_true rfl⟩ rfl rfl hl rfl (Nat.le_of_ble_eq_true rfl) dL_law_924 ⟨by show cells + 10 + 0 ≤ 601024; omega, by show slots + 60 + 0 ≤ 7293034; omega⟩ (fun r2 u H locs hw h => ?_)
    obtain ⟨rfl, rfl⟩ := hw
    refine lv_istore (lv' := [(7, .int (S_X7_pass (S_X6_pass σ (xs (6 * i + 1))).2.2 (xs (6 * i + 1))).1), (6, .int r), (5, .int (nI (6 * i))), (4, .ref (ead (setO E (S_X6_pass σ (xs (6 * i + 1))).2.1.toInt64) 36)), (3, .ref (ead (setO E (S_X6_pass σ (xs (6 * i + 1))).2.1.toInt64) 35)), (2, .ref (ead (setO E (S_X6_pass σ (xs (6 * i + 1))).2.1.toInt64) 15)), (1, .ref (ead (setO E (S_X6_pass σ (xs (6 * i + 1))).2.1.toInt64) 0)), (0, .ref b)]) C.x C.b dL_law_927 hl (by decide) rfl (fun ls hl => ?_)
    refine lv_aload_n C.x C.b dL_law_929 rfl (lv_at hl 5 rfl) ?_
    have okt : OK (setO E (S_X6_pass σ (xs (6 * i + 1))).2.1.toInt64) (S_X7_pass (S_X6_pass σ (xs (6 * i + 1))).2.2 (xs (6 * i + 1))).2 := bq5.ok rfl
    refine caVi (As := []) (rest := []) (q0 := 15) (ci := 7) C h (M_X7_thrown l D _ _ okt) cw_L_88 m_im_X7_thrown m_se_X7_thrown rfl rfl ⟨Nat.le_of_ble_eq_true rfl, Nat.le_of_ble_eq_true rfl⟩ rfl rfl hl rfl (Nat.le_of_ble_eq_true rfl) dL_law_930 ⟨by show cells + 10 + 0 + 0 ≤ 601024; omega, by show slots + 60 + 0 + 0 ≤ 7293034; omega⟩ (fun r3 u H locs hw h => ?_)
    obtain ⟨rfl, rfl⟩ := hw
    refine lv_iload C.x C.b dL_law_933 (lv_at hl 1 rfl) ?_
    have ek : S_X7_thrown (S_X7_pass (S_X6_pass σ (xs (6 * i + 1))).2.2 (xs (6 * i + 1))).2 = r := bq1.trans hr
    refine lv_icmp_eq (tgt := 940) C.x C.b dL_law_935 (by decide) (fun _ => ?_) (fun q => absurd ek q)
    refine lv_iload C.x C.b dL_law_940 (lv_at hl 1 rfl) ?_
    have er : r = 0 := by rw [← hr, e0]; rfl
    refine lv_if_ne (tgt := 957) C.x C.b dL_law_942 (by decide) (fun q => absurd er q) (fun _ => ?_)
    refine lv_aload_n C.x C.b dL_law_945 rfl (lv_at hl 4 rfl) ?_
    refine lv_iconst (v := 0) C.x C.b dL_law_946 (by decide) ?_
    refine ldL C h dL_law_947 ?_
    refine lv_iload C.x C.b dL_law_948 (lv_at hl 0 rfl) ?_
    refine lv_i2l (v := (S_X7_pass (S_X6_pass σ (xs (6 * i + 1))).2.2 (xs (6 * i + 1))).1.toInt64) C.x C.b dL_law_950 rfl ?_
    refine lcE C (show (S_X6_pass σ (xs (6 * i + 1))).2.1.toInt64 = (S_X7_pass (S_X6_pass σ (xs (6 * i + 1))).2.2 (xs (6 * i + 1))).1.toInt64 by rw [bq3]) dL_law_951 ?_
    refine lv_if_eq (tgt := 957) C.x C.b dL_law_952 (by decide) (fun _ => ?_) (fun q => absurd rfl q)
    refine lv_goto (tgt := 1410) C.x C.b dL_law_957 (by decide) ?_
    exact B (setO E (S_X6_pass σ (xs (6 * i + 1))).2.1.toInt64) (S_X7_pass (S_X6_pass σ (xs (6 * i + 1))).2.2 (xs (6 * i + 1))).2 m' H locs _ _ ls C h bq5 (by omega) (by show cells + 10 + 0 + 0 ≤ _; omega) (by show slots + 60 + 0 + 0 ≤ _; omega) (lv_sub hl [2, 3, 4, 5, 6, 7] rfl)
  · obtain rfl := hp1 e0
    have eS : LST (S_X6_pass σ (xs (6 * i + 1))) σ = σ := if_neg e0
    rw [eS] at Bq
    obtain ⟨bq1, -, bq2⟩ := Bq
    have bq5 := bq2 e0
    have okm : OK E σ := ok
    have C : CX p s m meth c cL_law RL 9 D E A := C
    have h : HW D E σ A s H locs := h
    have hl : lv_has ls 9 [(5, .int (nI (6 * i))), (4, .ref (ead E 36)), (3, .ref (ead E 35)), (2, .ref (ead E 15)), (1, .ref (ead E 0)), (0, .ref b)] := hl
    refine lv_istore (lv' := [(6, .int r), (5, .int (nI (6 * i))), (4, .ref (ead E 36)), (3, .ref (ead E 35)), (2, .ref (ead E 15)), (1, .ref (ead E 0)), (0, .ref b)]) C.x C.b dL_law_915 hl (by decide) rfl (fun ls hl => ?_)
    refine lv_aload_n C.x C.b dL_law_917 rfl (lv_at hl 4 rfl) ?_
    refine lv_aload_n C.x C.b dL_law_918 rfl (lv_at hl 6 rfl) ?_
    refine lv_iload C.x C.b dL_law_919 (lv_at hl 1 rfl) ?_
    refine lv_iconst (v := 1) C.x C.b dL_law_921 (by decide) ?_
    refine lv_iadd C.x C.b dL_law_922 ?_
    refine ldS (j := 6 * i + 1) C h hX hbl hbA hL (by omega) (nI_add (6 * i) 1) dL_law_923 ?_
    refine caVi (As := [.int (xs (6 * i + 1))]) (rest := []) (q0 := 15) (ci := 7) C h (M_X7_pass l D _ _ okm (xs (6 * i + 1))) cw_L_128 m_im_X7_pass m_se_X7_pass rfl rfl ⟨Nat.le_of_ble_eq_true rfl, Nat.le_of_ble_eq_true rfl⟩ rfl rfl hl rfl (Nat.le_of_ble_eq_true rfl) dL_law_924 ⟨by show cells + 10 + 0 ≤ 601024; omega, by show slots + 60 + 0 ≤ 7293034; omega⟩ (fun r2 u H locs hw h => ?_)
    obtain ⟨rfl, rfl⟩ := hw
    refine lv_istore (lv' := [(7, .int (S_X7_pass σ (xs (6 * i + 1))).1), (6, .int r), (5, .int (nI (6 * i))), (4, .ref (ead E 36)), (3, .ref (ead E 35)), (2, .ref (ead E 15)), (1, .ref (ead E 0)), (0, .ref b)]) C.x C.b dL_law_927 hl (by decide) rfl (fun ls hl => ?_)
    refine lv_aload_n C.x C.b dL_law_929 rfl (lv_at hl 5 rfl) ?_
    have okt : OK E (S_X7_pass σ (xs (6 * i + 1))).2 := bq5.ok rfl
    refine caVi (As := []) (rest := []) (q0 := 15) (ci := 7) C h (M_X7_thrown l D _ _ okt) cw_L_88 m_im_X7_thrown m_se_X7_thrown rfl rfl ⟨Nat.le_of_ble_eq_true rfl, Nat.le_of_ble_eq_true rfl⟩ rfl rfl hl rfl (Nat.le_of_ble_eq_true rfl) dL_law_930 ⟨by show cells + 10 + 0 + 0 ≤ 601024; omega, by show slots + 60 + 0 + 0 ≤ 7293034; omega⟩ (fun r3 u H locs hw h => ?_)
    obtain ⟨rfl, rfl⟩ := hw
    refine lv_iload C.x C.b dL_law_933 (lv_at hl 1 rfl) ?_
    have ek : S_X7_thrown (S_X7_pass σ (xs (6 * i + 1))).2 = r := bq1.trans hr
    refine lv_icmp_eq (tgt := 940) C.x C.b dL_law_935 (by decide) (fun _ => ?_) (fun q => absurd ek q)
    refine lv_iload C.x C.b dL_law_940 (lv_at hl 1 rfl) ?_
    refine lv_if_ne (tgt := 957) C.x C.b dL_law_942 (by decide) (fun _ => ?_) (fun q => absurd (hr.trans q) (wcd_ne e0))
    refine lv_goto (tgt := 1410) C.x C.b dL_law_957 (by decide) ?_
    exact B E (S_X7_pass σ (xs (6 * i + 1))).2 mm H locs _ _ ls C h bq5 (by omega) (by show cells + 10 + 0 + 0 ≤ _; omega) (by show slots + 60 + 0 + 0 ≤ _; omega) (lv_sub hl [2, 3, 4, 5, 6, 7] rfl)
theorem cl_L_code : CLd RL 129 yL_code cL_code 4 [(0, 9, 12, 19)] 3 := ⟨m_ml_L_129, m_cw_L_code, m_ini_L, by decide +kernel, by decide +kernel, m_st_L_code⟩
theorem B_code {σ : St} {m n c : Nat} (h : RR σ σ m n c) (p1 : Int32) : BQ (LST (S_X6_code σ p1) σ) m n c 1 9 n (S_X6_code σ p1) (S_X7_code (LST (S_X6_code σ p1) σ) p1) :=
  BLx (A_code (h.lst (fun f i q => F6_code q σ p1)) p1) (fun f i q => F7_code q _ p1)
theorem O_code {σ : St} {m n c : Nat} {E1 : En} (h : RR σ σ m n c) (p1 : Int32) (e0 : (S_X6_code σ p1).1 = 0) (hn : n = en E1) : OK E1 (S_X6_code σ p1).2.2 :=
  OKx h (A_code h p1) (fun f i q => F6_code q σ p1) e0 hn (by omega)
theorem cw_L_131 : CWd RL 131 yX7_code cX7_code 2 (some .int) 1 := ⟨m_ml_L_131, m_co_X7_code, m_ini_X7, by decide +kernel, by decide +kernel⟩
set_option maxRecDepth 100000 in
set_option maxHeartbeats 4000000 in
theorem case_code {p : Program} {l : Launch} (hfl : l.stackTraces = false) {e : Env} {s : State} {m : MethodId} {args : Array Value} {below : List Frame} {meth : Method} {c : Code} {Q : State → Prop} {D : va_G} {A : Nat → Prop} {b L i : Nat} {xs : Nat → Int32} (hX : va_X b L xs s s.heap) (hbl : b < s.heap.size) (hbA : ¬ A b) (hL : L ≤ 3072) (hi : 6 * i + 5 < L) (B : BK p l e s m args below meth c Q D A b i) {E : En} {σ : St} {mm : Nat} {H : Heap} {locs : List Loc} {cells slots : Nat} {ls : Array Slot} (C : CX p s m meth c cL_law RL 9 D E A) (h : HW D E σ A s H locs) (hR : RR σ σ mm (en E) i) (hm : mm ≤ 500 * i) (hc : cells ≤ 64 + 10 * i) (hs : slots ≤ 512 + 60 * i) (hl : lv_has ls 9 (LV E b i)) : W p l e room_1 s m args below meth c H locs cells slots Q (F0 m 960 ls []) := by
  have ok := hR.ok rfl
  have hl : lv_has ls 9 [(5, .int (nI (6 * i))), (4, .ref (ead E 36)), (3, .ref (ead E 35)), (2, .ref (ead E 15)), (1, .ref (ead E 0)), (0, .ref b)] := hl
  refine lv_aload_n C.x C.b dL_law_960 rfl (lv_at hl 4 rfl) ?_
  refine lv_aload_n C.x C.b dL_law_961 rfl (lv_at hl 5 rfl) ?_
  refine lv_iload C.x C.b dL_law_962 (lv_at hl 0 rfl) ?_
  refine lv_iconst (v := 1) C.x C.b dL_law_964 (by decide) ?_
  refine lv_iadd C.x C.b dL_law_965 ?_
  refine ldS (j := 6 * i + 1) C h hX hbl hbA hL (by omega) (nI_add (6 * i) 1) dL_law_966 ?_
  refine lv_aload_n C.x C.b dL_law_967 rfl (lv_at hl 2 rfl) ?_
  refine caL (As := [.ref (ead E 0), .int (xs (6 * i + 1)), .ref (ead E 35)]) (rest := []) C h (M_L_code l hfl D E σ ok (xs (6 * i + 1))) cl_L_code rfl rfl ⟨Nat.le_of_ble_eq_true rfl, Nat.le_of_ble_eq_true rfl⟩ hl rfl (Nat.le_of_ble_eq_true rfl) dL_law_968 ⟨by show cells + 10 ≤ 601024; omega, by show slots + 60 ≤ 7293034; omega⟩ (fun r u H locs hp h => ?_)
  obtain ⟨hr, hp0, hp1⟩ := hp
  have Bq := B_code hR (xs (6 * i + 1))
  by_cases e0 : (S_X6_code σ (xs (6 * i + 1))).1 = 0
  · obtain rfl := hp0 e0
    have eS : LST (S_X6_code σ (xs (6 * i + 1))) σ = (S_X6_code σ (xs (6 * i + 1))).2.2 := if_pos e0
    rw [eS] at Bq
    obtain ⟨bq1, bq2, -⟩ := Bq
    obtain ⟨bq3, m', bq4, bq5⟩ := bq2 e0
    have okm : OK (setO E (S_X6_code σ (xs (6 * i + 1))).2.1.toInt64) (S_X6_code σ (xs (6 * i + 1))).2.2 := O_code hR (xs (6 * i + 1)) e0 rfl
    have C : CX p s m meth c cL_law RL 9 D (setO E (S_X6_code σ (xs (6 * i + 1))).2.1.toInt64) A := C
    have h : HW D (setO E (S_X6_code σ (xs (6 * i + 1))).2.1.toInt64) (S_X6_code σ (xs (6 * i + 1))).2.2 A s H locs := h
    have hl : lv_has ls 9 [(5, .int (nI (6 * i))), (4, .ref (ead (setO E (S_X6_code σ (xs (6 * i + 1))).2.1.toInt64) 36)), (3, .ref (ead (setO E (S_X6_code σ (xs (6 * i + 1))).2.1.toInt64) 35)), (2, .ref (ead (setO E (S_X6_code σ (xs (6 * i + 1))).2.1.toInt64) 15)), (1, .ref (ead (setO E (S_X6_code σ (xs (6 * i + 1))).2.1.toInt64) 0)), (0, .ref b)] := hl
    refine lv_istore (lv' := [(6, .int r), (5, .int (nI (6 * i))), (4, .ref (ead (setO E (S_X6_code σ (xs (6 * i + 1))).2.1.toInt64) 36)), (3, .ref (ead (setO E (S_X6_code σ (xs (6 * i + 1))).2.1.toInt64) 35)), (2, .ref (ead (setO E (S_X6_code σ (xs (6 * i + 1))).2.1.toInt64) 15)), (1, .ref (ead (setO E (S_X6_code σ (xs (6 * i + 1))).2.1.toInt64) 0)), (0, .ref b)]) C.x C.b dL_law_971 hl (by decide) rfl (fun ls hl => ?_)
    refine lv_aload_n C.x C.b dL_law_973 rfl (lv_at hl 4 rfl) ?_
    refine lv_aload_n C.x C.b dL_law_974 rfl (lv_at hl 6 rfl) ?_
    refine lv_iload C.x C.b dL_law_975 (lv_at hl 1 rfl) ?_
    refine lv_iconst (v := 1) C.x C.b dL_law_977 (by decide) ?_
    refine lv_iadd C.x C.b dL_law_978 ?_
    refine ldS (j := 6 * i + 1) C h hX hbl hbA hL (by omega) (nI_add (6 * i) 1) dL_law_979 ?_
    refine caVi (As := [.int (xs (6 * i + 1))]) (rest := []) (q0 := 15) (ci := 7) C h (M_X7_code l D _ _ okm (xs (6 * i + 1))) cw_L_131 m_im_X7_code m_se_X7_code rfl rfl ⟨Nat.le_of_ble_eq_true rfl, Nat.le_of_ble_eq_true rfl⟩ rfl rfl hl rfl (Nat.le_of_ble_eq_true rfl) dL_law_980 ⟨by show cells + 10 + 0 ≤ 601024; omega, by show slots + 60 + 0 ≤ 7293034; omega⟩ (fun r2 u H locs hw h => ?_)
    obtain ⟨rfl, rfl⟩ := hw
    refine lv_istore (lv' := [(7, .int (S_X7_code (S_X6_code σ (xs (6 * i + 1))).2.2 (xs (6 * i + 1))).1), (6, .int r), (5, .int (nI (6 * i))), (4, .ref (ead (setO E (S_X6_code σ (xs (6 * i + 1))).2.1.toInt64) 36)), (3, .ref (ead (setO E (S_X6_code σ (xs (6 * i + 1))).2.1.toInt64) 35)), (2, .ref (ead (setO E (S_X6_code σ (xs (6 * i + 1))).2.1.toInt64) 15)), (1, .ref (ead (setO E (S_X6_code σ (xs (6 * i + 1))).2.1.toInt64) 0)), (0, .ref b)]) C.x C.b dL_law_983 hl (by decide) rfl (fun ls hl => ?_)
    refine lv_aload_n C.x C.b dL_law_985 rfl (lv_at hl 5 rfl) ?_
    have okt : OK (setO E (S_X6_code σ (xs (6 * i + 1))).2.1.toInt64) (S_X7_code (S_X6_code σ (xs (6 * i + 1))).2.2 (xs (6 * i + 1))).2 := bq5.ok rfl
    refine caVi (As := []) (rest := []) (q0 := 15) (ci := 7) C h (M_X7_thrown l D _ _ okt) cw_L_88 m_im_X7_thrown m_se_X7_thrown rfl rfl ⟨Nat.le_of_ble_eq_true rfl, Nat.le_of_ble_eq_true rfl⟩ rfl rfl hl rfl (Nat.le_of_ble_eq_true rfl) dL_law_986 ⟨by show cells + 10 + 0 + 0 ≤ 601024; omega, by show slots + 60 + 0 + 0 ≤ 7293034; omega⟩ (fun r3 u H locs hw h => ?_)
    obtain ⟨rfl, rfl⟩ := hw
    refine lv_iload C.x C.b dL_law_989 (lv_at hl 1 rfl) ?_
    have ek : S_X7_thrown (S_X7_code (S_X6_code σ (xs (6 * i + 1))).2.2 (xs (6 * i + 1))).2 = r := bq1.trans hr
    refine lv_icmp_eq (tgt := 996) C.x C.b dL_law_991 (by decide) (fun _ => ?_) (fun q => absurd ek q)
    refine lv_iload C.x C.b dL_law_996 (lv_at hl 1 rfl) ?_
    have er : r = 0 := by rw [← hr, e0]; rfl
    refine lv_if_ne (tgt := 1013) C.x C.b dL_law_998 (by decide) (fun q => absurd er q) (fun _ => ?_)
    refine lv_aload_n C.x C.b dL_law_1001 rfl (lv_at hl 4 rfl) ?_
    refine lv_iconst (v := 0) C.x C.b dL_law_1002 (by decide) ?_
    refine ldL C h dL_law_1003 ?_
    refine lv_iload C.x C.b dL_law_1004 (lv_at hl 0 rfl) ?_
    refine lv_i2l (v := (S_X7_code (S_X6_code σ (xs (6 * i + 1))).2.2 (xs (6 * i + 1))).1.toInt64) C.x C.b dL_law_1006 rfl ?_
    refine lcE C (show (S_X6_code σ (xs (6 * i + 1))).2.1.toInt64 = (S_X7_code (S_X6_code σ (xs (6 * i + 1))).2.2 (xs (6 * i + 1))).1.toInt64 by rw [bq3]) dL_law_1007 ?_
    refine lv_if_eq (tgt := 1013) C.x C.b dL_law_1008 (by decide) (fun _ => ?_) (fun q => absurd rfl q)
    refine lv_goto (tgt := 1410) C.x C.b dL_law_1013 (by decide) ?_
    exact B (setO E (S_X6_code σ (xs (6 * i + 1))).2.1.toInt64) (S_X7_code (S_X6_code σ (xs (6 * i + 1))).2.2 (xs (6 * i + 1))).2 m' H locs _ _ ls C h bq5 (by omega) (by show cells + 10 + 0 + 0 ≤ _; omega) (by show slots + 60 + 0 + 0 ≤ _; omega) (lv_sub hl [2, 3, 4, 5, 6, 7] rfl)
  · obtain rfl := hp1 e0
    have eS : LST (S_X6_code σ (xs (6 * i + 1))) σ = σ := if_neg e0
    rw [eS] at Bq
    obtain ⟨bq1, -, bq2⟩ := Bq
    have bq5 := bq2 e0
    have okm : OK E σ := ok
    have C : CX p s m meth c cL_law RL 9 D E A := C
    have h : HW D E σ A s H locs := h
    have hl : lv_has ls 9 [(5, .int (nI (6 * i))), (4, .ref (ead E 36)), (3, .ref (ead E 35)), (2, .ref (ead E 15)), (1, .ref (ead E 0)), (0, .ref b)] := hl
    refine lv_istore (lv' := [(6, .int r), (5, .int (nI (6 * i))), (4, .ref (ead E 36)), (3, .ref (ead E 35)), (2, .ref (ead E 15)), (1, .ref (ead E 0)), (0, .ref b)]) C.x C.b dL_law_971 hl (by decide) rfl (fun ls hl => ?_)
    refine lv_aload_n C.x C.b dL_law_973 rfl (lv_at hl 4 rfl) ?_
    refine lv_aload_n C.x C.b dL_law_974 rfl (lv_at hl 6 rfl) ?_
    refine lv_iload C.x C.b dL_law_975 (lv_at hl 1 rfl) ?_
    refine lv_iconst (v := 1) C.x C.b dL_law_977 (by decide) ?_
    refine lv_iadd C.x C.b dL_law_978 ?_
    refine ldS (j := 6 * i + 1) C h hX hbl hbA hL (by omega) (nI_add (6 * i) 1) dL_law_979 ?_
    refine caVi (As := [.int (xs (6 * i + 1))]) (rest := []) (q0 := 15) (ci := 7) C h (M_X7_code l D _ _ okm (xs (6 * i + 1))) cw_L_131 m_im_X7_code m_se_X7_code rfl rfl ⟨Nat.le_of_ble_eq_true rfl, Nat.le_of_ble_eq_true rfl⟩ rfl rfl hl rfl (Nat.le_of_ble_eq_true rfl) dL_law_980 ⟨by show cells + 10 + 0 ≤ 601024; omega, by show slots + 60 + 0 ≤ 7293034; omega⟩ (fun r2 u H locs hw h => ?_)
    obtain ⟨rfl, rfl⟩ := hw
    refine lv_istore (lv' := [(7, .int (S_X7_code σ (xs (6 * i + 1))).1), (6, .int r), (5, .int (nI (6 * i))), (4, .ref (ead E 36)), (3, .ref (ead E 35)), (2, .ref (ead E 15)), (1, .ref (ead E 0)), (0, .ref b)]) C.x C.b dL_law_983 hl (by decide) rfl (fun ls hl => ?_)
    refine lv_aload_n C.x C.b dL_law_985 rfl (lv_at hl 5 rfl) ?_
    have okt : OK E (S_X7_code σ (xs (6 * i + 1))).2 := bq5.ok rfl
    refine caVi (As := []) (rest := []) (q0 := 15) (ci := 7) C h (M_X7_thrown l D _ _ okt) cw_L_88 m_im_X7_thrown m_se_X7_thrown rfl rfl ⟨Nat.le_of_ble_eq_true rfl, Nat.le_of_ble_eq_true rfl⟩ rfl rfl hl rfl (Nat.le_of_ble_eq_true rfl) dL_law_986 ⟨by show cells + 10 + 0 + 0 ≤ 601024; omega, by show slots + 60 + 0 + 0 ≤ 7293034; omega⟩ (fun r3 u H locs hw h => ?_)
    obtain ⟨rfl, rfl⟩ := hw
    refine lv_iload C.x C.b dL_law_989 (lv_at hl 1 rfl) ?_
    have ek : S_X7_thrown (S_X7_code σ (xs (6 * i + 1))).2 = r := bq1.trans hr
    refine lv_icmp_eq (tgt := 996) C.x C.b dL_law_991 (by decide) (fun _ => ?_) (fun q => absurd ek q)
    refine lv_iload C.x C.b dL_law_996 (lv_at hl 1 rfl) ?_
    refine lv_if_ne (tgt := 1013) C.x C.b dL_law_998 (by decide) (fun _ => ?_) (fun q => absurd (hr.trans q) (wcd_ne e0))
    refine lv_goto (tgt := 1410) C.x C.b dL_law_1013 (by decide) ?_
    exact B E (S_X7_code σ (xs (6 * i + 1))).2 mm H locs _ _ ls C h bq5 (by omega) (by show cells + 10 + 0 + 0 ≤ _; omega) (by show slots + 60 + 0 + 0 ≤ _; omega) (lv_sub hl [2, 3, 4, 5, 6, 7] rfl)
theorem cl_L_thirdOf : CLd RL 132 yL_thirdOf cL_thirdOf 5 [(0, 10, 13, 19), (0, 10, 17, 13)] 4 := ⟨m_ml_L_132, m_cw_L_thirdOf, m_ini_L, by decide +kernel, by decide +kernel, m_st_L_thirdOf⟩
theorem B_thirdOf {σ : St} {m n c : Nat} (h : RR σ σ m n c) (p1 p2 : Int32) : BQ (LST (S_X6_thirdOf σ p1 p2) σ) m n c 1 2 n (S_X6_thirdOf σ p1 p2) (S_X7_thirdOf (LST (S_X6_thirdOf σ p1 p2) σ) p1 p2) :=
  BLx (A_thirdOf (h.lst (fun f i q => F6_thirdOf q σ p1 p2)) p1 p2) (fun f i q => F7_thirdOf q _ p1 p2)
theorem O_thirdOf {σ : St} {m n c : Nat} {E1 : En} (h : RR σ σ m n c) (p1 p2 : Int32) (e0 : (S_X6_thirdOf σ p1 p2).1 = 0) (hn : n = en E1) : OK E1 (S_X6_thirdOf σ p1 p2).2.2 :=
  OKx h (A_thirdOf h p1 p2) (fun f i q => F6_thirdOf q σ p1 p2) e0 hn (by omega)
theorem cw_L_134 : CWd RL 134 yX7_thirdOf cX7_thirdOf 3 (some .int) 2 := ⟨m_ml_L_134, m_co_X7_thirdOf, m_ini_X7, by decide +kernel, by decide +kernel⟩
set_option maxRecDepth 100000 in
set_option maxHeartbeats 4000000 in
theorem case_thirdOf {p : Program} {l : Launch} (hfl : l.stackTraces = false) {e : Env} {s : State} {m : MethodId} {args : Array Value} {below : List Frame} {meth : Method} {c : Code} {Q : State → Prop} {D : va_G} {A : Nat → Prop} {b L i : Nat} {xs : Nat → Int32} (hX : va_X b L xs s s.heap) (hbl : b < s.heap.size) (hbA : ¬ A b) (hL : L ≤ 3072) (hi : 6 * i + 5 < L) (B : BK p l e s m args below meth c Q D A b i) {E : En} {σ : St} {mm : Nat} {H : Heap} {locs : List Loc} {cells slots : Nat} {ls : Array Slot} (C : CX p s m meth c cL_law RL 9 D E A) (h : HW D E σ A s H locs) (hR : RR σ σ mm (en E) i) (hm : mm ≤ 500 * i) (hc : cells ≤ 64 + 10 * i) (hs : slots ≤ 512 + 60 * i) (hl : lv_has ls 9 (LV E b i)) : W p l e room_1 s m args below meth c H locs cells slots Q (F0 m 1016 ls []) := by
  have ok := hR.ok rfl
  have hl : lv_has ls 9 [(5, .int (nI (6 * i))), (4, .ref (ead E 36)), (3, .ref (ead E 35)), (2, .ref (ead E 15)), (1, .ref (ead E 0)), (0, .ref b)] := hl
  refine lv_aload_n C.x C.b dL_law_1016 rfl (lv_at hl 4 rfl) ?_
  refine lv_aload_n C.x C.b dL_law_1017 rfl (lv_at hl 5 rfl) ?_
  refine lv_iload C.x C.b dL_law_1018 (lv_at hl 0 rfl) ?_
  refine lv_iconst (v := 1) C.x C.b dL_law_1020 (by decide) ?_
  refine lv_iadd C.x C.b dL_law_1021 ?_
  refine ldS (j := 6 * i + 1) C h hX hbl hbA hL (by omega) (nI_add (6 * i) 1) dL_law_1022 ?_
  refine lv_aload_n C.x C.b dL_law_1023 rfl (lv_at hl 5 rfl) ?_
  refine lv_iload C.x C.b dL_law_1024 (lv_at hl 0 rfl) ?_
  refine lv_iconst (v := 2) C.x C.b dL_law_1026 (by decide) ?_
  refine lv_iadd C.x C.b dL_law_1027 ?_
  refine ldS (j := 6 * i + 2) C h hX hbl hbA hL (by omega) (nI_add (6 * i) 2) dL_law_1028 ?_
  refine lv_aload_n C.x C.b dL_law_1029 rfl (lv_at hl 2 rfl) ?_
  refine caL (As := [.ref (ead E 0), .int (xs (6 * i + 1)), .int (xs (6 * i + 2)), .ref (ead E 35)]) (rest := []) C h (M_L_thirdOf l hfl D E σ ok (xs (6 * i + 1)) (xs (6 * i + 2))) cl_L_thirdOf rfl rfl ⟨Nat.le_of_ble_eq_true rfl, Nat.le_of_ble_eq_true rfl⟩ hl rfl (Nat.le_of_ble_eq_true rfl) dL_law_1030 ⟨by show cells + 10 ≤ 601024; omega, by show slots + 60 ≤ 7293034; omega⟩ (fun r u H locs hp h => ?_)
  obtain ⟨hr, hp0, hp1⟩ := hp
  have Bq := B_thirdOf hR (xs (6 * i + 1)) (xs (6 * i + 2))
  by_cases e0 : (S_X6_thirdOf σ (xs (6 * i + 1)) (xs (6 * i + 2))).1 = 0
  · obtain rfl := hp0 e0
    have eS : LST (S_X6_thirdOf σ (xs (6 * i + 1)) (xs (6 * i + 2))) σ = (S_X6_thirdOf σ (xs (6 * i + 1)) (xs (6 * i + 2))).2.2 := if_pos e0
    rw [eS] at Bq
    obtain ⟨bq1, bq2, -⟩ := Bq
    obtain ⟨bq3, m', bq4, bq5⟩ := bq2 e0
    have okm : OK (setO E (S_X6_thirdOf σ (xs (6 * i + 1)) (xs (6 * i + 2))).2.1.toInt64) (S_X6_thirdOf σ (xs (6 * i + 1)) (xs (6 * i + 2))).2.2 := O_thirdOf hR (xs (6 * i + 1)) (xs (6 * i + 2)) e0 rfl
    have C : CX p s m meth c cL_law RL 9 D (setO E (S_X6_thirdOf σ (xs (6 * i + 1)) (xs (6 * i + 2))).2.1.toInt64) A := C
    have h : HW D (setO E (S_X6_thirdOf σ (xs (6 * i + 1)) (xs (6 * i + 2))).2.1.toInt64) (S_X6_thirdOf σ (xs (6 * i + 1)) (xs (6 * i + 2))).2.2 A s H locs := h
    have hl : lv_has ls 9 [(5, .int (nI (6 * i))), (4, .ref (ead (setO E (S_X6_thirdOf σ (xs (6 * i + 1)) (xs (6 * i + 2))).2.1.toInt64) 36)), (3, .ref (ead (setO E (S_X6_thirdOf σ (xs (6 * i + 1)) (xs (6 * i + 2))).2.1.toInt64) 35)), (2, .ref (ead (setO E (S_X6_thirdOf σ (xs (6 * i + 1)) (xs (6 * i + 2))).2.1.toInt64) 15)), (1, .ref (ead (setO E (S_X6_thirdOf σ (xs (6 * i + 1)) (xs (6 * i + 2))).2.1.toInt64) 0)), (0, .ref b)] := hl
    refine lv_istore (lv' := [(6, .int r), (5, .int (nI (6 * i))), (4, .ref (ead (setO E (S_X6_thirdOf σ (xs (6 * i + 1)) (xs (6 * i + 2))).2.1.toInt64) 36)), (3, .ref (ead (setO E (S_X6_thirdOf σ (xs (6 * i + 1)) (xs (6 * i + 2))).2.1.toInt64) 35)), (2, .ref (ead (setO E (S_X6_thirdOf σ (xs (6 * i + 1)) (xs (6 * i + 2))).2.1.toInt64) 15)), (1, .ref (ead (setO E (S_X6_thirdOf σ (xs (6 * i + 1)) (xs (6 * i + 2))).2.1.toInt64) 0)), (0, .ref b)]) C.x C.b dL_law_1033 hl (by decide) rfl (fun ls hl => ?_)
    refine lv_aload_n C.x C.b dL_law_1035 rfl (lv_at hl 4 rfl) ?_
    refine lv_aload_n C.x C.b dL_law_1036 rfl (lv_at hl 6 rfl) ?_
    refine lv_iload C.x C.b dL_law_1037 (lv_at hl 1 rfl) ?_
    refine lv_iconst (v := 1) C.x C.b dL_law_1039 (by decide) ?_
    refine lv_iadd C.x C.b dL_law_1040 ?_
    refine ldS (j := 6 * i + 1) C h hX hbl hbA hL (by omega) (nI_add (6 * i) 1) dL_law_1041 ?_
    refine lv_aload_n C.x C.b dL_law_1042 rfl (lv_at hl 6 rfl) ?_
    refine lv_iload C.x C.b dL_law_1043 (lv_at hl 1 rfl) ?_
    refine lv_iconst (v := 2) C.x C.b dL_law_1045 (by decide) ?_
    refine lv_iadd C.x C.b dL_law_1046 ?_
    refine ldS (j := 6 * i + 2) C h hX hbl hbA hL (by omega) (nI_add (6 * i) 2) dL_law_1047 ?_
    refine caVi (As := [.int (xs (6 * i + 1)), .int (xs (6 * i + 2))]) (rest := []) (q0 := 15) (ci := 7) C h (M_X7_thirdOf l D _ _ okm (xs (6 * i + 1)) (xs (6 * i + 2))) cw_L_134 m_im_X7_thirdOf m_se_X7_thirdOf rfl rfl ⟨Nat.le_of_ble_eq_true rfl, Nat.le_of_ble_eq_true rfl⟩ rfl rfl hl rfl (Nat.le_of_ble_eq_true rfl) dL_law_1048 ⟨by show cells + 10 + 0 ≤ 601024; omega, by show slots + 60 + 0 ≤ 7293034; omega⟩ (fun r2 u H locs hw h => ?_)
    obtain ⟨rfl, rfl⟩ := hw
    refine lv_istore (lv' := [(7, .int (S_X7_thirdOf (S_X6_thirdOf σ (xs (6 * i + 1)) (xs (6 * i + 2))).2.2 (xs (6 * i + 1)) (xs (6 * i + 2))).1), (6, .int r), (5, .int (nI (6 * i))), (4, .ref (ead (setO E (S_X6_thirdOf σ (xs (6 * i + 1)) (xs (6 * i + 2))).2.1.toInt64) 36)), (3, .ref (ead (setO E (S_X6_thirdOf σ (xs (6 * i + 1)) (xs (6 * i + 2))).2.1.toInt64) 35)), (2, .ref (ead (setO E (S_X6_thirdOf σ (xs (6 * i + 1)) (xs (6 * i + 2))).2.1.toInt64) 15)), (1, .ref (ead (setO E (S_X6_thirdOf σ (xs (6 * i + 1)) (xs (6 * i + 2))).2.1.toInt64) 0)), (0, .ref b)]) C.x C.b dL_law_1051 hl (by decide) rfl (fun ls hl => ?_)
    refine lv_aload_n C.x C.b dL_law_1053 rfl (lv_at hl 5 rfl) ?_
    have okt : OK (setO E (S_X6_thirdOf σ (xs (6 * i + 1)) (xs (6 * i + 2))).2.1.toInt64) (S_X7_thirdOf (S_X6_thirdOf σ (xs (6 * i + 1)) (xs (6 * i + 2))).2.2 (xs (6 * i + 1)) (xs (6 * i + 2))).2 := bq5.ok rfl
    refine caVi (As := []) (rest := []) (q0 := 15) (ci := 7) C h (M_X7_thrown l D _ _ okt) cw_L_88 m_im_X7_thrown m_se_X7_thrown rfl rfl ⟨Nat.le_of_ble_eq_true rfl, Nat.le_of_ble_eq_true rfl⟩ rfl rfl hl rfl (Nat.le_of_ble_eq_true rfl) dL_law_1054 ⟨by show cells + 10 + 0 + 0 ≤ 601024; omega, by show slots + 60 + 0 + 0 ≤ 7293034; omega⟩ (fun r3 u H locs hw h => ?_)
    obtain ⟨rfl, rfl⟩ := hw
    refine lv_iload C.x C.b dL_law_1057 (lv_at hl 1 rfl) ?_
    have ek : S_X7_thrown (S_X7_thirdOf (S_X6_thirdOf σ (xs (6 * i + 1)) (xs (6 * i + 2))).2.2 (xs (6 * i + 1)) (xs (6 * i + 2))).2 = r := bq1.trans hr
    refine lv_icmp_eq (tgt := 1064) C.x C.b dL_law_1059 (by decide) (fun _ => ?_) (fun q => absurd ek q)
    refine lv_iload C.x C.b dL_law_1064 (lv_at hl 1 rfl) ?_
    have er : r = 0 := by rw [← hr, e0]; rfl
    refine lv_if_ne (tgt := 1081) C.x C.b dL_law_1066 (by decide) (fun q => absurd er q) (fun _ => ?_)
    refine lv_aload_n C.x C.b dL_law_1069 rfl (lv_at hl 4 rfl) ?_
    refine lv_iconst (v := 0) C.x C.b dL_law_1070 (by decide) ?_
    refine ldL C h dL_law_1071 ?_
    refine lv_iload C.x C.b dL_law_1072 (lv_at hl 0 rfl) ?_
    refine lv_i2l (v := (S_X7_thirdOf (S_X6_thirdOf σ (xs (6 * i + 1)) (xs (6 * i + 2))).2.2 (xs (6 * i + 1)) (xs (6 * i + 2))).1.toInt64) C.x C.b dL_law_1074 rfl ?_
    refine lcE C (show (S_X6_thirdOf σ (xs (6 * i + 1)) (xs (6 * i + 2))).2.1.toInt64 = (S_X7_thirdOf (S_X6_thirdOf σ (xs (6 * i + 1)) (xs (6 * i + 2))).2.2 (xs (6 * i + 1)) (xs (6 * i + 2))).1.toInt64 by rw [bq3]) dL_law_1075 ?_
    refine lv_if_eq (tgt := 1081) C.x C.b dL_law_1076 (by decide) (fun _ => ?_) (fun q => absurd rfl q)
    refine lv_goto (tgt := 1410) C.x C.b dL_law_1081 (by decide) ?_
    exact B (setO E (S_X6_thirdOf σ (xs (6 * i + 1)) (xs (6 * i + 2))).2.1.toInt64) (S_X7_thirdOf (S_X6_thirdOf σ (xs (6 * i + 1)) (xs (6 * i + 2))).2.2 (xs (6 * i + 1)) (xs (6 * i + 2))).2 m' H locs _ _ ls C h bq5 (by omega) (by show cells + 10 + 0 + 0 ≤ _; omega) (by show slots + 60 + 0 + 0 ≤ _; omega) (lv_sub hl [2, 3, 4, 5, 6, 7] rfl)
  · obtain rfl := hp1 e0
    have eS : LST (S_X6_thirdOf σ (xs (6 * i + 1)) (xs (6 * i + 2))) σ = σ := if_neg e0
    rw [eS] at Bq
    obtain ⟨bq1, -, bq2⟩ := Bq
    have bq5 := bq2 e0
    have okm : OK E σ := ok
    have C : CX p s m meth c cL_law RL 9 D E A := C
    have h : HW D E σ A s H locs := h
    have hl : lv_has ls 9 [(5, .int (nI (6 * i))), (4, .ref (ead E 36)), (3, .ref (ead E 35)), (2, .ref (ead E 15)), (1, .ref (ead E 0)), (0, .ref b)] := hl
    refine lv_istore (lv' := [(6, .int r), (5, .int (nI (6 * i))), (4, .ref (ead E 36)), (3, .ref (ead E 35)), (2, .ref (ead E 15)), (1, .ref (ead E 0)), (0, .ref b)]) C.x C.b dL_law_1033 hl (by decide) rfl (fun ls hl => ?_)
    refine lv_aload_n C.x C.b dL_law_1035 rfl (lv_at hl 4 rfl) ?_
    refine lv_aload_n C.x C.b dL_law_1036 rfl (lv_at hl 6 rfl) ?_
    refine lv_iload C.x C.b dL_law_1037 (lv_at hl 1 rfl) ?_
    refine lv_iconst (v := 1) C.x C.b dL_law_1039 (by decide) ?_
    refine lv_iadd C.x C.b dL_law_1040 ?_
    refine ldS (j := 6 * i + 1) C h hX hbl hbA hL (by omega) (nI_add (6 * i) 1) dL_law_1041 ?_
    refine lv_aload_n C.x C.b dL_law_1042 rfl (lv_at hl 6 rfl) ?_
    refine lv_iload C.x C.b dL_law_1043 (lv_at hl 1 rfl) ?_
    refine lv_iconst (v := 2) C.x C.b dL_law_1045 (by decide) ?_
    refine lv_iadd C.x C.b dL_law_1046 ?_
    refine ldS (j := 6 * i + 2) C h hX hbl hbA hL (by omega) (nI_add (6 * i) 2) dL_law_1047 ?_
    refine caVi (As := [.int (xs (6 * i + 1)), .int (xs (6 * i + 2))]) (rest := []) (q0 := 15) (ci := 7) C h (M_X7_thirdOf l D _ _ okm (xs (6 * i + 1)) (xs (6 * i + 2))) cw_L_134 m_im_X7_thirdOf m_se_X7_thirdOf rfl rfl ⟨Nat.le_of_ble_eq_true rfl, Nat.le_of_ble_eq_true rfl⟩ rfl rfl hl rfl (Nat.le_of_ble_eq_true rfl) dL_law_1048 ⟨by show cells + 10 + 0 ≤ 601024; omega, by show slots + 60 + 0 ≤ 7293034; omega⟩ (fun r2 u H locs hw h => ?_)
    obtain ⟨rfl, rfl⟩ := hw
    refine lv_istore (lv' := [(7, .int (S_X7_thirdOf σ (xs (6 * i + 1)) (xs (6 * i + 2))).1), (6, .int r), (5, .int (nI (6 * i))), (4, .ref (ead E 36)), (3, .ref (ead E 35)), (2, .ref (ead E 15)), (1, .ref (ead E 0)), (0, .ref b)]) C.x C.b dL_law_1051 hl (by decide) rfl (fun ls hl => ?_)
    refine lv_aload_n C.x C.b dL_law_1053 rfl (lv_at hl 5 rfl) ?_
    have okt : OK E (S_X7_thirdOf σ (xs (6 * i + 1)) (xs (6 * i + 2))).2 := bq5.ok rfl
    refine caVi (As := []) (rest := []) (q0 := 15) (ci := 7) C h (M_X7_thrown l D _ _ okt) cw_L_88 m_im_X7_thrown m_se_X7_thrown rfl rfl ⟨Nat.le_of_ble_eq_true rfl, Nat.le_of_ble_eq_true rfl⟩ rfl rfl hl rfl (Nat.le_of_ble_eq_true rfl) dL_law_1054 ⟨by show cells + 10 + 0 + 0 ≤ 601024; omega, by show slots + 60 + 0 + 0 ≤ 7293034; omega⟩ (fun r3 u H locs hw h => ?_)
    obtain ⟨rfl, rfl⟩ := hw
    refine lv_iload C.x C.b dL_law_1057 (lv_at hl 1 rfl) ?_
    have ek : S_X7_thrown (S_X7_thirdOf σ (xs (6 * i + 1)) (xs (6 * i + 2))).2 = r := bq1.trans hr
    refine lv_icmp_eq (tgt := 1064) C.x C.b dL_law_1059 (by decide) (fun _ => ?_) (fun q => absurd ek q)
    refine lv_iload C.x C.b dL_law_1064 (lv_at hl 1 rfl) ?_
    refine lv_if_ne (tgt := 1081) C.x C.b dL_law_1066 (by decide) (fun _ => ?_) (fun q => absurd (hr.trans q) (wcd_ne e0))
    refine lv_goto (tgt := 1410) C.x C.b dL_law_1081 (by decide) ?_
    exact B E (S_X7_thirdOf σ (xs (6 * i + 1)) (xs (6 * i + 2))).2 mm H locs _ _ ls C h bq5 (by omega) (by show cells + 10 + 0 + 0 ≤ _; omega) (by show slots + 60 + 0 + 0 ≤ _; omega) (lv_sub hl [2, 3, 4, 5, 6, 7] rfl)
theorem cw_L_135 : CWd RL 135 yX6_isGood cX6_isGood 1 (some .boolean) 0 := ⟨m_ml_L_135, m_co_X6_isGood, m_ini_X6, by decide +kernel, by decide +kernel⟩
theorem cw_L_139 : CWd RL 139 yX7_isGood cX7_isGood 1 (some .boolean) 0 := ⟨m_ml_L_139, m_co_X7_isGood, m_ini_X7, by decide +kernel, by decide +kernel⟩
set_option maxRecDepth 100000 in
set_option maxHeartbeats 4000000 in
theorem case_isGood {p : Program} {l : Launch} (hfl : l.stackTraces = false) {e : Env} {s : State} {m : MethodId} {args : Array Value} {below : List Frame} {meth : Method} {c : Code} {Q : State → Prop} {D : va_G} {A : Nat → Prop} {b L i : Nat} {xs : Nat → Int32} (hX : va_X b L xs s s.heap) (hbl : b < s.heap.size) (hbA : ¬ A b) (hL : L ≤ 3072) (hi : 6 * i + 5 < L) (B : BK p l e s m args below meth c Q D A b i) {E : En} {σ : St} {mm : Nat} {H : Heap} {locs : List Loc} {cells slots : Nat} {ls : Array Slot} (C : CX p s m meth c cL_law RL 9 D E A) (h : HW D E σ A s H locs) (hR : RR σ σ mm (en E) i) (hm : mm ≤ 500 * i) (hc : cells ≤ 64 + 10 * i) (hs : slots ≤ 512 + 60 * i) (hl : lv_has ls 9 (LV E b i)) : W p l e room_1 s m args below meth c H locs cells slots Q (F0 m 1084 ls []) := by
  have ok := hR.ok rfl
  have hl : lv_has ls 9 [(5, .int (nI (6 * i))), (4, .ref (ead E 36)), (3, .ref (ead E 35)), (2, .ref (ead E 15)), (1, .ref (ead E 0)), (0, .ref b)] := hl
  refine lv_aload_n C.x C.b dL_law_1084 rfl (lv_at hl 4 rfl) ?_
  refine caVi (As := []) (rest := []) (q0 := 0) (ci := 6) C h (M_X6_isGood l D E σ ok) cw_L_135 m_im_X6_isGood m_se_X6_isGood rfl rfl ⟨Nat.le_of_ble_eq_true rfl, Nat.le_of_ble_eq_true rfl⟩ rfl rfl hl rfl (Nat.le_of_ble_eq_true rfl) dL_law_1085 ⟨by show cells + 0 ≤ 601024; omega, by show slots + 0 ≤ 7293034; omega⟩ (fun r1 u H locs hw h => ?_)
  obtain ⟨hr1, rfl⟩ := hw
  refine lv_aload_n C.x C.b dL_law_1088 rfl (lv_at hl 3 rfl) ?_
  refine caVi (As := []) (rest := [.int r1]) (q0 := 15) (ci := 7) C h (M_X7_isGood l D E σ ok) cw_L_139 m_im_X7_isGood m_se_X7_isGood rfl rfl ⟨Nat.le_of_ble_eq_true rfl, Nat.le_of_ble_eq_true rfl⟩ rfl rfl hl rfl (Nat.le_of_ble_eq_true rfl) dL_law_1089 ⟨by show cells + 0 + 0 ≤ 601024; omega, by show slots + 0 + 0 ≤ 7293034; omega⟩ (fun r2 u H locs hw h => ?_)
  obtain ⟨hr2, rfl⟩ := hw
  obtain ⟨g1, g2⟩ := A_isGood hR
  have ek : r1 = r2 := by rw [← hr1, ← hr2, g1]
  have bq5 : RR (S_X7_isGood σ).2 (S_X7_isGood σ).2 mm (en E) (i + 1) := g2.cgc (fun f i q => F7_isGood q σ)
  refine lv_icmp_eq (tgt := 1410) C.x C.b dL_law_1092 (by decide) (fun _ => ?_) (fun q => absurd ek q)
  exact B E _ mm H locs _ _ ls C h bq5 (by omega) (by show cells + 0 + 0 ≤ _; omega) (by show slots + 0 + 0 ≤ _; omega) hl
theorem cl_L_aircraftOf : CLd RL 140 yL_aircraftOf cL_aircraftOf 5 [(0, 10, 13, 19), (0, 10, 17, 13)] 4 := ⟨m_ml_L_140, m_cw_L_aircraftOf, m_ini_L, by decide +kernel, by decide +kernel, m_st_L_aircraftOf⟩
theorem B_aircraftOf {σ : St} {m n c : Nat} (h : RR σ σ m n c) (p1 p2 : Int32) : BQ (LST (S_X6_aircraftOf σ p1 p2) σ) m n c 1 2 n (S_X6_aircraftOf σ p1 p2) (S_X7_aircraftOf (LST (S_X6_aircraftOf σ p1 p2) σ) p1 p2) :=
  BLx (A_aircraftOf (h.lst (fun f i q => F6_aircraftOf q σ p1 p2)) p1 p2) (fun f i q => F7_aircraftOf q _ p1 p2)
theorem O_aircraftOf {σ : St} {m n c : Nat} {E1 : En} (h : RR σ σ m n c) (p1 p2 : Int32) (e0 : (S_X6_aircraftOf σ p1 p2).1 = 0) (hn : n = en E1) : OK E1 (S_X6_aircraftOf σ p1 p2).2.2 :=
  OKx h (A_aircraftOf h p1 p2) (fun f i q => F6_aircraftOf q σ p1 p2) e0 hn (by omega)
theorem cw_L_142 : CWd RL 142 yX7_aircraftOf cX7_aircraftOf 3 (some .int) 2 := ⟨m_ml_L_142, m_co_X7_aircraftOf, m_ini_X7, by decide +kernel, by decide +kernel⟩
set_option maxRecDepth 100000 in
set_option maxHeartbeats 4000000 in
theorem case_aircraftOf {p : Program} {l : Launch} (hfl : l.stackTraces = false) {e : Env} {s : State} {m : MethodId} {args : Array Value} {below : List Frame} {meth : Method} {c : Code} {Q : State → Prop} {D : va_G} {A : Nat → Prop} {b L i : Nat} {xs : Nat → Int32} (hX : va_X b L xs s s.heap) (hbl : b < s.heap.size) (hbA : ¬ A b) (hL : L ≤ 3072) (hi : 6 * i + 5 < L) (B : BK p l e s m args below meth c Q D A b i) {E : En} {σ : St} {mm : Nat} {H : Heap} {locs : List Loc} {cells slots : Nat} {ls : Array Slot} (C : CX p s m meth c cL_law RL 9 D E A) (h : HW D E σ A s H locs) (hR : RR σ σ mm (en E) i) (hm : mm ≤ 500 * i) (hc : cells ≤ 64 + 10 * i) (hs : slots ≤ 512 + 60 * i) (hl : lv_has ls 9 (LV E b i)) : W p l e room_1 s m args below meth c H locs cells slots Q (F0 m 1097 ls []) := by
  have ok := hR.ok rfl
  have hl : lv_has ls 9 [(5, .int (nI (6 * i))), (4, .ref (ead E 36)), (3, .ref (ead E 35)), (2, .ref (ead E 15)), (1, .ref (ead E 0)), (0, .ref b)] := hl
  refine lv_aload_n C.x C.b dL_law_1097 rfl (lv_at hl 4 rfl) ?_
  refine lv_aload_n C.x C.b dL_law_1098 rfl (lv_at hl 5 rfl) ?_
  refine lv_iload C.x C.b dL_law_1099 (lv_at hl 0 rfl) ?_
  refine lv_iconst (v := 1) C.x C.b dL_law_1101 (by decide) ?_
  refine lv_iadd C.x C.b dL_law_1102 ?_
  refine ldS (j := 6 * i + 1) C h hX hbl hbA hL (by omega) (nI_add (6 * i) 1) dL_law_1103 ?_
  refine lv_aload_n C.x C.b dL_law_1104 rfl (lv_at hl 5 rfl) ?_
  refine lv_iload C.x C.b dL_law_1105 (lv_at hl 0 rfl) ?_
  refine lv_iconst (v := 2) C.x C.b dL_law_1107 (by decide) ?_
  refine lv_iadd C.x C.b dL_law_1108 ?_
  refine ldS (j := 6 * i + 2) C h hX hbl hbA hL (by omega) (nI_add (6 * i) 2) dL_law_1109 ?_
  refine lv_aload_n C.x C.b dL_law_1110 rfl (lv_at hl 2 rfl) ?_
  refine caL (As := [.ref (ead E 0), .int (xs (6 * i + 1)), .int (xs (6 * i + 2)), .ref (ead E 35)]) (rest := []) C h (M_L_aircraftOf l hfl D E σ ok (xs (6 * i + 1)) (xs (6 * i + 2))) cl_L_aircraftOf rfl rfl ⟨Nat.le_of_ble_eq_true rfl, Nat.le_of_ble_eq_true rfl⟩ hl rfl (Nat.le_of_ble_eq_true rfl) dL_law_1111 ⟨by show cells + 10 ≤ 601024; omega, by show slots + 60 ≤ 7293034; omega⟩ (fun r u H locs hp h => ?_)
  obtain ⟨hr, hp0, hp1⟩ := hp
  have Bq := B_aircraftOf hR (xs (6 * i + 1)) (xs (6 * i + 2))
  by_cases e0 : (S_X6_aircraftOf σ (xs (6 * i + 1)) (xs (6 * i + 2))).1 = 0
  · obtain rfl := hp0 e0
    have eS : LST (S_X6_aircraftOf σ (xs (6 * i + 1)) (xs (6 * i + 2))) σ = (S_X6_aircraftOf σ (xs (6 * i + 1)) (xs (6 * i + 2))).2.2 := if_pos e0
    rw [eS] at Bq
    obtain ⟨bq1, bq2, -⟩ := Bq
    obtain ⟨bq3, m', bq4, bq5⟩ := bq2 e0
    have okm : OK (setO E (S_X6_aircraftOf σ (xs (6 * i + 1)) (xs (6 * i + 2))).2.1.toInt64) (S_X6_aircraftOf σ (xs (6 * i + 1)) (xs (6 * i + 2))).2.2 := O_aircraftOf hR (xs (6 * i + 1)) (xs (6 * i + 2)) e0 rfl
    have C : CX p s m meth c cL_law RL 9 D (setO E (S_X6_aircraftOf σ (xs (6 * i + 1)) (xs (6 * i + 2))).2.1.toInt64) A := C
    have h : HW D (setO E (S_X6_aircraftOf σ (xs (6 * i + 1)) (xs (6 * i + 2))).2.1.toInt64) (S_X6_aircraftOf σ (xs (6 * i + 1)) (xs (6 * i + 2))).2.2 A s H locs := h
    have hl : lv_has ls 9 [(5, .int (nI (6 * i))), (4, .ref (ead (setO E (S_X6_aircraftOf σ (xs (6 * i + 1)) (xs (6 * i + 2))).2.1.toInt64) 36)), (3, .ref (ead (setO E (S_X6_aircraftOf σ (xs (6 * i + 1)) (xs (6 * i + 2))).2.1.toInt64) 35)), (2, .ref (ead (setO E (S_X6_aircraftOf σ (xs (6 * i + 1)) (xs (6 * i + 2))).2.1.toInt64) 15)), (1, .ref (ead (setO E (S_X6_aircraftOf σ (xs (6 * i + 1)) (xs (6 * i + 2))).2.1.toInt64) 0)), (0, .ref b)] := hl
    refine lv_istore (lv' := [(6, .int r), (5, .int (nI (6 * i))), (4, .ref (ead (setO E (S_X6_aircraftOf σ (xs (6 * i + 1)) (xs (6 * i + 2))).2.1.toInt64) 36)), (3, .ref (ead (setO E (S_X6_aircraftOf σ (xs (6 * i + 1)) (xs (6 * i + 2))).2.1.toInt64) 35)), (2, .ref (ead (setO E (S_X6_aircraftOf σ (xs (6 * i + 1)) (xs (6 * i + 2))).2.1.toInt64) 15)), (1, .ref (ead (setO E (S_X6_aircraftOf σ (xs (6 * i + 1)) (xs (6 * i + 2))).2.1.toInt64) 0)), (0, .ref b)]) C.x C.b dL_law_1114 hl (by decide) rfl (fun ls hl => ?_)
    refine lv_aload_n C.x C.b dL_law_1116 rfl (lv_at hl 4 rfl) ?_
    refine lv_aload_n C.x C.b dL_law_1117 rfl (lv_at hl 6 rfl) ?_
    refine lv_iload C.x C.b dL_law_1118 (lv_at hl 1 rfl) ?_
    refine lv_iconst (v := 1) C.x C.b dL_law_1120 (by decide) ?_
    refine lv_iadd C.x C.b dL_law_1121 ?_
    refine ldS (j := 6 * i + 1) C h hX hbl hbA hL (by omega) (nI_add (6 * i) 1) dL_law_1122 ?_
    refine lv_aload_n C.x C.b dL_law_1123 rfl (lv_at hl 6 rfl) ?_
    refine lv_iload C.x C.b dL_law_1124 (lv_at hl 1 rfl) ?_
    refine lv_iconst (v := 2) C.x C.b dL_law_1126 (by decide) ?_
    refine lv_iadd C.x C.b dL_law_1127 ?_
    refine ldS (j := 6 * i + 2) C h hX hbl hbA hL (by omega) (nI_add (6 * i) 2) dL_law_1128 ?_
    refine caVi (As := [.int (xs (6 * i + 1)), .int (xs (6 * i + 2))]) (rest := []) (q0 := 15) (ci := 7) C h (M_X7_aircraftOf l D _ _ okm (xs (6 * i + 1)) (xs (6 * i + 2))) cw_L_142 m_im_X7_aircraftOf m_se_X7_aircraftOf rfl rfl ⟨Nat.le_of_ble_eq_true rfl, Nat.le_of_ble_eq_true rfl⟩ rfl rfl hl rfl (Nat.le_of_ble_eq_true rfl) dL_law_1129 ⟨by show cells + 10 + 0 ≤ 601024; omega, by show slots + 60 + 0 ≤ 7293034; omega⟩ (fun r2 u H locs hw h => ?_)
    obtain ⟨rfl, rfl⟩ := hw
    refine lv_istore (lv' := [(7, .int (S_X7_aircraftOf (S_X6_aircraftOf σ (xs (6 * i + 1)) (xs (6 * i + 2))).2.2 (xs (6 * i + 1)) (xs (6 * i + 2))).1), (6, .int r), (5, .int (nI (6 * i))), (4, .ref (ead (setO E (S_X6_aircraftOf σ (xs (6 * i + 1)) (xs (6 * i + 2))).2.1.toInt64) 36)), (3, .ref (ead (setO E (S_X6_aircraftOf σ (xs (6 * i + 1)) (xs (6 * i + 2))).2.1.toInt64) 35)), (2, .ref (ead (setO E (S_X6_aircraftOf σ (xs (6 * i + 1)) (xs (6 * i + 2))).2.1.toInt64) 15)), (1, .ref (ead (setO E (S_X6_aircraftOf σ (xs (6 * i + 1)) (xs (6 * i + 2))).2.1.toInt64) 0)), (0, .ref b)]) C.x C.b dL_law_1132 hl (by decide) rfl (fun ls hl => ?_)
    refine lv_aload_n C.x C.b dL_law_1134 rfl (lv_at hl 5 rfl) ?_
    have okt : OK (setO E (S_X6_aircraftOf σ (xs (6 * i + 1)) (xs (6 * i + 2))).2.1.toInt64) (S_X7_aircraftOf (S_X6_aircraftOf σ (xs (6 * i + 1)) (xs (6 * i + 2))).2.2 (xs (6 * i + 1)) (xs (6 * i + 2))).2 := bq5.ok rfl
    refine caVi (As := []) (rest := []) (q0 := 15) (ci := 7) C h (M_X7_thrown l D _ _ okt) cw_L_88 m_im_X7_thrown m_se_X7_thrown rfl rfl ⟨Nat.le_of_ble_eq_true rfl, Nat.le_of_ble_eq_true rfl⟩ rfl rfl hl rfl (Nat.le_of_ble_eq_true rfl) dL_law_1135 ⟨by show cells + 10 + 0 + 0 ≤ 601024; omega, by show slots + 60 + 0 + 0 ≤ 7293034; omega⟩ (fun r3 u H locs hw h => ?_)
    obtain ⟨rfl, rfl⟩ := hw
    refine lv_iload C.x C.b dL_law_1138 (lv_at hl 1 rfl) ?_
    have ek : S_X7_thrown (S_X7_aircraftOf (S_X6_aircraftOf σ (xs (6 * i + 1)) (xs (6 * i + 2))).2.2 (xs (6 * i + 1)) (xs (6 * i + 2))).2 = r := bq1.trans hr
    refine lv_icmp_eq (tgt := 1145) C.x C.b dL_law_1140 (by decide) (fun _ => ?_) (fun q => absurd ek q)
    refine lv_iload C.x C.b dL_law_1145 (lv_at hl 1 rfl) ?_
    have er : r = 0 := by rw [← hr, e0]; rfl
    refine lv_if_ne (tgt := 1162) C.x C.b dL_law_1147 (by decide) (fun q => absurd er q) (fun _ => ?_)
    refine lv_aload_n C.x C.b dL_law_1150 rfl (lv_at hl 4 rfl) ?_
    refine lv_iconst (v := 0) C.x C.b dL_law_1151 (by decide) ?_
    refine ldL C h dL_law_1152 ?_
    refine lv_iload C.x C.b dL_law_1153 (lv_at hl 0 rfl) ?_
    refine lv_i2l (v := (S_X7_aircraftOf (S_X6_aircraftOf σ (xs (6 * i + 1)) (xs (6 * i + 2))).2.2 (xs (6 * i + 1)) (xs (6 * i + 2))).1.toInt64) C.x C.b dL_law_1155 rfl ?_
    refine lcE C (show (S_X6_aircraftOf σ (xs (6 * i + 1)) (xs (6 * i + 2))).2.1.toInt64 = (S_X7_aircraftOf (S_X6_aircraftOf σ (xs (6 * i + 1)) (xs (6 * i + 2))).2.2 (xs (6 * i + 1)) (xs (6 * i + 2))).1.toInt64 by rw [bq3]) dL_law_1156 ?_
    refine lv_if_eq (tgt := 1162) C.x C.b dL_law_1157 (by decide) (fun _ => ?_) (fun q => absurd rfl q)
    refine lv_goto (tgt := 1410) C.x C.b dL_law_1162 (by decide) ?_
    exact B (setO E (S_X6_aircraftOf σ (xs (6 * i + 1)) (xs (6 * i + 2))).2.1.toInt64) (S_X7_aircraftOf (S_X6_aircraftOf σ (xs (6 * i + 1)) (xs (6 * i + 2))).2.2 (xs (6 * i + 1)) (xs (6 * i + 2))).2 m' H locs _ _ ls C h bq5 (by omega) (by show cells + 10 + 0 + 0 ≤ _; omega) (by show slots + 60 + 0 + 0 ≤ _; omega) (lv_sub hl [2, 3, 4, 5, 6, 7] rfl)
  · obtain rfl := hp1 e0
    have eS : LST (S_X6_aircraftOf σ (xs (6 * i + 1)) (xs (6 * i + 2))) σ = σ := if_neg e0
    rw [eS] at Bq
    obtain ⟨bq1, -, bq2⟩ := Bq
    have bq5 := bq2 e0
    have okm : OK E σ := ok
    have C : CX p s m meth c cL_law RL 9 D E A := C
    have h : HW D E σ A s H locs := h
    have hl : lv_has ls 9 [(5, .int (nI (6 * i))), (4, .ref (ead E 36)), (3, .ref (ead E 35)), (2, .ref (ead E 15)), (1, .ref (ead E 0)), (0, .ref b)] := hl
    refine lv_istore (lv' := [(6, .int r), (5, .int (nI (6 * i))), (4, .ref (ead E 36)), (3, .ref (ead E 35)), (2, .ref (ead E 15)), (1, .ref (ead E 0)), (0, .ref b)]) C.x C.b dL_law_1114 hl (by decide) rfl (fun ls hl => ?_)
    refine lv_aload_n C.x C.b dL_law_1116 rfl (lv_at hl 4 rfl) ?_
    refine lv_aload_n C.x C.b dL_law_1117 rfl (lv_at hl 6 rfl) ?_
    refine lv_iload C.x C.b dL_law_1118 (lv_at hl 1 rfl) ?_
    refine lv_iconst (v := 1) C.x C.b dL_law_1120 (by decide) ?_
    refine lv_iadd C.x C.b dL_law_1121 ?_
    refine ldS (j := 6 * i + 1) C h hX hbl hbA hL (by omega) (nI_add (6 * i) 1) dL_law_1122 ?_
    refine lv_aload_n C.x C.b dL_law_1123 rfl (lv_at hl 6 rfl) ?_
    refine lv_iload C.x C.b dL_law_1124 (lv_at hl 1 rfl) ?_
    refine lv_iconst (v := 2) C.x C.b dL_law_1126 (by decide) ?_
    refine lv_iadd C.x C.b dL_law_1127 ?_
    refine ldS (j := 6 * i + 2) C h hX hbl hbA hL (by omega) (nI_add (6 * i) 2) dL_law_1128 ?_
    refine caVi (As := [.int (xs (6 * i + 1)), .int (xs (6 * i + 2))]) (rest := []) (q0 := 15) (ci := 7) C h (M_X7_aircraftOf l D _ _ okm (xs (6 * i + 1)) (xs (6 * i + 2))) cw_L_142 m_im_X7_aircraftOf m_se_X7_aircraftOf rfl rfl ⟨Nat.le_of_ble_eq_true rfl, Nat.le_of_ble_eq_true rfl⟩ rfl rfl hl rfl (Nat.le_of_ble_eq_true rfl) dL_law_1129 ⟨by show cells + 10 + 0 ≤ 601024; omega, by show slots + 60 + 0 ≤ 7293034; omega⟩ (fun r2 u H locs hw h => ?_)
    obtain ⟨rfl, rfl⟩ := hw
    refine lv_istore (lv' := [(7, .int (S_X7_aircraftOf σ (xs (6 * i + 1)) (xs (6 * i + 2))).1), (6, .int r), (5, .int (nI (6 * i))), (4, .ref (ead E 36)), (3, .ref (ead E 35)), (2, .ref (ead E 15)), (1, .ref (ead E 0)), (0, .ref b)]) C.x C.b dL_law_1132 hl (by decide) rfl (fun ls hl => ?_)
    refine lv_aload_n C.x C.b dL_law_1134 rfl (lv_at hl 5 rfl) ?_
    have okt : OK E (S_X7_aircraftOf σ (xs (6 * i + 1)) (xs (6 * i + 2))).2 := bq5.ok rfl
    refine caVi (As := []) (rest := []) (q0 := 15) (ci := 7) C h (M_X7_thrown l D _ _ okt) cw_L_88 m_im_X7_thrown m_se_X7_thrown rfl rfl ⟨Nat.le_of_ble_eq_true rfl, Nat.le_of_ble_eq_true rfl⟩ rfl rfl hl rfl (Nat.le_of_ble_eq_true rfl) dL_law_1135 ⟨by show cells + 10 + 0 + 0 ≤ 601024; omega, by show slots + 60 + 0 + 0 ≤ 7293034; omega⟩ (fun r3 u H locs hw h => ?_)
    obtain ⟨rfl, rfl⟩ := hw
    refine lv_iload C.x C.b dL_law_1138 (lv_at hl 1 rfl) ?_
    have ek : S_X7_thrown (S_X7_aircraftOf σ (xs (6 * i + 1)) (xs (6 * i + 2))).2 = r := bq1.trans hr
    refine lv_icmp_eq (tgt := 1145) C.x C.b dL_law_1140 (by decide) (fun _ => ?_) (fun q => absurd ek q)
    refine lv_iload C.x C.b dL_law_1145 (lv_at hl 1 rfl) ?_
    refine lv_if_ne (tgt := 1162) C.x C.b dL_law_1147 (by decide) (fun _ => ?_) (fun q => absurd (hr.trans q) (wcd_ne e0))
    refine lv_goto (tgt := 1410) C.x C.b dL_law_1162 (by decide) ?_
    exact B E (S_X7_aircraftOf σ (xs (6 * i + 1)) (xs (6 * i + 2))).2 mm H locs _ _ ls C h bq5 (by omega) (by show cells + 10 + 0 + 0 ≤ _; omega) (by show slots + 60 + 0 + 0 ≤ _; omega) (lv_sub hl [2, 3, 4, 5, 6, 7] rfl)
theorem cl_L_clock : CLd RL 143 yL_clock cL_clock 4 [(0, 8, 11, 19), (0, 8, 14, 31)] 3 := ⟨m_ml_L_143, m_cw_L_clock, m_ini_L, by decide +kernel, by decide +kernel, m_st_L_clock⟩
theorem cw_L_146 : CWd RL 146 yX7_clock cX7_clock 2 (some .double) 1 := ⟨m_ml_L_146, m_co_X7_clock, m_ini_X7, by decide +kernel, by decide +kernel⟩
set_option maxRecDepth 100000 in
set_option maxHeartbeats 4000000 in
theorem case_clock {p : Program} {l : Launch} (hfl : l.stackTraces = false) {e : Env} {s : State} {m : MethodId} {args : Array Value} {below : List Frame} {meth : Method} {c : Code} {Q : State → Prop} {D : va_G} {A : Nat → Prop} {b L i : Nat} {xs : Nat → Int32} (hX : va_X b L xs s s.heap) (hbl : b < s.heap.size) (hbA : ¬ A b) (hL : L ≤ 3072) (hi : 6 * i + 5 < L) (B : BK p l e s m args below meth c Q D A b i) {E : En} {σ : St} {mm : Nat} {H : Heap} {locs : List Loc} {cells slots : Nat} {ls : Array Slot} (C : CX p s m meth c cL_law RL 9 D E A) (h : HW D E σ A s H locs) (hR : RR σ σ mm (en E) i) (hm : mm ≤ 500 * i) (hc : cells ≤ 64 + 10 * i) (hs : slots ≤ 512 + 60 * i) (hl : lv_has ls 9 (LV E b i)) : W p l e room_1 s m args below meth c H locs cells slots Q (F0 m 1165 ls []) := by
  have ok := hR.ok rfl
  have hl : lv_has ls 9 [(5, .int (nI (6 * i))), (4, .ref (ead E 36)), (3, .ref (ead E 35)), (2, .ref (ead E 15)), (1, .ref (ead E 0)), (0, .ref b)] := hl
  refine lv_aload_n C.x C.b dL_law_1165 rfl (lv_at hl 4 rfl) ?_
  refine lv_aload_n C.x C.b dL_law_1166 rfl (lv_at hl 5 rfl) ?_
  refine lv_iload C.x C.b dL_law_1167 (lv_at hl 0 rfl) ?_
  refine lv_iconst (v := 1) C.x C.b dL_law_1169 (by decide) ?_
  refine lv_iadd C.x C.b dL_law_1170 ?_
  refine ldS (j := 6 * i + 1) C h hX hbl hbA hL (by omega) (nI_add (6 * i) 1) dL_law_1171 ?_
  refine lv_aload C.x C.b dL_law_1172 (lv_at hl 1 rfl) ?_
  refine caL (As := [.ref (ead E 0), .int (xs (6 * i + 1)), .ref (ead E 36)]) (rest := []) C h (M_L_clock l hfl D E σ ok (xs (6 * i + 1))) cl_L_clock rfl rfl ⟨Nat.le_of_ble_eq_true rfl, Nat.le_of_ble_eq_true rfl⟩ hl rfl (Nat.le_of_ble_eq_true rfl) dL_law_1174 ⟨by show cells + 10 ≤ 601024; omega, by show slots + 60 ≤ 7293034; omega⟩ (fun r u H locs hp h => ?_)
  obtain ⟨hr, hp0, hp1⟩ := hp
  obtain ⟨bq1, bq5, ec, hcm⟩ := BCk (by omega) hR (xs (6 * i + 1))
  by_cases e0 : (S_X6_clock σ (xs (6 * i + 1))).1 = 0
  · obtain rfl := hp0 e0
    have okm : OK (setD E (S_X6_clock σ (xs (6 * i + 1))).2.1) (S_X6_clock σ (xs (6 * i + 1))).2.2 := by rw [ec]; exact ok
    have hcmp : Op.cmpValue (FP.dcmp (S_X6_clock σ (xs (6 * i + 1))).2.1 (S_X7_clock (S_X6_clock σ (xs (6 * i + 1))).2.2 (xs (6 * i + 1))).1) CmpOp.l = 0 := by rw [ec]; exact hcm e0
    have bq1 : (S_X7_clock (S_X6_clock σ (xs (6 * i + 1))).2.2 (xs (6 * i + 1))).2 40 0 = wcd 1 3 (S_X6_clock σ (xs (6 * i + 1))).1 := by rw [ec]; exact bq1
    have bq5 : RR (S_X7_clock (S_X6_clock σ (xs (6 * i + 1))).2.2 (xs (6 * i + 1))).2 (S_X7_clock (S_X6_clock σ (xs (6 * i + 1))).2.2 (xs (6 * i + 1))).2 mm (en E) (i + 1) := by rw [ec]; exact bq5
    have C : CX p s m meth c cL_law RL 9 D (setD E (S_X6_clock σ (xs (6 * i + 1))).2.1) A := C
    have h : HW D (setD E (S_X6_clock σ (xs (6 * i + 1))).2.1) (S_X6_clock σ (xs (6 * i + 1))).2.2 A s H locs := h
    have hl : lv_has ls 9 [(5, .int (nI (6 * i))), (4, .ref (ead (setD E (S_X6_clock σ (xs (6 * i + 1))).2.1) 36)), (3, .ref (ead (setD E (S_X6_clock σ (xs (6 * i + 1))).2.1) 35)), (2, .ref (ead (setD E (S_X6_clock σ (xs (6 * i + 1))).2.1) 15)), (1, .ref (ead (setD E (S_X6_clock σ (xs (6 * i + 1))).2.1) 0)), (0, .ref b)] := hl
    refine lv_istore (lv' := [(6, .int r), (5, .int (nI (6 * i))), (4, .ref (ead (setD E (S_X6_clock σ (xs (6 * i + 1))).2.1) 36)), (3, .ref (ead (setD E (S_X6_clock σ (xs (6 * i + 1))).2.1) 35)), (2, .ref (ead (setD E (S_X6_clock σ (xs (6 * i + 1))).2.1) 15)), (1, .ref (ead (setD E (S_X6_clock σ (xs (6 * i + 1))).2.1) 0)), (0, .ref b)]) C.x C.b dL_law_1177 hl (by decide) rfl (fun ls hl => ?_)
    refine lv_aload_n C.x C.b dL_law_1179 rfl (lv_at hl 4 rfl) ?_
    refine lv_aload_n C.x C.b dL_law_1180 rfl (lv_at hl 6 rfl) ?_
    refine lv_iload C.x C.b dL_law_1181 (lv_at hl 1 rfl) ?_
    refine lv_iconst (v := 1) C.x C.b dL_law_1183 (by decide) ?_
    refine lv_iadd C.x C.b dL_law_1184 ?_
    refine ldS (j := 6 * i + 1) C h hX hbl hbA hL (by omega) (nI_add (6 * i) 1) dL_law_1185 ?_
    refine caVd (As := [.int (xs (6 * i + 1))]) (rest := []) (q0 := 15) (ci := 7) C h (M_X7_clock l D _ _ okm (xs (6 * i + 1))) cw_L_146 m_im_X7_clock m_se_X7_clock rfl rfl ⟨Nat.le_of_ble_eq_true rfl, Nat.le_of_ble_eq_true rfl⟩ rfl rfl hl rfl (Nat.le_of_ble_eq_true rfl) dL_law_1186 ⟨by show cells + 10 + 0 ≤ 601024; omega, by show slots + 60 + 0 ≤ 7293034; omega⟩ (fun r2 u H locs hw h => ?_)
    obtain ⟨rfl, rfl⟩ := hw
    refine lv_dstore (lv' := [(7, .double (S_X7_clock (S_X6_clock σ (xs (6 * i + 1))).2.2 (xs (6 * i + 1))).1), (6, .int r), (5, .int (nI (6 * i))), (4, .ref (ead (setD E (S_X6_clock σ (xs (6 * i + 1))).2.1) 36)), (3, .ref (ead (setD E (S_X6_clock σ (xs (6 * i + 1))).2.1) 35)), (2, .ref (ead (setD E (S_X6_clock σ (xs (6 * i + 1))).2.1) 15)), (1, .ref (ead (setD E (S_X6_clock σ (xs (6 * i + 1))).2.1) 0)), (0, .ref b)]) C.x C.b dL_law_1189 hl (by decide) rfl (fun ls hl => ?_)
    refine lv_aload_n C.x C.b dL_law_1191 rfl (lv_at hl 5 rfl) ?_
    have okt : OK (setD E (S_X6_clock σ (xs (6 * i + 1))).2.1) (S_X7_clock (S_X6_clock σ (xs (6 * i + 1))).2.2 (xs (6 * i + 1))).2 := bq5.ok rfl
    refine caVi (As := []) (rest := []) (q0 := 15) (ci := 7) C h (M_X7_thrown l D _ _ okt) cw_L_88 m_im_X7_thrown m_se_X7_thrown rfl rfl ⟨Nat.le_of_ble_eq_true rfl, Nat.le_of_ble_eq_true rfl⟩ rfl rfl hl rfl (Nat.le_of_ble_eq_true rfl) dL_law_1192 ⟨by show cells + 10 + 0 + 0 ≤ 601024; omega, by show slots + 60 + 0 + 0 ≤ 7293034; omega⟩ (fun r3 u H locs hw h => ?_)
    obtain ⟨rfl, rfl⟩ := hw
    refine lv_iload C.x C.b dL_law_1195 (lv_at hl 1 rfl) ?_
    have ek : S_X7_thrown (S_X7_clock (S_X6_clock σ (xs (6 * i + 1))).2.2 (xs (6 * i + 1))).2 = r := bq1.trans hr
    refine lv_icmp_eq (tgt := 1202) C.x C.b dL_law_1197 (by decide) (fun _ => ?_) (fun q => absurd ek q)
    refine lv_iload C.x C.b dL_law_1202 (lv_at hl 1 rfl) ?_
    have er : r = 0 := by rw [← hr, e0]; rfl
    refine lv_if_ne (tgt := 1239) C.x C.b dL_law_1204 (by decide) (fun q => absurd er q) (fun _ => ?_)
    refine lv_aload C.x C.b dL_law_1207 (lv_at hl 3 rfl) ?_
    refine lv_iconst (v := 0) C.x C.b dL_law_1209 (by decide) ?_
    refine ldD C h dL_law_1210 ?_
    refine lv_dload C.x C.b dL_law_1211 (lv_at hl 0 rfl) ?_
    refine lv_dcmp C.x C.b dL_law_1213 ?_
    refine lv_if_eq (tgt := 1239) C.x C.b dL_law_1214 (by decide) (fun _ => ?_) (fun q => absurd hcmp q)
    refine lv_goto (tgt := 1410) C.x C.b dL_law_1239 (by decide) ?_
    exact B (setD E (S_X6_clock σ (xs (6 * i + 1))).2.1) (S_X7_clock (S_X6_clock σ (xs (6 * i + 1))).2.2 (xs (6 * i + 1))).2 mm H locs _ _ ls C h bq5 (by omega) (by show cells + 10 + 0 + 0 ≤ _; omega) (by show slots + 60 + 0 + 0 ≤ _; omega) (lv_sub hl [2, 3, 4, 5, 6, 7] rfl)
  · obtain rfl := hp1 e0
    have okm : OK E σ := ok
    have C : CX p s m meth c cL_law RL 9 D E A := C
    have h : HW D E σ A s H locs := h
    have hl : lv_has ls 9 [(5, .int (nI (6 * i))), (4, .ref (ead E 36)), (3, .ref (ead E 35)), (2, .ref (ead E 15)), (1, .ref (ead E 0)), (0, .ref b)] := hl
    refine lv_istore (lv' := [(6, .int r), (5, .int (nI (6 * i))), (4, .ref (ead E 36)), (3, .ref (ead E 35)), (2, .ref (ead E 15)), (1, .ref (ead E 0)), (0, .ref b)]) C.x C.b dL_law_1177 hl (by decide) rfl (fun ls hl => ?_)
    refine lv_aload_n C.x C.b dL_law_1179 rfl (lv_at hl 4 rfl) ?_
    refine lv_aload_n C.x C.b dL_law_1180 rfl (lv_at hl 6 rfl) ?_
    refine lv_iload C.x C.b dL_law_1181 (lv_at hl 1 rfl) ?_
    refine lv_iconst (v := 1) C.x C.b dL_law_1183 (by decide) ?_
    refine lv_iadd C.x C.b dL_law_1184 ?_
    refine ldS (j := 6 * i + 1) C h hX hbl hbA hL (by omega) (nI_add (6 * i) 1) dL_law_1185 ?_
    refine caVd (As := [.int (xs (6 * i + 1))]) (rest := []) (q0 := 15) (ci := 7) C h (M_X7_clock l D _ _ okm (xs (6 * i + 1))) cw_L_146 m_im_X7_clock m_se_X7_clock rfl rfl ⟨Nat.le_of_ble_eq_true rfl, Nat.le_of_ble_eq_true rfl⟩ rfl rfl hl rfl (Nat.le_of_ble_eq_true rfl) dL_law_1186 ⟨by show cells + 10 + 0 ≤ 601024; omega, by show slots + 60 + 0 ≤ 7293034; omega⟩ (fun r2 u H locs hw h => ?_)
    obtain ⟨rfl, rfl⟩ := hw
    refine lv_dstore (lv' := [(7, .double (S_X7_clock σ (xs (6 * i + 1))).1), (6, .int r), (5, .int (nI (6 * i))), (4, .ref (ead E 36)), (3, .ref (ead E 35)), (2, .ref (ead E 15)), (1, .ref (ead E 0)), (0, .ref b)]) C.x C.b dL_law_1189 hl (by decide) rfl (fun ls hl => ?_)
    refine lv_aload_n C.x C.b dL_law_1191 rfl (lv_at hl 5 rfl) ?_
    have okt : OK E (S_X7_clock σ (xs (6 * i + 1))).2 := bq5.ok rfl
    refine caVi (As := []) (rest := []) (q0 := 15) (ci := 7) C h (M_X7_thrown l D _ _ okt) cw_L_88 m_im_X7_thrown m_se_X7_thrown rfl rfl ⟨Nat.le_of_ble_eq_true rfl, Nat.le_of_ble_eq_true rfl⟩ rfl rfl hl rfl (Nat.le_of_ble_eq_true rfl) dL_law_1192 ⟨by show cells + 10 + 0 + 0 ≤ 601024; omega, by show slots + 60 + 0 + 0 ≤ 7293034; omega⟩ (fun r3 u H locs hw h => ?_)
    obtain ⟨rfl, rfl⟩ := hw
    refine lv_iload C.x C.b dL_law_1195 (lv_at hl 1 rfl) ?_
    have ek : S_X7_thrown (S_X7_clock σ (xs (6 * i + 1))).2 = r := bq1.trans hr
    refine lv_icmp_eq (tgt := 1202) C.x C.b dL_law_1197 (by decide) (fun _ => ?_) (fun q => absurd ek q)
    refine lv_iload C.x C.b dL_law_1202 (lv_at hl 1 rfl) ?_
    refine lv_if_ne (tgt := 1239) C.x C.b dL_law_1204 (by decide) (fun _ => ?_) (fun q => absurd (hr.trans q) (wcd_ne e0))
    refine lv_goto (tgt := 1410) C.x C.b dL_law_1239 (by decide) ?_
    exact B E (S_X7_clock σ (xs (6 * i + 1))).2 mm H locs _ _ ls C h bq5 (by omega) (by show cells + 10 + 0 + 0 ≤ _; omega) (by show slots + 60 + 0 + 0 ≤ _; omega) (lv_sub hl [2, 3, 4, 5, 6, 7] rfl)
theorem cl_L_whyNot : CLd RL 147 yL_whyNot cL_whyNot 4 [(0, 9, 12, 19)] 3 := ⟨m_ml_L_147, m_cw_L_whyNot, m_ini_L, by decide +kernel, by decide +kernel, m_st_L_whyNot⟩
theorem B_whyNot {σ : St} {m n c : Nat} (h : RR σ σ m n c) (p1 : Int32) : BQ (LST (S_X6_whyNot σ p1) σ) m n c 1 9 n (S_X6_whyNot σ p1) (S_X7_whyNot (LST (S_X6_whyNot σ p1) σ) p1) :=
  BLx (A_whyNot (h.lst (fun f i q => F6_whyNot q σ p1)) p1) (fun f i q => F7_whyNot q _ p1)
theorem O_whyNot {σ : St} {m n c : Nat} {E1 : En} (h : RR σ σ m n c) (p1 : Int32) (e0 : (S_X6_whyNot σ p1).1 = 0) (hn : n = en E1) : OK E1 (S_X6_whyNot σ p1).2.2 :=
  OKx h (A_whyNot h p1) (fun f i q => F6_whyNot q σ p1) e0 hn (by omega)
theorem cw_L_149 : CWd RL 149 yX7_whyNot cX7_whyNot 2 (some .int) 1 := ⟨m_ml_L_149, m_co_X7_whyNot, m_ini_X7, by decide +kernel, by decide +kernel⟩
set_option maxRecDepth 100000 in
set_option maxHeartbeats 4000000 in
theorem case_whyNot {p : Program} {l : Launch} (hfl : l.stackTraces = false) {e : Env} {s : State} {m : MethodId} {args : Array Value} {below : List Frame} {meth : Method} {c : Code} {Q : State → Prop} {D : va_G} {A : Nat → Prop} {b L i : Nat} {xs : Nat → Int32} (hX : va_X b L xs s s.heap) (hbl : b < s.heap.size) (hbA : ¬ A b) (hL : L ≤ 3072) (hi : 6 * i + 5 < L) (B : BK p l e s m args below meth c Q D A b i) {E : En} {σ : St} {mm : Nat} {H : Heap} {locs : List Loc} {cells slots : Nat} {ls : Array Slot} (C : CX p s m meth c cL_law RL 9 D E A) (h : HW D E σ A s H locs) (hR : RR σ σ mm (en E) i) (hm : mm ≤ 500 * i) (hc : cells ≤ 64 + 10 * i) (hs : slots ≤ 512 + 60 * i) (hl : lv_has ls 9 (LV E b i)) : W p l e room_1 s m args below meth c H locs cells slots Q (F0 m 1242 ls []) := by
  have ok := hR.ok rfl
  have hl : lv_has ls 9 [(5, .int (nI (6 * i))), (4, .ref (ead E 36)), (3, .ref (ead E 35)), (2, .ref (ead E 15)), (1, .ref (ead E 0)), (0, .ref b)] := hl
  refine lv_aload_n C.x C.b dL_law_1242 rfl (lv_at hl 4 rfl) ?_
  refine lv_aload_n C.x C.b dL_law_1243 rfl (lv_at hl 5 rfl) ?_
  refine lv_iload C.x C.b dL_law_1244 (lv_at hl 0 rfl) ?_
  refine lv_iconst (v := 1) C.x C.b dL_law_1246 (by decide) ?_
  refine lv_iadd C.x C.b dL_law_1247 ?_
  refine ldS (j := 6 * i + 1) C h hX hbl hbA hL (by omega) (nI_add (6 * i) 1) dL_law_1248 ?_
  refine lv_aload_n C.x C.b dL_law_1249 rfl (lv_at hl 2 rfl) ?_
  refine caL (As := [.ref (ead E 0), .int (xs (6 * i + 1)), .ref (ead E 35)]) (rest := []) C h (M_L_whyNot l hfl D E σ ok (xs (6 * i + 1))) cl_L_whyNot rfl rfl ⟨Nat.le_of_ble_eq_true rfl, Nat.le_of_ble_eq_true rfl⟩ hl rfl (Nat.le_of_ble_eq_true rfl) dL_law_1250 ⟨by show cells + 10 ≤ 601024; omega, by show slots + 60 ≤ 7293034; omega⟩ (fun r u H locs hp h => ?_)
  obtain ⟨hr, hp0, hp1⟩ := hp
  have Bq := B_whyNot hR (xs (6 * i + 1))
  by_cases e0 : (S_X6_whyNot σ (xs (6 * i + 1))).1 = 0
  · obtain rfl := hp0 e0
    have eS : LST (S_X6_whyNot σ (xs (6 * i + 1))) σ = (S_X6_whyNot σ (xs (6 * i + 1))).2.2 := if_pos e0
    rw [eS] at Bq
    obtain ⟨bq1, bq2, -⟩ := Bq
    obtain ⟨bq3, m', bq4, bq5⟩ := bq2 e0
    have okm : OK (setO E (S_X6_whyNot σ (xs (6 * i + 1))).2.1.toInt64) (S_X6_whyNot σ (xs (6 * i + 1))).2.2 := O_whyNot hR (xs (6 * i + 1)) e0 rfl
    have C : CX p s m meth c cL_law RL 9 D (setO E (S_X6_whyNot σ (xs (6 * i + 1))).2.1.toInt64) A := C
    have h : HW D (setO E (S_X6_whyNot σ (xs (6 * i + 1))).2.1.toInt64) (S_X6_whyNot σ (xs (6 * i + 1))).2.2 A s H locs := h
    have hl : lv_has ls 9 [(5, .int (nI (6 * i))), (4, .ref (ead (setO E (S_X6_whyNot σ (xs (6 * i + 1))).2.1.toInt64) 36)), (3, .ref (ead (setO E (S_X6_whyNot σ (xs (6 * i + 1))).2.1.toInt64) 35)), (2, .ref (ead (setO E (S_X6_whyNot σ (xs (6 * i + 1))).2.1.toInt64) 15)), (1, .ref (ead (setO E (S_X6_whyNot σ (xs (6 * i + 1))).2.1.toInt64) 0)), (0, .ref b)] := hl
    refine lv_istore (lv' := [(6, .int r), (5, .int (nI (6 * i))), (4, .ref (ead (setO E (S_X6_whyNot σ (xs (6 * i + 1))).2.1.toInt64) 36)), (3, .ref (ead (setO E (S_X6_whyNot σ (xs (6 * i + 1))).2.1.toInt64) 35)), (2, .ref (ead (setO E (S_X6_whyNot σ (xs (6 * i + 1))).2.1.toInt64) 15)), (1, .ref (ead (setO E (S_X6_whyNot σ (xs (6 * i + 1))).2.1.toInt64) 0)), (0, .ref b)]) C.x C.b dL_law_1253 hl (by decide) rfl (fun ls hl => ?_)
    refine lv_aload_n C.x C.b dL_law_1255 rfl (lv_at hl 4 rfl) ?_
    refine lv_aload_n C.x C.b dL_law_1256 rfl (lv_at hl 6 rfl) ?_
    refine lv_iload C.x C.b dL_law_1257 (lv_at hl 1 rfl) ?_
    refine lv_iconst (v := 1) C.x C.b dL_law_1259 (by decide) ?_
    refine lv_iadd C.x C.b dL_law_1260 ?_
    refine ldS (j := 6 * i + 1) C h hX hbl hbA hL (by omega) (nI_add (6 * i) 1) dL_law_1261 ?_
    refine caVi (As := [.int (xs (6 * i + 1))]) (rest := []) (q0 := 15) (ci := 7) C h (M_X7_whyNot l D _ _ okm (xs (6 * i + 1))) cw_L_149 m_im_X7_whyNot m_se_X7_whyNot rfl rfl ⟨Nat.le_of_ble_eq_true rfl, Nat.le_of_ble_eq_true rfl⟩ rfl rfl hl rfl (Nat.le_of_ble_eq_true rfl) dL_law_1262 ⟨by show cells + 10 + 0 ≤ 601024; omega, by show slots + 60 + 0 ≤ 7293034; omega⟩ (fun r2 u H locs hw h => ?_)
    obtain ⟨rfl, rfl⟩ := hw
    refine lv_istore (lv' := [(7, .int (S_X7_whyNot (S_X6_whyNot σ (xs (6 * i + 1))).2.2 (xs (6 * i + 1))).1), (6, .int r), (5, .int (nI (6 * i))), (4, .ref (ead (setO E (S_X6_whyNot σ (xs (6 * i + 1))).2.1.toInt64) 36)), (3, .ref (ead (setO E (S_X6_whyNot σ (xs (6 * i + 1))).2.1.toInt64) 35)), (2, .ref (ead (setO E (S_X6_whyNot σ (xs (6 * i + 1))).2.1.toInt64) 15)), (1, .ref (ead (setO E (S_X6_whyNot σ (xs (6 * i + 1))).2.1.toInt64) 0)), (0, .ref b)]) C.x C.b dL_law_1265 hl (by decide) rfl (fun ls hl => ?_)
    refine lv_aload_n C.x C.b dL_law_1267 rfl (lv_at hl 5 rfl) ?_
    have okt : OK (setO E (S_X6_whyNot σ (xs (6 * i + 1))).2.1.toInt64) (S_X7_whyNot (S_X6_whyNot σ (xs (6 * i + 1))).2.2 (xs (6 * i + 1))).2 := bq5.ok rfl
    refine caVi (As := []) (rest := []) (q0 := 15) (ci := 7) C h (M_X7_thrown l D _ _ okt) cw_L_88 m_im_X7_thrown m_se_X7_thrown rfl rfl ⟨Nat.le_of_ble_eq_true rfl, Nat.le_of_ble_eq_true rfl⟩ rfl rfl hl rfl (Nat.le_of_ble_eq_true rfl) dL_law_1268 ⟨by show cells + 10 + 0 + 0 ≤ 601024; omega, by show slots + 60 + 0 + 0 ≤ 7293034; omega⟩ (fun r3 u H locs hw h => ?_)
    obtain ⟨rfl, rfl⟩ := hw
    refine lv_iload C.x C.b dL_law_1271 (lv_at hl 1 rfl) ?_
    have ek : S_X7_thrown (S_X7_whyNot (S_X6_whyNot σ (xs (6 * i + 1))).2.2 (xs (6 * i + 1))).2 = r := bq1.trans hr
    refine lv_icmp_eq (tgt := 1278) C.x C.b dL_law_1273 (by decide) (fun _ => ?_) (fun q => absurd ek q)
    refine lv_iload C.x C.b dL_law_1278 (lv_at hl 1 rfl) ?_
    have er : r = 0 := by rw [← hr, e0]; rfl
    refine lv_if_ne (tgt := 1295) C.x C.b dL_law_1280 (by decide) (fun q => absurd er q) (fun _ => ?_)
    refine lv_aload_n C.x C.b dL_law_1283 rfl (lv_at hl 4 rfl) ?_
    refine lv_iconst (v := 0) C.x C.b dL_law_1284 (by decide) ?_
    refine ldL C h dL_law_1285 ?_
    refine lv_iload C.x C.b dL_law_1286 (lv_at hl 0 rfl) ?_
    refine lv_i2l (v := (S_X7_whyNot (S_X6_whyNot σ (xs (6 * i + 1))).2.2 (xs (6 * i + 1))).1.toInt64) C.x C.b dL_law_1288 rfl ?_
    refine lcE C (show (S_X6_whyNot σ (xs (6 * i + 1))).2.1.toInt64 = (S_X7_whyNot (S_X6_whyNot σ (xs (6 * i + 1))).2.2 (xs (6 * i + 1))).1.toInt64 by rw [bq3]) dL_law_1289 ?_
    refine lv_if_eq (tgt := 1295) C.x C.b dL_law_1290 (by decide) (fun _ => ?_) (fun q => absurd rfl q)
    refine lv_goto (tgt := 1410) C.x C.b dL_law_1295 (by decide) ?_
    exact B (setO E (S_X6_whyNot σ (xs (6 * i + 1))).2.1.toInt64) (S_X7_whyNot (S_X6_whyNot σ (xs (6 * i + 1))).2.2 (xs (6 * i + 1))).2 m' H locs _ _ ls C h bq5 (by omega) (by show cells + 10 + 0 + 0 ≤ _; omega) (by show slots + 60 + 0 + 0 ≤ _; omega) (lv_sub hl [2, 3, 4, 5, 6, 7] rfl)
  · obtain rfl := hp1 e0
    have eS : LST (S_X6_whyNot σ (xs (6 * i + 1))) σ = σ := if_neg e0
    rw [eS] at Bq
    obtain ⟨bq1, -, bq2⟩ := Bq
    have bq5 := bq2 e0
    have okm : OK E σ := ok
    have C : CX p s m meth c cL_law RL 9 D E A := C
    have h : HW D E σ A s H locs := h
    have hl : lv_has ls 9 [(5, .int (nI (6 * i))), (4, .ref (ead E 36)), (3, .ref (ead E 35)), (2, .ref (ead E 15)), (1, .ref (ead E 0)), (0, .ref b)] := hl
    refine lv_istore (lv' := [(6, .int r), (5, .int (nI (6 * i))), (4, .ref (ead E 36)), (3, .ref (ead E 35)), (2, .ref (ead E 15)), (1, .ref (ead E 0)), (0, .ref b)]) C.x C.b dL_law_1253 hl (by decide) rfl (fun ls hl => ?_)
    refine lv_aload_n C.x C.b dL_law_1255 rfl (lv_at hl 4 rfl) ?_
    refine lv_aload_n C.x C.b dL_law_1256 rfl (lv_at hl 6 rfl) ?_
    refine lv_iload C.x C.b dL_law_1257 (lv_at hl 1 rfl) ?_
    refine lv_iconst (v := 1) C.x C.b dL_law_1259 (by decide) ?_
    refine lv_iadd C.x C.b dL_law_1260 ?_
    refine ldS (j := 6 * i + 1) C h hX hbl hbA hL (by omega) (nI_add (6 * i) 1) dL_law_1261 ?_
    refine caVi (As := [.int (xs (6 * i + 1))]) (rest := []) (q0 := 15) (ci := 7) C h (M_X7_whyNot l D _ _ okm (xs (6 * i + 1))) cw_L_149 m_im_X7_whyNot m_se_X7_whyNot rfl rfl ⟨Nat.le_of_ble_eq_true rfl, Nat.le_of_ble_eq_true rfl⟩ rfl rfl hl rfl (Nat.le_of_ble_eq_true rfl) dL_law_1262 ⟨by show cells + 10 + 0 ≤ 601024; omega, by show slots + 60 + 0 ≤ 7293034; omega⟩ (fun r2 u H locs hw h => ?_)
    obtain ⟨rfl, rfl⟩ := hw
    refine lv_istore (lv' := [(7, .int (S_X7_whyNot σ (xs (6 * i + 1))).1), (6, .int r), (5, .int (nI (6 * i))), (4, .ref (ead E 36)), (3, .ref (ead E 35)), (2, .ref (ead E 15)), (1, .ref (ead E 0)), (0, .ref b)]) C.x C.b dL_law_1265 hl (by decide) rfl (fun ls hl => ?_)
    refine lv_aload_n C.x C.b dL_law_1267 rfl (lv_at hl 5 rfl) ?_
    have okt : OK E (S_X7_whyNot σ (xs (6 * i + 1))).2 := bq5.ok rfl
    refine caVi (As := []) (rest := []) (q0 := 15) (ci := 7) C h (M_X7_thrown l D _ _ okt) cw_L_88 m_im_X7_thrown m_se_X7_thrown rfl rfl ⟨Nat.le_of_ble_eq_true rfl, Nat.le_of_ble_eq_true rfl⟩ rfl rfl hl rfl (Nat.le_of_ble_eq_true rfl) dL_law_1268 ⟨by show cells + 10 + 0 + 0 ≤ 601024; omega, by show slots + 60 + 0 + 0 ≤ 7293034; omega⟩ (fun r3 u H locs hw h => ?_)
    obtain ⟨rfl, rfl⟩ := hw
    refine lv_iload C.x C.b dL_law_1271 (lv_at hl 1 rfl) ?_
    have ek : S_X7_thrown (S_X7_whyNot σ (xs (6 * i + 1))).2 = r := bq1.trans hr
    refine lv_icmp_eq (tgt := 1278) C.x C.b dL_law_1273 (by decide) (fun _ => ?_) (fun q => absurd ek q)
    refine lv_iload C.x C.b dL_law_1278 (lv_at hl 1 rfl) ?_
    refine lv_if_ne (tgt := 1295) C.x C.b dL_law_1280 (by decide) (fun _ => ?_) (fun q => absurd (hr.trans q) (wcd_ne e0))
    refine lv_goto (tgt := 1410) C.x C.b dL_law_1295 (by decide) ?_
    exact B E (S_X7_whyNot σ (xs (6 * i + 1))).2 mm H locs _ _ ls C h bq5 (by omega) (by show cells + 10 + 0 + 0 ≤ _; omega) (by show slots + 60 + 0 + 0 ≤ _; omega) (lv_sub hl [2, 3, 4, 5, 6, 7] rfl)
theorem cl_L_queue : CLd RL 150 yL_queue cL_queue 4 [(0, 9, 12, 19)] 3 := ⟨m_ml_L_150, m_cw_L_queue, m_ini_L, by decide +kernel, by decide +kernel, m_st_L_queue⟩
theorem B_queue {σ : St} {m n c : Nat} (h : RR σ σ m n c) (p1 : Int32) : BQ (LST (S_X6_queue σ p1) σ) m n c 1 9 n (S_X6_queue σ p1) (S_X7_queue (LST (S_X6_queue σ p1) σ) p1) :=
  BLx (A_queue (h.lst (fun f i q => F6_queue q σ p1)) p1) (fun f i q => F7_queue q _ p1)
theorem O_queue {σ : St} {m n c : Nat} {E1 : En} (h : RR σ σ m n c) (p1 : Int32) (e0 : (S_X6_queue σ p1).1 = 0) (hn : n = en E1) : OK E1 (S_X6_queue σ p1).2.2 :=
  OKx h (A_queue h p1) (fun f i q => F6_queue q σ p1) e0 hn (by omega)
theorem cw_L_152 : CWd RL 152 yX7_queue cX7_queue 4 (some .int) 1 := ⟨m_ml_L_152, m_co_X7_queue, m_ini_X7, by decide +kernel, by decide +kernel⟩
set_option maxRecDepth 100000 in
set_option maxHeartbeats 4000000 in
theorem case_queue {p : Program} {l : Launch} (hfl : l.stackTraces = false) {e : Env} {s : State} {m : MethodId} {args : Array Value} {below : List Frame} {meth : Method} {c : Code} {Q : State → Prop} {D : va_G} {A : Nat → Prop} {b L i : Nat} {xs : Nat → Int32} (hX : va_X b L xs s s.heap) (hbl : b < s.heap.size) (hbA : ¬ A b) (hL : L ≤ 3072) (hi : 6 * i + 5 < L) (B : BK p l e s m args below meth c Q D A b i) {E : En} {σ : St} {mm : Nat} {H : Heap} {locs : List Loc} {cells slots : Nat} {ls : Array Slot} (C : CX p s m meth c cL_law RL 9 D E A) (h : HW D E σ A s H locs) (hR : RR σ σ mm (en E) i) (hm : mm ≤ 500 * i) (hc : cells ≤ 64 + 10 * i) (hs : slots ≤ 512 + 60 * i) (hl : lv_has ls 9 (LV E b i)) : W p l e room_1 s m args below meth c H locs cells slots Q (F0 m 1298 ls []) := by
  have ok := hR.ok rfl
  have hl : lv_has ls 9 [(5, .int (nI (6 * i))), (4, .ref (ead E 36)), (3, .ref (ead E 35)), (2, .ref (ead E 15)), (1, .ref (ead E 0)), (0, .ref b)] := hl
  refine lv_aload_n C.x C.b dL_law_1298 rfl (lv_at hl 4 rfl) ?_
  refine lv_aload_n C.x C.b dL_law_1299 rfl (lv_at hl 5 rfl) ?_
  refine lv_iload C.x C.b dL_law_1300 (lv_at hl 0 rfl) ?_
  refine lv_iconst (v := 1) C.x C.b dL_law_1302 (by decide) ?_
  refine lv_iadd C.x C.b dL_law_1303 ?_
  refine ldS (j := 6 * i + 1) C h hX hbl hbA hL (by omega) (nI_add (6 * i) 1) dL_law_1304 ?_
  refine lv_aload_n C.x C.b dL_law_1305 rfl (lv_at hl 2 rfl) ?_
  refine caL (As := [.ref (ead E 0), .int (xs (6 * i + 1)), .ref (ead E 35)]) (rest := []) C h (M_L_queue l hfl D E σ ok (xs (6 * i + 1))) cl_L_queue rfl rfl ⟨Nat.le_of_ble_eq_true rfl, Nat.le_of_ble_eq_true rfl⟩ hl rfl (Nat.le_of_ble_eq_true rfl) dL_law_1306 ⟨by show cells + 10 ≤ 601024; omega, by show slots + 60 ≤ 7293034; omega⟩ (fun r u H locs hp h => ?_)
  obtain ⟨hr, hp0, hp1⟩ := hp
  have Bq := B_queue hR (xs (6 * i + 1))
  by_cases e0 : (S_X6_queue σ (xs (6 * i + 1))).1 = 0
  · obtain rfl := hp0 e0
    have eS : LST (S_X6_queue σ (xs (6 * i + 1))) σ = (S_X6_queue σ (xs (6 * i + 1))).2.2 := if_pos e0
    rw [eS] at Bq
    obtain ⟨bq1, bq2, -⟩ := Bq
    obtain ⟨bq3, m', bq4, bq5⟩ := bq2 e0
    have okm : OK (setO E (S_X6_queue σ (xs (6 * i + 1))).2.1.toInt64) (S_X6_queue σ (xs (6 * i + 1))).2.2 := O_queue hR (xs (6 * i + 1)) e0 rfl
    have C : CX p s m meth c cL_law RL 9 D (setO E (S_X6_queue σ (xs (6 * i + 1))).2.1.toInt64) A := C
    have h : HW D (setO E (S_X6_queue σ (xs (6 * i + 1))).2.1.toInt64) (S_X6_queue σ (xs (6 * i + 1))).2.2 A s H locs := h
    have hl : lv_has ls 9 [(5, .int (nI (6 * i))), (4, .ref (ead (setO E (S_X6_queue σ (xs (6 * i + 1))).2.1.toInt64) 36)), (3, .ref (ead (setO E (S_X6_queue σ (xs (6 * i + 1))).2.1.toInt64) 35)), (2, .ref (ead (setO E (S_X6_queue σ (xs (6 * i + 1))).2.1.toInt64) 15)), (1, .ref (ead (setO E (S_X6_queue σ (xs (6 * i + 1))).2.1.toInt64) 0)), (0, .ref b)] := hl
    refine lv_istore (lv' := [(6, .int r), (5, .int (nI (6 * i))), (4, .ref (ead (setO E (S_X6_queue σ (xs (6 * i + 1))).2.1.toInt64) 36)), (3, .ref (ead (setO E (S_X6_queue σ (xs (6 * i + 1))).2.1.toInt64) 35)), (2, .ref (ead (setO E (S_X6_queue σ (xs (6 * i + 1))).2.1.toInt64) 15)), (1, .ref (ead (setO E (S_X6_queue σ (xs (6 * i + 1))).2.1.toInt64) 0)), (0, .ref b)]) C.x C.b dL_law_1309 hl (by decide) rfl (fun ls hl => ?_)
    refine lv_aload_n C.x C.b dL_law_1311 rfl (lv_at hl 4 rfl) ?_
    refine lv_aload_n C.x C.b dL_law_1312 rfl (lv_at hl 6 rfl) ?_
    refine lv_iload C.x C.b dL_law_1313 (lv_at hl 1 rfl) ?_
    refine lv_iconst (v := 1) C.x C.b dL_law_1315 (by decide) ?_
    refine lv_iadd C.x C.b dL_law_1316 ?_
    refine ldS (j := 6 * i + 1) C h hX hbl hbA hL (by omega) (nI_add (6 * i) 1) dL_law_1317 ?_
    refine caVi (As := [.int (xs (6 * i + 1))]) (rest := []) (q0 := 15) (ci := 7) C h (M_X7_queue l D _ _ okm (xs (6 * i + 1))) cw_L_152 m_im_X7_queue m_se_X7_queue rfl rfl ⟨Nat.le_of_ble_eq_true rfl, Nat.le_of_ble_eq_true rfl⟩ rfl rfl hl rfl (Nat.le_of_ble_eq_true rfl) dL_law_1318 ⟨by show cells + 10 + 0 ≤ 601024; omega, by show slots + 60 + 0 ≤ 7293034; omega⟩ (fun r2 u H locs hw h => ?_)
    obtain ⟨rfl, rfl⟩ := hw
    refine lv_istore (lv' := [(7, .int (S_X7_queue (S_X6_queue σ (xs (6 * i + 1))).2.2 (xs (6 * i + 1))).1), (6, .int r), (5, .int (nI (6 * i))), (4, .ref (ead (setO E (S_X6_queue σ (xs (6 * i + 1))).2.1.toInt64) 36)), (3, .ref (ead (setO E (S_X6_queue σ (xs (6 * i + 1))).2.1.toInt64) 35)), (2, .ref (ead (setO E (S_X6_queue σ (xs (6 * i + 1))).2.1.toInt64) 15)), (1, .ref (ead (setO E (S_X6_queue σ (xs (6 * i + 1))).2.1.toInt64) 0)), (0, .ref b)]) C.x C.b dL_law_1321 hl (by decide) rfl (fun ls hl => ?_)
    refine lv_aload_n C.x C.b dL_law_1323 rfl (lv_at hl 5 rfl) ?_
    have okt : OK (setO E (S_X6_queue σ (xs (6 * i + 1))).2.1.toInt64) (S_X7_queue (S_X6_queue σ (xs (6 * i + 1))).2.2 (xs (6 * i + 1))).2 := bq5.ok rfl
    refine caVi (As := []) (rest := []) (q0 := 15) (ci := 7) C h (M_X7_thrown l D _ _ okt) cw_L_88 m_im_X7_thrown m_se_X7_thrown rfl rfl ⟨Nat.le_of_ble_eq_true rfl, Nat.le_of_ble_eq_true rfl⟩ rfl rfl hl rfl (Nat.le_of_ble_eq_true rfl) dL_law_1324 ⟨by show cells + 10 + 0 + 0 ≤ 601024; omega, by show slots + 60 + 0 + 0 ≤ 7293034; omega⟩ (fun r3 u H locs hw h => ?_)
    obtain ⟨rfl, rfl⟩ := hw
    refine lv_iload C.x C.b dL_law_1327 (lv_at hl 1 rfl) ?_
    have ek : S_X7_thrown (S_X7_queue (S_X6_queue σ (xs (6 * i + 1))).2.2 (xs (6 * i + 1))).2 = r := bq1.trans hr
    refine lv_icmp_eq (tgt := 1334) C.x C.b dL_law_1329 (by decide) (fun _ => ?_) (fun q => absurd ek q)
    refine lv_iload C.x C.b dL_law_1334 (lv_at hl 1 rfl) ?_
    have er : r = 0 := by rw [← hr, e0]; rfl
    refine lv_if_ne (tgt := 1351) C.x C.b dL_law_1336 (by decide) (fun q => absurd er q) (fun _ => ?_)
    refine lv_aload_n C.x C.b dL_law_1339 rfl (lv_at hl 4 rfl) ?_
    refine lv_iconst (v := 0) C.x C.b dL_law_1340 (by decide) ?_
    refine ldL C h dL_law_1341 ?_
    refine lv_iload C.x C.b dL_law_1342 (lv_at hl 0 rfl) ?_
    refine lv_i2l (v := (S_X7_queue (S_X6_queue σ (xs (6 * i + 1))).2.2 (xs (6 * i + 1))).1.toInt64) C.x C.b dL_law_1344 rfl ?_
    refine lcE C (show (S_X6_queue σ (xs (6 * i + 1))).2.1.toInt64 = (S_X7_queue (S_X6_queue σ (xs (6 * i + 1))).2.2 (xs (6 * i + 1))).1.toInt64 by rw [bq3]) dL_law_1345 ?_
    refine lv_if_eq (tgt := 1351) C.x C.b dL_law_1346 (by decide) (fun _ => ?_) (fun q => absurd rfl q)
    refine lv_goto (tgt := 1410) C.x C.b dL_law_1351 (by decide) ?_
    exact B (setO E (S_X6_queue σ (xs (6 * i + 1))).2.1.toInt64) (S_X7_queue (S_X6_queue σ (xs (6 * i + 1))).2.2 (xs (6 * i + 1))).2 m' H locs _ _ ls C h bq5 (by omega) (by show cells + 10 + 0 + 0 ≤ _; omega) (by show slots + 60 + 0 + 0 ≤ _; omega) (lv_sub hl [2, 3, 4, 5, 6, 7] rfl)
  · obtain rfl := hp1 e0
    have eS : LST (S_X6_queue σ (xs (6 * i + 1))) σ = σ := if_neg e0
    rw [eS] at Bq
    obtain ⟨bq1, -, bq2⟩ := Bq
    have bq5 := bq2 e0
    have okm : OK E σ := ok
    have C : CX p s m meth c cL_law RL 9 D E A := C
    have h : HW D E σ A s H locs := h
    have hl : lv_has ls 9 [(5, .int (nI (6 * i))), (4, .ref (ead E 36)), (3, .ref (ead E 35)), (2, .ref (ead E 15)), (1, .ref (ead E 0)), (0, .ref b)] := hl
    refine lv_istore (lv' := [(6, .int r), (5, .int (nI (6 * i))), (4, .ref (ead E 36)), (3, .ref (ead E 35)), (2, .ref (ead E 15)), (1, .ref (ead E 0)), (0, .ref b)]) C.x C.b dL_law_1309 hl (by decide) rfl (fun ls hl => ?_)
    refine lv_aload_n C.x C.b dL_law_1311 rfl (lv_at hl 4 rfl) ?_
    refine lv_aload_n C.x C.b dL_law_1312 rfl (lv_at hl 6 rfl) ?_
    refine lv_iload C.x C.b dL_law_1313 (lv_at hl 1 rfl) ?_
    refine lv_iconst (v := 1) C.x C.b dL_law_1315 (by decide) ?_
    refine lv_iadd C.x C.b dL_law_1316 ?_
    refine ldS (j := 6 * i + 1) C h hX hbl hbA hL (by omega) (nI_add (6 * i) 1) dL_law_1317 ?_
    refine caVi (As := [.int (xs (6 * i + 1))]) (rest := []) (q0 := 15) (ci := 7) C h (M_X7_queue l D _ _ okm (xs (6 * i + 1))) cw_L_152 m_im_X7_queue m_se_X7_queue rfl rfl ⟨Nat.le_of_ble_eq_true rfl, Nat.le_of_ble_eq_true rfl⟩ rfl rfl hl rfl (Nat.le_of_ble_eq_true rfl) dL_law_1318 ⟨by show cells + 10 + 0 ≤ 601024; omega, by show slots + 60 + 0 ≤ 7293034; omega⟩ (fun r2 u H locs hw h => ?_)
    obtain ⟨rfl, rfl⟩ := hw
    refine lv_istore (lv' := [(7, .int (S_X7_queue σ (xs (6 * i + 1))).1), (6, .int r), (5, .int (nI (6 * i))), (4, .ref (ead E 36)), (3, .ref (ead E 35)), (2, .ref (ead E 15)), (1, .ref (ead E 0)), (0, .ref b)]) C.x C.b dL_law_1321 hl (by decide) rfl (fun ls hl => ?_)
    refine lv_aload_n C.x C.b dL_law_1323 rfl (lv_at hl 5 rfl) ?_
    have okt : OK E (S_X7_queue σ (xs (6 * i + 1))).2 := bq5.ok rfl
    refine caVi (As := []) (rest := []) (q0 := 15) (ci := 7) C h (M_X7_thrown l D _ _ okt) cw_L_88 m_im_X7_thrown m_se_X7_thrown rfl rfl ⟨Nat.le_of_ble_eq_true rfl, Nat.le_of_ble_eq_true rfl⟩ rfl rfl hl rfl (Nat.le_of_ble_eq_true rfl) dL_law_1324 ⟨by show cells + 10 + 0 + 0 ≤ 601024; omega, by show slots + 60 + 0 + 0 ≤ 7293034; omega⟩ (fun r3 u H locs hw h => ?_)
    obtain ⟨rfl, rfl⟩ := hw
    refine lv_iload C.x C.b dL_law_1327 (lv_at hl 1 rfl) ?_
    have ek : S_X7_thrown (S_X7_queue σ (xs (6 * i + 1))).2 = r := bq1.trans hr
    refine lv_icmp_eq (tgt := 1334) C.x C.b dL_law_1329 (by decide) (fun _ => ?_) (fun q => absurd ek q)
    refine lv_iload C.x C.b dL_law_1334 (lv_at hl 1 rfl) ?_
    refine lv_if_ne (tgt := 1351) C.x C.b dL_law_1336 (by decide) (fun _ => ?_) (fun q => absurd (hr.trans q) (wcd_ne e0))
    refine lv_goto (tgt := 1410) C.x C.b dL_law_1351 (by decide) ?_
    exact B E (S_X7_queue σ (xs (6 * i + 1))).2 mm H locs _ _ ls C h bq5 (by omega) (by show cells + 10 + 0 + 0 ≤ _; omega) (by show slots + 60 + 0 + 0 ≤ _; omega) (lv_sub hl [2, 3, 4, 5, 6, 7] rfl)
theorem cl_L_sum : CLd RL 153 yL_sum cL_sum 4 [(0, 9, 12, 13)] 3 := ⟨m_ml_L_153, m_cw_L_sum, m_ini_L, by decide +kernel, by decide +kernel, m_st_L_sum⟩
theorem B_sum {σ : St} {m n c : Nat} (h : RR σ σ m n c) (p1 : Int32) : BQ (LST (S_X6_sum σ p1) σ) m n c 2 9 n (S_X6_sum σ p1) (S_X7_sum (LST (S_X6_sum σ p1) σ) p1) :=
  BLx (A_sum (h.lst (fun f i q => F6_sum q σ p1)) p1) (fun f i q => F7_sum q _ p1)
theorem O_sum {σ : St} {m n c : Nat} {E1 : En} (h : RR σ σ m n c) (p1 : Int32) (e0 : (S_X6_sum σ p1).1 = 0) (hn : n = en E1) : OK E1 (S_X6_sum σ p1).2.2 :=
  OKx h (A_sum h p1) (fun f i q => F6_sum q σ p1) e0 hn (by omega)
theorem cw_L_155 : CWd RL 155 yX7_sum cX7_sum 4 (some .int) 1 := ⟨m_ml_L_155, m_co_X7_sum, m_ini_X7, by decide +kernel, by decide +kernel⟩
set_option maxRecDepth 100000 in
set_option maxHeartbeats 4000000 in
theorem case_sum {p : Program} {l : Launch} (hfl : l.stackTraces = false) {e : Env} {s : State} {m : MethodId} {args : Array Value} {below : List Frame} {meth : Method} {c : Code} {Q : State → Prop} {D : va_G} {A : Nat → Prop} {b L i : Nat} {xs : Nat → Int32} (hX : va_X b L xs s s.heap) (hbl : b < s.heap.size) (hbA : ¬ A b) (hL : L ≤ 3072) (hi : 6 * i + 5 < L) (B : BK p l e s m args below meth c Q D A b i) {E : En} {σ : St} {mm : Nat} {H : Heap} {locs : List Loc} {cells slots : Nat} {ls : Array Slot} (C : CX p s m meth c cL_law RL 9 D E A) (h : HW D E σ A s H locs) (hR : RR σ σ mm (en E) i) (hm : mm ≤ 500 * i) (hc : cells ≤ 64 + 10 * i) (hs : slots ≤ 512 + 60 * i) (hl : lv_has ls 9 (LV E b i)) : W p l e room_1 s m args below meth c H locs cells slots Q (F0 m 1354 ls []) := by
  have ok := hR.ok rfl
  have hl : lv_has ls 9 [(5, .int (nI (6 * i))), (4, .ref (ead E 36)), (3, .ref (ead E 35)), (2, .ref (ead E 15)), (1, .ref (ead E 0)), (0, .ref b)] := hl
  refine lv_aload_n C.x C.b dL_law_1354 rfl (lv_at hl 4 rfl) ?_
  refine lv_aload_n C.x C.b dL_law_1355 rfl (lv_at hl 5 rfl) ?_
  refine lv_iload C.x C.b dL_law_1356 (lv_at hl 0 rfl) ?_
  refine lv_iconst (v := 1) C.x C.b dL_law_1358 (by decide) ?_
  refine lv_iadd C.x C.b dL_law_1359 ?_
  refine ldS (j := 6 * i + 1) C h hX hbl hbA hL (by omega) (nI_add (6 * i) 1) dL_law_1360 ?_
  refine lv_aload_n C.x C.b dL_law_1361 rfl (lv_at hl 2 rfl) ?_
  refine caL (As := [.ref (ead E 0), .int (xs (6 * i + 1)), .ref (ead E 35)]) (rest := []) C h (M_L_sum l hfl D E σ ok (xs (6 * i + 1))) cl_L_sum rfl rfl ⟨Nat.le_of_ble_eq_true rfl, Nat.le_of_ble_eq_true rfl⟩ hl rfl (Nat.le_of_ble_eq_true rfl) dL_law_1362 ⟨by show cells + 10 ≤ 601024; omega, by show slots + 60 ≤ 7293034; omega⟩ (fun r u H locs hp h => ?_)
  obtain ⟨hr, hp0, hp1⟩ := hp
  have Bq := B_sum hR (xs (6 * i + 1))
  by_cases e0 : (S_X6_sum σ (xs (6 * i + 1))).1 = 0
  · obtain rfl := hp0 e0
    have eS : LST (S_X6_sum σ (xs (6 * i + 1))) σ = (S_X6_sum σ (xs (6 * i + 1))).2.2 := if_pos e0
    rw [eS] at Bq
    obtain ⟨bq1, bq2, -⟩ := Bq
    obtain ⟨bq3, m', bq4, bq5⟩ := bq2 e0
    have okm : OK (setO E (S_X6_sum σ (xs (6 * i + 1))).2.1.toInt64) (S_X6_sum σ (xs (6 * i + 1))).2.2 := O_sum hR (xs (6 * i + 1)) e0 rfl
    have C : CX p s m meth c cL_law RL 9 D (setO E (S_X6_sum σ (xs (6 * i + 1))).2.1.toInt64) A := C
    have h : HW D (setO E (S_X6_sum σ (xs (6 * i + 1))).2.1.toInt64) (S_X6_sum σ (xs (6 * i + 1))).2.2 A s H locs := h
    have hl : lv_has ls 9 [(5, .int (nI (6 * i))), (4, .ref (ead (setO E (S_X6_sum σ (xs (6 * i + 1))).2.1.toInt64) 36)), (3, .ref (ead (setO E (S_X6_sum σ (xs (6 * i + 1))).2.1.toInt64) 35)), (2, .ref (ead (setO E (S_X6_sum σ (xs (6 * i + 1))).2.1.toInt64) 15)), (1, .ref (ead (setO E (S_X6_sum σ (xs (6 * i + 1))).2.1.toInt64) 0)), (0, .ref b)] := hl
    refine lv_istore (lv' := [(6, .int r), (5, .int (nI (6 * i))), (4, .ref (ead (setO E (S_X6_sum σ (xs (6 * i + 1))).2.1.toInt64) 36)), (3, .ref (ead (setO E (S_X6_sum σ (xs (6 * i + 1))).2.1.toInt64) 35)), (2, .ref (ead (setO E (S_X6_sum σ (xs (6 * i + 1))).2.1.toInt64) 15)), (1, .ref (ead (setO E (S_X6_sum σ (xs (6 * i + 1))).2.1.toInt64) 0)), (0, .ref b)]) C.x C.b dL_law_1365 hl (by decide) rfl (fun ls hl => ?_)
    refine lv_aload_n C.x C.b dL_law_1367 rfl (lv_at hl 4 rfl) ?_
    refine lv_aload_n C.x C.b dL_law_1368 rfl (lv_at hl 6 rfl) ?_
    refine lv_iload C.x C.b dL_law_1369 (lv_at hl 1 rfl) ?_
    refine lv_iconst (v := 1) C.x C.b dL_law_1371 (by decide) ?_
    refine lv_iadd C.x C.b dL_law_1372 ?_
    refine ldS (j := 6 * i + 1) C h hX hbl hbA hL (by omega) (nI_add (6 * i) 1) dL_law_1373 ?_
    refine caVi (As := [.int (xs (6 * i + 1))]) (rest := []) (q0 := 15) (ci := 7) C h (M_X7_sum l D _ _ okm (xs (6 * i + 1))) cw_L_155 m_im_X7_sum m_se_X7_sum rfl rfl ⟨Nat.le_of_ble_eq_true rfl, Nat.le_of_ble_eq_true rfl⟩ rfl rfl hl rfl (Nat.le_of_ble_eq_true rfl) dL_law_1374 ⟨by show cells + 10 + 0 ≤ 601024; omega, by show slots + 60 + 0 ≤ 7293034; omega⟩ (fun r2 u H locs hw h => ?_)
    obtain ⟨rfl, rfl⟩ := hw
    refine lv_istore (lv' := [(7, .int (S_X7_sum (S_X6_sum σ (xs (6 * i + 1))).2.2 (xs (6 * i + 1))).1), (6, .int r), (5, .int (nI (6 * i))), (4, .ref (ead (setO E (S_X6_sum σ (xs (6 * i + 1))).2.1.toInt64) 36)), (3, .ref (ead (setO E (S_X6_sum σ (xs (6 * i + 1))).2.1.toInt64) 35)), (2, .ref (ead (setO E (S_X6_sum σ (xs (6 * i + 1))).2.1.toInt64) 15)), (1, .ref (ead (setO E (S_X6_sum σ (xs (6 * i + 1))).2.1.toInt64) 0)), (0, .ref b)]) C.x C.b dL_law_1377 hl (by decide) rfl (fun ls hl => ?_)
    refine lv_aload_n C.x C.b dL_law_1379 rfl (lv_at hl 5 rfl) ?_
    have okt : OK (setO E (S_X6_sum σ (xs (6 * i + 1))).2.1.toInt64) (S_X7_sum (S_X6_sum σ (xs (6 * i + 1))).2.2 (xs (6 * i + 1))).2 := bq5.ok rfl
    refine caVi (As := []) (rest := []) (q0 := 15) (ci := 7) C h (M_X7_thrown l D _ _ okt) cw_L_88 m_im_X7_thrown m_se_X7_thrown rfl rfl ⟨Nat.le_of_ble_eq_true rfl, Nat.le_of_ble_eq_true rfl⟩ rfl rfl hl rfl (Nat.le_of_ble_eq_true rfl) dL_law_1380 ⟨by show cells + 10 + 0 + 0 ≤ 601024; omega, by show slots + 60 + 0 + 0 ≤ 7293034; omega⟩ (fun r3 u H locs hw h => ?_)
    obtain ⟨rfl, rfl⟩ := hw
    refine lv_iload C.x C.b dL_law_1383 (lv_at hl 1 rfl) ?_
    have ek : S_X7_thrown (S_X7_sum (S_X6_sum σ (xs (6 * i + 1))).2.2 (xs (6 * i + 1))).2 = r := bq1.trans hr
    refine lv_icmp_eq (tgt := 1390) C.x C.b dL_law_1385 (by decide) (fun _ => ?_) (fun q => absurd ek q)
    refine lv_iload C.x C.b dL_law_1390 (lv_at hl 1 rfl) ?_
    have er : r = 0 := by rw [← hr, e0]; rfl
    refine lv_if_ne (tgt := 1407) C.x C.b dL_law_1392 (by decide) (fun q => absurd er q) (fun _ => ?_)
    refine lv_aload_n C.x C.b dL_law_1395 rfl (lv_at hl 4 rfl) ?_
    refine lv_iconst (v := 0) C.x C.b dL_law_1396 (by decide) ?_
    refine ldL C h dL_law_1397 ?_
    refine lv_iload C.x C.b dL_law_1398 (lv_at hl 0 rfl) ?_
    refine lv_i2l (v := (S_X7_sum (S_X6_sum σ (xs (6 * i + 1))).2.2 (xs (6 * i + 1))).1.toInt64) C.x C.b dL_law_1400 rfl ?_
    refine lcE C (show (S_X6_sum σ (xs (6 * i + 1))).2.1.toInt64 = (S_X7_sum (S_X6_sum σ (xs (6 * i + 1))).2.2 (xs (6 * i + 1))).1.toInt64 by rw [bq3]) dL_law_1401 ?_
    refine lv_if_eq (tgt := 1407) C.x C.b dL_law_1402 (by decide) (fun _ => ?_) (fun q => absurd rfl q)
    refine lv_goto (tgt := 1410) C.x C.b dL_law_1407 (by decide) ?_
    exact B (setO E (S_X6_sum σ (xs (6 * i + 1))).2.1.toInt64) (S_X7_sum (S_X6_sum σ (xs (6 * i + 1))).2.2 (xs (6 * i + 1))).2 m' H locs _ _ ls C h bq5 (by omega) (by show cells + 10 + 0 + 0 ≤ _; omega) (by show slots + 60 + 0 + 0 ≤ _; omega) (lv_sub hl [2, 3, 4, 5, 6, 7] rfl)
  · obtain rfl := hp1 e0
    have eS : LST (S_X6_sum σ (xs (6 * i + 1))) σ = σ := if_neg e0
    rw [eS] at Bq
    obtain ⟨bq1, -, bq2⟩ := Bq
    have bq5 := bq2 e0
    have okm : OK E σ := ok
    have C : CX p s m meth c cL_law RL 9 D E A := C
    have h : HW D E σ A s H locs := h
    have hl : lv_has ls 9 [(5, .int (nI (6 * i))), (4, .ref (ead E 36)), (3, .ref (ead E 35)), (2, .ref (ead E 15)), (1, .ref (ead E 0)), (0, .ref b)] := hl
    refine lv_istore (lv' := [(6, .int r), (5, .int (nI (6 * i))), (4, .ref (ead E 36)), (3, .ref (ead E 35)), (2, .ref (ead E 15)), (1, .ref (ead E 0)), (0, .ref b)]) C.x C.b dL_law_1365 hl (by decide) rfl (fun ls hl => ?_)
    refine lv_aload_n C.x C.b dL_law_1367 rfl (lv_at hl 4 rfl) ?_
    refine lv_aload_n C.x C.b dL_law_1368 rfl (lv_at hl 6 rfl) ?_
    refine lv_iload C.x C.b dL_law_1369 (lv_at hl 1 rfl) ?_
    refine lv_iconst (v := 1) C.x C.b dL_law_1371 (by decide) ?_
    refine lv_iadd C.x C.b dL_law_1372 ?_
    refine ldS (j := 6 * i + 1) C h hX hbl hbA hL (by omega) (nI_add (6 * i) 1) dL_law_1373 ?_
    refine caVi (As := [.int (xs (6 * i + 1))]) (rest := []) (q0 := 15) (ci := 7) C h (M_X7_sum l D _ _ okm (xs (6 * i + 1))) cw_L_155 m_im_X7_sum m_se_X7_sum rfl rfl ⟨Nat.le_of_ble_eq_true rfl, Nat.le_of_ble_eq_true rfl⟩ rfl rfl hl rfl (Nat.le_of_ble_eq_true rfl) dL_law_1374 ⟨by show cells + 10 + 0 ≤ 601024; omega, by show slots + 60 + 0 ≤ 7293034; omega⟩ (fun r2 u H locs hw h => ?_)
    obtain ⟨rfl, rfl⟩ := hw
    refine lv_istore (lv' := [(7, .int (S_X7_sum σ (xs (6 * i + 1))).1), (6, .int r), (5, .int (nI (6 * i))), (4, .ref (ead E 36)), (3, .ref (ead E 35)), (2, .ref (ead E 15)), (1, .ref (ead E 0)), (0, .ref b)]) C.x C.b dL_law_1377 hl (by decide) rfl (fun ls hl => ?_)
    refine lv_aload_n C.x C.b dL_law_1379 rfl (lv_at hl 5 rfl) ?_
    have okt : OK E (S_X7_sum σ (xs (6 * i + 1))).2 := bq5.ok rfl
    refine caVi (As := []) (rest := []) (q0 := 15) (ci := 7) C h (M_X7_thrown l D _ _ okt) cw_L_88 m_im_X7_thrown m_se_X7_thrown rfl rfl ⟨Nat.le_of_ble_eq_true rfl, Nat.le_of_ble_eq_true rfl⟩ rfl rfl hl rfl (Nat.le_of_ble_eq_true rfl) dL_law_1380 ⟨by show cells + 10 + 0 + 0 ≤ 601024; omega, by show slots + 60 + 0 + 0 ≤ 7293034; omega⟩ (fun r3 u H locs hw h => ?_)
    obtain ⟨rfl, rfl⟩ := hw
    refine lv_iload C.x C.b dL_law_1383 (lv_at hl 1 rfl) ?_
    have ek : S_X7_thrown (S_X7_sum σ (xs (6 * i + 1))).2 = r := bq1.trans hr
    refine lv_icmp_eq (tgt := 1390) C.x C.b dL_law_1385 (by decide) (fun _ => ?_) (fun q => absurd ek q)
    refine lv_iload C.x C.b dL_law_1390 (lv_at hl 1 rfl) ?_
    refine lv_if_ne (tgt := 1407) C.x C.b dL_law_1392 (by decide) (fun _ => ?_) (fun q => absurd (hr.trans q) (wcd_ne e0))
    refine lv_goto (tgt := 1410) C.x C.b dL_law_1407 (by decide) ?_
    exact B E (S_X7_sum σ (xs (6 * i + 1))).2 mm H locs _ _ ls C h bq5 (by omega) (by show cells + 10 + 0 + 0 ≤ _; omega) (by show slots + 60 + 0 + 0 ≤ _; omega) (lv_sub hl [2, 3, 4, 5, 6, 7] rfl)
