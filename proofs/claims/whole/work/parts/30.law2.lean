/-! the law's loop (by program) -/
def CLd (own : String) (index : Nat) (y : MethodName) (bytes : ByteArray) (maxL : Nat) (hh : List (Nat × Nat × Nat × Nat)) (n : Nat) : Prop :=
  Cond.methodLink own index y ∈ wsL_law ∧ Cond.codeWith y bytes maxL (some .int) hh ∈ wsL_law ∧ Cond.initialized y.cls ∈ wsL_law ∧ (y.cls ≠ "java/lang/invoke/MethodHandle" ∧ y.cls ≠ "java/lang/invoke/VarHandle") ∧ (parseMethodDescriptor y.desc).map (fun d => d.parameters.length) = some n ∧ Cond.static y ∈ wsL_law
/-- the class between a helper's end and the reference's call -/
theorem ok_mid {σ σ1 τ1 : St} {m n c m' n' c' : Nat} {E1 : En} (h : RR σ σ m n c) (q : RR σ1 τ1 m' n' c') (hn : n' = en E1) (hle : n ≤ n') (hf : ∀ f i, 40 ≤ f → σ1 f i = σ f i) : OK E1 σ1 := by
  subst hn
  have o1 := h.ok (E := (fun _ => 0, fun _ => 0, n, fun _ => 0, fun _ => 0)) rfl
  obtain ⟨h1, ⟨w1, w2, w3, w4, w5, w6⟩, h3, h4, h5, h6, ⟨n1, n2, n3⟩, h8, h9⟩ := q
  have hf3 : vp_in (σ1 3 0) 4 := by
    rcases w5 with q | q | q | q <;> rw [q]
    · exact vp_in_nI (n := 0) (by decide) (by decide)
    · exact vp_in_nI (n := 1) (by decide) (by decide)
    · exact vp_in_nI (n := 2) (by decide) (by decide)
    · exact vp_in_nI (n := 3) (by decide) (by decide)
  refine ⟨n1, n2, ⟨n, hle, by rw [hf 55 0 (by decide)]; exact h.nr⟩, hf3, by rw [hf 43 0 (by decide)]; exact o1.2.2.2.2.1, fun k => ?_, fun k => by rw [hf 66 k (by decide)]; exact o1.2.2.2.2.2.2 k⟩
  by_cases q : k < en E1
  · obtain ⟨_, _, _, _, _, _, _, _, _, _, _, _, _, f, hf, e⟩ := h8 k q
    rw [e]
    exact vp_in_nI hf (by decide)
  · rw [(h9 k (by omega)).1]
    exact in3_0
theorem RR.lst {σ : St} {m n c : Nat} {T : Nat × Int32 × St} (h : RR σ σ m n c) (h6 : ∀ f i, 40 ≤ f → T.2.2 f i = σ f i) : RR σ (LST T σ) m n c := h.cgr (fun f i q => by
  unfold LST
  split
  · exact h6 f i (by omega)
  · rfl)
/-- what a call of both comes to, over one state -/
def BQ (σ1 : St) (m n c a b n' : Nat) (T : Nat × Int32 × St) (U : Int32 × St) : Prop := U.2 40 0 = wcd a b T.1 ∧ (T.1 = 0 → U.1 = T.2.1 ∧ ∃ m' : Nat, m' ≤ m + 500 ∧ RR U.2 U.2 m' n' (c + 1)) ∧ (¬ T.1 = 0 → RR U.2 U.2 m n (c + 1))
theorem BLx {σ : St} {m n c a b n' : Nat} {T : Nat × Int32 × St} {U : Int32 × St} (hA : AL σ m n c a b n' T U) (h7 : ∀ f i, f < 40 → U.2 f i = LST T σ f i) : BQ (LST T σ) m n c a b n' T U := by
  obtain ⟨a1, a2, a3⟩ := hA
  refine ⟨a1, fun q => ?_, fun q => ?_⟩
  · obtain ⟨b1, m', b2, b3⟩ := a2 q
    refine ⟨b1, m', b2, b3.cgc (fun f i z => ?_)⟩
    rw [h7 _ _ z]
    unfold LST
    rw [if_pos q]
  · refine (a3 q).cgc (fun f i z => ?_)
    rw [h7 _ _ z]
    unfold LST
    rw [if_neg q]
theorem OKx {σ : St} {m n c a b n' : Nat} {T : Nat × Int32 × St} {U : Int32 × St} {E1 : En} (h : RR σ σ m n c) (hA : AL σ m n c a b n' T U) (h6 : ∀ f i, 40 ≤ f → T.2.2 f i = σ f i) (e0 : T.1 = 0) (hn : n' = en E1) (hle : n ≤ n') : OK E1 T.2.2 := by
  obtain ⟨-, a2, -⟩ := hA
  obtain ⟨-, m', -, b3⟩ := a2 e0
  exact ok_mid h b3 hn hle h6
theorem wcd_ne {a b k : Nat} (h : ¬ k = 0) : ¬ wcd a b k = 0 := by
  unfold wcd
  rw [if_neg h]
  split
  · decide
  · split <;> decide
theorem BW0 {σ : St} {m n c : Nat} {E1 : En} (h : RR σ σ m n c) (hn : n = en E1) (p1 p2 p3 p4 : Int32) (e0 : (S_X6_weather σ p1 p2 p3 p4).1 = 0) : S_X7_weather (S_X6_weather σ p1 p2 p3 p4).2 p1 p2 p3 p4 40 0 = wcd 2 9 (S_X6_weather σ p1 p2 p3 p4).1 ∧ RR (S_X7_weather (S_X6_weather σ p1 p2 p3 p4).2 p1 p2 p3 p4) (S_X7_weather (S_X6_weather σ p1 p2 p3 p4).2 p1 p2 p3 p4) m n (c + 1) ∧ OK E1 (S_X6_weather σ p1 p2 p3 p4).2 := by
  have h1 : RR σ (S_X6_weather σ p1 p2 p3 p4).2 m n c := h.cgr (fun f i q => F6_weather (by omega) σ p1 p2 p3 p4)
  obtain ⟨a1, a2, -⟩ := A_weather h1 p1 p2 p3 p4
  exact ⟨a1, (a2 e0).cgc (fun f i q => F7_weather q _ p1 p2 p3 p4), ok_mid h (a2 e0) hn (Nat.le_refl _) (fun f i q => F6_weather q σ p1 p2 p3 p4)⟩
theorem BW1 {σ : St} {m n c : Nat} (h : RR σ σ m n c) (p1 p2 p3 p4 : Int32) (e0 : ¬ (S_X6_weather σ p1 p2 p3 p4).1 = 0) : S_X7_weather σ p1 p2 p3 p4 40 0 = wcd 2 9 (S_X6_weather σ p1 p2 p3 p4).1 ∧ RR (S_X7_weather σ p1 p2 p3 p4) (S_X7_weather σ p1 p2 p3 p4) m n (c + 1) := by
  obtain ⟨a1, -, a2⟩ := A_weather h p1 p2 p3 p4
  exact ⟨a1, (a2 e0).cgc (fun f i q => F7_weather q _ p1 p2 p3 p4)⟩
theorem clk_val {σ : St} {p1 : Int32} (e0 : (S_X6_clock σ p1).1 = 0) : (S_X6_clock σ p1).2.1 = S_X6_clockLeft σ p1.toNatClampNeg := by
  unfold S_X6_clock S_X6_clock_25 at *
  rw [rqp0, rqp1] at *
  by_cases c1 : S_X6_requireIndex p1 (σ 1 0) = 0
  · rw [if_pos c1] at *
    by_cases c2 : σ 30 p1.toNatClampNeg ≤ 0
    · rw [if_pos c2, if_neg (show ¬ (3 : Nat) = 0 by decide)] at e0
      exact absurd e0 (show ¬ (3 : Nat) = 0 by decide)
    · rw [if_neg c2, if_pos rfl]
  · rw [if_neg c1] at e0
    exact absurd e0 c1
theorem BCk {σ : St} {m n c : Nat} (hc : c < 100000) (h : RR σ σ m n c) (p1 : Int32) : (S_X7_clock σ p1).2 40 0 = wcd 1 3 (S_X6_clock σ p1).1 ∧ RR (S_X7_clock σ p1).2 (S_X7_clock σ p1).2 m n (c + 1) ∧ (S_X6_clock σ p1).2.2 = σ ∧ ((S_X6_clock σ p1).1 = 0 → Op.cmpValue (FP.dcmp (S_X6_clock σ p1).2.1 (S_X7_clock σ p1).1) CmpOp.l = 0) := by
  obtain ⟨a1, a2, a3, a4⟩ := A_clock hc h p1
  refine ⟨a1, a4.cgc (fun f i q => F7_clock q σ p1), a3, fun e0 => ?_⟩
  rw [a2 e0, clk_val e0]
  exact (ky_e σ _ _).mpr rfl
section LAW2
variable {p : Program} {l : Launch} {e : Env} {R : Room} {s : State} {m : MethodId} {args : Array Value} {below : List Frame} {meth : Method} {c : Code} {H : Heap} {locs : List Loc} {cells slots : Nat} {Q : State → Prop}
variable {cc : ByteArray} {own : String} {nL : Nat} {D : va_G} {E : En} {A : Nat → Prop} {σ : St} {pc : Nat} {ls : Array Slot} {rest : List Value}
theorem lcE {x y : Int64} (C : CX p s m meth c cc own nL D E A) (h : x = y) (dg : decode cc pc = .ok (.lcmp, 1)) (k : W p l e R s m args below meth c H locs cells slots Q (F0 m (pc + 1) ls (.int 0 :: rest))) : W p l e R s m args below meth c H locs cells slots Q (F0 m pc ls (.long y :: .long x :: rest)) := by
  subst h
  have hexec := C.x
  have hb := C.b
  intro T hT X
  obtain ⟨t, a, b⟩ := k T hT X
  refine ⟨t, ?_, b⟩
  jvm_step X.here [X.here.top, hexec, hb, dg]
  exact a
theorem ldS {b L j : Nat} {xs : Nat → Int32} {x : Int32} (C : CX p s m meth c cc own nL D E A) (h : HW D E σ A s H locs) (hX : va_X b L xs s s.heap) (hbl : b < s.heap.size) (hbA : ¬ A b) (hL : L ≤ 3072) (hj : j < L) (ex : x = nI j) (dg : decode cc pc = .ok (.iaload, 1)) (kk : W p l e R s m args below meth c H locs cells slots Q (F0 m (pc + 1) ls (.int (xs j) :: rest))) : W p l e R s m args below meth c H locs cells slots Q (F0 m pc ls (.int x :: .ref b :: rest)) := by
  subst ex
  refine va_sld C.x C.b hX hbl hbA h.2.2 (vp_in_nI hj (by omega)) dg ?_
  rw [nI_clamp (by omega)]
  exact kk
theorem ldL (C : CX p s m meth c cc own nL D E A) (h : HW D E σ A s H locs) (dg : decode cc pc = .ok (.laload, 1)) (kk : W p l e R s m args below meth c H locs cells slots Q (F0 m (pc + 1) ls (.long (eo E 0) :: rest))) : W p l e R s m args below meth c H locs cells slots Q (F0 m pc ls (.int 0 :: .ref (ead E 35) :: rest)) :=
  va_lald C.x C.b C.k h.1 35 4 rfl rfl (vp_in_nI (n := 0) (N := 1) (by decide) (by decide)) dg kk
theorem ldD (C : CX p s m meth c cc own nL D E A) (h : HW D E σ A s H locs) (dg : decode cc pc = .ok (.daload, 1)) (kk : W p l e R s m args below meth c H locs cells slots Q (F0 m (pc + 1) ls (.double (ed E 0) :: rest))) : W p l e R s m args below meth c H locs cells slots Q (F0 m pc ls (.int 0 :: .ref (ead E 36) :: rest)) :=
  va_dald C.x C.b C.k h.1 36 5 rfl rfl (vp_in_nI (n := 0) (N := 1) (by decide) (by decide)) dg kk
theorem caL {hls : List (Nat × Value)} {y : MethodName} {bytes : ByteArray} {maxL mc ms index : Nat} {hh : List (Nat × Nat × Nat × Nat)} {rm : Room} {As : List Value} {stk : List Value} {post : Int32 → En × St → Prop} (C : CX p s m meth c cc own nL D E A) (h : HW D E σ A s H locs) (hM : CL l y bytes maxL hh rm As D E σ post mc ms) (w : CLd own index y bytes maxL hh As.length) (hrc : rm.cells = mc) (hrs : rm.slots = ms) (hR : rm.frames + 1 ≤ R.frames ∧ 8 + (maxL + 11) + rm.locals ≤ R.locals) (hl : lv_has ls nL hls) (hst : stk = As.reverse ++ rest) (hW : (rest.map fun v => v.category).sum ≤ 8) (dg : decode cc pc = .ok (.invokestatic index, 3)) (hf : cells + mc ≤ R.cells ∧ slots + ms ≤ R.slots)
    (kk : ∀ (r : Int32) (u : En × St) (H1 : Heap) (locs1 : List Loc), post r u → HW D u.1 u.2 A s H1 locs1 → W p l e R s m args below meth c H1 locs1 (cells + mc) (slots + ms) Q (F0 m (pc + 3) ls (.int r :: rest))) : W p l e R s m args below meth c H locs cells slots Q (F0 m pc ls stk) := by
  obtain ⟨w1, w2, w3, w4, w5, w6⟩ := w
  refine va_calli (vx_runSW ⟨C.x, C.b, C.ml, C.ow, C.tb.args args⟩ (hM H.size) ⟨⟨hrc, hrs, hR.1, hR.2, fun w hw a' U hW => ?_, List.mem_singleton.mpr rfl⟩, C.w args w2, C.w args w3, w4, fun sig h => ?_, C.w args w1, C.w args w6⟩ ⟨pre_blind, pre_at C h _⟩ rfl rfl hl.1 hst (lv_room hW) dg hf) h.2.2 (fun q _ => fr C h q) (fr C h) (fun r u t H1 locs1 ht hvm hw hB hz hk hS => kk r u H1 locs1 hw ⟨by rw [← ht]; exact hB.1, hB.2.2.weaken (fun _ _ _ q => fr C h _ q), hS⟩)
  · rw [List.mem_singleton.mp hw]
    exact word_at hW (good_of_word (tb_good _ w2)) (C.w args w2)
  · rw [h] at w5
    exact (Option.some.inj w5).symm
/-- the law's locals at the head -/
def LV (E : En) (b i : Nat) : List (Nat × Value) := [(5, .int (nI (6 * i))), (4, .ref (ead E 36)), (3, .ref (ead E 35)), (2, .ref (ead E 15)), (1, .ref (ead E 0)), (0, .ref b)]
/-- the walk from the end of a case -/
def BK (p : Program) (l : Launch) (e : Env) (s : State) (m : MethodId) (args : Array Value) (below : List Frame) (meth : Method) (c : Code) (Q : State → Prop) (D : va_G) (A : Nat → Prop) (b i : Nat) : Prop :=
  ∀ (E : En) (σ : St) (mm : Nat) (H : Heap) (locs : List Loc) (cells slots : Nat) (ls : Array Slot), CX p s m meth c cL_law RL 9 D E A → HW D E σ A s H locs → RR σ σ mm (en E) (i + 1) → mm ≤ 500 * (i + 1) → cells ≤ 64 + 10 * (i + 1) → slots ≤ 512 + 60 * (i + 1) → lv_has ls 9 (LV E b i) → W p l e room_1 s m args below meth c H locs cells slots Q (F0 m 1410 ls [])
end LAW2
theorem cw_L_88 : CWd RL 88 yX7_thrown cX7_thrown 1 (some .int) 0 := ⟨m_ml_L_88, m_co_X7_thrown, m_ini_X7, by decide +kernel, by decide +kernel⟩
theorem cl_L_weather : CLd RL 82 yL_weather cL_weather 6 [(0, 9, 12, 13)] 5 := ⟨m_ml_L_82, m_cw_L_weather, m_ini_L, by decide +kernel, by decide +kernel, m_st_L_weather⟩
theorem cw_L_87 : CWd RL 87 yX7_weather cX7_weather 5 none 4 := ⟨m_ml_L_87, m_co_X7_weather, m_ini_X7, by decide +kernel, by decide +kernel⟩
set_option maxRecDepth 100000 in
set_option maxHeartbeats 4000000 in
theorem case_weather {p : Program} {l : Launch} (hfl : l.stackTraces = false) {e : Env} {s : State} {m : MethodId} {args : Array Value} {below : List Frame} {meth : Method} {c : Code} {Q : State → Prop} {D : va_G} {A : Nat → Prop} {b L i : Nat} {xs : Nat → Int32} (hX : va_X b L xs s s.heap) (hbl : b < s.heap.size) (hbA : ¬ A b) (hL : L ≤ 3072) (hi : 6 * i + 5 < L) (B : BK p l e s m args below meth c Q D A b i) {E : En} {σ : St} {mm : Nat} {H : Heap} {locs : List Loc} {cells slots : Nat} {ls : Array Slot} (C : CX p s m meth c cL_law RL 9 D E A) (h : HW D E σ A s H locs) (hR : RR σ σ mm (en E) i) (hm : mm ≤ 500 * i) (hc : cells ≤ 64 + 10 * i) (hs : slots ≤ 512 + 60 * i) (hl : lv_has ls 9 (LV E b i)) : W p l e room_1 s m args below meth c H locs cells slots Q (F0 m 140 ls []) := by
  have ok := hR.ok rfl
  have hl : lv_has ls 9 [(5, .int (nI (6 * i))), (4, .ref (ead E 36)), (3, .ref (ead E 35)), (2, .ref (ead E 15)), (1, .ref (ead E 0)), (0, .ref b)] := hl
  refine lv_aload_n C.x C.b dL_law_140 rfl (lv_at hl 4 rfl) ?_
  refine lv_aload_n C.x C.b dL_law_141 rfl (lv_at hl 5 rfl) ?_
  refine lv_iload C.x C.b dL_law_142 (lv_at hl 0 rfl) ?_
  refine lv_iconst (v := 1) C.x C.b dL_law_144 (by decide) ?_
  refine lv_iadd C.x C.b dL_law_145 ?_
  refine ldS (j := 6 * i + 1) C h hX hbl hbA hL (by omega) (nI_add (6 * i) 1) dL_law_146 ?_
  refine lv_aload_n C.x C.b dL_law_147 rfl (lv_at hl 5 rfl) ?_
  refine lv_iload C.x C.b dL_law_148 (lv_at hl 0 rfl) ?_
  refine lv_iconst (v := 2) C.x C.b dL_law_150 (by decide) ?_
  refine lv_iadd C.x C.b dL_law_151 ?_
  refine ldS (j := 6 * i + 2) C h hX hbl hbA hL (by omega) (nI_add (6 * i) 2) dL_law_152 ?_
  refine lv_aload_n C.x C.b dL_law_153 rfl (lv_at hl 5 rfl) ?_
  refine lv_iload C.x C.b dL_law_154 (lv_at hl 0 rfl) ?_
  refine lv_iconst (v := 3) C.x C.b dL_law_156 (by decide) ?_
  refine lv_iadd C.x C.b dL_law_157 ?_
  refine ldS (j := 6 * i + 3) C h hX hbl hbA hL (by omega) (nI_add (6 * i) 3) dL_law_158 ?_
  refine lv_aload_n C.x C.b dL_law_159 rfl (lv_at hl 5 rfl) ?_
  refine lv_iload C.x C.b dL_law_160 (lv_at hl 0 rfl) ?_
  refine lv_iconst (v := 4) C.x C.b dL_law_162 (by decide) ?_
  refine lv_iadd C.x C.b dL_law_163 ?_
  refine ldS (j := 6 * i + 4) C h hX hbl hbA hL (by omega) (nI_add (6 * i) 4) dL_law_164 ?_
  refine caL (As := [.ref (ead E 0), .int (xs (6 * i + 1)), .int (xs (6 * i + 2)), .int (xs (6 * i + 3)), .int (xs (6 * i + 4))]) (rest := []) C h (M_L_weather l hfl D E σ ok (xs (6 * i + 1)) (xs (6 * i + 2)) (xs (6 * i + 3)) (xs (6 * i + 4))) cl_L_weather rfl rfl ⟨Nat.le_of_ble_eq_true rfl, Nat.le_of_ble_eq_true rfl⟩ hl rfl (Nat.le_of_ble_eq_true rfl) dL_law_165 ⟨by show cells + 10 ≤ 601024; omega, by show slots + 60 ≤ 7293034; omega⟩ (fun r u H locs hp h => ?_)
  obtain ⟨hr, hp0, hp1⟩ := hp
  by_cases e0 : (S_X6_weather σ (xs (6 * i + 1)) (xs (6 * i + 2)) (xs (6 * i + 3)) (xs (6 * i + 4))).1 = 0
  · obtain rfl := hp0 e0
    obtain ⟨bq1, bq5, okm⟩ := BW0 (E1 := E) hR rfl (xs (6 * i + 1)) (xs (6 * i + 2)) (xs (6 * i + 3)) (xs (6 * i + 4)) e0
    have C : CX p s m meth c cL_law RL 9 D E A := C
    have h : HW D E (S_X6_weather σ (xs (6 * i + 1)) (xs (6 * i + 2)) (xs (6 * i + 3)) (xs (6 * i + 4))).2 A s H locs := h
    have hl : lv_has ls 9 [(5, .int (nI (6 * i))), (4, .ref (ead E 36)), (3, .ref (ead E 35)), (2, .ref (ead E 15)), (1, .ref (ead E 0)), (0, .ref b)] := hl
    refine lv_istore (lv' := [(6, .int r), (5, .int (nI (6 * i))), (4, .ref (ead E 36)), (3, .ref (ead E 35)), (2, .ref (ead E 15)), (1, .ref (ead E 0)), (0, .ref b)]) C.x C.b dL_law_168 hl (by decide) rfl (fun ls hl => ?_)
    refine lv_aload_n C.x C.b dL_law_170 rfl (lv_at hl 4 rfl) ?_
    refine lv_aload_n C.x C.b dL_law_171 rfl (lv_at hl 6 rfl) ?_
    refine lv_iload C.x C.b dL_law_172 (lv_at hl 1 rfl) ?_
    refine lv_iconst (v := 1) C.x C.b dL_law_174 (by decide) ?_
    refine lv_iadd C.x C.b dL_law_175 ?_
    refine ldS (j := 6 * i + 1) C h hX hbl hbA hL (by omega) (nI_add (6 * i) 1) dL_law_176 ?_
    refine lv_aload_n C.x C.b dL_law_177 rfl (lv_at hl 6 rfl) ?_
    refine lv_iload C.x C.b dL_law_178 (lv_at hl 1 rfl) ?_
    refine lv_iconst (v := 2) C.x C.b dL_law_180 (by decide) ?_
    refine lv_iadd C.x C.b dL_law_181 ?_
    refine ldS (j := 6 * i + 2) C h hX hbl hbA hL (by omega) (nI_add (6 * i) 2) dL_law_182 ?_
    refine lv_aload_n C.x C.b dL_law_183 rfl (lv_at hl 6 rfl) ?_
    refine lv_iload C.x C.b dL_law_184 (lv_at hl 1 rfl) ?_
    refine lv_iconst (v := 3) C.x C.b dL_law_186 (by decide) ?_
    refine lv_iadd C.x C.b dL_law_187 ?_
    refine ldS (j := 6 * i + 3) C h hX hbl hbA hL (by omega) (nI_add (6 * i) 3) dL_law_188 ?_
    refine lv_aload_n C.x C.b dL_law_189 rfl (lv_at hl 6 rfl) ?_
    refine lv_iload C.x C.b dL_law_190 (lv_at hl 1 rfl) ?_
    refine lv_iconst (v := 4) C.x C.b dL_law_192 (by decide) ?_
    refine lv_iadd C.x C.b dL_law_193 ?_
    refine ldS (j := 6 * i + 4) C h hX hbl hbA hL (by omega) (nI_add (6 * i) 4) dL_law_194 ?_
    refine caVv (As := [.int (xs (6 * i + 1)), .int (xs (6 * i + 2)), .int (xs (6 * i + 3)), .int (xs (6 * i + 4))]) (rest := []) (q0 := 15) (ci := 7) C h (M_X7_weather l D _ _ okm (xs (6 * i + 1)) (xs (6 * i + 2)) (xs (6 * i + 3)) (xs (6 * i + 4))) cw_L_87 m_im_X7_weather m_se_X7_weather rfl rfl ⟨Nat.le_of_ble_eq_true rfl, Nat.le_of_ble_eq_true rfl⟩ rfl rfl hl rfl (Nat.le_of_ble_eq_true rfl) dL_law_195 ⟨by show cells + 10 + 0 ≤ 601024; omega, by show slots + 60 + 0 ≤ 7293034; omega⟩ (fun u H locs hw h => ?_)
    obtain rfl := hw
    refine lv_aload_n C.x C.b dL_law_198 rfl (lv_at hl 4 rfl) ?_
    have okt : OK E (S_X7_weather (S_X6_weather σ (xs (6 * i + 1)) (xs (6 * i + 2)) (xs (6 * i + 3)) (xs (6 * i + 4))).2 (xs (6 * i + 1)) (xs (6 * i + 2)) (xs (6 * i + 3)) (xs (6 * i + 4))) := bq5.ok rfl
    refine caVi (As := []) (rest := []) (q0 := 15) (ci := 7) C h (M_X7_thrown l D _ _ okt) cw_L_88 m_im_X7_thrown m_se_X7_thrown rfl rfl ⟨Nat.le_of_ble_eq_true rfl, Nat.le_of_ble_eq_true rfl⟩ rfl rfl hl rfl (Nat.le_of_ble_eq_true rfl) dL_law_199 ⟨by show cells + 10 + 0 + 0 ≤ 601024; omega, by show slots + 60 + 0 + 0 ≤ 7293034; omega⟩ (fun r3 u H locs hw h => ?_)
    obtain ⟨rfl, rfl⟩ := hw
    refine lv_iload C.x C.b dL_law_202 (lv_at hl 0 rfl) ?_
    have ek : S_X7_thrown (S_X7_weather (S_X6_weather σ (xs (6 * i + 1)) (xs (6 * i + 2)) (xs (6 * i + 3)) (xs (6 * i + 4))).2 (xs (6 * i + 1)) (xs (6 * i + 2)) (xs (6 * i + 3)) (xs (6 * i + 4))) = r := bq1.trans hr
    refine lv_icmp_eq (tgt := 209) C.x C.b dL_law_204 (by decide) (fun _ => ?_) (fun q => absurd ek q)
    refine lv_goto (tgt := 1410) C.x C.b dL_law_209 (by decide) ?_
    exact B E (S_X7_weather (S_X6_weather σ (xs (6 * i + 1)) (xs (6 * i + 2)) (xs (6 * i + 3)) (xs (6 * i + 4))).2 (xs (6 * i + 1)) (xs (6 * i + 2)) (xs (6 * i + 3)) (xs (6 * i + 4))) mm H locs _ _ ls C h bq5 (by omega) (by show cells + 10 + 0 + 0 ≤ _; omega) (by show slots + 60 + 0 + 0 ≤ _; omega) (lv_sub hl [1, 2, 3, 4, 5, 6] rfl)
  · obtain rfl := hp1 e0
    obtain ⟨bq1, bq5⟩ := BW1 hR (xs (6 * i + 1)) (xs (6 * i + 2)) (xs (6 * i + 3)) (xs (6 * i + 4)) e0
    have okm : OK E σ := ok
    have C : CX p s m meth c cL_law RL 9 D E A := C
    have h : HW D E σ A s H locs := h
    have hl : lv_has ls 9 [(5, .int (nI (6 * i))), (4, .ref (ead E 36)), (3, .ref (ead E 35)), (2, .ref (ead E 15)), (1, .ref (ead E 0)), (0, .ref b)] := hl
    refine lv_istore (lv' := [(6, .int r), (5, .int (nI (6 * i))), (4, .ref (ead E 36)), (3, .ref (ead E 35)), (2, .ref (ead E 15)), (1, .ref (ead E 0)), (0, .ref b)]) C.x C.b dL_law_168 hl (by decide) rfl (fun ls hl => ?_)
    refine lv_aload_n C.x C.b dL_law_170 rfl (lv_at hl 4 rfl) ?_
    refine lv_aload_n C.x C.b dL_law_171 rfl (lv_at hl 6 rfl) ?_
    refine lv_iload C.x C.b dL_law_172 (lv_at hl 1 rfl) ?_
    refine lv_iconst (v := 1) C.x C.b dL_law_174 (by decide) ?_
    refine lv_iadd C.x C.b dL_law_175 ?_
    refine ldS (j := 6 * i + 1) C h hX hbl hbA hL (by omega) (nI_add (6 * i) 1) dL_law_176 ?_
    refine lv_aload_n C.x C.b dL_law_177 rfl (lv_at hl 6 rfl) ?_
    refine lv_iload C.x C.b dL_law_178 (lv_at hl 1 rfl) ?_
    refine lv_iconst (v := 2) C.x C.b dL_law_180 (by decide) ?_
    refine lv_iadd C.x C.b dL_law_181 ?_
    refine ldS (j := 6 * i + 2) C h hX hbl hbA hL (by omega) (nI_add (6 * i) 2) dL_law_182 ?_
    refine lv_aload_n C.x C.b dL_law_183 rfl (lv_at hl 6 rfl) ?_
    refine lv_iload C.x C.b dL_law_184 (lv_at hl 1 rfl) ?_
    refine lv_iconst (v := 3) C.x C.b dL_law_186 (by decide) ?_
    refine lv_iadd C.x C.b dL_law_187 ?_
    refine ldS (j := 6 * i + 3) C h hX hbl hbA hL (by omega) (nI_add (6 * i) 3) dL_law_188 ?_
    refine lv_aload_n C.x C.b dL_law_189 rfl (lv_at hl 6 rfl) ?_
    refine lv_iload C.x C.b dL_law_190 (lv_at hl 1 rfl) ?_
    refine lv_iconst (v := 4) C.x C.b dL_law_192 (by decide) ?_
    refine lv_iadd C.x C.b dL_law_193 ?_
    refine ldS (j := 6 * i + 4) C h hX hbl hbA hL (by omega) (nI_add (6 * i) 4) dL_law_194 ?_
    refine caVv (As := [.int (xs (6 * i + 1)), .int (xs (6 * i + 2)), .int (xs (6 * i + 3)), .int (xs (6 * i + 4))]) (rest := []) (q0 := 15) (ci := 7) C h (M_X7_weather l D _ _ okm (xs (6 * i + 1)) (xs (6 * i + 2)) (xs (6 * i + 3)) (xs (6 * i + 4))) cw_L_87 m_im_X7_weather m_se_X7_weather rfl rfl ⟨Nat.le_of_ble_eq_true rfl, Nat.le_of_ble_eq_true rfl⟩ rfl rfl hl rfl (Nat.le_of_ble_eq_true rfl) dL_law_195 ⟨by show cells + 10 + 0 ≤ 601024; omega, by show slots + 60 + 0 ≤ 7293034; omega⟩ (fun u H locs hw h => ?_)
    obtain rfl := hw
    refine lv_aload_n C.x C.b dL_law_198 rfl (lv_at hl 4 rfl) ?_
    have okt : OK E (S_X7_weather σ (xs (6 * i + 1)) (xs (6 * i + 2)) (xs (6 * i + 3)) (xs (6 * i + 4))) := bq5.ok rfl
    refine caVi (As := []) (rest := []) (q0 := 15) (ci := 7) C h (M_X7_thrown l D _ _ okt) cw_L_88 m_im_X7_thrown m_se_X7_thrown rfl rfl ⟨Nat.le_of_ble_eq_true rfl, Nat.le_of_ble_eq_true rfl⟩ rfl rfl hl rfl (Nat.le_of_ble_eq_true rfl) dL_law_199 ⟨by show cells + 10 + 0 + 0 ≤ 601024; omega, by show slots + 60 + 0 + 0 ≤ 7293034; omega⟩ (fun r3 u H locs hw h => ?_)
    obtain ⟨rfl, rfl⟩ := hw
    refine lv_iload C.x C.b dL_law_202 (lv_at hl 0 rfl) ?_
    have ek : S_X7_thrown (S_X7_weather σ (xs (6 * i + 1)) (xs (6 * i + 2)) (xs (6 * i + 3)) (xs (6 * i + 4))) = r := bq1.trans hr
    refine lv_icmp_eq (tgt := 209) C.x C.b dL_law_204 (by decide) (fun _ => ?_) (fun q => absurd ek q)
    refine lv_goto (tgt := 1410) C.x C.b dL_law_209 (by decide) ?_
    exact B E (S_X7_weather σ (xs (6 * i + 1)) (xs (6 * i + 2)) (xs (6 * i + 3)) (xs (6 * i + 4))) mm H locs _ _ ls C h bq5 (by omega) (by show cells + 10 + 0 + 0 ≤ _; omega) (by show slots + 60 + 0 + 0 ≤ _; omega) (lv_sub hl [1, 2, 3, 4, 5, 6] rfl)
theorem cw_L_135 : CWd RL 135 yX6_isGood cX6_isGood 1 (some .boolean) 0 := ⟨m_ml_L_135, m_co_X6_isGood, m_ini_X6, by decide +kernel, by decide +kernel⟩
theorem cw_L_139 : CWd RL 139 yX7_isGood cX7_isGood 1 (some .boolean) 0 := ⟨m_ml_L_139, m_co_X7_isGood, m_ini_X7, by decide +kernel, by decide +kernel⟩
set_option maxRecDepth 100000 in
set_option maxHeartbeats 4000000 in
theorem case_isGood {p : Program} {l : Launch} (hfl : l.stackTraces = false) {e : Env} {s : State} {m : MethodId} {args : Array Value} {below : List Frame} {meth : Method} {c : Code} {Q : State → Prop} {D : va_G} {A : Nat → Prop} {b L i : Nat} {xs : Nat → Int32} (hX : va_X b L xs s s.heap) (hbl : b < s.heap.size) (hbA : ¬ A b) (hL : L ≤ 3072) (hi : 6 * i + 5 < L) (B : BK p l e s m args below meth c Q D A b i) {E : En} {σ : St} {mm : Nat} {H : Heap} {locs : List Loc} {cells slots : Nat} {ls : Array Slot} (C : CX p s m meth c cL_law RL 9 D E A) (h : HW D E σ A s H locs) (hR : RR σ σ mm (en E) i) (hm : mm ≤ 500 * i) (hc : cells ≤ 64 + 10 * i) (hs : slots ≤ 512 + 60 * i) (hl : lv_has ls 9 (LV E b i)) : W p l e room_1 s m args below meth c H locs cells slots Q (F0 m 1084 ls []) := by
  have ok := hR.ok rfl
  have hl : lv_has ls 9 [(5, .int (nI (6 * i))), (4, .ref (ead E 36)), (3, .ref (ead E 35)), (2, .ref (ead E 15)), (1, .ref (ead E 0)), (0, .ref b)] := hl
  refine lv_aload_n C.x C.b dL_law_1084 rfl (lv_at hl 4 rfl) ?_
  refine caVi (As := []) (rest := []) (q0 := 0) (ci := 6) C h (M_X6_isGood l D E σ ok) cw_L_135 m_im_X6_isGood m_se_X6_isGood rfl rfl ⟨Nat.le_of_ble_eq_true rfl, Nat.le_of_ble_eq_true rfl⟩ rfl rfl hl rfl (Nat.le_of_ble_eq_true rfl) dL_law_1085 ⟨by show cells + 0 ≤ 601024; omega, by show slots + 0 ≤ 7293034; omega⟩ (fun r1 u H locs hw h => ?_)
  obtain ⟨hr1, rfl⟩ := hw
  refine lv_aload_n C.x C.b dL_law_1088 rfl (lv_at hl 3 rfl) ?_
  refine caVi (As := []) (rest := [.int r1]) (q0 := 15) (ci := 7) C h (M_X7_isGood l D E σ ok) cw_L_139 m_im_X7_isGood m_se_X7_isGood rfl rfl ⟨Nat.le_of_ble_eq_true rfl, Nat.le_of_ble_eq_true rfl⟩ rfl rfl hl rfl (Nat.le_of_ble_eq_true rfl) dL_law_1089 ⟨by show cells + 0 + 0 ≤ 601024; omega, by show slots + 0 + 0 ≤ 7293034; omega⟩ (fun r2 u H locs hw h => ?_)
  obtain ⟨hr2, rfl⟩ := hw
  obtain ⟨g1, g2⟩ := A_isGood hR
  have ek : r1 = r2 := by rw [← hr1, ← hr2, g1]
  have bq5 : RR (S_X7_isGood σ).2 (S_X7_isGood σ).2 mm (en E) (i + 1) := g2.cgc (fun f i q => F7_isGood q σ)
  refine lv_icmp_eq (tgt := 1410) C.x C.b dL_law_1092 (by decide) (fun _ => ?_) (fun q => absurd ek q)
  exact B E _ mm H locs _ _ ls C h bq5 (by omega) (by show cells + 0 + 0 ≤ _; omega) (by show slots + 0 + 0 ≤ _; omega) hl
theorem cl_L_clock : CLd RL 143 yL_clock cL_clock 4 [(0, 8, 11, 19), (0, 8, 14, 31)] 3 := ⟨m_ml_L_143, m_cw_L_clock, m_ini_L, by decide +kernel, by decide +kernel, m_st_L_clock⟩
theorem cw_L_146 : CWd RL 146 yX7_clock cX7_clock 2 (some .double) 1 := ⟨m_ml_L_146, m_co_X7_clock, m_ini_X7, by decide +kernel, by decide +kernel⟩
set_option maxRecDepth 100000 in
set_option maxHeartbeats 4000000 in
theorem case_clock {p : Program} {l : Launch} (hfl : l.stackTraces = false) {e : Env} {s : State} {m : MethodId} {args : Array Value} {below : List Frame} {meth : Method} {c : Code} {Q : State → Prop} {D : va_G} {A : Nat → Prop} {b L i : Nat} {xs : Nat → Int32} (hX : va_X b L xs s s.heap) (hbl : b < s.heap.size) (hbA : ¬ A b) (hL : L ≤ 3072) (hi : 6 * i + 5 < L) (B : BK p l e s m args below meth c Q D A b i) {E : En} {σ : St} {mm : Nat} {H : Heap} {locs : List Loc} {cells slots : Nat} {ls : Array Slot} (C : CX p s m meth c cL_law RL 9 D E A) (h : HW D E σ A s H locs) (hR : RR σ σ mm (en E) i) (hm : mm ≤ 500 * i) (hc : cells ≤ 64 + 10 * i) (hs : slots ≤ 512 + 60 * i) (hl : lv_has ls 9 (LV E b i)) : W p l e room_1 s m args below meth c H locs cells slots Q (F0 m 1165 ls []) := by
  have ok := hR.ok rfl
  have hl : lv_has ls 9 [(5, .int (nI (6 * i))), (4, .ref (ead E 36)), (3, .ref (ead E 35)), (2, .ref (ead E 15)), (1, .ref (ead E 0)), (0, .ref b)] := hl
  refine lv_aload_n C.x C.b dL_law_1165 rfl (lv_at hl 4 rfl) ?_
  refine lv_aload_n C.x C.b dL_law_1166 rfl (lv_at hl 5 rfl) ?_
  refine lv_iload C.x C.b dL_law_1167 (lv_at hl 0 rfl) ?_
  refine lv_iconst (v := 1) C.x C.b dL_law_1169 (by decide) ?_
  refine lv_iadd C.x C.b dL_law_1170 ?_
  refine ldS (j := 6 * i + 1) C h hX hbl hbA hL (by omega) (nI_add (6 * i) 1) dL_law_1171 ?_
  refine lv_aload C.x C.b dL_law_1172 (lv_at hl 1 rfl) ?_
  refine caL (As := [.ref (ead E 0), .int (xs (6 * i + 1)), .ref (ead E 36)]) (rest := []) C h (M_L_clock l hfl D E σ ok (xs (6 * i + 1))) cl_L_clock rfl rfl ⟨Nat.le_of_ble_eq_true rfl, Nat.le_of_ble_eq_true rfl⟩ hl rfl (Nat.le_of_ble_eq_true rfl) dL_law_1174 ⟨by show cells + 10 ≤ 601024; omega, by show slots + 60 ≤ 7293034; omega⟩ (fun r u H locs hp h => ?_)
  obtain ⟨hr, hp0, hp1⟩ := hp
  obtain ⟨bq1, bq5, ec, hcm⟩ := BCk (by omega) hR (xs (6 * i + 1))
  by_cases e0 : (S_X6_clock σ (xs (6 * i + 1))).1 = 0
  · obtain rfl := hp0 e0
    have okm : OK (setD E (S_X6_clock σ (xs (6 * i + 1))).2.1) (S_X6_clock σ (xs (6 * i + 1))).2.2 := by rw [ec]; exact ok
    have hcmp : Op.cmpValue (FP.dcmp (S_X6_clock σ (xs (6 * i + 1))).2.1 (S_X7_clock (S_X6_clock σ (xs (6 * i + 1))).2.2 (xs (6 * i + 1))).1) CmpOp.l = 0 := by rw [ec]; exact hcm e0
    have bq1 : (S_X7_clock (S_X6_clock σ (xs (6 * i + 1))).2.2 (xs (6 * i + 1))).2 40 0 = wcd 1 3 (S_X6_clock σ (xs (6 * i + 1))).1 := by rw [ec]; exact bq1
    have bq5 : RR (S_X7_clock (S_X6_clock σ (xs (6 * i + 1))).2.2 (xs (6 * i + 1))).2 (S_X7_clock (S_X6_clock σ (xs (6 * i + 1))).2.2 (xs (6 * i + 1))).2 mm (en E) (i + 1) := by rw [ec]; exact bq5
    have C : CX p s m meth c cL_law RL 9 D (setD E (S_X6_clock σ (xs (6 * i + 1))).2.1) A := C
    have h : HW D (setD E (S_X6_clock σ (xs (6 * i + 1))).2.1) (S_X6_clock σ (xs (6 * i + 1))).2.2 A s H locs := h
    have hl : lv_has ls 9 [(5, .int (nI (6 * i))), (4, .ref (ead (setD E (S_X6_clock σ (xs (6 * i + 1))).2.1) 36)), (3, .ref (ead (setD E (S_X6_clock σ (xs (6 * i + 1))).2.1) 35)), (2, .ref (ead (setD E (S_X6_clock σ (xs (6 * i + 1))).2.1) 15)), (1, .ref (ead (setD E (S_X6_clock σ (xs (6 * i + 1))).2.1) 0)), (0, .ref b)] := hl
    refine lv_istore (lv' := [(6, .int r), (5, .int (nI (6 * i))), (4, .ref (ead (setD E (S_X6_clock σ (xs (6 * i + 1))).2.1) 36)), (3, .ref (ead (setD E (S_X6_clock σ (xs (6 * i + 1))).2.1) 35)), (2, .ref (ead (setD E (S_X6_clock σ (xs (6 * i + 1))).2.1) 15)), (1, .ref (ead (setD E (S_X6_clock σ (xs (6 * i + 1))).2.1) 0)), (0, .ref b)]) C.x C.b dL_law_1177 hl (by decide) rfl (fun ls hl => ?_)
    refine lv_aload_n C.x C.b dL_law_1179 rfl (lv_at hl 4 rfl) ?_
    refine lv_aload_n C.x C.b dL_law_1180 rfl (lv_at hl 6 rfl) ?_
    refine lv_iload C.x C.b dL_law_1181 (lv_at hl 1 rfl) ?_
    refine lv_iconst (v := 1) C.x C.b dL_law_1183 (by decide) ?_
    refine lv_iadd C.x C.b dL_law_1184 ?_
    refine ldS (j := 6 * i + 1) C h hX hbl hbA hL (by omega) (nI_add (6 * i) 1) dL_law_1185 ?_
    refine caVd (As := [.int (xs (6 * i + 1))]) (rest := []) (q0 := 15) (ci := 7) C h (M_X7_clock l D _ _ okm (xs (6 * i + 1))) cw_L_146 m_im_X7_clock m_se_X7_clock rfl rfl ⟨Nat.le_of_ble_eq_true rfl, Nat.le_of_ble_eq_true rfl⟩ rfl rfl hl rfl (Nat.le_of_ble_eq_true rfl) dL_law_1186 ⟨by show cells + 10 + 0 ≤ 601024; omega, by show slots + 60 + 0 ≤ 7293034; omega⟩ (fun r2 u H locs hw h => ?_)
    obtain ⟨rfl, rfl⟩ := hw
    refine lv_dstore (lv' := [(7, .double (S_X7_clock (S_X6_clock σ (xs (6 * i + 1))).2.2 (xs (6 * i + 1))).1), (6, .int r), (5, .int (nI (6 * i))), (4, .ref (ead (setD E (S_X6_clock σ (xs (6 * i + 1))).2.1) 36)), (3, .ref (ead (setD E (S_X6_clock σ (xs (6 * i + 1))).2.1) 35)), (2, .ref (ead (setD E (S_X6_clock σ (xs (6 * i + 1))).2.1) 15)), (1, .ref (ead (setD E (S_X6_clock σ (xs (6 * i + 1))).2.1) 0)), (0, .ref b)]) C.x C.b dL_law_1189 hl (by decide) rfl (fun ls hl => ?_)
    refine lv_aload_n C.x C.b dL_law_1191 rfl (lv_at hl 5 rfl) ?_
    have okt : OK (setD E (S_X6_clock σ (xs (6 * i + 1))).2.1) (S_X7_clock (S_X6_clock σ (xs (6 * i + 1))).2.2 (xs (6 * i + 1))).2 := bq5.ok rfl
    refine caVi (As := []) (rest := []) (q0 := 15) (ci := 7) C h (M_X7_thrown l D _ _ okt) cw_L_88 m_im_X7_thrown m_se_X7_thrown rfl rfl ⟨Nat.le_of_ble_eq_true rfl, Nat.le_of_ble_eq_true rfl⟩ rfl rfl hl rfl (Nat.le_of_ble_eq_true rfl) dL_law_1192 ⟨by show cells + 10 + 0 + 0 ≤ 601024; omega, by show slots + 60 + 0 + 0 ≤ 7293034; omega⟩ (fun r3 u H locs hw h => ?_)
    obtain ⟨rfl, rfl⟩ := hw
    refine lv_iload C.x C.b dL_law_1195 (lv_at hl 1 rfl) ?_
    have ek : S_X7_thrown (S_X7_clock (S_X6_clock σ (xs (6 * i + 1))).2.2 (xs (6 * i + 1))).2 = r := bq1.trans hr
    refine lv_icmp_eq (tgt := 1202) C.x C.b dL_law_1197 (by decide) (fun _ => ?_) (fun q => absurd ek q)
    refine lv_iload C.x C.b dL_law_1202 (lv_at hl 1 rfl) ?_
    have er : r = 0 := by rw [← hr, e0]; rfl
    refine lv_if_ne (tgt := 1239) C.x C.b dL_law_1204 (by decide) (fun q => absurd er q) (fun _ => ?_)
    refine lv_aload C.x C.b dL_law_1207 (lv_at hl 3 rfl) ?_
    refine lv_iconst (v := 0) C.x C.b dL_law_1209 (by decide) ?_
    refine ldD C h dL_law_1210 ?_
    refine lv_dload C.x C.b dL_law_1211 (lv_at hl 0 rfl) ?_
    refine lv_dcmp C.x C.b dL_law_1213 ?_
    refine lv_if_eq (tgt := 1239) C.x C.b dL_law_1214 (by decide) (fun _ => ?_) (fun q => absurd hcmp q)
    refine lv_goto (tgt := 1410) C.x C.b dL_law_1239 (by decide) ?_
    exact B (setD E (S_X6_clock σ (xs (6 * i + 1))).2.1) (S_X7_clock (S_X6_clock σ (xs (6 * i + 1))).2.2 (xs (6 * i + 1))).2 mm H locs _ _ ls C h bq5 (by omega) (by show cells + 10 + 0 + 0 ≤ _; omega) (by show slots + 60 + 0 + 0 ≤ _; omega) (lv_sub hl [2, 3, 4, 5, 6, 7] rfl)
  · obtain rfl := hp1 e0
    have okm : OK E σ := ok
    have C : CX p s m meth c cL_law RL 9 D E A := C
    have h : HW D E σ A s H locs := h
    have hl : lv_has ls 9 [(5, .int (nI (6 * i))), (4, .ref (ead E 36)), (3, .ref (ead E 35)), (2, .ref (ead E 15)), (1, .ref (ead E 0)), (0, .ref b)] := hl
    refine lv_istore (lv' := [(6, .int r), (5, .int (nI (6 * i))), (4, .ref (ead E 36)), (3, .ref (ead E 35)), (2, .ref (ead E 15)), (1, .ref (ead E 0)), (0, .ref b)]) C.x C.b dL_law_1177 hl (by decide) rfl (fun ls hl => ?_)
    refine lv_aload_n C.x C.b dL_law_1179 rfl (lv_at hl 4 rfl) ?_
    refine lv_aload_n C.x C.b dL_law_1180 rfl (lv_at hl 6 rfl) ?_
    refine lv_iload C.x C.b dL_law_1181 (lv_at hl 1 rfl) ?_
    refine lv_iconst (v := 1) C.x C.b dL_law_1183 (by decide) ?_
    refine lv_iadd C.x C.b dL_law_1184 ?_
    refine ldS (j := 6 * i + 1) C h hX hbl hbA hL (by omega) (nI_add (6 * i) 1) dL_law_1185 ?_
    refine caVd (As := [.int (xs (6 * i + 1))]) (rest := []) (q0 := 15) (ci := 7) C h (M_X7_clock l D _ _ okm (xs (6 * i + 1))) cw_L_146 m_im_X7_clock m_se_X7_clock rfl rfl ⟨Nat.le_of_ble_eq_true rfl, Nat.le_of_ble_eq_true rfl⟩ rfl rfl hl rfl (Nat.le_of_ble_eq_true rfl) dL_law_1186 ⟨by show cells + 10 + 0 ≤ 601024; omega, by show slots + 60 + 0 ≤ 7293034; omega⟩ (fun r2 u H locs hw h => ?_)
    obtain ⟨rfl, rfl⟩ := hw
    refine lv_dstore (lv' := [(7, .double (S_X7_clock σ (xs (6 * i + 1))).1), (6, .int r), (5, .int (nI (6 * i))), (4, .ref (ead E 36)), (3, .ref (ead E 35)), (2, .ref (ead E 15)), (1, .ref (ead E 0)), (0, .ref b)]) C.x C.b dL_law_1189 hl (by decide) rfl (fun ls hl => ?_)
    refine lv_aload_n C.x C.b dL_law_1191 rfl (lv_at hl 5 rfl) ?_
    have okt : OK E (S_X7_clock σ (xs (6 * i + 1))).2 := bq5.ok rfl
    refine caVi (As := []) (rest := []) (q0 := 15) (ci := 7) C h (M_X7_thrown l D _ _ okt) cw_L_88 m_im_X7_thrown m_se_X7_thrown rfl rfl ⟨Nat.le_of_ble_eq_true rfl, Nat.le_of_ble_eq_true rfl⟩ rfl rfl hl rfl (Nat.le_of_ble_eq_true rfl) dL_law_1192 ⟨by show cells + 10 + 0 + 0 ≤ 601024; omega, by show slots + 60 + 0 + 0 ≤ 7293034; omega⟩ (fun r3 u H locs hw h => ?_)
    obtain ⟨rfl, rfl⟩ := hw
    refine lv_iload C.x C.b dL_law_1195 (lv_at hl 1 rfl) ?_
    have ek : S_X7_thrown (S_X7_clock σ (xs (6 * i + 1))).2 = r := bq1.trans hr
    refine lv_icmp_eq (tgt := 1202) C.x C.b dL_law_1197 (by decide) (fun _ => ?_) (fun q => absurd ek q)
    refine lv_iload C.x C.b dL_law_1202 (lv_at hl 1 rfl) ?_
    refine lv_if_ne (tgt := 1239) C.x C.b dL_law_1204 (by decide) (fun _ => ?_) (fun q => absurd (hr.trans q) (wcd_ne e0))
    refine lv_goto (tgt := 1410) C.x C.b dL_law_1239 (by decide) ?_
    exact B E (S_X7_clock σ (xs (6 * i + 1))).2 mm H locs _ _ ls C h bq5 (by omega) (by show cells + 10 + 0 + 0 ≤ _; omega) (by show slots + 60 + 0 + 0 ≤ _; omega) (lv_sub hl [2, 3, 4, 5, 6, 7] rfl)
