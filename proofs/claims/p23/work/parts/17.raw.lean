/-! constructors: contracts over the cells at hand alone; arrays made -/
def HV (D : va_G) (ws : va_W) (A : Nat → Prop) (s : State) (H : Heap) (locs : List Loc) : Prop := va_P D vwCl ws H ∧ va_D A ws ∧ va_S A s.heap H locs
def PRW (D : va_G) (E : En) (ws : va_W) (sz : Nat) (U : State) : Prop := U.heap.size = sz ∧ va_P D vwCl ws U.heap ∧ va_K D vwCl (tyE E) U ∧ va_D (fun _ => True) ws ∧ TB U ∧ SX U ∧ EX (va_A ws sz) U U.heap ∧ AOX U
theorem prw_blind {D : va_G} {E : En} {ws : va_W} {sz : Nat} {av : List Value} : FrameBlind (va_Pc av (PRW D E ws sz)) := fun a U g mk q => by
  obtain ⟨q0, q1, q2, q3, q4, q5, q6, q7, q8⟩ := q
  exact ⟨q0, q1, q2, va_K.moved (u := U) (U := U.calling g mk a) (Vm.Alike.refl U.vm) q3, q4, q5.calling, SX.moved (U := U.calling g mk a) q6 (State.WarmedH.refl U), EX.moved (u := U) (U := U.calling g mk a) (Vm.Alike.refl U.vm) q7, AOX.moved (U := U.calling g mk a) q8 (State.WarmedH.refl U)⟩
def CI (l : Launch) (y : MethodName) (cc : ByteArray) (maxL : Nat) (rm : Room) (av : List Value) (D : va_G) (E : En) (ws : va_W) (B : (Nat → Prop) → Heap → Prop) (mc ms : Nat) : Prop :=
  ∀ sz : Nat, Met l y [.code y cc maxL none] rm (va_Pc av (PRW D E ws sz)) (va_Qv (fun _ : Unit => True) (fun _ t => B (va_A ws sz) t.heap) (va_A ws sz)) mc ms (va_A ws sz)
theorem CI.of {l : Launch} {y : MethodName} {cc : ByteArray} {maxL : Nat} {rm : Room} {av : List Value} {D : va_G} {E : En} {ws : va_W} {B : (Nat → Prop) → Heap → Prop} {mc ms : Nat} (own : String) (hy : plainName y.cls = true) (ho : y.cls = own) (hn : y.name = "<init>") (hlen : (lg_sl av).length ≤ maxL)
    (body : ∀ (p : Program) (e : Env) (s : State) (m : MethodId) (below : List Frame) (meth : Method) (c : Code) (A : Nat → Prop) (ls : Array Slot), CX p s m meth c cc own maxL D E A → AOX s → HV D ws A s s.heap [] → meth.sig.returnType = none → meth.name = "<init>" → lv_has ls maxL (lv_args 0 av) →
      W p l e rm s m av.toArray below meth c s.heap [] 0 0 (MQ below (va_Qv (fun _ : Unit => True) (fun _ t => B A t.heap) A) av.toArray s mc ms A) (F0 m 0 ls [])) : CI l y cc maxL rm av D E ws B mc ms := by
  intro sz
  refine Met.ofW (cc := cc) (maxL := maxL) (ret := none) hy rfl ?_
  intro p e s m args below meth c s₁ Bd hml hv
  obtain ⟨rfl, hsz, hP, hK, hD0, hT, hX, hE, hO⟩ := hv
  subst hsz
  subst ho
  rw [lg_entry_eq]
  exact body p e s m below meth c _ _ ⟨Bd.exec, Bd.bytes, hml, findClass_of_methodNamed Bd.named, Bd.notSynchronized, hT, hX, hK, fun q h => Or.inr h, hE⟩ hO ⟨hP, hD0.self, va_S.rf⟩ Bd.returns (hn ▸ (name_of_methodNamed Bd.named Bd.method).1) (lv_entry av hlen)
section RAW
variable {p : Program} {l : Launch} {e : Env} {R : Room} {s : State} {m : MethodId} {args : Array Value} {below : List Frame} {meth : Method} {c : Code} {H : Heap} {locs : List Loc} {cells slots : Nat} {Q : State → Prop}
variable {cc : ByteArray} {own : String} {nL : Nat} {D : va_G} {E : En} {A : Nat → Prop} {ws : va_W} {pc : Nat} {ls : Array Slot} {rest : List Value} {hls : List (Nat × Value)}
theorem rtC {B : (Nat → Prop) → Heap → Prop} (C : CX p s m meth c cc own nL D E A) (hS : va_S A s.heap H locs) (hr : meth.sig.returnType = none) (dg : decode cc pc = .ok (.return_, 1)) (hB : B A H) : W p l e R s m args below meth c H locs cells slots (MQ below (va_Qv (fun _ : Unit => True) (fun _ t => B A t.heap) A) args s cells slots A) (F0 m pc ls []) :=
  W.vret C.x C.b hr (fun t ht hW => ⟨⟨(), rfl, trivial, by show B A t.heap; rw [ht]; exact hB⟩, hS.F ht⟩) hS.2.2 dg C.lk
theorem caI {y : MethodName} {bytes : ByteArray} {maxL mc ms index : Nat} {rm : Room} {As : List Value} {b : Nat} {wc : va_W} {B : (Nat → Prop) → Heap → Prop} {stk : List Value} (C : CX p s m meth c cc own nL D E A) (O : AOX s) (h : HV D ws A s H locs) (isC : List Nat) (hC : isC.filterMap (fun i => ws[i]?) = wc) (hC2 : isC.map (fun i => ws[i]?) = wc.map some) (hnd : va_nd isC = true)
    (hM : CI l y bytes maxL rm (.ref b :: As) D E wc B mc ms) (w : CWd own index y bytes maxL none As.length) (wi : Cond.instanceMethod y ∈ wsL_law) (hy1 : y.name = "<init>") (hrc : rm.cells = mc) (hrs : rm.slots = ms) (hR : rm.frames + 1 ≤ R.frames ∧ 8 + (maxL + 11) + rm.locals ≤ R.locals) (hl : lv_has ls nL hls) (hst : stk = As.reverse ++ .ref b :: rest) (hW : (rest.map fun v => v.category).sum ≤ 8) (dg : decode cc pc = .ok (.invokespecial index, 3)) (hf : cells + mc ≤ R.cells ∧ slots + ms ≤ R.slots)
    (kk : ∀ (H1 : Heap) (locs1 : List Loc), B (va_A wc H.size) H1 → (∀ q : Nat, q < H.size → ¬ va_A wc H.size q → H1[q]? = H[q]?) → (∀ q, va_A wc H.size q → A q) → va_S A s.heap H1 locs1 → W p l e R s m args below meth c H1 locs1 (cells + mc) (slots + ms) Q (F0 m (pc + 3) ls rest)) : W p l e R s m args below meth c H locs cells slots Q (F0 m pc ls stk) := by
  have hF : ∀ q, va_A wc H.size q → A q := va_free (wc := wc) h.2.1 h.2.2 C.a isC hC2
  have hPc : va_P D vwCl wc H := h.1.sub isC hC
  have hDc : va_D A wc := h.2.1.sub isC hnd hC2
  have hE : EX A s H := C.ex.kept (fun a q1 q2 => h.2.2.2.1 a q1 q2)
  have O : AOX s := C.sx.2.2.2
  refine va_callv (va_runI ⟨C.x, C.b, C.ml, C.ow, C.tb.args args⟩ (hM H.size) ⟨cwB C w hrc hrs hR, hy1, C.w args wi⟩ ⟨prw_blind, fun U hU hW => ?_⟩ rfl rfl hl.1 hst (lv_room hW) dg hf) h.2.2 (fun q _ => hF q) hF (fun u t H1 locs1 ht hvm hw hB hz hk hS => kk H1 locs1 (by rw [← ht]; exact hB) hk hF hS)
  refine ⟨rfl, by rw [hU], by rw [hU]; exact hPc, C.k.moved hW.alike, hDc.weaken (fun _ _ _ _ => trivial), C.tb.moved hW, C.sx.moved hW, ?_, O.moved hW⟩
  rw [hU]
  exact (hE.narrow hF).moved hW.alike
theorem caJ {y : MethodName} {bytes : ByteArray} {maxL mc ms index : Nat} {rm : Room} {As : List Value} {b : Nat} {B : (Nat → Prop) → Heap → Prop} {stk : List Value} (C : CX p s m meth c cc own nL D E A) (h : HV D ws A s H locs) (i0 : Nat) {x0 : Nat × va_E} (hx0 : ws[i0]? = some x0)
    (hM : CI l y bytes maxL rm (.ref b :: As) D E [x0] B mc ms) (w : CWd own index y bytes maxL none As.length) (wi : Cond.instanceMethod y ∈ wsL_law) (hy1 : y.name = "<init>") (hrc : rm.cells = mc) (hrs : rm.slots = ms) (hR : rm.frames + 1 ≤ R.frames ∧ 8 + (maxL + 11) + rm.locals ≤ R.locals) (hl : lv_has ls nL hls) (hst : stk = As.reverse ++ .ref b :: rest) (hW : (rest.map fun v => v.category).sum ≤ 8) (dg : decode cc pc = .ok (.invokespecial index, 3)) (hf : cells + mc ≤ R.cells ∧ slots + ms ≤ R.slots)
    (kk : ∀ (H1 : Heap) (locs1 : List Loc), B (va_A [x0] H.size) H1 → (∀ q : Nat, q < H.size → ¬ va_A [x0] H.size q → H1[q]? = H[q]?) → (∀ q, va_A [x0] H.size q → A q) → va_S A s.heap H1 locs1 → W p l e R s m args below meth c H1 locs1 (cells + mc) (slots + ms) Q (F0 m (pc + 3) ls rest)) : W p l e R s m args below meth c H locs cells slots Q (F0 m pc ls stk) := by
  have hF : ∀ q, va_A [x0] H.size q → A q := va_free (wc := [x0]) h.2.1 h.2.2 C.a [i0] (by show [ws[i0]?] = _; rw [hx0]; rfl)
  have hPc : va_P D vwCl [x0] H := h.1.sub [i0] (by rw [List.filterMap_cons, hx0]; rfl)
  have hDc : va_D A [x0] := h.2.1.sub [i0] rfl (by show [ws[i0]?] = _; rw [hx0]; rfl)
  have hE : EX A s H := C.ex.kept (fun a q1 q2 => h.2.2.2.1 a q1 q2)
  have O : AOX s := C.sx.2.2.2
  refine va_callv (va_runI ⟨C.x, C.b, C.ml, C.ow, C.tb.args args⟩ (hM H.size) ⟨cwB C w hrc hrs hR, hy1, C.w args wi⟩ ⟨prw_blind, fun U hU hW => ?_⟩ rfl rfl hl.1 hst (lv_room hW) dg hf) h.2.2 (fun q _ => hF q) hF (fun u t H1 locs1 ht hvm hw hB hz hk hS => kk H1 locs1 (by rw [← ht]; exact hB) hk hF hS)
  refine ⟨rfl, by rw [hU], by rw [hU]; exact hPc, C.k.moved hW.alike, hDc.weaken (fun _ _ _ _ => trivial), C.tb.moved hW, C.sx.moved hW, ?_, O.moved hW⟩
  rw [hU]
  exact (hE.narrow hF).moved hW.alike
theorem caN {y : MethodName} {bytes : ByteArray} {maxL mc ms index : Nat} {rm : Room} {As : List Value} {b : Nat} {wc : va_W} {B : (Nat → Prop) → Heap → Prop} {stk : List Value} (C : CX p s m meth c cc own nL D E A) (O : AOX s) (h : HV D ws A s H locs) (isC : List Nat) (hC : isC.filterMap (fun i => ws[i]?) = wc) (hC2 : isC.map (fun i => ws[i]?) = wc.map some) (hnd : va_nd isC = true)
    (hM : CI l y bytes maxL rm (.ref b :: As) D E wc B mc ms) (wl : va_Nw (.methodLinkNest own index y "IcePad") s) (w2 : Cond.code y bytes maxL none ∈ wsL_law) (w3 : Cond.initialized y.cls ∈ wsL_law) (w4 : y.cls ≠ "java/lang/invoke/MethodHandle" ∧ y.cls ≠ "java/lang/invoke/VarHandle") (w5 : (parseMethodDescriptor y.desc).map (fun d => d.parameters.length) = some As.length) (wi : Cond.instanceMethod y ∈ wsL_law) (hy1 : y.name = "<init>") (hrc : rm.cells = mc) (hrs : rm.slots = ms) (hR : rm.frames + 1 ≤ R.frames ∧ 8 + (maxL + 11) + rm.locals ≤ R.locals) (hl : lv_has ls nL hls) (hst : stk = As.reverse ++ .ref b :: rest) (hW : (rest.map fun v => v.category).sum ≤ 8) (dg : decode cc pc = .ok (.invokespecial index, 3)) (hf : cells + mc ≤ R.cells ∧ slots + ms ≤ R.slots)
    (kk : ∀ (H1 : Heap) (locs1 : List Loc), B (va_A wc H.size) H1 → (∀ q : Nat, q < H.size → ¬ va_A wc H.size q → H1[q]? = H[q]?) → (∀ q, va_A wc H.size q → A q) → va_S A s.heap H1 locs1 → W p l e R s m args below meth c H1 locs1 (cells + mc) (slots + ms) Q (F0 m (pc + 3) ls rest)) : W p l e R s m args below meth c H locs cells slots Q (F0 m pc ls stk) := by
  have hF : ∀ q, va_A wc H.size q → A q := va_free (wc := wc) h.2.1 h.2.2 C.a isC hC2
  have hPc : va_P D vwCl wc H := h.1.sub isC hC
  have hDc : va_D A wc := h.2.1.sub isC hnd hC2
  have hE : EX A s H := C.ex.kept (fun a q1 q2 => h.2.2.2.1 a q1 q2)
  refine va_callv (va_runIN (host := "IcePad") ⟨C.x, C.b, C.ml, C.ow, C.tb.args args⟩ (hM H.size) ⟨⟨⟨hrc, hrs, hR.1, hR.2, fun w hw a' U hW => by rw [List.mem_singleton.mp hw]; exact word_at hW (good_of_word (tb_good _ w2)) (C.w args w2), List.mem_singleton.mpr rfl⟩, C.w args w2, C.w args w3, w4, fun sig h => by rw [h] at w5; exact (Option.some.inj w5).symm, va_Nw.use rfl wl⟩, hy1, C.w args wi⟩ ⟨prw_blind, fun U hU hW => ?_⟩ rfl rfl hl.1 hst (lv_room hW) dg hf) h.2.2 (fun q _ => hF q) hF (fun u t H1 locs1 ht hvm hw hB hz hk hS => kk H1 locs1 (by rw [← ht]; exact hB) hk hF hS)
  refine ⟨rfl, by rw [hU], by rw [hU]; exact hPc, C.k.moved hW.alike, hDc.weaken (fun _ _ _ _ => trivial), C.tb.moved hW, C.sx.moved hW, ?_, O.moved hW⟩
  rw [hU]
  exact (hE.narrow hF).moved hW.alike
theorem oI (C : CX p s m meth c cc own nL D E A) {idx : Nat} (hl : lv_has ls nL hls) (w1 : Cond.methodLink own idx objectInit ∈ wsL_law) {a : Nat} (d : decode cc pc = .ok (.invokespecial idx, 3)) (hf : 1 ≤ R.frames) (hlo : (rest.map fun v => v.category).sum + 12 ≤ R.locals)
    (kk : W p l e R s m args below meth c H locs cells slots Q (F0 m (pc + 3) ls rest)) : W p l e R s m args below meth c H locs cells slots Q (F0 m pc ls (.ref a :: rest)) :=
  W.objInit C.x C.b C.ow (C.w args w1) (C.w args m_im_objectInit) (C.w args m_co_objectInit) rfl (hl.1.trans C.ml.symm) rfl d hf (by have e : 2 * (F0 m pc ls (.ref a :: rest)).monitorRoom = 0 := rfl; omega) kk
theorem na_int (C : CX p s m meth c cc own nL D E A) (h : HV D ws A s H locs) {n : Int32} {N : Nat} (hn : ¬ n < 0) (hN : n.toNatClampNeg = N) (hb : N * componentBytes .int ≤ 536870912) (hc : cells + 1 ≤ R.cells) (hs : slots + N ≤ R.slots) (dg : decode cc pc = .ok (.newarray .int, 2))
    (kk : ∀ (q : Nat) (H1 : Heap), HV D (ws ++ [(q, .inl (ecy E 0, N, .inl (fun _ => 0)))]) A s H1 locs → W p l e R s m args below meth c H1 locs (cells + 1) (slots + N) Q (F0 m (pc + 2) ls (.ref q :: rest))) : W p l e R s m args below meth c H locs cells slots Q (F0 m pc ls (.int n :: rest)) := by
  refine va_newa (atype := .int) (ty := .int) (a0 := (N, .inl (fun _ => 0))) C.x C.b (C.w args m_ac__int) rfl C.k h.1 h.2.1 h.2.2 C.a (fun cA => rfl) hn hN hb hc hs dg (fun q cA H1 hK hP hD hS => ?_)
  have e : cA = ecy E 0 := Option.some.inj ((hK.2 4 _ rfl).2.symm.trans (C.k.2 0 _ rfl).2)
  subst e
  exact kk q H1 ⟨hP, hD, hS⟩
theorem na_ref (C : CX p s m meth c cc own nL D E A) {C9 : String} {t0 index : Nat} {cA : ClassId} (hO : va_AO C9 s) (ht : (tyE E)[t0]? = some (cA, .object C9)) (hcl : Cond.classLink own index C9 ∈ wsL_law) (h : HV D ws A s H locs) {n : Int32} {N : Nat} (hn : ¬ n < 0) (hN : n.toNatClampNeg = N) (hb : N * 4 ≤ 536870912) (hc : cells + 1 ≤ R.cells) (hs : slots + N ≤ R.slots) (dg : decode cc pc = .ok (.anewarray index, 3))
    (kk : ∀ (q : Nat) (H1 : Heap), HV D (ws ++ [(q, .inl (cA, N, .inr (.inr (.inr (.inr (fun _ => none))))))]) A s H1 locs → W p l e R s m args below meth c H1 locs (cells + 1) (slots + N) Q (F0 m (pc + 3) ls (.ref q :: rest))) : W p l e R s m args below meth c H locs cells slots Q (F0 m pc ls (.int n :: rest)) := by
  refine va_newq C.x C.b C.ow (C.w args hcl) hO C.k h.1 h.2.1 h.2.2 C.a hn hN hb hc hs dg (fun q cB H1 hK hP hD hS => ?_)
  have e : cB = cA := by
    obtain ⟨k1, c1, a1, a2, a3, a4⟩ := (hK.2 4 _ rfl).2
    obtain ⟨k2, c2, b1, b2, b3, b4⟩ := (C.k.2 t0 _ ht).2
    exact Option.some.inj (a4.symm.trans b4)
  subst e
  exact kk q H1 ⟨hP, hD, hS⟩
theorem na_grid (C : CX p s m meth c cc own nL D E A) {index : Nat} (hO : va_AOA .int s) (hcl : Cond.classLink own index "[[I" ∈ wsL_law) (h : HV D ws A s H locs) (hc : cells + 4 ≤ R.cells) (hs : slots + 15 ≤ R.slots) (dg : decode cc pc = .ok (.multianewarray index 2, 4))
    (kk : ∀ (q r0 r1 r2 : Nat) (H1 : Heap), HV D (ws ++ [(q, .inl (ecy E 3, 3, .inr (.inr (.inr (.inr (fun i => if i < 3 then some (if i = 0 then r0 else if i = 1 then r1 else r2) else none)))))), (r0, .inl (ecy E 0, 4, .inl (fun _ => 0))), (r1, .inl (ecy E 0, 4, .inl (fun _ => 0))), (r2, .inl (ecy E 0, 4, .inl (fun _ => 0)))]) A s H1 locs → W p l e R s m args below meth c H1 locs (cells + 4) (slots + 15) Q (F0 m (pc + 4) ls (.ref q :: rest))) : W p l e R s m args below meth c H locs cells slots Q (F0 m pc ls (.int 4 :: .int 3 :: rest)) := by
  have e0 : ws ++ va_pl [] (fun _ => Sum.inl (ecy E 0, 4, .inl (fun _ => 0))) = ws := List.append_nil ws
  refine va_mna (X := ws) (L := []) (f := fun _ => Sum.inl (ecy E 0, 4, .inl (fun _ => 0))) (ty := .int) (cy := ecy E 0) (N' := 3) (K' := 4) (z := (4, .inl (fun _ => 0))) C.x C.b C.ow (C.w args hcl) hO (C.w args m_ac__int) (C.k.2 0 _ rfl).2 C.k (by rw [e0]; exact h.1) (by rw [e0]; exact h.2.1) h.2.2 C.a (by decide) (by decide) (by decide) (by decide) (by decide) (by decide) (by decide) rfl rfl hc hs (fun c => rfl) dg (fun q r cA H1 hr hr2 hK hP hD hS => ?_)
  have e : cA = ecy E 3 := Option.some.inj ((hK.2 4 _ rfl).2.symm.trans (C.k.2 3 _ rfl).2)
  subst e
  have eg : (fun i : Nat => if i < 3 then some (r i) else none) = fun i : Nat => if i < 3 then some (if i = 0 then r 0 else if i = 1 then r 1 else r 2) else none := by
    funext i
    by_cases h3 : i < 3
    · rw [if_pos h3, if_pos h3]
      rcases (show i = 0 ∨ i = 1 ∨ i = 2 by omega) with rfl | rfl | rfl <;> rfl
    · rw [if_neg h3, if_neg h3]
  have ew : (ws ++ [(q, Sum.inl (ecy E 3, 3, .inr (.inr (.inr (.inr (fun i => if i < 3 then some (r i) else none)))))) ]) ++ va_pl ([] ++ (List.range 3).map r) (vr_up (fun _ => Sum.inl (ecy E 0, 4, .inl (fun _ => 0))) ((List.range 3).map r) (.inl (ecy E 0, (4, .inl (fun _ => 0))))) = ws ++ [(q, Sum.inl (ecy E 3, 3, .inr (.inr (.inr (.inr (fun i => if i < 3 then some (if i = 0 then r 0 else if i = 1 then r 1 else r 2) else none)))))), (r 0, .inl (ecy E 0, 4, .inl (fun _ => 0))), (r 1, .inl (ecy E 0, 4, .inl (fun _ => 0))), (r 2, .inl (ecy E 0, 4, .inl (fun _ => 0)))] := by
    rw [va_pl_congr (g := fun _ => Sum.inl (ecy E 0, 4, .inl (fun _ => 0))) (fun a => by unfold vr_up; split <;> rfl), eg, List.append_assoc]
    rfl
  rw [ew] at hP hD
  exact kk q (r 0) (r 1) (r 2) H1 ⟨hP, hD, hS⟩
theorem rtG {post : Int32 → Nat × St → Prop} {F : Nat → En} {q0 : Nat} {u : St} {v : Int32} {ty : FieldType} (C : CX p s m meth c cc own nL D (F q0) A) (h : HW D (F q0) u A s H locs) (hr : meth.sig.returnType = some ty) (hn : narrow ty (.int v) = .int v) (dg : decode cc pc = .ok (.ireturn, 1)) (hp : post v (q0, u)) : W p l e R s m args below meth c H locs cells slots (MQ below (va_Qi post (fun u : Nat × St => POB D (F u.1) A u.2) A) args s cells slots A) (F0 m pc ls [.int v]) :=
  W.zret C.x C.b hr hn (fun t ht hW => ⟨⟨v, (q0, u), rfl, hp, by show va_P D vwCl (wd (F q0) u) t.heap; rw [ht]; exact h.1, va_K.moved hW.alike C.k, h.2.1⟩, h.2.2.F ht⟩) h.2.2.2.2 dg C.lk
end RAW
