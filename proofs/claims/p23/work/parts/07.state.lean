/-! OUR STATE: a number a field (rows of model.py in wip), a world of cells by their places; all of it ours. -/
abbrev St : Type := Nat → Nat → Int32
def up2 (σ : St) (f i : Nat) (v : Int32) : St := fun g j => if g = f ∧ j = i then v else σ g j
theorem up2_s (σ : St) (f i : Nat) (v : Int32) : up2 σ f i v f i = v := if_pos ⟨rfl, rfl⟩
theorem up2_f {f g : Nat} (h : g ≠ f) (σ : St) (i j : Nat) (v : Int32) : up2 σ f i v g j = σ g j := if_neg fun q => h q.1
theorem up2_i {i j : Nat} (h : j ≠ i) (σ : St) (f g : Nat) (v : Int32) : up2 σ f i v g j = σ g j := if_neg fun q => h q.2
/-- what the world stands on: classes of arrays, addresses by place, how many aircraft -/
abbrev En : Type := (Nat → ClassId) × (Nat → Nat) × Nat
abbrev ecy (E : En) : Nat → ClassId := E.1
abbrev ead (E : En) : Nat → Nat := E.2.1
abbrev en (E : En) : Nat := E.2.2
def wfix (E : En) (σ : St) : va_W := [(ead E 0, .inr (6, [.ref (ead E 1), .ref (ead E 2), .ref (ead E 7), .ref (ead E 13), .ref (ead E 14), .int (σ 1 0), .int (σ 0 0)])), (ead E 1, .inr (5, [.int (σ 2 0), .int (σ 3 0), .int (σ 4 0), .int (σ 5 0)])), (ead E 2, .inr (3, [.ref (ead E 3), .int (σ 6 0), .int (σ 7 0), .int (σ 8 0)])), (ead E 3, .inl (ecy E 2, 3, .inr (.inr (.inr (.inr (fun k => if k < 3 then some (ead E (4 + k)) else none)))))), (ead E 4, .inr (4, [.int (σ 9 0), .int (σ 10 0), .int (σ 11 0), .int (σ 12 0), .int (σ 13 0)])), (ead E 5, .inr (4, [.int (σ 9 1), .int (σ 10 1), .int (σ 11 1), .int (σ 12 1), .int (σ 13 1)])), (ead E 6, .inr (4, [.int (σ 9 2), .int (σ 10 2), .int (σ 11 2), .int (σ 12 2), .int (σ 13 2)])), (ead E 7, .inr (2, [.ref (ead E 8), .ref (ead E 9), .int (σ 18 0)])), (ead E 8, .inl (ecy E 0, 3, .inl (fun k => σ 14 k))), (ead E 9, .inl (ecy E 3, 3, .inr (.inr (.inr (.inr (fun k => if k < 3 then some (ead E (10 + k)) else none)))))), (ead E 10, .inl (ecy E 0, 4, .inl (fun k => σ 15 k))), (ead E 11, .inl (ecy E 0, 4, .inl (fun k => σ 16 k))), (ead E 12, .inl (ecy E 0, 4, .inl (fun k => σ 17 k))), (ead E 13, .inr (1, [.int (σ 19 0), .int (σ 20 0), .int (σ 21 0), .int (σ 22 0), .int (σ 23 0), .int (σ 24 0)])), (ead E 14, .inl (ecy E 1, 20, .inr (.inr (.inr (.inr (fun k => if k < en E then some (ead E (17 + k)) else none)))))), (ead E 15, .inl (ecy E 0, 8, .inl (fun k => σ 40 k))), (ead E 16, .inl (ecy E 0, 3, .inl (fun k => σ 41 k)))]
def wair (E : En) (σ : St) (k : Nat) : Nat × va_E := (ead E (17 + k), .inr (0, [.int (σ 25 k), .int (σ 26 k), .int (σ 27 k), .int (σ 28 k), .int (σ 29 k), .int (σ 30 k), .int (σ 31 k), .int (σ 32 k), .int (σ 33 k), .int (σ 34 k), .int (σ 35 k), .int (σ 36 k)]))
def wd (E : En) (σ : St) : va_W := wfix E σ ++ (List.range (en E)).map (wair E σ)
def tyE (E : En) : List (ClassId × FieldType) := [(ecy E 0, .int), (ecy E 1, .object "IcePad$Aircraft"), (ecy E 2, .object "IcePad$Third"), (ecy E 3, .array .int)]
theorem wfix_len (E : En) (σ : St) : (wfix E σ).length = 17 := rfl
theorem wd_k {E : En} (σ : St) {k : Nat} (h : k < en E) : (wd E σ)[17 + k]? = some (wair E σ k) := by
  unfold wd
  rw [List.getElem?_append_right (by rw [wfix_len]; omega), wfix_len, show 17 + k - 17 = k by omega, List.getElem?_map, List.getElem?_range h]
  rfl
theorem wd_t {E : En} (σ : St) {t : Nat} (h : t < 3) : (wd E σ)[4 + t]? = some (ead E (4 + t), .inr (4, [.int (σ 9 t), .int (σ 10 t), .int (σ 11 t), .int (σ 12 t), .int (σ 13 t)])) := by
  rcases (show t = 0 ∨ t = 1 ∨ t = 2 by omega) with rfl | rfl | rfl <;> rfl
theorem wd_r {E : En} (σ : St) {t : Nat} (h : t < 3) : (wd E σ)[10 + t]? = some (ead E (10 + t), .inl (ecy E 0, 4, .inl (fun k => σ (15 + t) k))) := by
  rcases (show t = 0 ∨ t = 1 ∨ t = 2 by omega) with rfl | rfl | rfl <;> rfl
theorem map_range_set {α : Type} (g g' : Nat → α) (n k : Nat) (ho : ∀ j, j ≠ k → g' j = g j) : ((List.range n).map g).set k (g' k) = (List.range n).map g' := by
  refine List.ext_getElem (by simp) (fun i h1 h2 => ?_)
  rw [List.getElem_set]
  by_cases h : k = i
  · subst h
    simp
  · rw [if_neg h]
    simp [ho i (fun q => h q.symm)]
theorem wd_setk {E : En} {σ σ' : St} {k : Nat} {x : Nat × va_E} (hf : wfix E σ' = wfix E σ) (hx : x = wair E σ' k) (ho : ∀ j, j ≠ k → wair E σ' j = wair E σ j) : (wd E σ).set (17 + k) x = wd E σ' := by
  unfold wd
  rw [List.set_append_right _ _ (by rw [wfix_len]; omega), wfix_len, show 17 + k - 17 = k by omega, hx, map_range_set _ _ _ _ ho, hf]
theorem vp_lt {i : Int32} {n : Nat} (h : vp_in i n) : i.toNatClampNeg < n := Nat.not_le.mp fun q => h (Or.inr q)
/-- the words of the tables, of any world -/
def TB (U : State) : Prop := ∀ w ∈ wsL_law, w.before #[] U = true
theorem tb_good : ∀ w ∈ wsL_law, goodWord w = true := by
  intro w hw
  exact List.all_eq_true.mp (show wsL_law.all goodWord = true by decide +kernel) w hw
theorem TB.moved {s U : State} (h : TB s) (hW : s.WarmedH U.vm) : TB U := fun w hw => word_at hW (good_of_word (tb_good w hw)) (h w hw)
theorem TB.calling {U : State} {g : JFrame} {mk : MethodId} {a : Array Value} (h : TB U) : TB (U.calling g mk a) := h.moved (State.WarmedH.refl U)
theorem TB.args {s : State} (h : TB s) (args : Array Value) : ∀ w ∈ wsL_law, w.before args s = true := fun w hw => word_at (State.WarmedH.refl s) (good_of_word (tb_good w hw)) (h w hw)
/-- which exception a number means -/
def exn : Nat → String
  | 1 => "java/lang/IndexOutOfBoundsException"
  | 2 => "java/lang/IllegalArgumentException"
  | _ => "java/lang/IllegalStateException"
/-- texts, and which exceptions are not which -/
def xdc (Y : String) : Cond := .declares (Bundle.initS Y)
def xcs : List Cond := [.castable (exn 1) (exn 1), .castable (exn 2) (exn 2), .castable (exn 3) (exn 3), xdc "java/lang/RuntimeException", xdc "java/lang/Exception", xdc "java/lang/Throwable"]
theorem xdc_warm {Y : String} {s U : State} (hW : s.WarmedH U.vm) (h : va_Nw (xdc Y) s) : va_Nw (xdc Y) U := va_tabs (c := xdc Y) rfl (rfl : (s.setVm U.vm).vm = U.vm) (by
  show (Cond.declares (Bundle.initS Y)).before #[] (s.setVm U.vm) = true
  rw [Cond.declares_setVm hW.alike]
  exact h)
theorem xcs_warm {s U : State} (hW : s.WarmedH U.vm) (h : ∀ w ∈ xcs, va_Nw w s) : ∀ w ∈ xcs, va_Nw w U := by
  have h1 := h _ (List.mem_of_getElem? (i := 0) rfl)
  have h2 := h _ (List.mem_of_getElem? (i := 1) rfl)
  have h3 := h _ (List.mem_of_getElem? (i := 2) rfl)
  have h4 := h _ (List.mem_of_getElem? (i := 3) rfl)
  have h5 := h _ (List.mem_of_getElem? (i := 4) rfl)
  have h6 := h _ (List.mem_of_getElem? (i := 5) rfl)
  exact List.forall_mem_cons.mpr ⟨h1.warmC hW, List.forall_mem_cons.mpr ⟨h2.warmC hW, List.forall_mem_cons.mpr ⟨h3.warmC hW, List.forall_mem_cons.mpr ⟨xdc_warm hW h4, List.forall_mem_cons.mpr ⟨xdc_warm hW h5, List.forall_mem_cons.mpr ⟨xdc_warm hW h6, fun _ h => absurd h List.not_mem_nil⟩⟩⟩⟩⟩⟩
theorem xcs_on : ∀ w ∈ xcs, w.onTables = true := by decide +kernel
/-- what the tables know of arrays of objects -/
def AOX (U : State) : Prop := va_AO "IcePad$Aircraft" U ∧ va_AO "IcePad$Third" U ∧ va_AOA .int U ∧ va_Nw (.methodLinkNest RX6 9 yX5_init "IcePad") U ∧ va_Nw (.methodLinkNest RX3 21 yX4_init "IcePad") U ∧ va_Nw (.methodLinkNest RX6 32 yX1_init "IcePad") U
theorem AOX.moved {s U : State} (h : AOX s) (hW : s.WarmedH U.vm) : AOX U := ⟨va_AO.moved hW.alike h.1, va_AO.moved hW.alike h.2.1, over_moved (a := #[]) (a' := #[]) hW.alike h.2.2.1, h.2.2.2.1.warmM hW, h.2.2.2.2.1.warmM hW, h.2.2.2.2.2.warmM hW⟩
def SX (U : State) : Prop := ((∃ a, vk_R RX6 213 "no such place" a U) ∧ (∃ a, vk_R RX6 265 "there is no such one" a U) ∧ (∃ a, vk_R RX6 269 "an argument is out of range" a U) ∧ (∃ a, vk_R RX6 272 "there is no such strength" a U) ∧ (∃ a, vk_R RX6 276 "this is not possible now" a U)) ∧ (∀ w ∈ xcs, va_Nw w U) ∧ True ∧ AOX U
theorem SX.moved {s U : State} (h : SX s) (hW : s.WarmedH U.vm) : SX U := by
  obtain ⟨⟨⟨a1, h1⟩, ⟨a2, h2⟩, ⟨a3, h3⟩, ⟨a4, h4⟩, ⟨a5, h5⟩⟩, hc, -, ho⟩ := h
  exact ⟨⟨⟨a1, vk_R.warm hW h1⟩, ⟨a2, vk_R.warm hW h2⟩, ⟨a3, vk_R.warm hW h3⟩, ⟨a4, vk_R.warm hW h4⟩, ⟨a5, vk_R.warm hW h5⟩⟩, xcs_warm hW hc, trivial, ho.moved hW⟩
def padv : Nat → Value := fun k => match k with | 0 => .int 40 | 1 => .int 60 | _ => .int 80
/-- the statics, none of them among the cells of A -/
def EX (A : Nat → Prop) (U : State) (H : Heap) : Prop := vx_Zq Bundle.tN "UNASSIGNED_STACK" Bundle.steD A U H ∧ vx_Zq Bundle.tN "SUPPRESSED_SENTINEL" Bundle.listD A U H ∧ ∃ t : Nat, va_Z "IcePad" "PAD_SPANS" "[I" (.ref t) A U H ∧ va_T .int t 3 padv A U H
theorem EX.moved {A : Nat → Prop} {u U : State} {H : Heap} (hvm : u.vm.Alike U.vm) (h : EX A u H) : EX A U H := by
  obtain ⟨h1, h2, t, h3, h4⟩ := h
  exact ⟨h1.moved hvm, h2.moved hvm, t, h3.moved hvm, h4.moved hvm⟩
theorem EX.kept {A : Nat → Prop} {U : State} {H H1 : Heap} (h : EX A U H) (hq : ∀ a : Nat, a < H.size → ¬ A a → H1[a]? = H[a]?) : EX A U H1 := by
  obtain ⟨h1, h2, t, h3, h4⟩ := h
  exact ⟨h1.kept hq, h2.kept hq, t, h3.kept hq, h4.kept hq⟩
theorem EX.narrow {A B : Nat → Prop} {U : State} {H : Heap} (h : EX A U H) (hAB : ∀ q, B q → A q) : EX B U H := by
  obtain ⟨h1, h2, t, h3, h4⟩ := h
  exact ⟨h1.narrow hAB, h2.narrow hAB, t, h3.narrow hAB, h4.narrow hAB⟩
/-- what a body stands on, the same all along -/
def CX (p : Program) (s : State) (m : MethodId) (meth : Method) (c : Code) (cc : ByteArray) (own : String) (nL : Nat) (D : va_G) (E : En) (A : Nat → Prop) : Prop :=
  p.tables.exec = Jvm.exec ∧ c.code = cc ∧ c.maxLocals = nL ∧ s.vm.findClass own = some m.cls ∧ meth.locks = false ∧ TB s ∧ SX s ∧ va_K D vwCl (tyE E) s ∧ (∀ q, s.heap.size ≤ q → A q) ∧ EX A s s.heap
section CXP
variable {p : Program} {s : State} {m : MethodId} {meth : Method} {c : Code} {cc : ByteArray} {own : String} {nL : Nat} {D : va_G} {E : En} {A : Nat → Prop}
theorem CX.x (h : CX p s m meth c cc own nL D E A) : p.tables.exec = Jvm.exec := h.1
theorem CX.b (h : CX p s m meth c cc own nL D E A) : c.code = cc := h.2.1
theorem CX.ml (h : CX p s m meth c cc own nL D E A) : c.maxLocals = nL := h.2.2.1
theorem CX.ow (h : CX p s m meth c cc own nL D E A) : s.vm.findClass own = some m.cls := h.2.2.2.1
theorem CX.lk (h : CX p s m meth c cc own nL D E A) : meth.locks = false := h.2.2.2.2.1
theorem CX.tb (h : CX p s m meth c cc own nL D E A) : TB s := h.2.2.2.2.2.1
theorem CX.sx (h : CX p s m meth c cc own nL D E A) : SX s := h.2.2.2.2.2.2.1
theorem CX.k (h : CX p s m meth c cc own nL D E A) : va_K D vwCl (tyE E) s := h.2.2.2.2.2.2.2.1
theorem CX.a (h : CX p s m meth c cc own nL D E A) : ∀ q, s.heap.size ≤ q → A q := h.2.2.2.2.2.2.2.2.1
theorem CX.ex (h : CX p s m meth c cc own nL D E A) : EX A s s.heap := h.2.2.2.2.2.2.2.2.2
theorem CX.w (h : CX p s m meth c cc own nL D E A) (args : Array Value) {w : Cond} (hw : w ∈ wsL_law) : w.before args s = true := h.tb.args args w hw
end CXP
/-- the world at a point of a body: the cells, apart, and what was outside is as it was -/
def HW (D : va_G) (E : En) (σ : St) (A : Nat → Prop) (s : State) (H : Heap) (locs : List Loc) : Prop := va_P D vwCl (wd E σ) H ∧ va_D A (wd E σ) ∧ va_S A s.heap H locs
theorem hw_of {D : va_G} {E : En} {σ : St} {A : Nat → Prop} {s : State} {H : Heap} {locs : List Loc} {W1 : va_W} (e : W1 = wd E σ) (hP : va_P D vwCl W1 H) (hD : va_D A W1) (hS : va_S A s.heap H locs) : HW D E σ A s H locs := by
  subst e
  exact ⟨hP, hD, hS⟩
/-- a contract's start, and the world behind it -/
def PRE (D : va_G) (E : En) (σ : St) (sz : Nat) (U : State) : Prop := U.heap.size = sz ∧ va_P D vwCl (wd E σ) U.heap ∧ va_K D vwCl (tyE E) U ∧ va_D (fun _ => True) (wd E σ) ∧ TB U ∧ SX U ∧ EX (va_A (wd E σ) sz) U U.heap
def POB (D : va_G) (E : En) (A : Nat → Prop) (σ : St) (t : State) : Prop := va_P D vwCl (wd E σ) t.heap ∧ va_K D vwCl (tyE E) t ∧ va_D A (wd E σ)
theorem pre_blind {D : va_G} {E : En} {σ : St} {sz : Nat} {av : List Value} : FrameBlind (va_Pc av (PRE D E σ sz)) := fun a U g mk q => by
  obtain ⟨q0, q1, q2, q3, q4, q5, q6, q7⟩ := q
  exact ⟨q0, q1, q2, va_K.moved (u := U) (U := U.calling g mk a) (Vm.Alike.refl U.vm) q3, q4, q5.calling, SX.moved (U := U.calling g mk a) q6 (State.WarmedH.refl U), EX.moved (u := U) (U := U.calling g mk a) (Vm.Alike.refl U.vm) q7⟩
/-- a contract over the whole world, of a method that returns -/
def CO (l : Launch) (y : MethodName) (cc : ByteArray) (maxL : Nat) (ret : Option FieldType) (rm : Room) (av : List Value) (D : va_G) (E : En) (σ : St) (Q : (Nat → Prop) → Array Value → State → Outcome → State → Prop) (mc ms : Nat) : Prop :=
  ∀ sz : Nat, Met l y [.code y cc maxL ret] rm (va_Pc av (PRE D E σ sz)) (Q (va_A (wd E σ) sz)) mc ms (va_A (wd E σ) sz)
theorem CO.of {l : Launch} {y : MethodName} {cc : ByteArray} {maxL : Nat} {ret : Option FieldType} {rm : Room} {av : List Value} {D : va_G} {E : En} {σ : St} {Q : (Nat → Prop) → Array Value → State → Outcome → State → Prop} {mc ms : Nat} (own : String) (hy : plainName y.cls = true) (ho : y.cls = own) (hlen : (lg_sl av).length ≤ maxL)
    (body : ∀ (p : Program) (e : Env) (s : State) (m : MethodId) (below : List Frame) (meth : Method) (c : Code) (A : Nat → Prop) (ls : Array Slot), CX p s m meth c cc own maxL D E A → HW D E σ A s s.heap [] → meth.sig.returnType = ret → lv_has ls maxL (lv_args 0 av) →
      W p l e rm s m av.toArray below meth c s.heap [] 0 0 (MQ below (Q A) av.toArray s mc ms A) (F0 m 0 ls [])) : CO l y cc maxL ret rm av D E σ Q mc ms := by
  intro sz
  refine Met.ofW (cc := cc) (maxL := maxL) (ret := ret) hy rfl ?_
  intro p e s m args below meth c s₁ B hml hv
  obtain ⟨rfl, hsz, hP, hK, hD0, hT, hX, hE⟩ := hv
  subst hsz
  subst ho
  rw [lg_entry_eq]
  exact body p e s m below meth c _ _ ⟨B.exec, B.bytes, hml, findClass_of_methodNamed B.named, B.notSynchronized, hT, hX, hK, fun q h => Or.inr h, hE⟩ ⟨hP, hD0.self, va_S.rf⟩ B.returns (lv_entry av hlen)
/-- .. of one that returns, or throws what the number thr means (0: nothing), and then has changed nothing -/
def CT (l : Launch) (y : MethodName) (cc : ByteArray) (maxL : Nat) (ret : Option FieldType) (rm : Room) (av : List Value) (D : va_G) (E : En) (σ : St) (Q : (Nat → Prop) → Array Value → State → Outcome → State → Prop) (thr : Nat) (mc ms : Nat) : Prop :=
  ∀ sz : Nat, vx_Met l y [.code y cc maxL ret] rm (va_Pc av (PRE D E σ sz)) (Q (va_A (wd E σ) sz)) (vx_X (fun k : Nat => k ≠ 0 ∧ thr = k) (fun X k t => X = exn k ∧ POB D E (va_A (wd E σ) sz) σ t) (va_A (wd E σ) sz)) mc ms (va_A (wd E σ) sz)
def XT (D : va_G) (E : En) (σ : St) (A : Nat → Prop) (thr : Nat) : String → State → State → Prop := vx_X (fun k : Nat => k ≠ 0 ∧ thr = k) (fun X k t => X = exn k ∧ POB D E A σ t) A
theorem CT.of {l : Launch} {y : MethodName} {cc : ByteArray} {maxL : Nat} {ret : Option FieldType} {rm : Room} {av : List Value} {D : va_G} {E : En} {σ : St} {Q : (Nat → Prop) → Array Value → State → Outcome → State → Prop} {thr mc ms : Nat} (own : String) (hy : plainName y.cls = true) (ho : y.cls = own) (hlen : (lg_sl av).length ≤ maxL)
    (body : ∀ (p : Program) (e : Env) (s : State) (m : MethodId) (below : List Frame) (meth : Method) (c : Code) (A : Nat → Prop) (ls : Array Slot), CX p s m meth c cc own maxL D E A → HW D E σ A s s.heap [] → meth.sig.returnType = ret → (∀ x ∈ c.exceptionTable.toList, False) → lv_has ls maxL (lv_args 0 av) →
      W p l e rm s m av.toArray below meth c s.heap [] 0 0 (vx_MQ below (Q A) (XT D E σ A thr) av.toArray s mc ms A) (F0 m 0 ls [])) : CT l y cc maxL ret rm av D E σ Q thr mc ms := by
  intro sz
  refine vx_ofW (cc := cc) (maxL := maxL) (ret := ret) hy rfl ?_
  intro p e s m args below meth c s₁ B hml hex hv
  obtain ⟨rfl, hsz, hP, hK, hD0, hT, hX, hE⟩ := hv
  subst hsz
  subst ho
  rw [lg_entry_eq]
  exact body p e s m below meth c _ _ ⟨B.exec, B.bytes, hml, findClass_of_methodNamed B.named, B.notSynchronized, hT, hX, hK, fun q h => Or.inr h, hE⟩ ⟨hP, hD0.self, va_S.rf⟩ B.returns hex (lv_entry av hlen)
section WALK
variable {p : Program} {l : Launch} {e : Env} {R : Room} {s : State} {m : MethodId} {args : Array Value} {below : List Frame} {meth : Method} {c : Code} {H : Heap} {locs : List Loc} {cells slots : Nat} {Q : State → Prop}
variable {cc : ByteArray} {own : String} {nL : Nat} {D : va_G} {E : En} {A : Nat → Prop} {σ : St} {pc : Nat} {ls : Array Slot} {rest : List Value}
theorem fr (C : CX p s m meth c cc own nL D E A) (h : HW D E σ A s H locs) : ∀ q, va_A (wd E σ) H.size q → A q := by
  rintro q (⟨k, x, hk⟩ | hq)
  · exact h.2.1.2 k _ hk
  · exact C.a q (Nat.le_trans h.2.2.1 hq)
theorem pre_at (C : CX p s m meth c cc own nL D E A) (h : HW D E σ A s H locs) (av : List Value) : ∀ U : State, U.heap = H → s.WarmedH U.vm → va_Pc av (PRE D E σ H.size) av.toArray U := by
  intro U hU hW
  have hE : EX A s H := C.ex.kept (fun a q1 q2 => h.2.2.2.1 a q1 q2)
  refine ⟨rfl, by rw [hU], by rw [hU]; exact h.1, C.k.moved hW.alike, h.2.1.weaken (fun _ _ _ _ => trivial), C.tb.moved hW, C.sx.moved hW, ?_⟩
  rw [hU]
  exact (hE.narrow (fr C h)).moved hW.alike
theorem rtI {post : Int32 → St → Prop} {u : St} {v : Int32} {ty : FieldType} (C : CX p s m meth c cc own nL D E A) (h : HW D E u A s H locs) (hr : meth.sig.returnType = some ty) (hn : narrow ty (.int v) = .int v) (dg : decode cc pc = .ok (.ireturn, 1)) (hp : post v u) : W p l e R s m args below meth c H locs cells slots (MQ below (va_Qi post (POB D E A) A) args s cells slots A) (F0 m pc ls [.int v]) :=
  W.zret C.x C.b hr hn (fun t ht hW => ⟨⟨v, u, rfl, hp, by rw [ht]; exact h.1, va_K.moved hW.alike C.k, h.2.1⟩, h.2.2.F ht⟩) h.2.2.2.2 dg C.lk
theorem rtV {post : St → Prop} {u : St} (C : CX p s m meth c cc own nL D E A) (h : HW D E u A s H locs) (hr : meth.sig.returnType = none) (dg : decode cc pc = .ok (.return_, 1)) (hp : post u) : W p l e R s m args below meth c H locs cells slots (MQ below (va_Qv post (POB D E A) A) args s cells slots A) (F0 m pc ls []) :=
  W.vret C.x C.b hr (fun t ht hW => ⟨⟨u, rfl, hp, by rw [ht]; exact h.1, va_K.moved hW.alike C.k, h.2.1⟩, h.2.2.F ht⟩) h.2.2.2.2 dg C.lk
theorem rtD {post : UInt64 → St → Prop} {u : St} {v : UInt64} (C : CX p s m meth c cc own nL D E A) (h : HW D E u A s H locs) (hr : meth.sig.returnType = some .double) (dg : decode cc pc = .ok (.dreturn, 1)) (hp : post v u) : W p l e R s m args below meth c H locs cells slots (MQ below (va_Qd post (POB D E A) A) args s cells slots A) (F0 m pc ls [.double v]) :=
  W.dret C.x C.b hr (fun t ht hW => ⟨⟨v, u, rfl, hp, by rw [ht]; exact h.1, va_K.moved hW.alike C.k, h.2.1⟩, h.2.2.F ht⟩) h.2.2.2.2 dg C.lk
/-- an exception goes on to the caller -/
theorem goX {mc ms : Nat} {Qc : Array Value → State → Outcome → State → Prop} {σ0 : St} {thr k : Nat} {ce : Cell} {q9 : Addr} (C : CX p s m meth c cc own nL D E A) (h : HW D E σ0 A s H locs) (hex : ∀ x ∈ c.exceptionTable.toList, False) (hk : k ≠ 0) (ht : thr = k) (h1 : H[q9]? = some ce) (h2 : ce.vm = .none) (h3 : s.vm.findClass (exn k) = some ce.cls) (hc : cells ≤ mc) (hs : slots ≤ ms) : vx_W p l e R s m args below meth c H locs cells slots (vx_MQ below Qc (XT D E σ0 A thr) args s mc ms A) (F0 m pc ls rest) q9 :=
  vx_out (fun x hx => (hex x hx).elim) C.lk h1 h2 h3 (fun t ht' ha => ⟨k, ⟨hk, ht⟩, ⟨rfl, by rw [ht']; exact h.1, va_K.moved ha C.k, h.2.1⟩, h.2.2.F ht'⟩) h.2.2.2.2 hc hs
section CALL
variable {hls : List (Nat × Value)} {y : MethodName} {bytes : ByteArray} {maxL mc ms index : Nat} {ret : Option FieldType} {rm : Room} {As : List Value} {C9 : String} {T9 : u_T} {N9 b q0 ci thr : Nat} {fs : List Value} {stk : List Value}
/-- what the tables say of a call -/
def CWd (own : String) (index : Nat) (y : MethodName) (bytes : ByteArray) (maxL : Nat) (ret : Option FieldType) (n : Nat) : Prop :=
  Cond.methodLink own index y ∈ wsL_law ∧ Cond.code y bytes maxL ret ∈ wsL_law ∧ Cond.initialized y.cls ∈ wsL_law ∧ (y.cls ≠ "java/lang/invoke/MethodHandle" ∧ y.cls ≠ "java/lang/invoke/VarHandle") ∧ (parseMethodDescriptor y.desc).map (fun d => d.parameters.length) = some n
theorem cwB {n : Nat} (C : CX p s m meth c cc own nL D E A) (w : CWd own index y bytes maxL ret n) (hrc : rm.cells = mc) (hrs : rm.slots = ms) (hR : rm.frames + 1 ≤ R.frames ∧ 8 + (maxL + 11) + rm.locals ≤ R.locals) : CallB R s args own index y bytes maxL ret [.code y bytes maxL ret] rm mc ms n := by
  obtain ⟨w1, w2, w3, w4, w5⟩ := w
  refine ⟨hrc, hrs, hR.1, hR.2, fun w hw a' U hW => ?_, List.mem_singleton.mpr rfl, C.w args w2, C.w args w3, w4, fun sig h => ?_, C.w args w1⟩
  · rw [List.mem_singleton.mp hw]
    exact word_at hW (good_of_word (tb_good _ w2)) (C.w args w2)
  · rw [h] at w5
    exact (Option.some.inj w5).symm
theorem caVi {post : Int32 → St → Prop} (C : CX p s m meth c cc own nL D E A) (h : HW D E σ A s H locs) (hM : CO l y bytes maxL ret rm (.ref b :: As) D E σ (fun A => va_Qi post (POB D E A) A) mc ms) (w : CWd own index y bytes maxL ret As.length) (wi : Cond.instanceMethod y ∈ wsL_law) (wv : Cond.selects C9 y y ∈ wsL_law) (hrc : rm.cells = mc) (hrs : rm.slots = ms) (hR : rm.frames + 1 ≤ R.frames ∧ 8 + (maxL + 11) + rm.locals ≤ R.locals) (he : (wd E σ)[q0]? = some (b, .inr (ci, fs))) (hc : vwCl[ci]? = some (C9, T9, N9)) (hl : lv_has ls nL hls) (hst : stk = As.reverse ++ .ref b :: rest) (hW : (rest.map fun v => v.category).sum ≤ 8) (dg : decode cc pc = .ok (.invokevirtual index, 3)) (hf : cells + mc ≤ R.cells ∧ slots + ms ≤ R.slots)
    (kk : ∀ (r : Int32) (u : St) (H1 : Heap) (locs1 : List Loc), post r u → HW D E u A s H1 locs1 → W p l e R s m args below meth c H1 locs1 (cells + mc) (slots + ms) Q (F0 m (pc + 3) ls (.int r :: rest))) : W p l e R s m args below meth c H locs cells slots Q (F0 m pc ls stk) :=
  va_calli (va_runV ⟨C.x, C.b, C.ml, C.ow, C.tb.args args⟩ (hM H.size) ⟨cwB C w hrc hrs hR, C.w args wi, C.w args wv⟩ ⟨pre_blind, va_recv C.k h.1 hc he, pre_at C h _⟩ rfl rfl hl.1 hst (lv_room hW) dg hf) h.2.2 (fun q _ => fr C h q) (fr C h)
    (fun r u t H1 locs1 ht hvm hw hB hz hk hS => kk r u H1 locs1 hw ⟨by rw [← ht]; exact hB.1, hB.2.2.weaken (fun _ _ _ q => fr C h _ q), hS⟩)
theorem cxVi {post : Int32 → St → Prop} (C : CX p s m meth c cc own nL D E A) (h : HW D E σ A s H locs) (hM : CT l y bytes maxL ret rm (.ref b :: As) D E σ (fun A => va_Qi post (POB D E A) A) thr mc ms) (w : CWd own index y bytes maxL ret As.length) (wi : Cond.instanceMethod y ∈ wsL_law) (wv : Cond.selects C9 y y ∈ wsL_law) (hrc : rm.cells = mc) (hrs : rm.slots = ms) (hR : rm.frames + 1 ≤ R.frames ∧ 8 + (maxL + 11) + rm.locals ≤ R.locals) (he : (wd E σ)[q0]? = some (b, .inr (ci, fs))) (hc : vwCl[ci]? = some (C9, T9, N9)) (hl : lv_has ls nL hls) (hst : stk = As.reverse ++ .ref b :: rest) (hW : (rest.map fun v => v.category).sum ≤ 8) (dg : decode cc pc = .ok (.invokevirtual index, 3)) (hf : cells + mc ≤ R.cells ∧ slots + ms ≤ R.slots)
    (kx : ∀ (k : Nat) (ce : Cell) (q9 : Addr) (H1 : Heap) (locs1 : List Loc), k ≠ 0 → thr = k → HW D E σ A s H1 locs1 → H1[q9]? = some ce → ce.vm = .none → s.vm.findClass (exn k) = some ce.cls → vx_W p l e R s m args below meth c H1 locs1 (cells + mc) (slots + ms) Q (F0 m pc ls rest) q9)
    (kk : ∀ (r : Int32) (u : St) (H1 : Heap) (locs1 : List Loc), post r u → HW D E u A s H1 locs1 → W p l e R s m args below meth c H1 locs1 (cells + mc) (slots + ms) Q (F0 m (pc + 3) ls (.int r :: rest))) : W p l e R s m args below meth c H locs cells slots Q (F0 m pc ls stk) :=
  vx_calli (vx_runV ⟨C.x, C.b, C.ml, C.ow, C.tb.args args⟩ (hM H.size) ⟨cwB C w hrc hrs hR, C.w args wi, C.w args wv⟩ ⟨pre_blind, va_recv C.k h.1 hc he, pre_at C h _⟩ rfl rfl hl.1 hst (lv_room hW) dg hf) h.2.2 (fun q _ => fr C h q) (fr C h) (fun q _ => fr C h q)
    (fun X ce q9 k t H1 locs1 ht hvm hw hB hz hk hS h1 h2 h3 => by
      obtain ⟨hX, hP, hK, hD⟩ := hB
      subst hX
      exact kx k ce q9 H1 locs1 hw.1 hw.2 ⟨by rw [← ht]; exact hP, hD.weaken (fun _ _ _ q => fr C h _ q), hS⟩ h1 h2 h3)
    (fun r u t H1 locs1 ht hvm hw hB hz hk hS => kk r u H1 locs1 hw ⟨by rw [← ht]; exact hB.1, hB.2.2.weaken (fun _ _ _ q => fr C h _ q), hS⟩)
theorem caVv {post : St → Prop} (C : CX p s m meth c cc own nL D E A) (h : HW D E σ A s H locs) (hM : CO l y bytes maxL ret rm (.ref b :: As) D E σ (fun A => va_Qv post (POB D E A) A) mc ms) (w : CWd own index y bytes maxL ret As.length) (wi : Cond.instanceMethod y ∈ wsL_law) (wv : Cond.selects C9 y y ∈ wsL_law) (hrc : rm.cells = mc) (hrs : rm.slots = ms) (hR : rm.frames + 1 ≤ R.frames ∧ 8 + (maxL + 11) + rm.locals ≤ R.locals) (he : (wd E σ)[q0]? = some (b, .inr (ci, fs))) (hc : vwCl[ci]? = some (C9, T9, N9)) (hl : lv_has ls nL hls) (hst : stk = As.reverse ++ .ref b :: rest) (hW : (rest.map fun v => v.category).sum ≤ 8) (dg : decode cc pc = .ok (.invokevirtual index, 3)) (hf : cells + mc ≤ R.cells ∧ slots + ms ≤ R.slots)
    (kk : ∀ (u : St) (H1 : Heap) (locs1 : List Loc), post u → HW D E u A s H1 locs1 → W p l e R s m args below meth c H1 locs1 (cells + mc) (slots + ms) Q (F0 m (pc + 3) ls (rest))) : W p l e R s m args below meth c H locs cells slots Q (F0 m pc ls stk) :=
  va_callv (va_runV ⟨C.x, C.b, C.ml, C.ow, C.tb.args args⟩ (hM H.size) ⟨cwB C w hrc hrs hR, C.w args wi, C.w args wv⟩ ⟨pre_blind, va_recv C.k h.1 hc he, pre_at C h _⟩ rfl rfl hl.1 hst (lv_room hW) dg hf) h.2.2 (fun q _ => fr C h q) (fr C h)
    (fun u t H1 locs1 ht hvm hw hB hz hk hS => kk u H1 locs1 hw ⟨by rw [← ht]; exact hB.1, hB.2.2.weaken (fun _ _ _ q => fr C h _ q), hS⟩)
theorem cxVv {post : St → Prop} (C : CX p s m meth c cc own nL D E A) (h : HW D E σ A s H locs) (hM : CT l y bytes maxL ret rm (.ref b :: As) D E σ (fun A => va_Qv post (POB D E A) A) thr mc ms) (w : CWd own index y bytes maxL ret As.length) (wi : Cond.instanceMethod y ∈ wsL_law) (wv : Cond.selects C9 y y ∈ wsL_law) (hrc : rm.cells = mc) (hrs : rm.slots = ms) (hR : rm.frames + 1 ≤ R.frames ∧ 8 + (maxL + 11) + rm.locals ≤ R.locals) (he : (wd E σ)[q0]? = some (b, .inr (ci, fs))) (hc : vwCl[ci]? = some (C9, T9, N9)) (hl : lv_has ls nL hls) (hst : stk = As.reverse ++ .ref b :: rest) (hW : (rest.map fun v => v.category).sum ≤ 8) (dg : decode cc pc = .ok (.invokevirtual index, 3)) (hf : cells + mc ≤ R.cells ∧ slots + ms ≤ R.slots)
    (kx : ∀ (k : Nat) (ce : Cell) (q9 : Addr) (H1 : Heap) (locs1 : List Loc), k ≠ 0 → thr = k → HW D E σ A s H1 locs1 → H1[q9]? = some ce → ce.vm = .none → s.vm.findClass (exn k) = some ce.cls → vx_W p l e R s m args below meth c H1 locs1 (cells + mc) (slots + ms) Q (F0 m pc ls rest) q9)
    (kk : ∀ (u : St) (H1 : Heap) (locs1 : List Loc), post u → HW D E u A s H1 locs1 → W p l e R s m args below meth c H1 locs1 (cells + mc) (slots + ms) Q (F0 m (pc + 3) ls (rest))) : W p l e R s m args below meth c H locs cells slots Q (F0 m pc ls stk) :=
  vx_callv (vx_runV ⟨C.x, C.b, C.ml, C.ow, C.tb.args args⟩ (hM H.size) ⟨cwB C w hrc hrs hR, C.w args wi, C.w args wv⟩ ⟨pre_blind, va_recv C.k h.1 hc he, pre_at C h _⟩ rfl rfl hl.1 hst (lv_room hW) dg hf) h.2.2 (fun q _ => fr C h q) (fr C h) (fun q _ => fr C h q)
    (fun X ce q9 k t H1 locs1 ht hvm hw hB hz hk hS h1 h2 h3 => by
      obtain ⟨hX, hP, hK, hD⟩ := hB
      subst hX
      exact kx k ce q9 H1 locs1 hw.1 hw.2 ⟨by rw [← ht]; exact hP, hD.weaken (fun _ _ _ q => fr C h _ q), hS⟩ h1 h2 h3)
    (fun u t H1 locs1 ht hvm hw hB hz hk hS => kk u H1 locs1 hw ⟨by rw [← ht]; exact hB.1, hB.2.2.weaken (fun _ _ _ q => fr C h _ q), hS⟩)
theorem caVd {post : UInt64 → St → Prop} (C : CX p s m meth c cc own nL D E A) (h : HW D E σ A s H locs) (hM : CO l y bytes maxL ret rm (.ref b :: As) D E σ (fun A => va_Qd post (POB D E A) A) mc ms) (w : CWd own index y bytes maxL ret As.length) (wi : Cond.instanceMethod y ∈ wsL_law) (wv : Cond.selects C9 y y ∈ wsL_law) (hrc : rm.cells = mc) (hrs : rm.slots = ms) (hR : rm.frames + 1 ≤ R.frames ∧ 8 + (maxL + 11) + rm.locals ≤ R.locals) (he : (wd E σ)[q0]? = some (b, .inr (ci, fs))) (hc : vwCl[ci]? = some (C9, T9, N9)) (hl : lv_has ls nL hls) (hst : stk = As.reverse ++ .ref b :: rest) (hW : (rest.map fun v => v.category).sum ≤ 8) (dg : decode cc pc = .ok (.invokevirtual index, 3)) (hf : cells + mc ≤ R.cells ∧ slots + ms ≤ R.slots)
    (kk : ∀ (r : UInt64) (u : St) (H1 : Heap) (locs1 : List Loc), post r u → HW D E u A s H1 locs1 → W p l e R s m args below meth c H1 locs1 (cells + mc) (slots + ms) Q (F0 m (pc + 3) ls (.double r :: rest))) : W p l e R s m args below meth c H locs cells slots Q (F0 m pc ls stk) :=
  va_calld (va_runV ⟨C.x, C.b, C.ml, C.ow, C.tb.args args⟩ (hM H.size) ⟨cwB C w hrc hrs hR, C.w args wi, C.w args wv⟩ ⟨pre_blind, va_recv C.k h.1 hc he, pre_at C h _⟩ rfl rfl hl.1 hst (lv_room hW) dg hf) h.2.2 (fun q _ => fr C h q) (fr C h)
    (fun r u t H1 locs1 ht hvm hw hB hz hk hS => kk r u H1 locs1 hw ⟨by rw [← ht]; exact hB.1, hB.2.2.weaken (fun _ _ _ q => fr C h _ q), hS⟩)
theorem cxVd {post : UInt64 → St → Prop} (C : CX p s m meth c cc own nL D E A) (h : HW D E σ A s H locs) (hM : CT l y bytes maxL ret rm (.ref b :: As) D E σ (fun A => va_Qd post (POB D E A) A) thr mc ms) (w : CWd own index y bytes maxL ret As.length) (wi : Cond.instanceMethod y ∈ wsL_law) (wv : Cond.selects C9 y y ∈ wsL_law) (hrc : rm.cells = mc) (hrs : rm.slots = ms) (hR : rm.frames + 1 ≤ R.frames ∧ 8 + (maxL + 11) + rm.locals ≤ R.locals) (he : (wd E σ)[q0]? = some (b, .inr (ci, fs))) (hc : vwCl[ci]? = some (C9, T9, N9)) (hl : lv_has ls nL hls) (hst : stk = As.reverse ++ .ref b :: rest) (hW : (rest.map fun v => v.category).sum ≤ 8) (dg : decode cc pc = .ok (.invokevirtual index, 3)) (hf : cells + mc ≤ R.cells ∧ slots + ms ≤ R.slots)
    (kx : ∀ (k : Nat) (ce : Cell) (q9 : Addr) (H1 : Heap) (locs1 : List Loc), k ≠ 0 → thr = k → HW D E σ A s H1 locs1 → H1[q9]? = some ce → ce.vm = .none → s.vm.findClass (exn k) = some ce.cls → vx_W p l e R s m args below meth c H1 locs1 (cells + mc) (slots + ms) Q (F0 m pc ls rest) q9)
    (kk : ∀ (r : UInt64) (u : St) (H1 : Heap) (locs1 : List Loc), post r u → HW D E u A s H1 locs1 → W p l e R s m args below meth c H1 locs1 (cells + mc) (slots + ms) Q (F0 m (pc + 3) ls (.double r :: rest))) : W p l e R s m args below meth c H locs cells slots Q (F0 m pc ls stk) :=
  vx_calld (vx_runV ⟨C.x, C.b, C.ml, C.ow, C.tb.args args⟩ (hM H.size) ⟨cwB C w hrc hrs hR, C.w args wi, C.w args wv⟩ ⟨pre_blind, va_recv C.k h.1 hc he, pre_at C h _⟩ rfl rfl hl.1 hst (lv_room hW) dg hf) h.2.2 (fun q _ => fr C h q) (fr C h) (fun q _ => fr C h q)
    (fun X ce q9 k t H1 locs1 ht hvm hw hB hz hk hS h1 h2 h3 => by
      obtain ⟨hX, hP, hK, hD⟩ := hB
      subst hX
      exact kx k ce q9 H1 locs1 hw.1 hw.2 ⟨by rw [← ht]; exact hP, hD.weaken (fun _ _ _ q => fr C h _ q), hS⟩ h1 h2 h3)
    (fun r u t H1 locs1 ht hvm hw hB hz hk hS => kk r u H1 locs1 hw ⟨by rw [← ht]; exact hB.1, hB.2.2.weaken (fun _ _ _ q => fr C h _ q), hS⟩)
theorem caSi {post : Int32 → St → Prop} (C : CX p s m meth c cc own nL D E A) (h : HW D E σ A s H locs) (hM : CO l y bytes maxL ret rm As D E σ (fun A => va_Qi post (POB D E A) A) mc ms) (w : CWd own index y bytes maxL ret As.length) (wi : Cond.static y ∈ wsL_law) (hrc : rm.cells = mc) (hrs : rm.slots = ms) (hR : rm.frames + 1 ≤ R.frames ∧ 8 + (maxL + 11) + rm.locals ≤ R.locals) (hl : lv_has ls nL hls) (hst : stk = As.reverse ++ rest) (hW : (rest.map fun v => v.category).sum ≤ 8) (dg : decode cc pc = .ok (.invokestatic index, 3)) (hf : cells + mc ≤ R.cells ∧ slots + ms ≤ R.slots)
    (kk : ∀ (r : Int32) (u : St) (H1 : Heap) (locs1 : List Loc), post r u → HW D E u A s H1 locs1 → W p l e R s m args below meth c H1 locs1 (cells + mc) (slots + ms) Q (F0 m (pc + 3) ls (.int r :: rest))) : W p l e R s m args below meth c H locs cells slots Q (F0 m pc ls stk) :=
  va_calli (va_runS ⟨C.x, C.b, C.ml, C.ow, C.tb.args args⟩ (hM H.size) ⟨cwB C w hrc hrs hR, C.w args wi⟩ ⟨pre_blind, pre_at C h _⟩ rfl rfl hl.1 hst (lv_room hW) dg hf) h.2.2 (fun q _ => fr C h q) (fr C h)
    (fun r u t H1 locs1 ht hvm hw hB hz hk hS => kk r u H1 locs1 hw ⟨by rw [← ht]; exact hB.1, hB.2.2.weaken (fun _ _ _ q => fr C h _ q), hS⟩)
theorem cxSi {post : Int32 → St → Prop} (C : CX p s m meth c cc own nL D E A) (h : HW D E σ A s H locs) (hM : CT l y bytes maxL ret rm As D E σ (fun A => va_Qi post (POB D E A) A) thr mc ms) (w : CWd own index y bytes maxL ret As.length) (wi : Cond.static y ∈ wsL_law) (hrc : rm.cells = mc) (hrs : rm.slots = ms) (hR : rm.frames + 1 ≤ R.frames ∧ 8 + (maxL + 11) + rm.locals ≤ R.locals) (hl : lv_has ls nL hls) (hst : stk = As.reverse ++ rest) (hW : (rest.map fun v => v.category).sum ≤ 8) (dg : decode cc pc = .ok (.invokestatic index, 3)) (hf : cells + mc ≤ R.cells ∧ slots + ms ≤ R.slots)
    (kx : ∀ (k : Nat) (ce : Cell) (q9 : Addr) (H1 : Heap) (locs1 : List Loc), k ≠ 0 → thr = k → HW D E σ A s H1 locs1 → H1[q9]? = some ce → ce.vm = .none → s.vm.findClass (exn k) = some ce.cls → vx_W p l e R s m args below meth c H1 locs1 (cells + mc) (slots + ms) Q (F0 m pc ls rest) q9)
    (kk : ∀ (r : Int32) (u : St) (H1 : Heap) (locs1 : List Loc), post r u → HW D E u A s H1 locs1 → W p l e R s m args below meth c H1 locs1 (cells + mc) (slots + ms) Q (F0 m (pc + 3) ls (.int r :: rest))) : W p l e R s m args below meth c H locs cells slots Q (F0 m pc ls stk) :=
  vx_calli (vx_runS ⟨C.x, C.b, C.ml, C.ow, C.tb.args args⟩ (hM H.size) ⟨cwB C w hrc hrs hR, C.w args wi⟩ ⟨pre_blind, pre_at C h _⟩ rfl rfl hl.1 hst (lv_room hW) dg hf) h.2.2 (fun q _ => fr C h q) (fr C h) (fun q _ => fr C h q)
    (fun X ce q9 k t H1 locs1 ht hvm hw hB hz hk hS h1 h2 h3 => by
      obtain ⟨hX, hP, hK, hD⟩ := hB
      subst hX
      exact kx k ce q9 H1 locs1 hw.1 hw.2 ⟨by rw [← ht]; exact hP, hD.weaken (fun _ _ _ q => fr C h _ q), hS⟩ h1 h2 h3)
    (fun r u t H1 locs1 ht hvm hw hB hz hk hS => kk r u H1 locs1 hw ⟨by rw [← ht]; exact hB.1, hB.2.2.weaken (fun _ _ _ q => fr C h _ q), hS⟩)
theorem caSv {post : St → Prop} (C : CX p s m meth c cc own nL D E A) (h : HW D E σ A s H locs) (hM : CO l y bytes maxL ret rm As D E σ (fun A => va_Qv post (POB D E A) A) mc ms) (w : CWd own index y bytes maxL ret As.length) (wi : Cond.static y ∈ wsL_law) (hrc : rm.cells = mc) (hrs : rm.slots = ms) (hR : rm.frames + 1 ≤ R.frames ∧ 8 + (maxL + 11) + rm.locals ≤ R.locals) (hl : lv_has ls nL hls) (hst : stk = As.reverse ++ rest) (hW : (rest.map fun v => v.category).sum ≤ 8) (dg : decode cc pc = .ok (.invokestatic index, 3)) (hf : cells + mc ≤ R.cells ∧ slots + ms ≤ R.slots)
    (kk : ∀ (u : St) (H1 : Heap) (locs1 : List Loc), post u → HW D E u A s H1 locs1 → W p l e R s m args below meth c H1 locs1 (cells + mc) (slots + ms) Q (F0 m (pc + 3) ls (rest))) : W p l e R s m args below meth c H locs cells slots Q (F0 m pc ls stk) :=
  va_callv (va_runS ⟨C.x, C.b, C.ml, C.ow, C.tb.args args⟩ (hM H.size) ⟨cwB C w hrc hrs hR, C.w args wi⟩ ⟨pre_blind, pre_at C h _⟩ rfl rfl hl.1 hst (lv_room hW) dg hf) h.2.2 (fun q _ => fr C h q) (fr C h)
    (fun u t H1 locs1 ht hvm hw hB hz hk hS => kk u H1 locs1 hw ⟨by rw [← ht]; exact hB.1, hB.2.2.weaken (fun _ _ _ q => fr C h _ q), hS⟩)
theorem cxSv {post : St → Prop} (C : CX p s m meth c cc own nL D E A) (h : HW D E σ A s H locs) (hM : CT l y bytes maxL ret rm As D E σ (fun A => va_Qv post (POB D E A) A) thr mc ms) (w : CWd own index y bytes maxL ret As.length) (wi : Cond.static y ∈ wsL_law) (hrc : rm.cells = mc) (hrs : rm.slots = ms) (hR : rm.frames + 1 ≤ R.frames ∧ 8 + (maxL + 11) + rm.locals ≤ R.locals) (hl : lv_has ls nL hls) (hst : stk = As.reverse ++ rest) (hW : (rest.map fun v => v.category).sum ≤ 8) (dg : decode cc pc = .ok (.invokestatic index, 3)) (hf : cells + mc ≤ R.cells ∧ slots + ms ≤ R.slots)
    (kx : ∀ (k : Nat) (ce : Cell) (q9 : Addr) (H1 : Heap) (locs1 : List Loc), k ≠ 0 → thr = k → HW D E σ A s H1 locs1 → H1[q9]? = some ce → ce.vm = .none → s.vm.findClass (exn k) = some ce.cls → vx_W p l e R s m args below meth c H1 locs1 (cells + mc) (slots + ms) Q (F0 m pc ls rest) q9)
    (kk : ∀ (u : St) (H1 : Heap) (locs1 : List Loc), post u → HW D E u A s H1 locs1 → W p l e R s m args below meth c H1 locs1 (cells + mc) (slots + ms) Q (F0 m (pc + 3) ls (rest))) : W p l e R s m args below meth c H locs cells slots Q (F0 m pc ls stk) :=
  vx_callv (vx_runS ⟨C.x, C.b, C.ml, C.ow, C.tb.args args⟩ (hM H.size) ⟨cwB C w hrc hrs hR, C.w args wi⟩ ⟨pre_blind, pre_at C h _⟩ rfl rfl hl.1 hst (lv_room hW) dg hf) h.2.2 (fun q _ => fr C h q) (fr C h) (fun q _ => fr C h q)
    (fun X ce q9 k t H1 locs1 ht hvm hw hB hz hk hS h1 h2 h3 => by
      obtain ⟨hX, hP, hK, hD⟩ := hB
      subst hX
      exact kx k ce q9 H1 locs1 hw.1 hw.2 ⟨by rw [← ht]; exact hP, hD.weaken (fun _ _ _ q => fr C h _ q), hS⟩ h1 h2 h3)
    (fun u t H1 locs1 ht hvm hw hB hz hk hS => kk u H1 locs1 hw ⟨by rw [← ht]; exact hB.1, hB.2.2.weaken (fun _ _ _ q => fr C h _ q), hS⟩)
theorem caSd {post : UInt64 → St → Prop} (C : CX p s m meth c cc own nL D E A) (h : HW D E σ A s H locs) (hM : CO l y bytes maxL ret rm As D E σ (fun A => va_Qd post (POB D E A) A) mc ms) (w : CWd own index y bytes maxL ret As.length) (wi : Cond.static y ∈ wsL_law) (hrc : rm.cells = mc) (hrs : rm.slots = ms) (hR : rm.frames + 1 ≤ R.frames ∧ 8 + (maxL + 11) + rm.locals ≤ R.locals) (hl : lv_has ls nL hls) (hst : stk = As.reverse ++ rest) (hW : (rest.map fun v => v.category).sum ≤ 8) (dg : decode cc pc = .ok (.invokestatic index, 3)) (hf : cells + mc ≤ R.cells ∧ slots + ms ≤ R.slots)
    (kk : ∀ (r : UInt64) (u : St) (H1 : Heap) (locs1 : List Loc), post r u → HW D E u A s H1 locs1 → W p l e R s m args below meth c H1 locs1 (cells + mc) (slots + ms) Q (F0 m (pc + 3) ls (.double r :: rest))) : W p l e R s m args below meth c H locs cells slots Q (F0 m pc ls stk) :=
  va_calld (va_runS ⟨C.x, C.b, C.ml, C.ow, C.tb.args args⟩ (hM H.size) ⟨cwB C w hrc hrs hR, C.w args wi⟩ ⟨pre_blind, pre_at C h _⟩ rfl rfl hl.1 hst (lv_room hW) dg hf) h.2.2 (fun q _ => fr C h q) (fr C h)
    (fun r u t H1 locs1 ht hvm hw hB hz hk hS => kk r u H1 locs1 hw ⟨by rw [← ht]; exact hB.1, hB.2.2.weaken (fun _ _ _ q => fr C h _ q), hS⟩)
theorem cxSd {post : UInt64 → St → Prop} (C : CX p s m meth c cc own nL D E A) (h : HW D E σ A s H locs) (hM : CT l y bytes maxL ret rm As D E σ (fun A => va_Qd post (POB D E A) A) thr mc ms) (w : CWd own index y bytes maxL ret As.length) (wi : Cond.static y ∈ wsL_law) (hrc : rm.cells = mc) (hrs : rm.slots = ms) (hR : rm.frames + 1 ≤ R.frames ∧ 8 + (maxL + 11) + rm.locals ≤ R.locals) (hl : lv_has ls nL hls) (hst : stk = As.reverse ++ rest) (hW : (rest.map fun v => v.category).sum ≤ 8) (dg : decode cc pc = .ok (.invokestatic index, 3)) (hf : cells + mc ≤ R.cells ∧ slots + ms ≤ R.slots)
    (kx : ∀ (k : Nat) (ce : Cell) (q9 : Addr) (H1 : Heap) (locs1 : List Loc), k ≠ 0 → thr = k → HW D E σ A s H1 locs1 → H1[q9]? = some ce → ce.vm = .none → s.vm.findClass (exn k) = some ce.cls → vx_W p l e R s m args below meth c H1 locs1 (cells + mc) (slots + ms) Q (F0 m pc ls rest) q9)
    (kk : ∀ (r : UInt64) (u : St) (H1 : Heap) (locs1 : List Loc), post r u → HW D E u A s H1 locs1 → W p l e R s m args below meth c H1 locs1 (cells + mc) (slots + ms) Q (F0 m (pc + 3) ls (.double r :: rest))) : W p l e R s m args below meth c H locs cells slots Q (F0 m pc ls stk) :=
  vx_calld (vx_runS ⟨C.x, C.b, C.ml, C.ow, C.tb.args args⟩ (hM H.size) ⟨cwB C w hrc hrs hR, C.w args wi⟩ ⟨pre_blind, pre_at C h _⟩ rfl rfl hl.1 hst (lv_room hW) dg hf) h.2.2 (fun q _ => fr C h q) (fr C h) (fun q _ => fr C h q)
    (fun X ce q9 k t H1 locs1 ht hvm hw hB hz hk hS h1 h2 h3 => by
      obtain ⟨hX, hP, hK, hD⟩ := hB
      subst hX
      exact kx k ce q9 H1 locs1 hw.1 hw.2 ⟨by rw [← ht]; exact hP, hD.weaken (fun _ _ _ q => fr C h _ q), hS⟩ h1 h2 h3)
    (fun r u t H1 locs1 ht hvm hw hB hz hk hS => kk r u H1 locs1 hw ⟨by rw [← ht]; exact hB.1, hB.2.2.weaken (fun _ _ _ q => fr C h _ q), hS⟩)
end CALL
end WALK
