/-! the law's two small functions, and rows for its calls (ours) -/
def S_L_low (p0 p1 : Int32) : Int32 := (p0 &&& 2147483647) - (p0 &&& 2147483647) / p1 * p1
theorem low_nI (v : Int32) {N : Nat} (h0 : 0 < N) (hN : N < 2 ^ 31) : ∃ j : Nat, j < N ∧ S_L_low v (nI N) = nI j := by
  have h := pk_and v (m := 2147483647) 31 (by decide)
  refine ⟨v.toBitVec.toNat % 2 ^ 31 % N, Nat.mod_lt _ h0, ?_⟩
  unfold S_L_low
  rw [h, pk_rem (Nat.mod_lt _ (by decide)) h0 hN]
abbrev rm_L_low : Room := { frames := 0, cells := 0, slots := 0, locals := 0 }
theorem M_L_low (l : Launch) (D : va_G) (E : En) (σ : St) (p0 p1 : Int32) (hd : ¬ p1 = 0) : CO l yL_low cL_low 2 (some .int) rm_L_low [.int p0, .int p1] D E σ (fun A => va_Qi (fun r u => S_L_low p0 p1 = r ∧ σ = u) (POB D E A) A) 0 0 :=
  CO.of RL (by decide +kernel) rfl (Nat.le_of_ble_eq_true rfl) (fun p e s m below meth c A ls C h hr hl => by
    have hl : lv_has ls 2 [(0, .int p0), (1, .int p1)] := hl
    refine lv_iload_n C.x C.b dL_low_0 rfl (lv_at hl 0 rfl) ?_
    refine lv_ldc C.x C.b C.ow (C.w _ m_ld_L_7) dL_low_1 ?_
    refine lv_iand C.x C.b dL_low_3 ?_
    refine lv_iload_n C.x C.b dL_low_4 rfl (lv_at hl 1 rfl) ?_
    refine lv_irem C.x C.b dL_low_5 hd ?_
    exact rtI C h hr rfl dL_low_6 ⟨rfl, rfl⟩)
def PRX (D : va_G) (E : En) (σ : St) (sz b L : Nat) (xs : Nat → Int32) (U : State) : Prop := PRE D E σ sz U ∧ va_X b L xs U U.heap ∧ b < sz ∧ ¬ va_A (wd E σ) sz b
theorem prx_blind {D : va_G} {E : En} {σ : St} {sz b L : Nat} {xs : Nat → Int32} {av : List Value} : FrameBlind (va_Pc av (PRX D E σ sz b L xs)) := fun a U g mk q => by
  obtain ⟨q0, q1, q2, q3, q4⟩ := q
  obtain ⟨p0, p1⟩ := pre_blind (D := D) (E := E) (σ := σ) (sz := sz) (av := av) a U g mk ⟨q0, q1⟩
  exact ⟨p0, p1, va_X.moved (u := U) (U := U.calling g mk a) (Vm.Alike.refl U.vm) q2, q3, q4⟩
abbrev rm_L_cell : Room := { frames := 0, cells := 0, slots := 0, locals := 0 }
theorem M_L_cell (l : Launch) (D : va_G) (E : En) (σ : St) (b L : Nat) (xs : Nat → Int32) (hL : L ≤ 260) (k : Nat) (hk : k < 2 ^ 31) : ∀ sz : Nat, Met l yL_cell [.code yL_cell cL_cell 2 (some .int)] rm_L_cell (va_Pc [.ref b, .int (nI k)] (PRX D E σ sz b L xs)) (va_Qi (fun (_ : Int32) (u : St) => σ = u) (POB D E (va_A (wd E σ) sz)) (va_A (wd E σ) sz)) 0 0 (va_A (wd E σ) sz) := by
  intro sz
  refine Met.ofW (cc := cL_cell) (maxL := 2) (ret := some .int) (by decide +kernel) rfl ?_
  intro p e s m args below meth c s₁ B hml hv
  obtain ⟨rfl, ⟨hsz, hP, hK, hD0, hT, hX, hE⟩, hx, hbl, hbA⟩ := hv
  subst hsz
  have hr : meth.sig.returnType = some .int := B.returns
  have C : CX p s m meth c cL_cell RL 2 D E (va_A (wd E σ) s.heap.size) := ⟨B.exec, B.bytes, hml, findClass_of_methodNamed B.named, B.notSynchronized, hT, hX, hK, fun q h => Or.inr h, hE⟩
  have h : HW D E σ (va_A (wd E σ) s.heap.size) s s.heap [] := ⟨hP, hD0.self, va_S.rf⟩
  have body : ∀ ls : Array Slot, lv_has ls 2 [(0, .ref b), (1, .int (nI k))] → W p l e rm_L_cell s m ([Value.ref b, .int (nI k)] : List Value).toArray below meth c s.heap [] 0 0 (MQ below (va_Qi (fun (_ : Int32) (u : St) => σ = u) (POB D E (va_A (wd E σ) s.heap.size)) (va_A (wd E σ) s.heap.size)) ([Value.ref b, .int (nI k)] : List Value).toArray s 0 0 (va_A (wd E σ) s.heap.size)) (F0 m 0 ls []) := by
    intro ls hl
    refine lv_iload_n C.x C.b dL_cell_0 rfl (lv_at hl 1 rfl) ?_
    refine lv_aload_n C.x C.b dL_cell_1 rfl (lv_at hl 0 rfl) ?_
    refine va_slen C.x C.b hx hbl hbA h.2.2 dL_cell_2 ?_
    refine lv_icmp_ge (tgt := 12) C.x C.b dL_cell_3 (by decide) (fun _ => ?_) (fun q => ?_)
    · refine lv_sipush (v := 7919) C.x C.b dL_cell_12 (by decide) ?_
      refine lv_iload_n C.x C.b dL_cell_15 rfl (lv_at hl 1 rfl) ?_
      refine lv_iconst (v := 3) C.x C.b dL_cell_16 (by decide) ?_
      refine lv_iadd C.x C.b dL_cell_17 ?_
      refine lv_imul C.x C.b dL_cell_18 ?_
      refine lv_iload_n C.x C.b dL_cell_19 rfl (lv_at hl 1 rfl) ?_
      refine lv_bipush (v := 11) C.x C.b dL_cell_20 (by decide) ?_
      refine lv_iadd C.x C.b dL_cell_22 ?_
      refine lv_imul C.x C.b dL_cell_23 ?_
      exact rtI C h hr rfl dL_cell_24 rfl
    · have hj : k < L := by
        rcases nI_lt_of (n := L) (j := k) (by omega) q with z | z
        · exact z
        · omega
      refine lv_aload_n C.x C.b dL_cell_6 rfl (lv_at hl 0 rfl) ?_
      refine lv_iload_n C.x C.b dL_cell_7 rfl (lv_at hl 1 rfl) ?_
      refine va_sld C.x C.b hx hbl hbA h.2.2 (vp_in_nI hj (by omega)) dL_cell_8 ?_
      refine lv_goto (tgt := 24) C.x C.b dL_cell_9 (by decide) ?_
      exact rtI C h hr rfl dL_cell_24 rfl
  rw [lg_entry_eq]
  exact body _ (lv_entry [.ref b, .int (nI k)] (Nat.le_of_ble_eq_true rfl))
section LCALL
variable {p : Program} {l : Launch} {e : Env} {R : Room} {s : State} {m : MethodId} {args : Array Value} {below : List Frame} {meth : Method} {c : Code} {H : Heap} {locs : List Loc} {cells slots : Nat} {Q : State → Prop}
variable {hls : List (Nat × Value)} {cc : ByteArray} {own : String} {nL : Nat} {D : va_G} {E : En} {A : Nat → Prop} {σ : St} {pc : Nat} {ls : Array Slot} {rest : List Value}
variable {y : MethodName} {bytes : ByteArray} {maxL mc ms index : Nat} {ret : Option FieldType} {rm : Room} {As : List Value} {C9 : String} {T9 : u_T} {N9 b q0 ci thr : Nat} {fs : List Value} {stk : List Value}
theorem cxVg {post : Int32 → Nat × St → Prop} (C : CX p s m meth c cc own nL D E A) (h : HW D E σ A s H locs) (hM : CT l y bytes maxL ret rm (.ref b :: As) D E σ (fun A => va_Qi post (fun u : Nat × St => POB D (grow E u.1) A u.2) A) thr mc ms) (w : CWd own index y bytes maxL ret As.length) (wi : Cond.instanceMethod y ∈ wsL_law) (wv : Cond.selects C9 y y ∈ wsL_law) (hrc : rm.cells = mc) (hrs : rm.slots = ms) (hR : rm.frames + 1 ≤ R.frames ∧ 8 + (maxL + 11) + rm.locals ≤ R.locals) (he : (wd E σ)[q0]? = some (b, .inr (ci, fs))) (hc : vwCl[ci]? = some (C9, T9, N9)) (hl : lv_has ls nL hls) (hst : stk = As.reverse ++ .ref b :: rest) (hW : (rest.map fun v => v.category).sum ≤ 8) (dg : decode cc pc = .ok (.invokevirtual index, 3)) (hf : cells + mc ≤ R.cells ∧ slots + ms ≤ R.slots)
    (kx : ∀ (k : Nat) (ce : Cell) (q9 : Addr) (H1 : Heap) (locs1 : List Loc), k ≠ 0 → thr = k → HW D E σ A s H1 locs1 → H1[q9]? = some ce → ce.vm = .none → s.vm.findClass (exn k) = some ce.cls → vx_W p l e R s m args below meth c H1 locs1 (cells + mc) (slots + ms) Q (F0 m pc ls rest) q9)
    (kk : ∀ (r : Int32) (u : Nat × St) (H1 : Heap) (locs1 : List Loc), post r u → HW D (grow E u.1) u.2 A s H1 locs1 → W p l e R s m args below meth c H1 locs1 (cells + mc) (slots + ms) Q (F0 m (pc + 3) ls (.int r :: rest))) : W p l e R s m args below meth c H locs cells slots Q (F0 m pc ls stk) :=
  vx_calli (vx_runV ⟨C.x, C.b, C.ml, C.ow, C.tb.args args⟩ (hM H.size) ⟨cwB C w hrc hrs hR, C.w args wi, C.w args wv⟩ ⟨pre_blind, va_recv C.k h.1 hc he, pre_at C h _⟩ rfl rfl hl.1 hst (lv_room hW) dg hf) h.2.2 (fun q _ => fr C h q) (fr C h) (fun q _ => fr C h q)
    (fun X ce q9 k t H1 locs1 ht hvm hw hB hz hk hS h1 h2 h3 => by
      obtain ⟨hX, hP, hK, hD⟩ := hB
      subst hX
      exact kx k ce q9 H1 locs1 hw.1 hw.2 ⟨by rw [← ht]; exact hP, hD.weaken (fun _ _ _ q => fr C h _ q), hS⟩ h1 h2 h3)
    (fun r u t H1 locs1 ht hvm hw hB hz hk hS => kk r u H1 locs1 hw ⟨by rw [← ht]; exact hB.1, hB.2.2.weaken (fun _ _ _ q => fr C h _ q), hS⟩)
theorem lcI {T : Nat × Int32 × St} {r0 : Int32} {u0 : St} (C : CX p s m meth c cc own nL D E A) (h : HW D E σ A s H locs) (hM : CT l y bytes maxL (some .int) rm (.ref (ead E 0) :: As) D E σ (fun A => va_Qi (fun r u => T.1 = 0 ∧ T.2.1 = r ∧ T.2.2 = u) (POB D E A) A) T.1 10 60) (hT : T = (0, r0, u0)) (w : CWd own index y bytes maxL (some .int) As.length) (wi : Cond.instanceMethod y ∈ wsL_law) (wv : Cond.selects RX6 y y ∈ wsL_law) (hrc : rm.cells = 10) (hrs : rm.slots = 60) (hR : rm.frames + 1 ≤ R.frames ∧ 8 + (maxL + 11) + rm.locals ≤ R.locals) (hl : lv_has ls nL hls) (hst : stk = As.reverse ++ .ref (ead E 0) :: rest) (hW : (rest.map fun v => v.category).sum ≤ 8) (dg : decode cc pc = .ok (.invokevirtual index, 3)) (hf : cells + 10 ≤ R.cells ∧ slots + 60 ≤ R.slots)
    (kk : ∀ (H1 : Heap) (locs1 : List Loc), HW D E u0 A s H1 locs1 → W p l e R s m args below meth c H1 locs1 (cells + 10) (slots + 60) Q (F0 m (pc + 3) ls (.int r0 :: rest))) : W p l e R s m args below meth c H locs cells slots Q (F0 m pc ls stk) := by
  subst hT
  exact cxVi (As := As) (rest := rest) (q0 := 0) (ci := 6) C h hM w wi wv hrc hrs hR rfl rfl hl hst hW dg hf (fun k ce q9 H1 locs1 hk ht => absurd ht.symm hk) (fun r u H1 locs1 hp hw => by
    obtain ⟨-, rfl, rfl⟩ := hp
    exact kk H1 locs1 hw)
theorem lcD {T : Nat × UInt64 × St} {r0 : UInt64} {u0 : St} (C : CX p s m meth c cc own nL D E A) (h : HW D E σ A s H locs) (hM : CT l y bytes maxL (some .double) rm (.ref (ead E 0) :: As) D E σ (fun A => va_Qd (fun r u => T.1 = 0 ∧ T.2.1 = r ∧ T.2.2 = u) (POB D E A) A) T.1 10 60) (hT : T = (0, r0, u0)) (w : CWd own index y bytes maxL (some .double) As.length) (wi : Cond.instanceMethod y ∈ wsL_law) (wv : Cond.selects RX6 y y ∈ wsL_law) (hrc : rm.cells = 10) (hrs : rm.slots = 60) (hR : rm.frames + 1 ≤ R.frames ∧ 8 + (maxL + 11) + rm.locals ≤ R.locals) (hl : lv_has ls nL hls) (hst : stk = As.reverse ++ .ref (ead E 0) :: rest) (hW : (rest.map fun v => v.category).sum ≤ 8) (dg : decode cc pc = .ok (.invokevirtual index, 3)) (hf : cells + 10 ≤ R.cells ∧ slots + 60 ≤ R.slots)
    (kk : ∀ (H1 : Heap) (locs1 : List Loc), HW D E u0 A s H1 locs1 → W p l e R s m args below meth c H1 locs1 (cells + 10) (slots + 60) Q (F0 m (pc + 3) ls (.double r0 :: rest))) : W p l e R s m args below meth c H locs cells slots Q (F0 m pc ls stk) := by
  subst hT
  exact cxVd (As := As) (rest := rest) (q0 := 0) (ci := 6) C h hM w wi wv hrc hrs hR rfl rfl hl hst hW dg hf (fun k ce q9 H1 locs1 hk ht => absurd ht.symm hk) (fun r u H1 locs1 hp hw => by
    obtain ⟨-, rfl, rfl⟩ := hp
    exact kk H1 locs1 hw)
theorem lcV {T : Nat × St} {u0 : St} (C : CX p s m meth c cc own nL D E A) (h : HW D E σ A s H locs) (hM : CT l y bytes maxL none rm (.ref (ead E 0) :: As) D E σ (fun A => va_Qv (fun u => T.1 = 0 ∧ T.2 = u) (POB D E A) A) T.1 10 60) (hT : T = (0, u0)) (w : CWd own index y bytes maxL none As.length) (wi : Cond.instanceMethod y ∈ wsL_law) (wv : Cond.selects RX6 y y ∈ wsL_law) (hrc : rm.cells = 10) (hrs : rm.slots = 60) (hR : rm.frames + 1 ≤ R.frames ∧ 8 + (maxL + 11) + rm.locals ≤ R.locals) (hl : lv_has ls nL hls) (hst : stk = As.reverse ++ .ref (ead E 0) :: rest) (hW : (rest.map fun v => v.category).sum ≤ 8) (dg : decode cc pc = .ok (.invokevirtual index, 3)) (hf : cells + 10 ≤ R.cells ∧ slots + 60 ≤ R.slots)
    (kk : ∀ (H1 : Heap) (locs1 : List Loc), HW D E u0 A s H1 locs1 → W p l e R s m args below meth c H1 locs1 (cells + 10) (slots + 60) Q (F0 m (pc + 3) ls rest)) : W p l e R s m args below meth c H locs cells slots Q (F0 m pc ls stk) := by
  subst hT
  exact cxVv (As := As) (rest := rest) (q0 := 0) (ci := 6) C h hM w wi wv hrc hrs hR rfl rfl hl hst hW dg hf (fun k ce q9 H1 locs1 hk ht => absurd ht.symm hk) (fun u H1 locs1 hp hw => by
    obtain ⟨-, rfl⟩ := hp
    exact kk H1 locs1 hw)
theorem lcG {T : Nat × Int32 × St} {r0 : Int32} {u0 : St} (C : CX p s m meth c cc own nL D E A) (h : HW D E σ A s H locs) (hM : CT l y bytes maxL (some .int) rm (.ref (ead E 0) :: As) D E σ (fun A => va_Qi (fun r (u : Nat × St) => T.1 = 0 ∧ T.2.1 = r ∧ T.2.2 = u.2) (fun u : Nat × St => POB D (grow E u.1) A u.2) A) T.1 10 60) (hT : T = (0, r0, u0)) (w : CWd own index y bytes maxL (some .int) As.length) (wi : Cond.instanceMethod y ∈ wsL_law) (wv : Cond.selects RX6 y y ∈ wsL_law) (hrc : rm.cells = 10) (hrs : rm.slots = 60) (hR : rm.frames + 1 ≤ R.frames ∧ 8 + (maxL + 11) + rm.locals ≤ R.locals) (hl : lv_has ls nL hls) (hst : stk = As.reverse ++ .ref (ead E 0) :: rest) (hW : (rest.map fun v => v.category).sum ≤ 8) (dg : decode cc pc = .ok (.invokevirtual index, 3)) (hf : cells + 10 ≤ R.cells ∧ slots + 60 ≤ R.slots)
    (kk : ∀ (q : Nat) (H1 : Heap) (locs1 : List Loc), HW D (grow E q) u0 A s H1 locs1 → W p l e R s m args below meth c H1 locs1 (cells + 10) (slots + 60) Q (F0 m (pc + 3) ls (.int r0 :: rest))) : W p l e R s m args below meth c H locs cells slots Q (F0 m pc ls stk) := by
  subst hT
  exact cxVg (As := As) (rest := rest) (q0 := 0) (ci := 6) C h hM w wi wv hrc hrs hR rfl rfl hl hst hW dg hf (fun k ce q9 H1 locs1 hk ht => absurd ht.symm hk) (fun r u H1 locs1 hp hw => by
    obtain ⟨q, u⟩ := u
    obtain ⟨-, rfl, h9⟩ := hp
    subst h9
    exact kk q H1 locs1 hw)
theorem caLow {N : Nat} (hN0 : 0 < N) (hN : N < 2 ^ 31) {v x : Int32} (ex : x = nI N) (C : CX p s m meth c cc own nL D E A) (h : HW D E σ A s H locs) (w : CWd own index yL_low cL_low 2 (some .int) 2) (hR : 0 + 1 ≤ R.frames ∧ 8 + (2 + 11) + 0 ≤ R.locals) (hl : lv_has ls nL hls) (hW : (rest.map fun v => v.category).sum ≤ 8) (dg : decode cc pc = .ok (.invokestatic index, 3)) (hf : cells ≤ R.cells ∧ slots ≤ R.slots)
    (kk : ∀ (j : Nat) (H1 : Heap) (locs1 : List Loc), j < N → HW D E σ A s H1 locs1 → W p l e R s m args below meth c H1 locs1 cells slots Q (F0 m (pc + 3) ls (.int (nI j) :: rest))) : W p l e R s m args below meth c H locs cells slots Q (F0 m pc ls (.int x :: .int v :: rest)) := by
  subst ex
  refine caSi (As := [.int v, .int (nI N)]) (rest := rest) C h (M_L_low l D E σ v (nI N) (nI_ne0 hN0 hN)) w m_st_L_low rfl rfl hR hl rfl hW dg hf (fun r u H1 locs1 hp hw => ?_)
  obtain ⟨rfl, rfl⟩ := hp
  obtain ⟨j, hj, ej⟩ := low_nI v hN0 hN
  rw [ej]
  exact kk j H1 locs1 hj hw
theorem caCell {b L k : Nat} {xs : Nat → Int32} (hL : L ≤ 260) (hX : va_X b L xs s s.heap) (hbl : b < s.heap.size) (hbA : ¬ A b) (hk : k < 2 ^ 31) {x : Int32} (ex : x = nI k) (C : CX p s m meth c cc own nL D E A) (h : HW D E σ A s H locs) (w : CWd own index yL_cell cL_cell 2 (some .int) 2) (hR : 0 + 1 ≤ R.frames ∧ 8 + (2 + 11) + 0 ≤ R.locals) (hl : lv_has ls nL hls) (hW : (rest.map fun v => v.category).sum ≤ 8) (dg : decode cc pc = .ok (.invokestatic index, 3)) (hf : cells ≤ R.cells ∧ slots ≤ R.slots)
    (kk : ∀ (r : Int32) (H1 : Heap) (locs1 : List Loc), HW D E σ A s H1 locs1 → W p l e R s m args below meth c H1 locs1 cells slots Q (F0 m (pc + 3) ls (.int r :: rest))) : W p l e R s m args below meth c H locs cells slots Q (F0 m pc ls (.int x :: .ref b :: rest)) := by
  subst ex
  have hprx : ∀ U : State, U.heap = H → s.WarmedH U.vm → va_Pc [.ref b, .int (nI k)] (PRX D E σ H.size b L xs) ([.ref b, .int (nI k)] : List Value).toArray U := fun U hU hW => by
    obtain ⟨p0, p1⟩ := pre_at C h [.ref b, .int (nI k)] U hU hW
    refine ⟨p0, p1, ?_, Nat.lt_of_lt_of_le hbl h.2.2.1, fun q => hbA (fr C h b q)⟩
    rw [hU]
    exact (hX.kept (H1 := H) (h.2.2.2.1 b hbl hbA)).moved hW.alike
  exact va_calli (va_runS (As := [.ref b, .int (nI k)]) (rest := rest) ⟨C.x, C.b, C.ml, C.ow, C.tb.args args⟩ (M_L_cell l D E σ b L xs hL k hk H.size) ⟨cwB C w rfl rfl hR, C.w args m_st_L_cell⟩ ⟨prx_blind, hprx⟩ rfl rfl hl.1 rfl (lv_room hW) dg hf) h.2.2 (fun q _ => fr C h q) (fr C h)
    (fun r u t H1 locs1 ht hvm hw hB hz hk hS => by
      subst hw
      exact kk r H1 locs1 ⟨by rw [← ht]; exact hB.1, hB.2.2.weaken (fun _ _ _ q => fr C h _ q), hS⟩)
end LCALL
