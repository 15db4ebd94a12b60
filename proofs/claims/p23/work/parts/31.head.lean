/-! the law's head: the object, the first number, the two rows, the supplies, the aircraft (by program) -/
section RAWC
variable {p : Program} {l : Launch} {e : Env} {R : Room} {s : State} {m : MethodId} {args : Array Value} {below : List Frame} {meth : Method} {c : Code} {H : Heap} {locs : List Loc} {cells slots : Nat} {Q : State → Prop}
variable {hls : List (Nat × Value)} {cc : ByteArray} {own : String} {nL : Nat} {D : va_G} {E : En} {A : Nat → Prop} {ws : va_W} {pc : Nat} {ls : Array Slot} {rest : List Value} {index : Nat}
theorem frv (C : CX p s m meth c cc own nL D E A) (h : HV D ws A s H locs) : ∀ q, va_A ws H.size q → A q := by
  rintro q (⟨k, x, hk⟩ | hq)
  · exact h.2.1.2 k _ hk
  · exact C.a q (Nat.le_trans h.2.2.1 hq)
theorem prw_at (C : CX p s m meth c cc own nL D E A) (h : HV D ws A s H locs) (av : List Value) : ∀ U : State, U.heap = H → s.WarmedH U.vm → va_Pc av (PRW D E ws H.size) av.toArray U := by
  intro U hU hW
  have hE : EX A s H := C.ex.kept (fun a q1 q2 => h.2.2.2.1 a q1 q2)
  have O : AOX s := C.sx.2.2.2
  refine ⟨rfl, by rw [hU], by rw [hU]; exact h.1, C.k.moved hW.alike, h.2.1.weaken (fun _ _ _ _ => trivial), C.tb.moved hW, C.sx.moved hW, ?_, O.moved hW⟩
  rw [hU]
  exact (hE.narrow (frv C h)).moved hW.alike
theorem rtR {post : Int32 → Unit → Prop} {v : Int32} {ty : FieldType} (C : CX p s m meth c cc own nL D E A) (h : HV D ws A s H locs) (hr : meth.sig.returnType = some ty) (hn : narrow ty (.int v) = .int v) (dg : decode cc pc = .ok (.ireturn, 1)) (hp : post v ()) : W p l e R s m args below meth c H locs cells slots (MQ below (va_Qi post (fun (_ : Unit) t => va_P D vwCl ws t.heap ∧ va_D A ws) A) args s cells slots A) (F0 m pc ls [.int v]) :=
  W.zret C.x C.b hr hn (fun t ht hW => ⟨⟨v, (), rfl, hp, by rw [ht]; exact h.1, h.2.1⟩, h.2.2.F ht⟩) h.2.2.2.2 dg C.lk
end RAWC
theorem R_L_low (l : Launch) (D : va_G) (E : En) (ws : va_W) (p0 p1 : Int32) (hd : ¬ p1 = 0) : ∀ sz : Nat, Met l yL_low [.code yL_low cL_low 2 (some .int)] rm_L_low (va_Pc [.int p0, .int p1] (PRW D E ws sz)) (va_Qi (fun (r : Int32) (_ : Unit) => S_L_low p0 p1 = r) (fun (_ : Unit) t => va_P D vwCl ws t.heap ∧ va_D (va_A ws sz) ws) (va_A ws sz)) 0 0 (va_A ws sz) := by
  intro sz
  refine Met.ofW (cc := cL_low) (maxL := 2) (ret := some .int) (by decide +kernel) rfl ?_
  intro p e s m args below meth c s₁ B hml hv
  obtain ⟨rfl, hsz, hP, hK, hD0, hT, hX, hE, hO⟩ := hv
  subst hsz
  have hr : meth.sig.returnType = some .int := B.returns
  have C : CX p s m meth c cL_low RL 2 D E (va_A ws s.heap.size) := ⟨B.exec, B.bytes, hml, findClass_of_methodNamed B.named, B.notSynchronized, hT, hX, hK, fun q h => Or.inr h, hE⟩
  have h : HV D ws (va_A ws s.heap.size) s s.heap [] := ⟨hP, hD0.self, va_S.rf⟩
  have body : ∀ ls : Array Slot, lv_has ls 2 [(0, .int p0), (1, .int p1)] → W p l e rm_L_low s m ([Value.int p0, .int p1] : List Value).toArray below meth c s.heap [] 0 0 (MQ below (va_Qi (fun (r : Int32) (_ : Unit) => S_L_low p0 p1 = r) (fun (_ : Unit) t => va_P D vwCl ws t.heap ∧ va_D (va_A ws s.heap.size) ws) (va_A ws s.heap.size)) ([Value.int p0, .int p1] : List Value).toArray s 0 0 (va_A ws s.heap.size)) (F0 m 0 ls []) := by
    intro ls hl
    refine lv_iload_n C.x C.b dL_low_0 rfl (lv_at hl 0 rfl) ?_
    refine lv_ldc C.x C.b C.ow (C.w _ m_ld_L_7) dL_low_1 ?_
    refine lv_iand C.x C.b dL_low_3 ?_
    refine lv_iload_n C.x C.b dL_low_4 rfl (lv_at hl 1 rfl) ?_
    refine lv_irem C.x C.b dL_low_5 hd ?_
    exact rtR C h hr rfl dL_low_6 rfl
  rw [lg_entry_eq]
  exact body _ (lv_entry [.int p0, .int p1] (Nat.le_of_ble_eq_true rfl))
def PRY (D : va_G) (E : En) (ws : va_W) (sz b L : Nat) (xs : Nat → Int32) (U : State) : Prop := PRW D E ws sz U ∧ va_X b L xs U U.heap ∧ b < sz ∧ ¬ va_A ws sz b
theorem pry_blind {D : va_G} {E : En} {ws : va_W} {sz b L : Nat} {xs : Nat → Int32} {av : List Value} : FrameBlind (va_Pc av (PRY D E ws sz b L xs)) := fun a U g mk q => by
  obtain ⟨q0, q1, q2, q3, q4⟩ := q
  obtain ⟨p0, p1⟩ := prw_blind (D := D) (E := E) (ws := ws) (sz := sz) (av := av) a U g mk ⟨q0, q1⟩
  exact ⟨p0, p1, va_X.moved (u := U) (U := U.calling g mk a) (Vm.Alike.refl U.vm) q2, q3, q4⟩
theorem R_L_cell (l : Launch) (D : va_G) (E : En) (ws : va_W) (b L : Nat) (xs : Nat → Int32) (hL : L ≤ 260) (k : Nat) (hk : k < 2 ^ 31) : ∀ sz : Nat, Met l yL_cell [.code yL_cell cL_cell 2 (some .int)] rm_L_cell (va_Pc [.ref b, .int (nI k)] (PRY D E ws sz b L xs)) (va_Qi (fun (_ : Int32) (_ : Unit) => True) (fun (_ : Unit) t => va_P D vwCl ws t.heap ∧ va_D (va_A ws sz) ws) (va_A ws sz)) 0 0 (va_A ws sz) := by
  intro sz
  refine Met.ofW (cc := cL_cell) (maxL := 2) (ret := some .int) (by decide +kernel) rfl ?_
  intro p e s m args below meth c s₁ B hml hv
  obtain ⟨rfl, ⟨hsz, hP, hK, hD0, hT, hX, hE, hO⟩, hx, hbl, hbA⟩ := hv
  subst hsz
  have hr : meth.sig.returnType = some .int := B.returns
  have C : CX p s m meth c cL_cell RL 2 D E (va_A ws s.heap.size) := ⟨B.exec, B.bytes, hml, findClass_of_methodNamed B.named, B.notSynchronized, hT, hX, hK, fun q h => Or.inr h, hE⟩
  have h : HV D ws (va_A ws s.heap.size) s s.heap [] := ⟨hP, hD0.self, va_S.rf⟩
  have body : ∀ ls : Array Slot, lv_has ls 2 [(0, .ref b), (1, .int (nI k))] → W p l e rm_L_cell s m ([Value.ref b, .int (nI k)] : List Value).toArray below meth c s.heap [] 0 0 (MQ below (va_Qi (fun (_ : Int32) (_ : Unit) => True) (fun (_ : Unit) t => va_P D vwCl ws t.heap ∧ va_D (va_A ws s.heap.size) ws) (va_A ws s.heap.size)) ([Value.ref b, .int (nI k)] : List Value).toArray s 0 0 (va_A ws s.heap.size)) (F0 m 0 ls []) := by
    intro ls hl
    refine lv_iload_n C.x C.b dL_cell_0 rfl (lv_at hl 1 rfl) ?_
    refine lv_aload_n C.x C.b dL_cell_1 rfl (lv_at hl 0 rfl) ?_
    refine va_slen C.x C.b hx hbl hbA h.2.2 dL_cell_2 ?_
    refine lv_icmp_ge (tgt := 12) C.x C.b dL_cell_3 (by decide) (fun _ => ?_) (fun q => ?_)
    · refine lv_sipush (v := 7919) C.x C.b dL_cell_12 (by decide) ?_
      refine lv_iload_n C.x C.b dL_cell_15 rfl (lv_at hl 1 rfl) ?_
      refine lv_iconst (v := 3) C.x C.b dL_cell_16 (by decide) ?_
      refine lv_iadd C.x C.b dL_cell_17 ?_
      refine lv_imul C.x C.b dL_cell_18 ?_
      refine lv_iload_n C.x C.b dL_cell_19 rfl (lv_at hl 1 rfl) ?_
      refine lv_bipush (v := 11) C.x C.b dL_cell_20 (by decide) ?_
      refine lv_iadd C.x C.b dL_cell_22 ?_
      refine lv_imul C.x C.b dL_cell_23 ?_
      exact rtR C h hr rfl dL_cell_24 trivial
    · have hj : k < L := by
        rcases nI_lt_of (n := L) (j := k) (by omega) q with z | z
        · exact z
        · omega
      refine lv_aload_n C.x C.b dL_cell_6 rfl (lv_at hl 0 rfl) ?_
      refine lv_iload_n C.x C.b dL_cell_7 rfl (lv_at hl 1 rfl) ?_
      refine va_sld C.x C.b hx hbl hbA h.2.2 (vp_in_nI hj (by omega)) dL_cell_8 ?_
      refine lv_goto (tgt := 24) C.x C.b dL_cell_9 (by decide) ?_
      exact rtR C h hr rfl dL_cell_24 trivial
  rw [lg_entry_eq]
  exact body _ (lv_entry [.ref b, .int (nI k)] (Nat.le_of_ble_eq_true rfl))
section RAWD
variable {p : Program} {l : Launch} {e : Env} {R : Room} {s : State} {m : MethodId} {args : Array Value} {below : List Frame} {meth : Method} {c : Code} {H : Heap} {locs : List Loc} {cells slots : Nat} {Q : State → Prop}
variable {hls : List (Nat × Value)} {cc : ByteArray} {own : String} {nL : Nat} {D : va_G} {E : En} {A : Nat → Prop} {ws : va_W} {pc : Nat} {ls : Array Slot} {rest : List Value} {index : Nat}
theorem raLow {N : Nat} (hN0 : 0 < N) (hN : N < 2 ^ 31) {v x : Int32} (ex : x = nI N) (C : CX p s m meth c cc own nL D E A) (h : HV D ws A s H locs) (w : CWd own index yL_low cL_low 2 (some .int) 2) (hR : 0 + 1 ≤ R.frames ∧ 8 + (2 + 11) + 0 ≤ R.locals) (hl : lv_has ls nL hls) (hW : (rest.map fun v => v.category).sum ≤ 8) (dg : decode cc pc = .ok (.invokestatic index, 3)) (hf : cells ≤ R.cells ∧ slots ≤ R.slots)
    (kk : ∀ (j : Nat) (H1 : Heap) (locs1 : List Loc), j < N → HV D ws A s H1 locs1 → W p l e R s m args below meth c H1 locs1 cells slots Q (F0 m (pc + 3) ls (.int (nI j) :: rest))) : W p l e R s m args below meth c H locs cells slots Q (F0 m pc ls (.int x :: .int v :: rest)) := by
  subst ex
  exact va_calli (va_runS (As := [.int v, .int (nI N)]) (rest := rest) ⟨C.x, C.b, C.ml, C.ow, C.tb.args args⟩ (R_L_low l D E ws v (nI N) (nI_ne0 hN0 hN) H.size) ⟨cwB C w rfl rfl hR, C.w args m_st_L_low⟩ ⟨prw_blind, prw_at C h _⟩ rfl rfl hl.1 rfl (lv_room hW) dg hf) h.2.2 (fun q _ => frv C h q) (frv C h)
    (fun r u t H1 locs1 ht hvm hw hB hz hk hS => by
      subst hw
      obtain ⟨j, hj, ej⟩ := low_nI v hN0 hN
      rw [ej]
      exact kk j H1 locs1 hj ⟨by rw [← ht]; exact hB.1, hB.2.weaken (fun _ _ _ q => frv C h _ q), hS⟩)
theorem raCell {b L k : Nat} {xs : Nat → Int32} (hL : L ≤ 260) (hX : va_X b L xs s s.heap) (hbl : b < s.heap.size) (hbA : ¬ A b) (hk : k < 2 ^ 31) {x : Int32} (ex : x = nI k) (C : CX p s m meth c cc own nL D E A) (h : HV D ws A s H locs) (w : CWd own index yL_cell cL_cell 2 (some .int) 2) (hR : 0 + 1 ≤ R.frames ∧ 8 + (2 + 11) + 0 ≤ R.locals) (hl : lv_has ls nL hls) (hW : (rest.map fun v => v.category).sum ≤ 8) (dg : decode cc pc = .ok (.invokestatic index, 3)) (hf : cells ≤ R.cells ∧ slots ≤ R.slots)
    (kk : ∀ (r : Int32) (H1 : Heap) (locs1 : List Loc), HV D ws A s H1 locs1 → W p l e R s m args below meth c H1 locs1 cells slots Q (F0 m (pc + 3) ls (.int r :: rest))) : W p l e R s m args below meth c H locs cells slots Q (F0 m pc ls (.int x :: .ref b :: rest)) := by
  subst ex
  have hpry : ∀ U : State, U.heap = H → s.WarmedH U.vm → va_Pc [.ref b, .int (nI k)] (PRY D E ws H.size b L xs) ([.ref b, .int (nI k)] : List Value).toArray U := fun U hU hW => by
    obtain ⟨p0, p1⟩ := prw_at C h [.ref b, .int (nI k)] U hU hW
    refine ⟨p0, p1, ?_, Nat.lt_of_lt_of_le hbl h.2.2.1, fun q => hbA (frv C h b q)⟩
    rw [hU]
    exact (hX.kept (H1 := H) (h.2.2.2.1 b hbl hbA)).moved hW.alike
  exact va_calli (va_runS (As := [.ref b, .int (nI k)]) (rest := rest) ⟨C.x, C.b, C.ml, C.ow, C.tb.args args⟩ (R_L_cell l D E ws b L xs hL k hk H.size) ⟨cwB C w rfl rfl hR, C.w args m_st_L_cell⟩ ⟨pry_blind, hpry⟩ rfl rfl hl.1 rfl (lv_room hW) dg hf) h.2.2 (fun q _ => frv C h q) (frv C h)
    (fun r u t H1 locs1 ht hvm hw hB hz hk hS => kk r H1 locs1 ⟨by rw [← ht]; exact hB.1, hB.2.weaken (fun _ _ _ q => frv C h _ q), hS⟩)
end RAWD
set_option maxRecDepth 100000 in
set_option maxHeartbeats 4000000 in
theorem hd_149 {p : Program} {l : Launch} (hfl : l.stackTraces = false) {e : Env} {s : State} {m : MethodId} {args : Array Value} {below : List Frame} {meth : Method} {c : Code} {Q : State → Prop} {D : va_G} {A : Nat → Prop} {b : Nat} {v0 : Int32} {N6 : Nat} (h16 : 1 ≤ N6 ∧ N6 ≤ 6) {L : Nat} {xs : Nat → Int32} (hL : L ≤ 260) (hX : va_X b L xs s s.heap) (hbl : b < s.heap.size) (hbA : ¬ A b)
    (kE : ∀ (E : En) (σ : St) (H : Heap) (locs : List Loc) (cells slots : Nat) (ls : Array Slot), CX p s m meth c cL_law RL 25 D E A → HW D E σ A s H locs → cells ≤ 600086 → slots ≤ 7301441 → lv_has ls 25 [(7, .int 1)] → W p l e room_1 s m args below meth c H locs cells slots Q (F0 m 1254 ls [])) {E : En} (hn : N6 = en E) {σ : St} (hI : II σ 0 N6 0) {x6 : Int32} (e6 : x6 = σ 18 0) (e24 : σ 24 0 = 0) (e20 : σ 20 0 = 0) (C : CX p s m meth c cL_law RL 25 D E A) {H : Heap} {locs : List Loc} (h : HW D E σ A s H locs) {cells slots : Nat} (hc : cells ≤ 200) (hs : slots ≤ 1500) {ls : Array Slot} (hl : lv_has ls 25 [(7, .int (nI N6)), (6, .int x6), (5, .ref (ead E 16)), (4, .ref (ead E 15)), (3, .int (nI N6)), (2, .int v0), (1, .ref (ead E 0)), (0, .ref b)]) : W p l e room_1 s m args below meth c H locs cells slots Q (F0 m 149 ls []) := by
  have ok : OK E σ := hI.ok hn
  refine lv_iconst (v := 1) C.x C.b dL_law_149 (by decide) ?_
  refine lv_istore (lv' := [(7, .int 1), (6, .int x6), (5, .ref (ead E 16)), (4, .ref (ead E 15)), (3, .int (nI N6)), (2, .int v0), (1, .ref (ead E 0)), (0, .ref b)]) C.x C.b dL_law_150 hl (by decide) rfl (fun ls hl => ?_)
  refine lv_aload_n C.x C.b dL_law_152 rfl (lv_at hl 7 rfl) ?_
  refine va_slen C.x C.b hX hbl hbA h.2.2 dL_law_153 ?_
  refine lv_bipush (v := 60) C.x C.b dL_law_154 (by decide) ?_
  refine lv_icmp_ge (tgt := 164) C.x C.b dL_law_156 (by decide) (fun c156 => ?_) (fun c156 => ?_)
  · skip
    refine lv_bipush (v := 60) C.x C.b dL_law_164 (by decide) ?_
    refine lv_istore (lv' := [(8, .int 60), (7, .int 1), (6, .int x6), (5, .ref (ead E 16)), (4, .ref (ead E 15)), (3, .int (nI N6)), (2, .int v0), (1, .ref (ead E 0)), (0, .ref b)]) C.x C.b dL_law_166 hl (by decide) rfl (fun ls hl => ?_)
    refine lv_iconst (v := 0) C.x C.b dL_law_168 (by decide) ?_
    refine lv_istore (lv' := [(9, .int 0), (8, .int 60), (7, .int 1), (6, .int x6), (5, .ref (ead E 16)), (4, .ref (ead E 15)), (3, .int (nI N6)), (2, .int v0), (1, .ref (ead E 0)), (0, .ref b)]) C.x C.b dL_law_169 hl (by decide) rfl (fun ls hl => ?_)
    refine lv_iconst (v := 0) C.x C.b dL_law_171 (by decide) ?_
    refine lv_istore (lv' := [(10, .int 0), (9, .int 0), (8, .int 60), (7, .int 1), (6, .int x6), (5, .ref (ead E 16)), (4, .ref (ead E 15)), (3, .int (nI N6)), (2, .int v0), (1, .ref (ead E 0)), (0, .ref b)]) C.x C.b dL_law_172 hl (by decide) rfl (fun ls hl => ?_)
    refine lv_iconst (v := 0) C.x C.b dL_law_174 (by decide) ?_
    refine lv_istore (lv' := [(11, .int 0), (10, .int 0), (9, .int 0), (8, .int 60), (7, .int 1), (6, .int x6), (5, .ref (ead E 16)), (4, .ref (ead E 15)), (3, .int (nI N6)), (2, .int v0), (1, .ref (ead E 0)), (0, .ref b)]) C.x C.b dL_law_175 hl (by decide) rfl (fun ls hl => ?_)
    refine lv_iconst (v := 1) C.x C.b dL_law_177 (by decide) ?_
    refine lv_istore (lv' := [(12, .int 1), (11, .int 0), (10, .int 0), (9, .int 0), (8, .int 60), (7, .int 1), (6, .int x6), (5, .ref (ead E 16)), (4, .ref (ead E 15)), (3, .int (nI N6)), (2, .int v0), (1, .ref (ead E 0)), (0, .ref b)]) C.x C.b dL_law_178 hl (by decide) rfl (fun ls hl => ?_)
    exact law_loop (M := 60) hfl hn (by omega) (by decide) hL hX hbl hbA C (fun σ H locs cells slots ls h hc hs hl => kE E σ H locs cells slots ls C h hc hs hl) 60 0 σ 0 x6 0 0 H locs _ _ ls (by decide) (by decide) h hI e6 e24.symm (by rw [e20]; exact Int32.le_refl _) (by omega) (by omega) (lv_sub hl [0, 1, 2, 3, 4, 5, 6, 7, 8, 9, 10, 11, 12] rfl)
  · skip
    have hL6 : L ≤ 60 := Nat.le_of_not_lt (fun q => c156 (nI_le (a := 60) (by omega) (by omega)))
    refine lv_aload_n C.x C.b dL_law_159 rfl (lv_at hl 7 rfl) ?_
    refine va_slen C.x C.b hX hbl hbA h.2.2 dL_law_160 ?_
    refine lv_goto (tgt := 166) C.x C.b dL_law_161 (by decide) ?_
    refine lv_istore (lv' := [(8, .int (nI L)), (7, .int 1), (6, .int x6), (5, .ref (ead E 16)), (4, .ref (ead E 15)), (3, .int (nI N6)), (2, .int v0), (1, .ref (ead E 0)), (0, .ref b)]) C.x C.b dL_law_166 hl (by decide) rfl (fun ls hl => ?_)
    refine lv_iconst (v := 0) C.x C.b dL_law_168 (by decide) ?_
    refine lv_istore (lv' := [(9, .int 0), (8, .int (nI L)), (7, .int 1), (6, .int x6), (5, .ref (ead E 16)), (4, .ref (ead E 15)), (3, .int (nI N6)), (2, .int v0), (1, .ref (ead E 0)), (0, .ref b)]) C.x C.b dL_law_169 hl (by decide) rfl (fun ls hl => ?_)
    refine lv_iconst (v := 0) C.x C.b dL_law_171 (by decide) ?_
    refine lv_istore (lv' := [(10, .int 0), (9, .int 0), (8, .int (nI L)), (7, .int 1), (6, .int x6), (5, .ref (ead E 16)), (4, .ref (ead E 15)), (3, .int (nI N6)), (2, .int v0), (1, .ref (ead E 0)), (0, .ref b)]) C.x C.b dL_law_172 hl (by decide) rfl (fun ls hl => ?_)
    refine lv_iconst (v := 0) C.x C.b dL_law_174 (by decide) ?_
    refine lv_istore (lv' := [(11, .int 0), (10, .int 0), (9, .int 0), (8, .int (nI L)), (7, .int 1), (6, .int x6), (5, .ref (ead E 16)), (4, .ref (ead E 15)), (3, .int (nI N6)), (2, .int v0), (1, .ref (ead E 0)), (0, .ref b)]) C.x C.b dL_law_175 hl (by decide) rfl (fun ls hl => ?_)
    refine lv_iconst (v := 1) C.x C.b dL_law_177 (by decide) ?_
    refine lv_istore (lv' := [(12, .int 1), (11, .int 0), (10, .int 0), (9, .int 0), (8, .int (nI L)), (7, .int 1), (6, .int x6), (5, .ref (ead E 16)), (4, .ref (ead E 15)), (3, .int (nI N6)), (2, .int v0), (1, .ref (ead E 0)), (0, .ref b)]) C.x C.b dL_law_178 hl (by decide) rfl (fun ls hl => ?_)
    exact law_loop (M := L) hfl hn (by omega) (by omega) hL hX hbl hbA C (fun σ H locs cells slots ls h hc hs hl => kE E σ H locs cells slots ls C h hc hs hl) L 0 σ 0 x6 0 0 H locs _ _ ls (by omega) (by decide) h hI e6 e24.symm (by rw [e20]; exact Int32.le_refl _) (by omega) (by omega) (lv_sub hl [0, 1, 2, 3, 4, 5, 6, 7, 8, 9, 10, 11, 12] rfl)
set_option maxRecDepth 100000 in
set_option maxHeartbeats 4000000 in
theorem hd_79 {p : Program} {l : Launch} (hfl : l.stackTraces = false) {e : Env} {s : State} {m : MethodId} {args : Array Value} {below : List Frame} {meth : Method} {c : Code} {Q : State → Prop} {D : va_G} {A : Nat → Prop} {b : Nat} {v0 : Int32} {N6 : Nat} (h16 : 1 ≤ N6 ∧ N6 ≤ 6) {L : Nat} {xs : Nat → Int32} (hL : L ≤ 260) (hX : va_X b L xs s s.heap) (hbl : b < s.heap.size) (hbA : ¬ A b)
    (kE : ∀ (E : En) (σ : St) (H : Heap) (locs : List Loc) (cells slots : Nat) (ls : Array Slot), CX p s m meth c cL_law RL 25 D E A → HW D E σ A s H locs → cells ≤ 600086 → slots ≤ 7301441 → lv_has ls 25 [(7, .int 1)] → W p l e room_1 s m args below meth c H locs cells slots Q (F0 m 1254 ls [])) :
    ∀ (d k : Nat), d + k = N6 → ∀ (E : En) (σ : St) (x6 : Int32) (H : Heap) (locs : List Loc) (cells slots : Nat) (ls : Array Slot), CX p s m meth c cL_law RL 25 D E A → HW D E σ A s H locs → k = en E → II σ 0 k 0 → x6 = σ 18 0 → σ 24 0 = 0 → σ 20 0 = 0 → cells ≤ 100 + 10 * k → slots ≤ 600 + 60 * k → lv_has ls 25 [(7, .int (nI k)), (6, .int x6), (5, .ref (ead E 16)), (4, .ref (ead E 15)), (3, .int (nI N6)), (2, .int v0), (1, .ref (ead E 0)), (0, .ref b)] → W p l e room_1 s m args below meth c H locs cells slots Q (F0 m 79 ls []) := by
  intro d
  induction d with
  | zero =>
    intro k hd E σ x6 H locs cells slots ls C h hn hI e6 e24 e20 hc hs hl
    obtain rfl : k = N6 := by omega
    refine lv_iload C.x C.b dL_law_79 (lv_at hl 0 rfl) ?_
    refine lv_iload_n C.x C.b dL_law_81 rfl (lv_at hl 4 rfl) ?_
    refine lv_icmp_ge (tgt := 149) C.x C.b dL_law_82 (by decide) (fun _ => ?_) (fun q => absurd (Int32.le_refl _) q)
    exact hd_149 hfl h16 hL hX hbl hbA kE hn hI e6 e24 e20 C h (by omega) (by omega) hl
  | succ d ih =>
    intro k hd E σ x6 H locs cells slots ls C h hn hI e6 e24 e20 hc hs hl
    have ok : OK E σ := hI.ok hn
    have hk : k < N6 := by omega
    refine lv_iload C.x C.b dL_law_79 (lv_at hl 0 rfl) ?_
    refine lv_iload_n C.x C.b dL_law_81 rfl (lv_at hl 4 rfl) ?_
    refine lv_icmp_ge (tgt := 149) C.x C.b dL_law_82 (by decide) (fun q => absurd q (nI_ge hk (by omega))) (fun _ => ?_)
    refine lv_aload_n C.x C.b dL_law_85 rfl (lv_at hl 7 rfl) ?_
    refine lv_iconst (v := 1) C.x C.b dL_law_86 (by decide) ?_
    refine lv_iload C.x C.b dL_law_87 (lv_at hl 0 rfl) ?_
    refine lv_iadd C.x C.b dL_law_89 ?_
    refine top_eq (y := nI (1 + k)) (nI_add 1 k) ?_
    refine caCell (k := (1 + k)) hL hX hbl hbA (by omega) rfl C h cw_L_26 ⟨Nat.le_of_ble_eq_true rfl, Nat.le_of_ble_eq_true rfl⟩ hl (Nat.le_of_ble_eq_true rfl) dL_law_90 ⟨by show cells ≤ 600086; omega, by show slots ≤ 7301441; omega⟩ (fun w H locs h => ?_)
    refine lv_istore (lv' := [(8, .int w), (7, .int (nI k)), (6, .int x6), (5, .ref (ead E 16)), (4, .ref (ead E 15)), (3, .int (nI N6)), (2, .int v0), (1, .ref (ead E 0)), (0, .ref b)]) C.x C.b dL_law_93 hl (by decide) rfl (fun ls hl => ?_)
    refine lv_aload C.x C.b dL_law_95 (lv_at hl 4 rfl) ?_
    refine lv_iload C.x C.b dL_law_97 (lv_at hl 1 rfl) ?_
    refine lv_bipush (v := 10) C.x C.b dL_law_99 (by decide) ?_
    refine lv_iload C.x C.b dL_law_101 (lv_at hl 0 rfl) ?_
    refine lv_bipush (v := 71) C.x C.b dL_law_103 (by decide) ?_
    refine caLow (N := 71) (by decide) (by decide) rfl C h cw_L_32 ⟨Nat.le_of_ble_eq_true rfl, Nat.le_of_ble_eq_true rfl⟩ hl (Nat.le_of_ble_eq_true rfl) dL_law_105 ⟨by show cells ≤ 600086; omega, by show slots ≤ 7301441; omega⟩ (fun j1 H locs hj1 h => ?_)
    refine lv_iadd C.x C.b dL_law_108 ?_
    refine top_eq (y := nI (10 + j1)) (nI_add 10 j1) ?_
    refine asn_15 C h (j := k) (by omega) dL_law_109 (fun H locs h => ?_)
    refine lv_aload_n C.x C.b dL_law_110 rfl (lv_at hl 7 rfl) ?_
    refine lv_aload C.x C.b dL_law_111 (lv_at hl 4 rfl) ?_
    refine lv_iload C.x C.b dL_law_113 (lv_at hl 1 rfl) ?_
    refine aln_15 C h (j := k) (by omega) dL_law_115 ?_
    refine top_eq (y := nI (10 + j1)) (up2_s _ _ _ _) ?_
    refine lv_iload C.x C.b dL_law_116 (lv_at hl 0 rfl) ?_
    refine lv_iconst (v := 5) C.x C.b dL_law_118 (by decide) ?_
    refine lv_ishr C.x C.b dL_law_119 ?_
    refine lv_bipush (v := 60) C.x C.b dL_law_120 (by decide) ?_
    refine caLow (N := 60) (by decide) (by decide) rfl C h cw_L_32 ⟨Nat.le_of_ble_eq_true rfl, Nat.le_of_ble_eq_true rfl⟩ hl (Nat.le_of_ble_eq_true rfl) dL_law_122 ⟨by show cells ≤ 600086; omega, by show slots ≤ 7301441; omega⟩ (fun j2 H locs hj2 h => ?_)
    refine lv_bipush (v := 20) C.x C.b dL_law_125 (by decide) ?_
    refine lv_iload C.x C.b dL_law_127 (lv_at hl 0 rfl) ?_
    refine lv_bipush (v := 8) C.x C.b dL_law_129 (by decide) ?_
    refine lv_ishr C.x C.b dL_law_131 ?_
    refine lv_sipush (v := 300) C.x C.b dL_law_132 (by decide) ?_
    refine caLow (N := 300) (by decide) (by decide) rfl C h cw_L_32 ⟨Nat.le_of_ble_eq_true rfl, Nat.le_of_ble_eq_true rfl⟩ hl (Nat.le_of_ble_eq_true rfl) dL_law_135 ⟨by show cells ≤ 600086; omega, by show slots ≤ 7301441; omega⟩ (fun j3 H locs hj3 h => ?_)
    refine lv_iadd C.x C.b dL_law_138 ?_
    refine top_eq (y := nI (20 + j3)) (nI_add 20 j3) ?_
    refine lcG (As := [.int (nI (10 + j1)), .int (nI j2), .int (nI (20 + j3))]) (rest := []) C h (M_X6_aircraft l hfl D E _ (ok.up (by decide) _ _) (nI (10 + j1)) (nI j2) (nI (20 + j3))) (V_aircraft (I_span hI _) (by omega) (by omega) (by omega) (by omega) (by omega)) cw_L_38 m_im_X6_aircraft m_se_X6_aircraft rfl rfl ⟨Nat.le_of_ble_eq_true rfl, Nat.le_of_ble_eq_true rfl⟩ hl rfl (Nat.le_of_ble_eq_true rfl) dL_law_139 ⟨by show cells + 10 ≤ 600086; omega, by show slots + 60 ≤ 7301441; omega⟩ (fun q H locs h => ?_)
    have C : CX p s m meth c cL_law RL 25 D (grow E q) A := C
    have hl : lv_has ls 25 [(8, .int w), (7, .int (nI k)), (6, .int x6), (5, .ref (ead (grow E q) 16)), (4, .ref (ead (grow E q) 15)), (3, .int (nI N6)), (2, .int v0), (1, .ref (ead (grow E q) 0)), (0, .ref b)] := hl
    refine lv_pop C.x C.b dL_law_142 rfl ?_
    refine lv_iinc (v := nI (k + 1)) (lv' := [(7, .int (nI (k + 1))), (8, .int w), (6, .int x6), (5, .ref (ead (grow E q) 16)), (4, .ref (ead (grow E q) 15)), (3, .int (nI N6)), (2, .int v0), (1, .ref (ead (grow E q) 0)), (0, .ref b)]) C.x C.b dL_law_143 hl (k := 1) rfl (nI_1 k) (by decide) rfl (fun ls hl => ?_)
    refine lv_goto (tgt := 79) C.x C.b dL_law_146 (by decide) ?_
    exact ih (k + 1) (by omega) (grow E q) _ x6 H locs _ _ ls C h (by rw [hn]; rfl) (I_aircraft (I_span hI _) (by omega) (up2_s _ _ _ _)) (by rw [AC_o (by omega), up2_f (by decide)]; exact e6) (by rw [AC_o (by omega), up2_f (by decide)]; exact e24) (by rw [AC_o (by omega), up2_f (by decide)]; exact e20) (by show cells + 10 ≤ _; omega) (by show slots + 60 ≤ _; omega) (lv_sub hl [0, 2, 3, 4, 5, 6, 7, 8] rfl)
set_option maxRecDepth 100000 in
set_option maxHeartbeats 4000000 in
theorem hd_40 {p : Program} {l : Launch} (hfl : l.stackTraces = false) {e : Env} {s : State} {m : MethodId} {args : Array Value} {below : List Frame} {meth : Method} {c : Code} {Q : State → Prop} {D : va_G} {A : Nat → Prop} {b : Nat} {v0 : Int32} {N6 : Nat} (h16 : 1 ≤ N6 ∧ N6 ≤ 6) {L : Nat} {xs : Nat → Int32} (hL : L ≤ 260) (hX : va_X b L xs s s.heap) (hbl : b < s.heap.size) (hbA : ¬ A b)
    (kE : ∀ (E : En) (σ : St) (H : Heap) (locs : List Loc) (cells slots : Nat) (ls : Array Slot), CX p s m meth c cL_law RL 25 D E A → HW D E σ A s H locs → cells ≤ 600086 → slots ≤ 7301441 → lv_has ls 25 [(7, .int 1)] → W p l e room_1 s m args below meth c H locs cells slots Q (F0 m 1254 ls [])) {E : En} (hn : 0 = en E) (C : CX p s m meth c cL_law RL 25 D E A) :
    ∀ (d f : Nat), d + f = 3 → ∀ (σ : St) (x6 : Int32) (H : Heap) (locs : List Loc) (cells slots : Nat) (ls : Array Slot), HW D E σ A s H locs → II σ 0 0 0 → (∀ g, f ≤ g → g < 3 → σ 41 g = nI 0) → x6 = σ 18 0 → σ 24 0 = 0 → σ 20 0 = 0 → cells ≤ 40 + 10 * f → slots ≤ 200 + 60 * f → lv_has ls 25 [(7, .int (nI f)), (6, .int x6), (5, .ref (ead E 16)), (4, .ref (ead E 15)), (3, .int (nI N6)), (2, .int v0), (1, .ref (ead E 0)), (0, .ref b)] → W p l e room_1 s m args below meth c H locs cells slots Q (F0 m 40 ls []) := by
  intro d
  induction d with
  | zero =>
    intro f hd σ x6 H locs cells slots ls h hI h41 e6 e24 e20 hc hs hl
    obtain rfl : f = 3 := by omega
    refine lv_iload C.x C.b dL_law_40 (lv_at hl 0 rfl) ?_
    refine lv_iconst (v := 3) C.x C.b dL_law_42 (by decide) ?_
    refine lv_icmp_ge (tgt := 76) C.x C.b dL_law_43 (by decide) (fun _ => ?_) (fun q => absurd (Int32.le_refl _) q)
    refine lv_iconst (v := 0) C.x C.b dL_law_76 (by decide) ?_
    refine lv_istore (lv' := [(7, .int 0), (6, .int x6), (5, .ref (ead E 16)), (4, .ref (ead E 15)), (3, .int (nI N6)), (2, .int v0), (1, .ref (ead E 0)), (0, .ref b)]) C.x C.b dL_law_77 hl (by decide) rfl (fun ls hl => ?_)
    exact hd_79 hfl h16 hL hX hbl hbA kE N6 0 (Nat.add_zero _) E σ x6 H locs _ _ ls C h hn hI e6 e24 e20 (by omega) (by omega) (lv_sub hl [0, 1, 2, 3, 4, 5, 6, 7] rfl)
  | succ d ih =>
    intro f hd σ x6 H locs cells slots ls h hI h41 e6 e24 e20 hc hs hl
    have ok : OK E σ := hI.ok hn
    have hf : f < 3 := by omega
    have e41 := h41 f (Nat.le_refl _) hf
    have e14 : σ 14 f = nI 0 := (hI.f.2 f hf).1.trans e41
    obtain ⟨q1, q2, q3, q4⟩ := supply_all (T := 0) (x := 3000) hI hf
    refine lv_iload C.x C.b dL_law_40 (lv_at hl 0 rfl) ?_
    refine lv_iconst (v := 3) C.x C.b dL_law_42 (by decide) ?_
    refine lv_icmp_ge (tgt := 76) C.x C.b dL_law_43 (by decide) (fun q => absurd q (nI_ge (b := 3) hf (by decide))) (fun _ => ?_)
    refine lv_aload C.x C.b dL_law_46 (lv_at hl 2 rfl) ?_
    refine lv_iload C.x C.b dL_law_48 (lv_at hl 0 rfl) ?_
    refine lv_sipush (v := 3000) C.x C.b dL_law_50 (by decide) ?_
    refine top_eq (y := nI (0 + 3000)) rfl ?_
    refine asn_16 C h (j := f) hf dL_law_53 (fun H locs h => ?_)
    refine lv_iincW (v := (x6 + 3000)) (lv' := [(6, .int (x6 + 3000)), (7, .int (nI f)), (5, .ref (ead E 16)), (4, .ref (ead E 15)), (3, .int (nI N6)), (2, .int v0), (1, .ref (ead E 0)), (0, .ref b)]) C.x C.b dL_law_54 hl (k := 1) rfl rfl (by decide) rfl (fun ls hl => ?_)
    refine lv_aload_n C.x C.b dL_law_60 rfl (lv_at hl 6 rfl) ?_
    refine lv_iload C.x C.b dL_law_61 (lv_at hl 1 rfl) ?_
    refine lv_sipush (v := 3000) C.x C.b dL_law_63 (by decide) ?_
    refine top_eq (y := nI 3000) rfl ?_
    refine lcI (As := [.int (nI f), .int (nI 3000)]) (rest := []) C h (M_X6_supply l hfl D E _ (ok.up (by decide) _ _) (nI f) (nI 3000)) (V_supply (w := 0) hf e14 (by decide) (by decide) (by decide)) cw_L_35 m_im_X6_supply m_se_X6_supply rfl rfl ⟨Nat.le_of_ble_eq_true rfl, Nat.le_of_ble_eq_true rfl⟩ hl rfl (Nat.le_of_ble_eq_true rfl) dL_law_66 ⟨by show cells + 10 ≤ 600086; omega, by show slots + 60 ≤ 7301441; omega⟩ (fun H locs h => ?_)
    refine lv_pop C.x C.b dL_law_69 rfl ?_
    refine lv_iinc (v := nI (f + 1)) (lv' := [(7, .int (nI (f + 1))), (6, .int (x6 + 3000)), (5, .ref (ead E 16)), (4, .ref (ead E 15)), (3, .int (nI N6)), (2, .int v0), (1, .ref (ead E 0)), (0, .ref b)]) C.x C.b dL_law_70 hl (k := 1) rfl (nI_1 f) (by decide) rfl (fun ls hl => ?_)
    refine lv_goto (tgt := 40) C.x C.b dL_law_73 (by decide) ?_
    exact ih (f + 1) (by omega) _ (x6 + 3000) H locs _ _ ls h (I_supply hI hf e41 (by decide)) (fun i hi1 hi2 => by unfold SU; rw [up2_f (by decide), up2_f (by decide), up2_i (show i ≠ f by omega)]; exact h41 i (by omega) hi2) (by rw [q2, e6]; rfl) (by rw [q3]; exact e24) (by rw [q4]; exact e20) (by show cells + 10 ≤ _; omega) (by show slots + 60 ≤ _; omega) (lv_sub hl [0, 1, 2, 3, 4, 5, 6, 7] rfl)
