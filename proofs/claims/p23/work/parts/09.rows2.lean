/-! more rows: by a counted index; throws; what holds of every state (by program and by hand) -/
theorem nI_ix {j N : Nat} (hj : j < N) (hN : N < 2 ^ 31) : (nI j).toNatClampNeg = j := nI_clamp (Nat.lt_trans hj hN)
/-- what every state has that a call meets -/
def OK (E : En) (σ : St) : Prop := en E ≤ 20 ∧ σ 1 0 = nI (en E) ∧ True ∧ vp_in (σ 3 0) 4 ∧ True ∧ (∀ k, vp_in (σ 33 k) 3) ∧ True
theorem OK.of_fr {E : En} {σ σ' : St} (ok : OK E σ) (h : ∀ f i, f ∈ [1, 3, 33, 43, 55, 66] → σ' f i = σ f i) : OK E σ' := by
  obtain ⟨h1, h2, h3, h4, h5, h6, h7⟩ := ok
  refine ⟨h1, ?_, ?_, ?_, ?_, fun k => ?_, ?_⟩
  · rw [h 1 0 (by decide)]; exact h2
  · trivial
  · rw [h 3 0 (by decide)]; exact h4
  · trivial
  · rw [h 33 k (by decide)]; exact h6 k
  · trivial
theorem OK.up {E : En} {σ : St} (ok : OK E σ) {f : Nat} (hf : f ∉ [1, 3, 33, 43, 55, 66]) (i : Nat) (v : Int32) : OK E (up2 σ f i v) :=
  ok.of_fr (fun g j hg => up2_f (fun q => hf (by rw [← q]; exact hg)) σ i j v)
theorem OK.le {E : En} {σ : St} (ok : OK E σ) : en E ≤ 20 := ok.1
theorem OK.n {E : En} {σ : St} (ok : OK E σ) : σ 1 0 = nI (en E) := ok.2.1
theorem OK.lt {E : En} {σ : St} (ok : OK E σ) {j : Nat} (hj : j ≤ 20) (c : ¬ σ 1 0 ≤ nI j) : j < en E := by
  rw [ok.n, nI_leI (by have := ok.le; omega) (by omega)] at c
  omega
/-- an aircraft's number as a call hands it in -/
def IN (E : En) (x : Int32) : Prop := vp_in x 20 ∧ x.toNatClampNeg < en E
theorem IN.of {E : En} {σ : St} (ok : OK E σ) {j : Nat} (hj : j < en E) : IN E (nI j) := by
  have h20 : j < 20 := Nat.lt_of_lt_of_le hj ok.le
  exact ⟨vp_in_nI h20 (by decide), by rw [nI_ix h20 (by decide)]; exact hj⟩
theorem lt_of_nle2 {p : Int32} {j N : Nat} (hj : j < 2 ^ 31) (hN : N < 2 ^ 31) (hp : p ≤ nI N) (c : ¬ p ≤ nI j) : j < N := by
  rw [Int32.le_iff_toInt_le, nI_toInt hN] at hp
  rw [Int32.le_iff_toInt_le, nI_toInt hj] at c
  omega
theorem lt_of_nle {j N : Nat} (hj : j < 2 ^ 31) (hN : N < 2 ^ 31) (c : ¬ nI N ≤ nI j) : j < N := by
  rw [nI_leI hN hj] at c
  omega
theorem sw_out {x : Int32} (n : Nat) (hn : n < 2 ^ 31) (h : ∀ j, j ≤ n → ¬ x = nI j) : x.toInt < 0 ∨ (n : Int) < x.toInt := by
  rcases Int.lt_or_le x.toInt 0 with q | q
  · exact Or.inl q
  · refine Or.inr (Int.lt_of_not_ge fun q2 => h x.toInt.toNat (by omega) ?_)
    refine Int32.toInt_inj.mp ?_
    rw [nI_toInt (by omega)]
    omega
theorem sw_out1 {x : Int32} (h0 : ¬ x = 0) (h1 : ¬ x = 1) : x.toInt < (0 : Int) ∨ (1 : Int) < x.toInt := sw_out 1 (by decide) (fun j hj => match j, hj with | 0, _ => h0 | 1, _ => h1 | j + 2, q => absurd q (by omega))
theorem sw_out2 {x : Int32} (h0 : ¬ x = 0) (h1 : ¬ x = 1) (h2 : ¬ x = 2) : x.toInt < (0 : Int) ∨ (2 : Int) < x.toInt := sw_out 2 (by decide) (fun j hj => match j, hj with | 0, _ => h0 | 1, _ => h1 | 2, _ => h2 | j + 3, q => absurd q (by omega))
theorem sw_out3 {x : Int32} (h0 : ¬ x = 0) (h1 : ¬ x = 1) (h2 : ¬ x = 2) (h3 : ¬ x = 3) : x.toInt < (0 : Int) ∨ (3 : Int) < x.toInt := sw_out 3 (by decide) (fun j hj => match j, hj with | 0, _ => h0 | 1, _ => h1 | 2, _ => h2 | 3, _ => h3 | j + 4, q => absurd q (by omega))
theorem sw_out4 {x : Int32} (h0 : ¬ x = 0) (h1 : ¬ x = 1) (h2 : ¬ x = 2) (h3 : ¬ x = 3) (h4 : ¬ x = 4) : x.toInt < (0 : Int) ∨ (4 : Int) < x.toInt := sw_out 4 (by decide) (fun j hj => match j, hj with | 0, _ => h0 | 1, _ => h1 | 2, _ => h2 | 3, _ => h3 | 4, _ => h4 | j + 5, q => absurd q (by omega))
theorem sw_out5 {x : Int32} (h0 : ¬ x = 0) (h1 : ¬ x = 1) (h2 : ¬ x = 2) (h3 : ¬ x = 3) (h4 : ¬ x = 4) (h5 : ¬ x = 5) : x.toInt < (0 : Int) ∨ (5 : Int) < x.toInt := sw_out 5 (by decide) (fun j hj => match j, hj with | 0, _ => h0 | 1, _ => h1 | 2, _ => h2 | 3, _ => h3 | 4, _ => h4 | 5, _ => h5 | j + 6, q => absurd q (by omega))
theorem sw_out6 {x : Int32} (h0 : ¬ x = 0) (h1 : ¬ x = 1) (h2 : ¬ x = 2) (h3 : ¬ x = 3) (h4 : ¬ x = 4) (h5 : ¬ x = 5) (h6 : ¬ x = 6) : x.toInt < (0 : Int) ∨ (6 : Int) < x.toInt := sw_out 6 (by decide) (fun j hj => match j, hj with | 0, _ => h0 | 1, _ => h1 | 2, _ => h2 | 3, _ => h3 | 4, _ => h4 | 5, _ => h5 | 6, _ => h6 | j + 7, q => absurd q (by omega))
section WALK2
variable {p : Program} {l : Launch} {e : Env} {R : Room} {s : State} {m : MethodId} {args : Array Value} {below : List Frame} {meth : Method} {c : Code} {H : Heap} {locs : List Loc} {cells slots : Nat} {Q : State → Prop}
variable {hls : List (Nat × Value)} {cc : ByteArray} {own : String} {nL : Nat} {D : va_G} {E : En} {A : Nat → Prop} {σ : St} {pc : Nat} {ls : Array Slot} {rest : List Value}
theorem aln_8 (C : CX p s m meth c cc own nL D E A) (h : HW D E σ A s H locs) {j : Nat} (hj : j < 3) (dg : decode cc pc = .ok (.iaload, 1)) (kk : W p l e R s m args below meth c H locs cells slots Q (F0 m (pc + 1) ls (.int (σ 14 j) :: rest))) : W p l e R s m args below meth c H locs cells slots Q (F0 m pc ls (.int (nI j) :: .ref (ead E 8) :: rest)) := by
  refine al_8 C h (vp_in_nI hj (by decide)) dg ?_
  rw [nI_ix hj (by decide)]
  exact kk
theorem asn_8 (C : CX p s m meth c cc own nL D E A) (h : HW D E σ A s H locs) {j : Nat} {v : Int32} (hj : j < 3) (dg : decode cc pc = .ok (.iastore, 1)) (kk : ∀ (H1 : Heap) (locs1 : List Loc), HW D E (up2 σ 14 j v) A s H1 locs1 → W p l e R s m args below meth c H1 locs1 cells slots Q (F0 m (pc + 1) ls rest)) : W p l e R s m args below meth c H locs cells slots Q (F0 m pc ls (.int v :: .int (nI j) :: .ref (ead E 8) :: rest)) := by
  refine as_8 C h (vp_in_nI hj (by decide)) dg ?_
  rw [nI_ix hj (by decide)]
  exact kk
theorem aln_15 (C : CX p s m meth c cc own nL D E A) (h : HW D E σ A s H locs) {j : Nat} (hj : j < 8) (dg : decode cc pc = .ok (.iaload, 1)) (kk : W p l e R s m args below meth c H locs cells slots Q (F0 m (pc + 1) ls (.int (σ 40 j) :: rest))) : W p l e R s m args below meth c H locs cells slots Q (F0 m pc ls (.int (nI j) :: .ref (ead E 15) :: rest)) := by
  refine al_15 C h (vp_in_nI hj (by decide)) dg ?_
  rw [nI_ix hj (by decide)]
  exact kk
theorem asn_15 (C : CX p s m meth c cc own nL D E A) (h : HW D E σ A s H locs) {j : Nat} {v : Int32} (hj : j < 8) (dg : decode cc pc = .ok (.iastore, 1)) (kk : ∀ (H1 : Heap) (locs1 : List Loc), HW D E (up2 σ 40 j v) A s H1 locs1 → W p l e R s m args below meth c H1 locs1 cells slots Q (F0 m (pc + 1) ls rest)) : W p l e R s m args below meth c H locs cells slots Q (F0 m pc ls (.int v :: .int (nI j) :: .ref (ead E 15) :: rest)) := by
  refine as_15 C h (vp_in_nI hj (by decide)) dg ?_
  rw [nI_ix hj (by decide)]
  exact kk
theorem aln_16 (C : CX p s m meth c cc own nL D E A) (h : HW D E σ A s H locs) {j : Nat} (hj : j < 3) (dg : decode cc pc = .ok (.iaload, 1)) (kk : W p l e R s m args below meth c H locs cells slots Q (F0 m (pc + 1) ls (.int (σ 41 j) :: rest))) : W p l e R s m args below meth c H locs cells slots Q (F0 m pc ls (.int (nI j) :: .ref (ead E 16) :: rest)) := by
  refine al_16 C h (vp_in_nI hj (by decide)) dg ?_
  rw [nI_ix hj (by decide)]
  exact kk
theorem asn_16 (C : CX p s m meth c cc own nL D E A) (h : HW D E σ A s H locs) {j : Nat} {v : Int32} (hj : j < 3) (dg : decode cc pc = .ok (.iastore, 1)) (kk : ∀ (H1 : Heap) (locs1 : List Loc), HW D E (up2 σ 41 j v) A s H1 locs1 → W p l e R s m args below meth c H1 locs1 cells slots Q (F0 m (pc + 1) ls rest)) : W p l e R s m args below meth c H locs cells slots Q (F0 m pc ls (.int v :: .int (nI j) :: .ref (ead E 16) :: rest)) := by
  refine as_16 C h (vp_in_nI hj (by decide)) dg ?_
  rw [nI_ix hj (by decide)]
  exact kk
theorem aln_3 (C : CX p s m meth c cc own nL D E A) (h : HW D E σ A s H locs) {j : Nat} (hj : j < 3) (dg : decode cc pc = .ok (.aaload, 1)) (kk : W p l e R s m args below meth c H locs cells slots Q (F0 m (pc + 1) ls (.ref (ead E (4 + j)) :: rest))) : W p l e R s m args below meth c H locs cells slots Q (F0 m pc ls (.int (nI j) :: .ref (ead E 3) :: rest)) := by
  refine al_3 C h (vp_in_nI hj (by decide)) dg ?_
  rw [nI_ix hj (by decide)]
  exact kk
theorem aln_14 (C : CX p s m meth c cc own nL D E A) (h : HW D E σ A s H locs) (ok : OK E σ) {j : Nat} (hj : j < en E) (dg : decode cc pc = .ok (.aaload, 1)) (kk : W p l e R s m args below meth c H locs cells slots Q (F0 m (pc + 1) ls (.ref (ead E (17 + j)) :: rest))) : W p l e R s m args below meth c H locs cells slots Q (F0 m pc ls (.int (nI j) :: .ref (ead E 14) :: rest)) := by
  have h20 : j < 20 := Nat.lt_of_lt_of_le hj ok.le
  refine al_14 C h (vp_in_nI h20 (by decide)) (by rw [nI_ix h20 (by decide)]; exact hj) dg ?_
  rw [nI_ix h20 (by decide)]
  exact kk
theorem top_eq {x y : Int32} (ee : x = y) (k : W p l e R s m args below meth c H locs cells slots Q (F0 m pc ls (.int y :: rest))) : W p l e R s m args below meth c H locs cells slots Q (F0 m pc ls (.int x :: rest)) := by
  rw [ee]
  exact k
theorem thS {Qc : Array Value → State → Outcome → State → Prop} {thr mc ms ik is ic : Nat} {text : String} {k : Nat} (hfl : l.stackTraces = false) (C : CX p s m meth c cc RX6 nL D E A) (h : HW D E σ A s H locs) (hex : ∀ x ∈ c.exceptionTable.toList, False) (hl : lv_has ls nL hls) (hk : k ≠ 0) (ht : thr = k) (hcls : Bundle.fit (exn k) = true) (w1 : Cond.classLink RX6 ik (exn k) ∈ wsL_law) (w2 : Cond.initialized (exn k) ∈ wsL_law) (hstr : ∃ sa, vk_R RX6 is text sa s)
    (wg : ∀ w ∈ (vx_atS RX6 ic (exn k) ["java/lang/RuntimeException", "java/lang/Exception"]).filter goodWord, w ∈ wsL_law) (wb : ∀ w ∈ (vx_atS RX6 ic (exn k) ["java/lang/RuntimeException", "java/lang/Exception"]).filter (fun w => !goodWord w), w ∈ xcs)
    (hgood : ∀ w ∈ Cond.classLink RX6 ik (exn k) :: Cond.initialized (exn k) :: vx_atS RX6 ic (exn k) ["java/lang/RuntimeException", "java/lang/Exception"], vx_ot w = true)
    (d0 : decode cc pc = .ok (.new ik, 3)) (d3 : decode cc (pc + 3) = .ok (.dup, 1)) (d4 : decode cc (pc + 4) = .ok (.ldc is, 2)) (d6 : decode cc (pc + 4 + 2) = .ok (.invokespecial ic, 3)) (d9 : decode cc (pc + 7 + 2) = .ok (.athrow, 1))
    (hRf : 5 < R.frames) (hRl : (rest.map fun v => v.category).sum + 82 ≤ R.locals) (hRc : cells + 1 ≤ R.cells) (hRs : slots + 6 ≤ R.slots) (hc : cells + 1 ≤ mc) (hs : slots + 6 ≤ ms) : W p l e R s m args below meth c H locs cells slots (vx_MQ below Qc (XT D E σ A thr) args s mc ms A) (F0 m pc ls rest) := by
  obtain ⟨sa, hsa⟩ := hstr
  refine vx_throwS (names := ["java/lang/RuntimeException", "java/lang/Exception"]) (cls := exn k) C.x C.b hfl C.ow hcls (by decide +kernel) (C.w args w1) (C.w args w2) hsa (vx_hat (B := xcs) (fun w hw => C.w args (wg w hw)) wb (fun w hw => va_Nw.use (xcs_on w hw) (C.sx.2.1 w hw))) hgood C.ex.1 C.ex.2.1 h.2.2 (hl.1.trans C.ml.symm) d0 d3 d4 d6 d9 (fun x hx => (hex x hx).elim) hRf hRl hRc hRs C.lk (fun t ha hle hold => ⟨k, ⟨hk, ht⟩, ⟨rfl, h.1.kept (fun k9 q hq => hold _ (h.1 k9 q hq).lt), va_K.moved ha C.k, h.2.1⟩, Nat.le_trans h.2.2.1 hle, fun q q1 q2 => (hold q (Nat.lt_of_lt_of_le q1 h.2.2.1)).trans (h.2.2.2.1 q q1 q2)⟩) h.2.2.2.2 hc hs
theorem thW {Qc : Array Value → State → Outcome → State → Prop} {thr mc ms ik is ic : Nat} {text : String} {k : Nat} (hfl : l.stackTraces = false) (C : CX p s m meth c cc RX6 nL D E A) (h : HW D E σ A s H locs) (hex : ∀ x ∈ c.exceptionTable.toList, False) (hl : lv_has ls nL hls) (hk : k ≠ 0) (ht : thr = k) (hcls : Bundle.fit (exn k) = true) (w1 : Cond.classLink RX6 ik (exn k) ∈ wsL_law) (w2 : Cond.initialized (exn k) ∈ wsL_law) (hstr : ∃ sa, vk_R RX6 is text sa s)
    (wg : ∀ w ∈ (vx_atS RX6 ic (exn k) ["java/lang/RuntimeException", "java/lang/Exception"]).filter goodWord, w ∈ wsL_law) (wb : ∀ w ∈ (vx_atS RX6 ic (exn k) ["java/lang/RuntimeException", "java/lang/Exception"]).filter (fun w => !goodWord w), w ∈ xcs)
    (hgood : ∀ w ∈ Cond.classLink RX6 ik (exn k) :: Cond.initialized (exn k) :: vx_atS RX6 ic (exn k) ["java/lang/RuntimeException", "java/lang/Exception"], vx_ot w = true)
    (d0 : decode cc pc = .ok (.new ik, 3)) (d3 : decode cc (pc + 3) = .ok (.dup, 1)) (d4 : decode cc (pc + 4) = .ok (.ldc_w is, 3)) (d6 : decode cc (pc + 4 + 3) = .ok (.invokespecial ic, 3)) (d9 : decode cc (pc + 7 + 3) = .ok (.athrow, 1))
    (hRf : 5 < R.frames) (hRl : (rest.map fun v => v.category).sum + 82 ≤ R.locals) (hRc : cells + 1 ≤ R.cells) (hRs : slots + 6 ≤ R.slots) (hc : cells + 1 ≤ mc) (hs : slots + 6 ≤ ms) : W p l e R s m args below meth c H locs cells slots (vx_MQ below Qc (XT D E σ A thr) args s mc ms A) (F0 m pc ls rest) := by
  obtain ⟨sa, hsa⟩ := hstr
  refine vx_throwSW (names := ["java/lang/RuntimeException", "java/lang/Exception"]) (cls := exn k) C.x C.b hfl C.ow hcls (by decide +kernel) (C.w args w1) (C.w args w2) hsa (vx_hat (B := xcs) (fun w hw => C.w args (wg w hw)) wb (fun w hw => va_Nw.use (xcs_on w hw) (C.sx.2.1 w hw))) hgood C.ex.1 C.ex.2.1 h.2.2 (hl.1.trans C.ml.symm) d0 d3 d4 d6 d9 (fun x hx => (hex x hx).elim) hRf hRl hRc hRs C.lk (fun t ha hle hold => ⟨k, ⟨hk, ht⟩, ⟨rfl, h.1.kept (fun k9 q hq => hold _ (h.1 k9 q hq).lt), va_K.moved ha C.k, h.2.1⟩, Nat.le_trans h.2.2.1 hle, fun q q1 q2 => (hold q (Nat.lt_of_lt_of_le q1 h.2.2.1)).trans (h.2.2.2.1 q q1 q2)⟩) h.2.2.2.2 hc hs
end WALK2
theorem xg_1 : ∀ w ∈ (vx_atS RX6 215 (exn 1) ["java/lang/RuntimeException", "java/lang/Exception"]).filter goodWord, w ∈ wsL_law := fun w h => List.mem_append_left _ (List.mem_append_left _ (List.mem_append_right _ h))
theorem xb_1 : ∀ w ∈ (vx_atS RX6 215 (exn 1) ["java/lang/RuntimeException", "java/lang/Exception"]).filter (fun w => !goodWord w), w ∈ xcs := by decide +kernel
theorem xo_1 : ∀ w ∈ Cond.classLink RX6 211 (exn 1) :: Cond.initialized (exn 1) :: vx_atS RX6 215 (exn 1) ["java/lang/RuntimeException", "java/lang/Exception"], vx_ot w = true := by decide +kernel
theorem xg_2 : ∀ w ∈ (vx_atS RX6 271 (exn 2) ["java/lang/RuntimeException", "java/lang/Exception"]).filter goodWord, w ∈ wsL_law := fun w h => List.mem_append_left _ (List.mem_append_right _ h)
theorem xb_2 : ∀ w ∈ (vx_atS RX6 271 (exn 2) ["java/lang/RuntimeException", "java/lang/Exception"]).filter (fun w => !goodWord w), w ∈ xcs := by decide +kernel
theorem xo_2 : ∀ w ∈ Cond.classLink RX6 267 (exn 2) :: Cond.initialized (exn 2) :: vx_atS RX6 271 (exn 2) ["java/lang/RuntimeException", "java/lang/Exception"], vx_ot w = true := by decide +kernel
theorem xg_3 : ∀ w ∈ (vx_atS RX6 278 (exn 3) ["java/lang/RuntimeException", "java/lang/Exception"]).filter goodWord, w ∈ wsL_law := fun w h => List.mem_append_right _ h
theorem xb_3 : ∀ w ∈ (vx_atS RX6 278 (exn 3) ["java/lang/RuntimeException", "java/lang/Exception"]).filter (fun w => !goodWord w), w ∈ xcs := by decide +kernel
theorem xo_3 : ∀ w ∈ Cond.classLink RX6 274 (exn 3) :: Cond.initialized (exn 3) :: vx_atS RX6 278 (exn 3) ["java/lang/RuntimeException", "java/lang/Exception"], vx_ot w = true := by decide +kernel
