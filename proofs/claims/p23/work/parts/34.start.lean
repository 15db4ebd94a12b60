/-! the start: words, statics, texts, classes of arrays, our state at first -/
def s00 : St := fun f => match f with
  | 6 => fun _ => -1
  | 11 => fun _ => -1
  | 12 => fun _ => -1
  | 15 => upd (upd (upd (fun _ => 0) 1 20) 2 5) 3 20
  | 16 => upd (upd (upd (fun _ => 0) 1 60) 2 30) 3 60
  | 17 => upd (upd (upd (fun _ => 0) 1 100) 2 70) 3 100
  | 22 => fun _ => 500
  | _ => fun _ => 0
theorem ii00 : II s00 0 0 0 := by
  refine ⟨⟨by decide, by decide, rfl⟩, ⟨Or.inl rfl, 0, by decide, rfl⟩, fun t ht => ?_, ⟨0, by decide, rfl⟩, ⟨fun f hf g hg => ?_, fun f hf => ⟨rfl, 0, by decide, rfl⟩⟩, ⟨⟨0, by decide, rfl⟩, ⟨0, by decide, rfl⟩, rfl, rfl, 0, by decide, rfl⟩, ⟨by decide, rfl⟩, fun k hk => absurd hk (Nat.not_lt_zero k), fun k _ => rfl, rfl⟩
  · exact GD.dry
  · rcases (show f = 0 ∨ f = 1 ∨ f = 2 by omega) with rfl | rfl | rfl <;> rfl
theorem tb_start {args : Array Value} {s : State} (hts : ∀ w ∈ lw_tbl, w.before args s = true) : TB s := fun w hw => word_at (State.WarmedH.refl s) (good_of_word (tb_good w hw)) (hts w (wsL_in w hw))
theorem qs_third : Cond.arrayOver (.object "IcePad$Third") ∈ lw_tbl := List.mem_append_right _ (List.mem_of_getElem? (i := 55) (by decide +kernel))
theorem qs_craft : Cond.arrayOver (.object "IcePad$Aircraft") ∈ lw_tbl := List.mem_append_right _ (List.mem_of_getElem? (i := 153) (by decide +kernel))
theorem qs_grid : Cond.arrayOver (.array .int) ∈ lw_tbl := List.mem_append_right _ (List.mem_of_getElem? (i := 106) (by decide +kernel))
theorem qs_n5 : Cond.methodLinkNest RX6 9 yX5_init "IcePad" ∈ lw_tbl := List.mem_append_right _ (List.mem_of_getElem? (i := 25) (by decide +kernel))
theorem qs_n4 : Cond.methodLinkNest RX3 21 yX4_init "IcePad" ∈ lw_tbl := List.mem_append_right _ (List.mem_of_getElem? (i := 57) (by decide +kernel))
theorem qs_n1 : Cond.methodLinkNest RX6 32 yX1_init "IcePad" ∈ lw_tbl := List.mem_append_right _ (List.mem_of_getElem? (i := 124) (by decide +kernel))
theorem qs_c2 : Cond.castable (exn 2) (exn 2) ∈ lw_tbl := List.mem_append_right _ (List.mem_of_getElem? (i := 185) (by decide +kernel))
theorem qs_c1 : Cond.castable (exn 1) (exn 1) ∈ lw_tbl := List.mem_append_right _ (List.mem_of_getElem? (i := 260) (by decide +kernel))
theorem qs_c3 : Cond.castable (exn 3) (exn 3) ∈ lw_tbl := List.mem_append_right _ (List.mem_of_getElem? (i := 300) (by decide +kernel))
theorem qs_d1 : xdc "java/lang/RuntimeException" ∈ lw_tbl := List.mem_append_right _ (List.mem_of_getElem? (i := 187) (by decide +kernel))
theorem qs_d2 : xdc "java/lang/Exception" ∈ lw_tbl := List.mem_append_right _ (List.mem_of_getElem? (i := 189) (by decide +kernel))
theorem qs_d3 : xdc "java/lang/Throwable" ∈ lw_tbl := List.mem_append_right _ (List.mem_of_getElem? (i := 191) (by decide +kernel))
theorem qs_l1 : Cond.laysStatic Bundle.tN "UNASSIGNED_STACK" Bundle.steD ∈ lw_tbl := List.mem_append_right _ (List.mem_of_getElem? (i := 210) (by decide +kernel))
theorem qs_l2 : Cond.laysStatic Bundle.tN "SUPPRESSED_SENTINEL" Bundle.listD ∈ lw_tbl := List.mem_append_right _ (List.mem_of_getElem? (i := 212) (by decide +kernel))
theorem qs_l3 : Cond.laysStatic "IcePad" "PAD_SPANS" "[I" ∈ lw_tbl := List.mem_append_right _ (List.mem_of_getElem? (i := 375) (by decide +kernel))
theorem qs_i1 : Cond.initialized Bundle.tN ∈ lw_tbl := List.mem_append_right _ (List.mem_of_getElem? (i := 8) (by decide +kernel))
theorem qs_i2 : Cond.initialized "IcePad" ∈ lw_tbl := List.mem_append_right _ (List.mem_of_getElem? (i := 1) (by decide +kernel))
theorem qs_t1 : Cond.stringRef RX6 213 "no such place" ∈ lw_tbl := List.mem_append_right _ (List.mem_of_getElem? (i := 571) (by decide +kernel))
theorem qs_t2 : Cond.stringRef RX6 265 "there is no such one" ∈ lw_tbl := List.mem_append_right _ (List.mem_of_getElem? (i := 267) (by decide +kernel))
theorem qs_t3 : Cond.stringRef RX6 269 "an argument is out of range" ∈ lw_tbl := List.mem_append_right _ (List.mem_of_getElem? (i := 224) (by decide +kernel))
theorem qs_t4 : Cond.stringRef RX6 272 "there is no such strength" ∈ lw_tbl := List.mem_append_right _ (List.mem_of_getElem? (i := 379) (by decide +kernel))
theorem qs_t5 : Cond.stringRef RX6 276 "this is not possible now" ∈ lw_tbl := List.mem_append_right _ (List.mem_of_getElem? (i := 307) (by decide +kernel))
/-- a text: its place in the tables, and that it is there -/
theorem sx_str {args : Array Value} {s : State} {k : Nat} {tx : String} (h1 : (Cond.stringRef RX6 k tx).before args s = true) (h2 : (Cond.exactly (.string "IcePad" k) "java/lang/String").before args s = true) : ∃ a, vk_R RX6 k tx a s := by
  obtain ⟨a, c, cell, kk, q1, -⟩ := Cond.exactly_spec (args := args) (first := s) (o := none) (s := s) (idx := []) (t := .string "IcePad" k) (cls := "java/lang/String") h2
  exact ⟨a, vk_R.of (A := args) h1 q1⟩
set_option maxRecDepth 20000 in
theorem sx_start {args : Array Value} {s : State} (hts : ∀ w ∈ lw_tbl, w.before args s = true) (hgv : (Jvm.Cond.and given_1 narrow_1).before args s = true) : SX s := by
  have hs := flat_of_before _ hgv
  refine ⟨⟨sx_str (hts _ qs_t1) (hs _ (by decide +kernel)), sx_str (hts _ qs_t2) (hs _ (by decide +kernel)), sx_str (hts _ qs_t3) (hs _ (by decide +kernel)), sx_str (hts _ qs_t4) (hs _ (by decide +kernel)), sx_str (hts _ qs_t5) (hs _ (by decide +kernel))⟩, ?_, trivial, va_AO.of (A := args) (hts _ qs_craft), va_AO.of (A := args) (hts _ qs_third), over_moved (a := args) (a' := #[]) (Vm.Alike.refl s.vm) (hts _ qs_grid), va_Nw.of rfl (hts _ qs_n5), va_Nw.of rfl (hts _ qs_n4), va_Nw.of rfl (hts _ qs_n1)⟩
  exact List.forall_mem_cons.mpr ⟨va_Nw.of rfl (hts _ qs_c1), List.forall_mem_cons.mpr ⟨va_Nw.of rfl (hts _ qs_c2), List.forall_mem_cons.mpr ⟨va_Nw.of rfl (hts _ qs_c3), List.forall_mem_cons.mpr ⟨va_Nw.of rfl (hts _ qs_d1), List.forall_mem_cons.mpr ⟨va_Nw.of rfl (hts _ qs_d2), List.forall_mem_cons.mpr ⟨va_Nw.of rfl (hts _ qs_d3), fun _ h => absurd h List.not_mem_nil⟩⟩⟩⟩⟩⟩
set_option maxRecDepth 20000 in
theorem ex_start {args : Array Value} {s : State} (hts : ∀ w ∈ lw_tbl, w.before args s = true) (hgv : (Jvm.Cond.and given_1 narrow_1).before args s = true) : EX (fun q => s.heap.size ≤ q) s s.heap := by
  have hs := flat_of_before _ hgv
  have hA : ∀ a : Nat, a < s.heap.size → ¬ (fun q : Nat => s.heap.size ≤ q) a := fun a h => Nat.not_le.mpr h
  refine ⟨vx_Zqof (hts _ qs_l1) (hts _ qs_i1) (hs _ (by decide +kernel)) hA, vx_Zqof (hts _ qs_l2) (hts _ qs_i1) (hs _ (by decide +kernel)) hA, ?_⟩
  have h0 : (Cond.eq (.elem (.static "IcePad" "PAD_SPANS" "[I") (.int 0)) (.int 40)).before args s = true := hs _ (by decide +kernel)
  have h1 : (Cond.eq (.elem (.static "IcePad" "PAD_SPANS" "[I") (.int 1)) (.int 60)).before args s = true := hs _ (by decide +kernel)
  have h2 : (Cond.eq (.elem (.static "IcePad" "PAD_SPANS" "[I") (.int 2)) (.int 80)).before args s = true := hs _ (by decide +kernel)
  have h3 : (Cond.eq (.length (.static "IcePad" "PAD_SPANS" "[I")) (.int 3)).before args s = true := hs _ (by decide +kernel)
  have h4 : (Cond.arrayOf (.static "IcePad" "PAD_SPANS" "[I") .int).before args s = true := hs _ (by decide +kernel)
  obtain ⟨t, ht, hT⟩ := va_Tof (args := args) (s := s) (tm := .static "IcePad" "PAD_SPANS" "[I") (ty := .int) (N := 3) (f := padv) (by decide) h4 (va_eqt h3) (fun j hj => by
    rcases (show j = 0 ∨ j = 1 ∨ j = 2 by omega) with rfl | rfl | rfl
    · exact va_eqt h0
    · exact va_eqt h1
    · exact va_eqt h2) hA
  exact ⟨t, va_Zref (hts _ qs_l3) (hts _ qs_i2) ht hA, hT⟩
theorem ar_prim {args : Array Value} {s : State} {ty : FieldType} (hn : ∀ C, ty ≠ .object C) (h : (Cond.arrayClass ty).before args s = true) : ∃ cA, ArrOfT s cA ty ∧ va_RA s cA ty := by
  obtain ⟨cA, kA, comp, h1, h2, h3⟩ := Cond.arrayClass_spec (args := args) (first := s) (o := none) (s := s) (idx := []) h
  refine ⟨cA, fun n z => ⟨fun k h => (by cases h), kA, h2, comp, h3⟩, ?_⟩
  cases ty with
  | object C => exact absurd rfl (hn C)
  | _ => exact h1
theorem ar_obj {args : Array Value} {s : State} {C : String} (h : (Cond.arrayOver (.object C)).before args s = true) : ∃ cA, ArrOfT s cA (.object C) ∧ va_RA s cA (.object C) := by
  obtain ⟨comp, cA, kA, h1, h2, h3, h4, h5⟩ := Cond.arrayOver_spec (args := args) (first := s) (o := none) (s := s) (idx := []) h
  exact ⟨cA, fun n z => ⟨fun k h => (by cases h), kA, h3, comp, h4⟩, kA, comp, h3, h4, h1, h5⟩
theorem ar_arr {args : Array Value} {s : State} {t : FieldType} (h : (Cond.arrayOver (.array t)).before args s = true) : ∃ cA, ArrOfT s cA (.array t) ∧ va_RA s cA (.array t) := by
  obtain ⟨comp, cA, kA, h1, h2, h3, h4, h5⟩ := arrayOverA_spec (args := args) (first := s) (o := none) (s := s) (idx := []) h
  exact ⟨cA, fun n z => ⟨fun k h => (by cases h), kA, h3, comp, h4⟩, h5⟩
theorem k_start {args : Array Value} {s : State} (hts : ∀ w ∈ lw_tbl, w.before args s = true) : ∃ (D : va_G) (cy : Nat → ClassId), va_K D vwCl [(cy 0, .int), (cy 1, .object "IcePad$Aircraft"), (cy 2, .object "IcePad$Third"), (cy 3, .array .int)] s := by
  have hw : ∀ w ∈ wsL_law, w.before args s = true := fun w h => hts w (wsL_in w h)
  obtain ⟨c0, iS0, hK0⟩ := u_known (C := RX0) (T := TX0) (N := 12) (n := 12) hw inlX0 (hw _ m_ib_X0)
  obtain ⟨c1, iS1, hK1⟩ := u_known (C := RX1) (T := TX1) (N := 6) (n := 6) hw inlX1 (hw _ m_ib_X1)
  obtain ⟨c2, iS2, hK2⟩ := u_known (C := RX2) (T := TX2) (N := 3) (n := 3) hw inlX2 (hw _ m_ib_X2)
  obtain ⟨c3, iS3, hK3⟩ := u_known (C := RX3) (T := TX3) (N := 4) (n := 4) hw inlX3 (hw _ m_ib_X3)
  obtain ⟨c4, iS4, hK4⟩ := u_known (C := RX4) (T := TX4) (N := 5) (n := 5) hw inlX4 (hw _ m_ib_X4)
  obtain ⟨c5, iS5, hK5⟩ := u_known (C := RX5) (T := TX5) (N := 4) (n := 4) hw inlX5 (hw _ m_ib_X5)
  obtain ⟨c6, iS6, hK6⟩ := u_known (C := RX6) (T := TX6) (N := 7) (n := 7) hw inlX6 (hw _ m_ib_X6)
  obtain ⟨a0, A0⟩ := ar_prim (fun _ h => by cases h) (hw _ m_ac__int)
  obtain ⟨a1, A1⟩ := ar_obj (hts _ qs_craft)
  obtain ⟨a2, A2⟩ := ar_obj (hts _ qs_third)
  obtain ⟨a3, A3⟩ := ar_arr (hts _ qs_grid)
  refine ⟨(fun k => match k with | 0 => c0 | 1 => c1 | 2 => c2 | 3 => c3 | 4 => c4 | 5 => c5 | _ => c6, fun k => match k with | 0 => iS0 | 1 => iS1 | 2 => iS2 | 3 => iS3 | 4 => iS4 | 5 => iS5 | _ => iS6), fun k => match k with | 0 => a0 | 1 => a1 | 2 => a2 | _ => a3, fun k q hq => ?_, fun k q hq => ?_⟩
  · match k, hq with
    | 0, hq => cases hq; exact hK0
    | 1, hq => cases hq; exact hK1
    | 2, hq => cases hq; exact hK2
    | 3, hq => cases hq; exact hK3
    | 4, hq => cases hq; exact hK4
    | 5, hq => cases hq; exact hK5
    | 6, hq => cases hq; exact hK6
    | k + 7, hq => cases hq
  · match k, hq with
    | 0, hq => cases hq; exact A0
    | 1, hq => cases hq; exact A1
    | 2, hq => cases hq; exact A2
    | 3, hq => cases hq; exact A3
    | k + 4, hq => cases hq
