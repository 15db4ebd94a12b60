/-! methods walked (by program; wip/p23/gen) -/
-- X6_aircraft aircraft(III)I
abbrev rm_X6_aircraft : Room := { frames := 7, cells := 10, slots := 60, locals := 122 }
theorem cw_X6_111 : CWd RX6 111 yX0_init cX0_init 4 none 3 := ⟨m_ml_X6_111, m_co_X0_init, m_ini_X0, by decide +kernel, by decide +kernel⟩
theorem rp_of {x : Int32} (h : S_X6_requirePossible x = 0) : ¬ x = 0 := by
  intro q
  rw [q] at h
  exact absurd h (by decide)
theorem lt20 {E : En} {σ : St} (ok : OK E σ) (c : ¬ 20 ≤ σ 1 0) : en E < 20 := by
  have hle := ok.le
  have e : (20 : Int32) = nI 20 := rfl
  rw [ok.n, e, nI_leI (by decide) (by omega)] at c
  omega
/-- one aircraft more, at the address q -/
def grow (E : En) (q : Nat) : En := (E.1, fun i => if i < 17 then ead E i else if i = 17 + en E then q else ead E i, en E + 1)
def newst (σ : St) (n : Nat) (a b c : Int32) : St := up2 (up2 (up2 (up2 (up2 (up2 (up2 (up2 (up2 (up2 (up2 (up2 σ 25 n a) 26 n b) 27 n c) 28 n 0) 29 n (-1)) 30 n 0) 31 n 0) 32 n 0) 33 n 0) 34 n 0) 35 n 0) 36 n 0
theorem wd_len (E : En) (σ : St) : (wd E σ).length = 17 + en E := by
  unfold wd
  rw [List.length_append, wfix_len, List.length_map, List.length_range]
theorem wd_end (E : En) (σ : St) (x : Nat × va_E) : (wd E σ ++ [x])[17 + en E]? = some x := by
  rw [List.getElem?_append_right (by rw [wd_len]; omega), wd_len, Nat.sub_self]
  rfl
theorem grow_fix (E : En) (σ : St) (q n : Nat) (a b c : Int32) : (wfix E σ).set 14 (ead E 14, .inl (ecy E 1, 20, .inr (.inr (.inr (.inr (va_up (fun k => if k < en E then some (ead E (17 + k)) else none) (en E) (some q))))))) = wfix (grow E q) (newst σ n a b c) := by
  have f3 : (fun k : Nat => if k < 3 then some (ead (grow E q) (4 + k)) else none) = fun k => if k < 3 then some (ead E (4 + k)) else none := by
    funext k
    by_cases h : k < 3
    · rw [if_pos h, if_pos h]
      show some (if 4 + k < 17 then ead E (4 + k) else if 4 + k = 17 + en E then q else ead E (4 + k)) = _
      rw [if_pos (by omega)]
    · rw [if_neg h, if_neg h]
  have f9 : (fun k : Nat => if k < 3 then some (ead (grow E q) (10 + k)) else none) = fun k => if k < 3 then some (ead E (10 + k)) else none := by
    funext k
    by_cases h : k < 3
    · rw [if_pos h, if_pos h]
      show some (if 10 + k < 17 then ead E (10 + k) else if 10 + k = 17 + en E then q else ead E (10 + k)) = _
      rw [if_pos (by omega)]
    · rw [if_neg h, if_neg h]
  have f14 : (fun k : Nat => if k < en (grow E q) then some (ead (grow E q) (17 + k)) else none) = va_up (fun k => if k < en E then some (ead E (17 + k)) else none) (en E) (some q) := by
    funext k
    show (if k < en E + 1 then some (if 17 + k < 17 then ead E (17 + k) else if 17 + k = 17 + en E then q else ead E (17 + k)) else none) = if k = en E then some q else if k < en E then some (ead E (17 + k)) else none
    rw [if_neg (show ¬ 17 + k < 17 by omega)]
    by_cases h : k = en E
    · rw [if_pos h, if_pos (show k < en E + 1 by omega), if_pos (show 17 + k = 17 + en E by omega)]
    · rw [if_neg h, if_neg (show ¬ 17 + k = 17 + en E by omega)]
      by_cases h2 : k < en E
      · rw [if_pos h2, if_pos (show k < en E + 1 by omega)]
      · rw [if_neg h2, if_neg (show ¬ k < en E + 1 by omega)]
  unfold wfix
  rw [f3, f9, f14]
  rfl
theorem grow_air (E : En) (σ : St) (q : Nat) (a b c : Int32) : (List.range (en E)).map (wair E σ) ++ [(q, .inr (0, [.int a, .int b, .int c, .int 0, .int (-1), .int 0, .int 0, .int 0, .int 0, .int 0, .int 0, .int 0]))] = (List.range (en (grow E q))).map (wair (grow E q) (newst σ (en E) a b c)) := by
  show _ = (List.range (en E + 1)).map _
  rw [List.range_succ, List.map_append, List.map_singleton]
  congr 1
  · refine List.map_congr_left (fun k hk => ?_)
    have hk := List.mem_range.mp hk
    have hn : k ≠ en E := Nat.ne_of_lt hk
    have e : ead (grow E q) (17 + k) = ead E (17 + k) := by
      show (if 17 + k < 17 then ead E (17 + k) else if 17 + k = 17 + en E then q else ead E (17 + k)) = _
      rw [if_neg (by omega), if_neg (by omega)]
    unfold wair
    rw [e]
    simp only [newst, up2_i hn]
  · have e : ead (grow E q) (17 + en E) = q := by
      show (if 17 + en E < 17 then ead E (17 + en E) else if 17 + en E = 17 + en E then q else ead E (17 + en E)) = _
      rw [if_neg (by omega), if_pos rfl]
    unfold wair
    rw [e]
    simp [newst, up2]
theorem wd_grow (E : En) (σ : St) (q : Nat) (a b c : Int32) : (wd E σ ++ ([(q, .inr (0, [.int a, .int b, .int c, .int 0, .int (-1), .int 0, .int 0, .int 0, .int 0, .int 0, .int 0, .int 0]))] : va_W)).set 14 (ead E 14, .inl (ecy E 1, 20, .inr (.inr (.inr (.inr (va_up (fun k => if k < en E then some (ead E (17 + k)) else none) (en E) (some q))))))) = wd (grow E q) (newst σ (en E) a b c) := by
  unfold wd
  rw [List.append_assoc, List.set_append_left _ _ (by rw [wfix_len]; decide), grow_fix E σ q (en E) a b c, grow_air E σ q a b c]
theorem hv_pre {D : va_G} {E : En} {σ : St} {X : va_W} {A : Nat → Prop} {s : State} {H : Heap} {locs : List Loc} (h : HV D (wd E σ ++ X) A s H locs) : HW D E σ A s H locs := by
  have hg : ∀ (k : Nat) (q : Nat × va_E), (wd E σ)[k]? = some q → (wd E σ ++ X)[k]? = some q := fun k q hk => by
    rw [List.getElem?_append_left (List.getElem?_eq_some_iff.mp hk).1]
    exact hk
  exact ⟨fun k q hk => h.1 k q (hg k q hk), ⟨fun i j p q hi hj e => h.2.1.1 i j p q (hg i p hi) (hg j q hj) e, fun k q hk => h.2.1.2 k q (hg k q hk)⟩, h.2.2⟩
def S_X6_aircraft_41 (σ : St) (p1 p2 p3 : Int32) : Nat × Int32 × St := (0, σ 1 0, up2 (newst σ (σ 1 0).toNatClampNeg p1 (σ 0 0 + p2) (σ 0 0 + p3)) 1 0 (σ 1 0 + 1))
set_option maxRecDepth 100000 in
set_option maxHeartbeats 4000000 in
theorem K_X6_aircraft_41 {p : Program} {l : Launch} {e : Env} {s : State} {m : MethodId} {args : Array Value} {below : List Frame} {meth : Method} {c : Code} {D : va_G} {E : En} {A : Nat → Prop} {post : Int32 → Nat × St → Prop} {thr : Nat} (hfl : l.stackTraces = false) (C : CX p s m meth c cX6_aircraft RX6 5 D E A) {σ σ0 : St} (ok : OK E σ) {p1 : Int32} {p2 : Int32} {p3 : Int32} (hn : en E < 20) {H : Heap} {locs : List Loc} (h : HW D E σ A s H locs) (hr : meth.sig.returnType = some .int) (hex : ∀ x ∈ c.exceptionTable.toList, False) {ls : Array Slot} (hl : lv_has ls 5 [(0, .ref (ead E 0)), (1, .int p1), (2, .int p2), (3, .int p3)]) (hp : (S_X6_aircraft_41 σ p1 p2 p3).1 = 0 → ∀ q9 : Nat, post (S_X6_aircraft_41 σ p1 p2 p3).2.1 (q9, (S_X6_aircraft_41 σ p1 p2 p3).2.2)) (hT : thr = (S_X6_aircraft_41 σ p1 p2 p3).1) : W p l e rm_X6_aircraft s m args below meth c H locs 4 24 (vx_MQ below (va_Qi post (fun u : Nat × St => POB D (grow E u.1) A u.2) A) (XT D E σ0 A thr) args s 10 60 A) (F0 m 41 ls []) := by
  have ecl : (σ 1 0).toNatClampNeg = en E := by rw [ok.n]; exact nI_clamp (by omega)
  have hin : vp_in (σ 1 0) 20 := by rw [ok.n]; exact vp_in_nI hn (by decide)
  refine lv_aload_n C.x C.b dX6_aircraft_41 rfl (lv_at hl 0 rfl) ?_
  refine g_X6_108 C h dX6_aircraft_42 ?_
  refine lv_istore (lv' := [(4, .int (σ 1 0)), (0, .ref (ead E 0)), (1, .int p1), (2, .int p2), (3, .int p3)]) C.x C.b dX6_aircraft_45 hl (by decide) rfl (fun ls hl => ?_)
  refine lv_aload_n C.x C.b dX6_aircraft_47 rfl (lv_at hl 1 rfl) ?_
  refine g_X6_39 C h dX6_aircraft_48 ?_
  refine lv_iload C.x C.b dX6_aircraft_51 (lv_at hl 0 rfl) ?_
  refine va_new (ci := 0) (fs := [.int 0, .int 0, .int 0, .int 0, .int 0, .int 0, .int 0, .int 0, .int 0, .int 0, .int 0, .int 0]) (C := RX0) (T := TX0) (N := 12) C.x C.b (C.tb.args args) inlX0 tyX0 tyX0_ok C.ow (C.w args m_cl_X6_37) (C.w args m_ib_X0) (C.w args m_ini_X0) C.k h.1 h.2.1 h.2.2 C.a rfl (fun j hj => by rcases (show j = 0 ∨ j = 1 ∨ j = 2 ∨ j = 3 ∨ j = 4 ∨ j = 5 ∨ j = 6 ∨ j = 7 ∨ j = 8 ∨ j = 9 ∨ j = 10 ∨ j = 11 by omega) with rfl | rfl | rfl | rfl | rfl | rfl | rfl | rfl | rfl | rfl | rfl | rfl <;> rfl) (Nat.le_of_ble_eq_true rfl) (Nat.le_of_ble_eq_true rfl) dX6_aircraft_53 (fun q H hP hD hS => ?_)
  have hv : HV D (wd E σ ++ [(q, .inr (0, [.int 0, .int 0, .int 0, .int 0, .int 0, .int 0, .int 0, .int 0, .int 0, .int 0, .int 0, .int 0]))]) A s H locs := ⟨hP, hD, hS⟩
  have h := hv_pre hv
  refine lv_dup C.x C.b dX6_aircraft_56 rfl ?_
  refine lv_iload_n C.x C.b dX6_aircraft_57 rfl (lv_at hl 2 rfl) ?_
  refine lv_aload_n C.x C.b dX6_aircraft_58 rfl (lv_at hl 1 rfl) ?_
  refine g_X6_64 C h dX6_aircraft_59 ?_
  refine lv_iload_n C.x C.b dX6_aircraft_62 rfl (lv_at hl 3 rfl) ?_
  refine lv_iadd C.x C.b dX6_aircraft_63 ?_
  refine lv_aload_n C.x C.b dX6_aircraft_64 rfl (lv_at hl 1 rfl) ?_
  refine g_X6_64 C h dX6_aircraft_65 ?_
  refine lv_iload_n C.x C.b dX6_aircraft_68 rfl (lv_at hl 4 rfl) ?_
  refine lv_iadd C.x C.b dX6_aircraft_69 ?_
  have hx := wd_end E σ (q, .inr (0, [.int 0, .int 0, .int 0, .int 0, .int 0, .int 0, .int 0, .int 0, .int 0, .int 0, .int 0, .int 0]))
  refine caJ (As := [.int p1, .int (σ 0 0 + p2), .int (σ 0 0 + p3)]) (rest := [.ref q, .int (σ 1 0), .ref (ead E 14)]) C hv (17 + en E) hx (M_X0_init l D E q p1 (σ 0 0 + p2) (σ 0 0 + p3)) cw_X6_111 m_im_X0_init rfl rfl rfl ⟨Nat.le_of_ble_eq_true rfl, Nat.le_of_ble_eq_true rfl⟩ hl rfl (Nat.le_of_ble_eq_true rfl) dX6_aircraft_70 ⟨Nat.le_of_ble_eq_true rfl, Nat.le_of_ble_eq_true rfl⟩ (fun H1 locs1 hB hk hF hS1 => ?_)
  obtain ⟨hP1, hD1⟩ := hB
  have hq : ∀ (k : Nat) (y : Nat × va_E), (wd E σ)[k]? = some y → H1[y.1]? = H[y.1]? := fun k y hk1 => by
    refine hk y.1 (h.1 k y hk1).lt ?_
    rintro (⟨k2, e2, hk2⟩ | hge)
    · have h0 : k2 < 1 := (List.getElem?_eq_some_iff.mp hk2).1
      rw [show k2 = 0 by omega] at hk2
      have e3 : y.1 = q := (congrArg Prod.fst (Option.some.inj hk2)).symm
      have hlt : k < 17 + en E := by
        have := (List.getElem?_eq_some_iff.mp hk1).1
        rw [wd_len] at this
        exact this
      have hk3 : (wd E σ ++ [(q, .inr (0, [.int 0, .int 0, .int 0, .int 0, .int 0, .int 0, .int 0, .int 0, .int 0, .int 0, .int 0, .int 0]))])[k]? = some y := by
        rw [List.getElem?_append_left (by rw [wd_len]; exact hlt)]
        exact hk1
      have := hD.1 k (17 + en E) y _ hk3 hx e3
      omega
    · exact absurd (h.1 k y hk1).lt (Nat.not_lt.mpr hge)
  have hP2 : va_P D vwCl (wd E σ ++ [(q, .inr (0, [.int p1, .int (σ 0 0 + p2), .int (σ 0 0 + p3), .int 0, .int (-1), .int 0, .int 0, .int 0, .int 0, .int 0, .int 0, .int 0]))]) H1 := (h.1.kept hq).app hP1
  have hD2 : va_D A (wd E σ ++ [(q, .inr (0, [.int p1, .int (σ 0 0 + p2), .int (σ 0 0 + p3), .int 0, .int (-1), .int 0, .int 0, .int 0, .int 0, .int 0, .int 0, .int 0]))]) := by
    have h9 := hD.set (e := .inr (0, [.int p1, .int (σ 0 0 + p2), .int (σ 0 0 + p3), .int 0, .int (-1), .int 0, .int 0, .int 0, .int 0, .int 0, .int 0, .int 0])) hx
    rw [List.set_append_right _ _ (by rw [wd_len]; omega), wd_len, Nat.sub_self] at h9
    exact h9
  refine va_astq C.x C.b C.k hP2 hD2 hS1 14 1 (17 + en E) 0 rfl rfl (wd_end E σ _) rfl hin dX6_aircraft_73 (fun H locs hP hD hS => ?_)
  rw [ecl] at hP hD
  have h : HW D (grow E q) (newst σ (en E) p1 (σ 0 0 + p2) (σ 0 0 + p3)) A s H locs := hw_of (wd_grow E σ q p1 (σ 0 0 + p2) (σ 0 0 + p3)) hP hD hS
  have C2 : CX p s m meth c cX6_aircraft RX6 5 D (grow E q) A := C
  have hl : lv_has ls 5 [(4, .int (σ 1 0)), (0, .ref (ead (grow E q) 0)), (1, .int p1), (2, .int p2), (3, .int p3)] := hl
  refine lv_aload_n C.x C.b dX6_aircraft_74 rfl (lv_at hl 1 rfl) ?_
  refine lv_dup C.x C.b dX6_aircraft_75 rfl ?_
  refine g_X6_108 C2 h dX6_aircraft_76 ?_
  refine lv_iconst (v := 1) C.x C.b dX6_aircraft_79 (by decide) ?_
  refine lv_iadd C.x C.b dX6_aircraft_80 ?_
  refine p_X6_108 C2 h dX6_aircraft_81 (fun H locs h => ?_)
  refine lv_iload C.x C.b dX6_aircraft_84 (lv_at hl 0 rfl) ?_
  refine vx_ret ?_
  refine W.widen (k := 10) (n := 60) (Nat.le_of_ble_eq_true rfl) (Nat.le_of_ble_eq_true rfl) ?_
  have hp2 := hp rfl q
  refine rtG C2 h hr rfl dX6_aircraft_86 ?_
  show post (σ 1 0) (q, up2 (newst σ (en E) p1 (σ 0 0 + p2) (σ 0 0 + p3)) 1 0 (σ 1 0 + 1))
  rw [← ecl]
  exact hp2

def S_X6_aircraft_38 (σ : St) (p1 : Int32) (p2 : Int32) (p3 : Int32) (y0 : Int32) : Nat × Int32 × St := if (S_X6_requirePossible y0) = 0 then S_X6_aircraft_41 σ p1 p2 p3 else ((S_X6_requirePossible y0), 0, σ)
set_option maxRecDepth 100000 in
set_option maxHeartbeats 4000000 in
theorem K_X6_aircraft_38 {p : Program} {l : Launch} {e : Env} {s : State} {m : MethodId} {args : Array Value} {below : List Frame} {meth : Method} {c : Code} {D : va_G} {E : En} {A : Nat → Prop} {post : Int32 → Nat × St → Prop} {thr : Nat} (hfl : l.stackTraces = false) (C : CX p s m meth c cX6_aircraft RX6 5 D E A) {σ : St} (ok : OK E σ) {p1 : Int32} {p2 : Int32} {p3 : Int32} {y0 : Int32} (hq : y0 = 0 ∨ en E < 20) {H : Heap} {locs : List Loc} (h : HW D E σ A s H locs) (hr : meth.sig.returnType = some .int) (hex : ∀ x ∈ c.exceptionTable.toList, False) {ls : Array Slot} (hl : lv_has ls 5 [(0, .ref (ead E 0)), (1, .int p1), (2, .int p2), (3, .int p3)]) (hp : (S_X6_aircraft_38 σ p1 p2 p3 y0).1 = 0 → ∀ q9 : Nat, post (S_X6_aircraft_38 σ p1 p2 p3 y0).2.1 (q9, (S_X6_aircraft_38 σ p1 p2 p3 y0).2.2)) (hT : thr = (S_X6_aircraft_38 σ p1 p2 p3 y0).1) : W p l e rm_X6_aircraft s m args below meth c H locs 3 18 (vx_MQ below (va_Qi post (fun u : Nat × St => POB D (grow E u.1) A u.2) A) (XT D E σ A thr) args s 10 60 A) (F0 m 38 ls [.int y0]) := by
  refine cxSv (As := [.int y0]) (rest := []) C h (M_X6_requirePossible l hfl D E _ ok y0) cw_X6_97 m_st_X6_requirePossible rfl rfl ⟨Nat.le_of_ble_eq_true rfl, Nat.le_of_ble_eq_true rfl⟩ hl rfl (Nat.le_of_ble_eq_true rfl) dX6_aircraft_38 ⟨Nat.le_of_ble_eq_true rfl, Nat.le_of_ble_eq_true rfl⟩ (fun q1k0 ce q9 H locs q1k q1e h h1 h2 h3 => ?_) (fun u H locs q1w h => ?_)
  · exact goX C h hex q1k (hT.trans ((congrArg (fun z : Nat × Int32 × St => z.1) (if_neg (fun z => q1k (q1e.symm.trans z)))).trans q1e)) h1 h2 h3 (Nat.le_of_ble_eq_true rfl) (Nat.le_of_ble_eq_true rfl)
  · skip
    obtain ⟨c2, rfl⟩ := q1w
    exact K_X6_aircraft_41 hfl C ok (hq.resolve_left (rp_of c2)) h hr hex (lv_sub hl [0, 1, 2, 3] rfl) (Eq.mp (congrArg (fun z : Nat × Int32 × St => (z.1 = 0 → ∀ q9 : Nat, post z.2.1 (q9, z.2.2))) (if_pos c2)) hp) (hT.trans (congrArg (fun z : Nat × Int32 × St => z.1) (if_pos c2)))
def S_X6_aircraft (σ : St) (p1 : Int32) (p2 : Int32) (p3 : Int32) : Nat × Int32 × St := if (S_X6_requireRange p1 10 80) = 0 then (if (S_X6_requireRange p2 0 2000) = 0 then (if (S_X6_requireRange p3 0 2000) = 0 then (if 20 ≤ (σ 1 0) then S_X6_aircraft_38 σ p1 p2 p3 0 else S_X6_aircraft_38 σ p1 p2 p3 1) else ((S_X6_requireRange p3 0 2000), 0, σ)) else ((S_X6_requireRange p2 0 2000), 0, σ)) else ((S_X6_requireRange p1 10 80), 0, σ)
set_option maxRecDepth 100000 in
set_option maxHeartbeats 4000000 in
theorem K_X6_aircraft_0 {p : Program} {l : Launch} {e : Env} {s : State} {m : MethodId} {args : Array Value} {below : List Frame} {meth : Method} {c : Code} {D : va_G} {E : En} {A : Nat → Prop} {post : Int32 → Nat × St → Prop} {thr : Nat} (hfl : l.stackTraces = false) (C : CX p s m meth c cX6_aircraft RX6 5 D E A) {σ : St} (ok : OK E σ) {p1 : Int32} {p2 : Int32} {p3 : Int32} {H : Heap} {locs : List Loc} (h : HW D E σ A s H locs) (hr : meth.sig.returnType = some .int) (hex : ∀ x ∈ c.exceptionTable.toList, False) {ls : Array Slot} (hl : lv_has ls 5 [(0, .ref (ead E 0)), (1, .int p1), (2, .int p2), (3, .int p3)]) (hp : (S_X6_aircraft σ p1 p2 p3).1 = 0 → ∀ q9 : Nat, post (S_X6_aircraft σ p1 p2 p3).2.1 (q9, (S_X6_aircraft σ p1 p2 p3).2.2)) (hT : thr = (S_X6_aircraft σ p1 p2 p3).1) : W p l e rm_X6_aircraft s m args below meth c H locs 0 0 (vx_MQ below (va_Qi post (fun u : Nat × St => POB D (grow E u.1) A u.2) A) (XT D E σ A thr) args s 10 60 A) (F0 m 0 ls []) := by
  refine lv_iload_n C.x C.b dX6_aircraft_0 rfl (lv_at hl 1 rfl) ?_
  refine lv_bipush (v := 10) C.x C.b dX6_aircraft_1 (by decide) ?_
  refine lv_bipush (v := 80) C.x C.b dX6_aircraft_3 (by decide) ?_
  refine cxSv (As := [.int p1, .int 10, .int 80]) (rest := []) C h (M_X6_requireRange l hfl D E _ ok p1 10 80) cw_X6_43 m_st_X6_requireRange rfl rfl ⟨Nat.le_of_ble_eq_true rfl, Nat.le_of_ble_eq_true rfl⟩ hl rfl (Nat.le_of_ble_eq_true rfl) dX6_aircraft_5 ⟨Nat.le_of_ble_eq_true rfl, Nat.le_of_ble_eq_true rfl⟩ (fun q1k0 ce q9 H locs q1k q1e h h1 h2 h3 => ?_) (fun u H locs q1w h => ?_)
  · exact goX C h hex q1k (hT.trans ((congrArg (fun z : Nat × Int32 × St => z.1) (if_neg (fun z => q1k (q1e.symm.trans z)))).trans q1e)) h1 h2 h3 (Nat.le_of_ble_eq_true rfl) (Nat.le_of_ble_eq_true rfl)
  · skip
    obtain ⟨c2, rfl⟩ := q1w
    refine lv_iload_n C.x C.b dX6_aircraft_8 rfl (lv_at hl 2 rfl) ?_
    refine lv_iconst (v := 0) C.x C.b dX6_aircraft_9 (by decide) ?_
    refine lv_sipush (v := 2000) C.x C.b dX6_aircraft_10 (by decide) ?_
    refine cxSv (As := [.int p2, .int 0, .int 2000]) (rest := []) C h (M_X6_requireRange l hfl D E _ ok p2 0 2000) cw_X6_43 m_st_X6_requireRange rfl rfl ⟨Nat.le_of_ble_eq_true rfl, Nat.le_of_ble_eq_true rfl⟩ hl rfl (Nat.le_of_ble_eq_true rfl) dX6_aircraft_13 ⟨Nat.le_of_ble_eq_true rfl, Nat.le_of_ble_eq_true rfl⟩ (fun q3k0 ce q9 H locs q3k q3e h h1 h2 h3 => ?_) (fun u H locs q3w h => ?_)
    · exact goX C h hex q3k (hT.trans ((congrArg (fun z : Nat × Int32 × St => z.1) ((if_pos c2).trans (if_neg (fun z => q3k (q3e.symm.trans z))))).trans q3e)) h1 h2 h3 (Nat.le_of_ble_eq_true rfl) (Nat.le_of_ble_eq_true rfl)
    · skip
      obtain ⟨c4, rfl⟩ := q3w
      refine lv_iload_n C.x C.b dX6_aircraft_16 rfl (lv_at hl 3 rfl) ?_
      refine lv_iconst (v := 0) C.x C.b dX6_aircraft_17 (by decide) ?_
      refine lv_sipush (v := 2000) C.x C.b dX6_aircraft_18 (by decide) ?_
      refine cxSv (As := [.int p3, .int 0, .int 2000]) (rest := []) C h (M_X6_requireRange l hfl D E _ ok p3 0 2000) cw_X6_43 m_st_X6_requireRange rfl rfl ⟨Nat.le_of_ble_eq_true rfl, Nat.le_of_ble_eq_true rfl⟩ hl rfl (Nat.le_of_ble_eq_true rfl) dX6_aircraft_21 ⟨Nat.le_of_ble_eq_true rfl, Nat.le_of_ble_eq_true rfl⟩ (fun q5k0 ce q9 H locs q5k q5e h h1 h2 h3 => ?_) (fun u H locs q5w h => ?_)
      · exact goX C h hex q5k (hT.trans ((congrArg (fun z : Nat × Int32 × St => z.1) ((if_pos c2).trans ((if_pos c4).trans (if_neg (fun z => q5k (q5e.symm.trans z)))))).trans q5e)) h1 h2 h3 (Nat.le_of_ble_eq_true rfl) (Nat.le_of_ble_eq_true rfl)
      · skip
        obtain ⟨c6, rfl⟩ := q5w
        refine lv_aload_n C.x C.b dX6_aircraft_24 rfl (lv_at hl 0 rfl) ?_
        refine g_X6_108 C h dX6_aircraft_25 ?_
        refine lv_bipush (v := 20) C.x C.b dX6_aircraft_28 (by decide) ?_
        refine lv_icmp_ge (tgt := 37) C.x C.b dX6_aircraft_30 (by decide) (fun c7 => ?_) (fun c7 => ?_)
        · skip
          refine lv_iconst (v := 0) C.x C.b dX6_aircraft_37 (by decide) ?_
          exact K_X6_aircraft_38 (y0 := 0) hfl C ok (by first | exact Or.inl rfl | exact Or.inr (lt20 ok c7)) h hr hex (lv_sub hl [0, 1, 2, 3] rfl) (Eq.mp (congrArg (fun z : Nat × Int32 × St => (z.1 = 0 → ∀ q9 : Nat, post z.2.1 (q9, z.2.2))) ((if_pos c2).trans ((if_pos c4).trans ((if_pos c6).trans (if_pos c7))))) hp) (hT.trans (congrArg (fun z : Nat × Int32 × St => z.1) ((if_pos c2).trans ((if_pos c4).trans ((if_pos c6).trans (if_pos c7))))))
        · skip
          refine lv_iconst (v := 1) C.x C.b dX6_aircraft_33 (by decide) ?_
          refine lv_goto (tgt := 38) C.x C.b dX6_aircraft_34 (by decide) ?_
          exact K_X6_aircraft_38 (y0 := 1) hfl C ok (by first | exact Or.inl rfl | exact Or.inr (lt20 ok c7)) h hr hex (lv_sub hl [0, 1, 2, 3] rfl) (Eq.mp (congrArg (fun z : Nat × Int32 × St => (z.1 = 0 → ∀ q9 : Nat, post z.2.1 (q9, z.2.2))) ((if_pos c2).trans ((if_pos c4).trans ((if_pos c6).trans (if_neg c7))))) hp) (hT.trans (congrArg (fun z : Nat × Int32 × St => z.1) ((if_pos c2).trans ((if_pos c4).trans ((if_pos c6).trans (if_neg c7))))))
theorem M_X6_aircraft (l : Launch) (hfl : l.stackTraces = false) (D : va_G) (E : En) (σ : St) (ok : OK E σ) (p1 : Int32) (p2 : Int32) (p3 : Int32) : CT l yX6_aircraft cX6_aircraft 5 (some .int) rm_X6_aircraft [.ref (ead E 0), .int p1, .int p2, .int p3] D E σ (fun A => va_Qi (fun r (u : Nat × St) => (S_X6_aircraft σ p1 p2 p3).1 = 0 ∧ (S_X6_aircraft σ p1 p2 p3).2.1 = r ∧ (S_X6_aircraft σ p1 p2 p3).2.2 = u.2) (fun u : Nat × St => POB D (grow E u.1) A u.2) A) (S_X6_aircraft σ p1 p2 p3).1 10 60 :=
  CT.of RX6 (by decide +kernel) rfl (Nat.le_of_ble_eq_true rfl) (fun p e s m below meth c A ls C h hr hex hl => K_X6_aircraft_0 hfl C ok h hr hex hl (fun q q9 => ⟨q, rfl, rfl⟩) rfl)
